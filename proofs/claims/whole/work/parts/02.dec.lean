theorem dX0_init_0 : decode cX0_init 0 = .ok (.aload_n 0, 1) := by decide +kernel
theorem dX0_init_1 : decode cX0_init 1 = .ok (.invokespecial 1, 3) := by decide +kernel
theorem dX0_init_4 : decode cX0_init 4 = .ok (.aload_n 0, 1) := by decide +kernel
theorem dX0_init_5 : decode cX0_init 5 = .ok (.iconst 1, 1) := by decide +kernel
theorem dX0_init_6 : decode cX0_init 6 = .ok (.putfield 7, 3) := by decide +kernel
theorem dX0_init_9 : decode cX0_init 9 = .ok (.aload_n 0, 1) := by decide +kernel
theorem dX0_init_10 : decode cX0_init 10 = .ok (.iconst 1, 1) := by decide +kernel
theorem dX0_init_11 : decode cX0_init 11 = .ok (.putfield 13, 3) := by decide +kernel
theorem dX0_init_14 : decode cX0_init 14 = .ok (.aload_n 0, 1) := by decide +kernel
theorem dX0_init_15 : decode cX0_init 15 = .ok (.iconst 0, 1) := by decide +kernel
theorem dX0_init_16 : decode cX0_init 16 = .ok (.putfield 17, 3) := by decide +kernel
theorem dX0_init_19 : decode cX0_init 19 = .ok (.aload_n 0, 1) := by decide +kernel
theorem dX0_init_20 : decode cX0_init 20 = .ok (.iconst 0, 1) := by decide +kernel
theorem dX0_init_21 : decode cX0_init 21 = .ok (.putfield 20, 3) := by decide +kernel
theorem dX0_init_24 : decode cX0_init 24 = .ok (.aload_n 0, 1) := by decide +kernel
theorem dX0_init_25 : decode cX0_init 25 = .ok (.iconst 0, 1) := by decide +kernel
theorem dX0_init_26 : decode cX0_init 26 = .ok (.putfield 23, 3) := by decide +kernel
theorem dX0_init_29 : decode cX0_init 29 = .ok (.aload_n 0, 1) := by decide +kernel
theorem dX0_init_30 : decode cX0_init 30 = .ok (.iload_n 1, 1) := by decide +kernel
theorem dX0_init_31 : decode cX0_init 31 = .ok (.putfield 26, 3) := by decide +kernel
theorem dX0_init_34 : decode cX0_init 34 = .ok (.aload_n 0, 1) := by decide +kernel
theorem dX0_init_35 : decode cX0_init 35 = .ok (.iload_n 2, 1) := by decide +kernel
theorem dX0_init_36 : decode cX0_init 36 = .ok (.putfield 29, 3) := by decide +kernel
theorem dX0_init_39 : decode cX0_init 39 = .ok (.aload_n 0, 1) := by decide +kernel
theorem dX0_init_40 : decode cX0_init 40 = .ok (.aload_n 3, 1) := by decide +kernel
theorem dX0_init_41 : decode cX0_init 41 = .ok (.putfield 32, 3) := by decide +kernel
theorem dX0_init_44 : decode cX0_init 44 = .ok (.aload_n 0, 1) := by decide +kernel
theorem dX0_init_45 : decode cX0_init 45 = .ok (.aload 4, 2) := by decide +kernel
theorem dX0_init_47 : decode cX0_init 47 = .ok (.putfield 36, 3) := by decide +kernel
theorem dX0_init_50 : decode cX0_init 50 = .ok (.return_, 1) := by decide +kernel
theorem dX0_strike_0 : decode cX0_strike 0 = .ok (.aload_n 0, 1) := by decide +kernel
theorem dX0_strike_1 : decode cX0_strike 1 = .ok (.dup, 1) := by decide +kernel
theorem dX0_strike_2 : decode cX0_strike 2 = .ok (.getfield 17, 3) := by decide +kernel
theorem dX0_strike_5 : decode cX0_strike 5 = .ok (.iconst 1, 1) := by decide +kernel
theorem dX0_strike_6 : decode cX0_strike 6 = .ok (.iadd, 1) := by decide +kernel
theorem dX0_strike_7 : decode cX0_strike 7 = .ok (.putfield 17, 3) := by decide +kernel
theorem dX0_strike_10 : decode cX0_strike 10 = .ok (.aload_n 0, 1) := by decide +kernel
theorem dX0_strike_11 : decode cX0_strike 11 = .ok (.getfield 17, 3) := by decide +kernel
theorem dX0_strike_14 : decode cX0_strike 14 = .ok (.aload_n 0, 1) := by decide +kernel
theorem dX0_strike_15 : decode cX0_strike 15 = .ok (.getfield 13, 3) := by decide +kernel
theorem dX0_strike_18 : decode cX0_strike 18 = .ok (.if_icmp .ne 8, 3) := by decide +kernel
theorem dX0_strike_21 : decode cX0_strike 21 = .ok (.aload_n 0, 1) := by decide +kernel
theorem dX0_strike_22 : decode cX0_strike 22 = .ok (.iconst 0, 1) := by decide +kernel
theorem dX0_strike_23 : decode cX0_strike 23 = .ok (.putfield 7, 3) := by decide +kernel
theorem dX0_strike_26 : decode cX0_strike 26 = .ok (.return_, 1) := by decide +kernel
theorem dX1_init_0 : decode cX1_init 0 = .ok (.aload_n 0, 1) := by decide +kernel
theorem dX1_init_1 : decode cX1_init 1 = .ok (.invokespecial 3, 3) := by decide +kernel
theorem dX1_init_4 : decode cX1_init 4 = .ok (.aload_n 0, 1) := by decide +kernel
theorem dX1_init_5 : decode cX1_init 5 = .ok (.bipush 11, 2) := by decide +kernel
theorem dX1_init_7 : decode cX1_init 7 = .ok (.putfield 9, 3) := by decide +kernel
theorem dX1_init_10 : decode cX1_init 10 = .ok (.aload_n 0, 1) := by decide +kernel
theorem dX1_init_11 : decode cX1_init 11 = .ok (.lconst 0, 1) := by decide +kernel
theorem dX1_init_12 : decode cX1_init 12 = .ok (.putfield 15, 3) := by decide +kernel
theorem dX1_init_15 : decode cX1_init 15 = .ok (.aload_n 0, 1) := by decide +kernel
theorem dX1_init_16 : decode cX1_init 16 = .ok (.aconst_null, 1) := by decide +kernel
theorem dX1_init_17 : decode cX1_init 17 = .ok (.putfield 19, 3) := by decide +kernel
theorem dX1_init_20 : decode cX1_init 20 = .ok (.return_, 1) := by decide +kernel
theorem dX1_become_0 : decode cX1_become 0 = .ok (.aload_n 0, 1) := by decide +kernel
theorem dX1_become_1 : decode cX1_become 1 = .ok (.iload_n 1, 1) := by decide +kernel
theorem dX1_become_2 : decode cX1_become 2 = .ok (.putfield 9, 3) := by decide +kernel
theorem dX1_become_5 : decode cX1_become 5 = .ok (.aload_n 0, 1) := by decide +kernel
theorem dX1_become_6 : decode cX1_become 6 = .ok (.lload_n 2, 1) := by decide +kernel
theorem dX1_become_7 : decode cX1_become 7 = .ok (.putfield 15, 3) := by decide +kernel
theorem dX1_become_10 : decode cX1_become 10 = .ok (.aload_n 0, 1) := by decide +kernel
theorem dX1_become_11 : decode cX1_become 11 = .ok (.aload 4, 2) := by decide +kernel
theorem dX1_become_13 : decode cX1_become 13 = .ok (.putfield 19, 3) := by decide +kernel
theorem dX1_become_16 : decode cX1_become 16 = .ok (.return_, 1) := by decide +kernel
theorem dX2_init_0 : decode cX2_init 0 = .ok (.aload_n 0, 1) := by decide +kernel
theorem dX2_init_1 : decode cX2_init 1 = .ok (.invokespecial 3, 3) := by decide +kernel
theorem dX2_init_4 : decode cX2_init 4 = .ok (.aload_n 0, 1) := by decide +kernel
theorem dX2_init_5 : decode cX2_init 5 = .ok (.aconst_null, 1) := by decide +kernel
theorem dX2_init_6 : decode cX2_init 6 = .ok (.putfield 9, 3) := by decide +kernel
theorem dX2_init_9 : decode cX2_init 9 = .ok (.aload_n 0, 1) := by decide +kernel
theorem dX2_init_10 : decode cX2_init 10 = .ok (.iconst 0, 1) := by decide +kernel
theorem dX2_init_11 : decode cX2_init 11 = .ok (.putfield 15, 3) := by decide +kernel
theorem dX2_init_14 : decode cX2_init 14 = .ok (.aload_n 0, 1) := by decide +kernel
theorem dX2_init_15 : decode cX2_init 15 = .ok (.iconst 0, 1) := by decide +kernel
theorem dX2_init_16 : decode cX2_init 16 = .ok (.putfield 19, 3) := by decide +kernel
theorem dX2_init_19 : decode cX2_init 19 = .ok (.aload_n 0, 1) := by decide +kernel
theorem dX2_init_20 : decode cX2_init 20 = .ok (.iconst 1, 1) := by decide +kernel
theorem dX2_init_21 : decode cX2_init 21 = .ok (.putfield 23, 3) := by decide +kernel
theorem dX2_init_24 : decode cX2_init 24 = .ok (.aload_n 0, 1) := by decide +kernel
theorem dX2_init_25 : decode cX2_init 25 = .ok (.iconst 0, 1) := by decide +kernel
theorem dX2_init_26 : decode cX2_init 26 = .ok (.putfield 26, 3) := by decide +kernel
theorem dX2_init_29 : decode cX2_init 29 = .ok (.aload_n 0, 1) := by decide +kernel
theorem dX2_init_30 : decode cX2_init 30 = .ok (.iload_n 1, 1) := by decide +kernel
theorem dX2_init_31 : decode cX2_init 31 = .ok (.putfield 29, 3) := by decide +kernel
theorem dX2_init_34 : decode cX2_init 34 = .ok (.return_, 1) := by decide +kernel
theorem dX2_hold_0 : decode cX2_hold 0 = .ok (.aload_n 0, 1) := by decide +kernel
theorem dX2_hold_1 : decode cX2_hold 1 = .ok (.aload_n 1, 1) := by decide +kernel
theorem dX2_hold_2 : decode cX2_hold 2 = .ok (.putfield 9, 3) := by decide +kernel
theorem dX2_hold_5 : decode cX2_hold 5 = .ok (.aload_n 0, 1) := by decide +kernel
theorem dX2_hold_6 : decode cX2_hold 6 = .ok (.iload_n 2, 1) := by decide +kernel
theorem dX2_hold_7 : decode cX2_hold 7 = .ok (.putfield 15, 3) := by decide +kernel
theorem dX2_hold_10 : decode cX2_hold 10 = .ok (.return_, 1) := by decide +kernel
theorem dX2_has_0 : decode cX2_has 0 = .ok (.aload_n 0, 1) := by decide +kernel
theorem dX2_has_1 : decode cX2_has 1 = .ok (.getfield 9, 3) := by decide +kernel
theorem dX2_has_4 : decode cX2_has 4 = .ok (.ifnull 5, 3) := by decide +kernel
theorem dX2_has_7 : decode cX2_has 7 = .ok (.iconst 1, 1) := by decide +kernel
theorem dX2_has_8 : decode cX2_has 8 = .ok (.ireturn, 1) := by decide +kernel
theorem dX2_has_9 : decode cX2_has 9 = .ok (.aload_n 0, 1) := by decide +kernel
theorem dX2_has_10 : decode cX2_has 10 = .ok (.getfield 15, 3) := by decide +kernel
theorem dX2_has_13 : decode cX2_has 13 = .ok (.ifCond .eq 7, 3) := by decide +kernel
theorem dX2_has_16 : decode cX2_has 16 = .ok (.iconst 2, 1) := by decide +kernel
theorem dX2_has_17 : decode cX2_has 17 = .ok (.goto 4, 3) := by decide +kernel
theorem dX2_has_20 : decode cX2_has 20 = .ok (.iconst 0, 1) := by decide +kernel
theorem dX2_has_21 : decode cX2_has 21 = .ok (.ireturn, 1) := by decide +kernel
theorem dX2_refusalWithoutTape_0 : decode cX2_refusalWithoutTape 0 = .ok (.aload_n 0, 1) := by decide +kernel
theorem dX2_refusalWithoutTape_1 : decode cX2_refusalWithoutTape 1 = .ok (.getfield 15, 3) := by decide +kernel
theorem dX2_refusalWithoutTape_4 : decode cX2_refusalWithoutTape 4 = .ok (.ifCond .eq 7, 3) := by decide +kernel
theorem dX2_refusalWithoutTape_7 : decode cX2_refusalWithoutTape 7 = .ok (.iconst 2, 1) := by decide +kernel
theorem dX2_refusalWithoutTape_8 : decode cX2_refusalWithoutTape 8 = .ok (.goto 4, 3) := by decide +kernel
theorem dX2_refusalWithoutTape_11 : decode cX2_refusalWithoutTape 11 = .ok (.iconst 1, 1) := by decide +kernel
theorem dX2_refusalWithoutTape_12 : decode cX2_refusalWithoutTape 12 = .ok (.ireturn, 1) := by decide +kernel
theorem dX2_refusalOfPlain_0 : decode cX2_refusalOfPlain 0 = .ok (.aload_n 0, 1) := by decide +kernel
theorem dX2_refusalOfPlain_1 : decode cX2_refusalOfPlain 1 = .ok (.getfield 9, 3) := by decide +kernel
theorem dX2_refusalOfPlain_4 : decode cX2_refusalOfPlain 4 = .ok (.ifnonnull 8, 3) := by decide +kernel
theorem dX2_refusalOfPlain_7 : decode cX2_refusalOfPlain 7 = .ok (.aload_n 0, 1) := by decide +kernel
theorem dX2_refusalOfPlain_8 : decode cX2_refusalOfPlain 8 = .ok (.invokevirtual 32, 3) := by decide +kernel
theorem dX2_refusalOfPlain_11 : decode cX2_refusalOfPlain 11 = .ok (.ireturn, 1) := by decide +kernel
theorem dX2_refusalOfPlain_12 : decode cX2_refusalOfPlain 12 = .ok (.aload_n 0, 1) := by decide +kernel
theorem dX2_refusalOfPlain_13 : decode cX2_refusalOfPlain 13 = .ok (.getfield 9, 3) := by decide +kernel
theorem dX2_refusalOfPlain_16 : decode cX2_refusalOfPlain 16 = .ok (.getfield 36, 3) := by decide +kernel
theorem dX2_refusalOfPlain_19 : decode cX2_refusalOfPlain 19 = .ok (.invokestatic 41, 3) := by decide +kernel
theorem dX2_refusalOfPlain_22 : decode cX2_refusalOfPlain 22 = .ok (.ifCond .eq 7, 3) := by decide +kernel
theorem dX2_refusalOfPlain_25 : decode cX2_refusalOfPlain 25 = .ok (.iconst 0, 1) := by decide +kernel
theorem dX2_refusalOfPlain_26 : decode cX2_refusalOfPlain 26 = .ok (.goto 4, 3) := by decide +kernel
theorem dX2_refusalOfPlain_29 : decode cX2_refusalOfPlain 29 = .ok (.iconst 2, 1) := by decide +kernel
theorem dX2_refusalOfPlain_30 : decode cX2_refusalOfPlain 30 = .ok (.ireturn, 1) := by decide +kernel
theorem dX2_read_0 : decode cX2_read 0 = .ok (.aload_n 0, 1) := by decide +kernel
theorem dX2_read_1 : decode cX2_read 1 = .ok (.getfield 9, 3) := by decide +kernel
theorem dX2_read_4 : decode cX2_read 4 = .ok (.ifnonnull 10, 3) := by decide +kernel
theorem dX2_read_7 : decode cX2_read 7 = .ok (.aload_n 0, 1) := by decide +kernel
theorem dX2_read_8 : decode cX2_read 8 = .ok (.invokevirtual 32, 3) := by decide +kernel
theorem dX2_read_11 : decode cX2_read 11 = .ok (.goto 12, 3) := by decide +kernel
theorem dX2_read_14 : decode cX2_read 14 = .ok (.aload_n 0, 1) := by decide +kernel
theorem dX2_read_15 : decode cX2_read 15 = .ok (.getfield 9, 3) := by decide +kernel
theorem dX2_read_18 : decode cX2_read 18 = .ok (.iload_n 1, 1) := by decide +kernel
theorem dX2_read_19 : decode cX2_read 19 = .ok (.aload_n 2, 1) := by decide +kernel
theorem dX2_read_20 : decode cX2_read 20 = .ok (.invokevirtual 45, 3) := by decide +kernel
theorem dX2_read_23 : decode cX2_read 23 = .ok (.ireturn, 1) := by decide +kernel
theorem dX2_write_0 : decode cX2_write 0 = .ok (.aload_n 0, 1) := by decide +kernel
theorem dX2_write_1 : decode cX2_write 1 = .ok (.getfield 9, 3) := by decide +kernel
theorem dX2_write_4 : decode cX2_write 4 = .ok (.ifnonnull 10, 3) := by decide +kernel
theorem dX2_write_7 : decode cX2_write 7 = .ok (.aload_n 0, 1) := by decide +kernel
theorem dX2_write_8 : decode cX2_write 8 = .ok (.invokevirtual 32, 3) := by decide +kernel
theorem dX2_write_11 : decode cX2_write 11 = .ok (.goto 12, 3) := by decide +kernel
theorem dX2_write_14 : decode cX2_write 14 = .ok (.aload_n 0, 1) := by decide +kernel
theorem dX2_write_15 : decode cX2_write 15 = .ok (.getfield 9, 3) := by decide +kernel
theorem dX2_write_18 : decode cX2_write 18 = .ok (.iload_n 1, 1) := by decide +kernel
theorem dX2_write_19 : decode cX2_write 19 = .ok (.aload_n 2, 1) := by decide +kernel
theorem dX2_write_20 : decode cX2_write 20 = .ok (.invokevirtual 49, 3) := by decide +kernel
theorem dX2_write_23 : decode cX2_write 23 = .ok (.ireturn, 1) := by decide +kernel
theorem dX2_asCell_0 : decode cX2_asCell 0 = .ok (.aload_n 0, 1) := by decide +kernel
theorem dX2_asCell_1 : decode cX2_asCell 1 = .ok (.getfield 9, 3) := by decide +kernel
theorem dX2_asCell_4 : decode cX2_asCell 4 = .ok (.ifnull 35, 3) := by decide +kernel
theorem dX2_asCell_7 : decode cX2_asCell 7 = .ok (.aload_n 0, 1) := by decide +kernel
theorem dX2_asCell_8 : decode cX2_asCell 8 = .ok (.getfield 9, 3) := by decide +kernel
theorem dX2_asCell_11 : decode cX2_asCell 11 = .ok (.getfield 36, 3) := by decide +kernel
theorem dX2_asCell_14 : decode cX2_asCell 14 = .ok (.iconst 4, 1) := by decide +kernel
theorem dX2_asCell_15 : decode cX2_asCell 15 = .ok (.if_icmp .ne 24, 3) := by decide +kernel
theorem dX2_asCell_18 : decode cX2_asCell 18 = .ok (.aload_n 1, 1) := by decide +kernel
theorem dX2_asCell_19 : decode cX2_asCell 19 = .ok (.bipush 10, 2) := by decide +kernel
theorem dX2_asCell_21 : decode cX2_asCell 21 = .ok (.aload_n 0, 1) := by decide +kernel
theorem dX2_asCell_22 : decode cX2_asCell 22 = .ok (.getfield 9, 3) := by decide +kernel
theorem dX2_asCell_25 : decode cX2_asCell 25 = .ok (.getfield 52, 3) := by decide +kernel
theorem dX2_asCell_28 : decode cX2_asCell 28 = .ok (.i2l, 1) := by decide +kernel
theorem dX2_asCell_29 : decode cX2_asCell 29 = .ok (.aload_n 0, 1) := by decide +kernel
theorem dX2_asCell_30 : decode cX2_asCell 30 = .ok (.getfield 9, 3) := by decide +kernel
theorem dX2_asCell_33 : decode cX2_asCell 33 = .ok (.invokevirtual 55, 3) := by decide +kernel
theorem dX2_asCell_36 : decode cX2_asCell 36 = .ok (.goto 29, 3) := by decide +kernel
theorem dX2_asCell_39 : decode cX2_asCell 39 = .ok (.aload_n 0, 1) := by decide +kernel
theorem dX2_asCell_40 : decode cX2_asCell 40 = .ok (.invokevirtual 61, 3) := by decide +kernel
theorem dX2_asCell_43 : decode cX2_asCell 43 = .ok (.ifCond .ne 14, 3) := by decide +kernel
theorem dX2_asCell_46 : decode cX2_asCell 46 = .ok (.aload_n 1, 1) := by decide +kernel
theorem dX2_asCell_47 : decode cX2_asCell 47 = .ok (.bipush 11, 2) := by decide +kernel
theorem dX2_asCell_49 : decode cX2_asCell 49 = .ok (.lconst 0, 1) := by decide +kernel
theorem dX2_asCell_50 : decode cX2_asCell 50 = .ok (.aconst_null, 1) := by decide +kernel
theorem dX2_asCell_51 : decode cX2_asCell 51 = .ok (.invokevirtual 55, 3) := by decide +kernel
theorem dX2_asCell_54 : decode cX2_asCell 54 = .ok (.goto 11, 3) := by decide +kernel
theorem dX2_asCell_57 : decode cX2_asCell 57 = .ok (.aload_n 1, 1) := by decide +kernel
theorem dX2_asCell_58 : decode cX2_asCell 58 = .ok (.bipush 12, 2) := by decide +kernel
theorem dX2_asCell_60 : decode cX2_asCell 60 = .ok (.lconst 0, 1) := by decide +kernel
theorem dX2_asCell_61 : decode cX2_asCell 61 = .ok (.aconst_null, 1) := by decide +kernel
theorem dX2_asCell_62 : decode cX2_asCell 62 = .ok (.invokevirtual 55, 3) := by decide +kernel
theorem dX2_asCell_65 : decode cX2_asCell 65 = .ok (.return_, 1) := by decide +kernel
theorem dX3_init_0 : decode cX3_init 0 = .ok (.aload_n 0, 1) := by decide +kernel
theorem dX3_init_1 : decode cX3_init 1 = .ok (.invokespecial 3, 3) := by decide +kernel
theorem dX3_init_4 : decode cX3_init 4 = .ok (.aload_n 0, 1) := by decide +kernel
theorem dX3_init_5 : decode cX3_init 5 = .ok (.iload_n 1, 1) := by decide +kernel
theorem dX3_init_6 : decode cX3_init 6 = .ok (.putfield 9, 3) := by decide +kernel
theorem dX3_init_9 : decode cX3_init 9 = .ok (.aload_n 0, 1) := by decide +kernel
theorem dX3_init_10 : decode cX3_init 10 = .ok (.iload_n 2, 1) := by decide +kernel
theorem dX3_init_11 : decode cX3_init 11 = .ok (.putfield 15, 3) := by decide +kernel
theorem dX3_init_14 : decode cX3_init 14 = .ok (.aload_n 0, 1) := by decide +kernel
theorem dX3_init_15 : decode cX3_init 15 = .ok (.iload_n 2, 1) := by decide +kernel
theorem dX3_init_16 : decode cX3_init 16 = .ok (.newarray .int, 2) := by decide +kernel
theorem dX3_init_18 : decode cX3_init 18 = .ok (.putfield 18, 3) := by decide +kernel
theorem dX3_init_21 : decode cX3_init 21 = .ok (.aload_n 0, 1) := by decide +kernel
theorem dX3_init_22 : decode cX3_init 22 = .ok (.iload_n 2, 1) := by decide +kernel
theorem dX3_init_23 : decode cX3_init 23 = .ok (.newarray .long, 2) := by decide +kernel
theorem dX3_init_25 : decode cX3_init 25 = .ok (.putfield 22, 3) := by decide +kernel
theorem dX3_init_28 : decode cX3_init 28 = .ok (.aload_n 0, 1) := by decide +kernel
theorem dX3_init_29 : decode cX3_init 29 = .ok (.iload_n 2, 1) := by decide +kernel
theorem dX3_init_30 : decode cX3_init 30 = .ok (.anewarray 10, 3) := by decide +kernel
theorem dX3_init_33 : decode cX3_init 33 = .ok (.putfield 26, 3) := by decide +kernel
theorem dX3_init_36 : decode cX3_init 36 = .ok (.iconst 0, 1) := by decide +kernel
theorem dX3_init_37 : decode cX3_init 37 = .ok (.istore_n 3, 1) := by decide +kernel
theorem dX3_init_38 : decode cX3_init 38 = .ok (.iload_n 3, 1) := by decide +kernel
theorem dX3_init_39 : decode cX3_init 39 = .ok (.iload_n 2, 1) := by decide +kernel
theorem dX3_init_40 : decode cX3_init 40 = .ok (.if_icmp .ge 28, 3) := by decide +kernel
theorem dX3_init_43 : decode cX3_init 43 = .ok (.aload_n 0, 1) := by decide +kernel
theorem dX3_init_44 : decode cX3_init 44 = .ok (.getfield 18, 3) := by decide +kernel
theorem dX3_init_47 : decode cX3_init 47 = .ok (.iload_n 3, 1) := by decide +kernel
theorem dX3_init_48 : decode cX3_init 48 = .ok (.iload_n 1, 1) := by decide +kernel
theorem dX3_init_49 : decode cX3_init 49 = .ok (.invokestatic 30, 3) := by decide +kernel
theorem dX3_init_52 : decode cX3_init 52 = .ok (.ifCond .eq 7, 3) := by decide +kernel
theorem dX3_init_55 : decode cX3_init 55 = .ok (.iload_n 1, 1) := by decide +kernel
theorem dX3_init_56 : decode cX3_init 56 = .ok (.goto 5, 3) := by decide +kernel
theorem dX3_init_59 : decode cX3_init 59 = .ok (.bipush 11, 2) := by decide +kernel
theorem dX3_init_61 : decode cX3_init 61 = .ok (.iastore, 1) := by decide +kernel
theorem dX3_init_62 : decode cX3_init 62 = .ok (.iinc 3 1, 3) := by decide +kernel
theorem dX3_init_65 : decode cX3_init 65 = .ok (.goto (-27), 3) := by decide +kernel
theorem dX3_init_68 : decode cX3_init 68 = .ok (.return_, 1) := by decide +kernel
theorem dX3_copyTo_0 : decode cX3_copyTo 0 = .ok (.iload_n 1, 1) := by decide +kernel
theorem dX3_copyTo_1 : decode cX3_copyTo 1 = .ok (.ifCond .lt 11, 3) := by decide +kernel
theorem dX3_copyTo_4 : decode cX3_copyTo 4 = .ok (.iload_n 1, 1) := by decide +kernel
theorem dX3_copyTo_5 : decode cX3_copyTo 5 = .ok (.aload_n 0, 1) := by decide +kernel
theorem dX3_copyTo_6 : decode cX3_copyTo 6 = .ok (.getfield 15, 3) := by decide +kernel
theorem dX3_copyTo_9 : decode cX3_copyTo 9 = .ok (.if_icmp .lt 5, 3) := by decide +kernel
theorem dX3_copyTo_12 : decode cX3_copyTo 12 = .ok (.iconst 3, 1) := by decide +kernel
theorem dX3_copyTo_13 : decode cX3_copyTo 13 = .ok (.ireturn, 1) := by decide +kernel
theorem dX3_copyTo_14 : decode cX3_copyTo 14 = .ok (.aload_n 2, 1) := by decide +kernel
theorem dX3_copyTo_15 : decode cX3_copyTo 15 = .ok (.aload_n 0, 1) := by decide +kernel
theorem dX3_copyTo_16 : decode cX3_copyTo 16 = .ok (.getfield 18, 3) := by decide +kernel
theorem dX3_copyTo_19 : decode cX3_copyTo 19 = .ok (.iload_n 1, 1) := by decide +kernel
theorem dX3_copyTo_20 : decode cX3_copyTo 20 = .ok (.iaload, 1) := by decide +kernel
theorem dX3_copyTo_21 : decode cX3_copyTo 21 = .ok (.aload_n 0, 1) := by decide +kernel
theorem dX3_copyTo_22 : decode cX3_copyTo 22 = .ok (.getfield 22, 3) := by decide +kernel
theorem dX3_copyTo_25 : decode cX3_copyTo 25 = .ok (.iload_n 1, 1) := by decide +kernel
theorem dX3_copyTo_26 : decode cX3_copyTo 26 = .ok (.laload, 1) := by decide +kernel
theorem dX3_copyTo_27 : decode cX3_copyTo 27 = .ok (.aload_n 0, 1) := by decide +kernel
theorem dX3_copyTo_28 : decode cX3_copyTo 28 = .ok (.getfield 26, 3) := by decide +kernel
theorem dX3_copyTo_31 : decode cX3_copyTo 31 = .ok (.iload_n 1, 1) := by decide +kernel
theorem dX3_copyTo_32 : decode cX3_copyTo 32 = .ok (.aaload, 1) := by decide +kernel
theorem dX3_copyTo_33 : decode cX3_copyTo 33 = .ok (.invokevirtual 34, 3) := by decide +kernel
theorem dX3_copyTo_36 : decode cX3_copyTo 36 = .ok (.iconst 0, 1) := by decide +kernel
theorem dX3_copyTo_37 : decode cX3_copyTo 37 = .ok (.ireturn, 1) := by decide +kernel
theorem dX3_accept_0 : decode cX3_accept 0 = .ok (.aload_n 2, 1) := by decide +kernel
theorem dX3_accept_1 : decode cX3_accept 1 = .ok (.getfield 40, 3) := by decide +kernel
theorem dX3_accept_4 : decode cX3_accept 4 = .ok (.bipush 11, 2) := by decide +kernel
theorem dX3_accept_6 : decode cX3_accept 6 = .ok (.if_icmp .ne 15, 3) := by decide +kernel
theorem dX3_accept_9 : decode cX3_accept 9 = .ok (.aload_n 0, 1) := by decide +kernel
theorem dX3_accept_10 : decode cX3_accept 10 = .ok (.getfield 9, 3) := by decide +kernel
theorem dX3_accept_13 : decode cX3_accept 13 = .ok (.invokestatic 30, 3) := by decide +kernel
theorem dX3_accept_16 : decode cX3_accept 16 = .ok (.ifCond .eq 5, 3) := by decide +kernel
theorem dX3_accept_19 : decode cX3_accept 19 = .ok (.iconst 2, 1) := by decide +kernel
theorem dX3_accept_20 : decode cX3_accept 20 = .ok (.ireturn, 1) := by decide +kernel
theorem dX3_accept_21 : decode cX3_accept 21 = .ok (.iload_n 1, 1) := by decide +kernel
theorem dX3_accept_22 : decode cX3_accept 22 = .ok (.ifCond .lt 11, 3) := by decide +kernel
theorem dX3_accept_25 : decode cX3_accept 25 = .ok (.iload_n 1, 1) := by decide +kernel
theorem dX3_accept_26 : decode cX3_accept 26 = .ok (.aload_n 0, 1) := by decide +kernel
theorem dX3_accept_27 : decode cX3_accept 27 = .ok (.getfield 15, 3) := by decide +kernel
theorem dX3_accept_30 : decode cX3_accept 30 = .ok (.if_icmp .lt 5, 3) := by decide +kernel
theorem dX3_accept_33 : decode cX3_accept 33 = .ok (.iconst 3, 1) := by decide +kernel
theorem dX3_accept_34 : decode cX3_accept 34 = .ok (.ireturn, 1) := by decide +kernel
theorem dX3_accept_35 : decode cX3_accept 35 = .ok (.aload_n 0, 1) := by decide +kernel
theorem dX3_accept_36 : decode cX3_accept 36 = .ok (.getfield 9, 3) := by decide +kernel
theorem dX3_accept_39 : decode cX3_accept 39 = .ok (.aload_n 2, 1) := by decide +kernel
theorem dX3_accept_40 : decode cX3_accept 40 = .ok (.getfield 40, 3) := by decide +kernel
theorem dX3_accept_43 : decode cX3_accept 43 = .ok (.invokestatic 41, 3) := by decide +kernel
theorem dX3_accept_46 : decode cX3_accept 46 = .ok (.ifCond .ne 5, 3) := by decide +kernel
theorem dX3_accept_49 : decode cX3_accept 49 = .ok (.iconst 2, 1) := by decide +kernel
theorem dX3_accept_50 : decode cX3_accept 50 = .ok (.ireturn, 1) := by decide +kernel
theorem dX3_accept_51 : decode cX3_accept 51 = .ok (.aload_n 0, 1) := by decide +kernel
theorem dX3_accept_52 : decode cX3_accept 52 = .ok (.getfield 18, 3) := by decide +kernel
theorem dX3_accept_55 : decode cX3_accept 55 = .ok (.iload_n 1, 1) := by decide +kernel
theorem dX3_accept_56 : decode cX3_accept 56 = .ok (.aload_n 0, 1) := by decide +kernel
theorem dX3_accept_57 : decode cX3_accept 57 = .ok (.getfield 9, 3) := by decide +kernel
theorem dX3_accept_60 : decode cX3_accept 60 = .ok (.invokestatic 30, 3) := by decide +kernel
theorem dX3_accept_63 : decode cX3_accept 63 = .ok (.ifCond .eq 10, 3) := by decide +kernel
theorem dX3_accept_66 : decode cX3_accept 66 = .ok (.aload_n 0, 1) := by decide +kernel
theorem dX3_accept_67 : decode cX3_accept 67 = .ok (.getfield 9, 3) := by decide +kernel
theorem dX3_accept_70 : decode cX3_accept 70 = .ok (.goto 7, 3) := by decide +kernel
theorem dX3_accept_73 : decode cX3_accept 73 = .ok (.aload_n 2, 1) := by decide +kernel
theorem dX3_accept_74 : decode cX3_accept 74 = .ok (.getfield 40, 3) := by decide +kernel
theorem dX3_accept_77 : decode cX3_accept 77 = .ok (.iastore, 1) := by decide +kernel
theorem dX3_accept_78 : decode cX3_accept 78 = .ok (.aload_n 0, 1) := by decide +kernel
theorem dX3_accept_79 : decode cX3_accept 79 = .ok (.getfield 22, 3) := by decide +kernel
theorem dX3_accept_82 : decode cX3_accept 82 = .ok (.iload_n 1, 1) := by decide +kernel
theorem dX3_accept_83 : decode cX3_accept 83 = .ok (.aload_n 0, 1) := by decide +kernel
theorem dX3_accept_84 : decode cX3_accept 84 = .ok (.getfield 9, 3) := by decide +kernel
theorem dX3_accept_87 : decode cX3_accept 87 = .ok (.aload_n 2, 1) := by decide +kernel
theorem dX3_accept_88 : decode cX3_accept 88 = .ok (.getfield 45, 3) := by decide +kernel
theorem dX3_accept_91 : decode cX3_accept 91 = .ok (.invokestatic 49, 3) := by decide +kernel
theorem dX3_accept_94 : decode cX3_accept 94 = .ok (.lastore, 1) := by decide +kernel
theorem dX3_accept_95 : decode cX3_accept 95 = .ok (.aload_n 0, 1) := by decide +kernel
theorem dX3_accept_96 : decode cX3_accept 96 = .ok (.getfield 26, 3) := by decide +kernel
theorem dX3_accept_99 : decode cX3_accept 99 = .ok (.iload_n 1, 1) := by decide +kernel
theorem dX3_accept_100 : decode cX3_accept 100 = .ok (.aload_n 2, 1) := by decide +kernel
theorem dX3_accept_101 : decode cX3_accept 101 = .ok (.getfield 53, 3) := by decide +kernel
theorem dX3_accept_104 : decode cX3_accept 104 = .ok (.aastore, 1) := by decide +kernel
theorem dX3_accept_105 : decode cX3_accept 105 = .ok (.iconst 0, 1) := by decide +kernel
theorem dX3_accept_106 : decode cX3_accept 106 = .ok (.ireturn, 1) := by decide +kernel
theorem dX4_init_0 : decode cX4_init 0 = .ok (.aload_n 0, 1) := by decide +kernel
theorem dX4_init_1 : decode cX4_init 1 = .ok (.invokespecial 1, 3) := by decide +kernel
theorem dX4_init_4 : decode cX4_init 4 = .ok (.aload_n 0, 1) := by decide +kernel
theorem dX4_init_5 : decode cX4_init 5 = .ok (.bipush 16, 2) := by decide +kernel
theorem dX4_init_7 : decode cX4_init 7 = .ok (.anewarray 9, 3) := by decide +kernel
theorem dX4_init_10 : decode cX4_init 10 = .ok (.putfield 11, 3) := by decide +kernel
theorem dX4_init_13 : decode cX4_init 13 = .ok (.aload_n 0, 1) := by decide +kernel
theorem dX4_init_14 : decode cX4_init 14 = .ok (.bipush 24, 2) := by decide +kernel
theorem dX4_init_16 : decode cX4_init 16 = .ok (.anewarray 15, 3) := by decide +kernel
theorem dX4_init_19 : decode cX4_init 19 = .ok (.putfield 17, 3) := by decide +kernel
theorem dX4_init_22 : decode cX4_init 22 = .ok (.aload_n 0, 1) := by decide +kernel
theorem dX4_init_23 : decode cX4_init 23 = .ok (.iconst 0, 1) := by decide +kernel
theorem dX4_init_24 : decode cX4_init 24 = .ok (.putfield 21, 3) := by decide +kernel
theorem dX4_init_27 : decode cX4_init 27 = .ok (.aload_n 0, 1) := by decide +kernel
theorem dX4_init_28 : decode cX4_init 28 = .ok (.iconst 0, 1) := by decide +kernel
theorem dX4_init_29 : decode cX4_init 29 = .ok (.putfield 25, 3) := by decide +kernel
theorem dX4_init_32 : decode cX4_init 32 = .ok (.aload_n 0, 1) := by decide +kernel
theorem dX4_init_33 : decode cX4_init 33 = .ok (.iconst 0, 1) := by decide +kernel
theorem dX4_init_34 : decode cX4_init 34 = .ok (.putfield 28, 3) := by decide +kernel
theorem dX4_init_37 : decode cX4_init 37 = .ok (.aload_n 0, 1) := by decide +kernel
theorem dX4_init_38 : decode cX4_init 38 = .ok (.bipush 20, 2) := by decide +kernel
theorem dX4_init_40 : decode cX4_init 40 = .ok (.iconst 3, 1) := by decide +kernel
theorem dX4_init_41 : decode cX4_init 41 = .ok (.multianewarray 31 2, 4) := by decide +kernel
theorem dX4_init_45 : decode cX4_init 45 = .ok (.putfield 33, 3) := by decide +kernel
theorem dX4_init_48 : decode cX4_init 48 = .ok (.aload_n 0, 1) := by decide +kernel
theorem dX4_init_49 : decode cX4_init 49 = .ok (.iconst 0, 1) := by decide +kernel
theorem dX4_init_50 : decode cX4_init 50 = .ok (.putfield 36, 3) := by decide +kernel
theorem dX4_init_53 : decode cX4_init 53 = .ok (.aload_n 0, 1) := by decide +kernel
theorem dX4_init_54 : decode cX4_init 54 = .ok (.bipush 6, 2) := by decide +kernel
theorem dX4_init_56 : decode cX4_init 56 = .ok (.newarray .int, 2) := by decide +kernel
theorem dX4_init_58 : decode cX4_init 58 = .ok (.putfield 39, 3) := by decide +kernel
theorem dX4_init_61 : decode cX4_init 61 = .ok (.aload_n 0, 1) := by decide +kernel
theorem dX4_init_62 : decode cX4_init 62 = .ok (.iconst 0, 1) := by decide +kernel
theorem dX4_init_63 : decode cX4_init 63 = .ok (.putfield 43, 3) := by decide +kernel
theorem dX4_init_66 : decode cX4_init 66 = .ok (.aload_n 0, 1) := by decide +kernel
theorem dX4_init_67 : decode cX4_init 67 = .ok (.new 46, 3) := by decide +kernel
theorem dX4_init_70 : decode cX4_init 70 = .ok (.dup, 1) := by decide +kernel
theorem dX4_init_71 : decode cX4_init 71 = .ok (.invokespecial 48, 3) := by decide +kernel
theorem dX4_init_74 : decode cX4_init 74 = .ok (.putfield 49, 3) := by decide +kernel
theorem dX4_init_77 : decode cX4_init 77 = .ok (.aload_n 0, 1) := by decide +kernel
theorem dX4_init_78 : decode cX4_init 78 = .ok (.new 46, 3) := by decide +kernel
theorem dX4_init_81 : decode cX4_init 81 = .ok (.dup, 1) := by decide +kernel
theorem dX4_init_82 : decode cX4_init 82 = .ok (.invokespecial 48, 3) := by decide +kernel
theorem dX4_init_85 : decode cX4_init 85 = .ok (.putfield 53, 3) := by decide +kernel
theorem dX4_init_88 : decode cX4_init 88 = .ok (.iconst 0, 1) := by decide +kernel
theorem dX4_init_89 : decode cX4_init 89 = .ok (.istore_n 1, 1) := by decide +kernel
theorem dX4_init_90 : decode cX4_init 90 = .ok (.iload_n 1, 1) := by decide +kernel
theorem dX4_init_91 : decode cX4_init 91 = .ok (.bipush 16, 2) := by decide +kernel
theorem dX4_init_93 : decode cX4_init 93 = .ok (.if_icmp .ge 23, 3) := by decide +kernel
theorem dX4_init_96 : decode cX4_init 96 = .ok (.aload_n 0, 1) := by decide +kernel
theorem dX4_init_97 : decode cX4_init 97 = .ok (.getfield 11, 3) := by decide +kernel
theorem dX4_init_100 : decode cX4_init 100 = .ok (.iload_n 1, 1) := by decide +kernel
theorem dX4_init_101 : decode cX4_init 101 = .ok (.new 9, 3) := by decide +kernel
theorem dX4_init_104 : decode cX4_init 104 = .ok (.dup, 1) := by decide +kernel
theorem dX4_init_105 : decode cX4_init 105 = .ok (.iload_n 1, 1) := by decide +kernel
theorem dX4_init_106 : decode cX4_init 106 = .ok (.invokespecial 56, 3) := by decide +kernel
theorem dX4_init_109 : decode cX4_init 109 = .ok (.aastore, 1) := by decide +kernel
theorem dX4_init_110 : decode cX4_init 110 = .ok (.iinc 1 1, 3) := by decide +kernel
theorem dX4_init_113 : decode cX4_init 113 = .ok (.goto (-23), 3) := by decide +kernel
theorem dX4_init_116 : decode cX4_init 116 = .ok (.return_, 1) := by decide +kernel
theorem dX4_tape_0 : decode cX4_tape 0 = .ok (.aload_n 0, 1) := by decide +kernel
theorem dX4_tape_1 : decode cX4_tape 1 = .ok (.iload_n 1, 1) := by decide +kernel
theorem dX4_tape_2 : decode cX4_tape 2 = .ok (.invokevirtual 59, 3) := by decide +kernel
theorem dX4_tape_5 : decode cX4_tape 5 = .ok (.astore 4, 2) := by decide +kernel
theorem dX4_tape_7 : decode cX4_tape 7 = .ok (.aload 4, 2) := by decide +kernel
theorem dX4_tape_9 : decode cX4_tape 9 = .ok (.ifnull 16, 3) := by decide +kernel
theorem dX4_tape_12 : decode cX4_tape 12 = .ok (.iload_n 2, 1) := by decide +kernel
theorem dX4_tape_13 : decode cX4_tape 13 = .ok (.invokestatic 63, 3) := by decide +kernel
theorem dX4_tape_16 : decode cX4_tape 16 = .ok (.ifCond .eq 9, 3) := by decide +kernel
theorem dX4_tape_19 : decode cX4_tape 19 = .ok (.iload_n 3, 1) := by decide +kernel
theorem dX4_tape_20 : decode cX4_tape 20 = .ok (.bipush 32, 2) := by decide +kernel
theorem dX4_tape_22 : decode cX4_tape 22 = .ok (.if_icmp .le 5, 3) := by decide +kernel
theorem dX4_tape_25 : decode cX4_tape 25 = .ok (.iconst (-1), 1) := by decide +kernel
theorem dX4_tape_26 : decode cX4_tape 26 = .ok (.ireturn, 1) := by decide +kernel
theorem dX4_tape_27 : decode cX4_tape 27 = .ok (.iload_n 3, 1) := by decide +kernel
theorem dX4_tape_28 : decode cX4_tape 28 = .ok (.ifCond .ge 10, 3) := by decide +kernel
theorem dX4_tape_31 : decode cX4_tape 31 = .ok (.aload_n 0, 1) := by decide +kernel
theorem dX4_tape_32 : decode cX4_tape 32 = .ok (.iconst 5, 1) := by decide +kernel
theorem dX4_tape_33 : decode cX4_tape 33 = .ok (.iconst 0, 1) := by decide +kernel
theorem dX4_tape_34 : decode cX4_tape 34 = .ok (.invokevirtual 67, 3) := by decide +kernel
theorem dX4_tape_37 : decode cX4_tape 37 = .ok (.ireturn, 1) := by decide +kernel
theorem dX4_tape_38 : decode cX4_tape 38 = .ok (.aload 4, 2) := by decide +kernel
theorem dX4_tape_40 : decode cX4_tape 40 = .ok (.new 71, 3) := by decide +kernel
theorem dX4_tape_43 : decode cX4_tape 43 = .ok (.dup, 1) := by decide +kernel
theorem dX4_tape_44 : decode cX4_tape 44 = .ok (.iload_n 2, 1) := by decide +kernel
theorem dX4_tape_45 : decode cX4_tape 45 = .ok (.iload_n 3, 1) := by decide +kernel
theorem dX4_tape_46 : decode cX4_tape 46 = .ok (.invokespecial 73, 3) := by decide +kernel
theorem dX4_tape_49 : decode cX4_tape 49 = .ok (.iconst 0, 1) := by decide +kernel
theorem dX4_tape_50 : decode cX4_tape 50 = .ok (.invokevirtual 76, 3) := by decide +kernel
theorem dX4_tape_53 : decode cX4_tape 53 = .ok (.aload_n 0, 1) := by decide +kernel
theorem dX4_tape_54 : decode cX4_tape 54 = .ok (.iconst 0, 1) := by decide +kernel
theorem dX4_tape_55 : decode cX4_tape 55 = .ok (.iload_n 3, 1) := by decide +kernel
theorem dX4_tape_56 : decode cX4_tape 56 = .ok (.invokevirtual 67, 3) := by decide +kernel
theorem dX4_tape_59 : decode cX4_tape 59 = .ok (.ireturn, 1) := by decide +kernel
theorem dX4_plug_0 : decode cX4_plug 0 = .ok (.aload_n 0, 1) := by decide +kernel
theorem dX4_plug_1 : decode cX4_plug 1 = .ok (.iload_n 1, 1) := by decide +kernel
theorem dX4_plug_2 : decode cX4_plug 2 = .ok (.iconst 1, 1) := by decide +kernel
theorem dX4_plug_3 : decode cX4_plug 3 = .ok (.invokevirtual 80, 3) := by decide +kernel
theorem dX4_plug_6 : decode cX4_plug 6 = .ok (.ireturn, 1) := by decide +kernel
theorem dX4_strip_0 : decode cX4_strip 0 = .ok (.aload_n 0, 1) := by decide +kernel
theorem dX4_strip_1 : decode cX4_strip 1 = .ok (.iload_n 1, 1) := by decide +kernel
theorem dX4_strip_2 : decode cX4_strip 2 = .ok (.iconst 0, 1) := by decide +kernel
theorem dX4_strip_3 : decode cX4_strip 3 = .ok (.invokevirtual 80, 3) := by decide +kernel
theorem dX4_strip_6 : decode cX4_strip 6 = .ok (.ireturn, 1) := by decide +kernel
theorem dX4_share_0 : decode cX4_share 0 = .ok (.aload_n 0, 1) := by decide +kernel
theorem dX4_share_1 : decode cX4_share 1 = .ok (.iload_n 1, 1) := by decide +kernel
theorem dX4_share_2 : decode cX4_share 2 = .ok (.invokevirtual 59, 3) := by decide +kernel
theorem dX4_share_5 : decode cX4_share 5 = .ok (.astore_n 3, 1) := by decide +kernel
theorem dX4_share_6 : decode cX4_share 6 = .ok (.aload_n 0, 1) := by decide +kernel
theorem dX4_share_7 : decode cX4_share 7 = .ok (.iload_n 2, 1) := by decide +kernel
theorem dX4_share_8 : decode cX4_share 8 = .ok (.invokevirtual 59, 3) := by decide +kernel
theorem dX4_share_11 : decode cX4_share 11 = .ok (.astore 4, 2) := by decide +kernel
theorem dX4_share_13 : decode cX4_share 13 = .ok (.aload_n 3, 1) := by decide +kernel
theorem dX4_share_14 : decode cX4_share 14 = .ok (.ifnull 8, 3) := by decide +kernel
theorem dX4_share_17 : decode cX4_share 17 = .ok (.aload 4, 2) := by decide +kernel
theorem dX4_share_19 : decode cX4_share 19 = .ok (.ifnonnull 5, 3) := by decide +kernel
theorem dX4_share_22 : decode cX4_share 22 = .ok (.iconst (-1), 1) := by decide +kernel
theorem dX4_share_23 : decode cX4_share 23 = .ok (.ireturn, 1) := by decide +kernel
theorem dX4_share_24 : decode cX4_share 24 = .ok (.aload_n 3, 1) := by decide +kernel
theorem dX4_share_25 : decode cX4_share 25 = .ok (.aload 4, 2) := by decide +kernel
theorem dX4_share_27 : decode cX4_share 27 = .ok (.getfield 84, 3) := by decide +kernel
theorem dX4_share_30 : decode cX4_share 30 = .ok (.aload 4, 2) := by decide +kernel
theorem dX4_share_32 : decode cX4_share 32 = .ok (.getfield 88, 3) := by decide +kernel
theorem dX4_share_35 : decode cX4_share 35 = .ok (.invokevirtual 76, 3) := by decide +kernel
theorem dX4_share_38 : decode cX4_share 38 = .ok (.aload_n 3, 1) := by decide +kernel
theorem dX4_share_39 : decode cX4_share 39 = .ok (.invokevirtual 92, 3) := by decide +kernel
theorem dX4_share_42 : decode cX4_share 42 = .ok (.ireturn, 1) := by decide +kernel
theorem dX4_head_0 : decode cX4_head 0 = .ok (.aload_n 0, 1) := by decide +kernel
theorem dX4_head_1 : decode cX4_head 1 = .ok (.iload_n 1, 1) := by decide +kernel
theorem dX4_head_2 : decode cX4_head 2 = .ok (.invokevirtual 59, 3) := by decide +kernel
theorem dX4_head_5 : decode cX4_head 5 = .ok (.astore_n 3, 1) := by decide +kernel
theorem dX4_head_6 : decode cX4_head 6 = .ok (.aload_n 3, 1) := by decide +kernel
theorem dX4_head_7 : decode cX4_head 7 = .ok (.ifnonnull 5, 3) := by decide +kernel
theorem dX4_head_10 : decode cX4_head 10 = .ok (.iconst (-1), 1) := by decide +kernel
theorem dX4_head_11 : decode cX4_head 11 = .ok (.ireturn, 1) := by decide +kernel
theorem dX4_head_12 : decode cX4_head 12 = .ok (.aload_n 3, 1) := by decide +kernel
theorem dX4_head_13 : decode cX4_head 13 = .ok (.iload_n 2, 1) := by decide +kernel
theorem dX4_head_14 : decode cX4_head 14 = .ok (.putfield 96, 3) := by decide +kernel
theorem dX4_head_17 : decode cX4_head 17 = .ok (.iconst 1, 1) := by decide +kernel
theorem dX4_head_18 : decode cX4_head 18 = .ok (.ireturn, 1) := by decide +kernel
theorem dX4_step_0 : decode cX4_step 0 = .ok (.aload_n 0, 1) := by decide +kernel
theorem dX4_step_1 : decode cX4_step 1 = .ok (.iload_n 1, 1) := by decide +kernel
theorem dX4_step_2 : decode cX4_step 2 = .ok (.invokevirtual 59, 3) := by decide +kernel
theorem dX4_step_5 : decode cX4_step 5 = .ok (.astore_n 3, 1) := by decide +kernel
theorem dX4_step_6 : decode cX4_step 6 = .ok (.aload_n 3, 1) := by decide +kernel
theorem dX4_step_7 : decode cX4_step 7 = .ok (.ifnull 14, 3) := by decide +kernel
theorem dX4_step_10 : decode cX4_step 10 = .ok (.iload_n 2, 1) := by decide +kernel
theorem dX4_step_11 : decode cX4_step 11 = .ok (.bipush (-3), 2) := by decide +kernel
theorem dX4_step_13 : decode cX4_step 13 = .ok (.if_icmp .lt 8, 3) := by decide +kernel
theorem dX4_step_16 : decode cX4_step 16 = .ok (.iload_n 2, 1) := by decide +kernel
theorem dX4_step_17 : decode cX4_step 17 = .ok (.iconst 3, 1) := by decide +kernel
theorem dX4_step_18 : decode cX4_step 18 = .ok (.if_icmp .le 5, 3) := by decide +kernel
theorem dX4_step_21 : decode cX4_step 21 = .ok (.iconst (-1), 1) := by decide +kernel
theorem dX4_step_22 : decode cX4_step 22 = .ok (.ireturn, 1) := by decide +kernel
theorem dX4_step_23 : decode cX4_step 23 = .ok (.aload_n 3, 1) := by decide +kernel
theorem dX4_step_24 : decode cX4_step 24 = .ok (.getfield 99, 3) := by decide +kernel
theorem dX4_step_27 : decode cX4_step 27 = .ok (.istore 4, 2) := by decide +kernel
theorem dX4_step_29 : decode cX4_step 29 = .ok (.aload_n 3, 1) := by decide +kernel
theorem dX4_step_30 : decode cX4_step 30 = .ok (.iload_n 2, 1) := by decide +kernel
theorem dX4_step_31 : decode cX4_step 31 = .ok (.putfield 99, 3) := by decide +kernel
theorem dX4_step_34 : decode cX4_step 34 = .ok (.iload 4, 2) := by decide +kernel
theorem dX4_step_36 : decode cX4_step 36 = .ok (.iconst 3, 1) := by decide +kernel
theorem dX4_step_37 : decode cX4_step 37 = .ok (.iadd, 1) := by decide +kernel
theorem dX4_step_38 : decode cX4_step 38 = .ok (.ireturn, 1) := by decide +kernel
theorem dX4_loop_0 : decode cX4_loop 0 = .ok (.aload_n 0, 1) := by decide +kernel
theorem dX4_loop_1 : decode cX4_loop 1 = .ok (.iload_n 1, 1) := by decide +kernel
theorem dX4_loop_2 : decode cX4_loop 2 = .ok (.invokevirtual 59, 3) := by decide +kernel
theorem dX4_loop_5 : decode cX4_loop 5 = .ok (.astore_n 3, 1) := by decide +kernel
theorem dX4_loop_6 : decode cX4_loop 6 = .ok (.aload_n 3, 1) := by decide +kernel
theorem dX4_loop_7 : decode cX4_loop 7 = .ok (.ifnonnull 5, 3) := by decide +kernel
theorem dX4_loop_10 : decode cX4_loop 10 = .ok (.iconst (-1), 1) := by decide +kernel
theorem dX4_loop_11 : decode cX4_loop 11 = .ok (.ireturn, 1) := by decide +kernel
theorem dX4_loop_12 : decode cX4_loop 12 = .ok (.aload_n 3, 1) := by decide +kernel
theorem dX4_loop_13 : decode cX4_loop 13 = .ok (.getfield 102, 3) := by decide +kernel
theorem dX4_loop_16 : decode cX4_loop 16 = .ok (.istore 4, 2) := by decide +kernel
theorem dX4_loop_18 : decode cX4_loop 18 = .ok (.aload_n 3, 1) := by decide +kernel
theorem dX4_loop_19 : decode cX4_loop 19 = .ok (.iload_n 2, 1) := by decide +kernel
theorem dX4_loop_20 : decode cX4_loop 20 = .ok (.putfield 102, 3) := by decide +kernel
theorem dX4_loop_23 : decode cX4_loop 23 = .ok (.iload 4, 2) := by decide +kernel
theorem dX4_loop_25 : decode cX4_loop 25 = .ok (.ifCond .eq 7, 3) := by decide +kernel
theorem dX4_loop_28 : decode cX4_loop 28 = .ok (.iconst 1, 1) := by decide +kernel
theorem dX4_loop_29 : decode cX4_loop 29 = .ok (.goto 4, 3) := by decide +kernel
theorem dX4_loop_32 : decode cX4_loop 32 = .ok (.iconst 0, 1) := by decide +kernel
theorem dX4_loop_33 : decode cX4_loop 33 = .ok (.ireturn, 1) := by decide +kernel
theorem dX4_stamp_0 : decode cX4_stamp 0 = .ok (.aload_n 0, 1) := by decide +kernel
theorem dX4_stamp_1 : decode cX4_stamp 1 = .ok (.iload_n 1, 1) := by decide +kernel
theorem dX4_stamp_2 : decode cX4_stamp 2 = .ok (.invokevirtual 59, 3) := by decide +kernel
theorem dX4_stamp_5 : decode cX4_stamp 5 = .ok (.astore 6, 2) := by decide +kernel
theorem dX4_stamp_7 : decode cX4_stamp 7 = .ok (.aload 6, 2) := by decide +kernel
theorem dX4_stamp_9 : decode cX4_stamp 9 = .ok (.ifnull 10, 3) := by decide +kernel
theorem dX4_stamp_12 : decode cX4_stamp 12 = .ok (.iload_n 3, 1) := by decide +kernel
theorem dX4_stamp_13 : decode cX4_stamp 13 = .ok (.invokestatic 105, 3) := by decide +kernel
theorem dX4_stamp_16 : decode cX4_stamp 16 = .ok (.ifCond .ne 5, 3) := by decide +kernel
theorem dX4_stamp_19 : decode cX4_stamp 19 = .ok (.iconst (-1), 1) := by decide +kernel
theorem dX4_stamp_20 : decode cX4_stamp 20 = .ok (.ireturn, 1) := by decide +kernel
theorem dX4_stamp_21 : decode cX4_stamp 21 = .ok (.aload 6, 2) := by decide +kernel
theorem dX4_stamp_23 : decode cX4_stamp 23 = .ok (.invokevirtual 108, 3) := by decide +kernel
theorem dX4_stamp_26 : decode cX4_stamp 26 = .ok (.istore 7, 2) := by decide +kernel
theorem dX4_stamp_28 : decode cX4_stamp 28 = .ok (.iload 7, 2) := by decide +kernel
theorem dX4_stamp_30 : decode cX4_stamp 30 = .ok (.ifCond .ne 30, 3) := by decide +kernel
theorem dX4_stamp_33 : decode cX4_stamp 33 = .ok (.aload_n 0, 1) := by decide +kernel
theorem dX4_stamp_34 : decode cX4_stamp 34 = .ok (.getfield 49, 3) := by decide +kernel
theorem dX4_stamp_37 : decode cX4_stamp 37 = .ok (.iload_n 3, 1) := by decide +kernel
theorem dX4_stamp_38 : decode cX4_stamp 38 = .ok (.iload_n 3, 1) := by decide +kernel
theorem dX4_stamp_39 : decode cX4_stamp 39 = .ok (.lload 4, 2) := by decide +kernel
theorem dX4_stamp_41 : decode cX4_stamp 41 = .ok (.invokestatic 111, 3) := by decide +kernel
theorem dX4_stamp_44 : decode cX4_stamp 44 = .ok (.aconst_null, 1) := by decide +kernel
theorem dX4_stamp_45 : decode cX4_stamp 45 = .ok (.invokevirtual 115, 3) := by decide +kernel
theorem dX4_stamp_48 : decode cX4_stamp 48 = .ok (.aload 6, 2) := by decide +kernel
theorem dX4_stamp_50 : decode cX4_stamp 50 = .ok (.iload_n 2, 1) := by decide +kernel
theorem dX4_stamp_51 : decode cX4_stamp 51 = .ok (.aload_n 0, 1) := by decide +kernel
theorem dX4_stamp_52 : decode cX4_stamp 52 = .ok (.getfield 49, 3) := by decide +kernel
theorem dX4_stamp_55 : decode cX4_stamp 55 = .ok (.invokevirtual 119, 3) := by decide +kernel
theorem dX4_stamp_58 : decode cX4_stamp 58 = .ok (.istore 7, 2) := by decide +kernel
theorem dX4_stamp_60 : decode cX4_stamp 60 = .ok (.aload_n 0, 1) := by decide +kernel
theorem dX4_stamp_61 : decode cX4_stamp 61 = .ok (.iload 7, 2) := by decide +kernel
theorem dX4_stamp_63 : decode cX4_stamp 63 = .ok (.iconst 1, 1) := by decide +kernel
theorem dX4_stamp_64 : decode cX4_stamp 64 = .ok (.invokevirtual 67, 3) := by decide +kernel
theorem dX4_stamp_67 : decode cX4_stamp 67 = .ok (.ireturn, 1) := by decide +kernel
theorem dX4_probe_0 : decode cX4_probe 0 = .ok (.aload_n 0, 1) := by decide +kernel
theorem dX4_probe_1 : decode cX4_probe 1 = .ok (.iload_n 1, 1) := by decide +kernel
theorem dX4_probe_2 : decode cX4_probe 2 = .ok (.invokevirtual 59, 3) := by decide +kernel
theorem dX4_probe_5 : decode cX4_probe 5 = .ok (.astore 4, 2) := by decide +kernel
theorem dX4_probe_7 : decode cX4_probe 7 = .ok (.aload 4, 2) := by decide +kernel
theorem dX4_probe_9 : decode cX4_probe 9 = .ok (.ifnull 10, 3) := by decide +kernel
theorem dX4_probe_12 : decode cX4_probe 12 = .ok (.iload_n 3, 1) := by decide +kernel
theorem dX4_probe_13 : decode cX4_probe 13 = .ok (.invokestatic 105, 3) := by decide +kernel
theorem dX4_probe_16 : decode cX4_probe 16 = .ok (.ifCond .ne 5, 3) := by decide +kernel
theorem dX4_probe_19 : decode cX4_probe 19 = .ok (.lconst 0, 1) := by decide +kernel
theorem dX4_probe_20 : decode cX4_probe 20 = .ok (.lreturn, 1) := by decide +kernel
theorem dX4_probe_21 : decode cX4_probe 21 = .ok (.aload 4, 2) := by decide +kernel
theorem dX4_probe_23 : decode cX4_probe 23 = .ok (.invokevirtual 108, 3) := by decide +kernel
theorem dX4_probe_26 : decode cX4_probe 26 = .ok (.istore 5, 2) := by decide +kernel
theorem dX4_probe_28 : decode cX4_probe 28 = .ok (.iload 5, 2) := by decide +kernel
theorem dX4_probe_30 : decode cX4_probe 30 = .ok (.ifCond .ne 15, 3) := by decide +kernel
theorem dX4_probe_33 : decode cX4_probe 33 = .ok (.aload 4, 2) := by decide +kernel
theorem dX4_probe_35 : decode cX4_probe 35 = .ok (.iload_n 2, 1) := by decide +kernel
theorem dX4_probe_36 : decode cX4_probe 36 = .ok (.aload_n 0, 1) := by decide +kernel
theorem dX4_probe_37 : decode cX4_probe 37 = .ok (.getfield 49, 3) := by decide +kernel
theorem dX4_probe_40 : decode cX4_probe 40 = .ok (.invokevirtual 123, 3) := by decide +kernel
theorem dX4_probe_43 : decode cX4_probe 43 = .ok (.istore 5, 2) := by decide +kernel
theorem dX4_probe_45 : decode cX4_probe 45 = .ok (.iload 5, 2) := by decide +kernel
theorem dX4_probe_47 : decode cX4_probe 47 = .ok (.ifCond .ne 20, 3) := by decide +kernel
theorem dX4_probe_50 : decode cX4_probe 50 = .ok (.iload_n 3, 1) := by decide +kernel
theorem dX4_probe_51 : decode cX4_probe 51 = .ok (.aload_n 0, 1) := by decide +kernel
theorem dX4_probe_52 : decode cX4_probe 52 = .ok (.getfield 49, 3) := by decide +kernel
theorem dX4_probe_55 : decode cX4_probe 55 = .ok (.getfield 126, 3) := by decide +kernel
theorem dX4_probe_58 : decode cX4_probe 58 = .ok (.invokestatic 129, 3) := by decide +kernel
theorem dX4_probe_61 : decode cX4_probe 61 = .ok (.ifCond .ne 6, 3) := by decide +kernel
theorem dX4_probe_64 : decode cX4_probe 64 = .ok (.iconst 2, 1) := by decide +kernel
theorem dX4_probe_65 : decode cX4_probe 65 = .ok (.istore 5, 2) := by decide +kernel
theorem dX4_probe_67 : decode cX4_probe 67 = .ok (.aload_n 0, 1) := by decide +kernel
theorem dX4_probe_68 : decode cX4_probe 68 = .ok (.iload 5, 2) := by decide +kernel
theorem dX4_probe_70 : decode cX4_probe 70 = .ok (.invokevirtual 133, 3) := by decide +kernel
theorem dX4_probe_73 : decode cX4_probe 73 = .ok (.iload 5, 2) := by decide +kernel
theorem dX4_probe_75 : decode cX4_probe 75 = .ok (.ifCond .ne 17, 3) := by decide +kernel
theorem dX4_probe_78 : decode cX4_probe 78 = .ok (.iload_n 3, 1) := by decide +kernel
theorem dX4_probe_79 : decode cX4_probe 79 = .ok (.aload_n 0, 1) := by decide +kernel
theorem dX4_probe_80 : decode cX4_probe 80 = .ok (.getfield 49, 3) := by decide +kernel
theorem dX4_probe_83 : decode cX4_probe 83 = .ok (.getfield 136, 3) := by decide +kernel
theorem dX4_probe_86 : decode cX4_probe 86 = .ok (.invokestatic 111, 3) := by decide +kernel
theorem dX4_probe_89 : decode cX4_probe 89 = .ok (.goto 4, 3) := by decide +kernel
theorem dX4_probe_92 : decode cX4_probe 92 = .ok (.lconst 0, 1) := by decide +kernel
theorem dX4_probe_93 : decode cX4_probe 93 = .ok (.lreturn, 1) := by decide +kernel
theorem dX4_tag_0 : decode cX4_tag 0 = .ok (.aload_n 0, 1) := by decide +kernel
theorem dX4_tag_1 : decode cX4_tag 1 = .ok (.iload_n 1, 1) := by decide +kernel
theorem dX4_tag_2 : decode cX4_tag 2 = .ok (.invokevirtual 59, 3) := by decide +kernel
theorem dX4_tag_5 : decode cX4_tag 5 = .ok (.astore 4, 2) := by decide +kernel
theorem dX4_tag_7 : decode cX4_tag 7 = .ok (.aload 4, 2) := by decide +kernel
theorem dX4_tag_9 : decode cX4_tag 9 = .ok (.ifnonnull 5, 3) := by decide +kernel
theorem dX4_tag_12 : decode cX4_tag 12 = .ok (.iconst (-1), 1) := by decide +kernel
theorem dX4_tag_13 : decode cX4_tag 13 = .ok (.ireturn, 1) := by decide +kernel
theorem dX4_tag_14 : decode cX4_tag 14 = .ok (.aload_n 0, 1) := by decide +kernel
theorem dX4_tag_15 : decode cX4_tag 15 = .ok (.getfield 25, 3) := by decide +kernel
theorem dX4_tag_18 : decode cX4_tag 18 = .ok (.sipush 200, 3) := by decide +kernel
theorem dX4_tag_21 : decode cX4_tag 21 = .ok (.if_icmp .lt 6, 3) := by decide +kernel
theorem dX4_tag_24 : decode cX4_tag 24 = .ok (.bipush (-2), 2) := by decide +kernel
theorem dX4_tag_26 : decode cX4_tag 26 = .ok (.ireturn, 1) := by decide +kernel
theorem dX4_tag_27 : decode cX4_tag 27 = .ok (.aload_n 0, 1) := by decide +kernel
theorem dX4_tag_28 : decode cX4_tag 28 = .ok (.dup, 1) := by decide +kernel
theorem dX4_tag_29 : decode cX4_tag 29 = .ok (.getfield 25, 3) := by decide +kernel
theorem dX4_tag_32 : decode cX4_tag 32 = .ok (.iconst 1, 1) := by decide +kernel
theorem dX4_tag_33 : decode cX4_tag 33 = .ok (.iadd, 1) := by decide +kernel
theorem dX4_tag_34 : decode cX4_tag 34 = .ok (.putfield 25, 3) := by decide +kernel
theorem dX4_tag_37 : decode cX4_tag 37 = .ok (.aload_n 0, 1) := by decide +kernel
theorem dX4_tag_38 : decode cX4_tag 38 = .ok (.getfield 49, 3) := by decide +kernel
theorem dX4_tag_41 : decode cX4_tag 41 = .ok (.iload_n 3, 1) := by decide +kernel
theorem dX4_tag_42 : decode cX4_tag 42 = .ok (.ifCond .eq 8, 3) := by decide +kernel
theorem dX4_tag_45 : decode cX4_tag 45 = .ok (.bipush 9, 2) := by decide +kernel
theorem dX4_tag_47 : decode cX4_tag 47 = .ok (.goto 5, 3) := by decide +kernel
theorem dX4_tag_50 : decode cX4_tag 50 = .ok (.bipush 8, 2) := by decide +kernel
theorem dX4_tag_52 : decode cX4_tag 52 = .ok (.aload_n 0, 1) := by decide +kernel
theorem dX4_tag_53 : decode cX4_tag 53 = .ok (.getfield 25, 3) := by decide +kernel
theorem dX4_tag_56 : decode cX4_tag 56 = .ok (.i2l, 1) := by decide +kernel
theorem dX4_tag_57 : decode cX4_tag 57 = .ok (.aconst_null, 1) := by decide +kernel
theorem dX4_tag_58 : decode cX4_tag 58 = .ok (.invokevirtual 115, 3) := by decide +kernel
theorem dX4_tag_61 : decode cX4_tag 61 = .ok (.aload_n 0, 1) := by decide +kernel
theorem dX4_tag_62 : decode cX4_tag 62 = .ok (.aload 4, 2) := by decide +kernel
theorem dX4_tag_64 : decode cX4_tag 64 = .ok (.iload_n 2, 1) := by decide +kernel
theorem dX4_tag_65 : decode cX4_tag 65 = .ok (.aload_n 0, 1) := by decide +kernel
theorem dX4_tag_66 : decode cX4_tag 66 = .ok (.getfield 49, 3) := by decide +kernel
theorem dX4_tag_69 : decode cX4_tag 69 = .ok (.invokevirtual 119, 3) := by decide +kernel
theorem dX4_tag_72 : decode cX4_tag 72 = .ok (.aload_n 0, 1) := by decide +kernel
theorem dX4_tag_73 : decode cX4_tag 73 = .ok (.getfield 25, 3) := by decide +kernel
theorem dX4_tag_76 : decode cX4_tag 76 = .ok (.invokevirtual 67, 3) := by decide +kernel
theorem dX4_tag_79 : decode cX4_tag 79 = .ok (.ireturn, 1) := by decide +kernel
theorem dX4_rack_0 : decode cX4_rack 0 = .ok (.aload_n 0, 1) := by decide +kernel
theorem dX4_rack_1 : decode cX4_rack 1 = .ok (.iload_n 1, 1) := by decide +kernel
theorem dX4_rack_2 : decode cX4_rack 2 = .ok (.invokevirtual 59, 3) := by decide +kernel
theorem dX4_rack_5 : decode cX4_rack 5 = .ok (.astore 4, 2) := by decide +kernel
theorem dX4_rack_7 : decode cX4_rack 7 = .ok (.aload_n 0, 1) := by decide +kernel
theorem dX4_rack_8 : decode cX4_rack 8 = .ok (.iload_n 3, 1) := by decide +kernel
theorem dX4_rack_9 : decode cX4_rack 9 = .ok (.invokevirtual 59, 3) := by decide +kernel
theorem dX4_rack_12 : decode cX4_rack 12 = .ok (.astore 5, 2) := by decide +kernel
theorem dX4_rack_14 : decode cX4_rack 14 = .ok (.aload 4, 2) := by decide +kernel
theorem dX4_rack_16 : decode cX4_rack 16 = .ok (.ifnull 8, 3) := by decide +kernel
theorem dX4_rack_19 : decode cX4_rack 19 = .ok (.aload 5, 2) := by decide +kernel
theorem dX4_rack_21 : decode cX4_rack 21 = .ok (.ifnonnull 5, 3) := by decide +kernel
theorem dX4_rack_24 : decode cX4_rack 24 = .ok (.iconst (-1), 1) := by decide +kernel
theorem dX4_rack_25 : decode cX4_rack 25 = .ok (.ireturn, 1) := by decide +kernel
theorem dX4_rack_26 : decode cX4_rack 26 = .ok (.aload 5, 2) := by decide +kernel
theorem dX4_rack_28 : decode cX4_rack 28 = .ok (.aload_n 0, 1) := by decide +kernel
theorem dX4_rack_29 : decode cX4_rack 29 = .ok (.getfield 49, 3) := by decide +kernel
theorem dX4_rack_32 : decode cX4_rack 32 = .ok (.invokevirtual 140, 3) := by decide +kernel
theorem dX4_rack_35 : decode cX4_rack 35 = .ok (.aload_n 0, 1) := by decide +kernel
theorem dX4_rack_36 : decode cX4_rack 36 = .ok (.aload 4, 2) := by decide +kernel
theorem dX4_rack_38 : decode cX4_rack 38 = .ok (.iload_n 2, 1) := by decide +kernel
theorem dX4_rack_39 : decode cX4_rack 39 = .ok (.aload_n 0, 1) := by decide +kernel
theorem dX4_rack_40 : decode cX4_rack 40 = .ok (.getfield 49, 3) := by decide +kernel
theorem dX4_rack_43 : decode cX4_rack 43 = .ok (.invokevirtual 119, 3) := by decide +kernel
theorem dX4_rack_46 : decode cX4_rack 46 = .ok (.iconst 1, 1) := by decide +kernel
theorem dX4_rack_47 : decode cX4_rack 47 = .ok (.invokevirtual 67, 3) := by decide +kernel
theorem dX4_rack_50 : decode cX4_rack 50 = .ok (.ireturn, 1) := by decide +kernel
theorem dX4_unrack_0 : decode cX4_unrack 0 = .ok (.aload_n 0, 1) := by decide +kernel
theorem dX4_unrack_1 : decode cX4_unrack 1 = .ok (.iload_n 1, 1) := by decide +kernel
theorem dX4_unrack_2 : decode cX4_unrack 2 = .ok (.invokevirtual 59, 3) := by decide +kernel
theorem dX4_unrack_5 : decode cX4_unrack 5 = .ok (.astore 4, 2) := by decide +kernel
theorem dX4_unrack_7 : decode cX4_unrack 7 = .ok (.aload_n 0, 1) := by decide +kernel
theorem dX4_unrack_8 : decode cX4_unrack 8 = .ok (.iload_n 3, 1) := by decide +kernel
theorem dX4_unrack_9 : decode cX4_unrack 9 = .ok (.invokevirtual 59, 3) := by decide +kernel
theorem dX4_unrack_12 : decode cX4_unrack 12 = .ok (.astore 5, 2) := by decide +kernel
theorem dX4_unrack_14 : decode cX4_unrack 14 = .ok (.aload 4, 2) := by decide +kernel
theorem dX4_unrack_16 : decode cX4_unrack 16 = .ok (.ifnull 8, 3) := by decide +kernel
theorem dX4_unrack_19 : decode cX4_unrack 19 = .ok (.aload 5, 2) := by decide +kernel
theorem dX4_unrack_21 : decode cX4_unrack 21 = .ok (.ifnonnull 5, 3) := by decide +kernel
theorem dX4_unrack_24 : decode cX4_unrack 24 = .ok (.iconst (-1), 1) := by decide +kernel
theorem dX4_unrack_25 : decode cX4_unrack 25 = .ok (.ireturn, 1) := by decide +kernel
theorem dX4_unrack_26 : decode cX4_unrack 26 = .ok (.aload 4, 2) := by decide +kernel
theorem dX4_unrack_28 : decode cX4_unrack 28 = .ok (.iload_n 2, 1) := by decide +kernel
theorem dX4_unrack_29 : decode cX4_unrack 29 = .ok (.aload_n 0, 1) := by decide +kernel
theorem dX4_unrack_30 : decode cX4_unrack 30 = .ok (.getfield 49, 3) := by decide +kernel
theorem dX4_unrack_33 : decode cX4_unrack 33 = .ok (.invokevirtual 123, 3) := by decide +kernel
theorem dX4_unrack_36 : decode cX4_unrack 36 = .ok (.istore 6, 2) := by decide +kernel
theorem dX4_unrack_38 : decode cX4_unrack 38 = .ok (.iload 6, 2) := by decide +kernel
theorem dX4_unrack_40 : decode cX4_unrack 40 = .ok (.ifCond .ne 30, 3) := by decide +kernel
theorem dX4_unrack_43 : decode cX4_unrack 43 = .ok (.aload_n 0, 1) := by decide +kernel
theorem dX4_unrack_44 : decode cX4_unrack 44 = .ok (.getfield 49, 3) := by decide +kernel
theorem dX4_unrack_47 : decode cX4_unrack 47 = .ok (.getfield 126, 3) := by decide +kernel
theorem dX4_unrack_50 : decode cX4_unrack 50 = .ok (.bipush 10, 2) := by decide +kernel
theorem dX4_unrack_52 : decode cX4_unrack 52 = .ok (.if_icmp .eq 18, 3) := by decide +kernel
theorem dX4_unrack_55 : decode cX4_unrack 55 = .ok (.aload_n 0, 1) := by decide +kernel
theorem dX4_unrack_56 : decode cX4_unrack 56 = .ok (.getfield 49, 3) := by decide +kernel
theorem dX4_unrack_59 : decode cX4_unrack 59 = .ok (.getfield 126, 3) := by decide +kernel
theorem dX4_unrack_62 : decode cX4_unrack 62 = .ok (.bipush 11, 2) := by decide +kernel
theorem dX4_unrack_64 : decode cX4_unrack 64 = .ok (.if_icmp .eq 6, 3) := by decide +kernel
theorem dX4_unrack_67 : decode cX4_unrack 67 = .ok (.iconst 2, 1) := by decide +kernel
theorem dX4_unrack_68 : decode cX4_unrack 68 = .ok (.istore 6, 2) := by decide +kernel
theorem dX4_unrack_70 : decode cX4_unrack 70 = .ok (.iload 6, 2) := by decide +kernel
theorem dX4_unrack_72 : decode cX4_unrack 72 = .ok (.ifCond .eq 11, 3) := by decide +kernel
theorem dX4_unrack_75 : decode cX4_unrack 75 = .ok (.aload_n 0, 1) := by decide +kernel
theorem dX4_unrack_76 : decode cX4_unrack 76 = .ok (.iload 6, 2) := by decide +kernel
theorem dX4_unrack_78 : decode cX4_unrack 78 = .ok (.iconst 0, 1) := by decide +kernel
theorem dX4_unrack_79 : decode cX4_unrack 79 = .ok (.invokevirtual 67, 3) := by decide +kernel
theorem dX4_unrack_82 : decode cX4_unrack 82 = .ok (.ireturn, 1) := by decide +kernel
theorem dX4_unrack_83 : decode cX4_unrack 83 = .ok (.aload 5, 2) := by decide +kernel
theorem dX4_unrack_85 : decode cX4_unrack 85 = .ok (.aload_n 0, 1) := by decide +kernel
theorem dX4_unrack_86 : decode cX4_unrack 86 = .ok (.getfield 49, 3) := by decide +kernel
theorem dX4_unrack_89 : decode cX4_unrack 89 = .ok (.getfield 144, 3) := by decide +kernel
theorem dX4_unrack_92 : decode cX4_unrack 92 = .ok (.iconst 0, 1) := by decide +kernel
theorem dX4_unrack_93 : decode cX4_unrack 93 = .ok (.invokevirtual 76, 3) := by decide +kernel
theorem dX4_unrack_96 : decode cX4_unrack 96 = .ok (.aload_n 0, 1) := by decide +kernel
theorem dX4_unrack_97 : decode cX4_unrack 97 = .ok (.iconst 0, 1) := by decide +kernel
theorem dX4_unrack_98 : decode cX4_unrack 98 = .ok (.aload_n 0, 1) := by decide +kernel
theorem dX4_unrack_99 : decode cX4_unrack 99 = .ok (.getfield 49, 3) := by decide +kernel
theorem dX4_unrack_102 : decode cX4_unrack 102 = .ok (.getfield 144, 3) := by decide +kernel
theorem dX4_unrack_105 : decode cX4_unrack 105 = .ok (.ifnonnull 7, 3) := by decide +kernel
theorem dX4_unrack_108 : decode cX4_unrack 108 = .ok (.iconst 0, 1) := by decide +kernel
theorem dX4_unrack_109 : decode cX4_unrack 109 = .ok (.goto 13, 3) := by decide +kernel
theorem dX4_unrack_112 : decode cX4_unrack 112 = .ok (.aload_n 0, 1) := by decide +kernel
theorem dX4_unrack_113 : decode cX4_unrack 113 = .ok (.getfield 49, 3) := by decide +kernel
theorem dX4_unrack_116 : decode cX4_unrack 116 = .ok (.getfield 144, 3) := by decide +kernel
theorem dX4_unrack_119 : decode cX4_unrack 119 = .ok (.getfield 145, 3) := by decide +kernel
theorem dX4_unrack_122 : decode cX4_unrack 122 = .ok (.invokevirtual 67, 3) := by decide +kernel
theorem dX4_unrack_125 : decode cX4_unrack 125 = .ok (.ireturn, 1) := by decide +kernel
theorem dX4_cable_0 : decode cX4_cable 0 = .ok (.aload_n 0, 1) := by decide +kernel
theorem dX4_cable_1 : decode cX4_cable 1 = .ok (.iload_n 2, 1) := by decide +kernel
theorem dX4_cable_2 : decode cX4_cable 2 = .ok (.invokevirtual 59, 3) := by decide +kernel
theorem dX4_cable_5 : decode cX4_cable 5 = .ok (.astore 4, 2) := by decide +kernel
theorem dX4_cable_7 : decode cX4_cable 7 = .ok (.aload_n 0, 1) := by decide +kernel
theorem dX4_cable_8 : decode cX4_cable 8 = .ok (.iload_n 3, 1) := by decide +kernel
theorem dX4_cable_9 : decode cX4_cable 9 = .ok (.invokevirtual 59, 3) := by decide +kernel
theorem dX4_cable_12 : decode cX4_cable 12 = .ok (.astore 5, 2) := by decide +kernel
theorem dX4_cable_14 : decode cX4_cable 14 = .ok (.iload_n 1, 1) := by decide +kernel
theorem dX4_cable_15 : decode cX4_cable 15 = .ok (.ifCond .lt 18, 3) := by decide +kernel
theorem dX4_cable_18 : decode cX4_cable 18 = .ok (.iload_n 1, 1) := by decide +kernel
theorem dX4_cable_19 : decode cX4_cable 19 = .ok (.iconst 3, 1) := by decide +kernel
theorem dX4_cable_20 : decode cX4_cable 20 = .ok (.if_icmp .gt 13, 3) := by decide +kernel
theorem dX4_cable_23 : decode cX4_cable 23 = .ok (.aload 4, 2) := by decide +kernel
theorem dX4_cable_25 : decode cX4_cable 25 = .ok (.ifnull 8, 3) := by decide +kernel
theorem dX4_cable_28 : decode cX4_cable 28 = .ok (.aload 5, 2) := by decide +kernel
theorem dX4_cable_30 : decode cX4_cable 30 = .ok (.ifnonnull 5, 3) := by decide +kernel
theorem dX4_cable_33 : decode cX4_cable 33 = .ok (.iconst (-1), 1) := by decide +kernel
theorem dX4_cable_34 : decode cX4_cable 34 = .ok (.ireturn, 1) := by decide +kernel
theorem dX4_cable_35 : decode cX4_cable 35 = .ok (.aload_n 0, 1) := by decide +kernel
theorem dX4_cable_36 : decode cX4_cable 36 = .ok (.getfield 21, 3) := by decide +kernel
theorem dX4_cable_39 : decode cX4_cable 39 = .ok (.bipush 24, 2) := by decide +kernel
theorem dX4_cable_41 : decode cX4_cable 41 = .ok (.if_icmp .lt 6, 3) := by decide +kernel
theorem dX4_cable_44 : decode cX4_cable 44 = .ok (.bipush (-2), 2) := by decide +kernel
theorem dX4_cable_46 : decode cX4_cable 46 = .ok (.ireturn, 1) := by decide +kernel
theorem dX4_cable_47 : decode cX4_cable 47 = .ok (.aload_n 0, 1) := by decide +kernel
theorem dX4_cable_48 : decode cX4_cable 48 = .ok (.getfield 17, 3) := by decide +kernel
theorem dX4_cable_51 : decode cX4_cable 51 = .ok (.aload_n 0, 1) := by decide +kernel
theorem dX4_cable_52 : decode cX4_cable 52 = .ok (.getfield 21, 3) := by decide +kernel
theorem dX4_cable_55 : decode cX4_cable 55 = .ok (.new 15, 3) := by decide +kernel
theorem dX4_cable_58 : decode cX4_cable 58 = .ok (.dup, 1) := by decide +kernel
theorem dX4_cable_59 : decode cX4_cable 59 = .ok (.aload_n 0, 1) := by decide +kernel
theorem dX4_cable_60 : decode cX4_cable 60 = .ok (.getfield 21, 3) := by decide +kernel
theorem dX4_cable_63 : decode cX4_cable 63 = .ok (.iload_n 1, 1) := by decide +kernel
theorem dX4_cable_64 : decode cX4_cable 64 = .ok (.aload 4, 2) := by decide +kernel
theorem dX4_cable_66 : decode cX4_cable 66 = .ok (.aload 5, 2) := by decide +kernel
theorem dX4_cable_68 : decode cX4_cable 68 = .ok (.invokespecial 148, 3) := by decide +kernel
theorem dX4_cable_71 : decode cX4_cable 71 = .ok (.aastore, 1) := by decide +kernel
theorem dX4_cable_72 : decode cX4_cable 72 = .ok (.aload_n 0, 1) := by decide +kernel
theorem dX4_cable_73 : decode cX4_cable 73 = .ok (.dup, 1) := by decide +kernel
theorem dX4_cable_74 : decode cX4_cable 74 = .ok (.getfield 21, 3) := by decide +kernel
theorem dX4_cable_77 : decode cX4_cable 77 = .ok (.iconst 1, 1) := by decide +kernel
theorem dX4_cable_78 : decode cX4_cable 78 = .ok (.iadd, 1) := by decide +kernel
theorem dX4_cable_79 : decode cX4_cable 79 = .ok (.putfield 21, 3) := by decide +kernel
theorem dX4_cable_82 : decode cX4_cable 82 = .ok (.aload_n 0, 1) := by decide +kernel
theorem dX4_cable_83 : decode cX4_cable 83 = .ok (.getfield 21, 3) := by decide +kernel
theorem dX4_cable_86 : decode cX4_cable 86 = .ok (.iconst 1, 1) := by decide +kernel
theorem dX4_cable_87 : decode cX4_cable 87 = .ok (.isub, 1) := by decide +kernel
theorem dX4_cable_88 : decode cX4_cable 88 = .ok (.ireturn, 1) := by decide +kernel
theorem dX4_patience_0 : decode cX4_patience 0 = .ok (.aload_n 0, 1) := by decide +kernel
theorem dX4_patience_1 : decode cX4_patience 1 = .ok (.iload_n 1, 1) := by decide +kernel
theorem dX4_patience_2 : decode cX4_patience 2 = .ok (.invokevirtual 151, 3) := by decide +kernel
theorem dX4_patience_5 : decode cX4_patience 5 = .ok (.astore_n 3, 1) := by decide +kernel
theorem dX4_patience_6 : decode cX4_patience 6 = .ok (.aload_n 3, 1) := by decide +kernel
theorem dX4_patience_7 : decode cX4_patience 7 = .ok (.ifnull 14, 3) := by decide +kernel
theorem dX4_patience_10 : decode cX4_patience 10 = .ok (.iload_n 2, 1) := by decide +kernel
theorem dX4_patience_11 : decode cX4_patience 11 = .ok (.iconst 1, 1) := by decide +kernel
theorem dX4_patience_12 : decode cX4_patience 12 = .ok (.if_icmp .lt 9, 3) := by decide +kernel
theorem dX4_patience_15 : decode cX4_patience 15 = .ok (.iload_n 2, 1) := by decide +kernel
theorem dX4_patience_16 : decode cX4_patience 16 = .ok (.bipush 9, 2) := by decide +kernel
theorem dX4_patience_18 : decode cX4_patience 18 = .ok (.if_icmp .le 5, 3) := by decide +kernel
theorem dX4_patience_21 : decode cX4_patience 21 = .ok (.iconst (-1), 1) := by decide +kernel
theorem dX4_patience_22 : decode cX4_patience 22 = .ok (.ireturn, 1) := by decide +kernel
theorem dX4_patience_23 : decode cX4_patience 23 = .ok (.aload_n 3, 1) := by decide +kernel
theorem dX4_patience_24 : decode cX4_patience 24 = .ok (.getfield 155, 3) := by decide +kernel
theorem dX4_patience_27 : decode cX4_patience 27 = .ok (.istore 4, 2) := by decide +kernel
theorem dX4_patience_29 : decode cX4_patience 29 = .ok (.aload_n 3, 1) := by decide +kernel
theorem dX4_patience_30 : decode cX4_patience 30 = .ok (.iload_n 2, 1) := by decide +kernel
theorem dX4_patience_31 : decode cX4_patience 31 = .ok (.putfield 155, 3) := by decide +kernel
theorem dX4_patience_34 : decode cX4_patience 34 = .ok (.iload 4, 2) := by decide +kernel
theorem dX4_patience_36 : decode cX4_patience 36 = .ok (.ireturn, 1) := by decide +kernel
theorem dX4_pull_0 : decode cX4_pull 0 = .ok (.aload_n 0, 1) := by decide +kernel
theorem dX4_pull_1 : decode cX4_pull 1 = .ok (.iload_n 1, 1) := by decide +kernel
theorem dX4_pull_2 : decode cX4_pull 2 = .ok (.invokevirtual 151, 3) := by decide +kernel
theorem dX4_pull_5 : decode cX4_pull 5 = .ok (.astore_n 2, 1) := by decide +kernel
theorem dX4_pull_6 : decode cX4_pull 6 = .ok (.aload_n 2, 1) := by decide +kernel
theorem dX4_pull_7 : decode cX4_pull 7 = .ok (.ifnonnull 5, 3) := by decide +kernel
theorem dX4_pull_10 : decode cX4_pull 10 = .ok (.iconst (-1), 1) := by decide +kernel
theorem dX4_pull_11 : decode cX4_pull 11 = .ok (.ireturn, 1) := by decide +kernel
theorem dX4_pull_12 : decode cX4_pull 12 = .ok (.aload_n 2, 1) := by decide +kernel
theorem dX4_pull_13 : decode cX4_pull 13 = .ok (.getfield 158, 3) := by decide +kernel
theorem dX4_pull_16 : decode cX4_pull 16 = .ok (.istore_n 3, 1) := by decide +kernel
theorem dX4_pull_17 : decode cX4_pull 17 = .ok (.aload_n 2, 1) := by decide +kernel
theorem dX4_pull_18 : decode cX4_pull 18 = .ok (.iconst 0, 1) := by decide +kernel
theorem dX4_pull_19 : decode cX4_pull 19 = .ok (.putfield 158, 3) := by decide +kernel
theorem dX4_pull_22 : decode cX4_pull 22 = .ok (.iload_n 3, 1) := by decide +kernel
theorem dX4_pull_23 : decode cX4_pull 23 = .ok (.ifCond .eq 7, 3) := by decide +kernel
theorem dX4_pull_26 : decode cX4_pull 26 = .ok (.iconst 1, 1) := by decide +kernel
theorem dX4_pull_27 : decode cX4_pull 27 = .ok (.goto 4, 3) := by decide +kernel
theorem dX4_pull_30 : decode cX4_pull 30 = .ok (.iconst 0, 1) := by decide +kernel
theorem dX4_pull_31 : decode cX4_pull 31 = .ok (.ireturn, 1) := by decide +kernel
theorem dX4_plugIn_0 : decode cX4_plugIn 0 = .ok (.aload_n 0, 1) := by decide +kernel
theorem dX4_plugIn_1 : decode cX4_plugIn 1 = .ok (.iload_n 1, 1) := by decide +kernel
theorem dX4_plugIn_2 : decode cX4_plugIn 2 = .ok (.invokevirtual 151, 3) := by decide +kernel
theorem dX4_plugIn_5 : decode cX4_plugIn 5 = .ok (.astore_n 2, 1) := by decide +kernel
theorem dX4_plugIn_6 : decode cX4_plugIn 6 = .ok (.aload_n 2, 1) := by decide +kernel
theorem dX4_plugIn_7 : decode cX4_plugIn 7 = .ok (.ifnonnull 5, 3) := by decide +kernel
theorem dX4_plugIn_10 : decode cX4_plugIn 10 = .ok (.iconst (-1), 1) := by decide +kernel
theorem dX4_plugIn_11 : decode cX4_plugIn 11 = .ok (.ireturn, 1) := by decide +kernel
theorem dX4_plugIn_12 : decode cX4_plugIn 12 = .ok (.aload_n 2, 1) := by decide +kernel
theorem dX4_plugIn_13 : decode cX4_plugIn 13 = .ok (.getfield 158, 3) := by decide +kernel
theorem dX4_plugIn_16 : decode cX4_plugIn 16 = .ok (.istore_n 3, 1) := by decide +kernel
theorem dX4_plugIn_17 : decode cX4_plugIn 17 = .ok (.aload_n 2, 1) := by decide +kernel
theorem dX4_plugIn_18 : decode cX4_plugIn 18 = .ok (.iconst 1, 1) := by decide +kernel
theorem dX4_plugIn_19 : decode cX4_plugIn 19 = .ok (.putfield 158, 3) := by decide +kernel
theorem dX4_plugIn_22 : decode cX4_plugIn 22 = .ok (.aload_n 2, 1) := by decide +kernel
theorem dX4_plugIn_23 : decode cX4_plugIn 23 = .ok (.iconst 0, 1) := by decide +kernel
theorem dX4_plugIn_24 : decode cX4_plugIn 24 = .ok (.putfield 161, 3) := by decide +kernel
theorem dX4_plugIn_27 : decode cX4_plugIn 27 = .ok (.iload_n 3, 1) := by decide +kernel
theorem dX4_plugIn_28 : decode cX4_plugIn 28 = .ok (.ifCond .eq 7, 3) := by decide +kernel
theorem dX4_plugIn_31 : decode cX4_plugIn 31 = .ok (.iconst 1, 1) := by decide +kernel
theorem dX4_plugIn_32 : decode cX4_plugIn 32 = .ok (.goto 4, 3) := by decide +kernel
theorem dX4_plugIn_35 : decode cX4_plugIn 35 = .ok (.iconst 0, 1) := by decide +kernel
theorem dX4_plugIn_36 : decode cX4_plugIn 36 = .ok (.ireturn, 1) := by decide +kernel
theorem dX4_tick_0 : decode cX4_tick 0 = .ok (.aload_n 0, 1) := by decide +kernel
theorem dX4_tick_1 : decode cX4_tick 1 = .ok (.dup, 1) := by decide +kernel
theorem dX4_tick_2 : decode cX4_tick 2 = .ok (.getfield 28, 3) := by decide +kernel
theorem dX4_tick_5 : decode cX4_tick 5 = .ok (.iconst 1, 1) := by decide +kernel
theorem dX4_tick_6 : decode cX4_tick 6 = .ok (.iadd, 1) := by decide +kernel
theorem dX4_tick_7 : decode cX4_tick 7 = .ok (.putfield 28, 3) := by decide +kernel
theorem dX4_tick_10 : decode cX4_tick 10 = .ok (.iconst 0, 1) := by decide +kernel
theorem dX4_tick_11 : decode cX4_tick 11 = .ok (.istore_n 1, 1) := by decide +kernel
theorem dX4_tick_12 : decode cX4_tick 12 = .ok (.iconst 0, 1) := by decide +kernel
theorem dX4_tick_13 : decode cX4_tick 13 = .ok (.istore_n 2, 1) := by decide +kernel
theorem dX4_tick_14 : decode cX4_tick 14 = .ok (.iload_n 2, 1) := by decide +kernel
theorem dX4_tick_15 : decode cX4_tick 15 = .ok (.aload_n 0, 1) := by decide +kernel
theorem dX4_tick_16 : decode cX4_tick 16 = .ok (.getfield 21, 3) := by decide +kernel
theorem dX4_tick_19 : decode cX4_tick 19 = .ok (.if_icmp .ge 48, 3) := by decide +kernel
theorem dX4_tick_22 : decode cX4_tick 22 = .ok (.aload_n 0, 1) := by decide +kernel
theorem dX4_tick_23 : decode cX4_tick 23 = .ok (.iload_n 2, 1) := by decide +kernel
theorem dX4_tick_24 : decode cX4_tick 24 = .ok (.invokevirtual 151, 3) := by decide +kernel
theorem dX4_tick_27 : decode cX4_tick 27 = .ok (.astore_n 3, 1) := by decide +kernel
theorem dX4_tick_28 : decode cX4_tick 28 = .ok (.aload_n 3, 1) := by decide +kernel
theorem dX4_tick_29 : decode cX4_tick 29 = .ok (.ifnull 32, 3) := by decide +kernel
theorem dX4_tick_32 : decode cX4_tick 32 = .ok (.aload_n 3, 1) := by decide +kernel
theorem dX4_tick_33 : decode cX4_tick 33 = .ok (.getfield 158, 3) := by decide +kernel
theorem dX4_tick_36 : decode cX4_tick 36 = .ok (.ifCond .eq 25, 3) := by decide +kernel
theorem dX4_tick_39 : decode cX4_tick 39 = .ok (.aload_n 0, 1) := by decide +kernel
theorem dX4_tick_40 : decode cX4_tick 40 = .ok (.aload_n 3, 1) := by decide +kernel
theorem dX4_tick_41 : decode cX4_tick 41 = .ok (.invokevirtual 164, 3) := by decide +kernel
theorem dX4_tick_44 : decode cX4_tick 44 = .ok (.istore 4, 2) := by decide +kernel
theorem dX4_tick_46 : decode cX4_tick 46 = .ok (.aload_n 0, 1) := by decide +kernel
theorem dX4_tick_47 : decode cX4_tick 47 = .ok (.aload_n 3, 1) := by decide +kernel
theorem dX4_tick_48 : decode cX4_tick 48 = .ok (.iload 4, 2) := by decide +kernel
theorem dX4_tick_50 : decode cX4_tick 50 = .ok (.invokevirtual 168, 3) := by decide +kernel
theorem dX4_tick_53 : decode cX4_tick 53 = .ok (.iload 4, 2) := by decide +kernel
theorem dX4_tick_55 : decode cX4_tick 55 = .ok (.ifCond .ne 6, 3) := by decide +kernel
theorem dX4_tick_58 : decode cX4_tick 58 = .ok (.iinc 1 1, 3) := by decide +kernel
theorem dX4_tick_61 : decode cX4_tick 61 = .ok (.iinc 2 1, 3) := by decide +kernel
theorem dX4_tick_64 : decode cX4_tick 64 = .ok (.goto (-50), 3) := by decide +kernel
theorem dX4_tick_67 : decode cX4_tick 67 = .ok (.iconst 0, 1) := by decide +kernel
theorem dX4_tick_68 : decode cX4_tick 68 = .ok (.istore_n 2, 1) := by decide +kernel
theorem dX4_tick_69 : decode cX4_tick 69 = .ok (.iload_n 2, 1) := by decide +kernel
theorem dX4_tick_70 : decode cX4_tick 70 = .ok (.bipush 16, 2) := by decide +kernel
theorem dX4_tick_72 : decode cX4_tick 72 = .ok (.if_icmp .ge 24, 3) := by decide +kernel
theorem dX4_tick_75 : decode cX4_tick 75 = .ok (.aload_n 0, 1) := by decide +kernel
theorem dX4_tick_76 : decode cX4_tick 76 = .ok (.iload_n 2, 1) := by decide +kernel
theorem dX4_tick_77 : decode cX4_tick 77 = .ok (.invokevirtual 59, 3) := by decide +kernel
theorem dX4_tick_80 : decode cX4_tick 80 = .ok (.astore_n 3, 1) := by decide +kernel
theorem dX4_tick_81 : decode cX4_tick 81 = .ok (.aload_n 3, 1) := by decide +kernel
theorem dX4_tick_82 : decode cX4_tick 82 = .ok (.ifnull 8, 3) := by decide +kernel
theorem dX4_tick_85 : decode cX4_tick 85 = .ok (.aload_n 0, 1) := by decide +kernel
theorem dX4_tick_86 : decode cX4_tick 86 = .ok (.aload_n 3, 1) := by decide +kernel
theorem dX4_tick_87 : decode cX4_tick 87 = .ok (.invokevirtual 172, 3) := by decide +kernel
theorem dX4_tick_90 : decode cX4_tick 90 = .ok (.iinc 2 1, 3) := by decide +kernel
theorem dX4_tick_93 : decode cX4_tick 93 = .ok (.goto (-24), 3) := by decide +kernel
theorem dX4_tick_96 : decode cX4_tick 96 = .ok (.iload_n 1, 1) := by decide +kernel
theorem dX4_tick_97 : decode cX4_tick 97 = .ok (.ireturn, 1) := by decide +kernel
theorem dX4_splice_0 : decode cX4_splice 0 = .ok (.aload_n 0, 1) := by decide +kernel
theorem dX4_splice_1 : decode cX4_splice 1 = .ok (.iload_n 1, 1) := by decide +kernel
theorem dX4_splice_2 : decode cX4_splice 2 = .ok (.invokevirtual 59, 3) := by decide +kernel
theorem dX4_splice_5 : decode cX4_splice 5 = .ok (.astore 6, 2) := by decide +kernel
theorem dX4_splice_7 : decode cX4_splice 7 = .ok (.aload_n 0, 1) := by decide +kernel
theorem dX4_splice_8 : decode cX4_splice 8 = .ok (.iload_n 3, 1) := by decide +kernel
theorem dX4_splice_9 : decode cX4_splice 9 = .ok (.invokevirtual 59, 3) := by decide +kernel
theorem dX4_splice_12 : decode cX4_splice 12 = .ok (.astore 7, 2) := by decide +kernel
theorem dX4_splice_14 : decode cX4_splice 14 = .ok (.aload 6, 2) := by decide +kernel
theorem dX4_splice_16 : decode cX4_splice 16 = .ok (.ifnull 20, 3) := by decide +kernel
theorem dX4_splice_19 : decode cX4_splice 19 = .ok (.aload 7, 2) := by decide +kernel
theorem dX4_splice_21 : decode cX4_splice 21 = .ok (.ifnull 15, 3) := by decide +kernel
theorem dX4_splice_24 : decode cX4_splice 24 = .ok (.iload 5, 2) := by decide +kernel
theorem dX4_splice_26 : decode cX4_splice 26 = .ok (.ifCond .lt 10, 3) := by decide +kernel
theorem dX4_splice_29 : decode cX4_splice 29 = .ok (.iload 5, 2) := by decide +kernel
theorem dX4_splice_31 : decode cX4_splice 31 = .ok (.bipush 32, 2) := by decide +kernel
theorem dX4_splice_33 : decode cX4_splice 33 = .ok (.if_icmp .le 5, 3) := by decide +kernel
theorem dX4_splice_36 : decode cX4_splice 36 = .ok (.iconst (-1), 1) := by decide +kernel
theorem dX4_splice_37 : decode cX4_splice 37 = .ok (.ireturn, 1) := by decide +kernel
theorem dX4_splice_38 : decode cX4_splice 38 = .ok (.iconst 0, 1) := by decide +kernel
theorem dX4_splice_39 : decode cX4_splice 39 = .ok (.istore 8, 2) := by decide +kernel
theorem dX4_splice_41 : decode cX4_splice 41 = .ok (.iload 8, 2) := by decide +kernel
theorem dX4_splice_43 : decode cX4_splice 43 = .ok (.iload 5, 2) := by decide +kernel
theorem dX4_splice_45 : decode cX4_splice 45 = .ok (.if_icmp .ge 42, 3) := by decide +kernel
theorem dX4_splice_48 : decode cX4_splice 48 = .ok (.aload_n 0, 1) := by decide +kernel
theorem dX4_splice_49 : decode cX4_splice 49 = .ok (.aload 6, 2) := by decide +kernel
theorem dX4_splice_51 : decode cX4_splice 51 = .ok (.iload_n 2, 1) := by decide +kernel
theorem dX4_splice_52 : decode cX4_splice 52 = .ok (.iload 8, 2) := by decide +kernel
theorem dX4_splice_54 : decode cX4_splice 54 = .ok (.iadd, 1) := by decide +kernel
theorem dX4_splice_55 : decode cX4_splice 55 = .ok (.aload 7, 2) := by decide +kernel
theorem dX4_splice_57 : decode cX4_splice 57 = .ok (.iload 4, 2) := by decide +kernel
theorem dX4_splice_59 : decode cX4_splice 59 = .ok (.iload 8, 2) := by decide +kernel
theorem dX4_splice_61 : decode cX4_splice 61 = .ok (.iadd, 1) := by decide +kernel
theorem dX4_splice_62 : decode cX4_splice 62 = .ok (.invokevirtual 176, 3) := by decide +kernel
theorem dX4_splice_65 : decode cX4_splice 65 = .ok (.istore 9, 2) := by decide +kernel
theorem dX4_splice_67 : decode cX4_splice 67 = .ok (.iload 9, 2) := by decide +kernel
theorem dX4_splice_69 : decode cX4_splice 69 = .ok (.ifCond .eq 12, 3) := by decide +kernel
theorem dX4_splice_72 : decode cX4_splice 72 = .ok (.aload_n 0, 1) := by decide +kernel
theorem dX4_splice_73 : decode cX4_splice 73 = .ok (.iload 9, 2) := by decide +kernel
theorem dX4_splice_75 : decode cX4_splice 75 = .ok (.invokevirtual 133, 3) := by decide +kernel
theorem dX4_splice_78 : decode cX4_splice 78 = .ok (.iload 8, 2) := by decide +kernel
theorem dX4_splice_80 : decode cX4_splice 80 = .ok (.ireturn, 1) := by decide +kernel
theorem dX4_splice_81 : decode cX4_splice 81 = .ok (.iinc 8 1, 3) := by decide +kernel
theorem dX4_splice_84 : decode cX4_splice 84 = .ok (.goto (-43), 3) := by decide +kernel
theorem dX4_splice_87 : decode cX4_splice 87 = .ok (.aload_n 0, 1) := by decide +kernel
theorem dX4_splice_88 : decode cX4_splice 88 = .ok (.iconst 0, 1) := by decide +kernel
theorem dX4_splice_89 : decode cX4_splice 89 = .ok (.invokevirtual 133, 3) := by decide +kernel
theorem dX4_splice_92 : decode cX4_splice 92 = .ok (.iload 5, 2) := by decide +kernel
theorem dX4_splice_94 : decode cX4_splice 94 = .ok (.ireturn, 1) := by decide +kernel
theorem dX4_dub_0 : decode cX4_dub 0 = .ok (.aload_n 0, 1) := by decide +kernel
theorem dX4_dub_1 : decode cX4_dub 1 = .ok (.iload_n 1, 1) := by decide +kernel
theorem dX4_dub_2 : decode cX4_dub 2 = .ok (.invokevirtual 59, 3) := by decide +kernel
theorem dX4_dub_5 : decode cX4_dub 5 = .ok (.astore 4, 2) := by decide +kernel
theorem dX4_dub_7 : decode cX4_dub 7 = .ok (.aload_n 0, 1) := by decide +kernel
theorem dX4_dub_8 : decode cX4_dub 8 = .ok (.iload_n 2, 1) := by decide +kernel
theorem dX4_dub_9 : decode cX4_dub 9 = .ok (.invokevirtual 59, 3) := by decide +kernel
theorem dX4_dub_12 : decode cX4_dub 12 = .ok (.astore 5, 2) := by decide +kernel
theorem dX4_dub_14 : decode cX4_dub 14 = .ok (.aload 4, 2) := by decide +kernel
theorem dX4_dub_16 : decode cX4_dub 16 = .ok (.ifnull 15, 3) := by decide +kernel
theorem dX4_dub_19 : decode cX4_dub 19 = .ok (.aload 5, 2) := by decide +kernel
theorem dX4_dub_21 : decode cX4_dub 21 = .ok (.ifnull 10, 3) := by decide +kernel
theorem dX4_dub_24 : decode cX4_dub 24 = .ok (.iload_n 3, 1) := by decide +kernel
theorem dX4_dub_25 : decode cX4_dub 25 = .ok (.invokestatic 63, 3) := by decide +kernel
theorem dX4_dub_28 : decode cX4_dub 28 = .ok (.ifCond .ne 5, 3) := by decide +kernel
theorem dX4_dub_31 : decode cX4_dub 31 = .ok (.iconst (-1), 1) := by decide +kernel
theorem dX4_dub_32 : decode cX4_dub 32 = .ok (.ireturn, 1) := by decide +kernel
theorem dX4_dub_33 : decode cX4_dub 33 = .ok (.aload 5, 2) := by decide +kernel
theorem dX4_dub_35 : decode cX4_dub 35 = .ok (.getfield 84, 3) := by decide +kernel
theorem dX4_dub_38 : decode cX4_dub 38 = .ok (.astore 6, 2) := by decide +kernel
theorem dX4_dub_40 : decode cX4_dub 40 = .ok (.aload 6, 2) := by decide +kernel
theorem dX4_dub_42 : decode cX4_dub 42 = .ok (.ifnonnull 14, 3) := by decide +kernel
theorem dX4_dub_45 : decode cX4_dub 45 = .ok (.aload_n 0, 1) := by decide +kernel
theorem dX4_dub_46 : decode cX4_dub 46 = .ok (.aload 5, 2) := by decide +kernel
theorem dX4_dub_48 : decode cX4_dub 48 = .ok (.invokevirtual 180, 3) := by decide +kernel
theorem dX4_dub_51 : decode cX4_dub 51 = .ok (.iconst 0, 1) := by decide +kernel
theorem dX4_dub_52 : decode cX4_dub 52 = .ok (.invokevirtual 67, 3) := by decide +kernel
theorem dX4_dub_55 : decode cX4_dub 55 = .ok (.ireturn, 1) := by decide +kernel
theorem dX4_dub_56 : decode cX4_dub 56 = .ok (.new 71, 3) := by decide +kernel
theorem dX4_dub_59 : decode cX4_dub 59 = .ok (.dup, 1) := by decide +kernel
theorem dX4_dub_60 : decode cX4_dub 60 = .ok (.iload_n 3, 1) := by decide +kernel
theorem dX4_dub_61 : decode cX4_dub 61 = .ok (.aload 6, 2) := by decide +kernel
theorem dX4_dub_63 : decode cX4_dub 63 = .ok (.getfield 145, 3) := by decide +kernel
theorem dX4_dub_66 : decode cX4_dub 66 = .ok (.invokespecial 73, 3) := by decide +kernel
theorem dX4_dub_69 : decode cX4_dub 69 = .ok (.astore 7, 2) := by decide +kernel
theorem dX4_dub_71 : decode cX4_dub 71 = .ok (.iconst 0, 1) := by decide +kernel
theorem dX4_dub_72 : decode cX4_dub 72 = .ok (.istore 8, 2) := by decide +kernel
theorem dX4_dub_74 : decode cX4_dub 74 = .ok (.iconst 0, 1) := by decide +kernel
theorem dX4_dub_75 : decode cX4_dub 75 = .ok (.istore 9, 2) := by decide +kernel
theorem dX4_dub_77 : decode cX4_dub 77 = .ok (.iload 9, 2) := by decide +kernel
theorem dX4_dub_79 : decode cX4_dub 79 = .ok (.aload 6, 2) := by decide +kernel
theorem dX4_dub_81 : decode cX4_dub 81 = .ok (.getfield 145, 3) := by decide +kernel
theorem dX4_dub_84 : decode cX4_dub 84 = .ok (.if_icmp .ge 45, 3) := by decide +kernel
theorem dX4_dub_87 : decode cX4_dub 87 = .ok (.iload 8, 2) := by decide +kernel
theorem dX4_dub_89 : decode cX4_dub 89 = .ok (.ifCond .ne 40, 3) := by decide +kernel
theorem dX4_dub_92 : decode cX4_dub 92 = .ok (.aload 6, 2) := by decide +kernel
theorem dX4_dub_94 : decode cX4_dub 94 = .ok (.iload 9, 2) := by decide +kernel
theorem dX4_dub_96 : decode cX4_dub 96 = .ok (.aload_n 0, 1) := by decide +kernel
theorem dX4_dub_97 : decode cX4_dub 97 = .ok (.getfield 49, 3) := by decide +kernel
theorem dX4_dub_100 : decode cX4_dub 100 = .ok (.invokevirtual 183, 3) := by decide +kernel
theorem dX4_dub_103 : decode cX4_dub 103 = .ok (.istore 8, 2) := by decide +kernel
theorem dX4_dub_105 : decode cX4_dub 105 = .ok (.iload 8, 2) := by decide +kernel
theorem dX4_dub_107 : decode cX4_dub 107 = .ok (.ifCond .ne 16, 3) := by decide +kernel
theorem dX4_dub_110 : decode cX4_dub 110 = .ok (.aload 7, 2) := by decide +kernel
theorem dX4_dub_112 : decode cX4_dub 112 = .ok (.iload 9, 2) := by decide +kernel
theorem dX4_dub_114 : decode cX4_dub 114 = .ok (.aload_n 0, 1) := by decide +kernel
theorem dX4_dub_115 : decode cX4_dub 115 = .ok (.getfield 49, 3) := by decide +kernel
theorem dX4_dub_118 : decode cX4_dub 118 = .ok (.invokevirtual 186, 3) := by decide +kernel
theorem dX4_dub_121 : decode cX4_dub 121 = .ok (.istore 8, 2) := by decide +kernel
theorem dX4_dub_123 : decode cX4_dub 123 = .ok (.iinc 9 1, 3) := by decide +kernel
theorem dX4_dub_126 : decode cX4_dub 126 = .ok (.goto (-49), 3) := by decide +kernel
theorem dX4_dub_129 : decode cX4_dub 129 = .ok (.iload 8, 2) := by decide +kernel
theorem dX4_dub_131 : decode cX4_dub 131 = .ok (.ifCond .ne 11, 3) := by decide +kernel
theorem dX4_dub_134 : decode cX4_dub 134 = .ok (.aload 4, 2) := by decide +kernel
theorem dX4_dub_136 : decode cX4_dub 136 = .ok (.aload 7, 2) := by decide +kernel
theorem dX4_dub_138 : decode cX4_dub 138 = .ok (.iconst 0, 1) := by decide +kernel
theorem dX4_dub_139 : decode cX4_dub 139 = .ok (.invokevirtual 76, 3) := by decide +kernel
theorem dX4_dub_142 : decode cX4_dub 142 = .ok (.aload_n 0, 1) := by decide +kernel
theorem dX4_dub_143 : decode cX4_dub 143 = .ok (.iload 8, 2) := by decide +kernel
theorem dX4_dub_145 : decode cX4_dub 145 = .ok (.aload 7, 2) := by decide +kernel
theorem dX4_dub_147 : decode cX4_dub 147 = .ok (.getfield 145, 3) := by decide +kernel
theorem dX4_dub_150 : decode cX4_dub 150 = .ok (.invokevirtual 67, 3) := by decide +kernel
theorem dX4_dub_153 : decode cX4_dub 153 = .ok (.ireturn, 1) := by decide +kernel
theorem dX4_sum_0 : decode cX4_sum 0 = .ok (.aload_n 0, 1) := by decide +kernel
theorem dX4_sum_1 : decode cX4_sum 1 = .ok (.iload_n 1, 1) := by decide +kernel
theorem dX4_sum_2 : decode cX4_sum 2 = .ok (.invokevirtual 59, 3) := by decide +kernel
theorem dX4_sum_5 : decode cX4_sum 5 = .ok (.astore_n 2, 1) := by decide +kernel
theorem dX4_sum_6 : decode cX4_sum 6 = .ok (.aload_n 2, 1) := by decide +kernel
theorem dX4_sum_7 : decode cX4_sum 7 = .ok (.ifnonnull 5, 3) := by decide +kernel
theorem dX4_sum_10 : decode cX4_sum 10 = .ok (.lconst 0, 1) := by decide +kernel
theorem dX4_sum_11 : decode cX4_sum 11 = .ok (.lreturn, 1) := by decide +kernel
theorem dX4_sum_12 : decode cX4_sum 12 = .ok (.aload_n 2, 1) := by decide +kernel
theorem dX4_sum_13 : decode cX4_sum 13 = .ok (.getfield 84, 3) := by decide +kernel
theorem dX4_sum_16 : decode cX4_sum 16 = .ok (.astore_n 3, 1) := by decide +kernel
theorem dX4_sum_17 : decode cX4_sum 17 = .ok (.aload_n 3, 1) := by decide +kernel
theorem dX4_sum_18 : decode cX4_sum 18 = .ok (.ifnonnull 13, 3) := by decide +kernel
theorem dX4_sum_21 : decode cX4_sum 21 = .ok (.aload_n 0, 1) := by decide +kernel
theorem dX4_sum_22 : decode cX4_sum 22 = .ok (.aload_n 2, 1) := by decide +kernel
theorem dX4_sum_23 : decode cX4_sum 23 = .ok (.invokevirtual 180, 3) := by decide +kernel
theorem dX4_sum_26 : decode cX4_sum 26 = .ok (.invokevirtual 133, 3) := by decide +kernel
theorem dX4_sum_29 : decode cX4_sum 29 = .ok (.lconst 0, 1) := by decide +kernel
theorem dX4_sum_30 : decode cX4_sum 30 = .ok (.lreturn, 1) := by decide +kernel
theorem dX4_sum_31 : decode cX4_sum 31 = .ok (.lconst 0, 1) := by decide +kernel
theorem dX4_sum_32 : decode cX4_sum 32 = .ok (.lstore 4, 2) := by decide +kernel
theorem dX4_sum_34 : decode cX4_sum 34 = .ok (.iconst 0, 1) := by decide +kernel
theorem dX4_sum_35 : decode cX4_sum 35 = .ok (.istore 6, 2) := by decide +kernel
theorem dX4_sum_37 : decode cX4_sum 37 = .ok (.iload 6, 2) := by decide +kernel
theorem dX4_sum_39 : decode cX4_sum 39 = .ok (.aload_n 3, 1) := by decide +kernel
theorem dX4_sum_40 : decode cX4_sum 40 = .ok (.getfield 145, 3) := by decide +kernel
theorem dX4_sum_43 : decode cX4_sum 43 = .ok (.if_icmp .ge 21, 3) := by decide +kernel
theorem dX4_sum_46 : decode cX4_sum 46 = .ok (.lload 4, 2) := by decide +kernel
theorem dX4_sum_48 : decode cX4_sum 48 = .ok (.aload_n 3, 1) := by decide +kernel
theorem dX4_sum_49 : decode cX4_sum 49 = .ok (.getfield 189, 3) := by decide +kernel
theorem dX4_sum_52 : decode cX4_sum 52 = .ok (.iload 6, 2) := by decide +kernel
theorem dX4_sum_54 : decode cX4_sum 54 = .ok (.laload, 1) := by decide +kernel
theorem dX4_sum_55 : decode cX4_sum 55 = .ok (.ladd, 1) := by decide +kernel
theorem dX4_sum_56 : decode cX4_sum 56 = .ok (.lstore 4, 2) := by decide +kernel
theorem dX4_sum_58 : decode cX4_sum 58 = .ok (.iinc 6 1, 3) := by decide +kernel
theorem dX4_sum_61 : decode cX4_sum 61 = .ok (.goto (-24), 3) := by decide +kernel
theorem dX4_sum_64 : decode cX4_sum 64 = .ok (.aload_n 0, 1) := by decide +kernel
theorem dX4_sum_65 : decode cX4_sum 65 = .ok (.iconst 0, 1) := by decide +kernel
theorem dX4_sum_66 : decode cX4_sum 66 = .ok (.invokevirtual 133, 3) := by decide +kernel
theorem dX4_sum_69 : decode cX4_sum 69 = .ok (.lload 4, 2) := by decide +kernel
theorem dX4_sum_71 : decode cX4_sum 71 = .ok (.lreturn, 1) := by decide +kernel
theorem dX4_match_0 : decode cX4_match 0 = .ok (.aload_n 0, 1) := by decide +kernel
theorem dX4_match_1 : decode cX4_match 1 = .ok (.iload_n 1, 1) := by decide +kernel
theorem dX4_match_2 : decode cX4_match 2 = .ok (.invokevirtual 59, 3) := by decide +kernel
theorem dX4_match_5 : decode cX4_match 5 = .ok (.astore_n 3, 1) := by decide +kernel
theorem dX4_match_6 : decode cX4_match 6 = .ok (.aload_n 0, 1) := by decide +kernel
theorem dX4_match_7 : decode cX4_match 7 = .ok (.iload_n 2, 1) := by decide +kernel
theorem dX4_match_8 : decode cX4_match 8 = .ok (.invokevirtual 59, 3) := by decide +kernel
theorem dX4_match_11 : decode cX4_match 11 = .ok (.astore 4, 2) := by decide +kernel
theorem dX4_match_13 : decode cX4_match 13 = .ok (.aload_n 3, 1) := by decide +kernel
theorem dX4_match_14 : decode cX4_match 14 = .ok (.ifnull 8, 3) := by decide +kernel
theorem dX4_match_17 : decode cX4_match 17 = .ok (.aload 4, 2) := by decide +kernel
theorem dX4_match_19 : decode cX4_match 19 = .ok (.ifnonnull 6, 3) := by decide +kernel
theorem dX4_match_22 : decode cX4_match 22 = .ok (.bipush (-101), 2) := by decide +kernel
theorem dX4_match_24 : decode cX4_match 24 = .ok (.ireturn, 1) := by decide +kernel
theorem dX4_match_25 : decode cX4_match 25 = .ok (.aload_n 3, 1) := by decide +kernel
theorem dX4_match_26 : decode cX4_match 26 = .ok (.getfield 84, 3) := by decide +kernel
theorem dX4_match_29 : decode cX4_match 29 = .ok (.astore 5, 2) := by decide +kernel
theorem dX4_match_31 : decode cX4_match 31 = .ok (.aload 4, 2) := by decide +kernel
theorem dX4_match_33 : decode cX4_match 33 = .ok (.getfield 84, 3) := by decide +kernel
theorem dX4_match_36 : decode cX4_match 36 = .ok (.astore 6, 2) := by decide +kernel
theorem dX4_match_38 : decode cX4_match 38 = .ok (.aload 5, 2) := by decide +kernel
theorem dX4_match_40 : decode cX4_match 40 = .ok (.ifnull 8, 3) := by decide +kernel
theorem dX4_match_43 : decode cX4_match 43 = .ok (.aload 6, 2) := by decide +kernel
theorem dX4_match_45 : decode cX4_match 45 = .ok (.ifnonnull 34, 3) := by decide +kernel
theorem dX4_match_48 : decode cX4_match 48 = .ok (.aload 5, 2) := by decide +kernel
theorem dX4_match_50 : decode cX4_match 50 = .ok (.ifnonnull 10, 3) := by decide +kernel
theorem dX4_match_53 : decode cX4_match 53 = .ok (.aload_n 3, 1) := by decide +kernel
theorem dX4_match_54 : decode cX4_match 54 = .ok (.invokevirtual 180, 3) := by decide +kernel
theorem dX4_match_57 : decode cX4_match 57 = .ok (.goto 8, 3) := by decide +kernel
theorem dX4_match_60 : decode cX4_match 60 = .ok (.aload 4, 2) := by decide +kernel
theorem dX4_match_62 : decode cX4_match 62 = .ok (.invokevirtual 180, 3) := by decide +kernel
theorem dX4_match_65 : decode cX4_match 65 = .ok (.istore 7, 2) := by decide +kernel
theorem dX4_match_67 : decode cX4_match 67 = .ok (.aload_n 0, 1) := by decide +kernel
theorem dX4_match_68 : decode cX4_match 68 = .ok (.iload 7, 2) := by decide +kernel
theorem dX4_match_70 : decode cX4_match 70 = .ok (.invokevirtual 133, 3) := by decide +kernel
theorem dX4_match_73 : decode cX4_match 73 = .ok (.bipush (-110), 2) := by decide +kernel
theorem dX4_match_75 : decode cX4_match 75 = .ok (.iload 7, 2) := by decide +kernel
theorem dX4_match_77 : decode cX4_match 77 = .ok (.isub, 1) := by decide +kernel
theorem dX4_match_78 : decode cX4_match 78 = .ok (.ireturn, 1) := by decide +kernel
theorem dX4_match_79 : decode cX4_match 79 = .ok (.aload_n 0, 1) := by decide +kernel
theorem dX4_match_80 : decode cX4_match 80 = .ok (.iconst 0, 1) := by decide +kernel
theorem dX4_match_81 : decode cX4_match 81 = .ok (.invokevirtual 133, 3) := by decide +kernel
theorem dX4_match_84 : decode cX4_match 84 = .ok (.aload 5, 2) := by decide +kernel
theorem dX4_match_86 : decode cX4_match 86 = .ok (.getfield 145, 3) := by decide +kernel
theorem dX4_match_89 : decode cX4_match 89 = .ok (.aload 6, 2) := by decide +kernel
theorem dX4_match_91 : decode cX4_match 91 = .ok (.getfield 145, 3) := by decide +kernel
theorem dX4_match_94 : decode cX4_match 94 = .ok (.invokestatic 193, 3) := by decide +kernel
theorem dX4_match_97 : decode cX4_match 97 = .ok (.istore 7, 2) := by decide +kernel
theorem dX4_match_99 : decode cX4_match 99 = .ok (.iconst 0, 1) := by decide +kernel
theorem dX4_match_100 : decode cX4_match 100 = .ok (.istore 8, 2) := by decide +kernel
theorem dX4_match_102 : decode cX4_match 102 = .ok (.iload 8, 2) := by decide +kernel
theorem dX4_match_104 : decode cX4_match 104 = .ok (.iload 7, 2) := by decide +kernel
theorem dX4_match_106 : decode cX4_match 106 = .ok (.if_icmp .ge 32, 3) := by decide +kernel
theorem dX4_match_109 : decode cX4_match 109 = .ok (.aload 5, 2) := by decide +kernel
theorem dX4_match_111 : decode cX4_match 111 = .ok (.getfield 189, 3) := by decide +kernel
theorem dX4_match_114 : decode cX4_match 114 = .ok (.iload 8, 2) := by decide +kernel
theorem dX4_match_116 : decode cX4_match 116 = .ok (.laload, 1) := by decide +kernel
theorem dX4_match_117 : decode cX4_match 117 = .ok (.aload 6, 2) := by decide +kernel
theorem dX4_match_119 : decode cX4_match 119 = .ok (.getfield 189, 3) := by decide +kernel
theorem dX4_match_122 : decode cX4_match 122 = .ok (.iload 8, 2) := by decide +kernel
theorem dX4_match_124 : decode cX4_match 124 = .ok (.laload, 1) := by decide +kernel
theorem dX4_match_125 : decode cX4_match 125 = .ok (.lcmp, 1) := by decide +kernel
theorem dX4_match_126 : decode cX4_match 126 = .ok (.ifCond .eq 6, 3) := by decide +kernel
theorem dX4_match_129 : decode cX4_match 129 = .ok (.iload 8, 2) := by decide +kernel
theorem dX4_match_131 : decode cX4_match 131 = .ok (.ireturn, 1) := by decide +kernel
theorem dX4_match_132 : decode cX4_match 132 = .ok (.iinc 8 1, 3) := by decide +kernel
theorem dX4_match_135 : decode cX4_match 135 = .ok (.goto (-33), 3) := by decide +kernel
theorem dX4_match_138 : decode cX4_match 138 = .ok (.aload 5, 2) := by decide +kernel
theorem dX4_match_140 : decode cX4_match 140 = .ok (.getfield 145, 3) := by decide +kernel
theorem dX4_match_143 : decode cX4_match 143 = .ok (.aload 6, 2) := by decide +kernel
theorem dX4_match_145 : decode cX4_match 145 = .ok (.getfield 145, 3) := by decide +kernel
theorem dX4_match_148 : decode cX4_match 148 = .ok (.if_icmp .ne 10, 3) := by decide +kernel
theorem dX4_match_151 : decode cX4_match 151 = .ok (.iconst (-1), 1) := by decide +kernel
theorem dX4_match_152 : decode cX4_match 152 = .ok (.iload 7, 2) := by decide +kernel
theorem dX4_match_154 : decode cX4_match 154 = .ok (.isub, 1) := by decide +kernel
theorem dX4_match_155 : decode cX4_match 155 = .ok (.goto 5, 3) := by decide +kernel
theorem dX4_match_158 : decode cX4_match 158 = .ok (.iload 7, 2) := by decide +kernel
theorem dX4_match_160 : decode cX4_match 160 = .ok (.ireturn, 1) := by decide +kernel
theorem dX4_why_0 : decode cX4_why 0 = .ok (.aload_n 0, 1) := by decide +kernel
theorem dX4_why_1 : decode cX4_why 1 = .ok (.getfield 43, 3) := by decide +kernel
theorem dX4_why_4 : decode cX4_why 4 = .ok (.ireturn, 1) := by decide +kernel
theorem dX4_number_0 : decode cX4_number 0 = .ok (.aload_n 0, 1) := by decide +kernel
theorem dX4_number_1 : decode cX4_number 1 = .ok (.iload_n 1, 1) := by decide +kernel
theorem dX4_number_2 : decode cX4_number 2 = .ok (.invokevirtual 59, 3) := by decide +kernel
theorem dX4_number_5 : decode cX4_number 5 = .ok (.astore_n 3, 1) := by decide +kernel
theorem dX4_number_6 : decode cX4_number 6 = .ok (.aload_n 3, 1) := by decide +kernel
theorem dX4_number_7 : decode cX4_number 7 = .ok (.ifnonnull 5, 3) := by decide +kernel
theorem dX4_number_10 : decode cX4_number 10 = .ok (.lconst 0, 1) := by decide +kernel
theorem dX4_number_11 : decode cX4_number 11 = .ok (.lreturn, 1) := by decide +kernel
theorem dX4_number_12 : decode cX4_number 12 = .ok (.aload_n 3, 1) := by decide +kernel
theorem dX4_number_13 : decode cX4_number 13 = .ok (.iload_n 2, 1) := by decide +kernel
theorem dX4_number_14 : decode cX4_number 14 = .ok (.aload_n 0, 1) := by decide +kernel
theorem dX4_number_15 : decode cX4_number 15 = .ok (.getfield 49, 3) := by decide +kernel
theorem dX4_number_18 : decode cX4_number 18 = .ok (.invokevirtual 123, 3) := by decide +kernel
theorem dX4_number_21 : decode cX4_number 21 = .ok (.istore 4, 2) := by decide +kernel
theorem dX4_number_23 : decode cX4_number 23 = .ok (.aload_n 0, 1) := by decide +kernel
theorem dX4_number_24 : decode cX4_number 24 = .ok (.iload 4, 2) := by decide +kernel
theorem dX4_number_26 : decode cX4_number 26 = .ok (.invokevirtual 133, 3) := by decide +kernel
theorem dX4_number_29 : decode cX4_number 29 = .ok (.iload 4, 2) := by decide +kernel
theorem dX4_number_31 : decode cX4_number 31 = .ok (.ifCond .ne 13, 3) := by decide +kernel
theorem dX4_number_34 : decode cX4_number 34 = .ok (.aload_n 0, 1) := by decide +kernel
theorem dX4_number_35 : decode cX4_number 35 = .ok (.getfield 49, 3) := by decide +kernel
theorem dX4_number_38 : decode cX4_number 38 = .ok (.getfield 136, 3) := by decide +kernel
theorem dX4_number_41 : decode cX4_number 41 = .ok (.goto 4, 3) := by decide +kernel
theorem dX4_number_44 : decode cX4_number 44 = .ok (.lconst 0, 1) := by decide +kernel
theorem dX4_number_45 : decode cX4_number 45 = .ok (.lreturn, 1) := by decide +kernel
theorem dX4_kind_0 : decode cX4_kind 0 = .ok (.aload_n 0, 1) := by decide +kernel
theorem dX4_kind_1 : decode cX4_kind 1 = .ok (.iload_n 1, 1) := by decide +kernel
theorem dX4_kind_2 : decode cX4_kind 2 = .ok (.invokevirtual 59, 3) := by decide +kernel
theorem dX4_kind_5 : decode cX4_kind 5 = .ok (.astore_n 3, 1) := by decide +kernel
theorem dX4_kind_6 : decode cX4_kind 6 = .ok (.aload_n 3, 1) := by decide +kernel
theorem dX4_kind_7 : decode cX4_kind 7 = .ok (.ifnonnull 5, 3) := by decide +kernel
theorem dX4_kind_10 : decode cX4_kind 10 = .ok (.iconst (-1), 1) := by decide +kernel
theorem dX4_kind_11 : decode cX4_kind 11 = .ok (.ireturn, 1) := by decide +kernel
theorem dX4_kind_12 : decode cX4_kind 12 = .ok (.aload_n 3, 1) := by decide +kernel
theorem dX4_kind_13 : decode cX4_kind 13 = .ok (.iload_n 2, 1) := by decide +kernel
theorem dX4_kind_14 : decode cX4_kind 14 = .ok (.aload_n 0, 1) := by decide +kernel
theorem dX4_kind_15 : decode cX4_kind 15 = .ok (.getfield 49, 3) := by decide +kernel
theorem dX4_kind_18 : decode cX4_kind 18 = .ok (.invokevirtual 123, 3) := by decide +kernel
theorem dX4_kind_21 : decode cX4_kind 21 = .ok (.istore 4, 2) := by decide +kernel
theorem dX4_kind_23 : decode cX4_kind 23 = .ok (.aload_n 0, 1) := by decide +kernel
theorem dX4_kind_24 : decode cX4_kind 24 = .ok (.iload 4, 2) := by decide +kernel
theorem dX4_kind_26 : decode cX4_kind 26 = .ok (.aload_n 0, 1) := by decide +kernel
theorem dX4_kind_27 : decode cX4_kind 27 = .ok (.getfield 49, 3) := by decide +kernel
theorem dX4_kind_30 : decode cX4_kind 30 = .ok (.getfield 126, 3) := by decide +kernel
theorem dX4_kind_33 : decode cX4_kind 33 = .ok (.invokevirtual 67, 3) := by decide +kernel
theorem dX4_kind_36 : decode cX4_kind 36 = .ok (.ireturn, 1) := by decide +kernel
theorem dX4_cells_0 : decode cX4_cells 0 = .ok (.aload_n 0, 1) := by decide +kernel
theorem dX4_cells_1 : decode cX4_cells 1 = .ok (.iload_n 1, 1) := by decide +kernel
theorem dX4_cells_2 : decode cX4_cells 2 = .ok (.invokevirtual 59, 3) := by decide +kernel
theorem dX4_cells_5 : decode cX4_cells 5 = .ok (.astore_n 2, 1) := by decide +kernel
theorem dX4_cells_6 : decode cX4_cells 6 = .ok (.aload_n 2, 1) := by decide +kernel
theorem dX4_cells_7 : decode cX4_cells 7 = .ok (.ifnonnull 5, 3) := by decide +kernel
theorem dX4_cells_10 : decode cX4_cells 10 = .ok (.iconst (-1), 1) := by decide +kernel
theorem dX4_cells_11 : decode cX4_cells 11 = .ok (.ireturn, 1) := by decide +kernel
theorem dX4_cells_12 : decode cX4_cells 12 = .ok (.aload_n 2, 1) := by decide +kernel
theorem dX4_cells_13 : decode cX4_cells 13 = .ok (.getfield 84, 3) := by decide +kernel
theorem dX4_cells_16 : decode cX4_cells 16 = .ok (.astore_n 3, 1) := by decide +kernel
theorem dX4_cells_17 : decode cX4_cells 17 = .ok (.aload_n 3, 1) := by decide +kernel
theorem dX4_cells_18 : decode cX4_cells 18 = .ok (.ifnonnull 13, 3) := by decide +kernel
theorem dX4_cells_21 : decode cX4_cells 21 = .ok (.aload_n 0, 1) := by decide +kernel
theorem dX4_cells_22 : decode cX4_cells 22 = .ok (.aload_n 2, 1) := by decide +kernel
theorem dX4_cells_23 : decode cX4_cells 23 = .ok (.invokevirtual 180, 3) := by decide +kernel
theorem dX4_cells_26 : decode cX4_cells 26 = .ok (.iconst 0, 1) := by decide +kernel
theorem dX4_cells_27 : decode cX4_cells 27 = .ok (.invokevirtual 67, 3) := by decide +kernel
theorem dX4_cells_30 : decode cX4_cells 30 = .ok (.ireturn, 1) := by decide +kernel
theorem dX4_cells_31 : decode cX4_cells 31 = .ok (.aload_n 0, 1) := by decide +kernel
theorem dX4_cells_32 : decode cX4_cells 32 = .ok (.iconst 0, 1) := by decide +kernel
theorem dX4_cells_33 : decode cX4_cells 33 = .ok (.aload_n 3, 1) := by decide +kernel
theorem dX4_cells_34 : decode cX4_cells 34 = .ok (.getfield 145, 3) := by decide +kernel
theorem dX4_cells_37 : decode cX4_cells 37 = .ok (.invokevirtual 67, 3) := by decide +kernel
theorem dX4_cells_40 : decode cX4_cells 40 = .ok (.ireturn, 1) := by decide +kernel
theorem dX4_of_0 : decode cX4_of 0 = .ok (.aload_n 0, 1) := by decide +kernel
theorem dX4_of_1 : decode cX4_of 1 = .ok (.iload_n 1, 1) := by decide +kernel
theorem dX4_of_2 : decode cX4_of 2 = .ok (.invokevirtual 59, 3) := by decide +kernel
theorem dX4_of_5 : decode cX4_of 5 = .ok (.astore_n 3, 1) := by decide +kernel
theorem dX4_of_6 : decode cX4_of 6 = .ok (.aload_n 3, 1) := by decide +kernel
theorem dX4_of_7 : decode cX4_of 7 = .ok (.ifnonnull 6, 3) := by decide +kernel
theorem dX4_of_10 : decode cX4_of 10 = .ok (.ldc 200, 2) := by decide +kernel
theorem dX4_of_12 : decode cX4_of 12 = .ok (.ireturn, 1) := by decide +kernel
theorem dX4_of_13 : decode cX4_of 13 = .ok (.iload_n 2, 1) := by decide +kernel
theorem dX4_of_14 : decode cX4_of 14 = .ok (.tableswitch 58 0 3 #[30, 35, 40, 53], 30) := by decide +kernel
theorem dX4_of_44 : decode cX4_of 44 = .ok (.aload_n 3, 1) := by decide +kernel
theorem dX4_of_45 : decode cX4_of 45 = .ok (.getfield 96, 3) := by decide +kernel
theorem dX4_of_48 : decode cX4_of 48 = .ok (.ireturn, 1) := by decide +kernel
theorem dX4_of_49 : decode cX4_of 49 = .ok (.aload_n 3, 1) := by decide +kernel
theorem dX4_of_50 : decode cX4_of 50 = .ok (.getfield 99, 3) := by decide +kernel
theorem dX4_of_53 : decode cX4_of 53 = .ok (.ireturn, 1) := by decide +kernel
theorem dX4_of_54 : decode cX4_of 54 = .ok (.aload_n 3, 1) := by decide +kernel
theorem dX4_of_55 : decode cX4_of 55 = .ok (.getfield 102, 3) := by decide +kernel
theorem dX4_of_58 : decode cX4_of 58 = .ok (.ifCond .eq 7, 3) := by decide +kernel
theorem dX4_of_61 : decode cX4_of 61 = .ok (.iconst 1, 1) := by decide +kernel
theorem dX4_of_62 : decode cX4_of 62 = .ok (.goto 4, 3) := by decide +kernel
theorem dX4_of_65 : decode cX4_of 65 = .ok (.iconst 0, 1) := by decide +kernel
theorem dX4_of_66 : decode cX4_of 66 = .ok (.ireturn, 1) := by decide +kernel
theorem dX4_of_67 : decode cX4_of 67 = .ok (.aload_n 3, 1) := by decide +kernel
theorem dX4_of_68 : decode cX4_of 68 = .ok (.invokevirtual 92, 3) := by decide +kernel
theorem dX4_of_71 : decode cX4_of 71 = .ok (.ireturn, 1) := by decide +kernel
theorem dX4_of_72 : decode cX4_of 72 = .ok (.ldc 200, 2) := by decide +kernel
theorem dX4_of_74 : decode cX4_of 74 = .ok (.ireturn, 1) := by decide +kernel
theorem dX4_told_0 : decode cX4_told 0 = .ok (.aload_n 0, 1) := by decide +kernel
theorem dX4_told_1 : decode cX4_told 1 = .ok (.iload_n 1, 1) := by decide +kernel
theorem dX4_told_2 : decode cX4_told 2 = .ok (.invokevirtual 151, 3) := by decide +kernel
theorem dX4_told_5 : decode cX4_told 5 = .ok (.astore_n 3, 1) := by decide +kernel
theorem dX4_told_6 : decode cX4_told 6 = .ok (.aload_n 3, 1) := by decide +kernel
theorem dX4_told_7 : decode cX4_told 7 = .ok (.ifnonnull 5, 3) := by decide +kernel
theorem dX4_told_10 : decode cX4_told 10 = .ok (.iconst (-1), 1) := by decide +kernel
theorem dX4_told_11 : decode cX4_told 11 = .ok (.ireturn, 1) := by decide +kernel
theorem dX4_told_12 : decode cX4_told 12 = .ok (.iload_n 2, 1) := by decide +kernel
theorem dX4_told_13 : decode cX4_told 13 = .ok (.tableswitch 101 0 7 #[47, 52, 60, 68, 81, 86, 91, 96], 47) := by decide +kernel
theorem dX4_told_60 : decode cX4_told 60 = .ok (.aload_n 3, 1) := by decide +kernel
theorem dX4_told_61 : decode cX4_told 61 = .ok (.getfield 201, 3) := by decide +kernel
theorem dX4_told_64 : decode cX4_told 64 = .ok (.ireturn, 1) := by decide +kernel
theorem dX4_told_65 : decode cX4_told 65 = .ok (.aload_n 3, 1) := by decide +kernel
theorem dX4_told_66 : decode cX4_told 66 = .ok (.getfield 202, 3) := by decide +kernel
theorem dX4_told_69 : decode cX4_told 69 = .ok (.getfield 206, 3) := by decide +kernel
theorem dX4_told_72 : decode cX4_told 72 = .ok (.ireturn, 1) := by decide +kernel
theorem dX4_told_73 : decode cX4_told 73 = .ok (.aload_n 3, 1) := by decide +kernel
theorem dX4_told_74 : decode cX4_told 74 = .ok (.getfield 209, 3) := by decide +kernel
theorem dX4_told_77 : decode cX4_told 77 = .ok (.getfield 206, 3) := by decide +kernel
theorem dX4_told_80 : decode cX4_told 80 = .ok (.ireturn, 1) := by decide +kernel
theorem dX4_told_81 : decode cX4_told 81 = .ok (.aload_n 3, 1) := by decide +kernel
theorem dX4_told_82 : decode cX4_told 82 = .ok (.getfield 158, 3) := by decide +kernel
theorem dX4_told_85 : decode cX4_told 85 = .ok (.ifCond .eq 7, 3) := by decide +kernel
theorem dX4_told_88 : decode cX4_told 88 = .ok (.iconst 1, 1) := by decide +kernel
theorem dX4_told_89 : decode cX4_told 89 = .ok (.goto 4, 3) := by decide +kernel
theorem dX4_told_92 : decode cX4_told 92 = .ok (.iconst 0, 1) := by decide +kernel
theorem dX4_told_93 : decode cX4_told 93 = .ok (.ireturn, 1) := by decide +kernel
theorem dX4_told_94 : decode cX4_told 94 = .ok (.aload_n 3, 1) := by decide +kernel
theorem dX4_told_95 : decode cX4_told 95 = .ok (.getfield 155, 3) := by decide +kernel
theorem dX4_told_98 : decode cX4_told 98 = .ok (.ireturn, 1) := by decide +kernel
theorem dX4_told_99 : decode cX4_told 99 = .ok (.aload_n 3, 1) := by decide +kernel
theorem dX4_told_100 : decode cX4_told 100 = .ok (.getfield 161, 3) := by decide +kernel
theorem dX4_told_103 : decode cX4_told 103 = .ok (.ireturn, 1) := by decide +kernel
theorem dX4_told_104 : decode cX4_told 104 = .ok (.aload_n 3, 1) := by decide +kernel
theorem dX4_told_105 : decode cX4_told 105 = .ok (.getfield 212, 3) := by decide +kernel
theorem dX4_told_108 : decode cX4_told 108 = .ok (.ireturn, 1) := by decide +kernel
theorem dX4_told_109 : decode cX4_told 109 = .ok (.aload_n 3, 1) := by decide +kernel
theorem dX4_told_110 : decode cX4_told 110 = .ok (.getfield 215, 3) := by decide +kernel
theorem dX4_told_113 : decode cX4_told 113 = .ok (.ireturn, 1) := by decide +kernel
theorem dX4_told_114 : decode cX4_told 114 = .ok (.iconst (-1), 1) := by decide +kernel
theorem dX4_told_115 : decode cX4_told 115 = .ok (.ireturn, 1) := by decide +kernel
theorem dX4_fault_0 : decode cX4_fault 0 = .ok (.aload_n 0, 1) := by decide +kernel
theorem dX4_fault_1 : decode cX4_fault 1 = .ok (.getfield 36, 3) := by decide +kernel
theorem dX4_fault_4 : decode cX4_fault 4 = .ok (.bipush 20, 2) := by decide +kernel
theorem dX4_fault_6 : decode cX4_fault 6 = .ok (.invokestatic 193, 3) := by decide +kernel
theorem dX4_fault_9 : decode cX4_fault 9 = .ok (.istore_n 3, 1) := by decide +kernel
theorem dX4_fault_10 : decode cX4_fault 10 = .ok (.iload_n 1, 1) := by decide +kernel
theorem dX4_fault_11 : decode cX4_fault 11 = .ok (.ifCond .lt 17, 3) := by decide +kernel
theorem dX4_fault_14 : decode cX4_fault 14 = .ok (.iload_n 1, 1) := by decide +kernel
theorem dX4_fault_15 : decode cX4_fault 15 = .ok (.iload_n 3, 1) := by decide +kernel
theorem dX4_fault_16 : decode cX4_fault 16 = .ok (.if_icmp .ge 12, 3) := by decide +kernel
theorem dX4_fault_19 : decode cX4_fault 19 = .ok (.iload_n 2, 1) := by decide +kernel
theorem dX4_fault_20 : decode cX4_fault 20 = .ok (.ifCond .lt 8, 3) := by decide +kernel
theorem dX4_fault_23 : decode cX4_fault 23 = .ok (.iload_n 2, 1) := by decide +kernel
theorem dX4_fault_24 : decode cX4_fault 24 = .ok (.iconst 3, 1) := by decide +kernel
theorem dX4_fault_25 : decode cX4_fault 25 = .ok (.if_icmp .lt 5, 3) := by decide +kernel
theorem dX4_fault_28 : decode cX4_fault 28 = .ok (.iconst (-1), 1) := by decide +kernel
theorem dX4_fault_29 : decode cX4_fault 29 = .ok (.ireturn, 1) := by decide +kernel
theorem dX4_fault_30 : decode cX4_fault 30 = .ok (.aload_n 0, 1) := by decide +kernel
theorem dX4_fault_31 : decode cX4_fault 31 = .ok (.getfield 33, 3) := by decide +kernel
theorem dX4_fault_34 : decode cX4_fault 34 = .ok (.aload_n 0, 1) := by decide +kernel
theorem dX4_fault_35 : decode cX4_fault 35 = .ok (.getfield 36, 3) := by decide +kernel
theorem dX4_fault_38 : decode cX4_fault 38 = .ok (.iconst 1, 1) := by decide +kernel
theorem dX4_fault_39 : decode cX4_fault 39 = .ok (.isub, 1) := by decide +kernel
theorem dX4_fault_40 : decode cX4_fault 40 = .ok (.iload_n 1, 1) := by decide +kernel
theorem dX4_fault_41 : decode cX4_fault 41 = .ok (.isub, 1) := by decide +kernel
theorem dX4_fault_42 : decode cX4_fault 42 = .ok (.bipush 20, 2) := by decide +kernel
theorem dX4_fault_44 : decode cX4_fault 44 = .ok (.invokestatic 218, 3) := by decide +kernel
theorem dX4_fault_47 : decode cX4_fault 47 = .ok (.aaload, 1) := by decide +kernel
theorem dX4_fault_48 : decode cX4_fault 48 = .ok (.iload_n 2, 1) := by decide +kernel
theorem dX4_fault_49 : decode cX4_fault 49 = .ok (.iaload, 1) := by decide +kernel
theorem dX4_fault_50 : decode cX4_fault 50 = .ok (.ireturn, 1) := by decide +kernel
theorem dX4_count_0 : decode cX4_count 0 = .ok (.iload_n 1, 1) := by decide +kernel
theorem dX4_count_1 : decode cX4_count 1 = .ok (.tableswitch 42 0 2 #[27, 32, 37], 27) := by decide +kernel
theorem dX4_count_28 : decode cX4_count 28 = .ok (.aload_n 0, 1) := by decide +kernel
theorem dX4_count_29 : decode cX4_count 29 = .ok (.getfield 21, 3) := by decide +kernel
theorem dX4_count_32 : decode cX4_count 32 = .ok (.ireturn, 1) := by decide +kernel
theorem dX4_count_33 : decode cX4_count 33 = .ok (.aload_n 0, 1) := by decide +kernel
theorem dX4_count_34 : decode cX4_count 34 = .ok (.getfield 28, 3) := by decide +kernel
theorem dX4_count_37 : decode cX4_count 37 = .ok (.ireturn, 1) := by decide +kernel
theorem dX4_count_38 : decode cX4_count 38 = .ok (.aload_n 0, 1) := by decide +kernel
theorem dX4_count_39 : decode cX4_count 39 = .ok (.getfield 36, 3) := by decide +kernel
theorem dX4_count_42 : decode cX4_count 42 = .ok (.ireturn, 1) := by decide +kernel
theorem dX4_count_43 : decode cX4_count 43 = .ok (.aload_n 0, 1) := by decide +kernel
theorem dX4_count_44 : decode cX4_count 44 = .ok (.iload_n 1, 1) := by decide +kernel
theorem dX4_count_45 : decode cX4_count 45 = .ok (.iconst 2, 1) := by decide +kernel
theorem dX4_count_46 : decode cX4_count 46 = .ok (.isub, 1) := by decide +kernel
theorem dX4_count_47 : decode cX4_count 47 = .ok (.invokevirtual 221, 3) := by decide +kernel
theorem dX4_count_50 : decode cX4_count 50 = .ok (.ireturn, 1) := by decide +kernel
theorem dX4_channelAt_0 : decode cX4_channelAt 0 = .ok (.iload_n 1, 1) := by decide +kernel
theorem dX4_channelAt_1 : decode cX4_channelAt 1 = .ok (.ifCond .lt 9, 3) := by decide +kernel
theorem dX4_channelAt_4 : decode cX4_channelAt 4 = .ok (.iload_n 1, 1) := by decide +kernel
theorem dX4_channelAt_5 : decode cX4_channelAt 5 = .ok (.bipush 16, 2) := by decide +kernel
theorem dX4_channelAt_7 : decode cX4_channelAt 7 = .ok (.if_icmp .lt 7, 3) := by decide +kernel
theorem dX4_channelAt_10 : decode cX4_channelAt 10 = .ok (.aconst_null, 1) := by decide +kernel
theorem dX4_channelAt_11 : decode cX4_channelAt 11 = .ok (.goto 9, 3) := by decide +kernel
theorem dX4_channelAt_14 : decode cX4_channelAt 14 = .ok (.aload_n 0, 1) := by decide +kernel
theorem dX4_channelAt_15 : decode cX4_channelAt 15 = .ok (.getfield 11, 3) := by decide +kernel
theorem dX4_channelAt_18 : decode cX4_channelAt 18 = .ok (.iload_n 1, 1) := by decide +kernel
theorem dX4_channelAt_19 : decode cX4_channelAt 19 = .ok (.aaload, 1) := by decide +kernel
theorem dX4_channelAt_20 : decode cX4_channelAt 20 = .ok (.areturn, 1) := by decide +kernel
theorem dX4_cableAt_0 : decode cX4_cableAt 0 = .ok (.iload_n 1, 1) := by decide +kernel
theorem dX4_cableAt_1 : decode cX4_cableAt 1 = .ok (.ifCond .lt 9, 3) := by decide +kernel
theorem dX4_cableAt_4 : decode cX4_cableAt 4 = .ok (.iload_n 1, 1) := by decide +kernel
theorem dX4_cableAt_5 : decode cX4_cableAt 5 = .ok (.bipush 24, 2) := by decide +kernel
theorem dX4_cableAt_7 : decode cX4_cableAt 7 = .ok (.if_icmp .lt 7, 3) := by decide +kernel
theorem dX4_cableAt_10 : decode cX4_cableAt 10 = .ok (.aconst_null, 1) := by decide +kernel
theorem dX4_cableAt_11 : decode cX4_cableAt 11 = .ok (.goto 9, 3) := by decide +kernel
theorem dX4_cableAt_14 : decode cX4_cableAt 14 = .ok (.aload_n 0, 1) := by decide +kernel
theorem dX4_cableAt_15 : decode cX4_cableAt 15 = .ok (.getfield 17, 3) := by decide +kernel
theorem dX4_cableAt_18 : decode cX4_cableAt 18 = .ok (.iload_n 1, 1) := by decide +kernel
theorem dX4_cableAt_19 : decode cX4_cableAt 19 = .ok (.aaload, 1) := by decide +kernel
theorem dX4_cableAt_20 : decode cX4_cableAt 20 = .ok (.areturn, 1) := by decide +kernel
theorem dX4_holdNoTape_0 : decode cX4_holdNoTape 0 = .ok (.aload_n 0, 1) := by decide +kernel
theorem dX4_holdNoTape_1 : decode cX4_holdNoTape 1 = .ok (.iload_n 1, 1) := by decide +kernel
theorem dX4_holdNoTape_2 : decode cX4_holdNoTape 2 = .ok (.invokevirtual 59, 3) := by decide +kernel
theorem dX4_holdNoTape_5 : decode cX4_holdNoTape 5 = .ok (.astore_n 3, 1) := by decide +kernel
theorem dX4_holdNoTape_6 : decode cX4_holdNoTape 6 = .ok (.aload_n 3, 1) := by decide +kernel
theorem dX4_holdNoTape_7 : decode cX4_holdNoTape 7 = .ok (.ifnonnull 5, 3) := by decide +kernel
theorem dX4_holdNoTape_10 : decode cX4_holdNoTape 10 = .ok (.iconst (-1), 1) := by decide +kernel
theorem dX4_holdNoTape_11 : decode cX4_holdNoTape 11 = .ok (.ireturn, 1) := by decide +kernel
theorem dX4_holdNoTape_12 : decode cX4_holdNoTape 12 = .ok (.aload_n 3, 1) := by decide +kernel
theorem dX4_holdNoTape_13 : decode cX4_holdNoTape 13 = .ok (.invokevirtual 92, 3) := by decide +kernel
theorem dX4_holdNoTape_16 : decode cX4_holdNoTape 16 = .ok (.istore 4, 2) := by decide +kernel
theorem dX4_holdNoTape_18 : decode cX4_holdNoTape 18 = .ok (.aload_n 3, 1) := by decide +kernel
theorem dX4_holdNoTape_19 : decode cX4_holdNoTape 19 = .ok (.aconst_null, 1) := by decide +kernel
theorem dX4_holdNoTape_20 : decode cX4_holdNoTape 20 = .ok (.iload_n 2, 1) := by decide +kernel
theorem dX4_holdNoTape_21 : decode cX4_holdNoTape 21 = .ok (.invokevirtual 76, 3) := by decide +kernel
theorem dX4_holdNoTape_24 : decode cX4_holdNoTape 24 = .ok (.iload 4, 2) := by decide +kernel
theorem dX4_holdNoTape_26 : decode cX4_holdNoTape 26 = .ok (.ireturn, 1) := by decide +kernel
theorem dX4_isPlain_0 : decode cX4_isPlain 0 = .ok (.iload_n 0, 1) := by decide +kernel
theorem dX4_isPlain_1 : decode cX4_isPlain 1 = .ok (.ifCond .lt 13, 3) := by decide +kernel
theorem dX4_isPlain_4 : decode cX4_isPlain 4 = .ok (.iload_n 0, 1) := by decide +kernel
theorem dX4_isPlain_5 : decode cX4_isPlain 5 = .ok (.bipush 7, 2) := by decide +kernel
theorem dX4_isPlain_7 : decode cX4_isPlain 7 = .ok (.if_icmp .gt 7, 3) := by decide +kernel
theorem dX4_isPlain_10 : decode cX4_isPlain 10 = .ok (.iconst 1, 1) := by decide +kernel
theorem dX4_isPlain_11 : decode cX4_isPlain 11 = .ok (.goto 4, 3) := by decide +kernel
theorem dX4_isPlain_14 : decode cX4_isPlain 14 = .ok (.iconst 0, 1) := by decide +kernel
theorem dX4_isPlain_15 : decode cX4_isPlain 15 = .ok (.ireturn, 1) := by decide +kernel
theorem dX4_isTapeKind_0 : decode cX4_isTapeKind 0 = .ok (.iload_n 0, 1) := by decide +kernel
theorem dX4_isTapeKind_1 : decode cX4_isTapeKind 1 = .ok (.ifCond .lt 13, 3) := by decide +kernel
theorem dX4_isTapeKind_4 : decode cX4_isTapeKind 4 = .ok (.iload_n 0, 1) := by decide +kernel
theorem dX4_isTapeKind_5 : decode cX4_isTapeKind 5 = .ok (.bipush 10, 2) := by decide +kernel
theorem dX4_isTapeKind_7 : decode cX4_isTapeKind 7 = .ok (.if_icmp .gt 7, 3) := by decide +kernel
theorem dX4_isTapeKind_10 : decode cX4_isTapeKind 10 = .ok (.iconst 1, 1) := by decide +kernel
theorem dX4_isTapeKind_11 : decode cX4_isTapeKind 11 = .ok (.goto 4, 3) := by decide +kernel
theorem dX4_isTapeKind_14 : decode cX4_isTapeKind 14 = .ok (.iconst 0, 1) := by decide +kernel
theorem dX4_isTapeKind_15 : decode cX4_isTapeKind 15 = .ok (.ireturn, 1) := by decide +kernel
theorem dX4_takes_0 : decode cX4_takes 0 = .ok (.iload_n 0, 1) := by decide +kernel
theorem dX4_takes_1 : decode cX4_takes 1 = .ok (.tableswitch 146 0 10 #[119, 119, 130, 119, 146, 146, 146, 146, 59, 83, 101], 59) := by decide +kernel
theorem dX4_takes_60 : decode cX4_takes 60 = .ok (.iload_n 1, 1) := by decide +kernel
theorem dX4_takes_61 : decode cX4_takes 61 = .ok (.bipush 8, 2) := by decide +kernel
theorem dX4_takes_63 : decode cX4_takes 63 = .ok (.if_icmp .eq 15, 3) := by decide +kernel
theorem dX4_takes_66 : decode cX4_takes 66 = .ok (.iload_n 1, 1) := by decide +kernel
theorem dX4_takes_67 : decode cX4_takes 67 = .ok (.bipush 9, 2) := by decide +kernel
theorem dX4_takes_69 : decode cX4_takes 69 = .ok (.if_icmp .eq 9, 3) := by decide +kernel
theorem dX4_takes_72 : decode cX4_takes 72 = .ok (.iload_n 1, 1) := by decide +kernel
theorem dX4_takes_73 : decode cX4_takes 73 = .ok (.bipush 11, 2) := by decide +kernel
theorem dX4_takes_75 : decode cX4_takes 75 = .ok (.if_icmp .ne 7, 3) := by decide +kernel
theorem dX4_takes_78 : decode cX4_takes 78 = .ok (.iconst 1, 1) := by decide +kernel
theorem dX4_takes_79 : decode cX4_takes 79 = .ok (.goto 4, 3) := by decide +kernel
theorem dX4_takes_82 : decode cX4_takes 82 = .ok (.iconst 0, 1) := by decide +kernel
theorem dX4_takes_83 : decode cX4_takes 83 = .ok (.ireturn, 1) := by decide +kernel
theorem dX4_takes_84 : decode cX4_takes 84 = .ok (.iload_n 1, 1) := by decide +kernel
theorem dX4_takes_85 : decode cX4_takes 85 = .ok (.bipush 9, 2) := by decide +kernel
theorem dX4_takes_87 : decode cX4_takes 87 = .ok (.if_icmp .eq 9, 3) := by decide +kernel
theorem dX4_takes_90 : decode cX4_takes 90 = .ok (.iload_n 1, 1) := by decide +kernel
theorem dX4_takes_91 : decode cX4_takes 91 = .ok (.bipush 11, 2) := by decide +kernel
theorem dX4_takes_93 : decode cX4_takes 93 = .ok (.if_icmp .ne 7, 3) := by decide +kernel
theorem dX4_takes_96 : decode cX4_takes 96 = .ok (.iconst 1, 1) := by decide +kernel
theorem dX4_takes_97 : decode cX4_takes 97 = .ok (.goto 4, 3) := by decide +kernel
theorem dX4_takes_100 : decode cX4_takes 100 = .ok (.iconst 0, 1) := by decide +kernel
theorem dX4_takes_101 : decode cX4_takes 101 = .ok (.ireturn, 1) := by decide +kernel
theorem dX4_takes_102 : decode cX4_takes 102 = .ok (.iload_n 1, 1) := by decide +kernel
theorem dX4_takes_103 : decode cX4_takes 103 = .ok (.bipush 10, 2) := by decide +kernel
theorem dX4_takes_105 : decode cX4_takes 105 = .ok (.if_icmp .eq 9, 3) := by decide +kernel
theorem dX4_takes_108 : decode cX4_takes 108 = .ok (.iload_n 1, 1) := by decide +kernel
theorem dX4_takes_109 : decode cX4_takes 109 = .ok (.bipush 11, 2) := by decide +kernel
theorem dX4_takes_111 : decode cX4_takes 111 = .ok (.if_icmp .ne 7, 3) := by decide +kernel
theorem dX4_takes_114 : decode cX4_takes 114 = .ok (.iconst 1, 1) := by decide +kernel
theorem dX4_takes_115 : decode cX4_takes 115 = .ok (.goto 4, 3) := by decide +kernel
theorem dX4_takes_118 : decode cX4_takes 118 = .ok (.iconst 0, 1) := by decide +kernel
theorem dX4_takes_119 : decode cX4_takes 119 = .ok (.ireturn, 1) := by decide +kernel
theorem dX4_takes_120 : decode cX4_takes 120 = .ok (.iload_n 1, 1) := by decide +kernel
theorem dX4_takes_121 : decode cX4_takes 121 = .ok (.iload_n 0, 1) := by decide +kernel
theorem dX4_takes_122 : decode cX4_takes 122 = .ok (.if_icmp .ne 7, 3) := by decide +kernel
theorem dX4_takes_125 : decode cX4_takes 125 = .ok (.iconst 1, 1) := by decide +kernel
theorem dX4_takes_126 : decode cX4_takes 126 = .ok (.goto 4, 3) := by decide +kernel
theorem dX4_takes_129 : decode cX4_takes 129 = .ok (.iconst 0, 1) := by decide +kernel
theorem dX4_takes_130 : decode cX4_takes 130 = .ok (.ireturn, 1) := by decide +kernel
theorem dX4_takes_131 : decode cX4_takes 131 = .ok (.iload_n 1, 1) := by decide +kernel
theorem dX4_takes_132 : decode cX4_takes 132 = .ok (.iconst 1, 1) := by decide +kernel
theorem dX4_takes_133 : decode cX4_takes 133 = .ok (.if_icmp .eq 8, 3) := by decide +kernel
theorem dX4_takes_136 : decode cX4_takes 136 = .ok (.iload_n 1, 1) := by decide +kernel
theorem dX4_takes_137 : decode cX4_takes 137 = .ok (.iconst 2, 1) := by decide +kernel
theorem dX4_takes_138 : decode cX4_takes 138 = .ok (.if_icmp .ne 7, 3) := by decide +kernel
theorem dX4_takes_141 : decode cX4_takes 141 = .ok (.iconst 1, 1) := by decide +kernel
theorem dX4_takes_142 : decode cX4_takes 142 = .ok (.goto 4, 3) := by decide +kernel
theorem dX4_takes_145 : decode cX4_takes 145 = .ok (.iconst 0, 1) := by decide +kernel
theorem dX4_takes_146 : decode cX4_takes 146 = .ok (.ireturn, 1) := by decide +kernel
theorem dX4_takes_147 : decode cX4_takes 147 = .ok (.iload_n 1, 1) := by decide +kernel
theorem dX4_takes_148 : decode cX4_takes 148 = .ok (.iconst 1, 1) := by decide +kernel
theorem dX4_takes_149 : decode cX4_takes 149 = .ok (.if_icmp .lt 12, 3) := by decide +kernel
theorem dX4_takes_152 : decode cX4_takes 152 = .ok (.iload_n 1, 1) := by decide +kernel
theorem dX4_takes_153 : decode cX4_takes 153 = .ok (.iload_n 0, 1) := by decide +kernel
theorem dX4_takes_154 : decode cX4_takes 154 = .ok (.if_icmp .gt 7, 3) := by decide +kernel
theorem dX4_takes_157 : decode cX4_takes 157 = .ok (.iconst 1, 1) := by decide +kernel
theorem dX4_takes_158 : decode cX4_takes 158 = .ok (.goto 4, 3) := by decide +kernel
theorem dX4_takes_161 : decode cX4_takes 161 = .ok (.iconst 0, 1) := by decide +kernel
theorem dX4_takes_162 : decode cX4_takes 162 = .ok (.ireturn, 1) := by decide +kernel
theorem dX4_fitted_0 : decode cX4_fitted 0 = .ok (.iload_n 0, 1) := by decide +kernel
theorem dX4_fitted_1 : decode cX4_fitted 1 = .ok (.tableswitch 86 0 7 #[47, 59, 64, 69, 74, 86, 78, 82], 47) := by decide +kernel
theorem dX4_fitted_48 : decode cX4_fitted 48 = .ok (.lload_n 1, 1) := by decide +kernel
theorem dX4_fitted_49 : decode cX4_fitted 49 = .ok (.lconst 0, 1) := by decide +kernel
theorem dX4_fitted_50 : decode cX4_fitted 50 = .ok (.lcmp, 1) := by decide +kernel
theorem dX4_fitted_51 : decode cX4_fitted 51 = .ok (.ifCond .eq 7, 3) := by decide +kernel
theorem dX4_fitted_54 : decode cX4_fitted 54 = .ok (.lconst 1, 1) := by decide +kernel
theorem dX4_fitted_55 : decode cX4_fitted 55 = .ok (.goto 4, 3) := by decide +kernel
theorem dX4_fitted_58 : decode cX4_fitted 58 = .ok (.lconst 0, 1) := by decide +kernel
theorem dX4_fitted_59 : decode cX4_fitted 59 = .ok (.lreturn, 1) := by decide +kernel
theorem dX4_fitted_60 : decode cX4_fitted 60 = .ok (.lload_n 1, 1) := by decide +kernel
theorem dX4_fitted_61 : decode cX4_fitted 61 = .ok (.l2i, 1) := by decide +kernel
theorem dX4_fitted_62 : decode cX4_fitted 62 = .ok (.i2b, 1) := by decide +kernel
theorem dX4_fitted_63 : decode cX4_fitted 63 = .ok (.i2l, 1) := by decide +kernel
theorem dX4_fitted_64 : decode cX4_fitted 64 = .ok (.lreturn, 1) := by decide +kernel
theorem dX4_fitted_65 : decode cX4_fitted 65 = .ok (.lload_n 1, 1) := by decide +kernel
theorem dX4_fitted_66 : decode cX4_fitted 66 = .ok (.l2i, 1) := by decide +kernel
theorem dX4_fitted_67 : decode cX4_fitted 67 = .ok (.i2s, 1) := by decide +kernel
theorem dX4_fitted_68 : decode cX4_fitted 68 = .ok (.i2l, 1) := by decide +kernel
theorem dX4_fitted_69 : decode cX4_fitted 69 = .ok (.lreturn, 1) := by decide +kernel
theorem dX4_fitted_70 : decode cX4_fitted 70 = .ok (.lload_n 1, 1) := by decide +kernel
theorem dX4_fitted_71 : decode cX4_fitted 71 = .ok (.l2i, 1) := by decide +kernel
theorem dX4_fitted_72 : decode cX4_fitted 72 = .ok (.i2c, 1) := by decide +kernel
theorem dX4_fitted_73 : decode cX4_fitted 73 = .ok (.i2l, 1) := by decide +kernel
theorem dX4_fitted_74 : decode cX4_fitted 74 = .ok (.lreturn, 1) := by decide +kernel
theorem dX4_fitted_75 : decode cX4_fitted 75 = .ok (.lload_n 1, 1) := by decide +kernel
theorem dX4_fitted_76 : decode cX4_fitted 76 = .ok (.l2i, 1) := by decide +kernel
theorem dX4_fitted_77 : decode cX4_fitted 77 = .ok (.i2l, 1) := by decide +kernel
theorem dX4_fitted_78 : decode cX4_fitted 78 = .ok (.lreturn, 1) := by decide +kernel
theorem dX4_fitted_79 : decode cX4_fitted 79 = .ok (.lload_n 1, 1) := by decide +kernel
theorem dX4_fitted_80 : decode cX4_fitted 80 = .ok (.l2f, 1) := by decide +kernel
theorem dX4_fitted_81 : decode cX4_fitted 81 = .ok (.f2l, 1) := by decide +kernel
theorem dX4_fitted_82 : decode cX4_fitted 82 = .ok (.lreturn, 1) := by decide +kernel
theorem dX4_fitted_83 : decode cX4_fitted 83 = .ok (.lload_n 1, 1) := by decide +kernel
theorem dX4_fitted_84 : decode cX4_fitted 84 = .ok (.l2d, 1) := by decide +kernel
theorem dX4_fitted_85 : decode cX4_fitted 85 = .ok (.d2l, 1) := by decide +kernel
theorem dX4_fitted_86 : decode cX4_fitted 86 = .ok (.lreturn, 1) := by decide +kernel
theorem dX4_fitted_87 : decode cX4_fitted 87 = .ok (.lload_n 1, 1) := by decide +kernel
theorem dX4_fitted_88 : decode cX4_fitted 88 = .ok (.lreturn, 1) := by decide +kernel
theorem dX4_meet_0 : decode cX4_meet 0 = .ok (.iload_n 1, 1) := by decide +kernel
theorem dX4_meet_1 : decode cX4_meet 1 = .ok (.ifCond .le 22, 3) := by decide +kernel
theorem dX4_meet_4 : decode cX4_meet 4 = .ok (.iload_n 1, 1) := by decide +kernel
theorem dX4_meet_5 : decode cX4_meet 5 = .ok (.aload_n 0, 1) := by decide +kernel
theorem dX4_meet_6 : decode cX4_meet 6 = .ok (.getfield 39, 3) := by decide +kernel
theorem dX4_meet_9 : decode cX4_meet 9 = .ok (.arraylength, 1) := by decide +kernel
theorem dX4_meet_10 : decode cX4_meet 10 = .ok (.if_icmp .ge 13, 3) := by decide +kernel
theorem dX4_meet_13 : decode cX4_meet 13 = .ok (.aload_n 0, 1) := by decide +kernel
theorem dX4_meet_14 : decode cX4_meet 14 = .ok (.getfield 39, 3) := by decide +kernel
theorem dX4_meet_17 : decode cX4_meet 17 = .ok (.iload_n 1, 1) := by decide +kernel
theorem dX4_meet_18 : decode cX4_meet 18 = .ok (.dup2, 1) := by decide +kernel
theorem dX4_meet_19 : decode cX4_meet 19 = .ok (.iaload, 1) := by decide +kernel
theorem dX4_meet_20 : decode cX4_meet 20 = .ok (.iconst 1, 1) := by decide +kernel
theorem dX4_meet_21 : decode cX4_meet 21 = .ok (.iadd, 1) := by decide +kernel
theorem dX4_meet_22 : decode cX4_meet 22 = .ok (.iastore, 1) := by decide +kernel
theorem dX4_meet_23 : decode cX4_meet 23 = .ok (.return_, 1) := by decide +kernel
theorem dX4_timesMet_0 : decode cX4_timesMet 0 = .ok (.iload_n 1, 1) := by decide +kernel
theorem dX4_timesMet_1 : decode cX4_timesMet 1 = .ok (.ifCond .le 21, 3) := by decide +kernel
theorem dX4_timesMet_4 : decode cX4_timesMet 4 = .ok (.iload_n 1, 1) := by decide +kernel
theorem dX4_timesMet_5 : decode cX4_timesMet 5 = .ok (.aload_n 0, 1) := by decide +kernel
theorem dX4_timesMet_6 : decode cX4_timesMet 6 = .ok (.getfield 39, 3) := by decide +kernel
theorem dX4_timesMet_9 : decode cX4_timesMet 9 = .ok (.arraylength, 1) := by decide +kernel
theorem dX4_timesMet_10 : decode cX4_timesMet 10 = .ok (.if_icmp .ge 12, 3) := by decide +kernel
theorem dX4_timesMet_13 : decode cX4_timesMet 13 = .ok (.aload_n 0, 1) := by decide +kernel
theorem dX4_timesMet_14 : decode cX4_timesMet 14 = .ok (.getfield 39, 3) := by decide +kernel
theorem dX4_timesMet_17 : decode cX4_timesMet 17 = .ok (.iload_n 1, 1) := by decide +kernel
theorem dX4_timesMet_18 : decode cX4_timesMet 18 = .ok (.iaload, 1) := by decide +kernel
theorem dX4_timesMet_19 : decode cX4_timesMet 19 = .ok (.goto 4, 3) := by decide +kernel
theorem dX4_timesMet_22 : decode cX4_timesMet 22 = .ok (.iconst (-1), 1) := by decide +kernel
theorem dX4_timesMet_23 : decode cX4_timesMet 23 = .ok (.ireturn, 1) := by decide +kernel
theorem dX4_note_0 : decode cX4_note 0 = .ok (.aload_n 0, 1) := by decide +kernel
theorem dX4_note_1 : decode cX4_note 1 = .ok (.iload_n 1, 1) := by decide +kernel
theorem dX4_note_2 : decode cX4_note 2 = .ok (.putfield 43, 3) := by decide +kernel
theorem dX4_note_5 : decode cX4_note 5 = .ok (.aload_n 0, 1) := by decide +kernel
theorem dX4_note_6 : decode cX4_note 6 = .ok (.iload_n 1, 1) := by decide +kernel
theorem dX4_note_7 : decode cX4_note 7 = .ok (.invokevirtual 225, 3) := by decide +kernel
theorem dX4_note_10 : decode cX4_note 10 = .ok (.return_, 1) := by decide +kernel
theorem dX4_answer_0 : decode cX4_answer 0 = .ok (.aload_n 0, 1) := by decide +kernel
theorem dX4_answer_1 : decode cX4_answer 1 = .ok (.iload_n 1, 1) := by decide +kernel
theorem dX4_answer_2 : decode cX4_answer 2 = .ok (.invokevirtual 133, 3) := by decide +kernel
theorem dX4_answer_5 : decode cX4_answer 5 = .ok (.iload_n 1, 1) := by decide +kernel
theorem dX4_answer_6 : decode cX4_answer 6 = .ok (.ifCond .ne 7, 3) := by decide +kernel
theorem dX4_answer_9 : decode cX4_answer 9 = .ok (.iload_n 2, 1) := by decide +kernel
theorem dX4_answer_10 : decode cX4_answer 10 = .ok (.goto 7, 3) := by decide +kernel
theorem dX4_answer_13 : decode cX4_answer 13 = .ok (.bipush (-10), 2) := by decide +kernel
theorem dX4_answer_15 : decode cX4_answer 15 = .ok (.iload_n 1, 1) := by decide +kernel
theorem dX4_answer_16 : decode cX4_answer 16 = .ok (.isub, 1) := by decide +kernel
theorem dX4_answer_17 : decode cX4_answer 17 = .ok (.ireturn, 1) := by decide +kernel
theorem dX4_noteFault_0 : decode cX4_noteFault 0 = .ok (.aload_n 0, 1) := by decide +kernel
theorem dX4_noteFault_1 : decode cX4_noteFault 1 = .ok (.getfield 33, 3) := by decide +kernel
theorem dX4_noteFault_4 : decode cX4_noteFault 4 = .ok (.aload_n 0, 1) := by decide +kernel
theorem dX4_noteFault_5 : decode cX4_noteFault 5 = .ok (.getfield 36, 3) := by decide +kernel
theorem dX4_noteFault_8 : decode cX4_noteFault 8 = .ok (.bipush 20, 2) := by decide +kernel
theorem dX4_noteFault_10 : decode cX4_noteFault 10 = .ok (.invokestatic 218, 3) := by decide +kernel
theorem dX4_noteFault_13 : decode cX4_noteFault 13 = .ok (.aaload, 1) := by decide +kernel
theorem dX4_noteFault_14 : decode cX4_noteFault 14 = .ok (.astore_n 3, 1) := by decide +kernel
theorem dX4_noteFault_15 : decode cX4_noteFault 15 = .ok (.aload_n 3, 1) := by decide +kernel
theorem dX4_noteFault_16 : decode cX4_noteFault 16 = .ok (.iconst 0, 1) := by decide +kernel
theorem dX4_noteFault_17 : decode cX4_noteFault 17 = .ok (.aload_n 0, 1) := by decide +kernel
theorem dX4_noteFault_18 : decode cX4_noteFault 18 = .ok (.getfield 28, 3) := by decide +kernel
theorem dX4_noteFault_21 : decode cX4_noteFault 21 = .ok (.iastore, 1) := by decide +kernel
theorem dX4_noteFault_22 : decode cX4_noteFault 22 = .ok (.aload_n 3, 1) := by decide +kernel
theorem dX4_noteFault_23 : decode cX4_noteFault 23 = .ok (.iconst 1, 1) := by decide +kernel
theorem dX4_noteFault_24 : decode cX4_noteFault 24 = .ok (.iload_n 1, 1) := by decide +kernel
theorem dX4_noteFault_25 : decode cX4_noteFault 25 = .ok (.iastore, 1) := by decide +kernel
theorem dX4_noteFault_26 : decode cX4_noteFault 26 = .ok (.aload_n 3, 1) := by decide +kernel
theorem dX4_noteFault_27 : decode cX4_noteFault 27 = .ok (.iconst 2, 1) := by decide +kernel
theorem dX4_noteFault_28 : decode cX4_noteFault 28 = .ok (.iload_n 2, 1) := by decide +kernel
theorem dX4_noteFault_29 : decode cX4_noteFault 29 = .ok (.iastore, 1) := by decide +kernel
theorem dX4_noteFault_30 : decode cX4_noteFault 30 = .ok (.aload_n 0, 1) := by decide +kernel
theorem dX4_noteFault_31 : decode cX4_noteFault 31 = .ok (.dup, 1) := by decide +kernel
theorem dX4_noteFault_32 : decode cX4_noteFault 32 = .ok (.getfield 36, 3) := by decide +kernel
theorem dX4_noteFault_35 : decode cX4_noteFault 35 = .ok (.iconst 1, 1) := by decide +kernel
theorem dX4_noteFault_36 : decode cX4_noteFault 36 = .ok (.iadd, 1) := by decide +kernel
theorem dX4_noteFault_37 : decode cX4_noteFault 37 = .ok (.putfield 36, 3) := by decide +kernel
theorem dX4_noteFault_40 : decode cX4_noteFault 40 = .ok (.aload_n 0, 1) := by decide +kernel
theorem dX4_noteFault_41 : decode cX4_noteFault 41 = .ok (.iload_n 2, 1) := by decide +kernel
theorem dX4_noteFault_42 : decode cX4_noteFault 42 = .ok (.invokevirtual 225, 3) := by decide +kernel
theorem dX4_noteFault_45 : decode cX4_noteFault 45 = .ok (.return_, 1) := by decide +kernel
theorem dX4_keepBooks_0 : decode cX4_keepBooks 0 = .ok (.iload_n 2, 1) := by decide +kernel
theorem dX4_keepBooks_1 : decode cX4_keepBooks 1 = .ok (.ifCond .eq 22, 3) := by decide +kernel
theorem dX4_keepBooks_4 : decode cX4_keepBooks 4 = .ok (.iload_n 2, 1) := by decide +kernel
theorem dX4_keepBooks_5 : decode cX4_keepBooks 5 = .ok (.iconst (-1), 1) := by decide +kernel
theorem dX4_keepBooks_6 : decode cX4_keepBooks 6 = .ok (.if_icmp .eq 17, 3) := by decide +kernel
theorem dX4_keepBooks_9 : decode cX4_keepBooks 9 = .ok (.aload_n 0, 1) := by decide +kernel
theorem dX4_keepBooks_10 : decode cX4_keepBooks 10 = .ok (.aload_n 1, 1) := by decide +kernel
theorem dX4_keepBooks_11 : decode cX4_keepBooks 11 = .ok (.getfield 228, 3) := by decide +kernel
theorem dX4_keepBooks_14 : decode cX4_keepBooks 14 = .ok (.iload_n 2, 1) := by decide +kernel
theorem dX4_keepBooks_15 : decode cX4_keepBooks 15 = .ok (.invokevirtual 229, 3) := by decide +kernel
theorem dX4_keepBooks_18 : decode cX4_keepBooks 18 = .ok (.aload_n 1, 1) := by decide +kernel
theorem dX4_keepBooks_19 : decode cX4_keepBooks 19 = .ok (.invokevirtual 232, 3) := by decide +kernel
theorem dX4_keepBooks_22 : decode cX4_keepBooks 22 = .ok (.return_, 1) := by decide +kernel
theorem dX4_keepBooks_23 : decode cX4_keepBooks 23 = .ok (.aload_n 1, 1) := by decide +kernel
theorem dX4_keepBooks_24 : decode cX4_keepBooks 24 = .ok (.iconst 0, 1) := by decide +kernel
theorem dX4_keepBooks_25 : decode cX4_keepBooks 25 = .ok (.putfield 161, 3) := by decide +kernel
theorem dX4_keepBooks_28 : decode cX4_keepBooks 28 = .ok (.iload_n 2, 1) := by decide +kernel
theorem dX4_keepBooks_29 : decode cX4_keepBooks 29 = .ok (.iconst (-1), 1) := by decide +kernel
theorem dX4_keepBooks_30 : decode cX4_keepBooks 30 = .ok (.if_icmp .ne 16, 3) := by decide +kernel
theorem dX4_keepBooks_33 : decode cX4_keepBooks 33 = .ok (.aload_n 1, 1) := by decide +kernel
theorem dX4_keepBooks_34 : decode cX4_keepBooks 34 = .ok (.dup, 1) := by decide +kernel
theorem dX4_keepBooks_35 : decode cX4_keepBooks 35 = .ok (.getfield 215, 3) := by decide +kernel
theorem dX4_keepBooks_38 : decode cX4_keepBooks 38 = .ok (.iconst 1, 1) := by decide +kernel
theorem dX4_keepBooks_39 : decode cX4_keepBooks 39 = .ok (.iadd, 1) := by decide +kernel
theorem dX4_keepBooks_40 : decode cX4_keepBooks 40 = .ok (.putfield 215, 3) := by decide +kernel
theorem dX4_keepBooks_43 : decode cX4_keepBooks 43 = .ok (.goto 13, 3) := by decide +kernel
theorem dX4_keepBooks_46 : decode cX4_keepBooks 46 = .ok (.aload_n 1, 1) := by decide +kernel
theorem dX4_keepBooks_47 : decode cX4_keepBooks 47 = .ok (.dup, 1) := by decide +kernel
theorem dX4_keepBooks_48 : decode cX4_keepBooks 48 = .ok (.getfield 212, 3) := by decide +kernel
theorem dX4_keepBooks_51 : decode cX4_keepBooks 51 = .ok (.iconst 1, 1) := by decide +kernel
theorem dX4_keepBooks_52 : decode cX4_keepBooks 52 = .ok (.iadd, 1) := by decide +kernel
theorem dX4_keepBooks_53 : decode cX4_keepBooks 53 = .ok (.putfield 212, 3) := by decide +kernel
theorem dX4_keepBooks_56 : decode cX4_keepBooks 56 = .ok (.return_, 1) := by decide +kernel
theorem dX4_carry_0 : decode cX4_carry 0 = .ok (.aload_n 1, 1) := by decide +kernel
theorem dX4_carry_1 : decode cX4_carry 1 = .ok (.getfield 202, 3) := by decide +kernel
theorem dX4_carry_4 : decode cX4_carry 4 = .ok (.getfield 96, 3) := by decide +kernel
theorem dX4_carry_7 : decode cX4_carry 7 = .ok (.istore_n 2, 1) := by decide +kernel
theorem dX4_carry_8 : decode cX4_carry 8 = .ok (.aload_n 1, 1) := by decide +kernel
theorem dX4_carry_9 : decode cX4_carry 9 = .ok (.getfield 209, 3) := by decide +kernel
theorem dX4_carry_12 : decode cX4_carry 12 = .ok (.getfield 96, 3) := by decide +kernel
theorem dX4_carry_15 : decode cX4_carry 15 = .ok (.istore_n 3, 1) := by decide +kernel
theorem dX4_carry_16 : decode cX4_carry 16 = .ok (.aload_n 1, 1) := by decide +kernel
theorem dX4_carry_17 : decode cX4_carry 17 = .ok (.getfield 201, 3) := by decide +kernel
theorem dX4_carry_20 : decode cX4_carry 20 = .ok (.tableswitch 73 1 3 #[28, 43, 58], 28) := by decide +kernel
theorem dX4_carry_48 : decode cX4_carry 48 = .ok (.aload_n 0, 1) := by decide +kernel
theorem dX4_carry_49 : decode cX4_carry 49 = .ok (.aload_n 1, 1) := by decide +kernel
theorem dX4_carry_50 : decode cX4_carry 50 = .ok (.getfield 202, 3) := by decide +kernel
theorem dX4_carry_53 : decode cX4_carry 53 = .ok (.iload_n 2, 1) := by decide +kernel
theorem dX4_carry_54 : decode cX4_carry 54 = .ok (.aload_n 1, 1) := by decide +kernel
theorem dX4_carry_55 : decode cX4_carry 55 = .ok (.getfield 209, 3) := by decide +kernel
theorem dX4_carry_58 : decode cX4_carry 58 = .ok (.iload_n 3, 1) := by decide +kernel
theorem dX4_carry_59 : decode cX4_carry 59 = .ok (.invokevirtual 235, 3) := by decide +kernel
theorem dX4_carry_62 : decode cX4_carry 62 = .ok (.ireturn, 1) := by decide +kernel
theorem dX4_carry_63 : decode cX4_carry 63 = .ok (.aload_n 0, 1) := by decide +kernel
theorem dX4_carry_64 : decode cX4_carry 64 = .ok (.aload_n 1, 1) := by decide +kernel
theorem dX4_carry_65 : decode cX4_carry 65 = .ok (.getfield 202, 3) := by decide +kernel
theorem dX4_carry_68 : decode cX4_carry 68 = .ok (.iload_n 2, 1) := by decide +kernel
theorem dX4_carry_69 : decode cX4_carry 69 = .ok (.aload_n 1, 1) := by decide +kernel
theorem dX4_carry_70 : decode cX4_carry 70 = .ok (.getfield 209, 3) := by decide +kernel
theorem dX4_carry_73 : decode cX4_carry 73 = .ok (.iload_n 3, 1) := by decide +kernel
theorem dX4_carry_74 : decode cX4_carry 74 = .ok (.invokevirtual 238, 3) := by decide +kernel
theorem dX4_carry_77 : decode cX4_carry 77 = .ok (.ireturn, 1) := by decide +kernel
theorem dX4_carry_78 : decode cX4_carry 78 = .ok (.aload_n 0, 1) := by decide +kernel
theorem dX4_carry_79 : decode cX4_carry 79 = .ok (.aload_n 1, 1) := by decide +kernel
theorem dX4_carry_80 : decode cX4_carry 80 = .ok (.getfield 202, 3) := by decide +kernel
theorem dX4_carry_83 : decode cX4_carry 83 = .ok (.iload_n 2, 1) := by decide +kernel
theorem dX4_carry_84 : decode cX4_carry 84 = .ok (.aload_n 1, 1) := by decide +kernel
theorem dX4_carry_85 : decode cX4_carry 85 = .ok (.getfield 209, 3) := by decide +kernel
theorem dX4_carry_88 : decode cX4_carry 88 = .ok (.iload_n 3, 1) := by decide +kernel
theorem dX4_carry_89 : decode cX4_carry 89 = .ok (.invokevirtual 241, 3) := by decide +kernel
theorem dX4_carry_92 : decode cX4_carry 92 = .ok (.ireturn, 1) := by decide +kernel
theorem dX4_carry_93 : decode cX4_carry 93 = .ok (.aload_n 0, 1) := by decide +kernel
theorem dX4_carry_94 : decode cX4_carry 94 = .ok (.aload_n 1, 1) := by decide +kernel
theorem dX4_carry_95 : decode cX4_carry 95 = .ok (.getfield 202, 3) := by decide +kernel
theorem dX4_carry_98 : decode cX4_carry 98 = .ok (.iload_n 2, 1) := by decide +kernel
theorem dX4_carry_99 : decode cX4_carry 99 = .ok (.aload_n 1, 1) := by decide +kernel
theorem dX4_carry_100 : decode cX4_carry 100 = .ok (.getfield 209, 3) := by decide +kernel
theorem dX4_carry_103 : decode cX4_carry 103 = .ok (.iload_n 3, 1) := by decide +kernel
theorem dX4_carry_104 : decode cX4_carry 104 = .ok (.invokevirtual 176, 3) := by decide +kernel
theorem dX4_carry_107 : decode cX4_carry 107 = .ok (.ireturn, 1) := by decide +kernel
theorem dX4_wire_0 : decode cX4_wire 0 = .ok (.aload_n 1, 1) := by decide +kernel
theorem dX4_wire_1 : decode cX4_wire 1 = .ok (.iload_n 2, 1) := by decide +kernel
theorem dX4_wire_2 : decode cX4_wire 2 = .ok (.aload_n 0, 1) := by decide +kernel
theorem dX4_wire_3 : decode cX4_wire 3 = .ok (.getfield 49, 3) := by decide +kernel
theorem dX4_wire_6 : decode cX4_wire 6 = .ok (.invokevirtual 123, 3) := by decide +kernel
theorem dX4_wire_9 : decode cX4_wire 9 = .ok (.istore 5, 2) := by decide +kernel
theorem dX4_wire_11 : decode cX4_wire 11 = .ok (.iload 5, 2) := by decide +kernel
theorem dX4_wire_13 : decode cX4_wire 13 = .ok (.ifCond .eq 8, 3) := by decide +kernel
theorem dX4_wire_16 : decode cX4_wire 16 = .ok (.iload 5, 2) := by decide +kernel
theorem dX4_wire_18 : decode cX4_wire 18 = .ok (.goto 13, 3) := by decide +kernel
theorem dX4_wire_21 : decode cX4_wire 21 = .ok (.aload_n 3, 1) := by decide +kernel
theorem dX4_wire_22 : decode cX4_wire 22 = .ok (.iload 4, 2) := by decide +kernel
theorem dX4_wire_24 : decode cX4_wire 24 = .ok (.aload_n 0, 1) := by decide +kernel
theorem dX4_wire_25 : decode cX4_wire 25 = .ok (.getfield 49, 3) := by decide +kernel
theorem dX4_wire_28 : decode cX4_wire 28 = .ok (.invokevirtual 119, 3) := by decide +kernel
theorem dX4_wire_31 : decode cX4_wire 31 = .ok (.ireturn, 1) := by decide +kernel
theorem dX4_gate_0 : decode cX4_gate 0 = .ok (.aload_n 1, 1) := by decide +kernel
theorem dX4_gate_1 : decode cX4_gate 1 = .ok (.iload_n 2, 1) := by decide +kernel
theorem dX4_gate_2 : decode cX4_gate 2 = .ok (.aload_n 0, 1) := by decide +kernel
theorem dX4_gate_3 : decode cX4_gate 3 = .ok (.getfield 49, 3) := by decide +kernel
theorem dX4_gate_6 : decode cX4_gate 6 = .ok (.invokevirtual 123, 3) := by decide +kernel
theorem dX4_gate_9 : decode cX4_gate 9 = .ok (.istore 5, 2) := by decide +kernel
theorem dX4_gate_11 : decode cX4_gate 11 = .ok (.iload 5, 2) := by decide +kernel
theorem dX4_gate_13 : decode cX4_gate 13 = .ok (.ifCond .eq 6, 3) := by decide +kernel
theorem dX4_gate_16 : decode cX4_gate 16 = .ok (.iload 5, 2) := by decide +kernel
theorem dX4_gate_18 : decode cX4_gate 18 = .ok (.ireturn, 1) := by decide +kernel
theorem dX4_gate_19 : decode cX4_gate 19 = .ok (.aload_n 0, 1) := by decide +kernel
theorem dX4_gate_20 : decode cX4_gate 20 = .ok (.getfield 49, 3) := by decide +kernel
theorem dX4_gate_23 : decode cX4_gate 23 = .ok (.getfield 136, 3) := by decide +kernel
theorem dX4_gate_26 : decode cX4_gate 26 = .ok (.lconst 0, 1) := by decide +kernel
theorem dX4_gate_27 : decode cX4_gate 27 = .ok (.lcmp, 1) := by decide +kernel
theorem dX4_gate_28 : decode cX4_gate 28 = .ok (.ifCond .ne 7, 3) := by decide +kernel
theorem dX4_gate_31 : decode cX4_gate 31 = .ok (.iconst (-1), 1) := by decide +kernel
theorem dX4_gate_32 : decode cX4_gate 32 = .ok (.goto 13, 3) := by decide +kernel
theorem dX4_gate_35 : decode cX4_gate 35 = .ok (.aload_n 3, 1) := by decide +kernel
theorem dX4_gate_36 : decode cX4_gate 36 = .ok (.iload 4, 2) := by decide +kernel
theorem dX4_gate_38 : decode cX4_gate 38 = .ok (.aload_n 0, 1) := by decide +kernel
theorem dX4_gate_39 : decode cX4_gate 39 = .ok (.getfield 49, 3) := by decide +kernel
theorem dX4_gate_42 : decode cX4_gate 42 = .ok (.invokevirtual 119, 3) := by decide +kernel
theorem dX4_gate_45 : decode cX4_gate 45 = .ok (.ireturn, 1) := by decide +kernel
theorem dX4_pair_0 : decode cX4_pair 0 = .ok (.aload_n 0, 1) := by decide +kernel
theorem dX4_pair_1 : decode cX4_pair 1 = .ok (.aload_n 1, 1) := by decide +kernel
theorem dX4_pair_2 : decode cX4_pair 2 = .ok (.iload_n 2, 1) := by decide +kernel
theorem dX4_pair_3 : decode cX4_pair 3 = .ok (.aload_n 3, 1) := by decide +kernel
theorem dX4_pair_4 : decode cX4_pair 4 = .ok (.iload 4, 2) := by decide +kernel
theorem dX4_pair_6 : decode cX4_pair 6 = .ok (.invokevirtual 176, 3) := by decide +kernel
theorem dX4_pair_9 : decode cX4_pair 9 = .ok (.istore 5, 2) := by decide +kernel
theorem dX4_pair_11 : decode cX4_pair 11 = .ok (.iload 5, 2) := by decide +kernel
theorem dX4_pair_13 : decode cX4_pair 13 = .ok (.ifCond .eq 8, 3) := by decide +kernel
theorem dX4_pair_16 : decode cX4_pair 16 = .ok (.iload 5, 2) := by decide +kernel
theorem dX4_pair_18 : decode cX4_pair 18 = .ok (.goto 16, 3) := by decide +kernel
theorem dX4_pair_21 : decode cX4_pair 21 = .ok (.aload_n 0, 1) := by decide +kernel
theorem dX4_pair_22 : decode cX4_pair 22 = .ok (.aload_n 1, 1) := by decide +kernel
theorem dX4_pair_23 : decode cX4_pair 23 = .ok (.iload_n 2, 1) := by decide +kernel
theorem dX4_pair_24 : decode cX4_pair 24 = .ok (.iconst 1, 1) := by decide +kernel
theorem dX4_pair_25 : decode cX4_pair 25 = .ok (.iadd, 1) := by decide +kernel
theorem dX4_pair_26 : decode cX4_pair 26 = .ok (.aload_n 3, 1) := by decide +kernel
theorem dX4_pair_27 : decode cX4_pair 27 = .ok (.iload 4, 2) := by decide +kernel
theorem dX4_pair_29 : decode cX4_pair 29 = .ok (.iconst 1, 1) := by decide +kernel
theorem dX4_pair_30 : decode cX4_pair 30 = .ok (.iadd, 1) := by decide +kernel
theorem dX4_pair_31 : decode cX4_pair 31 = .ok (.invokevirtual 176, 3) := by decide +kernel
theorem dX4_pair_34 : decode cX4_pair 34 = .ok (.ireturn, 1) := by decide +kernel
theorem dX4_swap_0 : decode cX4_swap 0 = .ok (.aload_n 1, 1) := by decide +kernel
theorem dX4_swap_1 : decode cX4_swap 1 = .ok (.iload_n 2, 1) := by decide +kernel
theorem dX4_swap_2 : decode cX4_swap 2 = .ok (.aload_n 0, 1) := by decide +kernel
theorem dX4_swap_3 : decode cX4_swap 3 = .ok (.getfield 49, 3) := by decide +kernel
theorem dX4_swap_6 : decode cX4_swap 6 = .ok (.invokevirtual 123, 3) := by decide +kernel
theorem dX4_swap_9 : decode cX4_swap 9 = .ok (.istore 5, 2) := by decide +kernel
theorem dX4_swap_11 : decode cX4_swap 11 = .ok (.iload 5, 2) := by decide +kernel
theorem dX4_swap_13 : decode cX4_swap 13 = .ok (.ifCond .ne 15, 3) := by decide +kernel
theorem dX4_swap_16 : decode cX4_swap 16 = .ok (.aload_n 3, 1) := by decide +kernel
theorem dX4_swap_17 : decode cX4_swap 17 = .ok (.iload 4, 2) := by decide +kernel
theorem dX4_swap_19 : decode cX4_swap 19 = .ok (.aload_n 0, 1) := by decide +kernel
theorem dX4_swap_20 : decode cX4_swap 20 = .ok (.getfield 53, 3) := by decide +kernel
theorem dX4_swap_23 : decode cX4_swap 23 = .ok (.invokevirtual 123, 3) := by decide +kernel
theorem dX4_swap_26 : decode cX4_swap 26 = .ok (.istore 5, 2) := by decide +kernel
theorem dX4_swap_28 : decode cX4_swap 28 = .ok (.iload 5, 2) := by decide +kernel
theorem dX4_swap_30 : decode cX4_swap 30 = .ok (.ifCond .ne 15, 3) := by decide +kernel
theorem dX4_swap_33 : decode cX4_swap 33 = .ok (.aload_n 3, 1) := by decide +kernel
theorem dX4_swap_34 : decode cX4_swap 34 = .ok (.iload 4, 2) := by decide +kernel
theorem dX4_swap_36 : decode cX4_swap 36 = .ok (.aload_n 0, 1) := by decide +kernel
theorem dX4_swap_37 : decode cX4_swap 37 = .ok (.getfield 49, 3) := by decide +kernel
theorem dX4_swap_40 : decode cX4_swap 40 = .ok (.invokevirtual 119, 3) := by decide +kernel
theorem dX4_swap_43 : decode cX4_swap 43 = .ok (.istore 5, 2) := by decide +kernel
theorem dX4_swap_45 : decode cX4_swap 45 = .ok (.iload 5, 2) := by decide +kernel
theorem dX4_swap_47 : decode cX4_swap 47 = .ok (.ifCond .eq 6, 3) := by decide +kernel
theorem dX4_swap_50 : decode cX4_swap 50 = .ok (.iload 5, 2) := by decide +kernel
theorem dX4_swap_52 : decode cX4_swap 52 = .ok (.ireturn, 1) := by decide +kernel
theorem dX4_swap_53 : decode cX4_swap 53 = .ok (.aload_n 1, 1) := by decide +kernel
theorem dX4_swap_54 : decode cX4_swap 54 = .ok (.iload_n 2, 1) := by decide +kernel
theorem dX4_swap_55 : decode cX4_swap 55 = .ok (.aload_n 0, 1) := by decide +kernel
theorem dX4_swap_56 : decode cX4_swap 56 = .ok (.getfield 53, 3) := by decide +kernel
theorem dX4_swap_59 : decode cX4_swap 59 = .ok (.invokevirtual 119, 3) := by decide +kernel
theorem dX4_swap_62 : decode cX4_swap 62 = .ok (.istore 5, 2) := by decide +kernel
theorem dX4_swap_64 : decode cX4_swap 64 = .ok (.iload 5, 2) := by decide +kernel
theorem dX4_swap_66 : decode cX4_swap 66 = .ok (.ifCond .eq 14, 3) := by decide +kernel
theorem dX4_swap_69 : decode cX4_swap 69 = .ok (.aload_n 3, 1) := by decide +kernel
theorem dX4_swap_70 : decode cX4_swap 70 = .ok (.iload 4, 2) := by decide +kernel
theorem dX4_swap_72 : decode cX4_swap 72 = .ok (.aload_n 0, 1) := by decide +kernel
theorem dX4_swap_73 : decode cX4_swap 73 = .ok (.getfield 53, 3) := by decide +kernel
theorem dX4_swap_76 : decode cX4_swap 76 = .ok (.invokevirtual 119, 3) := by decide +kernel
theorem dX4_swap_79 : decode cX4_swap 79 = .ok (.pop, 1) := by decide +kernel
theorem dX4_swap_80 : decode cX4_swap 80 = .ok (.iload 5, 2) := by decide +kernel
theorem dX4_swap_82 : decode cX4_swap 82 = .ok (.ireturn, 1) := by decide +kernel
theorem dX4_move_0 : decode cX4_move 0 = .ok (.aload_n 1, 1) := by decide +kernel
theorem dX4_move_1 : decode cX4_move 1 = .ok (.getfield 96, 3) := by decide +kernel
theorem dX4_move_4 : decode cX4_move 4 = .ok (.aload_n 1, 1) := by decide +kernel
theorem dX4_move_5 : decode cX4_move 5 = .ok (.getfield 99, 3) := by decide +kernel
theorem dX4_move_8 : decode cX4_move 8 = .ok (.iadd, 1) := by decide +kernel
theorem dX4_move_9 : decode cX4_move 9 = .ok (.istore_n 2, 1) := by decide +kernel
theorem dX4_move_10 : decode cX4_move 10 = .ok (.aload_n 1, 1) := by decide +kernel
theorem dX4_move_11 : decode cX4_move 11 = .ok (.getfield 102, 3) := by decide +kernel
theorem dX4_move_14 : decode cX4_move 14 = .ok (.ifCond .ne 9, 3) := by decide +kernel
theorem dX4_move_17 : decode cX4_move 17 = .ok (.aload_n 1, 1) := by decide +kernel
theorem dX4_move_18 : decode cX4_move 18 = .ok (.iload_n 2, 1) := by decide +kernel
theorem dX4_move_19 : decode cX4_move 19 = .ok (.putfield 96, 3) := by decide +kernel
theorem dX4_move_22 : decode cX4_move 22 = .ok (.return_, 1) := by decide +kernel
theorem dX4_move_23 : decode cX4_move 23 = .ok (.aload_n 1, 1) := by decide +kernel
theorem dX4_move_24 : decode cX4_move 24 = .ok (.getfield 84, 3) := by decide +kernel
theorem dX4_move_27 : decode cX4_move 27 = .ok (.astore_n 3, 1) := by decide +kernel
theorem dX4_move_28 : decode cX4_move 28 = .ok (.aload_n 3, 1) := by decide +kernel
theorem dX4_move_29 : decode cX4_move 29 = .ok (.ifnonnull 21, 3) := by decide +kernel
theorem dX4_move_32 : decode cX4_move 32 = .ok (.aload_n 0, 1) := by decide +kernel
theorem dX4_move_33 : decode cX4_move 33 = .ok (.bipush 100, 2) := by decide +kernel
theorem dX4_move_35 : decode cX4_move 35 = .ok (.aload_n 1, 1) := by decide +kernel
theorem dX4_move_36 : decode cX4_move 36 = .ok (.getfield 206, 3) := by decide +kernel
theorem dX4_move_39 : decode cX4_move 39 = .ok (.iadd, 1) := by decide +kernel
theorem dX4_move_40 : decode cX4_move 40 = .ok (.aload_n 1, 1) := by decide +kernel
theorem dX4_move_41 : decode cX4_move 41 = .ok (.invokevirtual 180, 3) := by decide +kernel
theorem dX4_move_44 : decode cX4_move 44 = .ok (.invokevirtual 229, 3) := by decide +kernel
theorem dX4_move_47 : decode cX4_move 47 = .ok (.goto 37, 3) := by decide +kernel
theorem dX4_move_50 : decode cX4_move 50 = .ok (.aload_n 3, 1) := by decide +kernel
theorem dX4_move_51 : decode cX4_move 51 = .ok (.getfield 145, 3) := by decide +kernel
theorem dX4_move_54 : decode cX4_move 54 = .ok (.ifCond .ne 18, 3) := by decide +kernel
theorem dX4_move_57 : decode cX4_move 57 = .ok (.aload_n 0, 1) := by decide +kernel
theorem dX4_move_58 : decode cX4_move 58 = .ok (.bipush 100, 2) := by decide +kernel
theorem dX4_move_60 : decode cX4_move 60 = .ok (.aload_n 1, 1) := by decide +kernel
theorem dX4_move_61 : decode cX4_move 61 = .ok (.getfield 206, 3) := by decide +kernel
theorem dX4_move_64 : decode cX4_move 64 = .ok (.iadd, 1) := by decide +kernel
theorem dX4_move_65 : decode cX4_move 65 = .ok (.iconst 4, 1) := by decide +kernel
theorem dX4_move_66 : decode cX4_move 66 = .ok (.invokevirtual 229, 3) := by decide +kernel
theorem dX4_move_69 : decode cX4_move 69 = .ok (.goto 15, 3) := by decide +kernel
theorem dX4_move_72 : decode cX4_move 72 = .ok (.aload_n 1, 1) := by decide +kernel
theorem dX4_move_73 : decode cX4_move 73 = .ok (.iload_n 2, 1) := by decide +kernel
theorem dX4_move_74 : decode cX4_move 74 = .ok (.aload_n 3, 1) := by decide +kernel
theorem dX4_move_75 : decode cX4_move 75 = .ok (.getfield 145, 3) := by decide +kernel
theorem dX4_move_78 : decode cX4_move 78 = .ok (.invokestatic 218, 3) := by decide +kernel
theorem dX4_move_81 : decode cX4_move 81 = .ok (.putfield 96, 3) := by decide +kernel
theorem dX4_move_84 : decode cX4_move 84 = .ok (.return_, 1) := by decide +kernel
theorem dX5_init_0 : decode cX5_init 0 = .ok (.aload_n 0, 1) := by decide +kernel
theorem dX5_init_1 : decode cX5_init 1 = .ok (.invokespecial 1, 3) := by decide +kernel
theorem dX5_init_4 : decode cX5_init 4 = .ok (.aload_n 0, 1) := by decide +kernel
theorem dX5_init_5 : decode cX5_init 5 = .ok (.sipush 560, 3) := by decide +kernel
theorem dX5_init_8 : decode cX5_init 8 = .ok (.newarray .int, 2) := by decide +kernel
theorem dX5_init_10 : decode cX5_init 10 = .ok (.putfield 7, 3) := by decide +kernel
theorem dX5_init_13 : decode cX5_init 13 = .ok (.aload_n 0, 1) := by decide +kernel
theorem dX5_init_14 : decode cX5_init 14 = .ok (.sipush 560, 3) := by decide +kernel
theorem dX5_init_17 : decode cX5_init 17 = .ok (.newarray .int, 2) := by decide +kernel
theorem dX5_init_19 : decode cX5_init 19 = .ok (.putfield 13, 3) := by decide +kernel
theorem dX5_init_22 : decode cX5_init 22 = .ok (.aload_n 0, 1) := by decide +kernel
theorem dX5_init_23 : decode cX5_init 23 = .ok (.sipush 560, 3) := by decide +kernel
theorem dX5_init_26 : decode cX5_init 26 = .ok (.newarray .boolean, 2) := by decide +kernel
theorem dX5_init_28 : decode cX5_init 28 = .ok (.putfield 16, 3) := by decide +kernel
theorem dX5_init_31 : decode cX5_init 31 = .ok (.aload_n 0, 1) := by decide +kernel
theorem dX5_init_32 : decode cX5_init 32 = .ok (.sipush 17920, 3) := by decide +kernel
theorem dX5_init_35 : decode cX5_init 35 = .ok (.newarray .long, 2) := by decide +kernel
theorem dX5_init_37 : decode cX5_init 37 = .ok (.putfield 20, 3) := by decide +kernel
theorem dX5_init_40 : decode cX5_init 40 = .ok (.aload_n 0, 1) := by decide +kernel
theorem dX5_init_41 : decode cX5_init 41 = .ok (.sipush 201, 3) := by decide +kernel
theorem dX5_init_44 : decode cX5_init 44 = .ok (.newarray .boolean, 2) := by decide +kernel
theorem dX5_init_46 : decode cX5_init 46 = .ok (.putfield 24, 3) := by decide +kernel
theorem dX5_init_49 : decode cX5_init 49 = .ok (.aload_n 0, 1) := by decide +kernel
theorem dX5_init_50 : decode cX5_init 50 = .ok (.bipush 16, 2) := by decide +kernel
theorem dX5_init_52 : decode cX5_init 52 = .ok (.newarray .int, 2) := by decide +kernel
theorem dX5_init_54 : decode cX5_init 54 = .ok (.putfield 27, 3) := by decide +kernel
theorem dX5_init_57 : decode cX5_init 57 = .ok (.aload_n 0, 1) := by decide +kernel
theorem dX5_init_58 : decode cX5_init 58 = .ok (.bipush 16, 2) := by decide +kernel
theorem dX5_init_60 : decode cX5_init 60 = .ok (.newarray .int, 2) := by decide +kernel
theorem dX5_init_62 : decode cX5_init 62 = .ok (.putfield 30, 3) := by decide +kernel
theorem dX5_init_65 : decode cX5_init 65 = .ok (.aload_n 0, 1) := by decide +kernel
theorem dX5_init_66 : decode cX5_init 66 = .ok (.bipush 16, 2) := by decide +kernel
theorem dX5_init_68 : decode cX5_init 68 = .ok (.newarray .int, 2) := by decide +kernel
theorem dX5_init_70 : decode cX5_init 70 = .ok (.putfield 33, 3) := by decide +kernel
theorem dX5_init_73 : decode cX5_init 73 = .ok (.aload_n 0, 1) := by decide +kernel
theorem dX5_init_74 : decode cX5_init 74 = .ok (.bipush 16, 2) := by decide +kernel
theorem dX5_init_76 : decode cX5_init 76 = .ok (.newarray .boolean, 2) := by decide +kernel
theorem dX5_init_78 : decode cX5_init 78 = .ok (.putfield 36, 3) := by decide +kernel
theorem dX5_init_81 : decode cX5_init 81 = .ok (.aload_n 0, 1) := by decide +kernel
theorem dX5_init_82 : decode cX5_init 82 = .ok (.bipush 24, 2) := by decide +kernel
theorem dX5_init_84 : decode cX5_init 84 = .ok (.newarray .int, 2) := by decide +kernel
theorem dX5_init_86 : decode cX5_init 86 = .ok (.putfield 39, 3) := by decide +kernel
theorem dX5_init_89 : decode cX5_init 89 = .ok (.aload_n 0, 1) := by decide +kernel
theorem dX5_init_90 : decode cX5_init 90 = .ok (.bipush 24, 2) := by decide +kernel
theorem dX5_init_92 : decode cX5_init 92 = .ok (.newarray .int, 2) := by decide +kernel
theorem dX5_init_94 : decode cX5_init 94 = .ok (.putfield 42, 3) := by decide +kernel
theorem dX5_init_97 : decode cX5_init 97 = .ok (.aload_n 0, 1) := by decide +kernel
theorem dX5_init_98 : decode cX5_init 98 = .ok (.bipush 24, 2) := by decide +kernel
theorem dX5_init_100 : decode cX5_init 100 = .ok (.newarray .int, 2) := by decide +kernel
theorem dX5_init_102 : decode cX5_init 102 = .ok (.putfield 45, 3) := by decide +kernel
theorem dX5_init_105 : decode cX5_init 105 = .ok (.aload_n 0, 1) := by decide +kernel
theorem dX5_init_106 : decode cX5_init 106 = .ok (.bipush 24, 2) := by decide +kernel
theorem dX5_init_108 : decode cX5_init 108 = .ok (.newarray .boolean, 2) := by decide +kernel
theorem dX5_init_110 : decode cX5_init 110 = .ok (.putfield 48, 3) := by decide +kernel
theorem dX5_init_113 : decode cX5_init 113 = .ok (.aload_n 0, 1) := by decide +kernel
theorem dX5_init_114 : decode cX5_init 114 = .ok (.bipush 24, 2) := by decide +kernel
theorem dX5_init_116 : decode cX5_init 116 = .ok (.newarray .int, 2) := by decide +kernel
theorem dX5_init_118 : decode cX5_init 118 = .ok (.putfield 51, 3) := by decide +kernel
theorem dX5_init_121 : decode cX5_init 121 = .ok (.aload_n 0, 1) := by decide +kernel
theorem dX5_init_122 : decode cX5_init 122 = .ok (.bipush 24, 2) := by decide +kernel
theorem dX5_init_124 : decode cX5_init 124 = .ok (.newarray .int, 2) := by decide +kernel
theorem dX5_init_126 : decode cX5_init 126 = .ok (.putfield 54, 3) := by decide +kernel
theorem dX5_init_129 : decode cX5_init 129 = .ok (.aload_n 0, 1) := by decide +kernel
theorem dX5_init_130 : decode cX5_init 130 = .ok (.bipush 24, 2) := by decide +kernel
theorem dX5_init_132 : decode cX5_init 132 = .ok (.newarray .int, 2) := by decide +kernel
theorem dX5_init_134 : decode cX5_init 134 = .ok (.putfield 57, 3) := by decide +kernel
theorem dX5_init_137 : decode cX5_init 137 = .ok (.aload_n 0, 1) := by decide +kernel
theorem dX5_init_138 : decode cX5_init 138 = .ok (.bipush 24, 2) := by decide +kernel
theorem dX5_init_140 : decode cX5_init 140 = .ok (.newarray .int, 2) := by decide +kernel
theorem dX5_init_142 : decode cX5_init 142 = .ok (.putfield 60, 3) := by decide +kernel
theorem dX5_init_145 : decode cX5_init 145 = .ok (.aload_n 0, 1) := by decide +kernel
theorem dX5_init_146 : decode cX5_init 146 = .ok (.bipush 20, 2) := by decide +kernel
theorem dX5_init_148 : decode cX5_init 148 = .ok (.newarray .int, 2) := by decide +kernel
theorem dX5_init_150 : decode cX5_init 150 = .ok (.putfield 63, 3) := by decide +kernel
theorem dX5_init_153 : decode cX5_init 153 = .ok (.aload_n 0, 1) := by decide +kernel
theorem dX5_init_154 : decode cX5_init 154 = .ok (.bipush 20, 2) := by decide +kernel
theorem dX5_init_156 : decode cX5_init 156 = .ok (.newarray .int, 2) := by decide +kernel
theorem dX5_init_158 : decode cX5_init 158 = .ok (.putfield 66, 3) := by decide +kernel
theorem dX5_init_161 : decode cX5_init 161 = .ok (.aload_n 0, 1) := by decide +kernel
theorem dX5_init_162 : decode cX5_init 162 = .ok (.bipush 20, 2) := by decide +kernel
theorem dX5_init_164 : decode cX5_init 164 = .ok (.newarray .int, 2) := by decide +kernel
theorem dX5_init_166 : decode cX5_init 166 = .ok (.putfield 69, 3) := by decide +kernel
theorem dX5_init_169 : decode cX5_init 169 = .ok (.aload_n 0, 1) := by decide +kernel
theorem dX5_init_170 : decode cX5_init 170 = .ok (.bipush 6, 2) := by decide +kernel
theorem dX5_init_172 : decode cX5_init 172 = .ok (.newarray .int, 2) := by decide +kernel
theorem dX5_init_174 : decode cX5_init 174 = .ok (.putfield 72, 3) := by decide +kernel
theorem dX5_init_177 : decode cX5_init 177 = .ok (.iconst 0, 1) := by decide +kernel
theorem dX5_init_178 : decode cX5_init 178 = .ok (.istore_n 1, 1) := by decide +kernel
theorem dX5_init_179 : decode cX5_init 179 = .ok (.iload_n 1, 1) := by decide +kernel
theorem dX5_init_180 : decode cX5_init 180 = .ok (.bipush 16, 2) := by decide +kernel
theorem dX5_init_182 : decode cX5_init 182 = .ok (.if_icmp .ge 23, 3) := by decide +kernel
theorem dX5_init_185 : decode cX5_init 185 = .ok (.aload_n 0, 1) := by decide +kernel
theorem dX5_init_186 : decode cX5_init 186 = .ok (.getfield 27, 3) := by decide +kernel
theorem dX5_init_189 : decode cX5_init 189 = .ok (.iload_n 1, 1) := by decide +kernel
theorem dX5_init_190 : decode cX5_init 190 = .ok (.iconst (-1), 1) := by decide +kernel
theorem dX5_init_191 : decode cX5_init 191 = .ok (.iastore, 1) := by decide +kernel
theorem dX5_init_192 : decode cX5_init 192 = .ok (.aload_n 0, 1) := by decide +kernel
theorem dX5_init_193 : decode cX5_init 193 = .ok (.getfield 33, 3) := by decide +kernel
theorem dX5_init_196 : decode cX5_init 196 = .ok (.iload_n 1, 1) := by decide +kernel
theorem dX5_init_197 : decode cX5_init 197 = .ok (.iconst 1, 1) := by decide +kernel
theorem dX5_init_198 : decode cX5_init 198 = .ok (.iastore, 1) := by decide +kernel
theorem dX5_init_199 : decode cX5_init 199 = .ok (.iinc 1 1, 3) := by decide +kernel
theorem dX5_init_202 : decode cX5_init 202 = .ok (.goto (-23), 3) := by decide +kernel
theorem dX5_init_205 : decode cX5_init 205 = .ok (.return_, 1) := by decide +kernel
theorem dX5_isIn_0 : decode cX5_isIn 0 = .ok (.iload_n 0, 1) := by decide +kernel
theorem dX5_isIn_1 : decode cX5_isIn 1 = .ok (.iload_n 1, 1) := by decide +kernel
theorem dX5_isIn_2 : decode cX5_isIn 2 = .ok (.if_icmp .lt 12, 3) := by decide +kernel
theorem dX5_isIn_5 : decode cX5_isIn 5 = .ok (.iload_n 0, 1) := by decide +kernel
theorem dX5_isIn_6 : decode cX5_isIn 6 = .ok (.iload_n 2, 1) := by decide +kernel
theorem dX5_isIn_7 : decode cX5_isIn 7 = .ok (.if_icmp .gt 7, 3) := by decide +kernel
theorem dX5_isIn_10 : decode cX5_isIn 10 = .ok (.iconst 1, 1) := by decide +kernel
theorem dX5_isIn_11 : decode cX5_isIn 11 = .ok (.goto 4, 3) := by decide +kernel
theorem dX5_isIn_14 : decode cX5_isIn 14 = .ok (.iconst 0, 1) := by decide +kernel
theorem dX5_isIn_15 : decode cX5_isIn 15 = .ok (.ireturn, 1) := by decide +kernel
theorem dX5_isChannel_0 : decode cX5_isChannel 0 = .ok (.iload_n 0, 1) := by decide +kernel
theorem dX5_isChannel_1 : decode cX5_isChannel 1 = .ok (.iconst 0, 1) := by decide +kernel
theorem dX5_isChannel_2 : decode cX5_isChannel 2 = .ok (.bipush 15, 2) := by decide +kernel
theorem dX5_isChannel_4 : decode cX5_isChannel 4 = .ok (.invokestatic 75, 3) := by decide +kernel
theorem dX5_isChannel_7 : decode cX5_isChannel 7 = .ok (.ireturn, 1) := by decide +kernel
theorem dX5_isCable_0 : decode cX5_isCable 0 = .ok (.iload_n 1, 1) := by decide +kernel
theorem dX5_isCable_1 : decode cX5_isCable 1 = .ok (.iconst 0, 1) := by decide +kernel
theorem dX5_isCable_2 : decode cX5_isCable 2 = .ok (.aload_n 0, 1) := by decide +kernel
theorem dX5_isCable_3 : decode cX5_isCable 3 = .ok (.getfield 79, 3) := by decide +kernel
theorem dX5_isCable_6 : decode cX5_isCable 6 = .ok (.iconst 1, 1) := by decide +kernel
theorem dX5_isCable_7 : decode cX5_isCable 7 = .ok (.isub, 1) := by decide +kernel
theorem dX5_isCable_8 : decode cX5_isCable 8 = .ok (.invokestatic 75, 3) := by decide +kernel
theorem dX5_isCable_11 : decode cX5_isCable 11 = .ok (.ireturn, 1) := by decide +kernel
theorem dX5_met_0 : decode cX5_met 0 = .ok (.aload_n 0, 1) := by decide +kernel
theorem dX5_met_1 : decode cX5_met 1 = .ok (.iload_n 1, 1) := by decide +kernel
theorem dX5_met_2 : decode cX5_met 2 = .ok (.putfield 83, 3) := by decide +kernel
theorem dX5_met_5 : decode cX5_met 5 = .ok (.iload_n 1, 1) := by decide +kernel
theorem dX5_met_6 : decode cX5_met 6 = .ok (.ifCond .le 13, 3) := by decide +kernel
theorem dX5_met_9 : decode cX5_met 9 = .ok (.aload_n 0, 1) := by decide +kernel
theorem dX5_met_10 : decode cX5_met 10 = .ok (.getfield 72, 3) := by decide +kernel
theorem dX5_met_13 : decode cX5_met 13 = .ok (.iload_n 1, 1) := by decide +kernel
theorem dX5_met_14 : decode cX5_met 14 = .ok (.dup2, 1) := by decide +kernel
theorem dX5_met_15 : decode cX5_met 15 = .ok (.iaload, 1) := by decide +kernel
theorem dX5_met_16 : decode cX5_met 16 = .ok (.iconst 1, 1) := by decide +kernel
theorem dX5_met_17 : decode cX5_met 17 = .ok (.iadd, 1) := by decide +kernel
theorem dX5_met_18 : decode cX5_met 18 = .ok (.iastore, 1) := by decide +kernel
theorem dX5_met_19 : decode cX5_met 19 = .ok (.iload_n 1, 1) := by decide +kernel
theorem dX5_met_20 : decode cX5_met 20 = .ok (.ireturn, 1) := by decide +kernel
theorem dX5_sort_0 : decode cX5_sort 0 = .ok (.aload_n 0, 1) := by decide +kernel
theorem dX5_sort_1 : decode cX5_sort 1 = .ok (.getfield 27, 3) := by decide +kernel
theorem dX5_sort_4 : decode cX5_sort 4 = .ok (.iload_n 1, 1) := by decide +kernel
theorem dX5_sort_5 : decode cX5_sort 5 = .ok (.iaload, 1) := by decide +kernel
theorem dX5_sort_6 : decode cX5_sort 6 = .ok (.iconst (-1), 1) := by decide +kernel
theorem dX5_sort_7 : decode cX5_sort 7 = .ok (.if_icmp .ne 7, 3) := by decide +kernel
theorem dX5_sort_10 : decode cX5_sort 10 = .ok (.iconst 0, 1) := by decide +kernel
theorem dX5_sort_11 : decode cX5_sort 11 = .ok (.goto 19, 3) := by decide +kernel
theorem dX5_sort_14 : decode cX5_sort 14 = .ok (.aload_n 0, 1) := by decide +kernel
theorem dX5_sort_15 : decode cX5_sort 15 = .ok (.getfield 27, 3) := by decide +kernel
theorem dX5_sort_18 : decode cX5_sort 18 = .ok (.iload_n 1, 1) := by decide +kernel
theorem dX5_sort_19 : decode cX5_sort 19 = .ok (.iaload, 1) := by decide +kernel
theorem dX5_sort_20 : decode cX5_sort 20 = .ok (.bipush (-2), 2) := by decide +kernel
theorem dX5_sort_22 : decode cX5_sort 22 = .ok (.if_icmp .ne 7, 3) := by decide +kernel
theorem dX5_sort_25 : decode cX5_sort 25 = .ok (.iconst 2, 1) := by decide +kernel
theorem dX5_sort_26 : decode cX5_sort 26 = .ok (.goto 4, 3) := by decide +kernel
theorem dX5_sort_29 : decode cX5_sort 29 = .ok (.iconst 1, 1) := by decide +kernel
theorem dX5_sort_30 : decode cX5_sort 30 = .ok (.ireturn, 1) := by decide +kernel
theorem dX5_freeTape_0 : decode cX5_freeTape 0 = .ok (.iconst 0, 1) := by decide +kernel
theorem dX5_freeTape_1 : decode cX5_freeTape 1 = .ok (.istore_n 1, 1) := by decide +kernel
theorem dX5_freeTape_2 : decode cX5_freeTape 2 = .ok (.iload_n 1, 1) := by decide +kernel
theorem dX5_freeTape_3 : decode cX5_freeTape 3 = .ok (.sipush 560, 3) := by decide +kernel
theorem dX5_freeTape_6 : decode cX5_freeTape 6 = .ok (.if_icmp .ge 16, 3) := by decide +kernel
theorem dX5_freeTape_9 : decode cX5_freeTape 9 = .ok (.aload_n 0, 1) := by decide +kernel
theorem dX5_freeTape_10 : decode cX5_freeTape 10 = .ok (.getfield 16, 3) := by decide +kernel
theorem dX5_freeTape_13 : decode cX5_freeTape 13 = .ok (.iload_n 1, 1) := by decide +kernel
theorem dX5_freeTape_14 : decode cX5_freeTape 14 = .ok (.iconst 0, 1) := by decide +kernel
theorem dX5_freeTape_15 : decode cX5_freeTape 15 = .ok (.bastore, 1) := by decide +kernel
theorem dX5_freeTape_16 : decode cX5_freeTape 16 = .ok (.iinc 1 1, 3) := by decide +kernel
theorem dX5_freeTape_19 : decode cX5_freeTape 19 = .ok (.goto (-17), 3) := by decide +kernel
theorem dX5_freeTape_22 : decode cX5_freeTape 22 = .ok (.iconst 0, 1) := by decide +kernel
theorem dX5_freeTape_23 : decode cX5_freeTape 23 = .ok (.istore_n 1, 1) := by decide +kernel
theorem dX5_freeTape_24 : decode cX5_freeTape 24 = .ok (.iload_n 1, 1) := by decide +kernel
theorem dX5_freeTape_25 : decode cX5_freeTape 25 = .ok (.bipush 16, 2) := by decide +kernel
theorem dX5_freeTape_27 : decode cX5_freeTape 27 = .ok (.if_icmp .ge 85, 3) := by decide +kernel
theorem dX5_freeTape_30 : decode cX5_freeTape 30 = .ok (.aload_n 0, 1) := by decide +kernel
theorem dX5_freeTape_31 : decode cX5_freeTape 31 = .ok (.getfield 27, 3) := by decide +kernel
theorem dX5_freeTape_34 : decode cX5_freeTape 34 = .ok (.iload_n 1, 1) := by decide +kernel
theorem dX5_freeTape_35 : decode cX5_freeTape 35 = .ok (.iaload, 1) := by decide +kernel
theorem dX5_freeTape_36 : decode cX5_freeTape 36 = .ok (.istore_n 2, 1) := by decide +kernel
theorem dX5_freeTape_37 : decode cX5_freeTape 37 = .ok (.iload_n 2, 1) := by decide +kernel
theorem dX5_freeTape_38 : decode cX5_freeTape 38 = .ok (.ifCond .lt 68, 3) := by decide +kernel
theorem dX5_freeTape_41 : decode cX5_freeTape 41 = .ok (.aload_n 0, 1) := by decide +kernel
theorem dX5_freeTape_42 : decode cX5_freeTape 42 = .ok (.getfield 16, 3) := by decide +kernel
theorem dX5_freeTape_45 : decode cX5_freeTape 45 = .ok (.iload_n 2, 1) := by decide +kernel
theorem dX5_freeTape_46 : decode cX5_freeTape 46 = .ok (.iconst 1, 1) := by decide +kernel
theorem dX5_freeTape_47 : decode cX5_freeTape 47 = .ok (.bastore, 1) := by decide +kernel
theorem dX5_freeTape_48 : decode cX5_freeTape 48 = .ok (.iconst 0, 1) := by decide +kernel
theorem dX5_freeTape_49 : decode cX5_freeTape 49 = .ok (.istore_n 3, 1) := by decide +kernel
theorem dX5_freeTape_50 : decode cX5_freeTape 50 = .ok (.iload_n 3, 1) := by decide +kernel
theorem dX5_freeTape_51 : decode cX5_freeTape 51 = .ok (.aload_n 0, 1) := by decide +kernel
theorem dX5_freeTape_52 : decode cX5_freeTape 52 = .ok (.getfield 13, 3) := by decide +kernel
theorem dX5_freeTape_55 : decode cX5_freeTape 55 = .ok (.iload_n 2, 1) := by decide +kernel
theorem dX5_freeTape_56 : decode cX5_freeTape 56 = .ok (.iaload, 1) := by decide +kernel
theorem dX5_freeTape_57 : decode cX5_freeTape 57 = .ok (.if_icmp .ge 49, 3) := by decide +kernel
theorem dX5_freeTape_60 : decode cX5_freeTape 60 = .ok (.aload_n 0, 1) := by decide +kernel
theorem dX5_freeTape_61 : decode cX5_freeTape 61 = .ok (.getfield 7, 3) := by decide +kernel
theorem dX5_freeTape_64 : decode cX5_freeTape 64 = .ok (.iload_n 2, 1) := by decide +kernel
theorem dX5_freeTape_65 : decode cX5_freeTape 65 = .ok (.iaload, 1) := by decide +kernel
theorem dX5_freeTape_66 : decode cX5_freeTape 66 = .ok (.bipush 10, 2) := by decide +kernel
theorem dX5_freeTape_68 : decode cX5_freeTape 68 = .ok (.if_icmp .ne 38, 3) := by decide +kernel
theorem dX5_freeTape_71 : decode cX5_freeTape 71 = .ok (.aload_n 0, 1) := by decide +kernel
theorem dX5_freeTape_72 : decode cX5_freeTape 72 = .ok (.getfield 20, 3) := by decide +kernel
theorem dX5_freeTape_75 : decode cX5_freeTape 75 = .ok (.bipush 32, 2) := by decide +kernel
theorem dX5_freeTape_77 : decode cX5_freeTape 77 = .ok (.iload_n 2, 1) := by decide +kernel
theorem dX5_freeTape_78 : decode cX5_freeTape 78 = .ok (.imul, 1) := by decide +kernel
theorem dX5_freeTape_79 : decode cX5_freeTape 79 = .ok (.iload_n 3, 1) := by decide +kernel
theorem dX5_freeTape_80 : decode cX5_freeTape 80 = .ok (.iadd, 1) := by decide +kernel
theorem dX5_freeTape_81 : decode cX5_freeTape 81 = .ok (.laload, 1) := by decide +kernel
theorem dX5_freeTape_82 : decode cX5_freeTape 82 = .ok (.l2i, 1) := by decide +kernel
theorem dX5_freeTape_83 : decode cX5_freeTape 83 = .ok (.iconst 1, 1) := by decide +kernel
theorem dX5_freeTape_84 : decode cX5_freeTape 84 = .ok (.isub, 1) := by decide +kernel
theorem dX5_freeTape_85 : decode cX5_freeTape 85 = .ok (.istore 4, 2) := by decide +kernel
theorem dX5_freeTape_87 : decode cX5_freeTape 87 = .ok (.iload 4, 2) := by decide +kernel
theorem dX5_freeTape_89 : decode cX5_freeTape 89 = .ok (.ifCond .lt 11, 3) := by decide +kernel
theorem dX5_freeTape_92 : decode cX5_freeTape 92 = .ok (.aload_n 0, 1) := by decide +kernel
theorem dX5_freeTape_93 : decode cX5_freeTape 93 = .ok (.getfield 16, 3) := by decide +kernel
theorem dX5_freeTape_96 : decode cX5_freeTape 96 = .ok (.iload 4, 2) := by decide +kernel
theorem dX5_freeTape_98 : decode cX5_freeTape 98 = .ok (.iconst 1, 1) := by decide +kernel
theorem dX5_freeTape_99 : decode cX5_freeTape 99 = .ok (.bastore, 1) := by decide +kernel
theorem dX5_freeTape_100 : decode cX5_freeTape 100 = .ok (.iinc 3 1, 3) := by decide +kernel
theorem dX5_freeTape_103 : decode cX5_freeTape 103 = .ok (.goto (-53), 3) := by decide +kernel
theorem dX5_freeTape_106 : decode cX5_freeTape 106 = .ok (.iinc 1 1, 3) := by decide +kernel
theorem dX5_freeTape_109 : decode cX5_freeTape 109 = .ok (.goto (-85), 3) := by decide +kernel
theorem dX5_freeTape_112 : decode cX5_freeTape 112 = .ok (.iconst 0, 1) := by decide +kernel
theorem dX5_freeTape_113 : decode cX5_freeTape 113 = .ok (.istore_n 1, 1) := by decide +kernel
theorem dX5_freeTape_114 : decode cX5_freeTape 114 = .ok (.aload_n 0, 1) := by decide +kernel
theorem dX5_freeTape_115 : decode cX5_freeTape 115 = .ok (.getfield 16, 3) := by decide +kernel
theorem dX5_freeTape_118 : decode cX5_freeTape 118 = .ok (.iload_n 1, 1) := by decide +kernel
theorem dX5_freeTape_119 : decode cX5_freeTape 119 = .ok (.baload, 1) := by decide +kernel
theorem dX5_freeTape_120 : decode cX5_freeTape 120 = .ok (.ifCond .eq 9, 3) := by decide +kernel
theorem dX5_freeTape_123 : decode cX5_freeTape 123 = .ok (.iinc 1 1, 3) := by decide +kernel
theorem dX5_freeTape_126 : decode cX5_freeTape 126 = .ok (.goto (-12), 3) := by decide +kernel
theorem dX5_freeTape_129 : decode cX5_freeTape 129 = .ok (.iload_n 1, 1) := by decide +kernel
theorem dX5_freeTape_130 : decode cX5_freeTape 130 = .ok (.ireturn, 1) := by decide +kernel
theorem dX5_newTape_0 : decode cX5_newTape 0 = .ok (.aload_n 0, 1) := by decide +kernel
theorem dX5_newTape_1 : decode cX5_newTape 1 = .ok (.invokevirtual 86, 3) := by decide +kernel
theorem dX5_newTape_4 : decode cX5_newTape 4 = .ok (.istore_n 3, 1) := by decide +kernel
theorem dX5_newTape_5 : decode cX5_newTape 5 = .ok (.aload_n 0, 1) := by decide +kernel
theorem dX5_newTape_6 : decode cX5_newTape 6 = .ok (.getfield 7, 3) := by decide +kernel
theorem dX5_newTape_9 : decode cX5_newTape 9 = .ok (.iload_n 3, 1) := by decide +kernel
theorem dX5_newTape_10 : decode cX5_newTape 10 = .ok (.iload_n 1, 1) := by decide +kernel
theorem dX5_newTape_11 : decode cX5_newTape 11 = .ok (.iastore, 1) := by decide +kernel
theorem dX5_newTape_12 : decode cX5_newTape 12 = .ok (.aload_n 0, 1) := by decide +kernel
theorem dX5_newTape_13 : decode cX5_newTape 13 = .ok (.getfield 13, 3) := by decide +kernel
theorem dX5_newTape_16 : decode cX5_newTape 16 = .ok (.iload_n 3, 1) := by decide +kernel
theorem dX5_newTape_17 : decode cX5_newTape 17 = .ok (.iload_n 2, 1) := by decide +kernel
theorem dX5_newTape_18 : decode cX5_newTape 18 = .ok (.iastore, 1) := by decide +kernel
theorem dX5_newTape_19 : decode cX5_newTape 19 = .ok (.iconst 0, 1) := by decide +kernel
theorem dX5_newTape_20 : decode cX5_newTape 20 = .ok (.istore 4, 2) := by decide +kernel
theorem dX5_newTape_22 : decode cX5_newTape 22 = .ok (.iload 4, 2) := by decide +kernel
theorem dX5_newTape_24 : decode cX5_newTape 24 = .ok (.iload_n 2, 1) := by decide +kernel
theorem dX5_newTape_25 : decode cX5_newTape 25 = .ok (.if_icmp .ge 22, 3) := by decide +kernel
theorem dX5_newTape_28 : decode cX5_newTape 28 = .ok (.aload_n 0, 1) := by decide +kernel
theorem dX5_newTape_29 : decode cX5_newTape 29 = .ok (.getfield 20, 3) := by decide +kernel
theorem dX5_newTape_32 : decode cX5_newTape 32 = .ok (.bipush 32, 2) := by decide +kernel
theorem dX5_newTape_34 : decode cX5_newTape 34 = .ok (.iload_n 3, 1) := by decide +kernel
theorem dX5_newTape_35 : decode cX5_newTape 35 = .ok (.imul, 1) := by decide +kernel
theorem dX5_newTape_36 : decode cX5_newTape 36 = .ok (.iload 4, 2) := by decide +kernel
theorem dX5_newTape_38 : decode cX5_newTape 38 = .ok (.iadd, 1) := by decide +kernel
theorem dX5_newTape_39 : decode cX5_newTape 39 = .ok (.lconst 0, 1) := by decide +kernel
theorem dX5_newTape_40 : decode cX5_newTape 40 = .ok (.lastore, 1) := by decide +kernel
theorem dX5_newTape_41 : decode cX5_newTape 41 = .ok (.iinc 4 1, 3) := by decide +kernel
theorem dX5_newTape_44 : decode cX5_newTape 44 = .ok (.goto (-22), 3) := by decide +kernel
theorem dX5_newTape_47 : decode cX5_newTape 47 = .ok (.iload_n 3, 1) := by decide +kernel
theorem dX5_newTape_48 : decode cX5_newTape 48 = .ok (.ireturn, 1) := by decide +kernel
theorem dX5_nearest_0 : decode cX5_nearest 0 = .ok (.lload_n 0, 1) := by decide +kernel
theorem dX5_nearest_1 : decode cX5_nearest 1 = .ok (.lconst 0, 1) := by decide +kernel
theorem dX5_nearest_2 : decode cX5_nearest 2 = .ok (.lcmp, 1) := by decide +kernel
theorem dX5_nearest_3 : decode cX5_nearest 3 = .ok (.ifCond .ge 8, 3) := by decide +kernel
theorem dX5_nearest_6 : decode cX5_nearest 6 = .ok (.lload_n 0, 1) := by decide +kernel
theorem dX5_nearest_7 : decode cX5_nearest 7 = .ok (.lneg, 1) := by decide +kernel
theorem dX5_nearest_8 : decode cX5_nearest 8 = .ok (.goto 4, 3) := by decide +kernel
theorem dX5_nearest_11 : decode cX5_nearest 11 = .ok (.lload_n 0, 1) := by decide +kernel
theorem dX5_nearest_12 : decode cX5_nearest 12 = .ok (.lstore_n 3, 1) := by decide +kernel
theorem dX5_nearest_13 : decode cX5_nearest 13 = .ok (.iconst (-1), 1) := by decide +kernel
theorem dX5_nearest_14 : decode cX5_nearest 14 = .ok (.istore 5, 2) := by decide +kernel
theorem dX5_nearest_16 : decode cX5_nearest 16 = .ok (.bipush 63, 2) := by decide +kernel
theorem dX5_nearest_18 : decode cX5_nearest 18 = .ok (.istore 6, 2) := by decide +kernel
theorem dX5_nearest_20 : decode cX5_nearest 20 = .ok (.iload 6, 2) := by decide +kernel
theorem dX5_nearest_22 : decode cX5_nearest 22 = .ok (.ifCond .lt 34, 3) := by decide +kernel
theorem dX5_nearest_25 : decode cX5_nearest 25 = .ok (.iload 5, 2) := by decide +kernel
theorem dX5_nearest_27 : decode cX5_nearest 27 = .ok (.ifCond .ge 29, 3) := by decide +kernel
theorem dX5_nearest_30 : decode cX5_nearest 30 = .ok (.lload_n 3, 1) := by decide +kernel
theorem dX5_nearest_31 : decode cX5_nearest 31 = .ok (.iload 6, 2) := by decide +kernel
theorem dX5_nearest_33 : decode cX5_nearest 33 = .ok (.lushr, 1) := by decide +kernel
theorem dX5_nearest_34 : decode cX5_nearest 34 = .ok (.lconst 1, 1) := by decide +kernel
theorem dX5_nearest_35 : decode cX5_nearest 35 = .ok (.land, 1) := by decide +kernel
theorem dX5_nearest_36 : decode cX5_nearest 36 = .ok (.lconst 1, 1) := by decide +kernel
theorem dX5_nearest_37 : decode cX5_nearest 37 = .ok (.lcmp, 1) := by decide +kernel
theorem dX5_nearest_38 : decode cX5_nearest 38 = .ok (.ifCond .ne 8, 3) := by decide +kernel
theorem dX5_nearest_41 : decode cX5_nearest 41 = .ok (.iload 6, 2) := by decide +kernel
theorem dX5_nearest_43 : decode cX5_nearest 43 = .ok (.goto 5, 3) := by decide +kernel
theorem dX5_nearest_46 : decode cX5_nearest 46 = .ok (.iload 5, 2) := by decide +kernel
theorem dX5_nearest_48 : decode cX5_nearest 48 = .ok (.istore 5, 2) := by decide +kernel
theorem dX5_nearest_50 : decode cX5_nearest 50 = .ok (.iinc 6 (-1), 3) := by decide +kernel
theorem dX5_nearest_53 : decode cX5_nearest 53 = .ok (.goto (-33), 3) := by decide +kernel
theorem dX5_nearest_56 : decode cX5_nearest 56 = .ok (.iload 5, 2) := by decide +kernel
theorem dX5_nearest_58 : decode cX5_nearest 58 = .ok (.iload_n 2, 1) := by decide +kernel
theorem dX5_nearest_59 : decode cX5_nearest 59 = .ok (.if_icmp .ge 5, 3) := by decide +kernel
theorem dX5_nearest_62 : decode cX5_nearest 62 = .ok (.lload_n 0, 1) := by decide +kernel
theorem dX5_nearest_63 : decode cX5_nearest 63 = .ok (.lreturn, 1) := by decide +kernel
theorem dX5_nearest_64 : decode cX5_nearest 64 = .ok (.iload 5, 2) := by decide +kernel
theorem dX5_nearest_66 : decode cX5_nearest 66 = .ok (.iload_n 2, 1) := by decide +kernel
theorem dX5_nearest_67 : decode cX5_nearest 67 = .ok (.isub, 1) := by decide +kernel
theorem dX5_nearest_68 : decode cX5_nearest 68 = .ok (.iconst 1, 1) := by decide +kernel
theorem dX5_nearest_69 : decode cX5_nearest 69 = .ok (.iadd, 1) := by decide +kernel
theorem dX5_nearest_70 : decode cX5_nearest 70 = .ok (.istore 6, 2) := by decide +kernel
theorem dX5_nearest_72 : decode cX5_nearest 72 = .ok (.lload_n 3, 1) := by decide +kernel
theorem dX5_nearest_73 : decode cX5_nearest 73 = .ok (.iload 6, 2) := by decide +kernel
theorem dX5_nearest_75 : decode cX5_nearest 75 = .ok (.lushr, 1) := by decide +kernel
theorem dX5_nearest_76 : decode cX5_nearest 76 = .ok (.lstore 7, 2) := by decide +kernel
theorem dX5_nearest_78 : decode cX5_nearest 78 = .ok (.lload_n 3, 1) := by decide +kernel
theorem dX5_nearest_79 : decode cX5_nearest 79 = .ok (.lconst 1, 1) := by decide +kernel
theorem dX5_nearest_80 : decode cX5_nearest 80 = .ok (.iload 6, 2) := by decide +kernel
theorem dX5_nearest_82 : decode cX5_nearest 82 = .ok (.lshl, 1) := by decide +kernel
theorem dX5_nearest_83 : decode cX5_nearest 83 = .ok (.lconst 1, 1) := by decide +kernel
theorem dX5_nearest_84 : decode cX5_nearest 84 = .ok (.lsub, 1) := by decide +kernel
theorem dX5_nearest_85 : decode cX5_nearest 85 = .ok (.land, 1) := by decide +kernel
theorem dX5_nearest_86 : decode cX5_nearest 86 = .ok (.lstore 9, 2) := by decide +kernel
theorem dX5_nearest_88 : decode cX5_nearest 88 = .ok (.lconst 1, 1) := by decide +kernel
theorem dX5_nearest_89 : decode cX5_nearest 89 = .ok (.iload 6, 2) := by decide +kernel
theorem dX5_nearest_91 : decode cX5_nearest 91 = .ok (.iconst 1, 1) := by decide +kernel
theorem dX5_nearest_92 : decode cX5_nearest 92 = .ok (.isub, 1) := by decide +kernel
theorem dX5_nearest_93 : decode cX5_nearest 93 = .ok (.lshl, 1) := by decide +kernel
theorem dX5_nearest_94 : decode cX5_nearest 94 = .ok (.lstore 11, 2) := by decide +kernel
theorem dX5_nearest_96 : decode cX5_nearest 96 = .ok (.lload 9, 2) := by decide +kernel
theorem dX5_nearest_98 : decode cX5_nearest 98 = .ok (.lload 11, 2) := by decide +kernel
theorem dX5_nearest_100 : decode cX5_nearest 100 = .ok (.lcmp, 1) := by decide +kernel
theorem dX5_nearest_101 : decode cX5_nearest 101 = .ok (.ifCond .gt 20, 3) := by decide +kernel
theorem dX5_nearest_104 : decode cX5_nearest 104 = .ok (.lload 9, 2) := by decide +kernel
theorem dX5_nearest_106 : decode cX5_nearest 106 = .ok (.lload 11, 2) := by decide +kernel
theorem dX5_nearest_108 : decode cX5_nearest 108 = .ok (.lcmp, 1) := by decide +kernel
theorem dX5_nearest_109 : decode cX5_nearest 109 = .ok (.ifCond .ne 19, 3) := by decide +kernel
theorem dX5_nearest_112 : decode cX5_nearest 112 = .ok (.lload 7, 2) := by decide +kernel
theorem dX5_nearest_114 : decode cX5_nearest 114 = .ok (.lconst 1, 1) := by decide +kernel
theorem dX5_nearest_115 : decode cX5_nearest 115 = .ok (.land, 1) := by decide +kernel
theorem dX5_nearest_116 : decode cX5_nearest 116 = .ok (.lconst 1, 1) := by decide +kernel
theorem dX5_nearest_117 : decode cX5_nearest 117 = .ok (.lcmp, 1) := by decide +kernel
theorem dX5_nearest_118 : decode cX5_nearest 118 = .ok (.ifCond .ne 10, 3) := by decide +kernel
theorem dX5_nearest_121 : decode cX5_nearest 121 = .ok (.lload 7, 2) := by decide +kernel
theorem dX5_nearest_123 : decode cX5_nearest 123 = .ok (.lconst 1, 1) := by decide +kernel
theorem dX5_nearest_124 : decode cX5_nearest 124 = .ok (.ladd, 1) := by decide +kernel
theorem dX5_nearest_125 : decode cX5_nearest 125 = .ok (.goto 5, 3) := by decide +kernel
theorem dX5_nearest_128 : decode cX5_nearest 128 = .ok (.lload 7, 2) := by decide +kernel
theorem dX5_nearest_130 : decode cX5_nearest 130 = .ok (.lstore 7, 2) := by decide +kernel
theorem dX5_nearest_132 : decode cX5_nearest 132 = .ok (.lload 7, 2) := by decide +kernel
theorem dX5_nearest_134 : decode cX5_nearest 134 = .ok (.iload 6, 2) := by decide +kernel
theorem dX5_nearest_136 : decode cX5_nearest 136 = .ok (.lshl, 1) := by decide +kernel
theorem dX5_nearest_137 : decode cX5_nearest 137 = .ok (.lstore 13, 2) := by decide +kernel
theorem dX5_nearest_139 : decode cX5_nearest 139 = .ok (.lload_n 0, 1) := by decide +kernel
theorem dX5_nearest_140 : decode cX5_nearest 140 = .ok (.lconst 0, 1) := by decide +kernel
theorem dX5_nearest_141 : decode cX5_nearest 141 = .ok (.lcmp, 1) := by decide +kernel
theorem dX5_nearest_142 : decode cX5_nearest 142 = .ok (.ifCond .ge 9, 3) := by decide +kernel
theorem dX5_nearest_145 : decode cX5_nearest 145 = .ok (.lload 13, 2) := by decide +kernel
theorem dX5_nearest_147 : decode cX5_nearest 147 = .ok (.lneg, 1) := by decide +kernel
theorem dX5_nearest_148 : decode cX5_nearest 148 = .ok (.goto 18, 3) := by decide +kernel
theorem dX5_nearest_151 : decode cX5_nearest 151 = .ok (.lload 13, 2) := by decide +kernel
theorem dX5_nearest_153 : decode cX5_nearest 153 = .ok (.lconst 0, 1) := by decide +kernel
theorem dX5_nearest_154 : decode cX5_nearest 154 = .ok (.lcmp, 1) := by decide +kernel
theorem dX5_nearest_155 : decode cX5_nearest 155 = .ok (.ifCond .ge 9, 3) := by decide +kernel
theorem dX5_nearest_158 : decode cX5_nearest 158 = .ok (.ldc2_w 90, 3) := by decide +kernel
theorem dX5_nearest_161 : decode cX5_nearest 161 = .ok (.goto 5, 3) := by decide +kernel
theorem dX5_nearest_164 : decode cX5_nearest 164 = .ok (.lload 13, 2) := by decide +kernel
theorem dX5_nearest_166 : decode cX5_nearest 166 = .ok (.lreturn, 1) := by decide +kernel
theorem dX5_made_0 : decode cX5_made 0 = .ok (.iload_n 0, 1) := by decide +kernel
theorem dX5_made_1 : decode cX5_made 1 = .ok (.tableswitch 84 0 6 #[43, 55, 60, 65, 71, 75, 77], 43) := by decide +kernel
theorem dX5_made_44 : decode cX5_made 44 = .ok (.lload_n 1, 1) := by decide +kernel
theorem dX5_made_45 : decode cX5_made 45 = .ok (.lconst 0, 1) := by decide +kernel
theorem dX5_made_46 : decode cX5_made 46 = .ok (.lcmp, 1) := by decide +kernel
theorem dX5_made_47 : decode cX5_made 47 = .ok (.ifCond .eq 7, 3) := by decide +kernel
theorem dX5_made_50 : decode cX5_made 50 = .ok (.lconst 1, 1) := by decide +kernel
theorem dX5_made_51 : decode cX5_made 51 = .ok (.goto 4, 3) := by decide +kernel
theorem dX5_made_54 : decode cX5_made 54 = .ok (.lconst 0, 1) := by decide +kernel
theorem dX5_made_55 : decode cX5_made 55 = .ok (.lreturn, 1) := by decide +kernel
theorem dX5_made_56 : decode cX5_made 56 = .ok (.lload_n 1, 1) := by decide +kernel
theorem dX5_made_57 : decode cX5_made 57 = .ok (.l2i, 1) := by decide +kernel
theorem dX5_made_58 : decode cX5_made 58 = .ok (.i2b, 1) := by decide +kernel
theorem dX5_made_59 : decode cX5_made 59 = .ok (.i2l, 1) := by decide +kernel
theorem dX5_made_60 : decode cX5_made 60 = .ok (.lreturn, 1) := by decide +kernel
theorem dX5_made_61 : decode cX5_made 61 = .ok (.lload_n 1, 1) := by decide +kernel
theorem dX5_made_62 : decode cX5_made 62 = .ok (.l2i, 1) := by decide +kernel
theorem dX5_made_63 : decode cX5_made 63 = .ok (.i2s, 1) := by decide +kernel
theorem dX5_made_64 : decode cX5_made 64 = .ok (.i2l, 1) := by decide +kernel
theorem dX5_made_65 : decode cX5_made 65 = .ok (.lreturn, 1) := by decide +kernel
theorem dX5_made_66 : decode cX5_made 66 = .ok (.lload_n 1, 1) := by decide +kernel
theorem dX5_made_67 : decode cX5_made 67 = .ok (.ldc2_w 92, 3) := by decide +kernel
theorem dX5_made_70 : decode cX5_made 70 = .ok (.land, 1) := by decide +kernel
theorem dX5_made_71 : decode cX5_made 71 = .ok (.lreturn, 1) := by decide +kernel
theorem dX5_made_72 : decode cX5_made 72 = .ok (.lload_n 1, 1) := by decide +kernel
theorem dX5_made_73 : decode cX5_made 73 = .ok (.l2i, 1) := by decide +kernel
theorem dX5_made_74 : decode cX5_made 74 = .ok (.i2l, 1) := by decide +kernel
theorem dX5_made_75 : decode cX5_made 75 = .ok (.lreturn, 1) := by decide +kernel
theorem dX5_made_76 : decode cX5_made 76 = .ok (.lload_n 1, 1) := by decide +kernel
theorem dX5_made_77 : decode cX5_made 77 = .ok (.lreturn, 1) := by decide +kernel
theorem dX5_made_78 : decode cX5_made 78 = .ok (.lload_n 1, 1) := by decide +kernel
theorem dX5_made_79 : decode cX5_made 79 = .ok (.bipush 24, 2) := by decide +kernel
theorem dX5_made_81 : decode cX5_made 81 = .ok (.invokestatic 94, 3) := by decide +kernel
theorem dX5_made_84 : decode cX5_made 84 = .ok (.lreturn, 1) := by decide +kernel
theorem dX5_made_85 : decode cX5_made 85 = .ok (.lload_n 1, 1) := by decide +kernel
theorem dX5_made_86 : decode cX5_made 86 = .ok (.bipush 53, 2) := by decide +kernel
theorem dX5_made_88 : decode cX5_made 88 = .ok (.invokestatic 94, 3) := by decide +kernel
theorem dX5_made_91 : decode cX5_made 91 = .ok (.lreturn, 1) := by decide +kernel
theorem dX5_takes_0 : decode cX5_takes 0 = .ok (.iload_n 0, 1) := by decide +kernel
theorem dX5_takes_1 : decode cX5_takes 1 = .ok (.bipush 7, 2) := by decide +kernel
theorem dX5_takes_3 : decode cX5_takes 3 = .ok (.if_icmp .le 32, 3) := by decide +kernel
theorem dX5_takes_6 : decode cX5_takes 6 = .ok (.iload_n 1, 1) := by decide +kernel
theorem dX5_takes_7 : decode cX5_takes 7 = .ok (.bipush 11, 2) := by decide +kernel
theorem dX5_takes_9 : decode cX5_takes 9 = .ok (.if_icmp .eq 20, 3) := by decide +kernel
theorem dX5_takes_12 : decode cX5_takes 12 = .ok (.iload_n 1, 1) := by decide +kernel
theorem dX5_takes_13 : decode cX5_takes 13 = .ok (.iload_n 0, 1) := by decide +kernel
theorem dX5_takes_14 : decode cX5_takes 14 = .ok (.if_icmp .eq 15, 3) := by decide +kernel
theorem dX5_takes_17 : decode cX5_takes 17 = .ok (.iload_n 0, 1) := by decide +kernel
theorem dX5_takes_18 : decode cX5_takes 18 = .ok (.bipush 8, 2) := by decide +kernel
theorem dX5_takes_20 : decode cX5_takes 20 = .ok (.if_icmp .ne 13, 3) := by decide +kernel
theorem dX5_takes_23 : decode cX5_takes 23 = .ok (.iload_n 1, 1) := by decide +kernel
theorem dX5_takes_24 : decode cX5_takes 24 = .ok (.bipush 9, 2) := by decide +kernel
theorem dX5_takes_26 : decode cX5_takes 26 = .ok (.if_icmp .ne 7, 3) := by decide +kernel
theorem dX5_takes_29 : decode cX5_takes 29 = .ok (.iconst 1, 1) := by decide +kernel
theorem dX5_takes_30 : decode cX5_takes 30 = .ok (.goto 4, 3) := by decide +kernel
theorem dX5_takes_33 : decode cX5_takes 33 = .ok (.iconst 0, 1) := by decide +kernel
theorem dX5_takes_34 : decode cX5_takes 34 = .ok (.ireturn, 1) := by decide +kernel
theorem dX5_takes_35 : decode cX5_takes 35 = .ok (.iload_n 0, 1) := by decide +kernel
theorem dX5_takes_36 : decode cX5_takes 36 = .ok (.iload_n 1, 1) := by decide +kernel
theorem dX5_takes_37 : decode cX5_takes 37 = .ok (.if_icmp .ne 5, 3) := by decide +kernel
theorem dX5_takes_40 : decode cX5_takes 40 = .ok (.iconst 1, 1) := by decide +kernel
theorem dX5_takes_41 : decode cX5_takes 41 = .ok (.ireturn, 1) := by decide +kernel
theorem dX5_takes_42 : decode cX5_takes 42 = .ok (.iload_n 0, 1) := by decide +kernel
theorem dX5_takes_43 : decode cX5_takes 43 = .ok (.iconst 2, 1) := by decide +kernel
theorem dX5_takes_44 : decode cX5_takes 44 = .ok (.if_icmp .ne 14, 3) := by decide +kernel
theorem dX5_takes_47 : decode cX5_takes 47 = .ok (.iload_n 1, 1) := by decide +kernel
theorem dX5_takes_48 : decode cX5_takes 48 = .ok (.iconst 1, 1) := by decide +kernel
theorem dX5_takes_49 : decode cX5_takes 49 = .ok (.if_icmp .ne 7, 3) := by decide +kernel
theorem dX5_takes_52 : decode cX5_takes 52 = .ok (.iconst 1, 1) := by decide +kernel
theorem dX5_takes_53 : decode cX5_takes 53 = .ok (.goto 4, 3) := by decide +kernel
theorem dX5_takes_56 : decode cX5_takes 56 = .ok (.iconst 0, 1) := by decide +kernel
theorem dX5_takes_57 : decode cX5_takes 57 = .ok (.ireturn, 1) := by decide +kernel
theorem dX5_takes_58 : decode cX5_takes 58 = .ok (.iload_n 0, 1) := by decide +kernel
theorem dX5_takes_59 : decode cX5_takes 59 = .ok (.iconst 3, 1) := by decide +kernel
theorem dX5_takes_60 : decode cX5_takes 60 = .ok (.if_icmp .le 16, 3) := by decide +kernel
theorem dX5_takes_63 : decode cX5_takes 63 = .ok (.iload_n 1, 1) := by decide +kernel
theorem dX5_takes_64 : decode cX5_takes 64 = .ok (.ifCond .le 12, 3) := by decide +kernel
theorem dX5_takes_67 : decode cX5_takes 67 = .ok (.iload_n 1, 1) := by decide +kernel
theorem dX5_takes_68 : decode cX5_takes 68 = .ok (.iload_n 0, 1) := by decide +kernel
theorem dX5_takes_69 : decode cX5_takes 69 = .ok (.if_icmp .ge 7, 3) := by decide +kernel
theorem dX5_takes_72 : decode cX5_takes 72 = .ok (.iconst 1, 1) := by decide +kernel
theorem dX5_takes_73 : decode cX5_takes 73 = .ok (.goto 4, 3) := by decide +kernel
theorem dX5_takes_76 : decode cX5_takes 76 = .ok (.iconst 0, 1) := by decide +kernel
theorem dX5_takes_77 : decode cX5_takes 77 = .ok (.ireturn, 1) := by decide +kernel
theorem dX5_cellKind_0 : decode cX5_cellKind 0 = .ok (.aload_n 0, 1) := by decide +kernel
theorem dX5_cellKind_1 : decode cX5_cellKind 1 = .ok (.getfield 7, 3) := by decide +kernel
theorem dX5_cellKind_4 : decode cX5_cellKind 4 = .ok (.iload_n 1, 1) := by decide +kernel
theorem dX5_cellKind_5 : decode cX5_cellKind 5 = .ok (.iaload, 1) := by decide +kernel
theorem dX5_cellKind_6 : decode cX5_cellKind 6 = .ok (.istore_n 3, 1) := by decide +kernel
theorem dX5_cellKind_7 : decode cX5_cellKind 7 = .ok (.aload_n 0, 1) := by decide +kernel
theorem dX5_cellKind_8 : decode cX5_cellKind 8 = .ok (.getfield 20, 3) := by decide +kernel
theorem dX5_cellKind_11 : decode cX5_cellKind 11 = .ok (.bipush 32, 2) := by decide +kernel
theorem dX5_cellKind_13 : decode cX5_cellKind 13 = .ok (.iload_n 1, 1) := by decide +kernel
theorem dX5_cellKind_14 : decode cX5_cellKind 14 = .ok (.imul, 1) := by decide +kernel
theorem dX5_cellKind_15 : decode cX5_cellKind 15 = .ok (.iload_n 2, 1) := by decide +kernel
theorem dX5_cellKind_16 : decode cX5_cellKind 16 = .ok (.iadd, 1) := by decide +kernel
theorem dX5_cellKind_17 : decode cX5_cellKind 17 = .ok (.laload, 1) := by decide +kernel
theorem dX5_cellKind_18 : decode cX5_cellKind 18 = .ok (.lstore 4, 2) := by decide +kernel
theorem dX5_cellKind_20 : decode cX5_cellKind 20 = .ok (.iload_n 3, 1) := by decide +kernel
theorem dX5_cellKind_21 : decode cX5_cellKind 21 = .ok (.bipush 8, 2) := by decide +kernel
theorem dX5_cellKind_23 : decode cX5_cellKind 23 = .ok (.if_icmp .ge 5, 3) := by decide +kernel
theorem dX5_cellKind_26 : decode cX5_cellKind 26 = .ok (.iload_n 3, 1) := by decide +kernel
theorem dX5_cellKind_27 : decode cX5_cellKind 27 = .ok (.ireturn, 1) := by decide +kernel
theorem dX5_cellKind_28 : decode cX5_cellKind 28 = .ok (.lload 4, 2) := by decide +kernel
theorem dX5_cellKind_30 : decode cX5_cellKind 30 = .ok (.lconst 0, 1) := by decide +kernel
theorem dX5_cellKind_31 : decode cX5_cellKind 31 = .ok (.lcmp, 1) := by decide +kernel
theorem dX5_cellKind_32 : decode cX5_cellKind 32 = .ok (.ifCond .ne 8, 3) := by decide +kernel
theorem dX5_cellKind_35 : decode cX5_cellKind 35 = .ok (.bipush 11, 2) := by decide +kernel
theorem dX5_cellKind_37 : decode cX5_cellKind 37 = .ok (.goto 32, 3) := by decide +kernel
theorem dX5_cellKind_40 : decode cX5_cellKind 40 = .ok (.iload_n 3, 1) := by decide +kernel
theorem dX5_cellKind_41 : decode cX5_cellKind 41 = .ok (.bipush 10, 2) := by decide +kernel
theorem dX5_cellKind_43 : decode cX5_cellKind 43 = .ok (.if_icmp .ne 8, 3) := by decide +kernel
theorem dX5_cellKind_46 : decode cX5_cellKind 46 = .ok (.bipush 10, 2) := by decide +kernel
theorem dX5_cellKind_48 : decode cX5_cellKind 48 = .ok (.goto 21, 3) := by decide +kernel
theorem dX5_cellKind_51 : decode cX5_cellKind 51 = .ok (.aload_n 0, 1) := by decide +kernel
theorem dX5_cellKind_52 : decode cX5_cellKind 52 = .ok (.getfield 24, 3) := by decide +kernel
theorem dX5_cellKind_55 : decode cX5_cellKind 55 = .ok (.lload 4, 2) := by decide +kernel
theorem dX5_cellKind_57 : decode cX5_cellKind 57 = .ok (.l2i, 1) := by decide +kernel
theorem dX5_cellKind_58 : decode cX5_cellKind 58 = .ok (.baload, 1) := by decide +kernel
theorem dX5_cellKind_59 : decode cX5_cellKind 59 = .ok (.ifCond .eq 8, 3) := by decide +kernel
theorem dX5_cellKind_62 : decode cX5_cellKind 62 = .ok (.bipush 9, 2) := by decide +kernel
theorem dX5_cellKind_64 : decode cX5_cellKind 64 = .ok (.goto 5, 3) := by decide +kernel
theorem dX5_cellKind_67 : decode cX5_cellKind 67 = .ok (.bipush 8, 2) := by decide +kernel
theorem dX5_cellKind_69 : decode cX5_cellKind 69 = .ok (.ireturn, 1) := by decide +kernel
theorem dX5_numberOf_0 : decode cX5_numberOf 0 = .ok (.aload_n 0, 1) := by decide +kernel
theorem dX5_numberOf_1 : decode cX5_numberOf 1 = .ok (.getfield 20, 3) := by decide +kernel
theorem dX5_numberOf_4 : decode cX5_numberOf 4 = .ok (.bipush 32, 2) := by decide +kernel
theorem dX5_numberOf_6 : decode cX5_numberOf 6 = .ok (.iload_n 1, 1) := by decide +kernel
theorem dX5_numberOf_7 : decode cX5_numberOf 7 = .ok (.imul, 1) := by decide +kernel
theorem dX5_numberOf_8 : decode cX5_numberOf 8 = .ok (.iload_n 2, 1) := by decide +kernel
theorem dX5_numberOf_9 : decode cX5_numberOf 9 = .ok (.iadd, 1) := by decide +kernel
theorem dX5_numberOf_10 : decode cX5_numberOf 10 = .ok (.laload, 1) := by decide +kernel
theorem dX5_numberOf_11 : decode cX5_numberOf 11 = .ok (.lstore_n 3, 1) := by decide +kernel
theorem dX5_numberOf_12 : decode cX5_numberOf 12 = .ok (.aload_n 0, 1) := by decide +kernel
theorem dX5_numberOf_13 : decode cX5_numberOf 13 = .ok (.getfield 7, 3) := by decide +kernel
theorem dX5_numberOf_16 : decode cX5_numberOf 16 = .ok (.iload_n 1, 1) := by decide +kernel
theorem dX5_numberOf_17 : decode cX5_numberOf 17 = .ok (.iaload, 1) := by decide +kernel
theorem dX5_numberOf_18 : decode cX5_numberOf 18 = .ok (.bipush 10, 2) := by decide +kernel
theorem dX5_numberOf_20 : decode cX5_numberOf 20 = .ok (.if_icmp .ne 22, 3) := by decide +kernel
theorem dX5_numberOf_23 : decode cX5_numberOf 23 = .ok (.lload_n 3, 1) := by decide +kernel
theorem dX5_numberOf_24 : decode cX5_numberOf 24 = .ok (.lconst 0, 1) := by decide +kernel
theorem dX5_numberOf_25 : decode cX5_numberOf 25 = .ok (.lcmp, 1) := by decide +kernel
theorem dX5_numberOf_26 : decode cX5_numberOf 26 = .ok (.ifCond .le 16, 3) := by decide +kernel
theorem dX5_numberOf_29 : decode cX5_numberOf 29 = .ok (.aload_n 0, 1) := by decide +kernel
theorem dX5_numberOf_30 : decode cX5_numberOf 30 = .ok (.getfield 13, 3) := by decide +kernel
theorem dX5_numberOf_33 : decode cX5_numberOf 33 = .ok (.lload_n 3, 1) := by decide +kernel
theorem dX5_numberOf_34 : decode cX5_numberOf 34 = .ok (.l2i, 1) := by decide +kernel
theorem dX5_numberOf_35 : decode cX5_numberOf 35 = .ok (.iconst 1, 1) := by decide +kernel
theorem dX5_numberOf_36 : decode cX5_numberOf 36 = .ok (.isub, 1) := by decide +kernel
theorem dX5_numberOf_37 : decode cX5_numberOf 37 = .ok (.iaload, 1) := by decide +kernel
theorem dX5_numberOf_38 : decode cX5_numberOf 38 = .ok (.i2l, 1) := by decide +kernel
theorem dX5_numberOf_39 : decode cX5_numberOf 39 = .ok (.goto 4, 3) := by decide +kernel
theorem dX5_numberOf_42 : decode cX5_numberOf 42 = .ok (.lload_n 3, 1) := by decide +kernel
theorem dX5_numberOf_43 : decode cX5_numberOf 43 = .ok (.lreturn, 1) := by decide +kernel
theorem dX5_kept_0 : decode cX5_kept 0 = .ok (.iload_n 0, 1) := by decide +kernel
theorem dX5_kept_1 : decode cX5_kept 1 = .ok (.bipush 8, 2) := by decide +kernel
theorem dX5_kept_3 : decode cX5_kept 3 = .ok (.if_icmp .ge 11, 3) := by decide +kernel
theorem dX5_kept_6 : decode cX5_kept 6 = .ok (.iload_n 0, 1) := by decide +kernel
theorem dX5_kept_7 : decode cX5_kept 7 = .ok (.lload_n 1, 1) := by decide +kernel
theorem dX5_kept_8 : decode cX5_kept 8 = .ok (.invokestatic 98, 3) := by decide +kernel
theorem dX5_kept_11 : decode cX5_kept 11 = .ok (.goto 4, 3) := by decide +kernel
theorem dX5_kept_14 : decode cX5_kept 14 = .ok (.lload_n 1, 1) := by decide +kernel
theorem dX5_kept_15 : decode cX5_kept 15 = .ok (.lreturn, 1) := by decide +kernel
theorem dX5_noTape_0 : decode cX5_noTape 0 = .ok (.aload_n 0, 1) := by decide +kernel
theorem dX5_noTape_1 : decode cX5_noTape 1 = .ok (.getfield 27, 3) := by decide +kernel
theorem dX5_noTape_4 : decode cX5_noTape 4 = .ok (.iload_n 1, 1) := by decide +kernel
theorem dX5_noTape_5 : decode cX5_noTape 5 = .ok (.iaload, 1) := by decide +kernel
theorem dX5_noTape_6 : decode cX5_noTape 6 = .ok (.iconst (-1), 1) := by decide +kernel
theorem dX5_noTape_7 : decode cX5_noTape 7 = .ok (.if_icmp .ne 7, 3) := by decide +kernel
theorem dX5_noTape_10 : decode cX5_noTape 10 = .ok (.iconst 1, 1) := by decide +kernel
theorem dX5_noTape_11 : decode cX5_noTape 11 = .ok (.goto 19, 3) := by decide +kernel
theorem dX5_noTape_14 : decode cX5_noTape 14 = .ok (.aload_n 0, 1) := by decide +kernel
theorem dX5_noTape_15 : decode cX5_noTape 15 = .ok (.getfield 27, 3) := by decide +kernel
theorem dX5_noTape_18 : decode cX5_noTape 18 = .ok (.iload_n 1, 1) := by decide +kernel
theorem dX5_noTape_19 : decode cX5_noTape 19 = .ok (.iaload, 1) := by decide +kernel
theorem dX5_noTape_20 : decode cX5_noTape 20 = .ok (.bipush (-2), 2) := by decide +kernel
theorem dX5_noTape_22 : decode cX5_noTape 22 = .ok (.if_icmp .ne 7, 3) := by decide +kernel
theorem dX5_noTape_25 : decode cX5_noTape 25 = .ok (.iconst 2, 1) := by decide +kernel
theorem dX5_noTape_26 : decode cX5_noTape 26 = .ok (.goto 4, 3) := by decide +kernel
theorem dX5_noTape_29 : decode cX5_noTape 29 = .ok (.iconst 0, 1) := by decide +kernel
theorem dX5_noTape_30 : decode cX5_noTape 30 = .ok (.ireturn, 1) := by decide +kernel
theorem dX5_noPlace_0 : decode cX5_noPlace 0 = .ok (.aload_n 0, 1) := by decide +kernel
theorem dX5_noPlace_1 : decode cX5_noPlace 1 = .ok (.iload_n 1, 1) := by decide +kernel
theorem dX5_noPlace_2 : decode cX5_noPlace 2 = .ok (.invokevirtual 102, 3) := by decide +kernel
theorem dX5_noPlace_5 : decode cX5_noPlace 5 = .ok (.istore_n 3, 1) := by decide +kernel
theorem dX5_noPlace_6 : decode cX5_noPlace 6 = .ok (.iload_n 3, 1) := by decide +kernel
theorem dX5_noPlace_7 : decode cX5_noPlace 7 = .ok (.ifCond .le 7, 3) := by decide +kernel
theorem dX5_noPlace_10 : decode cX5_noPlace 10 = .ok (.iload_n 3, 1) := by decide +kernel
theorem dX5_noPlace_11 : decode cX5_noPlace 11 = .ok (.goto 29, 3) := by decide +kernel
theorem dX5_noPlace_14 : decode cX5_noPlace 14 = .ok (.iload_n 2, 1) := by decide +kernel
theorem dX5_noPlace_15 : decode cX5_noPlace 15 = .ok (.iconst 0, 1) := by decide +kernel
theorem dX5_noPlace_16 : decode cX5_noPlace 16 = .ok (.aload_n 0, 1) := by decide +kernel
theorem dX5_noPlace_17 : decode cX5_noPlace 17 = .ok (.getfield 13, 3) := by decide +kernel
theorem dX5_noPlace_20 : decode cX5_noPlace 20 = .ok (.aload_n 0, 1) := by decide +kernel
theorem dX5_noPlace_21 : decode cX5_noPlace 21 = .ok (.getfield 27, 3) := by decide +kernel
theorem dX5_noPlace_24 : decode cX5_noPlace 24 = .ok (.iload_n 1, 1) := by decide +kernel
theorem dX5_noPlace_25 : decode cX5_noPlace 25 = .ok (.iaload, 1) := by decide +kernel
theorem dX5_noPlace_26 : decode cX5_noPlace 26 = .ok (.iaload, 1) := by decide +kernel
theorem dX5_noPlace_27 : decode cX5_noPlace 27 = .ok (.iconst 1, 1) := by decide +kernel
theorem dX5_noPlace_28 : decode cX5_noPlace 28 = .ok (.isub, 1) := by decide +kernel
theorem dX5_noPlace_29 : decode cX5_noPlace 29 = .ok (.invokestatic 75, 3) := by decide +kernel
theorem dX5_noPlace_32 : decode cX5_noPlace 32 = .ok (.ifCond .eq 7, 3) := by decide +kernel
theorem dX5_noPlace_35 : decode cX5_noPlace 35 = .ok (.iconst 0, 1) := by decide +kernel
theorem dX5_noPlace_36 : decode cX5_noPlace 36 = .ok (.goto 4, 3) := by decide +kernel
theorem dX5_noPlace_39 : decode cX5_noPlace 39 = .ok (.iconst 3, 1) := by decide +kernel
theorem dX5_noPlace_40 : decode cX5_noPlace 40 = .ok (.ireturn, 1) := by decide +kernel
theorem dX5_kindOf_0 : decode cX5_kindOf 0 = .ok (.aload_n 0, 1) := by decide +kernel
theorem dX5_kindOf_1 : decode cX5_kindOf 1 = .ok (.getfield 7, 3) := by decide +kernel
theorem dX5_kindOf_4 : decode cX5_kindOf 4 = .ok (.aload_n 0, 1) := by decide +kernel
theorem dX5_kindOf_5 : decode cX5_kindOf 5 = .ok (.getfield 27, 3) := by decide +kernel
theorem dX5_kindOf_8 : decode cX5_kindOf 8 = .ok (.iload_n 1, 1) := by decide +kernel
theorem dX5_kindOf_9 : decode cX5_kindOf 9 = .ok (.iaload, 1) := by decide +kernel
theorem dX5_kindOf_10 : decode cX5_kindOf 10 = .ok (.iaload, 1) := by decide +kernel
theorem dX5_kindOf_11 : decode cX5_kindOf 11 = .ok (.ireturn, 1) := by decide +kernel
theorem dX5_at_0 : decode cX5_at 0 = .ok (.bipush 32, 2) := by decide +kernel
theorem dX5_at_2 : decode cX5_at 2 = .ok (.aload_n 0, 1) := by decide +kernel
theorem dX5_at_3 : decode cX5_at 3 = .ok (.getfield 27, 3) := by decide +kernel
theorem dX5_at_6 : decode cX5_at 6 = .ok (.iload_n 1, 1) := by decide +kernel
theorem dX5_at_7 : decode cX5_at 7 = .ok (.iaload, 1) := by decide +kernel
theorem dX5_at_8 : decode cX5_at 8 = .ok (.imul, 1) := by decide +kernel
theorem dX5_at_9 : decode cX5_at 9 = .ok (.iload_n 2, 1) := by decide +kernel
theorem dX5_at_10 : decode cX5_at 10 = .ok (.iadd, 1) := by decide +kernel
theorem dX5_at_11 : decode cX5_at 11 = .ok (.ireturn, 1) := by decide +kernel
theorem dX5_noTake_0 : decode cX5_noTake 0 = .ok (.iload_n 0, 1) := by decide +kernel
theorem dX5_noTake_1 : decode cX5_noTake 1 = .ok (.iload_n 1, 1) := by decide +kernel
theorem dX5_noTake_2 : decode cX5_noTake 2 = .ok (.invokestatic 106, 3) := by decide +kernel
theorem dX5_noTake_5 : decode cX5_noTake 5 = .ok (.ifCond .eq 7, 3) := by decide +kernel
theorem dX5_noTake_8 : decode cX5_noTake 8 = .ok (.iconst 0, 1) := by decide +kernel
theorem dX5_noTake_9 : decode cX5_noTake 9 = .ok (.goto 4, 3) := by decide +kernel
theorem dX5_noTake_12 : decode cX5_noTake 12 = .ok (.iconst 2, 1) := by decide +kernel
theorem dX5_noTake_13 : decode cX5_noTake 13 = .ok (.ireturn, 1) := by decide +kernel
theorem dX5_noWrite_0 : decode cX5_noWrite 0 = .ok (.aload_n 0, 1) := by decide +kernel
theorem dX5_noWrite_1 : decode cX5_noWrite 1 = .ok (.iload_n 1, 1) := by decide +kernel
theorem dX5_noWrite_2 : decode cX5_noWrite 2 = .ok (.invokevirtual 102, 3) := by decide +kernel
theorem dX5_noWrite_5 : decode cX5_noWrite 5 = .ok (.istore 4, 2) := by decide +kernel
theorem dX5_noWrite_7 : decode cX5_noWrite 7 = .ok (.iload 4, 2) := by decide +kernel
theorem dX5_noWrite_9 : decode cX5_noWrite 9 = .ok (.ifCond .le 6, 3) := by decide +kernel
theorem dX5_noWrite_12 : decode cX5_noWrite 12 = .ok (.iload 4, 2) := by decide +kernel
theorem dX5_noWrite_14 : decode cX5_noWrite 14 = .ok (.ireturn, 1) := by decide +kernel
theorem dX5_noWrite_15 : decode cX5_noWrite 15 = .ok (.aload_n 0, 1) := by decide +kernel
theorem dX5_noWrite_16 : decode cX5_noWrite 16 = .ok (.iload_n 1, 1) := by decide +kernel
theorem dX5_noWrite_17 : decode cX5_noWrite 17 = .ok (.invokevirtual 110, 3) := by decide +kernel
theorem dX5_noWrite_20 : decode cX5_noWrite 20 = .ok (.bipush 8, 2) := by decide +kernel
theorem dX5_noWrite_22 : decode cX5_noWrite 22 = .ok (.if_icmp .ge 11, 3) := by decide +kernel
theorem dX5_noWrite_25 : decode cX5_noWrite 25 = .ok (.iload_n 3, 1) := by decide +kernel
theorem dX5_noWrite_26 : decode cX5_noWrite 26 = .ok (.bipush 11, 2) := by decide +kernel
theorem dX5_noWrite_28 : decode cX5_noWrite 28 = .ok (.if_icmp .ne 5, 3) := by decide +kernel
theorem dX5_noWrite_31 : decode cX5_noWrite 31 = .ok (.iconst 2, 1) := by decide +kernel
theorem dX5_noWrite_32 : decode cX5_noWrite 32 = .ok (.ireturn, 1) := by decide +kernel
theorem dX5_noWrite_33 : decode cX5_noWrite 33 = .ok (.aload_n 0, 1) := by decide +kernel
theorem dX5_noWrite_34 : decode cX5_noWrite 34 = .ok (.iload_n 1, 1) := by decide +kernel
theorem dX5_noWrite_35 : decode cX5_noWrite 35 = .ok (.iload_n 2, 1) := by decide +kernel
theorem dX5_noWrite_36 : decode cX5_noWrite 36 = .ok (.invokevirtual 113, 3) := by decide +kernel
theorem dX5_noWrite_39 : decode cX5_noWrite 39 = .ok (.istore 4, 2) := by decide +kernel
theorem dX5_noWrite_41 : decode cX5_noWrite 41 = .ok (.iload 4, 2) := by decide +kernel
theorem dX5_noWrite_43 : decode cX5_noWrite 43 = .ok (.ifCond .le 8, 3) := by decide +kernel
theorem dX5_noWrite_46 : decode cX5_noWrite 46 = .ok (.iload 4, 2) := by decide +kernel
theorem dX5_noWrite_48 : decode cX5_noWrite 48 = .ok (.goto 12, 3) := by decide +kernel
theorem dX5_noWrite_51 : decode cX5_noWrite 51 = .ok (.aload_n 0, 1) := by decide +kernel
theorem dX5_noWrite_52 : decode cX5_noWrite 52 = .ok (.iload_n 1, 1) := by decide +kernel
theorem dX5_noWrite_53 : decode cX5_noWrite 53 = .ok (.invokevirtual 110, 3) := by decide +kernel
theorem dX5_noWrite_56 : decode cX5_noWrite 56 = .ok (.iload_n 3, 1) := by decide +kernel
theorem dX5_noWrite_57 : decode cX5_noWrite 57 = .ok (.invokestatic 117, 3) := by decide +kernel
theorem dX5_noWrite_60 : decode cX5_noWrite 60 = .ok (.ireturn, 1) := by decide +kernel
theorem dX5_writes_0 : decode cX5_writes 0 = .ok (.aload_n 0, 1) := by decide +kernel
theorem dX5_writes_1 : decode cX5_writes 1 = .ok (.iload_n 1, 1) := by decide +kernel
theorem dX5_writes_2 : decode cX5_writes 2 = .ok (.iload_n 2, 1) := by decide +kernel
theorem dX5_writes_3 : decode cX5_writes 3 = .ok (.iload_n 3, 1) := by decide +kernel
theorem dX5_writes_4 : decode cX5_writes 4 = .ok (.invokevirtual 120, 3) := by decide +kernel
theorem dX5_writes_7 : decode cX5_writes 7 = .ok (.istore 6, 2) := by decide +kernel
theorem dX5_writes_9 : decode cX5_writes 9 = .ok (.iload 6, 2) := by decide +kernel
theorem dX5_writes_11 : decode cX5_writes 11 = .ok (.ifCond .ne 24, 3) := by decide +kernel
theorem dX5_writes_14 : decode cX5_writes 14 = .ok (.aload_n 0, 1) := by decide +kernel
theorem dX5_writes_15 : decode cX5_writes 15 = .ok (.getfield 20, 3) := by decide +kernel
theorem dX5_writes_18 : decode cX5_writes 18 = .ok (.aload_n 0, 1) := by decide +kernel
theorem dX5_writes_19 : decode cX5_writes 19 = .ok (.iload_n 1, 1) := by decide +kernel
theorem dX5_writes_20 : decode cX5_writes 20 = .ok (.iload_n 2, 1) := by decide +kernel
theorem dX5_writes_21 : decode cX5_writes 21 = .ok (.invokevirtual 124, 3) := by decide +kernel
theorem dX5_writes_24 : decode cX5_writes 24 = .ok (.aload_n 0, 1) := by decide +kernel
theorem dX5_writes_25 : decode cX5_writes 25 = .ok (.iload_n 1, 1) := by decide +kernel
theorem dX5_writes_26 : decode cX5_writes 26 = .ok (.invokevirtual 110, 3) := by decide +kernel
theorem dX5_writes_29 : decode cX5_writes 29 = .ok (.lload 4, 2) := by decide +kernel
theorem dX5_writes_31 : decode cX5_writes 31 = .ok (.invokestatic 127, 3) := by decide +kernel
theorem dX5_writes_34 : decode cX5_writes 34 = .ok (.lastore, 1) := by decide +kernel
theorem dX5_writes_35 : decode cX5_writes 35 = .ok (.iload 6, 2) := by decide +kernel
theorem dX5_writes_37 : decode cX5_writes 37 = .ok (.ireturn, 1) := by decide +kernel
theorem dX5_passes_0 : decode cX5_passes 0 = .ok (.aload_n 0, 1) := by decide +kernel
theorem dX5_passes_1 : decode cX5_passes 1 = .ok (.iload_n 1, 1) := by decide +kernel
theorem dX5_passes_2 : decode cX5_passes 2 = .ok (.iload_n 2, 1) := by decide +kernel
theorem dX5_passes_3 : decode cX5_passes 3 = .ok (.invokevirtual 113, 3) := by decide +kernel
theorem dX5_passes_6 : decode cX5_passes 6 = .ok (.istore 5, 2) := by decide +kernel
theorem dX5_passes_8 : decode cX5_passes 8 = .ok (.iload 5, 2) := by decide +kernel
theorem dX5_passes_10 : decode cX5_passes 10 = .ok (.ifCond .le 8, 3) := by decide +kernel
theorem dX5_passes_13 : decode cX5_passes 13 = .ok (.iload 5, 2) := by decide +kernel
theorem dX5_passes_15 : decode cX5_passes 15 = .ok (.goto 32, 3) := by decide +kernel
theorem dX5_passes_18 : decode cX5_passes 18 = .ok (.aload_n 0, 1) := by decide +kernel
theorem dX5_passes_19 : decode cX5_passes 19 = .ok (.iload_n 3, 1) := by decide +kernel
theorem dX5_passes_20 : decode cX5_passes 20 = .ok (.iload 4, 2) := by decide +kernel
theorem dX5_passes_22 : decode cX5_passes 22 = .ok (.aload_n 0, 1) := by decide +kernel
theorem dX5_passes_23 : decode cX5_passes 23 = .ok (.aload_n 0, 1) := by decide +kernel
theorem dX5_passes_24 : decode cX5_passes 24 = .ok (.getfield 27, 3) := by decide +kernel
theorem dX5_passes_27 : decode cX5_passes 27 = .ok (.iload_n 1, 1) := by decide +kernel
theorem dX5_passes_28 : decode cX5_passes 28 = .ok (.iaload, 1) := by decide +kernel
theorem dX5_passes_29 : decode cX5_passes 29 = .ok (.iload_n 2, 1) := by decide +kernel
theorem dX5_passes_30 : decode cX5_passes 30 = .ok (.invokevirtual 130, 3) := by decide +kernel
theorem dX5_passes_33 : decode cX5_passes 33 = .ok (.aload_n 0, 1) := by decide +kernel
theorem dX5_passes_34 : decode cX5_passes 34 = .ok (.getfield 20, 3) := by decide +kernel
theorem dX5_passes_37 : decode cX5_passes 37 = .ok (.aload_n 0, 1) := by decide +kernel
theorem dX5_passes_38 : decode cX5_passes 38 = .ok (.iload_n 1, 1) := by decide +kernel
theorem dX5_passes_39 : decode cX5_passes 39 = .ok (.iload_n 2, 1) := by decide +kernel
theorem dX5_passes_40 : decode cX5_passes 40 = .ok (.invokevirtual 124, 3) := by decide +kernel
theorem dX5_passes_43 : decode cX5_passes 43 = .ok (.laload, 1) := by decide +kernel
theorem dX5_passes_44 : decode cX5_passes 44 = .ok (.invokevirtual 133, 3) := by decide +kernel
theorem dX5_passes_47 : decode cX5_passes 47 = .ok (.ireturn, 1) := by decide +kernel
theorem dX5_tape_0 : decode cX5_tape 0 = .ok (.iload_n 1, 1) := by decide +kernel
theorem dX5_tape_1 : decode cX5_tape 1 = .ok (.invokestatic 137, 3) := by decide +kernel
theorem dX5_tape_4 : decode cX5_tape 4 = .ok (.ifCond .eq 19, 3) := by decide +kernel
theorem dX5_tape_7 : decode cX5_tape 7 = .ok (.iload_n 2, 1) := by decide +kernel
theorem dX5_tape_8 : decode cX5_tape 8 = .ok (.iconst 0, 1) := by decide +kernel
theorem dX5_tape_9 : decode cX5_tape 9 = .ok (.bipush 10, 2) := by decide +kernel
theorem dX5_tape_11 : decode cX5_tape 11 = .ok (.invokestatic 75, 3) := by decide +kernel
theorem dX5_tape_14 : decode cX5_tape 14 = .ok (.ifCond .eq 9, 3) := by decide +kernel
theorem dX5_tape_17 : decode cX5_tape 17 = .ok (.iload_n 3, 1) := by decide +kernel
theorem dX5_tape_18 : decode cX5_tape 18 = .ok (.bipush 32, 2) := by decide +kernel
theorem dX5_tape_20 : decode cX5_tape 20 = .ok (.if_icmp .le 5, 3) := by decide +kernel
theorem dX5_tape_23 : decode cX5_tape 23 = .ok (.iconst (-1), 1) := by decide +kernel
theorem dX5_tape_24 : decode cX5_tape 24 = .ok (.ireturn, 1) := by decide +kernel
theorem dX5_tape_25 : decode cX5_tape 25 = .ok (.aload_n 0, 1) := by decide +kernel
theorem dX5_tape_26 : decode cX5_tape 26 = .ok (.iload_n 3, 1) := by decide +kernel
theorem dX5_tape_27 : decode cX5_tape 27 = .ok (.ifCond .ge 7, 3) := by decide +kernel
theorem dX5_tape_30 : decode cX5_tape 30 = .ok (.iconst 5, 1) := by decide +kernel
theorem dX5_tape_31 : decode cX5_tape 31 = .ok (.goto 4, 3) := by decide +kernel
theorem dX5_tape_34 : decode cX5_tape 34 = .ok (.iconst 0, 1) := by decide +kernel
theorem dX5_tape_35 : decode cX5_tape 35 = .ok (.invokevirtual 141, 3) := by decide +kernel
theorem dX5_tape_38 : decode cX5_tape 38 = .ok (.ifCond .le 6, 3) := by decide +kernel
theorem dX5_tape_41 : decode cX5_tape 41 = .ok (.bipush (-15), 2) := by decide +kernel
theorem dX5_tape_43 : decode cX5_tape 43 = .ok (.ireturn, 1) := by decide +kernel
theorem dX5_tape_44 : decode cX5_tape 44 = .ok (.aload_n 0, 1) := by decide +kernel
theorem dX5_tape_45 : decode cX5_tape 45 = .ok (.getfield 27, 3) := by decide +kernel
theorem dX5_tape_48 : decode cX5_tape 48 = .ok (.iload_n 1, 1) := by decide +kernel
theorem dX5_tape_49 : decode cX5_tape 49 = .ok (.aload_n 0, 1) := by decide +kernel
theorem dX5_tape_50 : decode cX5_tape 50 = .ok (.iload_n 2, 1) := by decide +kernel
theorem dX5_tape_51 : decode cX5_tape 51 = .ok (.iload_n 3, 1) := by decide +kernel
theorem dX5_tape_52 : decode cX5_tape 52 = .ok (.invokevirtual 144, 3) := by decide +kernel
theorem dX5_tape_55 : decode cX5_tape 55 = .ok (.iastore, 1) := by decide +kernel
theorem dX5_tape_56 : decode cX5_tape 56 = .ok (.iload_n 3, 1) := by decide +kernel
theorem dX5_tape_57 : decode cX5_tape 57 = .ok (.ireturn, 1) := by decide +kernel
theorem dX5_plug_0 : decode cX5_plug 0 = .ok (.iload_n 1, 1) := by decide +kernel
theorem dX5_plug_1 : decode cX5_plug 1 = .ok (.invokestatic 137, 3) := by decide +kernel
theorem dX5_plug_4 : decode cX5_plug 4 = .ok (.ifCond .ne 5, 3) := by decide +kernel
theorem dX5_plug_7 : decode cX5_plug 7 = .ok (.iconst (-1), 1) := by decide +kernel
theorem dX5_plug_8 : decode cX5_plug 8 = .ok (.ireturn, 1) := by decide +kernel
theorem dX5_plug_9 : decode cX5_plug 9 = .ok (.aload_n 0, 1) := by decide +kernel
theorem dX5_plug_10 : decode cX5_plug 10 = .ok (.iload_n 1, 1) := by decide +kernel
theorem dX5_plug_11 : decode cX5_plug 11 = .ok (.invokevirtual 147, 3) := by decide +kernel
theorem dX5_plug_14 : decode cX5_plug 14 = .ok (.istore_n 2, 1) := by decide +kernel
theorem dX5_plug_15 : decode cX5_plug 15 = .ok (.aload_n 0, 1) := by decide +kernel
theorem dX5_plug_16 : decode cX5_plug 16 = .ok (.getfield 27, 3) := by decide +kernel
theorem dX5_plug_19 : decode cX5_plug 19 = .ok (.iload_n 1, 1) := by decide +kernel
theorem dX5_plug_20 : decode cX5_plug 20 = .ok (.bipush (-2), 2) := by decide +kernel
theorem dX5_plug_22 : decode cX5_plug 22 = .ok (.iastore, 1) := by decide +kernel
theorem dX5_plug_23 : decode cX5_plug 23 = .ok (.iload_n 2, 1) := by decide +kernel
theorem dX5_plug_24 : decode cX5_plug 24 = .ok (.ireturn, 1) := by decide +kernel
theorem dX5_strip_0 : decode cX5_strip 0 = .ok (.iload_n 1, 1) := by decide +kernel
theorem dX5_strip_1 : decode cX5_strip 1 = .ok (.invokestatic 137, 3) := by decide +kernel
theorem dX5_strip_4 : decode cX5_strip 4 = .ok (.ifCond .ne 5, 3) := by decide +kernel
theorem dX5_strip_7 : decode cX5_strip 7 = .ok (.iconst (-1), 1) := by decide +kernel
theorem dX5_strip_8 : decode cX5_strip 8 = .ok (.ireturn, 1) := by decide +kernel
theorem dX5_strip_9 : decode cX5_strip 9 = .ok (.aload_n 0, 1) := by decide +kernel
theorem dX5_strip_10 : decode cX5_strip 10 = .ok (.iload_n 1, 1) := by decide +kernel
theorem dX5_strip_11 : decode cX5_strip 11 = .ok (.invokevirtual 147, 3) := by decide +kernel
theorem dX5_strip_14 : decode cX5_strip 14 = .ok (.istore_n 2, 1) := by decide +kernel
theorem dX5_strip_15 : decode cX5_strip 15 = .ok (.aload_n 0, 1) := by decide +kernel
theorem dX5_strip_16 : decode cX5_strip 16 = .ok (.getfield 27, 3) := by decide +kernel
theorem dX5_strip_19 : decode cX5_strip 19 = .ok (.iload_n 1, 1) := by decide +kernel
theorem dX5_strip_20 : decode cX5_strip 20 = .ok (.iconst (-1), 1) := by decide +kernel
theorem dX5_strip_21 : decode cX5_strip 21 = .ok (.iastore, 1) := by decide +kernel
theorem dX5_strip_22 : decode cX5_strip 22 = .ok (.iload_n 2, 1) := by decide +kernel
theorem dX5_strip_23 : decode cX5_strip 23 = .ok (.ireturn, 1) := by decide +kernel
theorem dX5_share_0 : decode cX5_share 0 = .ok (.iload_n 1, 1) := by decide +kernel
theorem dX5_share_1 : decode cX5_share 1 = .ok (.invokestatic 137, 3) := by decide +kernel
theorem dX5_share_4 : decode cX5_share 4 = .ok (.ifCond .eq 10, 3) := by decide +kernel
theorem dX5_share_7 : decode cX5_share 7 = .ok (.iload_n 2, 1) := by decide +kernel
theorem dX5_share_8 : decode cX5_share 8 = .ok (.invokestatic 137, 3) := by decide +kernel
theorem dX5_share_11 : decode cX5_share 11 = .ok (.ifCond .ne 5, 3) := by decide +kernel
theorem dX5_share_14 : decode cX5_share 14 = .ok (.iconst (-1), 1) := by decide +kernel
theorem dX5_share_15 : decode cX5_share 15 = .ok (.ireturn, 1) := by decide +kernel
theorem dX5_share_16 : decode cX5_share 16 = .ok (.aload_n 0, 1) := by decide +kernel
theorem dX5_share_17 : decode cX5_share 17 = .ok (.getfield 27, 3) := by decide +kernel
theorem dX5_share_20 : decode cX5_share 20 = .ok (.iload_n 1, 1) := by decide +kernel
theorem dX5_share_21 : decode cX5_share 21 = .ok (.aload_n 0, 1) := by decide +kernel
theorem dX5_share_22 : decode cX5_share 22 = .ok (.getfield 27, 3) := by decide +kernel
theorem dX5_share_25 : decode cX5_share 25 = .ok (.iload_n 2, 1) := by decide +kernel
theorem dX5_share_26 : decode cX5_share 26 = .ok (.iaload, 1) := by decide +kernel
theorem dX5_share_27 : decode cX5_share 27 = .ok (.iastore, 1) := by decide +kernel
theorem dX5_share_28 : decode cX5_share 28 = .ok (.aload_n 0, 1) := by decide +kernel
theorem dX5_share_29 : decode cX5_share 29 = .ok (.iload_n 1, 1) := by decide +kernel
theorem dX5_share_30 : decode cX5_share 30 = .ok (.invokevirtual 147, 3) := by decide +kernel
theorem dX5_share_33 : decode cX5_share 33 = .ok (.ireturn, 1) := by decide +kernel
theorem dX5_head_0 : decode cX5_head 0 = .ok (.iload_n 1, 1) := by decide +kernel
theorem dX5_head_1 : decode cX5_head 1 = .ok (.invokestatic 137, 3) := by decide +kernel
theorem dX5_head_4 : decode cX5_head 4 = .ok (.ifCond .ne 5, 3) := by decide +kernel
theorem dX5_head_7 : decode cX5_head 7 = .ok (.iconst (-1), 1) := by decide +kernel
theorem dX5_head_8 : decode cX5_head 8 = .ok (.ireturn, 1) := by decide +kernel
theorem dX5_head_9 : decode cX5_head 9 = .ok (.aload_n 0, 1) := by decide +kernel
theorem dX5_head_10 : decode cX5_head 10 = .ok (.getfield 30, 3) := by decide +kernel
theorem dX5_head_13 : decode cX5_head 13 = .ok (.iload_n 1, 1) := by decide +kernel
theorem dX5_head_14 : decode cX5_head 14 = .ok (.iload_n 2, 1) := by decide +kernel
theorem dX5_head_15 : decode cX5_head 15 = .ok (.iastore, 1) := by decide +kernel
theorem dX5_head_16 : decode cX5_head 16 = .ok (.iconst 1, 1) := by decide +kernel
theorem dX5_head_17 : decode cX5_head 17 = .ok (.ireturn, 1) := by decide +kernel
theorem dX5_step_0 : decode cX5_step 0 = .ok (.iload_n 1, 1) := by decide +kernel
theorem dX5_step_1 : decode cX5_step 1 = .ok (.invokestatic 137, 3) := by decide +kernel
theorem dX5_step_4 : decode cX5_step 4 = .ok (.ifCond .eq 13, 3) := by decide +kernel
theorem dX5_step_7 : decode cX5_step 7 = .ok (.iload_n 2, 1) := by decide +kernel
theorem dX5_step_8 : decode cX5_step 8 = .ok (.bipush (-3), 2) := by decide +kernel
theorem dX5_step_10 : decode cX5_step 10 = .ok (.iconst 3, 1) := by decide +kernel
theorem dX5_step_11 : decode cX5_step 11 = .ok (.invokestatic 75, 3) := by decide +kernel
theorem dX5_step_14 : decode cX5_step 14 = .ok (.ifCond .ne 5, 3) := by decide +kernel
theorem dX5_step_17 : decode cX5_step 17 = .ok (.iconst (-1), 1) := by decide +kernel
theorem dX5_step_18 : decode cX5_step 18 = .ok (.ireturn, 1) := by decide +kernel
theorem dX5_step_19 : decode cX5_step 19 = .ok (.aload_n 0, 1) := by decide +kernel
theorem dX5_step_20 : decode cX5_step 20 = .ok (.getfield 33, 3) := by decide +kernel
theorem dX5_step_23 : decode cX5_step 23 = .ok (.iload_n 1, 1) := by decide +kernel
theorem dX5_step_24 : decode cX5_step 24 = .ok (.iaload, 1) := by decide +kernel
theorem dX5_step_25 : decode cX5_step 25 = .ok (.iconst 3, 1) := by decide +kernel
theorem dX5_step_26 : decode cX5_step 26 = .ok (.iadd, 1) := by decide +kernel
theorem dX5_step_27 : decode cX5_step 27 = .ok (.istore_n 3, 1) := by decide +kernel
theorem dX5_step_28 : decode cX5_step 28 = .ok (.aload_n 0, 1) := by decide +kernel
theorem dX5_step_29 : decode cX5_step 29 = .ok (.getfield 33, 3) := by decide +kernel
theorem dX5_step_32 : decode cX5_step 32 = .ok (.iload_n 1, 1) := by decide +kernel
theorem dX5_step_33 : decode cX5_step 33 = .ok (.iload_n 2, 1) := by decide +kernel
theorem dX5_step_34 : decode cX5_step 34 = .ok (.iastore, 1) := by decide +kernel
theorem dX5_step_35 : decode cX5_step 35 = .ok (.iload_n 3, 1) := by decide +kernel
theorem dX5_step_36 : decode cX5_step 36 = .ok (.ireturn, 1) := by decide +kernel
theorem dX5_loop_0 : decode cX5_loop 0 = .ok (.iload_n 1, 1) := by decide +kernel
theorem dX5_loop_1 : decode cX5_loop 1 = .ok (.invokestatic 137, 3) := by decide +kernel
theorem dX5_loop_4 : decode cX5_loop 4 = .ok (.ifCond .ne 5, 3) := by decide +kernel
theorem dX5_loop_7 : decode cX5_loop 7 = .ok (.iconst (-1), 1) := by decide +kernel
theorem dX5_loop_8 : decode cX5_loop 8 = .ok (.ireturn, 1) := by decide +kernel
theorem dX5_loop_9 : decode cX5_loop 9 = .ok (.aload_n 0, 1) := by decide +kernel
theorem dX5_loop_10 : decode cX5_loop 10 = .ok (.getfield 36, 3) := by decide +kernel
theorem dX5_loop_13 : decode cX5_loop 13 = .ok (.iload_n 1, 1) := by decide +kernel
theorem dX5_loop_14 : decode cX5_loop 14 = .ok (.baload, 1) := by decide +kernel
theorem dX5_loop_15 : decode cX5_loop 15 = .ok (.ifCond .eq 7, 3) := by decide +kernel
theorem dX5_loop_18 : decode cX5_loop 18 = .ok (.iconst 1, 1) := by decide +kernel
theorem dX5_loop_19 : decode cX5_loop 19 = .ok (.goto 4, 3) := by decide +kernel
theorem dX5_loop_22 : decode cX5_loop 22 = .ok (.iconst 0, 1) := by decide +kernel
theorem dX5_loop_23 : decode cX5_loop 23 = .ok (.istore_n 3, 1) := by decide +kernel
theorem dX5_loop_24 : decode cX5_loop 24 = .ok (.aload_n 0, 1) := by decide +kernel
theorem dX5_loop_25 : decode cX5_loop 25 = .ok (.getfield 36, 3) := by decide +kernel
theorem dX5_loop_28 : decode cX5_loop 28 = .ok (.iload_n 1, 1) := by decide +kernel
theorem dX5_loop_29 : decode cX5_loop 29 = .ok (.iload_n 2, 1) := by decide +kernel
theorem dX5_loop_30 : decode cX5_loop 30 = .ok (.bastore, 1) := by decide +kernel
theorem dX5_loop_31 : decode cX5_loop 31 = .ok (.iload_n 3, 1) := by decide +kernel
theorem dX5_loop_32 : decode cX5_loop 32 = .ok (.ireturn, 1) := by decide +kernel
theorem dX5_noPlain_0 : decode cX5_noPlain 0 = .ok (.aload_n 0, 1) := by decide +kernel
theorem dX5_noPlain_1 : decode cX5_noPlain 1 = .ok (.iload_n 1, 1) := by decide +kernel
theorem dX5_noPlain_2 : decode cX5_noPlain 2 = .ok (.invokevirtual 102, 3) := by decide +kernel
theorem dX5_noPlain_5 : decode cX5_noPlain 5 = .ok (.istore_n 3, 1) := by decide +kernel
theorem dX5_noPlain_6 : decode cX5_noPlain 6 = .ok (.iload_n 3, 1) := by decide +kernel
theorem dX5_noPlain_7 : decode cX5_noPlain 7 = .ok (.ifCond .ne 15, 3) := by decide +kernel
theorem dX5_noPlain_10 : decode cX5_noPlain 10 = .ok (.aload_n 0, 1) := by decide +kernel
theorem dX5_noPlain_11 : decode cX5_noPlain 11 = .ok (.iload_n 1, 1) := by decide +kernel
theorem dX5_noPlain_12 : decode cX5_noPlain 12 = .ok (.invokevirtual 110, 3) := by decide +kernel
theorem dX5_noPlain_15 : decode cX5_noPlain 15 = .ok (.bipush 7, 2) := by decide +kernel
theorem dX5_noPlain_17 : decode cX5_noPlain 17 = .ok (.if_icmp .le 5, 3) := by decide +kernel
theorem dX5_noPlain_20 : decode cX5_noPlain 20 = .ok (.iconst 2, 1) := by decide +kernel
theorem dX5_noPlain_21 : decode cX5_noPlain 21 = .ok (.istore_n 3, 1) := by decide +kernel
theorem dX5_noPlain_22 : decode cX5_noPlain 22 = .ok (.iload_n 3, 1) := by decide +kernel
theorem dX5_noPlain_23 : decode cX5_noPlain 23 = .ok (.ifCond .le 7, 3) := by decide +kernel
theorem dX5_noPlain_26 : decode cX5_noPlain 26 = .ok (.iload_n 3, 1) := by decide +kernel
theorem dX5_noPlain_27 : decode cX5_noPlain 27 = .ok (.goto 9, 3) := by decide +kernel
theorem dX5_noPlain_30 : decode cX5_noPlain 30 = .ok (.aload_n 0, 1) := by decide +kernel
theorem dX5_noPlain_31 : decode cX5_noPlain 31 = .ok (.iload_n 1, 1) := by decide +kernel
theorem dX5_noPlain_32 : decode cX5_noPlain 32 = .ok (.iload_n 2, 1) := by decide +kernel
theorem dX5_noPlain_33 : decode cX5_noPlain 33 = .ok (.invokevirtual 113, 3) := by decide +kernel
theorem dX5_noPlain_36 : decode cX5_noPlain 36 = .ok (.ireturn, 1) := by decide +kernel
theorem dX5_stamp_0 : decode cX5_stamp 0 = .ok (.iload_n 1, 1) := by decide +kernel
theorem dX5_stamp_1 : decode cX5_stamp 1 = .ok (.invokestatic 137, 3) := by decide +kernel
theorem dX5_stamp_4 : decode cX5_stamp 4 = .ok (.ifCond .eq 13, 3) := by decide +kernel
theorem dX5_stamp_7 : decode cX5_stamp 7 = .ok (.iload_n 3, 1) := by decide +kernel
theorem dX5_stamp_8 : decode cX5_stamp 8 = .ok (.iconst 0, 1) := by decide +kernel
theorem dX5_stamp_9 : decode cX5_stamp 9 = .ok (.bipush 7, 2) := by decide +kernel
theorem dX5_stamp_11 : decode cX5_stamp 11 = .ok (.invokestatic 75, 3) := by decide +kernel
theorem dX5_stamp_14 : decode cX5_stamp 14 = .ok (.ifCond .ne 5, 3) := by decide +kernel
theorem dX5_stamp_17 : decode cX5_stamp 17 = .ok (.iconst (-1), 1) := by decide +kernel
theorem dX5_stamp_18 : decode cX5_stamp 18 = .ok (.ireturn, 1) := by decide +kernel
theorem dX5_stamp_19 : decode cX5_stamp 19 = .ok (.aload_n 0, 1) := by decide +kernel
theorem dX5_stamp_20 : decode cX5_stamp 20 = .ok (.iload_n 1, 1) := by decide +kernel
theorem dX5_stamp_21 : decode cX5_stamp 21 = .ok (.iload_n 2, 1) := by decide +kernel
theorem dX5_stamp_22 : decode cX5_stamp 22 = .ok (.invokevirtual 150, 3) := by decide +kernel
theorem dX5_stamp_25 : decode cX5_stamp 25 = .ok (.istore 6, 2) := by decide +kernel
theorem dX5_stamp_27 : decode cX5_stamp 27 = .ok (.iload 6, 2) := by decide +kernel
theorem dX5_stamp_29 : decode cX5_stamp 29 = .ok (.ifCond .ne 18, 3) := by decide +kernel
theorem dX5_stamp_32 : decode cX5_stamp 32 = .ok (.aload_n 0, 1) := by decide +kernel
theorem dX5_stamp_33 : decode cX5_stamp 33 = .ok (.iload_n 1, 1) := by decide +kernel
theorem dX5_stamp_34 : decode cX5_stamp 34 = .ok (.invokevirtual 110, 3) := by decide +kernel
theorem dX5_stamp_37 : decode cX5_stamp 37 = .ok (.iload_n 3, 1) := by decide +kernel
theorem dX5_stamp_38 : decode cX5_stamp 38 = .ok (.invokestatic 106, 3) := by decide +kernel
theorem dX5_stamp_41 : decode cX5_stamp 41 = .ok (.ifCond .ne 6, 3) := by decide +kernel
theorem dX5_stamp_44 : decode cX5_stamp 44 = .ok (.iconst 2, 1) := by decide +kernel
theorem dX5_stamp_45 : decode cX5_stamp 45 = .ok (.istore 6, 2) := by decide +kernel
theorem dX5_stamp_47 : decode cX5_stamp 47 = .ok (.aload_n 0, 1) := by decide +kernel
theorem dX5_stamp_48 : decode cX5_stamp 48 = .ok (.iload 6, 2) := by decide +kernel
theorem dX5_stamp_50 : decode cX5_stamp 50 = .ok (.invokevirtual 141, 3) := by decide +kernel
theorem dX5_stamp_53 : decode cX5_stamp 53 = .ok (.ifCond .le 9, 3) := by decide +kernel
theorem dX5_stamp_56 : decode cX5_stamp 56 = .ok (.bipush (-10), 2) := by decide +kernel
theorem dX5_stamp_58 : decode cX5_stamp 58 = .ok (.iload 6, 2) := by decide +kernel
theorem dX5_stamp_60 : decode cX5_stamp 60 = .ok (.isub, 1) := by decide +kernel
theorem dX5_stamp_61 : decode cX5_stamp 61 = .ok (.ireturn, 1) := by decide +kernel
theorem dX5_stamp_62 : decode cX5_stamp 62 = .ok (.aload_n 0, 1) := by decide +kernel
theorem dX5_stamp_63 : decode cX5_stamp 63 = .ok (.getfield 20, 3) := by decide +kernel
theorem dX5_stamp_66 : decode cX5_stamp 66 = .ok (.aload_n 0, 1) := by decide +kernel
theorem dX5_stamp_67 : decode cX5_stamp 67 = .ok (.iload_n 1, 1) := by decide +kernel
theorem dX5_stamp_68 : decode cX5_stamp 68 = .ok (.iload_n 2, 1) := by decide +kernel
theorem dX5_stamp_69 : decode cX5_stamp 69 = .ok (.invokevirtual 124, 3) := by decide +kernel
theorem dX5_stamp_72 : decode cX5_stamp 72 = .ok (.aload_n 0, 1) := by decide +kernel
theorem dX5_stamp_73 : decode cX5_stamp 73 = .ok (.iload_n 1, 1) := by decide +kernel
theorem dX5_stamp_74 : decode cX5_stamp 74 = .ok (.invokevirtual 110, 3) := by decide +kernel
theorem dX5_stamp_77 : decode cX5_stamp 77 = .ok (.iload_n 3, 1) := by decide +kernel
theorem dX5_stamp_78 : decode cX5_stamp 78 = .ok (.lload 4, 2) := by decide +kernel
theorem dX5_stamp_80 : decode cX5_stamp 80 = .ok (.invokestatic 98, 3) := by decide +kernel
theorem dX5_stamp_83 : decode cX5_stamp 83 = .ok (.invokestatic 98, 3) := by decide +kernel
theorem dX5_stamp_86 : decode cX5_stamp 86 = .ok (.lastore, 1) := by decide +kernel
theorem dX5_stamp_87 : decode cX5_stamp 87 = .ok (.iconst 1, 1) := by decide +kernel
theorem dX5_stamp_88 : decode cX5_stamp 88 = .ok (.ireturn, 1) := by decide +kernel
theorem dX5_probe_0 : decode cX5_probe 0 = .ok (.iload_n 1, 1) := by decide +kernel
theorem dX5_probe_1 : decode cX5_probe 1 = .ok (.invokestatic 137, 3) := by decide +kernel
theorem dX5_probe_4 : decode cX5_probe 4 = .ok (.ifCond .eq 13, 3) := by decide +kernel
theorem dX5_probe_7 : decode cX5_probe 7 = .ok (.iload_n 3, 1) := by decide +kernel
theorem dX5_probe_8 : decode cX5_probe 8 = .ok (.iconst 0, 1) := by decide +kernel
theorem dX5_probe_9 : decode cX5_probe 9 = .ok (.bipush 7, 2) := by decide +kernel
theorem dX5_probe_11 : decode cX5_probe 11 = .ok (.invokestatic 75, 3) := by decide +kernel
theorem dX5_probe_14 : decode cX5_probe 14 = .ok (.ifCond .ne 5, 3) := by decide +kernel
theorem dX5_probe_17 : decode cX5_probe 17 = .ok (.lconst 0, 1) := by decide +kernel
theorem dX5_probe_18 : decode cX5_probe 18 = .ok (.lreturn, 1) := by decide +kernel
theorem dX5_probe_19 : decode cX5_probe 19 = .ok (.aload_n 0, 1) := by decide +kernel
theorem dX5_probe_20 : decode cX5_probe 20 = .ok (.iload_n 1, 1) := by decide +kernel
theorem dX5_probe_21 : decode cX5_probe 21 = .ok (.iload_n 2, 1) := by decide +kernel
theorem dX5_probe_22 : decode cX5_probe 22 = .ok (.invokevirtual 150, 3) := by decide +kernel
theorem dX5_probe_25 : decode cX5_probe 25 = .ok (.istore 4, 2) := by decide +kernel
theorem dX5_probe_27 : decode cX5_probe 27 = .ok (.iload 4, 2) := by decide +kernel
theorem dX5_probe_29 : decode cX5_probe 29 = .ok (.ifCond .ne 18, 3) := by decide +kernel
theorem dX5_probe_32 : decode cX5_probe 32 = .ok (.iload_n 3, 1) := by decide +kernel
theorem dX5_probe_33 : decode cX5_probe 33 = .ok (.aload_n 0, 1) := by decide +kernel
theorem dX5_probe_34 : decode cX5_probe 34 = .ok (.iload_n 1, 1) := by decide +kernel
theorem dX5_probe_35 : decode cX5_probe 35 = .ok (.invokevirtual 110, 3) := by decide +kernel
theorem dX5_probe_38 : decode cX5_probe 38 = .ok (.invokestatic 106, 3) := by decide +kernel
theorem dX5_probe_41 : decode cX5_probe 41 = .ok (.ifCond .ne 6, 3) := by decide +kernel
theorem dX5_probe_44 : decode cX5_probe 44 = .ok (.iconst 2, 1) := by decide +kernel
theorem dX5_probe_45 : decode cX5_probe 45 = .ok (.istore 4, 2) := by decide +kernel
theorem dX5_probe_47 : decode cX5_probe 47 = .ok (.aload_n 0, 1) := by decide +kernel
theorem dX5_probe_48 : decode cX5_probe 48 = .ok (.iload 4, 2) := by decide +kernel
theorem dX5_probe_50 : decode cX5_probe 50 = .ok (.invokevirtual 141, 3) := by decide +kernel
theorem dX5_probe_53 : decode cX5_probe 53 = .ok (.ifCond .le 7, 3) := by decide +kernel
theorem dX5_probe_56 : decode cX5_probe 56 = .ok (.lconst 0, 1) := by decide +kernel
theorem dX5_probe_57 : decode cX5_probe 57 = .ok (.goto 18, 3) := by decide +kernel
theorem dX5_probe_60 : decode cX5_probe 60 = .ok (.iload_n 3, 1) := by decide +kernel
theorem dX5_probe_61 : decode cX5_probe 61 = .ok (.aload_n 0, 1) := by decide +kernel
theorem dX5_probe_62 : decode cX5_probe 62 = .ok (.getfield 20, 3) := by decide +kernel
theorem dX5_probe_65 : decode cX5_probe 65 = .ok (.aload_n 0, 1) := by decide +kernel
theorem dX5_probe_66 : decode cX5_probe 66 = .ok (.iload_n 1, 1) := by decide +kernel
theorem dX5_probe_67 : decode cX5_probe 67 = .ok (.iload_n 2, 1) := by decide +kernel
theorem dX5_probe_68 : decode cX5_probe 68 = .ok (.invokevirtual 124, 3) := by decide +kernel
theorem dX5_probe_71 : decode cX5_probe 71 = .ok (.laload, 1) := by decide +kernel
theorem dX5_probe_72 : decode cX5_probe 72 = .ok (.invokestatic 98, 3) := by decide +kernel
theorem dX5_probe_75 : decode cX5_probe 75 = .ok (.lreturn, 1) := by decide +kernel
theorem dX5_tag_0 : decode cX5_tag 0 = .ok (.iload_n 1, 1) := by decide +kernel
theorem dX5_tag_1 : decode cX5_tag 1 = .ok (.invokestatic 137, 3) := by decide +kernel
theorem dX5_tag_4 : decode cX5_tag 4 = .ok (.ifCond .ne 5, 3) := by decide +kernel
theorem dX5_tag_7 : decode cX5_tag 7 = .ok (.iconst (-1), 1) := by decide +kernel
theorem dX5_tag_8 : decode cX5_tag 8 = .ok (.ireturn, 1) := by decide +kernel
theorem dX5_tag_9 : decode cX5_tag 9 = .ok (.aload_n 0, 1) := by decide +kernel
theorem dX5_tag_10 : decode cX5_tag 10 = .ok (.getfield 153, 3) := by decide +kernel
theorem dX5_tag_13 : decode cX5_tag 13 = .ok (.sipush 200, 3) := by decide +kernel
theorem dX5_tag_16 : decode cX5_tag 16 = .ok (.if_icmp .ne 6, 3) := by decide +kernel
theorem dX5_tag_19 : decode cX5_tag 19 = .ok (.bipush (-2), 2) := by decide +kernel
theorem dX5_tag_21 : decode cX5_tag 21 = .ok (.ireturn, 1) := by decide +kernel
theorem dX5_tag_22 : decode cX5_tag 22 = .ok (.aload_n 0, 1) := by decide +kernel
theorem dX5_tag_23 : decode cX5_tag 23 = .ok (.dup, 1) := by decide +kernel
theorem dX5_tag_24 : decode cX5_tag 24 = .ok (.getfield 153, 3) := by decide +kernel
theorem dX5_tag_27 : decode cX5_tag 27 = .ok (.iconst 1, 1) := by decide +kernel
theorem dX5_tag_28 : decode cX5_tag 28 = .ok (.iadd, 1) := by decide +kernel
theorem dX5_tag_29 : decode cX5_tag 29 = .ok (.putfield 153, 3) := by decide +kernel
theorem dX5_tag_32 : decode cX5_tag 32 = .ok (.aload_n 0, 1) := by decide +kernel
theorem dX5_tag_33 : decode cX5_tag 33 = .ok (.getfield 24, 3) := by decide +kernel
theorem dX5_tag_36 : decode cX5_tag 36 = .ok (.aload_n 0, 1) := by decide +kernel
theorem dX5_tag_37 : decode cX5_tag 37 = .ok (.getfield 153, 3) := by decide +kernel
theorem dX5_tag_40 : decode cX5_tag 40 = .ok (.iload_n 3, 1) := by decide +kernel
theorem dX5_tag_41 : decode cX5_tag 41 = .ok (.bastore, 1) := by decide +kernel
theorem dX5_tag_42 : decode cX5_tag 42 = .ok (.aload_n 0, 1) := by decide +kernel
theorem dX5_tag_43 : decode cX5_tag 43 = .ok (.aload_n 0, 1) := by decide +kernel
theorem dX5_tag_44 : decode cX5_tag 44 = .ok (.iload_n 1, 1) := by decide +kernel
theorem dX5_tag_45 : decode cX5_tag 45 = .ok (.iload_n 2, 1) := by decide +kernel
theorem dX5_tag_46 : decode cX5_tag 46 = .ok (.iload_n 3, 1) := by decide +kernel
theorem dX5_tag_47 : decode cX5_tag 47 = .ok (.ifCond .eq 8, 3) := by decide +kernel
theorem dX5_tag_50 : decode cX5_tag 50 = .ok (.bipush 9, 2) := by decide +kernel
theorem dX5_tag_52 : decode cX5_tag 52 = .ok (.goto 5, 3) := by decide +kernel
theorem dX5_tag_55 : decode cX5_tag 55 = .ok (.bipush 8, 2) := by decide +kernel
theorem dX5_tag_57 : decode cX5_tag 57 = .ok (.aload_n 0, 1) := by decide +kernel
theorem dX5_tag_58 : decode cX5_tag 58 = .ok (.getfield 153, 3) := by decide +kernel
theorem dX5_tag_61 : decode cX5_tag 61 = .ok (.i2l, 1) := by decide +kernel
theorem dX5_tag_62 : decode cX5_tag 62 = .ok (.invokevirtual 133, 3) := by decide +kernel
theorem dX5_tag_65 : decode cX5_tag 65 = .ok (.invokevirtual 141, 3) := by decide +kernel
theorem dX5_tag_68 : decode cX5_tag 68 = .ok (.istore 4, 2) := by decide +kernel
theorem dX5_tag_70 : decode cX5_tag 70 = .ok (.iload 4, 2) := by decide +kernel
theorem dX5_tag_72 : decode cX5_tag 72 = .ok (.ifCond .le 11, 3) := by decide +kernel
theorem dX5_tag_75 : decode cX5_tag 75 = .ok (.bipush (-10), 2) := by decide +kernel
theorem dX5_tag_77 : decode cX5_tag 77 = .ok (.iload 4, 2) := by decide +kernel
theorem dX5_tag_79 : decode cX5_tag 79 = .ok (.isub, 1) := by decide +kernel
theorem dX5_tag_80 : decode cX5_tag 80 = .ok (.goto 7, 3) := by decide +kernel
theorem dX5_tag_83 : decode cX5_tag 83 = .ok (.aload_n 0, 1) := by decide +kernel
theorem dX5_tag_84 : decode cX5_tag 84 = .ok (.getfield 153, 3) := by decide +kernel
theorem dX5_tag_87 : decode cX5_tag 87 = .ok (.ireturn, 1) := by decide +kernel
theorem dX5_rack_0 : decode cX5_rack 0 = .ok (.iload_n 1, 1) := by decide +kernel
theorem dX5_rack_1 : decode cX5_rack 1 = .ok (.invokestatic 137, 3) := by decide +kernel
theorem dX5_rack_4 : decode cX5_rack 4 = .ok (.ifCond .eq 10, 3) := by decide +kernel
theorem dX5_rack_7 : decode cX5_rack 7 = .ok (.iload_n 3, 1) := by decide +kernel
theorem dX5_rack_8 : decode cX5_rack 8 = .ok (.invokestatic 137, 3) := by decide +kernel
theorem dX5_rack_11 : decode cX5_rack 11 = .ok (.ifCond .ne 5, 3) := by decide +kernel
theorem dX5_rack_14 : decode cX5_rack 14 = .ok (.iconst (-1), 1) := by decide +kernel
theorem dX5_rack_15 : decode cX5_rack 15 = .ok (.ireturn, 1) := by decide +kernel
theorem dX5_rack_16 : decode cX5_rack 16 = .ok (.aload_n 0, 1) := by decide +kernel
theorem dX5_rack_17 : decode cX5_rack 17 = .ok (.getfield 27, 3) := by decide +kernel
theorem dX5_rack_20 : decode cX5_rack 20 = .ok (.iload_n 3, 1) := by decide +kernel
theorem dX5_rack_21 : decode cX5_rack 21 = .ok (.iaload, 1) := by decide +kernel
theorem dX5_rack_22 : decode cX5_rack 22 = .ok (.iconst (-1), 1) := by decide +kernel
theorem dX5_rack_23 : decode cX5_rack 23 = .ok (.if_icmp .ne 8, 3) := by decide +kernel
theorem dX5_rack_26 : decode cX5_rack 26 = .ok (.bipush 11, 2) := by decide +kernel
theorem dX5_rack_28 : decode cX5_rack 28 = .ok (.goto 30, 3) := by decide +kernel
theorem dX5_rack_31 : decode cX5_rack 31 = .ok (.aload_n 0, 1) := by decide +kernel
theorem dX5_rack_32 : decode cX5_rack 32 = .ok (.getfield 27, 3) := by decide +kernel
theorem dX5_rack_35 : decode cX5_rack 35 = .ok (.iload_n 3, 1) := by decide +kernel
theorem dX5_rack_36 : decode cX5_rack 36 = .ok (.iaload, 1) := by decide +kernel
theorem dX5_rack_37 : decode cX5_rack 37 = .ok (.bipush (-2), 2) := by decide +kernel
theorem dX5_rack_39 : decode cX5_rack 39 = .ok (.if_icmp .eq 12, 3) := by decide +kernel
theorem dX5_rack_42 : decode cX5_rack 42 = .ok (.aload_n 0, 1) := by decide +kernel
theorem dX5_rack_43 : decode cX5_rack 43 = .ok (.iload_n 3, 1) := by decide +kernel
theorem dX5_rack_44 : decode cX5_rack 44 = .ok (.invokevirtual 110, 3) := by decide +kernel
theorem dX5_rack_47 : decode cX5_rack 47 = .ok (.iconst 4, 1) := by decide +kernel
theorem dX5_rack_48 : decode cX5_rack 48 = .ok (.if_icmp .eq 8, 3) := by decide +kernel
theorem dX5_rack_51 : decode cX5_rack 51 = .ok (.bipush 12, 2) := by decide +kernel
theorem dX5_rack_53 : decode cX5_rack 53 = .ok (.goto 5, 3) := by decide +kernel
theorem dX5_rack_56 : decode cX5_rack 56 = .ok (.bipush 10, 2) := by decide +kernel
theorem dX5_rack_58 : decode cX5_rack 58 = .ok (.istore 4, 2) := by decide +kernel
theorem dX5_rack_60 : decode cX5_rack 60 = .ok (.aload_n 0, 1) := by decide +kernel
theorem dX5_rack_61 : decode cX5_rack 61 = .ok (.aload_n 0, 1) := by decide +kernel
theorem dX5_rack_62 : decode cX5_rack 62 = .ok (.iload_n 1, 1) := by decide +kernel
theorem dX5_rack_63 : decode cX5_rack 63 = .ok (.iload_n 2, 1) := by decide +kernel
theorem dX5_rack_64 : decode cX5_rack 64 = .ok (.iload 4, 2) := by decide +kernel
theorem dX5_rack_66 : decode cX5_rack 66 = .ok (.iload 4, 2) := by decide +kernel
theorem dX5_rack_68 : decode cX5_rack 68 = .ok (.bipush 10, 2) := by decide +kernel
theorem dX5_rack_70 : decode cX5_rack 70 = .ok (.if_icmp .ne 15, 3) := by decide +kernel
theorem dX5_rack_73 : decode cX5_rack 73 = .ok (.aload_n 0, 1) := by decide +kernel
theorem dX5_rack_74 : decode cX5_rack 74 = .ok (.getfield 27, 3) := by decide +kernel
theorem dX5_rack_77 : decode cX5_rack 77 = .ok (.iload_n 3, 1) := by decide +kernel
theorem dX5_rack_78 : decode cX5_rack 78 = .ok (.iaload, 1) := by decide +kernel
theorem dX5_rack_79 : decode cX5_rack 79 = .ok (.i2l, 1) := by decide +kernel
theorem dX5_rack_80 : decode cX5_rack 80 = .ok (.lconst 1, 1) := by decide +kernel
theorem dX5_rack_81 : decode cX5_rack 81 = .ok (.ladd, 1) := by decide +kernel
theorem dX5_rack_82 : decode cX5_rack 82 = .ok (.goto 4, 3) := by decide +kernel
theorem dX5_rack_85 : decode cX5_rack 85 = .ok (.lconst 0, 1) := by decide +kernel
theorem dX5_rack_86 : decode cX5_rack 86 = .ok (.invokevirtual 133, 3) := by decide +kernel
theorem dX5_rack_89 : decode cX5_rack 89 = .ok (.invokevirtual 141, 3) := by decide +kernel
theorem dX5_rack_92 : decode cX5_rack 92 = .ok (.istore 5, 2) := by decide +kernel
theorem dX5_rack_94 : decode cX5_rack 94 = .ok (.iload 5, 2) := by decide +kernel
theorem dX5_rack_96 : decode cX5_rack 96 = .ok (.ifCond .le 11, 3) := by decide +kernel
theorem dX5_rack_99 : decode cX5_rack 99 = .ok (.bipush (-10), 2) := by decide +kernel
theorem dX5_rack_101 : decode cX5_rack 101 = .ok (.iload 5, 2) := by decide +kernel
theorem dX5_rack_103 : decode cX5_rack 103 = .ok (.isub, 1) := by decide +kernel
theorem dX5_rack_104 : decode cX5_rack 104 = .ok (.goto 4, 3) := by decide +kernel
theorem dX5_rack_107 : decode cX5_rack 107 = .ok (.iconst 1, 1) := by decide +kernel
theorem dX5_rack_108 : decode cX5_rack 108 = .ok (.ireturn, 1) := by decide +kernel
theorem dX5_unrack_0 : decode cX5_unrack 0 = .ok (.iload_n 1, 1) := by decide +kernel
theorem dX5_unrack_1 : decode cX5_unrack 1 = .ok (.invokestatic 137, 3) := by decide +kernel
theorem dX5_unrack_4 : decode cX5_unrack 4 = .ok (.ifCond .eq 10, 3) := by decide +kernel
theorem dX5_unrack_7 : decode cX5_unrack 7 = .ok (.iload_n 3, 1) := by decide +kernel
theorem dX5_unrack_8 : decode cX5_unrack 8 = .ok (.invokestatic 137, 3) := by decide +kernel
theorem dX5_unrack_11 : decode cX5_unrack 11 = .ok (.ifCond .ne 5, 3) := by decide +kernel
theorem dX5_unrack_14 : decode cX5_unrack 14 = .ok (.iconst (-1), 1) := by decide +kernel
theorem dX5_unrack_15 : decode cX5_unrack 15 = .ok (.ireturn, 1) := by decide +kernel
theorem dX5_unrack_16 : decode cX5_unrack 16 = .ok (.aload_n 0, 1) := by decide +kernel
theorem dX5_unrack_17 : decode cX5_unrack 17 = .ok (.iload_n 1, 1) := by decide +kernel
theorem dX5_unrack_18 : decode cX5_unrack 18 = .ok (.iload_n 2, 1) := by decide +kernel
theorem dX5_unrack_19 : decode cX5_unrack 19 = .ok (.invokevirtual 113, 3) := by decide +kernel
theorem dX5_unrack_22 : decode cX5_unrack 22 = .ok (.istore 4, 2) := by decide +kernel
theorem dX5_unrack_24 : decode cX5_unrack 24 = .ok (.iload 4, 2) := by decide +kernel
theorem dX5_unrack_26 : decode cX5_unrack 26 = .ok (.ifCond .le 7, 3) := by decide +kernel
theorem dX5_unrack_29 : decode cX5_unrack 29 = .ok (.iconst 0, 1) := by decide +kernel
theorem dX5_unrack_30 : decode cX5_unrack 30 = .ok (.goto 14, 3) := by decide +kernel
theorem dX5_unrack_33 : decode cX5_unrack 33 = .ok (.aload_n 0, 1) := by decide +kernel
theorem dX5_unrack_34 : decode cX5_unrack 34 = .ok (.aload_n 0, 1) := by decide +kernel
theorem dX5_unrack_35 : decode cX5_unrack 35 = .ok (.getfield 27, 3) := by decide +kernel
theorem dX5_unrack_38 : decode cX5_unrack 38 = .ok (.iload_n 1, 1) := by decide +kernel
theorem dX5_unrack_39 : decode cX5_unrack 39 = .ok (.iaload, 1) := by decide +kernel
theorem dX5_unrack_40 : decode cX5_unrack 40 = .ok (.iload_n 2, 1) := by decide +kernel
theorem dX5_unrack_41 : decode cX5_unrack 41 = .ok (.invokevirtual 130, 3) := by decide +kernel
theorem dX5_unrack_44 : decode cX5_unrack 44 = .ok (.istore 5, 2) := by decide +kernel
theorem dX5_unrack_46 : decode cX5_unrack 46 = .ok (.iload 4, 2) := by decide +kernel
theorem dX5_unrack_48 : decode cX5_unrack 48 = .ok (.ifCond .ne 13, 3) := by decide +kernel
theorem dX5_unrack_51 : decode cX5_unrack 51 = .ok (.iload 5, 2) := by decide +kernel
theorem dX5_unrack_53 : decode cX5_unrack 53 = .ok (.bipush 10, 2) := by decide +kernel
theorem dX5_unrack_55 : decode cX5_unrack 55 = .ok (.if_icmp .ge 6, 3) := by decide +kernel
theorem dX5_unrack_58 : decode cX5_unrack 58 = .ok (.iconst 2, 1) := by decide +kernel
theorem dX5_unrack_59 : decode cX5_unrack 59 = .ok (.istore 4, 2) := by decide +kernel
theorem dX5_unrack_61 : decode cX5_unrack 61 = .ok (.aload_n 0, 1) := by decide +kernel
theorem dX5_unrack_62 : decode cX5_unrack 62 = .ok (.iload 4, 2) := by decide +kernel
theorem dX5_unrack_64 : decode cX5_unrack 64 = .ok (.invokevirtual 141, 3) := by decide +kernel
theorem dX5_unrack_67 : decode cX5_unrack 67 = .ok (.ifCond .le 9, 3) := by decide +kernel
theorem dX5_unrack_70 : decode cX5_unrack 70 = .ok (.bipush (-10), 2) := by decide +kernel
theorem dX5_unrack_72 : decode cX5_unrack 72 = .ok (.iload 4, 2) := by decide +kernel
theorem dX5_unrack_74 : decode cX5_unrack 74 = .ok (.isub, 1) := by decide +kernel
theorem dX5_unrack_75 : decode cX5_unrack 75 = .ok (.ireturn, 1) := by decide +kernel
theorem dX5_unrack_76 : decode cX5_unrack 76 = .ok (.aload_n 0, 1) := by decide +kernel
theorem dX5_unrack_77 : decode cX5_unrack 77 = .ok (.getfield 27, 3) := by decide +kernel
theorem dX5_unrack_80 : decode cX5_unrack 80 = .ok (.iload_n 3, 1) := by decide +kernel
theorem dX5_unrack_81 : decode cX5_unrack 81 = .ok (.iload 5, 2) := by decide +kernel
theorem dX5_unrack_83 : decode cX5_unrack 83 = .ok (.bipush 11, 2) := by decide +kernel
theorem dX5_unrack_85 : decode cX5_unrack 85 = .ok (.if_icmp .ne 9, 3) := by decide +kernel
theorem dX5_unrack_88 : decode cX5_unrack 88 = .ok (.ldc2_w 156, 3) := by decide +kernel
theorem dX5_unrack_91 : decode cX5_unrack 91 = .ok (.goto 16, 3) := by decide +kernel
theorem dX5_unrack_94 : decode cX5_unrack 94 = .ok (.aload_n 0, 1) := by decide +kernel
theorem dX5_unrack_95 : decode cX5_unrack 95 = .ok (.getfield 20, 3) := by decide +kernel
theorem dX5_unrack_98 : decode cX5_unrack 98 = .ok (.aload_n 0, 1) := by decide +kernel
theorem dX5_unrack_99 : decode cX5_unrack 99 = .ok (.iload_n 1, 1) := by decide +kernel
theorem dX5_unrack_100 : decode cX5_unrack 100 = .ok (.iload_n 2, 1) := by decide +kernel
theorem dX5_unrack_101 : decode cX5_unrack 101 = .ok (.invokevirtual 124, 3) := by decide +kernel
theorem dX5_unrack_104 : decode cX5_unrack 104 = .ok (.laload, 1) := by decide +kernel
theorem dX5_unrack_105 : decode cX5_unrack 105 = .ok (.lconst 1, 1) := by decide +kernel
theorem dX5_unrack_106 : decode cX5_unrack 106 = .ok (.lsub, 1) := by decide +kernel
theorem dX5_unrack_107 : decode cX5_unrack 107 = .ok (.l2i, 1) := by decide +kernel
theorem dX5_unrack_108 : decode cX5_unrack 108 = .ok (.iastore, 1) := by decide +kernel
theorem dX5_unrack_109 : decode cX5_unrack 109 = .ok (.iload 5, 2) := by decide +kernel
theorem dX5_unrack_111 : decode cX5_unrack 111 = .ok (.bipush 11, 2) := by decide +kernel
theorem dX5_unrack_113 : decode cX5_unrack 113 = .ok (.if_icmp .ne 7, 3) := by decide +kernel
theorem dX5_unrack_116 : decode cX5_unrack 116 = .ok (.iconst 0, 1) := by decide +kernel
theorem dX5_unrack_117 : decode cX5_unrack 117 = .ok (.goto 14, 3) := by decide +kernel
theorem dX5_unrack_120 : decode cX5_unrack 120 = .ok (.aload_n 0, 1) := by decide +kernel
theorem dX5_unrack_121 : decode cX5_unrack 121 = .ok (.getfield 13, 3) := by decide +kernel
theorem dX5_unrack_124 : decode cX5_unrack 124 = .ok (.aload_n 0, 1) := by decide +kernel
theorem dX5_unrack_125 : decode cX5_unrack 125 = .ok (.getfield 27, 3) := by decide +kernel
theorem dX5_unrack_128 : decode cX5_unrack 128 = .ok (.iload_n 3, 1) := by decide +kernel
theorem dX5_unrack_129 : decode cX5_unrack 129 = .ok (.iaload, 1) := by decide +kernel
theorem dX5_unrack_130 : decode cX5_unrack 130 = .ok (.iaload, 1) := by decide +kernel
theorem dX5_unrack_131 : decode cX5_unrack 131 = .ok (.ireturn, 1) := by decide +kernel
theorem dX5_cable_0 : decode cX5_cable 0 = .ok (.iload_n 1, 1) := by decide +kernel
theorem dX5_cable_1 : decode cX5_cable 1 = .ok (.iconst 0, 1) := by decide +kernel
theorem dX5_cable_2 : decode cX5_cable 2 = .ok (.iconst 3, 1) := by decide +kernel
theorem dX5_cable_3 : decode cX5_cable 3 = .ok (.invokestatic 75, 3) := by decide +kernel
theorem dX5_cable_6 : decode cX5_cable 6 = .ok (.ifCond .eq 17, 3) := by decide +kernel
theorem dX5_cable_9 : decode cX5_cable 9 = .ok (.iload_n 2, 1) := by decide +kernel
theorem dX5_cable_10 : decode cX5_cable 10 = .ok (.invokestatic 137, 3) := by decide +kernel
theorem dX5_cable_13 : decode cX5_cable 13 = .ok (.ifCond .eq 10, 3) := by decide +kernel
theorem dX5_cable_16 : decode cX5_cable 16 = .ok (.iload_n 3, 1) := by decide +kernel
theorem dX5_cable_17 : decode cX5_cable 17 = .ok (.invokestatic 137, 3) := by decide +kernel
theorem dX5_cable_20 : decode cX5_cable 20 = .ok (.ifCond .ne 5, 3) := by decide +kernel
theorem dX5_cable_23 : decode cX5_cable 23 = .ok (.iconst (-1), 1) := by decide +kernel
theorem dX5_cable_24 : decode cX5_cable 24 = .ok (.ireturn, 1) := by decide +kernel
theorem dX5_cable_25 : decode cX5_cable 25 = .ok (.aload_n 0, 1) := by decide +kernel
theorem dX5_cable_26 : decode cX5_cable 26 = .ok (.getfield 79, 3) := by decide +kernel
theorem dX5_cable_29 : decode cX5_cable 29 = .ok (.bipush 24, 2) := by decide +kernel
theorem dX5_cable_31 : decode cX5_cable 31 = .ok (.if_icmp .ne 6, 3) := by decide +kernel
theorem dX5_cable_34 : decode cX5_cable 34 = .ok (.bipush (-2), 2) := by decide +kernel
theorem dX5_cable_36 : decode cX5_cable 36 = .ok (.ireturn, 1) := by decide +kernel
theorem dX5_cable_37 : decode cX5_cable 37 = .ok (.aload_n 0, 1) := by decide +kernel
theorem dX5_cable_38 : decode cX5_cable 38 = .ok (.getfield 39, 3) := by decide +kernel
theorem dX5_cable_41 : decode cX5_cable 41 = .ok (.aload_n 0, 1) := by decide +kernel
theorem dX5_cable_42 : decode cX5_cable 42 = .ok (.getfield 79, 3) := by decide +kernel
theorem dX5_cable_45 : decode cX5_cable 45 = .ok (.iload_n 1, 1) := by decide +kernel
theorem dX5_cable_46 : decode cX5_cable 46 = .ok (.iastore, 1) := by decide +kernel
theorem dX5_cable_47 : decode cX5_cable 47 = .ok (.aload_n 0, 1) := by decide +kernel
theorem dX5_cable_48 : decode cX5_cable 48 = .ok (.getfield 42, 3) := by decide +kernel
theorem dX5_cable_51 : decode cX5_cable 51 = .ok (.aload_n 0, 1) := by decide +kernel
theorem dX5_cable_52 : decode cX5_cable 52 = .ok (.getfield 79, 3) := by decide +kernel
theorem dX5_cable_55 : decode cX5_cable 55 = .ok (.iload_n 2, 1) := by decide +kernel
theorem dX5_cable_56 : decode cX5_cable 56 = .ok (.iastore, 1) := by decide +kernel
theorem dX5_cable_57 : decode cX5_cable 57 = .ok (.aload_n 0, 1) := by decide +kernel
theorem dX5_cable_58 : decode cX5_cable 58 = .ok (.getfield 45, 3) := by decide +kernel
theorem dX5_cable_61 : decode cX5_cable 61 = .ok (.aload_n 0, 1) := by decide +kernel
theorem dX5_cable_62 : decode cX5_cable 62 = .ok (.getfield 79, 3) := by decide +kernel
theorem dX5_cable_65 : decode cX5_cable 65 = .ok (.iload_n 3, 1) := by decide +kernel
theorem dX5_cable_66 : decode cX5_cable 66 = .ok (.iastore, 1) := by decide +kernel
theorem dX5_cable_67 : decode cX5_cable 67 = .ok (.aload_n 0, 1) := by decide +kernel
theorem dX5_cable_68 : decode cX5_cable 68 = .ok (.getfield 48, 3) := by decide +kernel
theorem dX5_cable_71 : decode cX5_cable 71 = .ok (.aload_n 0, 1) := by decide +kernel
theorem dX5_cable_72 : decode cX5_cable 72 = .ok (.getfield 79, 3) := by decide +kernel
theorem dX5_cable_75 : decode cX5_cable 75 = .ok (.iconst 1, 1) := by decide +kernel
theorem dX5_cable_76 : decode cX5_cable 76 = .ok (.bastore, 1) := by decide +kernel
theorem dX5_cable_77 : decode cX5_cable 77 = .ok (.aload_n 0, 1) := by decide +kernel
theorem dX5_cable_78 : decode cX5_cable 78 = .ok (.getfield 51, 3) := by decide +kernel
theorem dX5_cable_81 : decode cX5_cable 81 = .ok (.aload_n 0, 1) := by decide +kernel
theorem dX5_cable_82 : decode cX5_cable 82 = .ok (.getfield 79, 3) := by decide +kernel
theorem dX5_cable_85 : decode cX5_cable 85 = .ok (.iconst 1, 1) := by decide +kernel
theorem dX5_cable_86 : decode cX5_cable 86 = .ok (.iastore, 1) := by decide +kernel
theorem dX5_cable_87 : decode cX5_cable 87 = .ok (.aload_n 0, 1) := by decide +kernel
theorem dX5_cable_88 : decode cX5_cable 88 = .ok (.dup, 1) := by decide +kernel
theorem dX5_cable_89 : decode cX5_cable 89 = .ok (.getfield 79, 3) := by decide +kernel
theorem dX5_cable_92 : decode cX5_cable 92 = .ok (.iconst 1, 1) := by decide +kernel
theorem dX5_cable_93 : decode cX5_cable 93 = .ok (.iadd, 1) := by decide +kernel
theorem dX5_cable_94 : decode cX5_cable 94 = .ok (.putfield 79, 3) := by decide +kernel
theorem dX5_cable_97 : decode cX5_cable 97 = .ok (.aload_n 0, 1) := by decide +kernel
theorem dX5_cable_98 : decode cX5_cable 98 = .ok (.getfield 79, 3) := by decide +kernel
theorem dX5_cable_101 : decode cX5_cable 101 = .ok (.iconst 1, 1) := by decide +kernel
theorem dX5_cable_102 : decode cX5_cable 102 = .ok (.isub, 1) := by decide +kernel
theorem dX5_cable_103 : decode cX5_cable 103 = .ok (.ireturn, 1) := by decide +kernel
theorem dX5_patience_0 : decode cX5_patience 0 = .ok (.aload_n 0, 1) := by decide +kernel
theorem dX5_patience_1 : decode cX5_patience 1 = .ok (.iload_n 1, 1) := by decide +kernel
theorem dX5_patience_2 : decode cX5_patience 2 = .ok (.invokevirtual 158, 3) := by decide +kernel
theorem dX5_patience_5 : decode cX5_patience 5 = .ok (.ifCond .eq 13, 3) := by decide +kernel
theorem dX5_patience_8 : decode cX5_patience 8 = .ok (.iload_n 2, 1) := by decide +kernel
theorem dX5_patience_9 : decode cX5_patience 9 = .ok (.iconst 1, 1) := by decide +kernel
theorem dX5_patience_10 : decode cX5_patience 10 = .ok (.bipush 9, 2) := by decide +kernel
theorem dX5_patience_12 : decode cX5_patience 12 = .ok (.invokestatic 75, 3) := by decide +kernel
theorem dX5_patience_15 : decode cX5_patience 15 = .ok (.ifCond .ne 5, 3) := by decide +kernel
theorem dX5_patience_18 : decode cX5_patience 18 = .ok (.iconst (-1), 1) := by decide +kernel
theorem dX5_patience_19 : decode cX5_patience 19 = .ok (.ireturn, 1) := by decide +kernel
theorem dX5_patience_20 : decode cX5_patience 20 = .ok (.aload_n 0, 1) := by decide +kernel
theorem dX5_patience_21 : decode cX5_patience 21 = .ok (.getfield 51, 3) := by decide +kernel
theorem dX5_patience_24 : decode cX5_patience 24 = .ok (.iload_n 1, 1) := by decide +kernel
theorem dX5_patience_25 : decode cX5_patience 25 = .ok (.iaload, 1) := by decide +kernel
theorem dX5_patience_26 : decode cX5_patience 26 = .ok (.istore_n 3, 1) := by decide +kernel
theorem dX5_patience_27 : decode cX5_patience 27 = .ok (.aload_n 0, 1) := by decide +kernel
theorem dX5_patience_28 : decode cX5_patience 28 = .ok (.getfield 51, 3) := by decide +kernel
theorem dX5_patience_31 : decode cX5_patience 31 = .ok (.iload_n 1, 1) := by decide +kernel
theorem dX5_patience_32 : decode cX5_patience 32 = .ok (.iload_n 2, 1) := by decide +kernel
theorem dX5_patience_33 : decode cX5_patience 33 = .ok (.iastore, 1) := by decide +kernel
theorem dX5_patience_34 : decode cX5_patience 34 = .ok (.iload_n 3, 1) := by decide +kernel
theorem dX5_patience_35 : decode cX5_patience 35 = .ok (.ireturn, 1) := by decide +kernel
theorem dX5_pull_0 : decode cX5_pull 0 = .ok (.aload_n 0, 1) := by decide +kernel
theorem dX5_pull_1 : decode cX5_pull 1 = .ok (.iload_n 1, 1) := by decide +kernel
theorem dX5_pull_2 : decode cX5_pull 2 = .ok (.invokevirtual 158, 3) := by decide +kernel
theorem dX5_pull_5 : decode cX5_pull 5 = .ok (.ifCond .ne 5, 3) := by decide +kernel
theorem dX5_pull_8 : decode cX5_pull 8 = .ok (.iconst (-1), 1) := by decide +kernel
theorem dX5_pull_9 : decode cX5_pull 9 = .ok (.ireturn, 1) := by decide +kernel
theorem dX5_pull_10 : decode cX5_pull 10 = .ok (.aload_n 0, 1) := by decide +kernel
theorem dX5_pull_11 : decode cX5_pull 11 = .ok (.getfield 48, 3) := by decide +kernel
theorem dX5_pull_14 : decode cX5_pull 14 = .ok (.iload_n 1, 1) := by decide +kernel
theorem dX5_pull_15 : decode cX5_pull 15 = .ok (.baload, 1) := by decide +kernel
theorem dX5_pull_16 : decode cX5_pull 16 = .ok (.ifCond .eq 7, 3) := by decide +kernel
theorem dX5_pull_19 : decode cX5_pull 19 = .ok (.iconst 1, 1) := by decide +kernel
theorem dX5_pull_20 : decode cX5_pull 20 = .ok (.goto 4, 3) := by decide +kernel
theorem dX5_pull_23 : decode cX5_pull 23 = .ok (.iconst 0, 1) := by decide +kernel
theorem dX5_pull_24 : decode cX5_pull 24 = .ok (.istore_n 2, 1) := by decide +kernel
theorem dX5_pull_25 : decode cX5_pull 25 = .ok (.aload_n 0, 1) := by decide +kernel
theorem dX5_pull_26 : decode cX5_pull 26 = .ok (.getfield 48, 3) := by decide +kernel
theorem dX5_pull_29 : decode cX5_pull 29 = .ok (.iload_n 1, 1) := by decide +kernel
theorem dX5_pull_30 : decode cX5_pull 30 = .ok (.iconst 0, 1) := by decide +kernel
theorem dX5_pull_31 : decode cX5_pull 31 = .ok (.bastore, 1) := by decide +kernel
theorem dX5_pull_32 : decode cX5_pull 32 = .ok (.iload_n 2, 1) := by decide +kernel
theorem dX5_pull_33 : decode cX5_pull 33 = .ok (.ireturn, 1) := by decide +kernel
theorem dX5_plugIn_0 : decode cX5_plugIn 0 = .ok (.aload_n 0, 1) := by decide +kernel
theorem dX5_plugIn_1 : decode cX5_plugIn 1 = .ok (.iload_n 1, 1) := by decide +kernel
theorem dX5_plugIn_2 : decode cX5_plugIn 2 = .ok (.invokevirtual 158, 3) := by decide +kernel
theorem dX5_plugIn_5 : decode cX5_plugIn 5 = .ok (.ifCond .ne 5, 3) := by decide +kernel
theorem dX5_plugIn_8 : decode cX5_plugIn 8 = .ok (.iconst (-1), 1) := by decide +kernel
theorem dX5_plugIn_9 : decode cX5_plugIn 9 = .ok (.ireturn, 1) := by decide +kernel
theorem dX5_plugIn_10 : decode cX5_plugIn 10 = .ok (.aload_n 0, 1) := by decide +kernel
theorem dX5_plugIn_11 : decode cX5_plugIn 11 = .ok (.getfield 48, 3) := by decide +kernel
theorem dX5_plugIn_14 : decode cX5_plugIn 14 = .ok (.iload_n 1, 1) := by decide +kernel
theorem dX5_plugIn_15 : decode cX5_plugIn 15 = .ok (.baload, 1) := by decide +kernel
theorem dX5_plugIn_16 : decode cX5_plugIn 16 = .ok (.ifCond .eq 7, 3) := by decide +kernel
theorem dX5_plugIn_19 : decode cX5_plugIn 19 = .ok (.iconst 1, 1) := by decide +kernel
theorem dX5_plugIn_20 : decode cX5_plugIn 20 = .ok (.goto 4, 3) := by decide +kernel
theorem dX5_plugIn_23 : decode cX5_plugIn 23 = .ok (.iconst 0, 1) := by decide +kernel
theorem dX5_plugIn_24 : decode cX5_plugIn 24 = .ok (.istore_n 2, 1) := by decide +kernel
theorem dX5_plugIn_25 : decode cX5_plugIn 25 = .ok (.aload_n 0, 1) := by decide +kernel
theorem dX5_plugIn_26 : decode cX5_plugIn 26 = .ok (.getfield 48, 3) := by decide +kernel
theorem dX5_plugIn_29 : decode cX5_plugIn 29 = .ok (.iload_n 1, 1) := by decide +kernel
theorem dX5_plugIn_30 : decode cX5_plugIn 30 = .ok (.iconst 1, 1) := by decide +kernel
theorem dX5_plugIn_31 : decode cX5_plugIn 31 = .ok (.bastore, 1) := by decide +kernel
theorem dX5_plugIn_32 : decode cX5_plugIn 32 = .ok (.aload_n 0, 1) := by decide +kernel
theorem dX5_plugIn_33 : decode cX5_plugIn 33 = .ok (.getfield 54, 3) := by decide +kernel
theorem dX5_plugIn_36 : decode cX5_plugIn 36 = .ok (.iload_n 1, 1) := by decide +kernel
theorem dX5_plugIn_37 : decode cX5_plugIn 37 = .ok (.iconst 0, 1) := by decide +kernel
theorem dX5_plugIn_38 : decode cX5_plugIn 38 = .ok (.iastore, 1) := by decide +kernel
theorem dX5_plugIn_39 : decode cX5_plugIn 39 = .ok (.iload_n 2, 1) := by decide +kernel
theorem dX5_plugIn_40 : decode cX5_plugIn 40 = .ok (.ireturn, 1) := by decide +kernel
theorem dX5_changes_0 : decode cX5_changes 0 = .ok (.aload_n 0, 1) := by decide +kernel
theorem dX5_changes_1 : decode cX5_changes 1 = .ok (.iload_n 1, 1) := by decide +kernel
theorem dX5_changes_2 : decode cX5_changes 2 = .ok (.iload_n 2, 1) := by decide +kernel
theorem dX5_changes_3 : decode cX5_changes 3 = .ok (.invokevirtual 113, 3) := by decide +kernel
theorem dX5_changes_6 : decode cX5_changes 6 = .ok (.istore 5, 2) := by decide +kernel
theorem dX5_changes_8 : decode cX5_changes 8 = .ok (.iload 5, 2) := by decide +kernel
theorem dX5_changes_10 : decode cX5_changes 10 = .ok (.ifCond .ne 12, 3) := by decide +kernel
theorem dX5_changes_13 : decode cX5_changes 13 = .ok (.aload_n 0, 1) := by decide +kernel
theorem dX5_changes_14 : decode cX5_changes 14 = .ok (.iload_n 3, 1) := by decide +kernel
theorem dX5_changes_15 : decode cX5_changes 15 = .ok (.iload 4, 2) := by decide +kernel
theorem dX5_changes_17 : decode cX5_changes 17 = .ok (.invokevirtual 113, 3) := by decide +kernel
theorem dX5_changes_20 : decode cX5_changes 20 = .ok (.istore 5, 2) := by decide +kernel
theorem dX5_changes_22 : decode cX5_changes 22 = .ok (.iload 5, 2) := by decide +kernel
theorem dX5_changes_24 : decode cX5_changes 24 = .ok (.ifCond .le 6, 3) := by decide +kernel
theorem dX5_changes_27 : decode cX5_changes 27 = .ok (.iload 5, 2) := by decide +kernel
theorem dX5_changes_29 : decode cX5_changes 29 = .ok (.ireturn, 1) := by decide +kernel
theorem dX5_changes_30 : decode cX5_changes 30 = .ok (.aload_n 0, 1) := by decide +kernel
theorem dX5_changes_31 : decode cX5_changes 31 = .ok (.aload_n 0, 1) := by decide +kernel
theorem dX5_changes_32 : decode cX5_changes 32 = .ok (.getfield 27, 3) := by decide +kernel
theorem dX5_changes_35 : decode cX5_changes 35 = .ok (.iload_n 1, 1) := by decide +kernel
theorem dX5_changes_36 : decode cX5_changes 36 = .ok (.iaload, 1) := by decide +kernel
theorem dX5_changes_37 : decode cX5_changes 37 = .ok (.iload_n 2, 1) := by decide +kernel
theorem dX5_changes_38 : decode cX5_changes 38 = .ok (.invokevirtual 130, 3) := by decide +kernel
theorem dX5_changes_41 : decode cX5_changes 41 = .ok (.istore 6, 2) := by decide +kernel
theorem dX5_changes_43 : decode cX5_changes 43 = .ok (.aload_n 0, 1) := by decide +kernel
theorem dX5_changes_44 : decode cX5_changes 44 = .ok (.aload_n 0, 1) := by decide +kernel
theorem dX5_changes_45 : decode cX5_changes 45 = .ok (.getfield 27, 3) := by decide +kernel
theorem dX5_changes_48 : decode cX5_changes 48 = .ok (.iload_n 3, 1) := by decide +kernel
theorem dX5_changes_49 : decode cX5_changes 49 = .ok (.iaload, 1) := by decide +kernel
theorem dX5_changes_50 : decode cX5_changes 50 = .ok (.iload 4, 2) := by decide +kernel
theorem dX5_changes_52 : decode cX5_changes 52 = .ok (.invokevirtual 130, 3) := by decide +kernel
theorem dX5_changes_55 : decode cX5_changes 55 = .ok (.istore 7, 2) := by decide +kernel
theorem dX5_changes_57 : decode cX5_changes 57 = .ok (.aload_n 0, 1) := by decide +kernel
theorem dX5_changes_58 : decode cX5_changes 58 = .ok (.iload_n 3, 1) := by decide +kernel
theorem dX5_changes_59 : decode cX5_changes 59 = .ok (.invokevirtual 110, 3) := by decide +kernel
theorem dX5_changes_62 : decode cX5_changes 62 = .ok (.iload 6, 2) := by decide +kernel
theorem dX5_changes_64 : decode cX5_changes 64 = .ok (.invokestatic 117, 3) := by decide +kernel
theorem dX5_changes_67 : decode cX5_changes 67 = .ok (.istore 5, 2) := by decide +kernel
theorem dX5_changes_69 : decode cX5_changes 69 = .ok (.iload 5, 2) := by decide +kernel
theorem dX5_changes_71 : decode cX5_changes 71 = .ok (.ifCond .ne 15, 3) := by decide +kernel
theorem dX5_changes_74 : decode cX5_changes 74 = .ok (.aload_n 0, 1) := by decide +kernel
theorem dX5_changes_75 : decode cX5_changes 75 = .ok (.iload_n 1, 1) := by decide +kernel
theorem dX5_changes_76 : decode cX5_changes 76 = .ok (.invokevirtual 110, 3) := by decide +kernel
theorem dX5_changes_79 : decode cX5_changes 79 = .ok (.iload 7, 2) := by decide +kernel
theorem dX5_changes_81 : decode cX5_changes 81 = .ok (.invokestatic 117, 3) := by decide +kernel
theorem dX5_changes_84 : decode cX5_changes 84 = .ok (.istore 5, 2) := by decide +kernel
theorem dX5_changes_86 : decode cX5_changes 86 = .ok (.iload 5, 2) := by decide +kernel
theorem dX5_changes_88 : decode cX5_changes 88 = .ok (.ifCond .le 6, 3) := by decide +kernel
theorem dX5_changes_91 : decode cX5_changes 91 = .ok (.iload 5, 2) := by decide +kernel
theorem dX5_changes_93 : decode cX5_changes 93 = .ok (.ireturn, 1) := by decide +kernel
theorem dX5_changes_94 : decode cX5_changes 94 = .ok (.aload_n 0, 1) := by decide +kernel
theorem dX5_changes_95 : decode cX5_changes 95 = .ok (.getfield 20, 3) := by decide +kernel
theorem dX5_changes_98 : decode cX5_changes 98 = .ok (.aload_n 0, 1) := by decide +kernel
theorem dX5_changes_99 : decode cX5_changes 99 = .ok (.iload_n 1, 1) := by decide +kernel
theorem dX5_changes_100 : decode cX5_changes 100 = .ok (.iload_n 2, 1) := by decide +kernel
theorem dX5_changes_101 : decode cX5_changes 101 = .ok (.invokevirtual 124, 3) := by decide +kernel
theorem dX5_changes_104 : decode cX5_changes 104 = .ok (.laload, 1) := by decide +kernel
theorem dX5_changes_105 : decode cX5_changes 105 = .ok (.lstore 8, 2) := by decide +kernel
theorem dX5_changes_107 : decode cX5_changes 107 = .ok (.aload_n 0, 1) := by decide +kernel
theorem dX5_changes_108 : decode cX5_changes 108 = .ok (.getfield 20, 3) := by decide +kernel
theorem dX5_changes_111 : decode cX5_changes 111 = .ok (.aload_n 0, 1) := by decide +kernel
theorem dX5_changes_112 : decode cX5_changes 112 = .ok (.iload_n 3, 1) := by decide +kernel
theorem dX5_changes_113 : decode cX5_changes 113 = .ok (.iload 4, 2) := by decide +kernel
theorem dX5_changes_115 : decode cX5_changes 115 = .ok (.invokevirtual 124, 3) := by decide +kernel
theorem dX5_changes_118 : decode cX5_changes 118 = .ok (.laload, 1) := by decide +kernel
theorem dX5_changes_119 : decode cX5_changes 119 = .ok (.lstore 10, 2) := by decide +kernel
theorem dX5_changes_121 : decode cX5_changes 121 = .ok (.aload_n 0, 1) := by decide +kernel
theorem dX5_changes_122 : decode cX5_changes 122 = .ok (.getfield 20, 3) := by decide +kernel
theorem dX5_changes_125 : decode cX5_changes 125 = .ok (.aload_n 0, 1) := by decide +kernel
theorem dX5_changes_126 : decode cX5_changes 126 = .ok (.iload_n 3, 1) := by decide +kernel
theorem dX5_changes_127 : decode cX5_changes 127 = .ok (.iload 4, 2) := by decide +kernel
theorem dX5_changes_129 : decode cX5_changes 129 = .ok (.invokevirtual 124, 3) := by decide +kernel
theorem dX5_changes_132 : decode cX5_changes 132 = .ok (.aload_n 0, 1) := by decide +kernel
theorem dX5_changes_133 : decode cX5_changes 133 = .ok (.iload_n 3, 1) := by decide +kernel
theorem dX5_changes_134 : decode cX5_changes 134 = .ok (.invokevirtual 110, 3) := by decide +kernel
theorem dX5_changes_137 : decode cX5_changes 137 = .ok (.lload 8, 2) := by decide +kernel
theorem dX5_changes_139 : decode cX5_changes 139 = .ok (.invokestatic 127, 3) := by decide +kernel
theorem dX5_changes_142 : decode cX5_changes 142 = .ok (.lastore, 1) := by decide +kernel
theorem dX5_changes_143 : decode cX5_changes 143 = .ok (.aload_n 0, 1) := by decide +kernel
theorem dX5_changes_144 : decode cX5_changes 144 = .ok (.getfield 20, 3) := by decide +kernel
theorem dX5_changes_147 : decode cX5_changes 147 = .ok (.aload_n 0, 1) := by decide +kernel
theorem dX5_changes_148 : decode cX5_changes 148 = .ok (.iload_n 1, 1) := by decide +kernel
theorem dX5_changes_149 : decode cX5_changes 149 = .ok (.iload_n 2, 1) := by decide +kernel
theorem dX5_changes_150 : decode cX5_changes 150 = .ok (.invokevirtual 124, 3) := by decide +kernel
theorem dX5_changes_153 : decode cX5_changes 153 = .ok (.aload_n 0, 1) := by decide +kernel
theorem dX5_changes_154 : decode cX5_changes 154 = .ok (.iload_n 1, 1) := by decide +kernel
theorem dX5_changes_155 : decode cX5_changes 155 = .ok (.invokevirtual 110, 3) := by decide +kernel
theorem dX5_changes_158 : decode cX5_changes 158 = .ok (.lload 10, 2) := by decide +kernel
theorem dX5_changes_160 : decode cX5_changes 160 = .ok (.invokestatic 127, 3) := by decide +kernel
theorem dX5_changes_163 : decode cX5_changes 163 = .ok (.lastore, 1) := by decide +kernel
theorem dX5_changes_164 : decode cX5_changes 164 = .ok (.iconst 0, 1) := by decide +kernel
theorem dX5_changes_165 : decode cX5_changes 165 = .ok (.ireturn, 1) := by decide +kernel
theorem dX5_carries_0 : decode cX5_carries 0 = .ok (.aload_n 0, 1) := by decide +kernel
theorem dX5_carries_1 : decode cX5_carries 1 = .ok (.getfield 30, 3) := by decide +kernel
theorem dX5_carries_4 : decode cX5_carries 4 = .ok (.aload_n 0, 1) := by decide +kernel
theorem dX5_carries_5 : decode cX5_carries 5 = .ok (.getfield 42, 3) := by decide +kernel
theorem dX5_carries_8 : decode cX5_carries 8 = .ok (.iload_n 1, 1) := by decide +kernel
theorem dX5_carries_9 : decode cX5_carries 9 = .ok (.iaload, 1) := by decide +kernel
theorem dX5_carries_10 : decode cX5_carries 10 = .ok (.iaload, 1) := by decide +kernel
theorem dX5_carries_11 : decode cX5_carries 11 = .ok (.istore_n 2, 1) := by decide +kernel
theorem dX5_carries_12 : decode cX5_carries 12 = .ok (.aload_n 0, 1) := by decide +kernel
theorem dX5_carries_13 : decode cX5_carries 13 = .ok (.getfield 30, 3) := by decide +kernel
theorem dX5_carries_16 : decode cX5_carries 16 = .ok (.aload_n 0, 1) := by decide +kernel
theorem dX5_carries_17 : decode cX5_carries 17 = .ok (.getfield 45, 3) := by decide +kernel
theorem dX5_carries_20 : decode cX5_carries 20 = .ok (.iload_n 1, 1) := by decide +kernel
theorem dX5_carries_21 : decode cX5_carries 21 = .ok (.iaload, 1) := by decide +kernel
theorem dX5_carries_22 : decode cX5_carries 22 = .ok (.iaload, 1) := by decide +kernel
theorem dX5_carries_23 : decode cX5_carries 23 = .ok (.istore_n 3, 1) := by decide +kernel
theorem dX5_carries_24 : decode cX5_carries 24 = .ok (.aload_n 0, 1) := by decide +kernel
theorem dX5_carries_25 : decode cX5_carries 25 = .ok (.getfield 39, 3) := by decide +kernel
theorem dX5_carries_28 : decode cX5_carries 28 = .ok (.iload_n 1, 1) := by decide +kernel
theorem dX5_carries_29 : decode cX5_carries 29 = .ok (.iaload, 1) := by decide +kernel
theorem dX5_carries_30 : decode cX5_carries 30 = .ok (.iconst 3, 1) := by decide +kernel
theorem dX5_carries_31 : decode cX5_carries 31 = .ok (.if_icmp .ne 22, 3) := by decide +kernel
theorem dX5_carries_34 : decode cX5_carries 34 = .ok (.aload_n 0, 1) := by decide +kernel
theorem dX5_carries_35 : decode cX5_carries 35 = .ok (.aload_n 0, 1) := by decide +kernel
theorem dX5_carries_36 : decode cX5_carries 36 = .ok (.getfield 42, 3) := by decide +kernel
theorem dX5_carries_39 : decode cX5_carries 39 = .ok (.iload_n 1, 1) := by decide +kernel
theorem dX5_carries_40 : decode cX5_carries 40 = .ok (.iaload, 1) := by decide +kernel
theorem dX5_carries_41 : decode cX5_carries 41 = .ok (.iload_n 2, 1) := by decide +kernel
theorem dX5_carries_42 : decode cX5_carries 42 = .ok (.aload_n 0, 1) := by decide +kernel
theorem dX5_carries_43 : decode cX5_carries 43 = .ok (.getfield 45, 3) := by decide +kernel
theorem dX5_carries_46 : decode cX5_carries 46 = .ok (.iload_n 1, 1) := by decide +kernel
theorem dX5_carries_47 : decode cX5_carries 47 = .ok (.iaload, 1) := by decide +kernel
theorem dX5_carries_48 : decode cX5_carries 48 = .ok (.iload_n 3, 1) := by decide +kernel
theorem dX5_carries_49 : decode cX5_carries 49 = .ok (.invokevirtual 161, 3) := by decide +kernel
theorem dX5_carries_52 : decode cX5_carries 52 = .ok (.ireturn, 1) := by decide +kernel
theorem dX5_carries_53 : decode cX5_carries 53 = .ok (.aload_n 0, 1) := by decide +kernel
theorem dX5_carries_54 : decode cX5_carries 54 = .ok (.getfield 39, 3) := by decide +kernel
theorem dX5_carries_57 : decode cX5_carries 57 = .ok (.iload_n 1, 1) := by decide +kernel
theorem dX5_carries_58 : decode cX5_carries 58 = .ok (.iaload, 1) := by decide +kernel
theorem dX5_carries_59 : decode cX5_carries 59 = .ok (.iconst 1, 1) := by decide +kernel
theorem dX5_carries_60 : decode cX5_carries 60 = .ok (.if_icmp .ne 40, 3) := by decide +kernel
theorem dX5_carries_63 : decode cX5_carries 63 = .ok (.aload_n 0, 1) := by decide +kernel
theorem dX5_carries_64 : decode cX5_carries 64 = .ok (.aload_n 0, 1) := by decide +kernel
theorem dX5_carries_65 : decode cX5_carries 65 = .ok (.getfield 42, 3) := by decide +kernel
theorem dX5_carries_68 : decode cX5_carries 68 = .ok (.iload_n 1, 1) := by decide +kernel
theorem dX5_carries_69 : decode cX5_carries 69 = .ok (.iaload, 1) := by decide +kernel
theorem dX5_carries_70 : decode cX5_carries 70 = .ok (.iload_n 2, 1) := by decide +kernel
theorem dX5_carries_71 : decode cX5_carries 71 = .ok (.invokevirtual 113, 3) := by decide +kernel
theorem dX5_carries_74 : decode cX5_carries 74 = .ok (.ifCond .ne 26, 3) := by decide +kernel
theorem dX5_carries_77 : decode cX5_carries 77 = .ok (.aload_n 0, 1) := by decide +kernel
theorem dX5_carries_78 : decode cX5_carries 78 = .ok (.aload_n 0, 1) := by decide +kernel
theorem dX5_carries_79 : decode cX5_carries 79 = .ok (.getfield 27, 3) := by decide +kernel
theorem dX5_carries_82 : decode cX5_carries 82 = .ok (.aload_n 0, 1) := by decide +kernel
theorem dX5_carries_83 : decode cX5_carries 83 = .ok (.getfield 42, 3) := by decide +kernel
theorem dX5_carries_86 : decode cX5_carries 86 = .ok (.iload_n 1, 1) := by decide +kernel
theorem dX5_carries_87 : decode cX5_carries 87 = .ok (.iaload, 1) := by decide +kernel
theorem dX5_carries_88 : decode cX5_carries 88 = .ok (.iaload, 1) := by decide +kernel
theorem dX5_carries_89 : decode cX5_carries 89 = .ok (.iload_n 2, 1) := by decide +kernel
theorem dX5_carries_90 : decode cX5_carries 90 = .ok (.invokevirtual 165, 3) := by decide +kernel
theorem dX5_carries_93 : decode cX5_carries 93 = .ok (.lconst 0, 1) := by decide +kernel
theorem dX5_carries_94 : decode cX5_carries 94 = .ok (.lcmp, 1) := by decide +kernel
theorem dX5_carries_95 : decode cX5_carries 95 = .ok (.ifCond .ne 5, 3) := by decide +kernel
theorem dX5_carries_98 : decode cX5_carries 98 = .ok (.iconst (-1), 1) := by decide +kernel
theorem dX5_carries_99 : decode cX5_carries 99 = .ok (.ireturn, 1) := by decide +kernel
theorem dX5_carries_100 : decode cX5_carries 100 = .ok (.aload_n 0, 1) := by decide +kernel
theorem dX5_carries_101 : decode cX5_carries 101 = .ok (.aload_n 0, 1) := by decide +kernel
theorem dX5_carries_102 : decode cX5_carries 102 = .ok (.getfield 42, 3) := by decide +kernel
theorem dX5_carries_105 : decode cX5_carries 105 = .ok (.iload_n 1, 1) := by decide +kernel
theorem dX5_carries_106 : decode cX5_carries 106 = .ok (.iaload, 1) := by decide +kernel
theorem dX5_carries_107 : decode cX5_carries 107 = .ok (.iload_n 2, 1) := by decide +kernel
theorem dX5_carries_108 : decode cX5_carries 108 = .ok (.aload_n 0, 1) := by decide +kernel
theorem dX5_carries_109 : decode cX5_carries 109 = .ok (.getfield 45, 3) := by decide +kernel
theorem dX5_carries_112 : decode cX5_carries 112 = .ok (.iload_n 1, 1) := by decide +kernel
theorem dX5_carries_113 : decode cX5_carries 113 = .ok (.iaload, 1) := by decide +kernel
theorem dX5_carries_114 : decode cX5_carries 114 = .ok (.iload_n 3, 1) := by decide +kernel
theorem dX5_carries_115 : decode cX5_carries 115 = .ok (.invokevirtual 169, 3) := by decide +kernel
theorem dX5_carries_118 : decode cX5_carries 118 = .ok (.istore 4, 2) := by decide +kernel
theorem dX5_carries_120 : decode cX5_carries 120 = .ok (.aload_n 0, 1) := by decide +kernel
theorem dX5_carries_121 : decode cX5_carries 121 = .ok (.getfield 39, 3) := by decide +kernel
theorem dX5_carries_124 : decode cX5_carries 124 = .ok (.iload_n 1, 1) := by decide +kernel
theorem dX5_carries_125 : decode cX5_carries 125 = .ok (.iaload, 1) := by decide +kernel
theorem dX5_carries_126 : decode cX5_carries 126 = .ok (.iconst 2, 1) := by decide +kernel
theorem dX5_carries_127 : decode cX5_carries 127 = .ok (.if_icmp .ne 32, 3) := by decide +kernel
theorem dX5_carries_130 : decode cX5_carries 130 = .ok (.iload 4, 2) := by decide +kernel
theorem dX5_carries_132 : decode cX5_carries 132 = .ok (.ifCond .ne 27, 3) := by decide +kernel
theorem dX5_carries_135 : decode cX5_carries 135 = .ok (.aload_n 0, 1) := by decide +kernel
theorem dX5_carries_136 : decode cX5_carries 136 = .ok (.aload_n 0, 1) := by decide +kernel
theorem dX5_carries_137 : decode cX5_carries 137 = .ok (.getfield 42, 3) := by decide +kernel
theorem dX5_carries_140 : decode cX5_carries 140 = .ok (.iload_n 1, 1) := by decide +kernel
theorem dX5_carries_141 : decode cX5_carries 141 = .ok (.iaload, 1) := by decide +kernel
theorem dX5_carries_142 : decode cX5_carries 142 = .ok (.iload_n 2, 1) := by decide +kernel
theorem dX5_carries_143 : decode cX5_carries 143 = .ok (.iconst 1, 1) := by decide +kernel
theorem dX5_carries_144 : decode cX5_carries 144 = .ok (.iadd, 1) := by decide +kernel
theorem dX5_carries_145 : decode cX5_carries 145 = .ok (.aload_n 0, 1) := by decide +kernel
theorem dX5_carries_146 : decode cX5_carries 146 = .ok (.getfield 45, 3) := by decide +kernel
theorem dX5_carries_149 : decode cX5_carries 149 = .ok (.iload_n 1, 1) := by decide +kernel
theorem dX5_carries_150 : decode cX5_carries 150 = .ok (.iaload, 1) := by decide +kernel
theorem dX5_carries_151 : decode cX5_carries 151 = .ok (.iload_n 3, 1) := by decide +kernel
theorem dX5_carries_152 : decode cX5_carries 152 = .ok (.iconst 1, 1) := by decide +kernel
theorem dX5_carries_153 : decode cX5_carries 153 = .ok (.iadd, 1) := by decide +kernel
theorem dX5_carries_154 : decode cX5_carries 154 = .ok (.invokevirtual 169, 3) := by decide +kernel
theorem dX5_carries_157 : decode cX5_carries 157 = .ok (.istore 4, 2) := by decide +kernel
theorem dX5_carries_159 : decode cX5_carries 159 = .ok (.iload 4, 2) := by decide +kernel
theorem dX5_carries_161 : decode cX5_carries 161 = .ok (.ireturn, 1) := by decide +kernel
theorem dX5_fails_0 : decode cX5_fails 0 = .ok (.aload_n 0, 1) := by decide +kernel
theorem dX5_fails_1 : decode cX5_fails 1 = .ok (.getfield 172, 3) := by decide +kernel
theorem dX5_fails_4 : decode cX5_fails 4 = .ok (.bipush 20, 2) := by decide +kernel
theorem dX5_fails_6 : decode cX5_fails 6 = .ok (.irem, 1) := by decide +kernel
theorem dX5_fails_7 : decode cX5_fails 7 = .ok (.istore_n 3, 1) := by decide +kernel
theorem dX5_fails_8 : decode cX5_fails 8 = .ok (.aload_n 0, 1) := by decide +kernel
theorem dX5_fails_9 : decode cX5_fails 9 = .ok (.getfield 63, 3) := by decide +kernel
theorem dX5_fails_12 : decode cX5_fails 12 = .ok (.iload_n 3, 1) := by decide +kernel
theorem dX5_fails_13 : decode cX5_fails 13 = .ok (.aload_n 0, 1) := by decide +kernel
theorem dX5_fails_14 : decode cX5_fails 14 = .ok (.getfield 175, 3) := by decide +kernel
theorem dX5_fails_17 : decode cX5_fails 17 = .ok (.iastore, 1) := by decide +kernel
theorem dX5_fails_18 : decode cX5_fails 18 = .ok (.aload_n 0, 1) := by decide +kernel
theorem dX5_fails_19 : decode cX5_fails 19 = .ok (.getfield 66, 3) := by decide +kernel
theorem dX5_fails_22 : decode cX5_fails 22 = .ok (.iload_n 3, 1) := by decide +kernel
theorem dX5_fails_23 : decode cX5_fails 23 = .ok (.iload_n 1, 1) := by decide +kernel
theorem dX5_fails_24 : decode cX5_fails 24 = .ok (.iastore, 1) := by decide +kernel
theorem dX5_fails_25 : decode cX5_fails 25 = .ok (.aload_n 0, 1) := by decide +kernel
theorem dX5_fails_26 : decode cX5_fails 26 = .ok (.getfield 69, 3) := by decide +kernel
theorem dX5_fails_29 : decode cX5_fails 29 = .ok (.iload_n 3, 1) := by decide +kernel
theorem dX5_fails_30 : decode cX5_fails 30 = .ok (.iload_n 2, 1) := by decide +kernel
theorem dX5_fails_31 : decode cX5_fails 31 = .ok (.iastore, 1) := by decide +kernel
theorem dX5_fails_32 : decode cX5_fails 32 = .ok (.aload_n 0, 1) := by decide +kernel
theorem dX5_fails_33 : decode cX5_fails 33 = .ok (.dup, 1) := by decide +kernel
theorem dX5_fails_34 : decode cX5_fails 34 = .ok (.getfield 172, 3) := by decide +kernel
theorem dX5_fails_37 : decode cX5_fails 37 = .ok (.iconst 1, 1) := by decide +kernel
theorem dX5_fails_38 : decode cX5_fails 38 = .ok (.iadd, 1) := by decide +kernel
theorem dX5_fails_39 : decode cX5_fails 39 = .ok (.putfield 172, 3) := by decide +kernel
theorem dX5_fails_42 : decode cX5_fails 42 = .ok (.aload_n 0, 1) := by decide +kernel
theorem dX5_fails_43 : decode cX5_fails 43 = .ok (.getfield 72, 3) := by decide +kernel
theorem dX5_fails_46 : decode cX5_fails 46 = .ok (.iload_n 2, 1) := by decide +kernel
theorem dX5_fails_47 : decode cX5_fails 47 = .ok (.dup2, 1) := by decide +kernel
theorem dX5_fails_48 : decode cX5_fails 48 = .ok (.iaload, 1) := by decide +kernel
theorem dX5_fails_49 : decode cX5_fails 49 = .ok (.iconst 1, 1) := by decide +kernel
theorem dX5_fails_50 : decode cX5_fails 50 = .ok (.iadd, 1) := by decide +kernel
theorem dX5_fails_51 : decode cX5_fails 51 = .ok (.iastore, 1) := by decide +kernel
theorem dX5_fails_52 : decode cX5_fails 52 = .ok (.return_, 1) := by decide +kernel
theorem dX5_moves_0 : decode cX5_moves 0 = .ok (.aload_n 0, 1) := by decide +kernel
theorem dX5_moves_1 : decode cX5_moves 1 = .ok (.getfield 30, 3) := by decide +kernel
theorem dX5_moves_4 : decode cX5_moves 4 = .ok (.iload_n 1, 1) := by decide +kernel
theorem dX5_moves_5 : decode cX5_moves 5 = .ok (.iaload, 1) := by decide +kernel
theorem dX5_moves_6 : decode cX5_moves 6 = .ok (.aload_n 0, 1) := by decide +kernel
theorem dX5_moves_7 : decode cX5_moves 7 = .ok (.getfield 33, 3) := by decide +kernel
theorem dX5_moves_10 : decode cX5_moves 10 = .ok (.iload_n 1, 1) := by decide +kernel
theorem dX5_moves_11 : decode cX5_moves 11 = .ok (.iaload, 1) := by decide +kernel
theorem dX5_moves_12 : decode cX5_moves 12 = .ok (.iadd, 1) := by decide +kernel
theorem dX5_moves_13 : decode cX5_moves 13 = .ok (.istore_n 2, 1) := by decide +kernel
theorem dX5_moves_14 : decode cX5_moves 14 = .ok (.aload_n 0, 1) := by decide +kernel
theorem dX5_moves_15 : decode cX5_moves 15 = .ok (.getfield 36, 3) := by decide +kernel
theorem dX5_moves_18 : decode cX5_moves 18 = .ok (.iload_n 1, 1) := by decide +kernel
theorem dX5_moves_19 : decode cX5_moves 19 = .ok (.baload, 1) := by decide +kernel
theorem dX5_moves_20 : decode cX5_moves 20 = .ok (.ifCond .eq 74, 3) := by decide +kernel
theorem dX5_moves_23 : decode cX5_moves 23 = .ok (.aload_n 0, 1) := by decide +kernel
theorem dX5_moves_24 : decode cX5_moves 24 = .ok (.iload_n 1, 1) := by decide +kernel
theorem dX5_moves_25 : decode cX5_moves 25 = .ok (.invokevirtual 102, 3) := by decide +kernel
theorem dX5_moves_28 : decode cX5_moves 28 = .ok (.istore_n 3, 1) := by decide +kernel
theorem dX5_moves_29 : decode cX5_moves 29 = .ok (.iload_n 3, 1) := by decide +kernel
theorem dX5_moves_30 : decode cX5_moves 30 = .ok (.ifCond .ne 19, 3) := by decide +kernel
theorem dX5_moves_33 : decode cX5_moves 33 = .ok (.aload_n 0, 1) := by decide +kernel
theorem dX5_moves_34 : decode cX5_moves 34 = .ok (.getfield 13, 3) := by decide +kernel
theorem dX5_moves_37 : decode cX5_moves 37 = .ok (.aload_n 0, 1) := by decide +kernel
theorem dX5_moves_38 : decode cX5_moves 38 = .ok (.getfield 27, 3) := by decide +kernel
theorem dX5_moves_41 : decode cX5_moves 41 = .ok (.iload_n 1, 1) := by decide +kernel
theorem dX5_moves_42 : decode cX5_moves 42 = .ok (.iaload, 1) := by decide +kernel
theorem dX5_moves_43 : decode cX5_moves 43 = .ok (.iaload, 1) := by decide +kernel
theorem dX5_moves_44 : decode cX5_moves 44 = .ok (.ifCond .ne 5, 3) := by decide +kernel
theorem dX5_moves_47 : decode cX5_moves 47 = .ok (.iconst 4, 1) := by decide +kernel
theorem dX5_moves_48 : decode cX5_moves 48 = .ok (.istore_n 3, 1) := by decide +kernel
theorem dX5_moves_49 : decode cX5_moves 49 = .ok (.iload_n 3, 1) := by decide +kernel
theorem dX5_moves_50 : decode cX5_moves 50 = .ok (.ifCond .le 13, 3) := by decide +kernel
theorem dX5_moves_53 : decode cX5_moves 53 = .ok (.aload_n 0, 1) := by decide +kernel
theorem dX5_moves_54 : decode cX5_moves 54 = .ok (.bipush 100, 2) := by decide +kernel
theorem dX5_moves_56 : decode cX5_moves 56 = .ok (.iload_n 1, 1) := by decide +kernel
theorem dX5_moves_57 : decode cX5_moves 57 = .ok (.iadd, 1) := by decide +kernel
theorem dX5_moves_58 : decode cX5_moves 58 = .ok (.iload_n 3, 1) := by decide +kernel
theorem dX5_moves_59 : decode cX5_moves 59 = .ok (.invokevirtual 178, 3) := by decide +kernel
theorem dX5_moves_62 : decode cX5_moves 62 = .ok (.return_, 1) := by decide +kernel
theorem dX5_moves_63 : decode cX5_moves 63 = .ok (.aload_n 0, 1) := by decide +kernel
theorem dX5_moves_64 : decode cX5_moves 64 = .ok (.getfield 13, 3) := by decide +kernel
theorem dX5_moves_67 : decode cX5_moves 67 = .ok (.aload_n 0, 1) := by decide +kernel
theorem dX5_moves_68 : decode cX5_moves 68 = .ok (.getfield 27, 3) := by decide +kernel
theorem dX5_moves_71 : decode cX5_moves 71 = .ok (.iload_n 1, 1) := by decide +kernel
theorem dX5_moves_72 : decode cX5_moves 72 = .ok (.iaload, 1) := by decide +kernel
theorem dX5_moves_73 : decode cX5_moves 73 = .ok (.iaload, 1) := by decide +kernel
theorem dX5_moves_74 : decode cX5_moves 74 = .ok (.istore 4, 2) := by decide +kernel
theorem dX5_moves_76 : decode cX5_moves 76 = .ok (.iload_n 2, 1) := by decide +kernel
theorem dX5_moves_77 : decode cX5_moves 77 = .ok (.iload 4, 2) := by decide +kernel
theorem dX5_moves_79 : decode cX5_moves 79 = .ok (.irem, 1) := by decide +kernel
theorem dX5_moves_80 : decode cX5_moves 80 = .ok (.istore_n 2, 1) := by decide +kernel
theorem dX5_moves_81 : decode cX5_moves 81 = .ok (.iload_n 2, 1) := by decide +kernel
theorem dX5_moves_82 : decode cX5_moves 82 = .ok (.ifCond .ge 10, 3) := by decide +kernel
theorem dX5_moves_85 : decode cX5_moves 85 = .ok (.iload_n 2, 1) := by decide +kernel
theorem dX5_moves_86 : decode cX5_moves 86 = .ok (.iload 4, 2) := by decide +kernel
theorem dX5_moves_88 : decode cX5_moves 88 = .ok (.iadd, 1) := by decide +kernel
theorem dX5_moves_89 : decode cX5_moves 89 = .ok (.goto 4, 3) := by decide +kernel
theorem dX5_moves_92 : decode cX5_moves 92 = .ok (.iload_n 2, 1) := by decide +kernel
theorem dX5_moves_93 : decode cX5_moves 93 = .ok (.istore_n 2, 1) := by decide +kernel
theorem dX5_moves_94 : decode cX5_moves 94 = .ok (.aload_n 0, 1) := by decide +kernel
theorem dX5_moves_95 : decode cX5_moves 95 = .ok (.getfield 30, 3) := by decide +kernel
theorem dX5_moves_98 : decode cX5_moves 98 = .ok (.iload_n 1, 1) := by decide +kernel
theorem dX5_moves_99 : decode cX5_moves 99 = .ok (.iload_n 2, 1) := by decide +kernel
theorem dX5_moves_100 : decode cX5_moves 100 = .ok (.iastore, 1) := by decide +kernel
theorem dX5_moves_101 : decode cX5_moves 101 = .ok (.return_, 1) := by decide +kernel
theorem dX5_tick_0 : decode cX5_tick 0 = .ok (.aload_n 0, 1) := by decide +kernel
theorem dX5_tick_1 : decode cX5_tick 1 = .ok (.dup, 1) := by decide +kernel
theorem dX5_tick_2 : decode cX5_tick 2 = .ok (.getfield 175, 3) := by decide +kernel
theorem dX5_tick_5 : decode cX5_tick 5 = .ok (.iconst 1, 1) := by decide +kernel
theorem dX5_tick_6 : decode cX5_tick 6 = .ok (.iadd, 1) := by decide +kernel
theorem dX5_tick_7 : decode cX5_tick 7 = .ok (.putfield 175, 3) := by decide +kernel
theorem dX5_tick_10 : decode cX5_tick 10 = .ok (.iconst 0, 1) := by decide +kernel
theorem dX5_tick_11 : decode cX5_tick 11 = .ok (.istore_n 1, 1) := by decide +kernel
theorem dX5_tick_12 : decode cX5_tick 12 = .ok (.iconst 0, 1) := by decide +kernel
theorem dX5_tick_13 : decode cX5_tick 13 = .ok (.istore_n 2, 1) := by decide +kernel
theorem dX5_tick_14 : decode cX5_tick 14 = .ok (.iload_n 2, 1) := by decide +kernel
theorem dX5_tick_15 : decode cX5_tick 15 = .ok (.aload_n 0, 1) := by decide +kernel
theorem dX5_tick_16 : decode cX5_tick 16 = .ok (.getfield 79, 3) := by decide +kernel
theorem dX5_tick_19 : decode cX5_tick 19 = .ok (.if_icmp .ge 128, 3) := by decide +kernel
theorem dX5_tick_22 : decode cX5_tick 22 = .ok (.aload_n 0, 1) := by decide +kernel
theorem dX5_tick_23 : decode cX5_tick 23 = .ok (.getfield 48, 3) := by decide +kernel
theorem dX5_tick_26 : decode cX5_tick 26 = .ok (.iload_n 2, 1) := by decide +kernel
theorem dX5_tick_27 : decode cX5_tick 27 = .ok (.baload, 1) := by decide +kernel
theorem dX5_tick_28 : decode cX5_tick 28 = .ok (.ifCond .eq 113, 3) := by decide +kernel
theorem dX5_tick_31 : decode cX5_tick 31 = .ok (.aload_n 0, 1) := by decide +kernel
theorem dX5_tick_32 : decode cX5_tick 32 = .ok (.iload_n 2, 1) := by decide +kernel
theorem dX5_tick_33 : decode cX5_tick 33 = .ok (.invokevirtual 182, 3) := by decide +kernel
theorem dX5_tick_36 : decode cX5_tick 36 = .ok (.istore_n 3, 1) := by decide +kernel
theorem dX5_tick_37 : decode cX5_tick 37 = .ok (.iload_n 3, 1) := by decide +kernel
theorem dX5_tick_38 : decode cX5_tick 38 = .ok (.ifCond .le 48, 3) := by decide +kernel
theorem dX5_tick_41 : decode cX5_tick 41 = .ok (.aload_n 0, 1) := by decide +kernel
theorem dX5_tick_42 : decode cX5_tick 42 = .ok (.iload_n 2, 1) := by decide +kernel
theorem dX5_tick_43 : decode cX5_tick 43 = .ok (.iload_n 3, 1) := by decide +kernel
theorem dX5_tick_44 : decode cX5_tick 44 = .ok (.invokevirtual 178, 3) := by decide +kernel
theorem dX5_tick_47 : decode cX5_tick 47 = .ok (.aload_n 0, 1) := by decide +kernel
theorem dX5_tick_48 : decode cX5_tick 48 = .ok (.getfield 54, 3) := by decide +kernel
theorem dX5_tick_51 : decode cX5_tick 51 = .ok (.iload_n 2, 1) := by decide +kernel
theorem dX5_tick_52 : decode cX5_tick 52 = .ok (.dup2, 1) := by decide +kernel
theorem dX5_tick_53 : decode cX5_tick 53 = .ok (.iaload, 1) := by decide +kernel
theorem dX5_tick_54 : decode cX5_tick 54 = .ok (.iconst 1, 1) := by decide +kernel
theorem dX5_tick_55 : decode cX5_tick 55 = .ok (.iadd, 1) := by decide +kernel
theorem dX5_tick_56 : decode cX5_tick 56 = .ok (.iastore, 1) := by decide +kernel
theorem dX5_tick_57 : decode cX5_tick 57 = .ok (.aload_n 0, 1) := by decide +kernel
theorem dX5_tick_58 : decode cX5_tick 58 = .ok (.getfield 48, 3) := by decide +kernel
theorem dX5_tick_61 : decode cX5_tick 61 = .ok (.iload_n 2, 1) := by decide +kernel
theorem dX5_tick_62 : decode cX5_tick 62 = .ok (.aload_n 0, 1) := by decide +kernel
theorem dX5_tick_63 : decode cX5_tick 63 = .ok (.getfield 54, 3) := by decide +kernel
theorem dX5_tick_66 : decode cX5_tick 66 = .ok (.iload_n 2, 1) := by decide +kernel
theorem dX5_tick_67 : decode cX5_tick 67 = .ok (.iaload, 1) := by decide +kernel
theorem dX5_tick_68 : decode cX5_tick 68 = .ok (.aload_n 0, 1) := by decide +kernel
theorem dX5_tick_69 : decode cX5_tick 69 = .ok (.getfield 51, 3) := by decide +kernel
theorem dX5_tick_72 : decode cX5_tick 72 = .ok (.iload_n 2, 1) := by decide +kernel
theorem dX5_tick_73 : decode cX5_tick 73 = .ok (.iaload, 1) := by decide +kernel
theorem dX5_tick_74 : decode cX5_tick 74 = .ok (.if_icmp .eq 7, 3) := by decide +kernel
theorem dX5_tick_77 : decode cX5_tick 77 = .ok (.iconst 1, 1) := by decide +kernel
theorem dX5_tick_78 : decode cX5_tick 78 = .ok (.goto 4, 3) := by decide +kernel
theorem dX5_tick_81 : decode cX5_tick 81 = .ok (.iconst 0, 1) := by decide +kernel
theorem dX5_tick_82 : decode cX5_tick 82 = .ok (.bastore, 1) := by decide +kernel
theorem dX5_tick_83 : decode cX5_tick 83 = .ok (.goto 58, 3) := by decide +kernel
theorem dX5_tick_86 : decode cX5_tick 86 = .ok (.aload_n 0, 1) := by decide +kernel
theorem dX5_tick_87 : decode cX5_tick 87 = .ok (.getfield 54, 3) := by decide +kernel
theorem dX5_tick_90 : decode cX5_tick 90 = .ok (.iload_n 2, 1) := by decide +kernel
theorem dX5_tick_91 : decode cX5_tick 91 = .ok (.iconst 0, 1) := by decide +kernel
theorem dX5_tick_92 : decode cX5_tick 92 = .ok (.iastore, 1) := by decide +kernel
theorem dX5_tick_93 : decode cX5_tick 93 = .ok (.aload_n 0, 1) := by decide +kernel
theorem dX5_tick_94 : decode cX5_tick 94 = .ok (.getfield 60, 3) := by decide +kernel
theorem dX5_tick_97 : decode cX5_tick 97 = .ok (.iload_n 2, 1) := by decide +kernel
theorem dX5_tick_98 : decode cX5_tick 98 = .ok (.dup2, 1) := by decide +kernel
theorem dX5_tick_99 : decode cX5_tick 99 = .ok (.iaload, 1) := by decide +kernel
theorem dX5_tick_100 : decode cX5_tick 100 = .ok (.iload_n 3, 1) := by decide +kernel
theorem dX5_tick_101 : decode cX5_tick 101 = .ok (.ifCond .ge 7, 3) := by decide +kernel
theorem dX5_tick_104 : decode cX5_tick 104 = .ok (.iconst 1, 1) := by decide +kernel
theorem dX5_tick_105 : decode cX5_tick 105 = .ok (.goto 4, 3) := by decide +kernel
theorem dX5_tick_108 : decode cX5_tick 108 = .ok (.iconst 0, 1) := by decide +kernel
theorem dX5_tick_109 : decode cX5_tick 109 = .ok (.iadd, 1) := by decide +kernel
theorem dX5_tick_110 : decode cX5_tick 110 = .ok (.iastore, 1) := by decide +kernel
theorem dX5_tick_111 : decode cX5_tick 111 = .ok (.aload_n 0, 1) := by decide +kernel
theorem dX5_tick_112 : decode cX5_tick 112 = .ok (.getfield 57, 3) := by decide +kernel
theorem dX5_tick_115 : decode cX5_tick 115 = .ok (.iload_n 2, 1) := by decide +kernel
theorem dX5_tick_116 : decode cX5_tick 116 = .ok (.dup2, 1) := by decide +kernel
theorem dX5_tick_117 : decode cX5_tick 117 = .ok (.iaload, 1) := by decide +kernel
theorem dX5_tick_118 : decode cX5_tick 118 = .ok (.iload_n 3, 1) := by decide +kernel
theorem dX5_tick_119 : decode cX5_tick 119 = .ok (.ifCond .ge 7, 3) := by decide +kernel
theorem dX5_tick_122 : decode cX5_tick 122 = .ok (.iconst 0, 1) := by decide +kernel
theorem dX5_tick_123 : decode cX5_tick 123 = .ok (.goto 4, 3) := by decide +kernel
theorem dX5_tick_126 : decode cX5_tick 126 = .ok (.iconst 1, 1) := by decide +kernel
theorem dX5_tick_127 : decode cX5_tick 127 = .ok (.iadd, 1) := by decide +kernel
theorem dX5_tick_128 : decode cX5_tick 128 = .ok (.iastore, 1) := by decide +kernel
theorem dX5_tick_129 : decode cX5_tick 129 = .ok (.iload_n 1, 1) := by decide +kernel
theorem dX5_tick_130 : decode cX5_tick 130 = .ok (.iload_n 3, 1) := by decide +kernel
theorem dX5_tick_131 : decode cX5_tick 131 = .ok (.ifCond .ge 7, 3) := by decide +kernel
theorem dX5_tick_134 : decode cX5_tick 134 = .ok (.iconst 0, 1) := by decide +kernel
theorem dX5_tick_135 : decode cX5_tick 135 = .ok (.goto 4, 3) := by decide +kernel
theorem dX5_tick_138 : decode cX5_tick 138 = .ok (.iconst 1, 1) := by decide +kernel
theorem dX5_tick_139 : decode cX5_tick 139 = .ok (.iadd, 1) := by decide +kernel
theorem dX5_tick_140 : decode cX5_tick 140 = .ok (.istore_n 1, 1) := by decide +kernel
theorem dX5_tick_141 : decode cX5_tick 141 = .ok (.iinc 2 1, 3) := by decide +kernel
theorem dX5_tick_144 : decode cX5_tick 144 = .ok (.goto (-130), 3) := by decide +kernel
theorem dX5_tick_147 : decode cX5_tick 147 = .ok (.iconst 0, 1) := by decide +kernel
theorem dX5_tick_148 : decode cX5_tick 148 = .ok (.istore_n 2, 1) := by decide +kernel
theorem dX5_tick_149 : decode cX5_tick 149 = .ok (.iload_n 2, 1) := by decide +kernel
theorem dX5_tick_150 : decode cX5_tick 150 = .ok (.bipush 16, 2) := by decide +kernel
theorem dX5_tick_152 : decode cX5_tick 152 = .ok (.if_icmp .ge 14, 3) := by decide +kernel
theorem dX5_tick_155 : decode cX5_tick 155 = .ok (.aload_n 0, 1) := by decide +kernel
theorem dX5_tick_156 : decode cX5_tick 156 = .ok (.iload_n 2, 1) := by decide +kernel
theorem dX5_tick_157 : decode cX5_tick 157 = .ok (.invokevirtual 185, 3) := by decide +kernel
theorem dX5_tick_160 : decode cX5_tick 160 = .ok (.iinc 2 1, 3) := by decide +kernel
theorem dX5_tick_163 : decode cX5_tick 163 = .ok (.goto (-14), 3) := by decide +kernel
theorem dX5_tick_166 : decode cX5_tick 166 = .ok (.iload_n 1, 1) := by decide +kernel
theorem dX5_tick_167 : decode cX5_tick 167 = .ok (.ireturn, 1) := by decide +kernel
theorem dX5_splice_0 : decode cX5_splice 0 = .ok (.iload_n 1, 1) := by decide +kernel
theorem dX5_splice_1 : decode cX5_splice 1 = .ok (.invokestatic 137, 3) := by decide +kernel
theorem dX5_splice_4 : decode cX5_splice 4 = .ok (.ifCond .eq 21, 3) := by decide +kernel
theorem dX5_splice_7 : decode cX5_splice 7 = .ok (.iload_n 3, 1) := by decide +kernel
theorem dX5_splice_8 : decode cX5_splice 8 = .ok (.invokestatic 137, 3) := by decide +kernel
theorem dX5_splice_11 : decode cX5_splice 11 = .ok (.ifCond .eq 14, 3) := by decide +kernel
theorem dX5_splice_14 : decode cX5_splice 14 = .ok (.iload 5, 2) := by decide +kernel
theorem dX5_splice_16 : decode cX5_splice 16 = .ok (.iconst 0, 1) := by decide +kernel
theorem dX5_splice_17 : decode cX5_splice 17 = .ok (.bipush 32, 2) := by decide +kernel
theorem dX5_splice_19 : decode cX5_splice 19 = .ok (.invokestatic 75, 3) := by decide +kernel
theorem dX5_splice_22 : decode cX5_splice 22 = .ok (.ifCond .ne 5, 3) := by decide +kernel
theorem dX5_splice_25 : decode cX5_splice 25 = .ok (.iconst (-1), 1) := by decide +kernel
theorem dX5_splice_26 : decode cX5_splice 26 = .ok (.ireturn, 1) := by decide +kernel
theorem dX5_splice_27 : decode cX5_splice 27 = .ok (.iconst 0, 1) := by decide +kernel
theorem dX5_splice_28 : decode cX5_splice 28 = .ok (.istore 6, 2) := by decide +kernel
theorem dX5_splice_30 : decode cX5_splice 30 = .ok (.iconst 0, 1) := by decide +kernel
theorem dX5_splice_31 : decode cX5_splice 31 = .ok (.istore 7, 2) := by decide +kernel
theorem dX5_splice_33 : decode cX5_splice 33 = .ok (.iload 6, 2) := by decide +kernel
theorem dX5_splice_35 : decode cX5_splice 35 = .ok (.iload 5, 2) := by decide +kernel
theorem dX5_splice_37 : decode cX5_splice 37 = .ok (.if_icmp .ge 44, 3) := by decide +kernel
theorem dX5_splice_40 : decode cX5_splice 40 = .ok (.iload 7, 2) := by decide +kernel
theorem dX5_splice_42 : decode cX5_splice 42 = .ok (.ifCond .ne 39, 3) := by decide +kernel
theorem dX5_splice_45 : decode cX5_splice 45 = .ok (.aload_n 0, 1) := by decide +kernel
theorem dX5_splice_46 : decode cX5_splice 46 = .ok (.iload_n 1, 1) := by decide +kernel
theorem dX5_splice_47 : decode cX5_splice 47 = .ok (.iload_n 2, 1) := by decide +kernel
theorem dX5_splice_48 : decode cX5_splice 48 = .ok (.iload 6, 2) := by decide +kernel
theorem dX5_splice_50 : decode cX5_splice 50 = .ok (.iadd, 1) := by decide +kernel
theorem dX5_splice_51 : decode cX5_splice 51 = .ok (.iload_n 3, 1) := by decide +kernel
theorem dX5_splice_52 : decode cX5_splice 52 = .ok (.iload 4, 2) := by decide +kernel
theorem dX5_splice_54 : decode cX5_splice 54 = .ok (.iload 6, 2) := by decide +kernel
theorem dX5_splice_56 : decode cX5_splice 56 = .ok (.iadd, 1) := by decide +kernel
theorem dX5_splice_57 : decode cX5_splice 57 = .ok (.invokevirtual 169, 3) := by decide +kernel
theorem dX5_splice_60 : decode cX5_splice 60 = .ok (.istore 7, 2) := by decide +kernel
theorem dX5_splice_62 : decode cX5_splice 62 = .ok (.iload 7, 2) := by decide +kernel
theorem dX5_splice_64 : decode cX5_splice 64 = .ok (.ifCond .ne 10, 3) := by decide +kernel
theorem dX5_splice_67 : decode cX5_splice 67 = .ok (.iload 6, 2) := by decide +kernel
theorem dX5_splice_69 : decode cX5_splice 69 = .ok (.iconst 1, 1) := by decide +kernel
theorem dX5_splice_70 : decode cX5_splice 70 = .ok (.iadd, 1) := by decide +kernel
theorem dX5_splice_71 : decode cX5_splice 71 = .ok (.goto 5, 3) := by decide +kernel
theorem dX5_splice_74 : decode cX5_splice 74 = .ok (.iload 6, 2) := by decide +kernel
theorem dX5_splice_76 : decode cX5_splice 76 = .ok (.istore 6, 2) := by decide +kernel
theorem dX5_splice_78 : decode cX5_splice 78 = .ok (.goto (-45), 3) := by decide +kernel
theorem dX5_splice_81 : decode cX5_splice 81 = .ok (.aload_n 0, 1) := by decide +kernel
theorem dX5_splice_82 : decode cX5_splice 82 = .ok (.iload 7, 2) := by decide +kernel
theorem dX5_splice_84 : decode cX5_splice 84 = .ok (.invokevirtual 141, 3) := by decide +kernel
theorem dX5_splice_87 : decode cX5_splice 87 = .ok (.istore 7, 2) := by decide +kernel
theorem dX5_splice_89 : decode cX5_splice 89 = .ok (.iload 6, 2) := by decide +kernel
theorem dX5_splice_91 : decode cX5_splice 91 = .ok (.ireturn, 1) := by decide +kernel
theorem dX5_dub_0 : decode cX5_dub 0 = .ok (.iload_n 1, 1) := by decide +kernel
theorem dX5_dub_1 : decode cX5_dub 1 = .ok (.invokestatic 137, 3) := by decide +kernel
theorem dX5_dub_4 : decode cX5_dub 4 = .ok (.ifCond .eq 20, 3) := by decide +kernel
theorem dX5_dub_7 : decode cX5_dub 7 = .ok (.iload_n 2, 1) := by decide +kernel
theorem dX5_dub_8 : decode cX5_dub 8 = .ok (.invokestatic 137, 3) := by decide +kernel
theorem dX5_dub_11 : decode cX5_dub 11 = .ok (.ifCond .eq 13, 3) := by decide +kernel
theorem dX5_dub_14 : decode cX5_dub 14 = .ok (.iload_n 3, 1) := by decide +kernel
theorem dX5_dub_15 : decode cX5_dub 15 = .ok (.iconst 0, 1) := by decide +kernel
theorem dX5_dub_16 : decode cX5_dub 16 = .ok (.bipush 10, 2) := by decide +kernel
theorem dX5_dub_18 : decode cX5_dub 18 = .ok (.invokestatic 75, 3) := by decide +kernel
theorem dX5_dub_21 : decode cX5_dub 21 = .ok (.ifCond .ne 5, 3) := by decide +kernel
theorem dX5_dub_24 : decode cX5_dub 24 = .ok (.iconst (-1), 1) := by decide +kernel
theorem dX5_dub_25 : decode cX5_dub 25 = .ok (.ireturn, 1) := by decide +kernel
theorem dX5_dub_26 : decode cX5_dub 26 = .ok (.aload_n 0, 1) := by decide +kernel
theorem dX5_dub_27 : decode cX5_dub 27 = .ok (.iload_n 2, 1) := by decide +kernel
theorem dX5_dub_28 : decode cX5_dub 28 = .ok (.invokevirtual 102, 3) := by decide +kernel
theorem dX5_dub_31 : decode cX5_dub 31 = .ok (.istore 4, 2) := by decide +kernel
theorem dX5_dub_33 : decode cX5_dub 33 = .ok (.iload 4, 2) := by decide +kernel
theorem dX5_dub_35 : decode cX5_dub 35 = .ok (.ifCond .le 7, 3) := by decide +kernel
theorem dX5_dub_38 : decode cX5_dub 38 = .ok (.iconst 0, 1) := by decide +kernel
theorem dX5_dub_39 : decode cX5_dub 39 = .ok (.goto 14, 3) := by decide +kernel
theorem dX5_dub_42 : decode cX5_dub 42 = .ok (.aload_n 0, 1) := by decide +kernel
theorem dX5_dub_43 : decode cX5_dub 43 = .ok (.getfield 13, 3) := by decide +kernel
theorem dX5_dub_46 : decode cX5_dub 46 = .ok (.aload_n 0, 1) := by decide +kernel
theorem dX5_dub_47 : decode cX5_dub 47 = .ok (.getfield 27, 3) := by decide +kernel
theorem dX5_dub_50 : decode cX5_dub 50 = .ok (.iload_n 2, 1) := by decide +kernel
theorem dX5_dub_51 : decode cX5_dub 51 = .ok (.iaload, 1) := by decide +kernel
theorem dX5_dub_52 : decode cX5_dub 52 = .ok (.iaload, 1) := by decide +kernel
theorem dX5_dub_53 : decode cX5_dub 53 = .ok (.istore 5, 2) := by decide +kernel
theorem dX5_dub_55 : decode cX5_dub 55 = .ok (.iconst 0, 1) := by decide +kernel
theorem dX5_dub_56 : decode cX5_dub 56 = .ok (.istore 6, 2) := by decide +kernel
theorem dX5_dub_58 : decode cX5_dub 58 = .ok (.iload 6, 2) := by decide +kernel
theorem dX5_dub_60 : decode cX5_dub 60 = .ok (.iload 5, 2) := by decide +kernel
theorem dX5_dub_62 : decode cX5_dub 62 = .ok (.if_icmp .ge 32, 3) := by decide +kernel
theorem dX5_dub_65 : decode cX5_dub 65 = .ok (.iload 4, 2) := by decide +kernel
theorem dX5_dub_67 : decode cX5_dub 67 = .ok (.ifCond .ne 27, 3) := by decide +kernel
theorem dX5_dub_70 : decode cX5_dub 70 = .ok (.iload_n 3, 1) := by decide +kernel
theorem dX5_dub_71 : decode cX5_dub 71 = .ok (.aload_n 0, 1) := by decide +kernel
theorem dX5_dub_72 : decode cX5_dub 72 = .ok (.aload_n 0, 1) := by decide +kernel
theorem dX5_dub_73 : decode cX5_dub 73 = .ok (.getfield 27, 3) := by decide +kernel
theorem dX5_dub_76 : decode cX5_dub 76 = .ok (.iload_n 2, 1) := by decide +kernel
theorem dX5_dub_77 : decode cX5_dub 77 = .ok (.iaload, 1) := by decide +kernel
theorem dX5_dub_78 : decode cX5_dub 78 = .ok (.iload 6, 2) := by decide +kernel
theorem dX5_dub_80 : decode cX5_dub 80 = .ok (.invokevirtual 130, 3) := by decide +kernel
theorem dX5_dub_83 : decode cX5_dub 83 = .ok (.invokestatic 117, 3) := by decide +kernel
theorem dX5_dub_86 : decode cX5_dub 86 = .ok (.istore 4, 2) := by decide +kernel
theorem dX5_dub_88 : decode cX5_dub 88 = .ok (.iinc 6 1, 3) := by decide +kernel
theorem dX5_dub_91 : decode cX5_dub 91 = .ok (.goto (-33), 3) := by decide +kernel
theorem dX5_dub_94 : decode cX5_dub 94 = .ok (.aload_n 0, 1) := by decide +kernel
theorem dX5_dub_95 : decode cX5_dub 95 = .ok (.iload 4, 2) := by decide +kernel
theorem dX5_dub_97 : decode cX5_dub 97 = .ok (.invokevirtual 141, 3) := by decide +kernel
theorem dX5_dub_100 : decode cX5_dub 100 = .ok (.ifCond .le 9, 3) := by decide +kernel
theorem dX5_dub_103 : decode cX5_dub 103 = .ok (.bipush (-10), 2) := by decide +kernel
theorem dX5_dub_105 : decode cX5_dub 105 = .ok (.iload 4, 2) := by decide +kernel
theorem dX5_dub_107 : decode cX5_dub 107 = .ok (.isub, 1) := by decide +kernel
theorem dX5_dub_108 : decode cX5_dub 108 = .ok (.ireturn, 1) := by decide +kernel
theorem dX5_dub_109 : decode cX5_dub 109 = .ok (.aload_n 0, 1) := by decide +kernel
theorem dX5_dub_110 : decode cX5_dub 110 = .ok (.getfield 27, 3) := by decide +kernel
theorem dX5_dub_113 : decode cX5_dub 113 = .ok (.iload_n 2, 1) := by decide +kernel
theorem dX5_dub_114 : decode cX5_dub 114 = .ok (.iaload, 1) := by decide +kernel
theorem dX5_dub_115 : decode cX5_dub 115 = .ok (.istore 6, 2) := by decide +kernel
theorem dX5_dub_117 : decode cX5_dub 117 = .ok (.aload_n 0, 1) := by decide +kernel
theorem dX5_dub_118 : decode cX5_dub 118 = .ok (.iload_n 3, 1) := by decide +kernel
theorem dX5_dub_119 : decode cX5_dub 119 = .ok (.iload 5, 2) := by decide +kernel
theorem dX5_dub_121 : decode cX5_dub 121 = .ok (.invokevirtual 144, 3) := by decide +kernel
theorem dX5_dub_124 : decode cX5_dub 124 = .ok (.istore 7, 2) := by decide +kernel
theorem dX5_dub_126 : decode cX5_dub 126 = .ok (.iconst 0, 1) := by decide +kernel
theorem dX5_dub_127 : decode cX5_dub 127 = .ok (.istore 8, 2) := by decide +kernel
theorem dX5_dub_129 : decode cX5_dub 129 = .ok (.iload 8, 2) := by decide +kernel
theorem dX5_dub_131 : decode cX5_dub 131 = .ok (.iload 5, 2) := by decide +kernel
theorem dX5_dub_133 : decode cX5_dub 133 = .ok (.if_icmp .ge 39, 3) := by decide +kernel
theorem dX5_dub_136 : decode cX5_dub 136 = .ok (.aload_n 0, 1) := by decide +kernel
theorem dX5_dub_137 : decode cX5_dub 137 = .ok (.getfield 20, 3) := by decide +kernel
theorem dX5_dub_140 : decode cX5_dub 140 = .ok (.bipush 32, 2) := by decide +kernel
theorem dX5_dub_142 : decode cX5_dub 142 = .ok (.iload 7, 2) := by decide +kernel
theorem dX5_dub_144 : decode cX5_dub 144 = .ok (.imul, 1) := by decide +kernel
theorem dX5_dub_145 : decode cX5_dub 145 = .ok (.iload 8, 2) := by decide +kernel
theorem dX5_dub_147 : decode cX5_dub 147 = .ok (.iadd, 1) := by decide +kernel
theorem dX5_dub_148 : decode cX5_dub 148 = .ok (.iload_n 3, 1) := by decide +kernel
theorem dX5_dub_149 : decode cX5_dub 149 = .ok (.aload_n 0, 1) := by decide +kernel
theorem dX5_dub_150 : decode cX5_dub 150 = .ok (.getfield 20, 3) := by decide +kernel
theorem dX5_dub_153 : decode cX5_dub 153 = .ok (.bipush 32, 2) := by decide +kernel
theorem dX5_dub_155 : decode cX5_dub 155 = .ok (.iload 6, 2) := by decide +kernel
theorem dX5_dub_157 : decode cX5_dub 157 = .ok (.imul, 1) := by decide +kernel
theorem dX5_dub_158 : decode cX5_dub 158 = .ok (.iload 8, 2) := by decide +kernel
theorem dX5_dub_160 : decode cX5_dub 160 = .ok (.iadd, 1) := by decide +kernel
theorem dX5_dub_161 : decode cX5_dub 161 = .ok (.laload, 1) := by decide +kernel
theorem dX5_dub_162 : decode cX5_dub 162 = .ok (.invokestatic 127, 3) := by decide +kernel
theorem dX5_dub_165 : decode cX5_dub 165 = .ok (.lastore, 1) := by decide +kernel
theorem dX5_dub_166 : decode cX5_dub 166 = .ok (.iinc 8 1, 3) := by decide +kernel
theorem dX5_dub_169 : decode cX5_dub 169 = .ok (.goto (-40), 3) := by decide +kernel
theorem dX5_dub_172 : decode cX5_dub 172 = .ok (.aload_n 0, 1) := by decide +kernel
theorem dX5_dub_173 : decode cX5_dub 173 = .ok (.getfield 27, 3) := by decide +kernel
theorem dX5_dub_176 : decode cX5_dub 176 = .ok (.iload_n 1, 1) := by decide +kernel
theorem dX5_dub_177 : decode cX5_dub 177 = .ok (.iload 7, 2) := by decide +kernel
theorem dX5_dub_179 : decode cX5_dub 179 = .ok (.iastore, 1) := by decide +kernel
theorem dX5_dub_180 : decode cX5_dub 180 = .ok (.iload 5, 2) := by decide +kernel
theorem dX5_dub_182 : decode cX5_dub 182 = .ok (.ireturn, 1) := by decide +kernel
theorem dX5_sum_0 : decode cX5_sum 0 = .ok (.iload_n 1, 1) := by decide +kernel
theorem dX5_sum_1 : decode cX5_sum 1 = .ok (.invokestatic 137, 3) := by decide +kernel
theorem dX5_sum_4 : decode cX5_sum 4 = .ok (.ifCond .eq 15, 3) := by decide +kernel
theorem dX5_sum_7 : decode cX5_sum 7 = .ok (.aload_n 0, 1) := by decide +kernel
theorem dX5_sum_8 : decode cX5_sum 8 = .ok (.aload_n 0, 1) := by decide +kernel
theorem dX5_sum_9 : decode cX5_sum 9 = .ok (.iload_n 1, 1) := by decide +kernel
theorem dX5_sum_10 : decode cX5_sum 10 = .ok (.invokevirtual 102, 3) := by decide +kernel
theorem dX5_sum_13 : decode cX5_sum 13 = .ok (.invokevirtual 141, 3) := by decide +kernel
theorem dX5_sum_16 : decode cX5_sum 16 = .ok (.ifCond .le 5, 3) := by decide +kernel
theorem dX5_sum_19 : decode cX5_sum 19 = .ok (.lconst 0, 1) := by decide +kernel
theorem dX5_sum_20 : decode cX5_sum 20 = .ok (.lreturn, 1) := by decide +kernel
theorem dX5_sum_21 : decode cX5_sum 21 = .ok (.lconst 0, 1) := by decide +kernel
theorem dX5_sum_22 : decode cX5_sum 22 = .ok (.lstore_n 2, 1) := by decide +kernel
theorem dX5_sum_23 : decode cX5_sum 23 = .ok (.iconst 0, 1) := by decide +kernel
theorem dX5_sum_24 : decode cX5_sum 24 = .ok (.istore 4, 2) := by decide +kernel
theorem dX5_sum_26 : decode cX5_sum 26 = .ok (.iload 4, 2) := by decide +kernel
theorem dX5_sum_28 : decode cX5_sum 28 = .ok (.aload_n 0, 1) := by decide +kernel
theorem dX5_sum_29 : decode cX5_sum 29 = .ok (.getfield 13, 3) := by decide +kernel
theorem dX5_sum_32 : decode cX5_sum 32 = .ok (.aload_n 0, 1) := by decide +kernel
theorem dX5_sum_33 : decode cX5_sum 33 = .ok (.getfield 27, 3) := by decide +kernel
theorem dX5_sum_36 : decode cX5_sum 36 = .ok (.iload_n 1, 1) := by decide +kernel
theorem dX5_sum_37 : decode cX5_sum 37 = .ok (.iaload, 1) := by decide +kernel
theorem dX5_sum_38 : decode cX5_sum 38 = .ok (.iaload, 1) := by decide +kernel
theorem dX5_sum_39 : decode cX5_sum 39 = .ok (.if_icmp .ge 24, 3) := by decide +kernel
theorem dX5_sum_42 : decode cX5_sum 42 = .ok (.lload_n 2, 1) := by decide +kernel
theorem dX5_sum_43 : decode cX5_sum 43 = .ok (.aload_n 0, 1) := by decide +kernel
theorem dX5_sum_44 : decode cX5_sum 44 = .ok (.aload_n 0, 1) := by decide +kernel
theorem dX5_sum_45 : decode cX5_sum 45 = .ok (.getfield 27, 3) := by decide +kernel
theorem dX5_sum_48 : decode cX5_sum 48 = .ok (.iload_n 1, 1) := by decide +kernel
theorem dX5_sum_49 : decode cX5_sum 49 = .ok (.iaload, 1) := by decide +kernel
theorem dX5_sum_50 : decode cX5_sum 50 = .ok (.iload 4, 2) := by decide +kernel
theorem dX5_sum_52 : decode cX5_sum 52 = .ok (.invokevirtual 165, 3) := by decide +kernel
theorem dX5_sum_55 : decode cX5_sum 55 = .ok (.ladd, 1) := by decide +kernel
theorem dX5_sum_56 : decode cX5_sum 56 = .ok (.lstore_n 2, 1) := by decide +kernel
theorem dX5_sum_57 : decode cX5_sum 57 = .ok (.iinc 4 1, 3) := by decide +kernel
theorem dX5_sum_60 : decode cX5_sum 60 = .ok (.goto (-34), 3) := by decide +kernel
theorem dX5_sum_63 : decode cX5_sum 63 = .ok (.lload_n 2, 1) := by decide +kernel
theorem dX5_sum_64 : decode cX5_sum 64 = .ok (.lreturn, 1) := by decide +kernel
theorem dX5_match_0 : decode cX5_match 0 = .ok (.iload_n 1, 1) := by decide +kernel
theorem dX5_match_1 : decode cX5_match 1 = .ok (.invokestatic 137, 3) := by decide +kernel
theorem dX5_match_4 : decode cX5_match 4 = .ok (.ifCond .eq 10, 3) := by decide +kernel
theorem dX5_match_7 : decode cX5_match 7 = .ok (.iload_n 2, 1) := by decide +kernel
theorem dX5_match_8 : decode cX5_match 8 = .ok (.invokestatic 137, 3) := by decide +kernel
theorem dX5_match_11 : decode cX5_match 11 = .ok (.ifCond .ne 6, 3) := by decide +kernel
theorem dX5_match_14 : decode cX5_match 14 = .ok (.bipush (-101), 2) := by decide +kernel
theorem dX5_match_16 : decode cX5_match 16 = .ok (.ireturn, 1) := by decide +kernel
theorem dX5_match_17 : decode cX5_match 17 = .ok (.aload_n 0, 1) := by decide +kernel
theorem dX5_match_18 : decode cX5_match 18 = .ok (.iload_n 1, 1) := by decide +kernel
theorem dX5_match_19 : decode cX5_match 19 = .ok (.invokevirtual 102, 3) := by decide +kernel
theorem dX5_match_22 : decode cX5_match 22 = .ok (.istore_n 3, 1) := by decide +kernel
theorem dX5_match_23 : decode cX5_match 23 = .ok (.aload_n 0, 1) := by decide +kernel
theorem dX5_match_24 : decode cX5_match 24 = .ok (.iload_n 3, 1) := by decide +kernel
theorem dX5_match_25 : decode cX5_match 25 = .ok (.ifCond .le 7, 3) := by decide +kernel
theorem dX5_match_28 : decode cX5_match 28 = .ok (.iload_n 3, 1) := by decide +kernel
theorem dX5_match_29 : decode cX5_match 29 = .ok (.goto 8, 3) := by decide +kernel
theorem dX5_match_32 : decode cX5_match 32 = .ok (.aload_n 0, 1) := by decide +kernel
theorem dX5_match_33 : decode cX5_match 33 = .ok (.iload_n 2, 1) := by decide +kernel
theorem dX5_match_34 : decode cX5_match 34 = .ok (.invokevirtual 102, 3) := by decide +kernel
theorem dX5_match_37 : decode cX5_match 37 = .ok (.invokevirtual 141, 3) := by decide +kernel
theorem dX5_match_40 : decode cX5_match 40 = .ok (.istore_n 3, 1) := by decide +kernel
theorem dX5_match_41 : decode cX5_match 41 = .ok (.iload_n 3, 1) := by decide +kernel
theorem dX5_match_42 : decode cX5_match 42 = .ok (.ifCond .le 8, 3) := by decide +kernel
theorem dX5_match_45 : decode cX5_match 45 = .ok (.bipush (-110), 2) := by decide +kernel
theorem dX5_match_47 : decode cX5_match 47 = .ok (.iload_n 3, 1) := by decide +kernel
theorem dX5_match_48 : decode cX5_match 48 = .ok (.isub, 1) := by decide +kernel
theorem dX5_match_49 : decode cX5_match 49 = .ok (.ireturn, 1) := by decide +kernel
theorem dX5_match_50 : decode cX5_match 50 = .ok (.aload_n 0, 1) := by decide +kernel
theorem dX5_match_51 : decode cX5_match 51 = .ok (.getfield 13, 3) := by decide +kernel
theorem dX5_match_54 : decode cX5_match 54 = .ok (.aload_n 0, 1) := by decide +kernel
theorem dX5_match_55 : decode cX5_match 55 = .ok (.getfield 27, 3) := by decide +kernel
theorem dX5_match_58 : decode cX5_match 58 = .ok (.iload_n 1, 1) := by decide +kernel
theorem dX5_match_59 : decode cX5_match 59 = .ok (.iaload, 1) := by decide +kernel
theorem dX5_match_60 : decode cX5_match 60 = .ok (.iaload, 1) := by decide +kernel
theorem dX5_match_61 : decode cX5_match 61 = .ok (.istore 4, 2) := by decide +kernel
theorem dX5_match_63 : decode cX5_match 63 = .ok (.aload_n 0, 1) := by decide +kernel
theorem dX5_match_64 : decode cX5_match 64 = .ok (.getfield 13, 3) := by decide +kernel
theorem dX5_match_67 : decode cX5_match 67 = .ok (.aload_n 0, 1) := by decide +kernel
theorem dX5_match_68 : decode cX5_match 68 = .ok (.getfield 27, 3) := by decide +kernel
theorem dX5_match_71 : decode cX5_match 71 = .ok (.iload_n 2, 1) := by decide +kernel
theorem dX5_match_72 : decode cX5_match 72 = .ok (.iaload, 1) := by decide +kernel
theorem dX5_match_73 : decode cX5_match 73 = .ok (.iaload, 1) := by decide +kernel
theorem dX5_match_74 : decode cX5_match 74 = .ok (.istore 5, 2) := by decide +kernel
theorem dX5_match_76 : decode cX5_match 76 = .ok (.iconst 0, 1) := by decide +kernel
theorem dX5_match_77 : decode cX5_match 77 = .ok (.istore 6, 2) := by decide +kernel
theorem dX5_match_79 : decode cX5_match 79 = .ok (.iload 6, 2) := by decide +kernel
theorem dX5_match_81 : decode cX5_match 81 = .ok (.iload 4, 2) := by decide +kernel
theorem dX5_match_83 : decode cX5_match 83 = .ok (.if_icmp .ge 44, 3) := by decide +kernel
theorem dX5_match_86 : decode cX5_match 86 = .ok (.iload 6, 2) := by decide +kernel
theorem dX5_match_88 : decode cX5_match 88 = .ok (.iload 5, 2) := by decide +kernel
theorem dX5_match_90 : decode cX5_match 90 = .ok (.if_icmp .ge 37, 3) := by decide +kernel
theorem dX5_match_93 : decode cX5_match 93 = .ok (.aload_n 0, 1) := by decide +kernel
theorem dX5_match_94 : decode cX5_match 94 = .ok (.aload_n 0, 1) := by decide +kernel
theorem dX5_match_95 : decode cX5_match 95 = .ok (.getfield 27, 3) := by decide +kernel
theorem dX5_match_98 : decode cX5_match 98 = .ok (.iload_n 1, 1) := by decide +kernel
theorem dX5_match_99 : decode cX5_match 99 = .ok (.iaload, 1) := by decide +kernel
theorem dX5_match_100 : decode cX5_match 100 = .ok (.iload 6, 2) := by decide +kernel
theorem dX5_match_102 : decode cX5_match 102 = .ok (.invokevirtual 165, 3) := by decide +kernel
theorem dX5_match_105 : decode cX5_match 105 = .ok (.aload_n 0, 1) := by decide +kernel
theorem dX5_match_106 : decode cX5_match 106 = .ok (.aload_n 0, 1) := by decide +kernel
theorem dX5_match_107 : decode cX5_match 107 = .ok (.getfield 27, 3) := by decide +kernel
theorem dX5_match_110 : decode cX5_match 110 = .ok (.iload_n 2, 1) := by decide +kernel
theorem dX5_match_111 : decode cX5_match 111 = .ok (.iaload, 1) := by decide +kernel
theorem dX5_match_112 : decode cX5_match 112 = .ok (.iload 6, 2) := by decide +kernel
theorem dX5_match_114 : decode cX5_match 114 = .ok (.invokevirtual 165, 3) := by decide +kernel
theorem dX5_match_117 : decode cX5_match 117 = .ok (.lcmp, 1) := by decide +kernel
theorem dX5_match_118 : decode cX5_match 118 = .ok (.ifCond .ne 9, 3) := by decide +kernel
theorem dX5_match_121 : decode cX5_match 121 = .ok (.iinc 6 1, 3) := by decide +kernel
theorem dX5_match_124 : decode cX5_match 124 = .ok (.goto (-45), 3) := by decide +kernel
theorem dX5_match_127 : decode cX5_match 127 = .ok (.iload 6, 2) := by decide +kernel
theorem dX5_match_129 : decode cX5_match 129 = .ok (.iload 4, 2) := by decide +kernel
theorem dX5_match_131 : decode cX5_match 131 = .ok (.if_icmp .ne 17, 3) := by decide +kernel
theorem dX5_match_134 : decode cX5_match 134 = .ok (.iload 6, 2) := by decide +kernel
theorem dX5_match_136 : decode cX5_match 136 = .ok (.iload 5, 2) := by decide +kernel
theorem dX5_match_138 : decode cX5_match 138 = .ok (.if_icmp .ne 10, 3) := by decide +kernel
theorem dX5_match_141 : decode cX5_match 141 = .ok (.iconst (-1), 1) := by decide +kernel
theorem dX5_match_142 : decode cX5_match 142 = .ok (.iload 4, 2) := by decide +kernel
theorem dX5_match_144 : decode cX5_match 144 = .ok (.isub, 1) := by decide +kernel
theorem dX5_match_145 : decode cX5_match 145 = .ok (.goto 5, 3) := by decide +kernel
theorem dX5_match_148 : decode cX5_match 148 = .ok (.iload 6, 2) := by decide +kernel
theorem dX5_match_150 : decode cX5_match 150 = .ok (.ireturn, 1) := by decide +kernel
theorem dX5_why_0 : decode cX5_why 0 = .ok (.aload_n 0, 1) := by decide +kernel
theorem dX5_why_1 : decode cX5_why 1 = .ok (.getfield 83, 3) := by decide +kernel
theorem dX5_why_4 : decode cX5_why 4 = .ok (.ireturn, 1) := by decide +kernel
theorem dX5_number_0 : decode cX5_number 0 = .ok (.iload_n 1, 1) := by decide +kernel
theorem dX5_number_1 : decode cX5_number 1 = .ok (.invokestatic 137, 3) := by decide +kernel
theorem dX5_number_4 : decode cX5_number 4 = .ok (.ifCond .eq 16, 3) := by decide +kernel
theorem dX5_number_7 : decode cX5_number 7 = .ok (.aload_n 0, 1) := by decide +kernel
theorem dX5_number_8 : decode cX5_number 8 = .ok (.aload_n 0, 1) := by decide +kernel
theorem dX5_number_9 : decode cX5_number 9 = .ok (.iload_n 1, 1) := by decide +kernel
theorem dX5_number_10 : decode cX5_number 10 = .ok (.iload_n 2, 1) := by decide +kernel
theorem dX5_number_11 : decode cX5_number 11 = .ok (.invokevirtual 113, 3) := by decide +kernel
theorem dX5_number_14 : decode cX5_number 14 = .ok (.invokevirtual 141, 3) := by decide +kernel
theorem dX5_number_17 : decode cX5_number 17 = .ok (.ifCond .le 7, 3) := by decide +kernel
theorem dX5_number_20 : decode cX5_number 20 = .ok (.lconst 0, 1) := by decide +kernel
theorem dX5_number_21 : decode cX5_number 21 = .ok (.goto 14, 3) := by decide +kernel
theorem dX5_number_24 : decode cX5_number 24 = .ok (.aload_n 0, 1) := by decide +kernel
theorem dX5_number_25 : decode cX5_number 25 = .ok (.aload_n 0, 1) := by decide +kernel
theorem dX5_number_26 : decode cX5_number 26 = .ok (.getfield 27, 3) := by decide +kernel
theorem dX5_number_29 : decode cX5_number 29 = .ok (.iload_n 1, 1) := by decide +kernel
theorem dX5_number_30 : decode cX5_number 30 = .ok (.iaload, 1) := by decide +kernel
theorem dX5_number_31 : decode cX5_number 31 = .ok (.iload_n 2, 1) := by decide +kernel
theorem dX5_number_32 : decode cX5_number 32 = .ok (.invokevirtual 165, 3) := by decide +kernel
theorem dX5_number_35 : decode cX5_number 35 = .ok (.lreturn, 1) := by decide +kernel
theorem dX5_kind_0 : decode cX5_kind 0 = .ok (.iload_n 1, 1) := by decide +kernel
theorem dX5_kind_1 : decode cX5_kind 1 = .ok (.invokestatic 137, 3) := by decide +kernel
theorem dX5_kind_4 : decode cX5_kind 4 = .ok (.ifCond .ne 5, 3) := by decide +kernel
theorem dX5_kind_7 : decode cX5_kind 7 = .ok (.iconst (-1), 1) := by decide +kernel
theorem dX5_kind_8 : decode cX5_kind 8 = .ok (.ireturn, 1) := by decide +kernel
theorem dX5_kind_9 : decode cX5_kind 9 = .ok (.aload_n 0, 1) := by decide +kernel
theorem dX5_kind_10 : decode cX5_kind 10 = .ok (.aload_n 0, 1) := by decide +kernel
theorem dX5_kind_11 : decode cX5_kind 11 = .ok (.iload_n 1, 1) := by decide +kernel
theorem dX5_kind_12 : decode cX5_kind 12 = .ok (.iload_n 2, 1) := by decide +kernel
theorem dX5_kind_13 : decode cX5_kind 13 = .ok (.invokevirtual 113, 3) := by decide +kernel
theorem dX5_kind_16 : decode cX5_kind 16 = .ok (.invokevirtual 141, 3) := by decide +kernel
theorem dX5_kind_19 : decode cX5_kind 19 = .ok (.istore_n 3, 1) := by decide +kernel
theorem dX5_kind_20 : decode cX5_kind 20 = .ok (.iload_n 3, 1) := by decide +kernel
theorem dX5_kind_21 : decode cX5_kind 21 = .ok (.ifCond .le 10, 3) := by decide +kernel
theorem dX5_kind_24 : decode cX5_kind 24 = .ok (.bipush (-10), 2) := by decide +kernel
theorem dX5_kind_26 : decode cX5_kind 26 = .ok (.iload_n 3, 1) := by decide +kernel
theorem dX5_kind_27 : decode cX5_kind 27 = .ok (.isub, 1) := by decide +kernel
theorem dX5_kind_28 : decode cX5_kind 28 = .ok (.goto 14, 3) := by decide +kernel
theorem dX5_kind_31 : decode cX5_kind 31 = .ok (.aload_n 0, 1) := by decide +kernel
theorem dX5_kind_32 : decode cX5_kind 32 = .ok (.aload_n 0, 1) := by decide +kernel
theorem dX5_kind_33 : decode cX5_kind 33 = .ok (.getfield 27, 3) := by decide +kernel
theorem dX5_kind_36 : decode cX5_kind 36 = .ok (.iload_n 1, 1) := by decide +kernel
theorem dX5_kind_37 : decode cX5_kind 37 = .ok (.iaload, 1) := by decide +kernel
theorem dX5_kind_38 : decode cX5_kind 38 = .ok (.iload_n 2, 1) := by decide +kernel
theorem dX5_kind_39 : decode cX5_kind 39 = .ok (.invokevirtual 130, 3) := by decide +kernel
theorem dX5_kind_42 : decode cX5_kind 42 = .ok (.ireturn, 1) := by decide +kernel
theorem dX5_cells_0 : decode cX5_cells 0 = .ok (.iload_n 1, 1) := by decide +kernel
theorem dX5_cells_1 : decode cX5_cells 1 = .ok (.invokestatic 137, 3) := by decide +kernel
theorem dX5_cells_4 : decode cX5_cells 4 = .ok (.ifCond .ne 5, 3) := by decide +kernel
theorem dX5_cells_7 : decode cX5_cells 7 = .ok (.iconst (-1), 1) := by decide +kernel
theorem dX5_cells_8 : decode cX5_cells 8 = .ok (.ireturn, 1) := by decide +kernel
theorem dX5_cells_9 : decode cX5_cells 9 = .ok (.aload_n 0, 1) := by decide +kernel
theorem dX5_cells_10 : decode cX5_cells 10 = .ok (.aload_n 0, 1) := by decide +kernel
theorem dX5_cells_11 : decode cX5_cells 11 = .ok (.iload_n 1, 1) := by decide +kernel
theorem dX5_cells_12 : decode cX5_cells 12 = .ok (.invokevirtual 102, 3) := by decide +kernel
theorem dX5_cells_15 : decode cX5_cells 15 = .ok (.invokevirtual 141, 3) := by decide +kernel
theorem dX5_cells_18 : decode cX5_cells 18 = .ok (.istore_n 2, 1) := by decide +kernel
theorem dX5_cells_19 : decode cX5_cells 19 = .ok (.iload_n 2, 1) := by decide +kernel
theorem dX5_cells_20 : decode cX5_cells 20 = .ok (.ifCond .le 10, 3) := by decide +kernel
theorem dX5_cells_23 : decode cX5_cells 23 = .ok (.bipush (-10), 2) := by decide +kernel
theorem dX5_cells_25 : decode cX5_cells 25 = .ok (.iload_n 2, 1) := by decide +kernel
theorem dX5_cells_26 : decode cX5_cells 26 = .ok (.isub, 1) := by decide +kernel
theorem dX5_cells_27 : decode cX5_cells 27 = .ok (.goto 14, 3) := by decide +kernel
theorem dX5_cells_30 : decode cX5_cells 30 = .ok (.aload_n 0, 1) := by decide +kernel
theorem dX5_cells_31 : decode cX5_cells 31 = .ok (.getfield 13, 3) := by decide +kernel
theorem dX5_cells_34 : decode cX5_cells 34 = .ok (.aload_n 0, 1) := by decide +kernel
theorem dX5_cells_35 : decode cX5_cells 35 = .ok (.getfield 27, 3) := by decide +kernel
theorem dX5_cells_38 : decode cX5_cells 38 = .ok (.iload_n 1, 1) := by decide +kernel
theorem dX5_cells_39 : decode cX5_cells 39 = .ok (.iaload, 1) := by decide +kernel
theorem dX5_cells_40 : decode cX5_cells 40 = .ok (.iaload, 1) := by decide +kernel
theorem dX5_cells_41 : decode cX5_cells 41 = .ok (.ireturn, 1) := by decide +kernel
theorem dX5_of_0 : decode cX5_of 0 = .ok (.iload_n 1, 1) := by decide +kernel
theorem dX5_of_1 : decode cX5_of 1 = .ok (.invokestatic 137, 3) := by decide +kernel
theorem dX5_of_4 : decode cX5_of 4 = .ok (.ifCond .eq 12, 3) := by decide +kernel
theorem dX5_of_7 : decode cX5_of 7 = .ok (.iload_n 2, 1) := by decide +kernel
theorem dX5_of_8 : decode cX5_of 8 = .ok (.iconst 0, 1) := by decide +kernel
theorem dX5_of_9 : decode cX5_of 9 = .ok (.iconst 3, 1) := by decide +kernel
theorem dX5_of_10 : decode cX5_of 10 = .ok (.invokestatic 75, 3) := by decide +kernel
theorem dX5_of_13 : decode cX5_of 13 = .ok (.ifCond .ne 6, 3) := by decide +kernel
theorem dX5_of_16 : decode cX5_of 16 = .ok (.ldc 189, 2) := by decide +kernel
theorem dX5_of_18 : decode cX5_of 18 = .ok (.ireturn, 1) := by decide +kernel
theorem dX5_of_19 : decode cX5_of 19 = .ok (.iload_n 2, 1) := by decide +kernel
theorem dX5_of_20 : decode cX5_of 20 = .ok (.ifCond .ne 12, 3) := by decide +kernel
theorem dX5_of_23 : decode cX5_of 23 = .ok (.aload_n 0, 1) := by decide +kernel
theorem dX5_of_24 : decode cX5_of 24 = .ok (.getfield 30, 3) := by decide +kernel
theorem dX5_of_27 : decode cX5_of 27 = .ok (.iload_n 1, 1) := by decide +kernel
theorem dX5_of_28 : decode cX5_of 28 = .ok (.iaload, 1) := by decide +kernel
theorem dX5_of_29 : decode cX5_of 29 = .ok (.goto 44, 3) := by decide +kernel
theorem dX5_of_32 : decode cX5_of 32 = .ok (.iload_n 2, 1) := by decide +kernel
theorem dX5_of_33 : decode cX5_of 33 = .ok (.iconst 1, 1) := by decide +kernel
theorem dX5_of_34 : decode cX5_of 34 = .ok (.if_icmp .ne 12, 3) := by decide +kernel
theorem dX5_of_37 : decode cX5_of 37 = .ok (.aload_n 0, 1) := by decide +kernel
theorem dX5_of_38 : decode cX5_of 38 = .ok (.getfield 33, 3) := by decide +kernel
theorem dX5_of_41 : decode cX5_of 41 = .ok (.iload_n 1, 1) := by decide +kernel
theorem dX5_of_42 : decode cX5_of 42 = .ok (.iaload, 1) := by decide +kernel
theorem dX5_of_43 : decode cX5_of 43 = .ok (.goto 30, 3) := by decide +kernel
theorem dX5_of_46 : decode cX5_of 46 = .ok (.iload_n 2, 1) := by decide +kernel
theorem dX5_of_47 : decode cX5_of 47 = .ok (.iconst 2, 1) := by decide +kernel
theorem dX5_of_48 : decode cX5_of 48 = .ok (.if_icmp .ne 20, 3) := by decide +kernel
theorem dX5_of_51 : decode cX5_of 51 = .ok (.aload_n 0, 1) := by decide +kernel
theorem dX5_of_52 : decode cX5_of 52 = .ok (.getfield 36, 3) := by decide +kernel
theorem dX5_of_55 : decode cX5_of 55 = .ok (.iload_n 1, 1) := by decide +kernel
theorem dX5_of_56 : decode cX5_of 56 = .ok (.baload, 1) := by decide +kernel
theorem dX5_of_57 : decode cX5_of 57 = .ok (.ifCond .eq 7, 3) := by decide +kernel
theorem dX5_of_60 : decode cX5_of 60 = .ok (.iconst 1, 1) := by decide +kernel
theorem dX5_of_61 : decode cX5_of 61 = .ok (.goto 12, 3) := by decide +kernel
theorem dX5_of_64 : decode cX5_of 64 = .ok (.iconst 0, 1) := by decide +kernel
theorem dX5_of_65 : decode cX5_of 65 = .ok (.goto 8, 3) := by decide +kernel
theorem dX5_of_68 : decode cX5_of 68 = .ok (.aload_n 0, 1) := by decide +kernel
theorem dX5_of_69 : decode cX5_of 69 = .ok (.iload_n 1, 1) := by decide +kernel
theorem dX5_of_70 : decode cX5_of 70 = .ok (.invokevirtual 147, 3) := by decide +kernel
theorem dX5_of_73 : decode cX5_of 73 = .ok (.ireturn, 1) := by decide +kernel
theorem dX5_told_0 : decode cX5_told 0 = .ok (.aload_n 0, 1) := by decide +kernel
theorem dX5_told_1 : decode cX5_told 1 = .ok (.iload_n 1, 1) := by decide +kernel
theorem dX5_told_2 : decode cX5_told 2 = .ok (.invokevirtual 158, 3) := by decide +kernel
theorem dX5_told_5 : decode cX5_told 5 = .ok (.ifCond .ne 5, 3) := by decide +kernel
theorem dX5_told_8 : decode cX5_told 8 = .ok (.iconst (-1), 1) := by decide +kernel
theorem dX5_told_9 : decode cX5_told 9 = .ok (.ireturn, 1) := by decide +kernel
theorem dX5_told_10 : decode cX5_told 10 = .ok (.iload_n 2, 1) := by decide +kernel
theorem dX5_told_11 : decode cX5_told 11 = .ok (.tableswitch 109 0 7 #[45, 52, 59, 66, 81, 88, 95, 102], 45) := by decide +kernel
theorem dX5_told_56 : decode cX5_told 56 = .ok (.aload_n 0, 1) := by decide +kernel
theorem dX5_told_57 : decode cX5_told 57 = .ok (.getfield 39, 3) := by decide +kernel
theorem dX5_told_60 : decode cX5_told 60 = .ok (.iload_n 1, 1) := by decide +kernel
theorem dX5_told_61 : decode cX5_told 61 = .ok (.iaload, 1) := by decide +kernel
theorem dX5_told_62 : decode cX5_told 62 = .ok (.ireturn, 1) := by decide +kernel
theorem dX5_told_63 : decode cX5_told 63 = .ok (.aload_n 0, 1) := by decide +kernel
theorem dX5_told_64 : decode cX5_told 64 = .ok (.getfield 42, 3) := by decide +kernel
theorem dX5_told_67 : decode cX5_told 67 = .ok (.iload_n 1, 1) := by decide +kernel
theorem dX5_told_68 : decode cX5_told 68 = .ok (.iaload, 1) := by decide +kernel
theorem dX5_told_69 : decode cX5_told 69 = .ok (.ireturn, 1) := by decide +kernel
theorem dX5_told_70 : decode cX5_told 70 = .ok (.aload_n 0, 1) := by decide +kernel
theorem dX5_told_71 : decode cX5_told 71 = .ok (.getfield 45, 3) := by decide +kernel
theorem dX5_told_74 : decode cX5_told 74 = .ok (.iload_n 1, 1) := by decide +kernel
theorem dX5_told_75 : decode cX5_told 75 = .ok (.iaload, 1) := by decide +kernel
theorem dX5_told_76 : decode cX5_told 76 = .ok (.ireturn, 1) := by decide +kernel
theorem dX5_told_77 : decode cX5_told 77 = .ok (.aload_n 0, 1) := by decide +kernel
theorem dX5_told_78 : decode cX5_told 78 = .ok (.getfield 48, 3) := by decide +kernel
theorem dX5_told_81 : decode cX5_told 81 = .ok (.iload_n 1, 1) := by decide +kernel
theorem dX5_told_82 : decode cX5_told 82 = .ok (.baload, 1) := by decide +kernel
theorem dX5_told_83 : decode cX5_told 83 = .ok (.ifCond .eq 7, 3) := by decide +kernel
theorem dX5_told_86 : decode cX5_told 86 = .ok (.iconst 1, 1) := by decide +kernel
theorem dX5_told_87 : decode cX5_told 87 = .ok (.goto 4, 3) := by decide +kernel
theorem dX5_told_90 : decode cX5_told 90 = .ok (.iconst 0, 1) := by decide +kernel
theorem dX5_told_91 : decode cX5_told 91 = .ok (.ireturn, 1) := by decide +kernel
theorem dX5_told_92 : decode cX5_told 92 = .ok (.aload_n 0, 1) := by decide +kernel
theorem dX5_told_93 : decode cX5_told 93 = .ok (.getfield 51, 3) := by decide +kernel
theorem dX5_told_96 : decode cX5_told 96 = .ok (.iload_n 1, 1) := by decide +kernel
theorem dX5_told_97 : decode cX5_told 97 = .ok (.iaload, 1) := by decide +kernel
theorem dX5_told_98 : decode cX5_told 98 = .ok (.ireturn, 1) := by decide +kernel
theorem dX5_told_99 : decode cX5_told 99 = .ok (.aload_n 0, 1) := by decide +kernel
theorem dX5_told_100 : decode cX5_told 100 = .ok (.getfield 54, 3) := by decide +kernel
theorem dX5_told_103 : decode cX5_told 103 = .ok (.iload_n 1, 1) := by decide +kernel
theorem dX5_told_104 : decode cX5_told 104 = .ok (.iaload, 1) := by decide +kernel
theorem dX5_told_105 : decode cX5_told 105 = .ok (.ireturn, 1) := by decide +kernel
theorem dX5_told_106 : decode cX5_told 106 = .ok (.aload_n 0, 1) := by decide +kernel
theorem dX5_told_107 : decode cX5_told 107 = .ok (.getfield 57, 3) := by decide +kernel
theorem dX5_told_110 : decode cX5_told 110 = .ok (.iload_n 1, 1) := by decide +kernel
theorem dX5_told_111 : decode cX5_told 111 = .ok (.iaload, 1) := by decide +kernel
theorem dX5_told_112 : decode cX5_told 112 = .ok (.ireturn, 1) := by decide +kernel
theorem dX5_told_113 : decode cX5_told 113 = .ok (.aload_n 0, 1) := by decide +kernel
theorem dX5_told_114 : decode cX5_told 114 = .ok (.getfield 60, 3) := by decide +kernel
theorem dX5_told_117 : decode cX5_told 117 = .ok (.iload_n 1, 1) := by decide +kernel
theorem dX5_told_118 : decode cX5_told 118 = .ok (.iaload, 1) := by decide +kernel
theorem dX5_told_119 : decode cX5_told 119 = .ok (.ireturn, 1) := by decide +kernel
theorem dX5_told_120 : decode cX5_told 120 = .ok (.iconst (-1), 1) := by decide +kernel
theorem dX5_told_121 : decode cX5_told 121 = .ok (.ireturn, 1) := by decide +kernel
theorem dX5_fault_0 : decode cX5_fault 0 = .ok (.iload_n 1, 1) := by decide +kernel
theorem dX5_fault_1 : decode cX5_fault 1 = .ok (.iconst 0, 1) := by decide +kernel
theorem dX5_fault_2 : decode cX5_fault 2 = .ok (.bipush 19, 2) := by decide +kernel
theorem dX5_fault_4 : decode cX5_fault 4 = .ok (.invokestatic 75, 3) := by decide +kernel
theorem dX5_fault_7 : decode cX5_fault 7 = .ok (.ifCond .eq 20, 3) := by decide +kernel
theorem dX5_fault_10 : decode cX5_fault 10 = .ok (.iload_n 1, 1) := by decide +kernel
theorem dX5_fault_11 : decode cX5_fault 11 = .ok (.aload_n 0, 1) := by decide +kernel
theorem dX5_fault_12 : decode cX5_fault 12 = .ok (.getfield 172, 3) := by decide +kernel
theorem dX5_fault_15 : decode cX5_fault 15 = .ok (.if_icmp .ge 12, 3) := by decide +kernel
theorem dX5_fault_18 : decode cX5_fault 18 = .ok (.iload_n 2, 1) := by decide +kernel
theorem dX5_fault_19 : decode cX5_fault 19 = .ok (.iconst 0, 1) := by decide +kernel
theorem dX5_fault_20 : decode cX5_fault 20 = .ok (.iconst 2, 1) := by decide +kernel
theorem dX5_fault_21 : decode cX5_fault 21 = .ok (.invokestatic 75, 3) := by decide +kernel
theorem dX5_fault_24 : decode cX5_fault 24 = .ok (.ifCond .ne 5, 3) := by decide +kernel
theorem dX5_fault_27 : decode cX5_fault 27 = .ok (.iconst (-1), 1) := by decide +kernel
theorem dX5_fault_28 : decode cX5_fault 28 = .ok (.ireturn, 1) := by decide +kernel
theorem dX5_fault_29 : decode cX5_fault 29 = .ok (.aload_n 0, 1) := by decide +kernel
theorem dX5_fault_30 : decode cX5_fault 30 = .ok (.getfield 172, 3) := by decide +kernel
theorem dX5_fault_33 : decode cX5_fault 33 = .ok (.iconst 1, 1) := by decide +kernel
theorem dX5_fault_34 : decode cX5_fault 34 = .ok (.isub, 1) := by decide +kernel
theorem dX5_fault_35 : decode cX5_fault 35 = .ok (.iload_n 1, 1) := by decide +kernel
theorem dX5_fault_36 : decode cX5_fault 36 = .ok (.isub, 1) := by decide +kernel
theorem dX5_fault_37 : decode cX5_fault 37 = .ok (.bipush 20, 2) := by decide +kernel
theorem dX5_fault_39 : decode cX5_fault 39 = .ok (.irem, 1) := by decide +kernel
theorem dX5_fault_40 : decode cX5_fault 40 = .ok (.istore_n 3, 1) := by decide +kernel
theorem dX5_fault_41 : decode cX5_fault 41 = .ok (.iload_n 2, 1) := by decide +kernel
theorem dX5_fault_42 : decode cX5_fault 42 = .ok (.ifCond .ne 12, 3) := by decide +kernel
theorem dX5_fault_45 : decode cX5_fault 45 = .ok (.aload_n 0, 1) := by decide +kernel
theorem dX5_fault_46 : decode cX5_fault 46 = .ok (.getfield 63, 3) := by decide +kernel
theorem dX5_fault_49 : decode cX5_fault 49 = .ok (.iload_n 3, 1) := by decide +kernel
theorem dX5_fault_50 : decode cX5_fault 50 = .ok (.iaload, 1) := by decide +kernel
theorem dX5_fault_51 : decode cX5_fault 51 = .ok (.goto 23, 3) := by decide +kernel
theorem dX5_fault_54 : decode cX5_fault 54 = .ok (.iload_n 2, 1) := by decide +kernel
theorem dX5_fault_55 : decode cX5_fault 55 = .ok (.iconst 1, 1) := by decide +kernel
theorem dX5_fault_56 : decode cX5_fault 56 = .ok (.if_icmp .ne 12, 3) := by decide +kernel
theorem dX5_fault_59 : decode cX5_fault 59 = .ok (.aload_n 0, 1) := by decide +kernel
theorem dX5_fault_60 : decode cX5_fault 60 = .ok (.getfield 66, 3) := by decide +kernel
theorem dX5_fault_63 : decode cX5_fault 63 = .ok (.iload_n 3, 1) := by decide +kernel
theorem dX5_fault_64 : decode cX5_fault 64 = .ok (.iaload, 1) := by decide +kernel
theorem dX5_fault_65 : decode cX5_fault 65 = .ok (.goto 9, 3) := by decide +kernel
theorem dX5_fault_68 : decode cX5_fault 68 = .ok (.aload_n 0, 1) := by decide +kernel
theorem dX5_fault_69 : decode cX5_fault 69 = .ok (.getfield 69, 3) := by decide +kernel
theorem dX5_fault_72 : decode cX5_fault 72 = .ok (.iload_n 3, 1) := by decide +kernel
theorem dX5_fault_73 : decode cX5_fault 73 = .ok (.iaload, 1) := by decide +kernel
theorem dX5_fault_74 : decode cX5_fault 74 = .ok (.ireturn, 1) := by decide +kernel
theorem dX5_count_0 : decode cX5_count 0 = .ok (.iload_n 1, 1) := by decide +kernel
theorem dX5_count_1 : decode cX5_count 1 = .ok (.iconst 0, 1) := by decide +kernel
theorem dX5_count_2 : decode cX5_count 2 = .ok (.bipush 7, 2) := by decide +kernel
theorem dX5_count_4 : decode cX5_count 4 = .ok (.invokestatic 75, 3) := by decide +kernel
theorem dX5_count_7 : decode cX5_count 7 = .ok (.ifCond .ne 5, 3) := by decide +kernel
theorem dX5_count_10 : decode cX5_count 10 = .ok (.iconst (-1), 1) := by decide +kernel
theorem dX5_count_11 : decode cX5_count 11 = .ok (.ireturn, 1) := by decide +kernel
theorem dX5_count_12 : decode cX5_count 12 = .ok (.iload_n 1, 1) := by decide +kernel
theorem dX5_count_13 : decode cX5_count 13 = .ok (.ifCond .ne 10, 3) := by decide +kernel
theorem dX5_count_16 : decode cX5_count 16 = .ok (.aload_n 0, 1) := by decide +kernel
theorem dX5_count_17 : decode cX5_count 17 = .ok (.getfield 79, 3) := by decide +kernel
theorem dX5_count_20 : decode cX5_count 20 = .ok (.goto 35, 3) := by decide +kernel
theorem dX5_count_23 : decode cX5_count 23 = .ok (.iload_n 1, 1) := by decide +kernel
theorem dX5_count_24 : decode cX5_count 24 = .ok (.iconst 1, 1) := by decide +kernel
theorem dX5_count_25 : decode cX5_count 25 = .ok (.if_icmp .ne 10, 3) := by decide +kernel
theorem dX5_count_28 : decode cX5_count 28 = .ok (.aload_n 0, 1) := by decide +kernel
theorem dX5_count_29 : decode cX5_count 29 = .ok (.getfield 175, 3) := by decide +kernel
theorem dX5_count_32 : decode cX5_count 32 = .ok (.goto 23, 3) := by decide +kernel
theorem dX5_count_35 : decode cX5_count 35 = .ok (.iload_n 1, 1) := by decide +kernel
theorem dX5_count_36 : decode cX5_count 36 = .ok (.iconst 2, 1) := by decide +kernel
theorem dX5_count_37 : decode cX5_count 37 = .ok (.if_icmp .ne 10, 3) := by decide +kernel
theorem dX5_count_40 : decode cX5_count 40 = .ok (.aload_n 0, 1) := by decide +kernel
theorem dX5_count_41 : decode cX5_count 41 = .ok (.getfield 172, 3) := by decide +kernel
theorem dX5_count_44 : decode cX5_count 44 = .ok (.goto 11, 3) := by decide +kernel
theorem dX5_count_47 : decode cX5_count 47 = .ok (.aload_n 0, 1) := by decide +kernel
theorem dX5_count_48 : decode cX5_count 48 = .ok (.getfield 72, 3) := by decide +kernel
theorem dX5_count_51 : decode cX5_count 51 = .ok (.iload_n 1, 1) := by decide +kernel
theorem dX5_count_52 : decode cX5_count 52 = .ok (.iconst 2, 1) := by decide +kernel
theorem dX5_count_53 : decode cX5_count 53 = .ok (.isub, 1) := by decide +kernel
theorem dX5_count_54 : decode cX5_count 54 = .ok (.iaload, 1) := by decide +kernel
theorem dX5_count_55 : decode cX5_count 55 = .ok (.ireturn, 1) := by decide +kernel
theorem dJ9_floorMod_7cf53_0 : decode cJ9_floorMod_7cf53 0 = .ok (.iload_n 0, 1) := by decide +kernel
theorem dJ9_floorMod_7cf53_1 : decode cJ9_floorMod_7cf53 1 = .ok (.iload_n 1, 1) := by decide +kernel
theorem dJ9_floorMod_7cf53_2 : decode cJ9_floorMod_7cf53 2 = .ok (.irem, 1) := by decide +kernel
theorem dJ9_floorMod_7cf53_3 : decode cJ9_floorMod_7cf53 3 = .ok (.istore_n 2, 1) := by decide +kernel
theorem dJ9_floorMod_7cf53_4 : decode cJ9_floorMod_7cf53 4 = .ok (.iload_n 0, 1) := by decide +kernel
theorem dJ9_floorMod_7cf53_5 : decode cJ9_floorMod_7cf53 5 = .ok (.iload_n 1, 1) := by decide +kernel
theorem dJ9_floorMod_7cf53_6 : decode cJ9_floorMod_7cf53 6 = .ok (.ixor, 1) := by decide +kernel
theorem dJ9_floorMod_7cf53_7 : decode cJ9_floorMod_7cf53 7 = .ok (.ifCond .ge 11, 3) := by decide +kernel
theorem dJ9_floorMod_7cf53_10 : decode cJ9_floorMod_7cf53 10 = .ok (.iload_n 2, 1) := by decide +kernel
theorem dJ9_floorMod_7cf53_11 : decode cJ9_floorMod_7cf53 11 = .ok (.ifCond .eq 7, 3) := by decide +kernel
theorem dJ9_floorMod_7cf53_14 : decode cJ9_floorMod_7cf53 14 = .ok (.iload_n 2, 1) := by decide +kernel
theorem dJ9_floorMod_7cf53_15 : decode cJ9_floorMod_7cf53 15 = .ok (.iload_n 1, 1) := by decide +kernel
theorem dJ9_floorMod_7cf53_16 : decode cJ9_floorMod_7cf53 16 = .ok (.iadd, 1) := by decide +kernel
theorem dJ9_floorMod_7cf53_17 : decode cJ9_floorMod_7cf53 17 = .ok (.ireturn, 1) := by decide +kernel
theorem dJ9_floorMod_7cf53_18 : decode cJ9_floorMod_7cf53 18 = .ok (.iload_n 2, 1) := by decide +kernel
theorem dJ9_floorMod_7cf53_19 : decode cJ9_floorMod_7cf53 19 = .ok (.ireturn, 1) := by decide +kernel
theorem dJ9_min_7cf53_0 : decode cJ9_min_7cf53 0 = .ok (.iload_n 0, 1) := by decide +kernel
theorem dJ9_min_7cf53_1 : decode cJ9_min_7cf53 1 = .ok (.iload_n 1, 1) := by decide +kernel
theorem dJ9_min_7cf53_2 : decode cJ9_min_7cf53 2 = .ok (.if_icmp .gt 7, 3) := by decide +kernel
theorem dJ9_min_7cf53_5 : decode cJ9_min_7cf53 5 = .ok (.iload_n 0, 1) := by decide +kernel
theorem dJ9_min_7cf53_6 : decode cJ9_min_7cf53 6 = .ok (.goto 4, 3) := by decide +kernel
theorem dJ9_min_7cf53_9 : decode cJ9_min_7cf53 9 = .ok (.iload_n 1, 1) := by decide +kernel
theorem dJ9_min_7cf53_10 : decode cJ9_min_7cf53 10 = .ok (.ireturn, 1) := by decide +kernel
theorem dL_law_0 : decode cL_law 0 = .ok (.new 7, 3) := by decide +kernel
theorem dL_law_3 : decode cL_law 3 = .ok (.dup, 1) := by decide +kernel
theorem dL_law_4 : decode cL_law 4 = .ok (.invokespecial 9, 3) := by decide +kernel
theorem dL_law_7 : decode cL_law 7 = .ok (.astore_n 1, 1) := by decide +kernel
theorem dL_law_8 : decode cL_law 8 = .ok (.new 10, 3) := by decide +kernel
theorem dL_law_11 : decode cL_law 11 = .ok (.dup, 1) := by decide +kernel
theorem dL_law_12 : decode cL_law 12 = .ok (.invokespecial 12, 3) := by decide +kernel
theorem dL_law_15 : decode cL_law 15 = .ok (.astore_n 2, 1) := by decide +kernel
theorem dL_law_16 : decode cL_law 16 = .ok (.iconst 0, 1) := by decide +kernel
theorem dL_law_17 : decode cL_law 17 = .ok (.istore_n 3, 1) := by decide +kernel
theorem dL_law_18 : decode cL_law 18 = .ok (.iload_n 3, 1) := by decide +kernel
theorem dL_law_19 : decode cL_law 19 = .ok (.aload_n 0, 1) := by decide +kernel
theorem dL_law_20 : decode cL_law 20 = .ok (.arraylength, 1) := by decide +kernel
theorem dL_law_21 : decode cL_law 21 = .ok (.bipush 6, 2) := by decide +kernel
theorem dL_law_23 : decode cL_law 23 = .ok (.isub, 1) := by decide +kernel
theorem dL_law_24 : decode cL_law 24 = .ok (.if_icmp .gt 1178, 3) := by decide +kernel
theorem dL_law_27 : decode cL_law 27 = .ok (.aload_n 0, 1) := by decide +kernel
theorem dL_law_28 : decode cL_law 28 = .ok (.iload_n 3, 1) := by decide +kernel
theorem dL_law_29 : decode cL_law 29 = .ok (.iaload, 1) := by decide +kernel
theorem dL_law_30 : decode cL_law 30 = .ok (.bipush 31, 2) := by decide +kernel
theorem dL_law_32 : decode cL_law 32 = .ok (.iand, 1) := by decide +kernel
theorem dL_law_33 : decode cL_law 33 = .ok (.tableswitch 1163 0 28 #[131, 174, 197, 220, 253, 286, 319, 368, 451, 495, 554, 597, 640, 683, 716, 739, 762, 775, 838, 881, 905, 938, 951, 985, 1018, 1041, 1074, 1107, 1140], 131) := by decide +kernel
theorem dL_law_164 : decode cL_law 164 = .ok (.aload_n 1, 1) := by decide +kernel
theorem dL_law_165 : decode cL_law 165 = .ok (.aload_n 0, 1) := by decide +kernel
theorem dL_law_166 : decode cL_law 166 = .ok (.iload_n 3, 1) := by decide +kernel
theorem dL_law_167 : decode cL_law 167 = .ok (.iconst 1, 1) := by decide +kernel
theorem dL_law_168 : decode cL_law 168 = .ok (.iadd, 1) := by decide +kernel
theorem dL_law_169 : decode cL_law 169 = .ok (.iaload, 1) := by decide +kernel
theorem dL_law_170 : decode cL_law 170 = .ok (.aload_n 0, 1) := by decide +kernel
theorem dL_law_171 : decode cL_law 171 = .ok (.iload_n 3, 1) := by decide +kernel
theorem dL_law_172 : decode cL_law 172 = .ok (.iconst 2, 1) := by decide +kernel
theorem dL_law_173 : decode cL_law 173 = .ok (.iadd, 1) := by decide +kernel
theorem dL_law_174 : decode cL_law 174 = .ok (.iaload, 1) := by decide +kernel
theorem dL_law_175 : decode cL_law 175 = .ok (.aload_n 0, 1) := by decide +kernel
theorem dL_law_176 : decode cL_law 176 = .ok (.iload_n 3, 1) := by decide +kernel
theorem dL_law_177 : decode cL_law 177 = .ok (.iconst 3, 1) := by decide +kernel
theorem dL_law_178 : decode cL_law 178 = .ok (.iadd, 1) := by decide +kernel
theorem dL_law_179 : decode cL_law 179 = .ok (.iaload, 1) := by decide +kernel
theorem dL_law_180 : decode cL_law 180 = .ok (.invokevirtual 13, 3) := by decide +kernel
theorem dL_law_183 : decode cL_law 183 = .ok (.aload_n 2, 1) := by decide +kernel
theorem dL_law_184 : decode cL_law 184 = .ok (.aload_n 0, 1) := by decide +kernel
theorem dL_law_185 : decode cL_law 185 = .ok (.iload_n 3, 1) := by decide +kernel
theorem dL_law_186 : decode cL_law 186 = .ok (.iconst 1, 1) := by decide +kernel
theorem dL_law_187 : decode cL_law 187 = .ok (.iadd, 1) := by decide +kernel
theorem dL_law_188 : decode cL_law 188 = .ok (.iaload, 1) := by decide +kernel
theorem dL_law_189 : decode cL_law 189 = .ok (.aload_n 0, 1) := by decide +kernel
theorem dL_law_190 : decode cL_law 190 = .ok (.iload_n 3, 1) := by decide +kernel
theorem dL_law_191 : decode cL_law 191 = .ok (.iconst 2, 1) := by decide +kernel
theorem dL_law_192 : decode cL_law 192 = .ok (.iadd, 1) := by decide +kernel
theorem dL_law_193 : decode cL_law 193 = .ok (.iaload, 1) := by decide +kernel
theorem dL_law_194 : decode cL_law 194 = .ok (.aload_n 0, 1) := by decide +kernel
theorem dL_law_195 : decode cL_law 195 = .ok (.iload_n 3, 1) := by decide +kernel
theorem dL_law_196 : decode cL_law 196 = .ok (.iconst 3, 1) := by decide +kernel
theorem dL_law_197 : decode cL_law 197 = .ok (.iadd, 1) := by decide +kernel
theorem dL_law_198 : decode cL_law 198 = .ok (.iaload, 1) := by decide +kernel
theorem dL_law_199 : decode cL_law 199 = .ok (.invokevirtual 17, 3) := by decide +kernel
theorem dL_law_202 : decode cL_law 202 = .ok (.if_icmp .eq 994, 3) := by decide +kernel
theorem dL_law_205 : decode cL_law 205 = .ok (.iconst 0, 1) := by decide +kernel
theorem dL_law_206 : decode cL_law 206 = .ok (.ireturn, 1) := by decide +kernel
theorem dL_law_207 : decode cL_law 207 = .ok (.aload_n 1, 1) := by decide +kernel
theorem dL_law_208 : decode cL_law 208 = .ok (.aload_n 0, 1) := by decide +kernel
theorem dL_law_209 : decode cL_law 209 = .ok (.iload_n 3, 1) := by decide +kernel
theorem dL_law_210 : decode cL_law 210 = .ok (.iconst 1, 1) := by decide +kernel
theorem dL_law_211 : decode cL_law 211 = .ok (.iadd, 1) := by decide +kernel
theorem dL_law_212 : decode cL_law 212 = .ok (.iaload, 1) := by decide +kernel
theorem dL_law_213 : decode cL_law 213 = .ok (.invokevirtual 18, 3) := by decide +kernel
theorem dL_law_216 : decode cL_law 216 = .ok (.aload_n 2, 1) := by decide +kernel
theorem dL_law_217 : decode cL_law 217 = .ok (.aload_n 0, 1) := by decide +kernel
theorem dL_law_218 : decode cL_law 218 = .ok (.iload_n 3, 1) := by decide +kernel
theorem dL_law_219 : decode cL_law 219 = .ok (.iconst 1, 1) := by decide +kernel
theorem dL_law_220 : decode cL_law 220 = .ok (.iadd, 1) := by decide +kernel
theorem dL_law_221 : decode cL_law 221 = .ok (.iaload, 1) := by decide +kernel
theorem dL_law_222 : decode cL_law 222 = .ok (.invokevirtual 22, 3) := by decide +kernel
theorem dL_law_225 : decode cL_law 225 = .ok (.if_icmp .eq 971, 3) := by decide +kernel
theorem dL_law_228 : decode cL_law 228 = .ok (.iconst 0, 1) := by decide +kernel
theorem dL_law_229 : decode cL_law 229 = .ok (.ireturn, 1) := by decide +kernel
theorem dL_law_230 : decode cL_law 230 = .ok (.aload_n 1, 1) := by decide +kernel
theorem dL_law_231 : decode cL_law 231 = .ok (.aload_n 0, 1) := by decide +kernel
theorem dL_law_232 : decode cL_law 232 = .ok (.iload_n 3, 1) := by decide +kernel
theorem dL_law_233 : decode cL_law 233 = .ok (.iconst 1, 1) := by decide +kernel
theorem dL_law_234 : decode cL_law 234 = .ok (.iadd, 1) := by decide +kernel
theorem dL_law_235 : decode cL_law 235 = .ok (.iaload, 1) := by decide +kernel
theorem dL_law_236 : decode cL_law 236 = .ok (.invokevirtual 23, 3) := by decide +kernel
theorem dL_law_239 : decode cL_law 239 = .ok (.aload_n 2, 1) := by decide +kernel
theorem dL_law_240 : decode cL_law 240 = .ok (.aload_n 0, 1) := by decide +kernel
theorem dL_law_241 : decode cL_law 241 = .ok (.iload_n 3, 1) := by decide +kernel
theorem dL_law_242 : decode cL_law 242 = .ok (.iconst 1, 1) := by decide +kernel
theorem dL_law_243 : decode cL_law 243 = .ok (.iadd, 1) := by decide +kernel
theorem dL_law_244 : decode cL_law 244 = .ok (.iaload, 1) := by decide +kernel
theorem dL_law_245 : decode cL_law 245 = .ok (.invokevirtual 26, 3) := by decide +kernel
theorem dL_law_248 : decode cL_law 248 = .ok (.if_icmp .eq 948, 3) := by decide +kernel
theorem dL_law_251 : decode cL_law 251 = .ok (.iconst 0, 1) := by decide +kernel
theorem dL_law_252 : decode cL_law 252 = .ok (.ireturn, 1) := by decide +kernel
theorem dL_law_253 : decode cL_law 253 = .ok (.aload_n 1, 1) := by decide +kernel
theorem dL_law_254 : decode cL_law 254 = .ok (.aload_n 0, 1) := by decide +kernel
theorem dL_law_255 : decode cL_law 255 = .ok (.iload_n 3, 1) := by decide +kernel
theorem dL_law_256 : decode cL_law 256 = .ok (.iconst 1, 1) := by decide +kernel
theorem dL_law_257 : decode cL_law 257 = .ok (.iadd, 1) := by decide +kernel
theorem dL_law_258 : decode cL_law 258 = .ok (.iaload, 1) := by decide +kernel
theorem dL_law_259 : decode cL_law 259 = .ok (.aload_n 0, 1) := by decide +kernel
theorem dL_law_260 : decode cL_law 260 = .ok (.iload_n 3, 1) := by decide +kernel
theorem dL_law_261 : decode cL_law 261 = .ok (.iconst 2, 1) := by decide +kernel
theorem dL_law_262 : decode cL_law 262 = .ok (.iadd, 1) := by decide +kernel
theorem dL_law_263 : decode cL_law 263 = .ok (.iaload, 1) := by decide +kernel
theorem dL_law_264 : decode cL_law 264 = .ok (.invokevirtual 27, 3) := by decide +kernel
theorem dL_law_267 : decode cL_law 267 = .ok (.aload_n 2, 1) := by decide +kernel
theorem dL_law_268 : decode cL_law 268 = .ok (.aload_n 0, 1) := by decide +kernel
theorem dL_law_269 : decode cL_law 269 = .ok (.iload_n 3, 1) := by decide +kernel
theorem dL_law_270 : decode cL_law 270 = .ok (.iconst 1, 1) := by decide +kernel
theorem dL_law_271 : decode cL_law 271 = .ok (.iadd, 1) := by decide +kernel
theorem dL_law_272 : decode cL_law 272 = .ok (.iaload, 1) := by decide +kernel
theorem dL_law_273 : decode cL_law 273 = .ok (.aload_n 0, 1) := by decide +kernel
theorem dL_law_274 : decode cL_law 274 = .ok (.iload_n 3, 1) := by decide +kernel
theorem dL_law_275 : decode cL_law 275 = .ok (.iconst 2, 1) := by decide +kernel
theorem dL_law_276 : decode cL_law 276 = .ok (.iadd, 1) := by decide +kernel
theorem dL_law_277 : decode cL_law 277 = .ok (.iaload, 1) := by decide +kernel
theorem dL_law_278 : decode cL_law 278 = .ok (.invokevirtual 31, 3) := by decide +kernel
theorem dL_law_281 : decode cL_law 281 = .ok (.if_icmp .eq 915, 3) := by decide +kernel
theorem dL_law_284 : decode cL_law 284 = .ok (.iconst 0, 1) := by decide +kernel
theorem dL_law_285 : decode cL_law 285 = .ok (.ireturn, 1) := by decide +kernel
theorem dL_law_286 : decode cL_law 286 = .ok (.aload_n 1, 1) := by decide +kernel
theorem dL_law_287 : decode cL_law 287 = .ok (.aload_n 0, 1) := by decide +kernel
theorem dL_law_288 : decode cL_law 288 = .ok (.iload_n 3, 1) := by decide +kernel
theorem dL_law_289 : decode cL_law 289 = .ok (.iconst 1, 1) := by decide +kernel
theorem dL_law_290 : decode cL_law 290 = .ok (.iadd, 1) := by decide +kernel
theorem dL_law_291 : decode cL_law 291 = .ok (.iaload, 1) := by decide +kernel
theorem dL_law_292 : decode cL_law 292 = .ok (.aload_n 0, 1) := by decide +kernel
theorem dL_law_293 : decode cL_law 293 = .ok (.iload_n 3, 1) := by decide +kernel
theorem dL_law_294 : decode cL_law 294 = .ok (.iconst 2, 1) := by decide +kernel
theorem dL_law_295 : decode cL_law 295 = .ok (.iadd, 1) := by decide +kernel
theorem dL_law_296 : decode cL_law 296 = .ok (.iaload, 1) := by decide +kernel
theorem dL_law_297 : decode cL_law 297 = .ok (.invokevirtual 32, 3) := by decide +kernel
theorem dL_law_300 : decode cL_law 300 = .ok (.aload_n 2, 1) := by decide +kernel
theorem dL_law_301 : decode cL_law 301 = .ok (.aload_n 0, 1) := by decide +kernel
theorem dL_law_302 : decode cL_law 302 = .ok (.iload_n 3, 1) := by decide +kernel
theorem dL_law_303 : decode cL_law 303 = .ok (.iconst 1, 1) := by decide +kernel
theorem dL_law_304 : decode cL_law 304 = .ok (.iadd, 1) := by decide +kernel
theorem dL_law_305 : decode cL_law 305 = .ok (.iaload, 1) := by decide +kernel
theorem dL_law_306 : decode cL_law 306 = .ok (.aload_n 0, 1) := by decide +kernel
theorem dL_law_307 : decode cL_law 307 = .ok (.iload_n 3, 1) := by decide +kernel
theorem dL_law_308 : decode cL_law 308 = .ok (.iconst 2, 1) := by decide +kernel
theorem dL_law_309 : decode cL_law 309 = .ok (.iadd, 1) := by decide +kernel
theorem dL_law_310 : decode cL_law 310 = .ok (.iaload, 1) := by decide +kernel
theorem dL_law_311 : decode cL_law 311 = .ok (.invokevirtual 35, 3) := by decide +kernel
theorem dL_law_314 : decode cL_law 314 = .ok (.if_icmp .eq 882, 3) := by decide +kernel
theorem dL_law_317 : decode cL_law 317 = .ok (.iconst 0, 1) := by decide +kernel
theorem dL_law_318 : decode cL_law 318 = .ok (.ireturn, 1) := by decide +kernel
theorem dL_law_319 : decode cL_law 319 = .ok (.aload_n 1, 1) := by decide +kernel
theorem dL_law_320 : decode cL_law 320 = .ok (.aload_n 0, 1) := by decide +kernel
theorem dL_law_321 : decode cL_law 321 = .ok (.iload_n 3, 1) := by decide +kernel
theorem dL_law_322 : decode cL_law 322 = .ok (.iconst 1, 1) := by decide +kernel
theorem dL_law_323 : decode cL_law 323 = .ok (.iadd, 1) := by decide +kernel
theorem dL_law_324 : decode cL_law 324 = .ok (.iaload, 1) := by decide +kernel
theorem dL_law_325 : decode cL_law 325 = .ok (.aload_n 0, 1) := by decide +kernel
theorem dL_law_326 : decode cL_law 326 = .ok (.iload_n 3, 1) := by decide +kernel
theorem dL_law_327 : decode cL_law 327 = .ok (.iconst 2, 1) := by decide +kernel
theorem dL_law_328 : decode cL_law 328 = .ok (.iadd, 1) := by decide +kernel
theorem dL_law_329 : decode cL_law 329 = .ok (.iaload, 1) := by decide +kernel
theorem dL_law_330 : decode cL_law 330 = .ok (.invokevirtual 36, 3) := by decide +kernel
theorem dL_law_333 : decode cL_law 333 = .ok (.aload_n 2, 1) := by decide +kernel
theorem dL_law_334 : decode cL_law 334 = .ok (.aload_n 0, 1) := by decide +kernel
theorem dL_law_335 : decode cL_law 335 = .ok (.iload_n 3, 1) := by decide +kernel
theorem dL_law_336 : decode cL_law 336 = .ok (.iconst 1, 1) := by decide +kernel
theorem dL_law_337 : decode cL_law 337 = .ok (.iadd, 1) := by decide +kernel
theorem dL_law_338 : decode cL_law 338 = .ok (.iaload, 1) := by decide +kernel
theorem dL_law_339 : decode cL_law 339 = .ok (.aload_n 0, 1) := by decide +kernel
theorem dL_law_340 : decode cL_law 340 = .ok (.iload_n 3, 1) := by decide +kernel
theorem dL_law_341 : decode cL_law 341 = .ok (.iconst 2, 1) := by decide +kernel
theorem dL_law_342 : decode cL_law 342 = .ok (.iadd, 1) := by decide +kernel
theorem dL_law_343 : decode cL_law 343 = .ok (.iaload, 1) := by decide +kernel
theorem dL_law_344 : decode cL_law 344 = .ok (.invokevirtual 39, 3) := by decide +kernel
theorem dL_law_347 : decode cL_law 347 = .ok (.if_icmp .eq 849, 3) := by decide +kernel
theorem dL_law_350 : decode cL_law 350 = .ok (.iconst 0, 1) := by decide +kernel
theorem dL_law_351 : decode cL_law 351 = .ok (.ireturn, 1) := by decide +kernel
theorem dL_law_352 : decode cL_law 352 = .ok (.aload_n 1, 1) := by decide +kernel
theorem dL_law_353 : decode cL_law 353 = .ok (.aload_n 0, 1) := by decide +kernel
theorem dL_law_354 : decode cL_law 354 = .ok (.iload_n 3, 1) := by decide +kernel
theorem dL_law_355 : decode cL_law 355 = .ok (.iconst 1, 1) := by decide +kernel
theorem dL_law_356 : decode cL_law 356 = .ok (.iadd, 1) := by decide +kernel
theorem dL_law_357 : decode cL_law 357 = .ok (.iaload, 1) := by decide +kernel
theorem dL_law_358 : decode cL_law 358 = .ok (.aload_n 0, 1) := by decide +kernel
theorem dL_law_359 : decode cL_law 359 = .ok (.iload_n 3, 1) := by decide +kernel
theorem dL_law_360 : decode cL_law 360 = .ok (.iconst 2, 1) := by decide +kernel
theorem dL_law_361 : decode cL_law 361 = .ok (.iadd, 1) := by decide +kernel
theorem dL_law_362 : decode cL_law 362 = .ok (.iaload, 1) := by decide +kernel
theorem dL_law_363 : decode cL_law 363 = .ok (.ifCond .eq 7, 3) := by decide +kernel
theorem dL_law_366 : decode cL_law 366 = .ok (.iconst 1, 1) := by decide +kernel
theorem dL_law_367 : decode cL_law 367 = .ok (.goto 4, 3) := by decide +kernel
theorem dL_law_370 : decode cL_law 370 = .ok (.iconst 0, 1) := by decide +kernel
theorem dL_law_371 : decode cL_law 371 = .ok (.invokevirtual 40, 3) := by decide +kernel
theorem dL_law_374 : decode cL_law 374 = .ok (.aload_n 2, 1) := by decide +kernel
theorem dL_law_375 : decode cL_law 375 = .ok (.aload_n 0, 1) := by decide +kernel
theorem dL_law_376 : decode cL_law 376 = .ok (.iload_n 3, 1) := by decide +kernel
theorem dL_law_377 : decode cL_law 377 = .ok (.iconst 1, 1) := by decide +kernel
theorem dL_law_378 : decode cL_law 378 = .ok (.iadd, 1) := by decide +kernel
theorem dL_law_379 : decode cL_law 379 = .ok (.iaload, 1) := by decide +kernel
theorem dL_law_380 : decode cL_law 380 = .ok (.aload_n 0, 1) := by decide +kernel
theorem dL_law_381 : decode cL_law 381 = .ok (.iload_n 3, 1) := by decide +kernel
theorem dL_law_382 : decode cL_law 382 = .ok (.iconst 2, 1) := by decide +kernel
theorem dL_law_383 : decode cL_law 383 = .ok (.iadd, 1) := by decide +kernel
theorem dL_law_384 : decode cL_law 384 = .ok (.iaload, 1) := by decide +kernel
theorem dL_law_385 : decode cL_law 385 = .ok (.ifCond .eq 7, 3) := by decide +kernel
theorem dL_law_388 : decode cL_law 388 = .ok (.iconst 1, 1) := by decide +kernel
theorem dL_law_389 : decode cL_law 389 = .ok (.goto 4, 3) := by decide +kernel
theorem dL_law_392 : decode cL_law 392 = .ok (.iconst 0, 1) := by decide +kernel
theorem dL_law_393 : decode cL_law 393 = .ok (.invokevirtual 44, 3) := by decide +kernel
theorem dL_law_396 : decode cL_law 396 = .ok (.if_icmp .eq 800, 3) := by decide +kernel
theorem dL_law_399 : decode cL_law 399 = .ok (.iconst 0, 1) := by decide +kernel
theorem dL_law_400 : decode cL_law 400 = .ok (.ireturn, 1) := by decide +kernel
theorem dL_law_401 : decode cL_law 401 = .ok (.aload_n 1, 1) := by decide +kernel
theorem dL_law_402 : decode cL_law 402 = .ok (.aload_n 0, 1) := by decide +kernel
theorem dL_law_403 : decode cL_law 403 = .ok (.iload_n 3, 1) := by decide +kernel
theorem dL_law_404 : decode cL_law 404 = .ok (.iconst 1, 1) := by decide +kernel
theorem dL_law_405 : decode cL_law 405 = .ok (.iadd, 1) := by decide +kernel
theorem dL_law_406 : decode cL_law 406 = .ok (.iaload, 1) := by decide +kernel
theorem dL_law_407 : decode cL_law 407 = .ok (.aload_n 0, 1) := by decide +kernel
theorem dL_law_408 : decode cL_law 408 = .ok (.iload_n 3, 1) := by decide +kernel
theorem dL_law_409 : decode cL_law 409 = .ok (.iconst 2, 1) := by decide +kernel
theorem dL_law_410 : decode cL_law 410 = .ok (.iadd, 1) := by decide +kernel
theorem dL_law_411 : decode cL_law 411 = .ok (.iaload, 1) := by decide +kernel
theorem dL_law_412 : decode cL_law 412 = .ok (.aload_n 0, 1) := by decide +kernel
theorem dL_law_413 : decode cL_law 413 = .ok (.iload_n 3, 1) := by decide +kernel
theorem dL_law_414 : decode cL_law 414 = .ok (.iconst 3, 1) := by decide +kernel
theorem dL_law_415 : decode cL_law 415 = .ok (.iadd, 1) := by decide +kernel
theorem dL_law_416 : decode cL_law 416 = .ok (.iaload, 1) := by decide +kernel
theorem dL_law_417 : decode cL_law 417 = .ok (.aload_n 0, 1) := by decide +kernel
theorem dL_law_418 : decode cL_law 418 = .ok (.iload_n 3, 1) := by decide +kernel
theorem dL_law_419 : decode cL_law 419 = .ok (.iconst 4, 1) := by decide +kernel
theorem dL_law_420 : decode cL_law 420 = .ok (.iadd, 1) := by decide +kernel
theorem dL_law_421 : decode cL_law 421 = .ok (.iaload, 1) := by decide +kernel
theorem dL_law_422 : decode cL_law 422 = .ok (.i2l, 1) := by decide +kernel
theorem dL_law_423 : decode cL_law 423 = .ok (.bipush 32, 2) := by decide +kernel
theorem dL_law_425 : decode cL_law 425 = .ok (.lshl, 1) := by decide +kernel
theorem dL_law_426 : decode cL_law 426 = .ok (.aload_n 0, 1) := by decide +kernel
theorem dL_law_427 : decode cL_law 427 = .ok (.iload_n 3, 1) := by decide +kernel
theorem dL_law_428 : decode cL_law 428 = .ok (.iconst 5, 1) := by decide +kernel
theorem dL_law_429 : decode cL_law 429 = .ok (.iadd, 1) := by decide +kernel
theorem dL_law_430 : decode cL_law 430 = .ok (.iaload, 1) := by decide +kernel
theorem dL_law_431 : decode cL_law 431 = .ok (.i2l, 1) := by decide +kernel
theorem dL_law_432 : decode cL_law 432 = .ok (.ldc2_w 45, 3) := by decide +kernel
theorem dL_law_435 : decode cL_law 435 = .ok (.land, 1) := by decide +kernel
theorem dL_law_436 : decode cL_law 436 = .ok (.lor, 1) := by decide +kernel
theorem dL_law_437 : decode cL_law 437 = .ok (.invokevirtual 47, 3) := by decide +kernel
theorem dL_law_440 : decode cL_law 440 = .ok (.aload_n 2, 1) := by decide +kernel
theorem dL_law_441 : decode cL_law 441 = .ok (.aload_n 0, 1) := by decide +kernel
theorem dL_law_442 : decode cL_law 442 = .ok (.iload_n 3, 1) := by decide +kernel
theorem dL_law_443 : decode cL_law 443 = .ok (.iconst 1, 1) := by decide +kernel
theorem dL_law_444 : decode cL_law 444 = .ok (.iadd, 1) := by decide +kernel
theorem dL_law_445 : decode cL_law 445 = .ok (.iaload, 1) := by decide +kernel
theorem dL_law_446 : decode cL_law 446 = .ok (.aload_n 0, 1) := by decide +kernel
theorem dL_law_447 : decode cL_law 447 = .ok (.iload_n 3, 1) := by decide +kernel
theorem dL_law_448 : decode cL_law 448 = .ok (.iconst 2, 1) := by decide +kernel
theorem dL_law_449 : decode cL_law 449 = .ok (.iadd, 1) := by decide +kernel
theorem dL_law_450 : decode cL_law 450 = .ok (.iaload, 1) := by decide +kernel
theorem dL_law_451 : decode cL_law 451 = .ok (.aload_n 0, 1) := by decide +kernel
theorem dL_law_452 : decode cL_law 452 = .ok (.iload_n 3, 1) := by decide +kernel
theorem dL_law_453 : decode cL_law 453 = .ok (.iconst 3, 1) := by decide +kernel
theorem dL_law_454 : decode cL_law 454 = .ok (.iadd, 1) := by decide +kernel
theorem dL_law_455 : decode cL_law 455 = .ok (.iaload, 1) := by decide +kernel
theorem dL_law_456 : decode cL_law 456 = .ok (.aload_n 0, 1) := by decide +kernel
theorem dL_law_457 : decode cL_law 457 = .ok (.iload_n 3, 1) := by decide +kernel
theorem dL_law_458 : decode cL_law 458 = .ok (.iconst 4, 1) := by decide +kernel
theorem dL_law_459 : decode cL_law 459 = .ok (.iadd, 1) := by decide +kernel
theorem dL_law_460 : decode cL_law 460 = .ok (.iaload, 1) := by decide +kernel
theorem dL_law_461 : decode cL_law 461 = .ok (.i2l, 1) := by decide +kernel
theorem dL_law_462 : decode cL_law 462 = .ok (.bipush 32, 2) := by decide +kernel
theorem dL_law_464 : decode cL_law 464 = .ok (.lshl, 1) := by decide +kernel
theorem dL_law_465 : decode cL_law 465 = .ok (.aload_n 0, 1) := by decide +kernel
theorem dL_law_466 : decode cL_law 466 = .ok (.iload_n 3, 1) := by decide +kernel
theorem dL_law_467 : decode cL_law 467 = .ok (.iconst 5, 1) := by decide +kernel
theorem dL_law_468 : decode cL_law 468 = .ok (.iadd, 1) := by decide +kernel
theorem dL_law_469 : decode cL_law 469 = .ok (.iaload, 1) := by decide +kernel
theorem dL_law_470 : decode cL_law 470 = .ok (.i2l, 1) := by decide +kernel
theorem dL_law_471 : decode cL_law 471 = .ok (.ldc2_w 45, 3) := by decide +kernel
theorem dL_law_474 : decode cL_law 474 = .ok (.land, 1) := by decide +kernel
theorem dL_law_475 : decode cL_law 475 = .ok (.lor, 1) := by decide +kernel
theorem dL_law_476 : decode cL_law 476 = .ok (.invokevirtual 51, 3) := by decide +kernel
theorem dL_law_479 : decode cL_law 479 = .ok (.if_icmp .eq 717, 3) := by decide +kernel
theorem dL_law_482 : decode cL_law 482 = .ok (.iconst 0, 1) := by decide +kernel
theorem dL_law_483 : decode cL_law 483 = .ok (.ireturn, 1) := by decide +kernel
theorem dL_law_484 : decode cL_law 484 = .ok (.aload_n 1, 1) := by decide +kernel
theorem dL_law_485 : decode cL_law 485 = .ok (.aload_n 0, 1) := by decide +kernel
theorem dL_law_486 : decode cL_law 486 = .ok (.iload_n 3, 1) := by decide +kernel
theorem dL_law_487 : decode cL_law 487 = .ok (.iconst 1, 1) := by decide +kernel
theorem dL_law_488 : decode cL_law 488 = .ok (.iadd, 1) := by decide +kernel
theorem dL_law_489 : decode cL_law 489 = .ok (.iaload, 1) := by decide +kernel
theorem dL_law_490 : decode cL_law 490 = .ok (.aload_n 0, 1) := by decide +kernel
theorem dL_law_491 : decode cL_law 491 = .ok (.iload_n 3, 1) := by decide +kernel
theorem dL_law_492 : decode cL_law 492 = .ok (.iconst 2, 1) := by decide +kernel
theorem dL_law_493 : decode cL_law 493 = .ok (.iadd, 1) := by decide +kernel
theorem dL_law_494 : decode cL_law 494 = .ok (.iaload, 1) := by decide +kernel
theorem dL_law_495 : decode cL_law 495 = .ok (.aload_n 0, 1) := by decide +kernel
theorem dL_law_496 : decode cL_law 496 = .ok (.iload_n 3, 1) := by decide +kernel
theorem dL_law_497 : decode cL_law 497 = .ok (.iconst 3, 1) := by decide +kernel
theorem dL_law_498 : decode cL_law 498 = .ok (.iadd, 1) := by decide +kernel
theorem dL_law_499 : decode cL_law 499 = .ok (.iaload, 1) := by decide +kernel
theorem dL_law_500 : decode cL_law 500 = .ok (.invokevirtual 52, 3) := by decide +kernel
theorem dL_law_503 : decode cL_law 503 = .ok (.aload_n 2, 1) := by decide +kernel
theorem dL_law_504 : decode cL_law 504 = .ok (.aload_n 0, 1) := by decide +kernel
theorem dL_law_505 : decode cL_law 505 = .ok (.iload_n 3, 1) := by decide +kernel
theorem dL_law_506 : decode cL_law 506 = .ok (.iconst 1, 1) := by decide +kernel
theorem dL_law_507 : decode cL_law 507 = .ok (.iadd, 1) := by decide +kernel
theorem dL_law_508 : decode cL_law 508 = .ok (.iaload, 1) := by decide +kernel
theorem dL_law_509 : decode cL_law 509 = .ok (.aload_n 0, 1) := by decide +kernel
theorem dL_law_510 : decode cL_law 510 = .ok (.iload_n 3, 1) := by decide +kernel
theorem dL_law_511 : decode cL_law 511 = .ok (.iconst 2, 1) := by decide +kernel
theorem dL_law_512 : decode cL_law 512 = .ok (.iadd, 1) := by decide +kernel
theorem dL_law_513 : decode cL_law 513 = .ok (.iaload, 1) := by decide +kernel
theorem dL_law_514 : decode cL_law 514 = .ok (.aload_n 0, 1) := by decide +kernel
theorem dL_law_515 : decode cL_law 515 = .ok (.iload_n 3, 1) := by decide +kernel
theorem dL_law_516 : decode cL_law 516 = .ok (.iconst 3, 1) := by decide +kernel
theorem dL_law_517 : decode cL_law 517 = .ok (.iadd, 1) := by decide +kernel
theorem dL_law_518 : decode cL_law 518 = .ok (.iaload, 1) := by decide +kernel
theorem dL_law_519 : decode cL_law 519 = .ok (.invokevirtual 56, 3) := by decide +kernel
theorem dL_law_522 : decode cL_law 522 = .ok (.lcmp, 1) := by decide +kernel
theorem dL_law_523 : decode cL_law 523 = .ok (.ifCond .eq 673, 3) := by decide +kernel
theorem dL_law_526 : decode cL_law 526 = .ok (.iconst 0, 1) := by decide +kernel
theorem dL_law_527 : decode cL_law 527 = .ok (.ireturn, 1) := by decide +kernel
theorem dL_law_528 : decode cL_law 528 = .ok (.aload_n 1, 1) := by decide +kernel
theorem dL_law_529 : decode cL_law 529 = .ok (.aload_n 0, 1) := by decide +kernel
theorem dL_law_530 : decode cL_law 530 = .ok (.iload_n 3, 1) := by decide +kernel
theorem dL_law_531 : decode cL_law 531 = .ok (.iconst 1, 1) := by decide +kernel
theorem dL_law_532 : decode cL_law 532 = .ok (.iadd, 1) := by decide +kernel
theorem dL_law_533 : decode cL_law 533 = .ok (.iaload, 1) := by decide +kernel
theorem dL_law_534 : decode cL_law 534 = .ok (.aload_n 0, 1) := by decide +kernel
theorem dL_law_535 : decode cL_law 535 = .ok (.iload_n 3, 1) := by decide +kernel
theorem dL_law_536 : decode cL_law 536 = .ok (.iconst 2, 1) := by decide +kernel
theorem dL_law_537 : decode cL_law 537 = .ok (.iadd, 1) := by decide +kernel
theorem dL_law_538 : decode cL_law 538 = .ok (.iaload, 1) := by decide +kernel
theorem dL_law_539 : decode cL_law 539 = .ok (.aload_n 0, 1) := by decide +kernel
theorem dL_law_540 : decode cL_law 540 = .ok (.iload_n 3, 1) := by decide +kernel
theorem dL_law_541 : decode cL_law 541 = .ok (.iconst 3, 1) := by decide +kernel
theorem dL_law_542 : decode cL_law 542 = .ok (.iadd, 1) := by decide +kernel
theorem dL_law_543 : decode cL_law 543 = .ok (.iaload, 1) := by decide +kernel
theorem dL_law_544 : decode cL_law 544 = .ok (.ifCond .eq 7, 3) := by decide +kernel
theorem dL_law_547 : decode cL_law 547 = .ok (.iconst 1, 1) := by decide +kernel
theorem dL_law_548 : decode cL_law 548 = .ok (.goto 4, 3) := by decide +kernel
theorem dL_law_551 : decode cL_law 551 = .ok (.iconst 0, 1) := by decide +kernel
theorem dL_law_552 : decode cL_law 552 = .ok (.invokevirtual 57, 3) := by decide +kernel
theorem dL_law_555 : decode cL_law 555 = .ok (.aload_n 2, 1) := by decide +kernel
theorem dL_law_556 : decode cL_law 556 = .ok (.aload_n 0, 1) := by decide +kernel
theorem dL_law_557 : decode cL_law 557 = .ok (.iload_n 3, 1) := by decide +kernel
theorem dL_law_558 : decode cL_law 558 = .ok (.iconst 1, 1) := by decide +kernel
theorem dL_law_559 : decode cL_law 559 = .ok (.iadd, 1) := by decide +kernel
theorem dL_law_560 : decode cL_law 560 = .ok (.iaload, 1) := by decide +kernel
theorem dL_law_561 : decode cL_law 561 = .ok (.aload_n 0, 1) := by decide +kernel
theorem dL_law_562 : decode cL_law 562 = .ok (.iload_n 3, 1) := by decide +kernel
theorem dL_law_563 : decode cL_law 563 = .ok (.iconst 2, 1) := by decide +kernel
theorem dL_law_564 : decode cL_law 564 = .ok (.iadd, 1) := by decide +kernel
theorem dL_law_565 : decode cL_law 565 = .ok (.iaload, 1) := by decide +kernel
theorem dL_law_566 : decode cL_law 566 = .ok (.aload_n 0, 1) := by decide +kernel
theorem dL_law_567 : decode cL_law 567 = .ok (.iload_n 3, 1) := by decide +kernel
theorem dL_law_568 : decode cL_law 568 = .ok (.iconst 3, 1) := by decide +kernel
theorem dL_law_569 : decode cL_law 569 = .ok (.iadd, 1) := by decide +kernel
theorem dL_law_570 : decode cL_law 570 = .ok (.iaload, 1) := by decide +kernel
theorem dL_law_571 : decode cL_law 571 = .ok (.ifCond .eq 7, 3) := by decide +kernel
theorem dL_law_574 : decode cL_law 574 = .ok (.iconst 1, 1) := by decide +kernel
theorem dL_law_575 : decode cL_law 575 = .ok (.goto 4, 3) := by decide +kernel
theorem dL_law_578 : decode cL_law 578 = .ok (.iconst 0, 1) := by decide +kernel
theorem dL_law_579 : decode cL_law 579 = .ok (.invokevirtual 61, 3) := by decide +kernel
theorem dL_law_582 : decode cL_law 582 = .ok (.if_icmp .eq 614, 3) := by decide +kernel
theorem dL_law_585 : decode cL_law 585 = .ok (.iconst 0, 1) := by decide +kernel
theorem dL_law_586 : decode cL_law 586 = .ok (.ireturn, 1) := by decide +kernel
theorem dL_law_587 : decode cL_law 587 = .ok (.aload_n 1, 1) := by decide +kernel
theorem dL_law_588 : decode cL_law 588 = .ok (.aload_n 0, 1) := by decide +kernel
theorem dL_law_589 : decode cL_law 589 = .ok (.iload_n 3, 1) := by decide +kernel
theorem dL_law_590 : decode cL_law 590 = .ok (.iconst 1, 1) := by decide +kernel
theorem dL_law_591 : decode cL_law 591 = .ok (.iadd, 1) := by decide +kernel
theorem dL_law_592 : decode cL_law 592 = .ok (.iaload, 1) := by decide +kernel
theorem dL_law_593 : decode cL_law 593 = .ok (.aload_n 0, 1) := by decide +kernel
theorem dL_law_594 : decode cL_law 594 = .ok (.iload_n 3, 1) := by decide +kernel
theorem dL_law_595 : decode cL_law 595 = .ok (.iconst 2, 1) := by decide +kernel
theorem dL_law_596 : decode cL_law 596 = .ok (.iadd, 1) := by decide +kernel
theorem dL_law_597 : decode cL_law 597 = .ok (.iaload, 1) := by decide +kernel
theorem dL_law_598 : decode cL_law 598 = .ok (.aload_n 0, 1) := by decide +kernel
theorem dL_law_599 : decode cL_law 599 = .ok (.iload_n 3, 1) := by decide +kernel
theorem dL_law_600 : decode cL_law 600 = .ok (.iconst 3, 1) := by decide +kernel
theorem dL_law_601 : decode cL_law 601 = .ok (.iadd, 1) := by decide +kernel
theorem dL_law_602 : decode cL_law 602 = .ok (.iaload, 1) := by decide +kernel
theorem dL_law_603 : decode cL_law 603 = .ok (.invokevirtual 62, 3) := by decide +kernel
theorem dL_law_606 : decode cL_law 606 = .ok (.aload_n 2, 1) := by decide +kernel
theorem dL_law_607 : decode cL_law 607 = .ok (.aload_n 0, 1) := by decide +kernel
theorem dL_law_608 : decode cL_law 608 = .ok (.iload_n 3, 1) := by decide +kernel
theorem dL_law_609 : decode cL_law 609 = .ok (.iconst 1, 1) := by decide +kernel
theorem dL_law_610 : decode cL_law 610 = .ok (.iadd, 1) := by decide +kernel
theorem dL_law_611 : decode cL_law 611 = .ok (.iaload, 1) := by decide +kernel
theorem dL_law_612 : decode cL_law 612 = .ok (.aload_n 0, 1) := by decide +kernel
theorem dL_law_613 : decode cL_law 613 = .ok (.iload_n 3, 1) := by decide +kernel
theorem dL_law_614 : decode cL_law 614 = .ok (.iconst 2, 1) := by decide +kernel
theorem dL_law_615 : decode cL_law 615 = .ok (.iadd, 1) := by decide +kernel
theorem dL_law_616 : decode cL_law 616 = .ok (.iaload, 1) := by decide +kernel
theorem dL_law_617 : decode cL_law 617 = .ok (.aload_n 0, 1) := by decide +kernel
theorem dL_law_618 : decode cL_law 618 = .ok (.iload_n 3, 1) := by decide +kernel
theorem dL_law_619 : decode cL_law 619 = .ok (.iconst 3, 1) := by decide +kernel
theorem dL_law_620 : decode cL_law 620 = .ok (.iadd, 1) := by decide +kernel
theorem dL_law_621 : decode cL_law 621 = .ok (.iaload, 1) := by decide +kernel
theorem dL_law_622 : decode cL_law 622 = .ok (.invokevirtual 65, 3) := by decide +kernel
theorem dL_law_625 : decode cL_law 625 = .ok (.if_icmp .eq 571, 3) := by decide +kernel
theorem dL_law_628 : decode cL_law 628 = .ok (.iconst 0, 1) := by decide +kernel
theorem dL_law_629 : decode cL_law 629 = .ok (.ireturn, 1) := by decide +kernel
theorem dL_law_630 : decode cL_law 630 = .ok (.aload_n 1, 1) := by decide +kernel
theorem dL_law_631 : decode cL_law 631 = .ok (.aload_n 0, 1) := by decide +kernel
theorem dL_law_632 : decode cL_law 632 = .ok (.iload_n 3, 1) := by decide +kernel
theorem dL_law_633 : decode cL_law 633 = .ok (.iconst 1, 1) := by decide +kernel
theorem dL_law_634 : decode cL_law 634 = .ok (.iadd, 1) := by decide +kernel
theorem dL_law_635 : decode cL_law 635 = .ok (.iaload, 1) := by decide +kernel
theorem dL_law_636 : decode cL_law 636 = .ok (.aload_n 0, 1) := by decide +kernel
theorem dL_law_637 : decode cL_law 637 = .ok (.iload_n 3, 1) := by decide +kernel
theorem dL_law_638 : decode cL_law 638 = .ok (.iconst 2, 1) := by decide +kernel
theorem dL_law_639 : decode cL_law 639 = .ok (.iadd, 1) := by decide +kernel
theorem dL_law_640 : decode cL_law 640 = .ok (.iaload, 1) := by decide +kernel
theorem dL_law_641 : decode cL_law 641 = .ok (.aload_n 0, 1) := by decide +kernel
theorem dL_law_642 : decode cL_law 642 = .ok (.iload_n 3, 1) := by decide +kernel
theorem dL_law_643 : decode cL_law 643 = .ok (.iconst 3, 1) := by decide +kernel
theorem dL_law_644 : decode cL_law 644 = .ok (.iadd, 1) := by decide +kernel
theorem dL_law_645 : decode cL_law 645 = .ok (.iaload, 1) := by decide +kernel
theorem dL_law_646 : decode cL_law 646 = .ok (.invokevirtual 66, 3) := by decide +kernel
theorem dL_law_649 : decode cL_law 649 = .ok (.aload_n 2, 1) := by decide +kernel
theorem dL_law_650 : decode cL_law 650 = .ok (.aload_n 0, 1) := by decide +kernel
theorem dL_law_651 : decode cL_law 651 = .ok (.iload_n 3, 1) := by decide +kernel
theorem dL_law_652 : decode cL_law 652 = .ok (.iconst 1, 1) := by decide +kernel
theorem dL_law_653 : decode cL_law 653 = .ok (.iadd, 1) := by decide +kernel
theorem dL_law_654 : decode cL_law 654 = .ok (.iaload, 1) := by decide +kernel
theorem dL_law_655 : decode cL_law 655 = .ok (.aload_n 0, 1) := by decide +kernel
theorem dL_law_656 : decode cL_law 656 = .ok (.iload_n 3, 1) := by decide +kernel
theorem dL_law_657 : decode cL_law 657 = .ok (.iconst 2, 1) := by decide +kernel
theorem dL_law_658 : decode cL_law 658 = .ok (.iadd, 1) := by decide +kernel
theorem dL_law_659 : decode cL_law 659 = .ok (.iaload, 1) := by decide +kernel
theorem dL_law_660 : decode cL_law 660 = .ok (.aload_n 0, 1) := by decide +kernel
theorem dL_law_661 : decode cL_law 661 = .ok (.iload_n 3, 1) := by decide +kernel
theorem dL_law_662 : decode cL_law 662 = .ok (.iconst 3, 1) := by decide +kernel
theorem dL_law_663 : decode cL_law 663 = .ok (.iadd, 1) := by decide +kernel
theorem dL_law_664 : decode cL_law 664 = .ok (.iaload, 1) := by decide +kernel
theorem dL_law_665 : decode cL_law 665 = .ok (.invokevirtual 69, 3) := by decide +kernel
theorem dL_law_668 : decode cL_law 668 = .ok (.if_icmp .eq 528, 3) := by decide +kernel
theorem dL_law_671 : decode cL_law 671 = .ok (.iconst 0, 1) := by decide +kernel
theorem dL_law_672 : decode cL_law 672 = .ok (.ireturn, 1) := by decide +kernel
theorem dL_law_673 : decode cL_law 673 = .ok (.aload_n 1, 1) := by decide +kernel
theorem dL_law_674 : decode cL_law 674 = .ok (.aload_n 0, 1) := by decide +kernel
theorem dL_law_675 : decode cL_law 675 = .ok (.iload_n 3, 1) := by decide +kernel
theorem dL_law_676 : decode cL_law 676 = .ok (.iconst 1, 1) := by decide +kernel
theorem dL_law_677 : decode cL_law 677 = .ok (.iadd, 1) := by decide +kernel
theorem dL_law_678 : decode cL_law 678 = .ok (.iaload, 1) := by decide +kernel
theorem dL_law_679 : decode cL_law 679 = .ok (.aload_n 0, 1) := by decide +kernel
theorem dL_law_680 : decode cL_law 680 = .ok (.iload_n 3, 1) := by decide +kernel
theorem dL_law_681 : decode cL_law 681 = .ok (.iconst 2, 1) := by decide +kernel
theorem dL_law_682 : decode cL_law 682 = .ok (.iadd, 1) := by decide +kernel
theorem dL_law_683 : decode cL_law 683 = .ok (.iaload, 1) := by decide +kernel
theorem dL_law_684 : decode cL_law 684 = .ok (.aload_n 0, 1) := by decide +kernel
theorem dL_law_685 : decode cL_law 685 = .ok (.iload_n 3, 1) := by decide +kernel
theorem dL_law_686 : decode cL_law 686 = .ok (.iconst 3, 1) := by decide +kernel
theorem dL_law_687 : decode cL_law 687 = .ok (.iadd, 1) := by decide +kernel
theorem dL_law_688 : decode cL_law 688 = .ok (.iaload, 1) := by decide +kernel
theorem dL_law_689 : decode cL_law 689 = .ok (.invokevirtual 70, 3) := by decide +kernel
theorem dL_law_692 : decode cL_law 692 = .ok (.aload_n 2, 1) := by decide +kernel
theorem dL_law_693 : decode cL_law 693 = .ok (.aload_n 0, 1) := by decide +kernel
theorem dL_law_694 : decode cL_law 694 = .ok (.iload_n 3, 1) := by decide +kernel
theorem dL_law_695 : decode cL_law 695 = .ok (.iconst 1, 1) := by decide +kernel
theorem dL_law_696 : decode cL_law 696 = .ok (.iadd, 1) := by decide +kernel
theorem dL_law_697 : decode cL_law 697 = .ok (.iaload, 1) := by decide +kernel
theorem dL_law_698 : decode cL_law 698 = .ok (.aload_n 0, 1) := by decide +kernel
theorem dL_law_699 : decode cL_law 699 = .ok (.iload_n 3, 1) := by decide +kernel
theorem dL_law_700 : decode cL_law 700 = .ok (.iconst 2, 1) := by decide +kernel
theorem dL_law_701 : decode cL_law 701 = .ok (.iadd, 1) := by decide +kernel
theorem dL_law_702 : decode cL_law 702 = .ok (.iaload, 1) := by decide +kernel
theorem dL_law_703 : decode cL_law 703 = .ok (.aload_n 0, 1) := by decide +kernel
theorem dL_law_704 : decode cL_law 704 = .ok (.iload_n 3, 1) := by decide +kernel
theorem dL_law_705 : decode cL_law 705 = .ok (.iconst 3, 1) := by decide +kernel
theorem dL_law_706 : decode cL_law 706 = .ok (.iadd, 1) := by decide +kernel
theorem dL_law_707 : decode cL_law 707 = .ok (.iaload, 1) := by decide +kernel
theorem dL_law_708 : decode cL_law 708 = .ok (.invokevirtual 73, 3) := by decide +kernel
theorem dL_law_711 : decode cL_law 711 = .ok (.if_icmp .eq 485, 3) := by decide +kernel
theorem dL_law_714 : decode cL_law 714 = .ok (.iconst 0, 1) := by decide +kernel
theorem dL_law_715 : decode cL_law 715 = .ok (.ireturn, 1) := by decide +kernel
theorem dL_law_716 : decode cL_law 716 = .ok (.aload_n 1, 1) := by decide +kernel
theorem dL_law_717 : decode cL_law 717 = .ok (.aload_n 0, 1) := by decide +kernel
theorem dL_law_718 : decode cL_law 718 = .ok (.iload_n 3, 1) := by decide +kernel
theorem dL_law_719 : decode cL_law 719 = .ok (.iconst 1, 1) := by decide +kernel
theorem dL_law_720 : decode cL_law 720 = .ok (.iadd, 1) := by decide +kernel
theorem dL_law_721 : decode cL_law 721 = .ok (.iaload, 1) := by decide +kernel
theorem dL_law_722 : decode cL_law 722 = .ok (.aload_n 0, 1) := by decide +kernel
theorem dL_law_723 : decode cL_law 723 = .ok (.iload_n 3, 1) := by decide +kernel
theorem dL_law_724 : decode cL_law 724 = .ok (.iconst 2, 1) := by decide +kernel
theorem dL_law_725 : decode cL_law 725 = .ok (.iadd, 1) := by decide +kernel
theorem dL_law_726 : decode cL_law 726 = .ok (.iaload, 1) := by decide +kernel
theorem dL_law_727 : decode cL_law 727 = .ok (.invokevirtual 74, 3) := by decide +kernel
theorem dL_law_730 : decode cL_law 730 = .ok (.aload_n 2, 1) := by decide +kernel
theorem dL_law_731 : decode cL_law 731 = .ok (.aload_n 0, 1) := by decide +kernel
theorem dL_law_732 : decode cL_law 732 = .ok (.iload_n 3, 1) := by decide +kernel
theorem dL_law_733 : decode cL_law 733 = .ok (.iconst 1, 1) := by decide +kernel
theorem dL_law_734 : decode cL_law 734 = .ok (.iadd, 1) := by decide +kernel
theorem dL_law_735 : decode cL_law 735 = .ok (.iaload, 1) := by decide +kernel
theorem dL_law_736 : decode cL_law 736 = .ok (.aload_n 0, 1) := by decide +kernel
theorem dL_law_737 : decode cL_law 737 = .ok (.iload_n 3, 1) := by decide +kernel
theorem dL_law_738 : decode cL_law 738 = .ok (.iconst 2, 1) := by decide +kernel
theorem dL_law_739 : decode cL_law 739 = .ok (.iadd, 1) := by decide +kernel
theorem dL_law_740 : decode cL_law 740 = .ok (.iaload, 1) := by decide +kernel
theorem dL_law_741 : decode cL_law 741 = .ok (.invokevirtual 77, 3) := by decide +kernel
theorem dL_law_744 : decode cL_law 744 = .ok (.if_icmp .eq 452, 3) := by decide +kernel
theorem dL_law_747 : decode cL_law 747 = .ok (.iconst 0, 1) := by decide +kernel
theorem dL_law_748 : decode cL_law 748 = .ok (.ireturn, 1) := by decide +kernel
theorem dL_law_749 : decode cL_law 749 = .ok (.aload_n 1, 1) := by decide +kernel
theorem dL_law_750 : decode cL_law 750 = .ok (.aload_n 0, 1) := by decide +kernel
theorem dL_law_751 : decode cL_law 751 = .ok (.iload_n 3, 1) := by decide +kernel
theorem dL_law_752 : decode cL_law 752 = .ok (.iconst 1, 1) := by decide +kernel
theorem dL_law_753 : decode cL_law 753 = .ok (.iadd, 1) := by decide +kernel
theorem dL_law_754 : decode cL_law 754 = .ok (.iaload, 1) := by decide +kernel
theorem dL_law_755 : decode cL_law 755 = .ok (.invokevirtual 78, 3) := by decide +kernel
theorem dL_law_758 : decode cL_law 758 = .ok (.aload_n 2, 1) := by decide +kernel
theorem dL_law_759 : decode cL_law 759 = .ok (.aload_n 0, 1) := by decide +kernel
theorem dL_law_760 : decode cL_law 760 = .ok (.iload_n 3, 1) := by decide +kernel
theorem dL_law_761 : decode cL_law 761 = .ok (.iconst 1, 1) := by decide +kernel
theorem dL_law_762 : decode cL_law 762 = .ok (.iadd, 1) := by decide +kernel
theorem dL_law_763 : decode cL_law 763 = .ok (.iaload, 1) := by decide +kernel
theorem dL_law_764 : decode cL_law 764 = .ok (.invokevirtual 81, 3) := by decide +kernel
theorem dL_law_767 : decode cL_law 767 = .ok (.if_icmp .eq 429, 3) := by decide +kernel
theorem dL_law_770 : decode cL_law 770 = .ok (.iconst 0, 1) := by decide +kernel
theorem dL_law_771 : decode cL_law 771 = .ok (.ireturn, 1) := by decide +kernel
theorem dL_law_772 : decode cL_law 772 = .ok (.aload_n 1, 1) := by decide +kernel
theorem dL_law_773 : decode cL_law 773 = .ok (.aload_n 0, 1) := by decide +kernel
theorem dL_law_774 : decode cL_law 774 = .ok (.iload_n 3, 1) := by decide +kernel
theorem dL_law_775 : decode cL_law 775 = .ok (.iconst 1, 1) := by decide +kernel
theorem dL_law_776 : decode cL_law 776 = .ok (.iadd, 1) := by decide +kernel
theorem dL_law_777 : decode cL_law 777 = .ok (.iaload, 1) := by decide +kernel
theorem dL_law_778 : decode cL_law 778 = .ok (.invokevirtual 82, 3) := by decide +kernel
theorem dL_law_781 : decode cL_law 781 = .ok (.aload_n 2, 1) := by decide +kernel
theorem dL_law_782 : decode cL_law 782 = .ok (.aload_n 0, 1) := by decide +kernel
theorem dL_law_783 : decode cL_law 783 = .ok (.iload_n 3, 1) := by decide +kernel
theorem dL_law_784 : decode cL_law 784 = .ok (.iconst 1, 1) := by decide +kernel
theorem dL_law_785 : decode cL_law 785 = .ok (.iadd, 1) := by decide +kernel
theorem dL_law_786 : decode cL_law 786 = .ok (.iaload, 1) := by decide +kernel
theorem dL_law_787 : decode cL_law 787 = .ok (.invokevirtual 85, 3) := by decide +kernel
theorem dL_law_790 : decode cL_law 790 = .ok (.if_icmp .eq 406, 3) := by decide +kernel
theorem dL_law_793 : decode cL_law 793 = .ok (.iconst 0, 1) := by decide +kernel
theorem dL_law_794 : decode cL_law 794 = .ok (.ireturn, 1) := by decide +kernel
theorem dL_law_795 : decode cL_law 795 = .ok (.aload_n 1, 1) := by decide +kernel
theorem dL_law_796 : decode cL_law 796 = .ok (.invokevirtual 86, 3) := by decide +kernel
theorem dL_law_799 : decode cL_law 799 = .ok (.aload_n 2, 1) := by decide +kernel
theorem dL_law_800 : decode cL_law 800 = .ok (.invokevirtual 90, 3) := by decide +kernel
theorem dL_law_803 : decode cL_law 803 = .ok (.if_icmp .eq 393, 3) := by decide +kernel
theorem dL_law_806 : decode cL_law 806 = .ok (.iconst 0, 1) := by decide +kernel
theorem dL_law_807 : decode cL_law 807 = .ok (.ireturn, 1) := by decide +kernel
theorem dL_law_808 : decode cL_law 808 = .ok (.aload_n 1, 1) := by decide +kernel
theorem dL_law_809 : decode cL_law 809 = .ok (.aload_n 0, 1) := by decide +kernel
theorem dL_law_810 : decode cL_law 810 = .ok (.iload_n 3, 1) := by decide +kernel
theorem dL_law_811 : decode cL_law 811 = .ok (.iconst 1, 1) := by decide +kernel
theorem dL_law_812 : decode cL_law 812 = .ok (.iadd, 1) := by decide +kernel
theorem dL_law_813 : decode cL_law 813 = .ok (.iaload, 1) := by decide +kernel
theorem dL_law_814 : decode cL_law 814 = .ok (.aload_n 0, 1) := by decide +kernel
theorem dL_law_815 : decode cL_law 815 = .ok (.iload_n 3, 1) := by decide +kernel
theorem dL_law_816 : decode cL_law 816 = .ok (.iconst 2, 1) := by decide +kernel
theorem dL_law_817 : decode cL_law 817 = .ok (.iadd, 1) := by decide +kernel
theorem dL_law_818 : decode cL_law 818 = .ok (.iaload, 1) := by decide +kernel
theorem dL_law_819 : decode cL_law 819 = .ok (.aload_n 0, 1) := by decide +kernel
theorem dL_law_820 : decode cL_law 820 = .ok (.iload_n 3, 1) := by decide +kernel
theorem dL_law_821 : decode cL_law 821 = .ok (.iconst 3, 1) := by decide +kernel
theorem dL_law_822 : decode cL_law 822 = .ok (.iadd, 1) := by decide +kernel
theorem dL_law_823 : decode cL_law 823 = .ok (.iaload, 1) := by decide +kernel
theorem dL_law_824 : decode cL_law 824 = .ok (.aload_n 0, 1) := by decide +kernel
theorem dL_law_825 : decode cL_law 825 = .ok (.iload_n 3, 1) := by decide +kernel
theorem dL_law_826 : decode cL_law 826 = .ok (.iconst 4, 1) := by decide +kernel
theorem dL_law_827 : decode cL_law 827 = .ok (.iadd, 1) := by decide +kernel
theorem dL_law_828 : decode cL_law 828 = .ok (.iaload, 1) := by decide +kernel
theorem dL_law_829 : decode cL_law 829 = .ok (.aload_n 0, 1) := by decide +kernel
theorem dL_law_830 : decode cL_law 830 = .ok (.iload_n 3, 1) := by decide +kernel
theorem dL_law_831 : decode cL_law 831 = .ok (.iconst 5, 1) := by decide +kernel
theorem dL_law_832 : decode cL_law 832 = .ok (.iadd, 1) := by decide +kernel
theorem dL_law_833 : decode cL_law 833 = .ok (.iaload, 1) := by decide +kernel
theorem dL_law_834 : decode cL_law 834 = .ok (.invokevirtual 91, 3) := by decide +kernel
theorem dL_law_837 : decode cL_law 837 = .ok (.aload_n 2, 1) := by decide +kernel
theorem dL_law_838 : decode cL_law 838 = .ok (.aload_n 0, 1) := by decide +kernel
theorem dL_law_839 : decode cL_law 839 = .ok (.iload_n 3, 1) := by decide +kernel
theorem dL_law_840 : decode cL_law 840 = .ok (.iconst 1, 1) := by decide +kernel
theorem dL_law_841 : decode cL_law 841 = .ok (.iadd, 1) := by decide +kernel
theorem dL_law_842 : decode cL_law 842 = .ok (.iaload, 1) := by decide +kernel
theorem dL_law_843 : decode cL_law 843 = .ok (.aload_n 0, 1) := by decide +kernel
theorem dL_law_844 : decode cL_law 844 = .ok (.iload_n 3, 1) := by decide +kernel
theorem dL_law_845 : decode cL_law 845 = .ok (.iconst 2, 1) := by decide +kernel
theorem dL_law_846 : decode cL_law 846 = .ok (.iadd, 1) := by decide +kernel
theorem dL_law_847 : decode cL_law 847 = .ok (.iaload, 1) := by decide +kernel
theorem dL_law_848 : decode cL_law 848 = .ok (.aload_n 0, 1) := by decide +kernel
theorem dL_law_849 : decode cL_law 849 = .ok (.iload_n 3, 1) := by decide +kernel
theorem dL_law_850 : decode cL_law 850 = .ok (.iconst 3, 1) := by decide +kernel
theorem dL_law_851 : decode cL_law 851 = .ok (.iadd, 1) := by decide +kernel
theorem dL_law_852 : decode cL_law 852 = .ok (.iaload, 1) := by decide +kernel
theorem dL_law_853 : decode cL_law 853 = .ok (.aload_n 0, 1) := by decide +kernel
theorem dL_law_854 : decode cL_law 854 = .ok (.iload_n 3, 1) := by decide +kernel
theorem dL_law_855 : decode cL_law 855 = .ok (.iconst 4, 1) := by decide +kernel
theorem dL_law_856 : decode cL_law 856 = .ok (.iadd, 1) := by decide +kernel
theorem dL_law_857 : decode cL_law 857 = .ok (.iaload, 1) := by decide +kernel
theorem dL_law_858 : decode cL_law 858 = .ok (.aload_n 0, 1) := by decide +kernel
theorem dL_law_859 : decode cL_law 859 = .ok (.iload_n 3, 1) := by decide +kernel
theorem dL_law_860 : decode cL_law 860 = .ok (.iconst 5, 1) := by decide +kernel
theorem dL_law_861 : decode cL_law 861 = .ok (.iadd, 1) := by decide +kernel
theorem dL_law_862 : decode cL_law 862 = .ok (.iaload, 1) := by decide +kernel
theorem dL_law_863 : decode cL_law 863 = .ok (.invokevirtual 95, 3) := by decide +kernel
theorem dL_law_866 : decode cL_law 866 = .ok (.if_icmp .eq 330, 3) := by decide +kernel
theorem dL_law_869 : decode cL_law 869 = .ok (.iconst 0, 1) := by decide +kernel
theorem dL_law_870 : decode cL_law 870 = .ok (.ireturn, 1) := by decide +kernel
theorem dL_law_871 : decode cL_law 871 = .ok (.aload_n 1, 1) := by decide +kernel
theorem dL_law_872 : decode cL_law 872 = .ok (.aload_n 0, 1) := by decide +kernel
theorem dL_law_873 : decode cL_law 873 = .ok (.iload_n 3, 1) := by decide +kernel
theorem dL_law_874 : decode cL_law 874 = .ok (.iconst 1, 1) := by decide +kernel
theorem dL_law_875 : decode cL_law 875 = .ok (.iadd, 1) := by decide +kernel
theorem dL_law_876 : decode cL_law 876 = .ok (.iaload, 1) := by decide +kernel
theorem dL_law_877 : decode cL_law 877 = .ok (.aload_n 0, 1) := by decide +kernel
theorem dL_law_878 : decode cL_law 878 = .ok (.iload_n 3, 1) := by decide +kernel
theorem dL_law_879 : decode cL_law 879 = .ok (.iconst 2, 1) := by decide +kernel
theorem dL_law_880 : decode cL_law 880 = .ok (.iadd, 1) := by decide +kernel
theorem dL_law_881 : decode cL_law 881 = .ok (.iaload, 1) := by decide +kernel
theorem dL_law_882 : decode cL_law 882 = .ok (.aload_n 0, 1) := by decide +kernel
theorem dL_law_883 : decode cL_law 883 = .ok (.iload_n 3, 1) := by decide +kernel
theorem dL_law_884 : decode cL_law 884 = .ok (.iconst 3, 1) := by decide +kernel
theorem dL_law_885 : decode cL_law 885 = .ok (.iadd, 1) := by decide +kernel
theorem dL_law_886 : decode cL_law 886 = .ok (.iaload, 1) := by decide +kernel
theorem dL_law_887 : decode cL_law 887 = .ok (.invokevirtual 96, 3) := by decide +kernel
theorem dL_law_890 : decode cL_law 890 = .ok (.aload_n 2, 1) := by decide +kernel
theorem dL_law_891 : decode cL_law 891 = .ok (.aload_n 0, 1) := by decide +kernel
theorem dL_law_892 : decode cL_law 892 = .ok (.iload_n 3, 1) := by decide +kernel
theorem dL_law_893 : decode cL_law 893 = .ok (.iconst 1, 1) := by decide +kernel
theorem dL_law_894 : decode cL_law 894 = .ok (.iadd, 1) := by decide +kernel
theorem dL_law_895 : decode cL_law 895 = .ok (.iaload, 1) := by decide +kernel
theorem dL_law_896 : decode cL_law 896 = .ok (.aload_n 0, 1) := by decide +kernel
theorem dL_law_897 : decode cL_law 897 = .ok (.iload_n 3, 1) := by decide +kernel
theorem dL_law_898 : decode cL_law 898 = .ok (.iconst 2, 1) := by decide +kernel
theorem dL_law_899 : decode cL_law 899 = .ok (.iadd, 1) := by decide +kernel
theorem dL_law_900 : decode cL_law 900 = .ok (.iaload, 1) := by decide +kernel
theorem dL_law_901 : decode cL_law 901 = .ok (.aload_n 0, 1) := by decide +kernel
theorem dL_law_902 : decode cL_law 902 = .ok (.iload_n 3, 1) := by decide +kernel
theorem dL_law_903 : decode cL_law 903 = .ok (.iconst 3, 1) := by decide +kernel
theorem dL_law_904 : decode cL_law 904 = .ok (.iadd, 1) := by decide +kernel
theorem dL_law_905 : decode cL_law 905 = .ok (.iaload, 1) := by decide +kernel
theorem dL_law_906 : decode cL_law 906 = .ok (.invokevirtual 99, 3) := by decide +kernel
theorem dL_law_909 : decode cL_law 909 = .ok (.if_icmp .eq 287, 3) := by decide +kernel
theorem dL_law_912 : decode cL_law 912 = .ok (.iconst 0, 1) := by decide +kernel
theorem dL_law_913 : decode cL_law 913 = .ok (.ireturn, 1) := by decide +kernel
theorem dL_law_914 : decode cL_law 914 = .ok (.aload_n 1, 1) := by decide +kernel
theorem dL_law_915 : decode cL_law 915 = .ok (.aload_n 0, 1) := by decide +kernel
theorem dL_law_916 : decode cL_law 916 = .ok (.iload_n 3, 1) := by decide +kernel
theorem dL_law_917 : decode cL_law 917 = .ok (.iconst 1, 1) := by decide +kernel
theorem dL_law_918 : decode cL_law 918 = .ok (.iadd, 1) := by decide +kernel
theorem dL_law_919 : decode cL_law 919 = .ok (.iaload, 1) := by decide +kernel
theorem dL_law_920 : decode cL_law 920 = .ok (.invokevirtual 100, 3) := by decide +kernel
theorem dL_law_923 : decode cL_law 923 = .ok (.aload_n 2, 1) := by decide +kernel
theorem dL_law_924 : decode cL_law 924 = .ok (.aload_n 0, 1) := by decide +kernel
theorem dL_law_925 : decode cL_law 925 = .ok (.iload_n 3, 1) := by decide +kernel
theorem dL_law_926 : decode cL_law 926 = .ok (.iconst 1, 1) := by decide +kernel
theorem dL_law_927 : decode cL_law 927 = .ok (.iadd, 1) := by decide +kernel
theorem dL_law_928 : decode cL_law 928 = .ok (.iaload, 1) := by decide +kernel
theorem dL_law_929 : decode cL_law 929 = .ok (.invokevirtual 104, 3) := by decide +kernel
theorem dL_law_932 : decode cL_law 932 = .ok (.lcmp, 1) := by decide +kernel
theorem dL_law_933 : decode cL_law 933 = .ok (.ifCond .eq 263, 3) := by decide +kernel
theorem dL_law_936 : decode cL_law 936 = .ok (.iconst 0, 1) := by decide +kernel
theorem dL_law_937 : decode cL_law 937 = .ok (.ireturn, 1) := by decide +kernel
theorem dL_law_938 : decode cL_law 938 = .ok (.aload_n 1, 1) := by decide +kernel
theorem dL_law_939 : decode cL_law 939 = .ok (.aload_n 0, 1) := by decide +kernel
theorem dL_law_940 : decode cL_law 940 = .ok (.iload_n 3, 1) := by decide +kernel
theorem dL_law_941 : decode cL_law 941 = .ok (.iconst 1, 1) := by decide +kernel
theorem dL_law_942 : decode cL_law 942 = .ok (.iadd, 1) := by decide +kernel
theorem dL_law_943 : decode cL_law 943 = .ok (.iaload, 1) := by decide +kernel
theorem dL_law_944 : decode cL_law 944 = .ok (.aload_n 0, 1) := by decide +kernel
theorem dL_law_945 : decode cL_law 945 = .ok (.iload_n 3, 1) := by decide +kernel
theorem dL_law_946 : decode cL_law 946 = .ok (.iconst 2, 1) := by decide +kernel
theorem dL_law_947 : decode cL_law 947 = .ok (.iadd, 1) := by decide +kernel
theorem dL_law_948 : decode cL_law 948 = .ok (.iaload, 1) := by decide +kernel
theorem dL_law_949 : decode cL_law 949 = .ok (.invokevirtual 105, 3) := by decide +kernel
theorem dL_law_952 : decode cL_law 952 = .ok (.aload_n 2, 1) := by decide +kernel
theorem dL_law_953 : decode cL_law 953 = .ok (.aload_n 0, 1) := by decide +kernel
theorem dL_law_954 : decode cL_law 954 = .ok (.iload_n 3, 1) := by decide +kernel
theorem dL_law_955 : decode cL_law 955 = .ok (.iconst 1, 1) := by decide +kernel
theorem dL_law_956 : decode cL_law 956 = .ok (.iadd, 1) := by decide +kernel
theorem dL_law_957 : decode cL_law 957 = .ok (.iaload, 1) := by decide +kernel
theorem dL_law_958 : decode cL_law 958 = .ok (.aload_n 0, 1) := by decide +kernel
theorem dL_law_959 : decode cL_law 959 = .ok (.iload_n 3, 1) := by decide +kernel
theorem dL_law_960 : decode cL_law 960 = .ok (.iconst 2, 1) := by decide +kernel
theorem dL_law_961 : decode cL_law 961 = .ok (.iadd, 1) := by decide +kernel
theorem dL_law_962 : decode cL_law 962 = .ok (.iaload, 1) := by decide +kernel
theorem dL_law_963 : decode cL_law 963 = .ok (.invokevirtual 108, 3) := by decide +kernel
theorem dL_law_966 : decode cL_law 966 = .ok (.if_icmp .eq 230, 3) := by decide +kernel
theorem dL_law_969 : decode cL_law 969 = .ok (.iconst 0, 1) := by decide +kernel
theorem dL_law_970 : decode cL_law 970 = .ok (.ireturn, 1) := by decide +kernel
theorem dL_law_971 : decode cL_law 971 = .ok (.aload_n 1, 1) := by decide +kernel
theorem dL_law_972 : decode cL_law 972 = .ok (.invokevirtual 109, 3) := by decide +kernel
theorem dL_law_975 : decode cL_law 975 = .ok (.aload_n 2, 1) := by decide +kernel
theorem dL_law_976 : decode cL_law 976 = .ok (.invokevirtual 112, 3) := by decide +kernel
theorem dL_law_979 : decode cL_law 979 = .ok (.if_icmp .eq 217, 3) := by decide +kernel
theorem dL_law_982 : decode cL_law 982 = .ok (.iconst 0, 1) := by decide +kernel
theorem dL_law_983 : decode cL_law 983 = .ok (.ireturn, 1) := by decide +kernel
theorem dL_law_984 : decode cL_law 984 = .ok (.aload_n 1, 1) := by decide +kernel
theorem dL_law_985 : decode cL_law 985 = .ok (.aload_n 0, 1) := by decide +kernel
theorem dL_law_986 : decode cL_law 986 = .ok (.iload_n 3, 1) := by decide +kernel
theorem dL_law_987 : decode cL_law 987 = .ok (.iconst 1, 1) := by decide +kernel
theorem dL_law_988 : decode cL_law 988 = .ok (.iadd, 1) := by decide +kernel
theorem dL_law_989 : decode cL_law 989 = .ok (.iaload, 1) := by decide +kernel
theorem dL_law_990 : decode cL_law 990 = .ok (.aload_n 0, 1) := by decide +kernel
theorem dL_law_991 : decode cL_law 991 = .ok (.iload_n 3, 1) := by decide +kernel
theorem dL_law_992 : decode cL_law 992 = .ok (.iconst 2, 1) := by decide +kernel
theorem dL_law_993 : decode cL_law 993 = .ok (.iadd, 1) := by decide +kernel
theorem dL_law_994 : decode cL_law 994 = .ok (.iaload, 1) := by decide +kernel
theorem dL_law_995 : decode cL_law 995 = .ok (.invokevirtual 113, 3) := by decide +kernel
theorem dL_law_998 : decode cL_law 998 = .ok (.aload_n 2, 1) := by decide +kernel
theorem dL_law_999 : decode cL_law 999 = .ok (.aload_n 0, 1) := by decide +kernel
theorem dL_law_1000 : decode cL_law 1000 = .ok (.iload_n 3, 1) := by decide +kernel
theorem dL_law_1001 : decode cL_law 1001 = .ok (.iconst 1, 1) := by decide +kernel
theorem dL_law_1002 : decode cL_law 1002 = .ok (.iadd, 1) := by decide +kernel
theorem dL_law_1003 : decode cL_law 1003 = .ok (.iaload, 1) := by decide +kernel
theorem dL_law_1004 : decode cL_law 1004 = .ok (.aload_n 0, 1) := by decide +kernel
theorem dL_law_1005 : decode cL_law 1005 = .ok (.iload_n 3, 1) := by decide +kernel
theorem dL_law_1006 : decode cL_law 1006 = .ok (.iconst 2, 1) := by decide +kernel
theorem dL_law_1007 : decode cL_law 1007 = .ok (.iadd, 1) := by decide +kernel
theorem dL_law_1008 : decode cL_law 1008 = .ok (.iaload, 1) := by decide +kernel
theorem dL_law_1009 : decode cL_law 1009 = .ok (.invokevirtual 117, 3) := by decide +kernel
theorem dL_law_1012 : decode cL_law 1012 = .ok (.lcmp, 1) := by decide +kernel
theorem dL_law_1013 : decode cL_law 1013 = .ok (.ifCond .eq 183, 3) := by decide +kernel
theorem dL_law_1016 : decode cL_law 1016 = .ok (.iconst 0, 1) := by decide +kernel
theorem dL_law_1017 : decode cL_law 1017 = .ok (.ireturn, 1) := by decide +kernel
theorem dL_law_1018 : decode cL_law 1018 = .ok (.aload_n 1, 1) := by decide +kernel
theorem dL_law_1019 : decode cL_law 1019 = .ok (.aload_n 0, 1) := by decide +kernel
theorem dL_law_1020 : decode cL_law 1020 = .ok (.iload_n 3, 1) := by decide +kernel
theorem dL_law_1021 : decode cL_law 1021 = .ok (.iconst 1, 1) := by decide +kernel
theorem dL_law_1022 : decode cL_law 1022 = .ok (.iadd, 1) := by decide +kernel
theorem dL_law_1023 : decode cL_law 1023 = .ok (.iaload, 1) := by decide +kernel
theorem dL_law_1024 : decode cL_law 1024 = .ok (.aload_n 0, 1) := by decide +kernel
theorem dL_law_1025 : decode cL_law 1025 = .ok (.iload_n 3, 1) := by decide +kernel
theorem dL_law_1026 : decode cL_law 1026 = .ok (.iconst 2, 1) := by decide +kernel
theorem dL_law_1027 : decode cL_law 1027 = .ok (.iadd, 1) := by decide +kernel
theorem dL_law_1028 : decode cL_law 1028 = .ok (.iaload, 1) := by decide +kernel
theorem dL_law_1029 : decode cL_law 1029 = .ok (.invokevirtual 118, 3) := by decide +kernel
theorem dL_law_1032 : decode cL_law 1032 = .ok (.aload_n 2, 1) := by decide +kernel
theorem dL_law_1033 : decode cL_law 1033 = .ok (.aload_n 0, 1) := by decide +kernel
theorem dL_law_1034 : decode cL_law 1034 = .ok (.iload_n 3, 1) := by decide +kernel
theorem dL_law_1035 : decode cL_law 1035 = .ok (.iconst 1, 1) := by decide +kernel
theorem dL_law_1036 : decode cL_law 1036 = .ok (.iadd, 1) := by decide +kernel
theorem dL_law_1037 : decode cL_law 1037 = .ok (.iaload, 1) := by decide +kernel
theorem dL_law_1038 : decode cL_law 1038 = .ok (.aload_n 0, 1) := by decide +kernel
theorem dL_law_1039 : decode cL_law 1039 = .ok (.iload_n 3, 1) := by decide +kernel
theorem dL_law_1040 : decode cL_law 1040 = .ok (.iconst 2, 1) := by decide +kernel
theorem dL_law_1041 : decode cL_law 1041 = .ok (.iadd, 1) := by decide +kernel
theorem dL_law_1042 : decode cL_law 1042 = .ok (.iaload, 1) := by decide +kernel
theorem dL_law_1043 : decode cL_law 1043 = .ok (.invokevirtual 121, 3) := by decide +kernel
theorem dL_law_1046 : decode cL_law 1046 = .ok (.if_icmp .eq 150, 3) := by decide +kernel
theorem dL_law_1049 : decode cL_law 1049 = .ok (.iconst 0, 1) := by decide +kernel
theorem dL_law_1050 : decode cL_law 1050 = .ok (.ireturn, 1) := by decide +kernel
theorem dL_law_1051 : decode cL_law 1051 = .ok (.aload_n 1, 1) := by decide +kernel
theorem dL_law_1052 : decode cL_law 1052 = .ok (.aload_n 0, 1) := by decide +kernel
theorem dL_law_1053 : decode cL_law 1053 = .ok (.iload_n 3, 1) := by decide +kernel
theorem dL_law_1054 : decode cL_law 1054 = .ok (.iconst 1, 1) := by decide +kernel
theorem dL_law_1055 : decode cL_law 1055 = .ok (.iadd, 1) := by decide +kernel
theorem dL_law_1056 : decode cL_law 1056 = .ok (.iaload, 1) := by decide +kernel
theorem dL_law_1057 : decode cL_law 1057 = .ok (.invokevirtual 122, 3) := by decide +kernel
theorem dL_law_1060 : decode cL_law 1060 = .ok (.aload_n 2, 1) := by decide +kernel
theorem dL_law_1061 : decode cL_law 1061 = .ok (.aload_n 0, 1) := by decide +kernel
theorem dL_law_1062 : decode cL_law 1062 = .ok (.iload_n 3, 1) := by decide +kernel
theorem dL_law_1063 : decode cL_law 1063 = .ok (.iconst 1, 1) := by decide +kernel
theorem dL_law_1064 : decode cL_law 1064 = .ok (.iadd, 1) := by decide +kernel
theorem dL_law_1065 : decode cL_law 1065 = .ok (.iaload, 1) := by decide +kernel
theorem dL_law_1066 : decode cL_law 1066 = .ok (.invokevirtual 125, 3) := by decide +kernel
theorem dL_law_1069 : decode cL_law 1069 = .ok (.if_icmp .eq 127, 3) := by decide +kernel
theorem dL_law_1072 : decode cL_law 1072 = .ok (.iconst 0, 1) := by decide +kernel
theorem dL_law_1073 : decode cL_law 1073 = .ok (.ireturn, 1) := by decide +kernel
theorem dL_law_1074 : decode cL_law 1074 = .ok (.aload_n 1, 1) := by decide +kernel
theorem dL_law_1075 : decode cL_law 1075 = .ok (.aload_n 0, 1) := by decide +kernel
theorem dL_law_1076 : decode cL_law 1076 = .ok (.iload_n 3, 1) := by decide +kernel
theorem dL_law_1077 : decode cL_law 1077 = .ok (.iconst 1, 1) := by decide +kernel
theorem dL_law_1078 : decode cL_law 1078 = .ok (.iadd, 1) := by decide +kernel
theorem dL_law_1079 : decode cL_law 1079 = .ok (.iaload, 1) := by decide +kernel
theorem dL_law_1080 : decode cL_law 1080 = .ok (.aload_n 0, 1) := by decide +kernel
theorem dL_law_1081 : decode cL_law 1081 = .ok (.iload_n 3, 1) := by decide +kernel
theorem dL_law_1082 : decode cL_law 1082 = .ok (.iconst 2, 1) := by decide +kernel
theorem dL_law_1083 : decode cL_law 1083 = .ok (.iadd, 1) := by decide +kernel
theorem dL_law_1084 : decode cL_law 1084 = .ok (.iaload, 1) := by decide +kernel
theorem dL_law_1085 : decode cL_law 1085 = .ok (.invokevirtual 126, 3) := by decide +kernel
theorem dL_law_1088 : decode cL_law 1088 = .ok (.aload_n 2, 1) := by decide +kernel
theorem dL_law_1089 : decode cL_law 1089 = .ok (.aload_n 0, 1) := by decide +kernel
theorem dL_law_1090 : decode cL_law 1090 = .ok (.iload_n 3, 1) := by decide +kernel
theorem dL_law_1091 : decode cL_law 1091 = .ok (.iconst 1, 1) := by decide +kernel
theorem dL_law_1092 : decode cL_law 1092 = .ok (.iadd, 1) := by decide +kernel
theorem dL_law_1093 : decode cL_law 1093 = .ok (.iaload, 1) := by decide +kernel
theorem dL_law_1094 : decode cL_law 1094 = .ok (.aload_n 0, 1) := by decide +kernel
theorem dL_law_1095 : decode cL_law 1095 = .ok (.iload_n 3, 1) := by decide +kernel
theorem dL_law_1096 : decode cL_law 1096 = .ok (.iconst 2, 1) := by decide +kernel
theorem dL_law_1097 : decode cL_law 1097 = .ok (.iadd, 1) := by decide +kernel
theorem dL_law_1098 : decode cL_law 1098 = .ok (.iaload, 1) := by decide +kernel
theorem dL_law_1099 : decode cL_law 1099 = .ok (.invokevirtual 129, 3) := by decide +kernel
theorem dL_law_1102 : decode cL_law 1102 = .ok (.if_icmp .eq 94, 3) := by decide +kernel
theorem dL_law_1105 : decode cL_law 1105 = .ok (.iconst 0, 1) := by decide +kernel
theorem dL_law_1106 : decode cL_law 1106 = .ok (.ireturn, 1) := by decide +kernel
theorem dL_law_1107 : decode cL_law 1107 = .ok (.aload_n 1, 1) := by decide +kernel
theorem dL_law_1108 : decode cL_law 1108 = .ok (.aload_n 0, 1) := by decide +kernel
theorem dL_law_1109 : decode cL_law 1109 = .ok (.iload_n 3, 1) := by decide +kernel
theorem dL_law_1110 : decode cL_law 1110 = .ok (.iconst 1, 1) := by decide +kernel
theorem dL_law_1111 : decode cL_law 1111 = .ok (.iadd, 1) := by decide +kernel
theorem dL_law_1112 : decode cL_law 1112 = .ok (.iaload, 1) := by decide +kernel
theorem dL_law_1113 : decode cL_law 1113 = .ok (.aload_n 0, 1) := by decide +kernel
theorem dL_law_1114 : decode cL_law 1114 = .ok (.iload_n 3, 1) := by decide +kernel
theorem dL_law_1115 : decode cL_law 1115 = .ok (.iconst 2, 1) := by decide +kernel
theorem dL_law_1116 : decode cL_law 1116 = .ok (.iadd, 1) := by decide +kernel
theorem dL_law_1117 : decode cL_law 1117 = .ok (.iaload, 1) := by decide +kernel
theorem dL_law_1118 : decode cL_law 1118 = .ok (.invokevirtual 130, 3) := by decide +kernel
theorem dL_law_1121 : decode cL_law 1121 = .ok (.aload_n 2, 1) := by decide +kernel
theorem dL_law_1122 : decode cL_law 1122 = .ok (.aload_n 0, 1) := by decide +kernel
theorem dL_law_1123 : decode cL_law 1123 = .ok (.iload_n 3, 1) := by decide +kernel
theorem dL_law_1124 : decode cL_law 1124 = .ok (.iconst 1, 1) := by decide +kernel
theorem dL_law_1125 : decode cL_law 1125 = .ok (.iadd, 1) := by decide +kernel
theorem dL_law_1126 : decode cL_law 1126 = .ok (.iaload, 1) := by decide +kernel
theorem dL_law_1127 : decode cL_law 1127 = .ok (.aload_n 0, 1) := by decide +kernel
theorem dL_law_1128 : decode cL_law 1128 = .ok (.iload_n 3, 1) := by decide +kernel
theorem dL_law_1129 : decode cL_law 1129 = .ok (.iconst 2, 1) := by decide +kernel
theorem dL_law_1130 : decode cL_law 1130 = .ok (.iadd, 1) := by decide +kernel
theorem dL_law_1131 : decode cL_law 1131 = .ok (.iaload, 1) := by decide +kernel
theorem dL_law_1132 : decode cL_law 1132 = .ok (.invokevirtual 133, 3) := by decide +kernel
theorem dL_law_1135 : decode cL_law 1135 = .ok (.if_icmp .eq 61, 3) := by decide +kernel
theorem dL_law_1138 : decode cL_law 1138 = .ok (.iconst 0, 1) := by decide +kernel
theorem dL_law_1139 : decode cL_law 1139 = .ok (.ireturn, 1) := by decide +kernel
theorem dL_law_1140 : decode cL_law 1140 = .ok (.aload_n 1, 1) := by decide +kernel
theorem dL_law_1141 : decode cL_law 1141 = .ok (.aload_n 0, 1) := by decide +kernel
theorem dL_law_1142 : decode cL_law 1142 = .ok (.iload_n 3, 1) := by decide +kernel
theorem dL_law_1143 : decode cL_law 1143 = .ok (.iconst 1, 1) := by decide +kernel
theorem dL_law_1144 : decode cL_law 1144 = .ok (.iadd, 1) := by decide +kernel
theorem dL_law_1145 : decode cL_law 1145 = .ok (.iaload, 1) := by decide +kernel
theorem dL_law_1146 : decode cL_law 1146 = .ok (.aload_n 0, 1) := by decide +kernel
theorem dL_law_1147 : decode cL_law 1147 = .ok (.iload_n 3, 1) := by decide +kernel
theorem dL_law_1148 : decode cL_law 1148 = .ok (.iconst 2, 1) := by decide +kernel
theorem dL_law_1149 : decode cL_law 1149 = .ok (.iadd, 1) := by decide +kernel
theorem dL_law_1150 : decode cL_law 1150 = .ok (.iaload, 1) := by decide +kernel
theorem dL_law_1151 : decode cL_law 1151 = .ok (.invokevirtual 134, 3) := by decide +kernel
theorem dL_law_1154 : decode cL_law 1154 = .ok (.aload_n 2, 1) := by decide +kernel
theorem dL_law_1155 : decode cL_law 1155 = .ok (.aload_n 0, 1) := by decide +kernel
theorem dL_law_1156 : decode cL_law 1156 = .ok (.iload_n 3, 1) := by decide +kernel
theorem dL_law_1157 : decode cL_law 1157 = .ok (.iconst 1, 1) := by decide +kernel
theorem dL_law_1158 : decode cL_law 1158 = .ok (.iadd, 1) := by decide +kernel
theorem dL_law_1159 : decode cL_law 1159 = .ok (.iaload, 1) := by decide +kernel
theorem dL_law_1160 : decode cL_law 1160 = .ok (.aload_n 0, 1) := by decide +kernel
theorem dL_law_1161 : decode cL_law 1161 = .ok (.iload_n 3, 1) := by decide +kernel
theorem dL_law_1162 : decode cL_law 1162 = .ok (.iconst 2, 1) := by decide +kernel
theorem dL_law_1163 : decode cL_law 1163 = .ok (.iadd, 1) := by decide +kernel
theorem dL_law_1164 : decode cL_law 1164 = .ok (.iaload, 1) := by decide +kernel
theorem dL_law_1165 : decode cL_law 1165 = .ok (.invokevirtual 137, 3) := by decide +kernel
theorem dL_law_1168 : decode cL_law 1168 = .ok (.if_icmp .eq 28, 3) := by decide +kernel
theorem dL_law_1171 : decode cL_law 1171 = .ok (.iconst 0, 1) := by decide +kernel
theorem dL_law_1172 : decode cL_law 1172 = .ok (.ireturn, 1) := by decide +kernel
theorem dL_law_1173 : decode cL_law 1173 = .ok (.aload_n 1, 1) := by decide +kernel
theorem dL_law_1174 : decode cL_law 1174 = .ok (.aload_n 0, 1) := by decide +kernel
theorem dL_law_1175 : decode cL_law 1175 = .ok (.iload_n 3, 1) := by decide +kernel
theorem dL_law_1176 : decode cL_law 1176 = .ok (.iconst 1, 1) := by decide +kernel
theorem dL_law_1177 : decode cL_law 1177 = .ok (.iadd, 1) := by decide +kernel
theorem dL_law_1178 : decode cL_law 1178 = .ok (.iaload, 1) := by decide +kernel
theorem dL_law_1179 : decode cL_law 1179 = .ok (.invokevirtual 138, 3) := by decide +kernel
theorem dL_law_1182 : decode cL_law 1182 = .ok (.aload_n 2, 1) := by decide +kernel
theorem dL_law_1183 : decode cL_law 1183 = .ok (.aload_n 0, 1) := by decide +kernel
theorem dL_law_1184 : decode cL_law 1184 = .ok (.iload_n 3, 1) := by decide +kernel
theorem dL_law_1185 : decode cL_law 1185 = .ok (.iconst 1, 1) := by decide +kernel
theorem dL_law_1186 : decode cL_law 1186 = .ok (.iadd, 1) := by decide +kernel
theorem dL_law_1187 : decode cL_law 1187 = .ok (.iaload, 1) := by decide +kernel
theorem dL_law_1188 : decode cL_law 1188 = .ok (.invokevirtual 141, 3) := by decide +kernel
theorem dL_law_1191 : decode cL_law 1191 = .ok (.if_icmp .eq 5, 3) := by decide +kernel
theorem dL_law_1194 : decode cL_law 1194 = .ok (.iconst 0, 1) := by decide +kernel
theorem dL_law_1195 : decode cL_law 1195 = .ok (.ireturn, 1) := by decide +kernel
theorem dL_law_1196 : decode cL_law 1196 = .ok (.iinc 3 6, 3) := by decide +kernel
theorem dL_law_1199 : decode cL_law 1199 = .ok (.goto (-1181), 3) := by decide +kernel
theorem dL_law_1202 : decode cL_law 1202 = .ok (.iconst 1, 1) := by decide +kernel
theorem dL_law_1203 : decode cL_law 1203 = .ok (.ireturn, 1) := by decide +kernel
