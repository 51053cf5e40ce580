/-! what stands at each place of the code: printed -/
theorem dX0_init_0 : decode cX0_init 0 = .ok (.aload_n 0, 1) := by decide +kernel
theorem dX0_init_1 : decode cX0_init 1 = .ok (.invokespecial 1, 3) := by decide +kernel
theorem dX0_init_4 : decode cX0_init 4 = .ok (.aload_n 0, 1) := by decide +kernel
theorem dX0_init_5 : decode cX0_init 5 = .ok (.iload_n 1, 1) := by decide +kernel
theorem dX0_init_6 : decode cX0_init 6 = .ok (.putfield 7, 3) := by decide +kernel
theorem dX0_init_9 : decode cX0_init 9 = .ok (.aload_n 0, 1) := by decide +kernel
theorem dX0_init_10 : decode cX0_init 10 = .ok (.aload_n 2, 1) := by decide +kernel
theorem dX0_init_11 : decode cX0_init 11 = .ok (.putfield 13, 3) := by decide +kernel
theorem dX0_init_14 : decode cX0_init 14 = .ok (.aload_n 0, 1) := by decide +kernel
theorem dX0_init_15 : decode cX0_init 15 = .ok (.aload_n 3, 1) := by decide +kernel
theorem dX0_init_16 : decode cX0_init 16 = .ok (.putfield 17, 3) := by decide +kernel
theorem dX0_init_19 : decode cX0_init 19 = .ok (.aload_n 0, 1) := by decide +kernel
theorem dX0_init_20 : decode cX0_init 20 = .ok (.iconst 0, 1) := by decide +kernel
theorem dX0_init_21 : decode cX0_init 21 = .ok (.putfield 21, 3) := by decide +kernel
theorem dX0_init_24 : decode cX0_init 24 = .ok (.return_, 1) := by decide +kernel
theorem dX0_number_0 : decode cX0_number 0 = .ok (.aload_n 0, 1) := by decide +kernel
theorem dX0_number_1 : decode cX0_number 1 = .ok (.getfield 7, 3) := by decide +kernel
theorem dX0_number_4 : decode cX0_number 4 = .ok (.ireturn, 1) := by decide +kernel
theorem dX0_bytes_0 : decode cX0_bytes 0 = .ok (.aload_n 0, 1) := by decide +kernel
theorem dX0_bytes_1 : decode cX0_bytes 1 = .ok (.getfield 13, 3) := by decide +kernel
theorem dX0_bytes_4 : decode cX0_bytes 4 = .ok (.areturn, 1) := by decide +kernel
theorem dX0_home_0 : decode cX0_home 0 = .ok (.aload_n 0, 1) := by decide +kernel
theorem dX0_home_1 : decode cX0_home 1 = .ok (.getfield 17, 3) := by decide +kernel
theorem dX0_home_4 : decode cX0_home 4 = .ok (.areturn, 1) := by decide +kernel
theorem dX0_moveTo_0 : decode cX0_moveTo 0 = .ok (.aload_n 0, 1) := by decide +kernel
theorem dX0_moveTo_1 : decode cX0_moveTo 1 = .ok (.aload_n 1, 1) := by decide +kernel
theorem dX0_moveTo_2 : decode cX0_moveTo 2 = .ok (.putfield 17, 3) := by decide +kernel
theorem dX0_moveTo_5 : decode cX0_moveTo 5 = .ok (.return_, 1) := by decide +kernel
theorem dX0_uses_0 : decode cX0_uses 0 = .ok (.aload_n 0, 1) := by decide +kernel
theorem dX0_uses_1 : decode cX0_uses 1 = .ok (.getfield 21, 3) := by decide +kernel
theorem dX0_uses_4 : decode cX0_uses 4 = .ok (.ireturn, 1) := by decide +kernel
theorem dX0_addUses_0 : decode cX0_addUses 0 = .ok (.aload_n 0, 1) := by decide +kernel
theorem dX0_addUses_1 : decode cX0_addUses 1 = .ok (.dup, 1) := by decide +kernel
theorem dX0_addUses_2 : decode cX0_addUses 2 = .ok (.getfield 21, 3) := by decide +kernel
theorem dX0_addUses_5 : decode cX0_addUses 5 = .ok (.iload_n 1, 1) := by decide +kernel
theorem dX0_addUses_6 : decode cX0_addUses 6 = .ok (.iadd, 1) := by decide +kernel
theorem dX0_addUses_7 : decode cX0_addUses 7 = .ok (.putfield 21, 3) := by decide +kernel
theorem dX0_addUses_10 : decode cX0_addUses 10 = .ok (.return_, 1) := by decide +kernel
theorem dX1_init_0 : decode cX1_init 0 = .ok (.aload_n 0, 1) := by decide +kernel
theorem dX1_init_1 : decode cX1_init 1 = .ok (.invokespecial 3, 3) := by decide +kernel
theorem dX1_init_4 : decode cX1_init 4 = .ok (.aload_n 0, 1) := by decide +kernel
theorem dX1_init_5 : decode cX1_init 5 = .ok (.iload_n 1, 1) := by decide +kernel
theorem dX1_init_6 : decode cX1_init 6 = .ok (.putfield 9, 3) := by decide +kernel
theorem dX1_init_9 : decode cX1_init 9 = .ok (.aload_n 0, 1) := by decide +kernel
theorem dX1_init_10 : decode cX1_init 10 = .ok (.new 15, 3) := by decide +kernel
theorem dX1_init_13 : decode cX1_init 13 = .ok (.dup, 1) := by decide +kernel
theorem dX1_init_14 : decode cX1_init 14 = .ok (.invokespecial 17, 3) := by decide +kernel
theorem dX1_init_17 : decode cX1_init 17 = .ok (.putfield 18, 3) := by decide +kernel
theorem dX1_init_20 : decode cX1_init 20 = .ok (.aload_n 0, 1) := by decide +kernel
theorem dX1_init_21 : decode cX1_init 21 = .ok (.iconst 0, 1) := by decide +kernel
theorem dX1_init_22 : decode cX1_init 22 = .ok (.putfield 22, 3) := by decide +kernel
theorem dX1_init_25 : decode cX1_init 25 = .ok (.return_, 1) := by decide +kernel
theorem dX1_number_0 : decode cX1_number 0 = .ok (.aload_n 0, 1) := by decide +kernel
theorem dX1_number_1 : decode cX1_number 1 = .ok (.getfield 9, 3) := by decide +kernel
theorem dX1_number_4 : decode cX1_number 4 = .ok (.ireturn, 1) := by decide +kernel
theorem dX1_filled_0 : decode cX1_filled 0 = .ok (.aload_n 0, 1) := by decide +kernel
theorem dX1_filled_1 : decode cX1_filled 1 = .ok (.getfield 22, 3) := by decide +kernel
theorem dX1_filled_4 : decode cX1_filled 4 = .ok (.ireturn, 1) := by decide +kernel
theorem dX1_count_0 : decode cX1_count 0 = .ok (.aload_n 0, 1) := by decide +kernel
theorem dX1_count_1 : decode cX1_count 1 = .ok (.getfield 18, 3) := by decide +kernel
theorem dX1_count_4 : decode cX1_count 4 = .ok (.invokevirtual 25, 3) := by decide +kernel
theorem dX1_count_7 : decode cX1_count 7 = .ok (.ireturn, 1) := by decide +kernel
theorem dX1_fits_0 : decode cX1_fits 0 = .ok (.aload_n 1, 1) := by decide +kernel
theorem dX1_fits_1 : decode cX1_fits 1 = .ok (.invokevirtual 29, 3) := by decide +kernel
theorem dX1_fits_4 : decode cX1_fits 4 = .ok (.sipush 128, 3) := by decide +kernel
theorem dX1_fits_7 : decode cX1_fits 7 = .ok (.aload_n 0, 1) := by decide +kernel
theorem dX1_fits_8 : decode cX1_fits 8 = .ok (.getfield 22, 3) := by decide +kernel
theorem dX1_fits_11 : decode cX1_fits 11 = .ok (.isub, 1) := by decide +kernel
theorem dX1_fits_12 : decode cX1_fits 12 = .ok (.if_icmp .gt 7, 3) := by decide +kernel
theorem dX1_fits_15 : decode cX1_fits 15 = .ok (.iconst 1, 1) := by decide +kernel
theorem dX1_fits_16 : decode cX1_fits 16 = .ok (.goto 4, 3) := by decide +kernel
theorem dX1_fits_19 : decode cX1_fits 19 = .ok (.iconst 0, 1) := by decide +kernel
theorem dX1_fits_20 : decode cX1_fits 20 = .ok (.ireturn, 1) := by decide +kernel
theorem dX1_put_0 : decode cX1_put 0 = .ok (.aload_n 0, 1) := by decide +kernel
theorem dX1_put_1 : decode cX1_put 1 = .ok (.getfield 18, 3) := by decide +kernel
theorem dX1_put_4 : decode cX1_put 4 = .ok (.aload_n 1, 1) := by decide +kernel
theorem dX1_put_5 : decode cX1_put 5 = .ok (.invokevirtual 32, 3) := by decide +kernel
theorem dX1_put_8 : decode cX1_put 8 = .ok (.pop, 1) := by decide +kernel
theorem dX1_put_9 : decode cX1_put 9 = .ok (.aload_n 0, 1) := by decide +kernel
theorem dX1_put_10 : decode cX1_put 10 = .ok (.dup, 1) := by decide +kernel
theorem dX1_put_11 : decode cX1_put 11 = .ok (.getfield 22, 3) := by decide +kernel
theorem dX1_put_14 : decode cX1_put 14 = .ok (.aload_n 1, 1) := by decide +kernel
theorem dX1_put_15 : decode cX1_put 15 = .ok (.invokevirtual 36, 3) := by decide +kernel
theorem dX1_put_18 : decode cX1_put 18 = .ok (.invokevirtual 29, 3) := by decide +kernel
theorem dX1_put_21 : decode cX1_put 21 = .ok (.iadd, 1) := by decide +kernel
theorem dX1_put_22 : decode cX1_put 22 = .ok (.putfield 22, 3) := by decide +kernel
theorem dX1_put_25 : decode cX1_put 25 = .ok (.aload_n 1, 1) := by decide +kernel
theorem dX1_put_26 : decode cX1_put 26 = .ok (.aload_n 0, 1) := by decide +kernel
theorem dX1_put_27 : decode cX1_put 27 = .ok (.invokevirtual 42, 3) := by decide +kernel
theorem dX1_put_30 : decode cX1_put 30 = .ok (.return_, 1) := by decide +kernel
theorem dX1_withBytes_0 : decode cX1_withBytes 0 = .ok (.iconst 0, 1) := by decide +kernel
theorem dX1_withBytes_1 : decode cX1_withBytes 1 = .ok (.istore_n 2, 1) := by decide +kernel
theorem dX1_withBytes_2 : decode cX1_withBytes 2 = .ok (.iload_n 2, 1) := by decide +kernel
theorem dX1_withBytes_3 : decode cX1_withBytes 3 = .ok (.aload_n 0, 1) := by decide +kernel
theorem dX1_withBytes_4 : decode cX1_withBytes 4 = .ok (.getfield 18, 3) := by decide +kernel
theorem dX1_withBytes_7 : decode cX1_withBytes 7 = .ok (.invokevirtual 25, 3) := by decide +kernel
theorem dX1_withBytes_10 : decode cX1_withBytes 10 = .ok (.if_icmp .ge 42, 3) := by decide +kernel
theorem dX1_withBytes_13 : decode cX1_withBytes 13 = .ok (.aload_n 0, 1) := by decide +kernel
theorem dX1_withBytes_14 : decode cX1_withBytes 14 = .ok (.getfield 18, 3) := by decide +kernel
theorem dX1_withBytes_17 : decode cX1_withBytes 17 = .ok (.iload_n 2, 1) := by decide +kernel
theorem dX1_withBytes_18 : decode cX1_withBytes 18 = .ok (.invokevirtual 46, 3) := by decide +kernel
theorem dX1_withBytes_21 : decode cX1_withBytes 21 = .ok (.checkcast 37, 3) := by decide +kernel
theorem dX1_withBytes_24 : decode cX1_withBytes 24 = .ok (.invokevirtual 36, 3) := by decide +kernel
theorem dX1_withBytes_27 : decode cX1_withBytes 27 = .ok (.aload_n 1, 1) := by decide +kernel
theorem dX1_withBytes_28 : decode cX1_withBytes 28 = .ok (.invokevirtual 50, 3) := by decide +kernel
theorem dX1_withBytes_31 : decode cX1_withBytes 31 = .ok (.ifCond .eq 15, 3) := by decide +kernel
theorem dX1_withBytes_34 : decode cX1_withBytes 34 = .ok (.aload_n 0, 1) := by decide +kernel
theorem dX1_withBytes_35 : decode cX1_withBytes 35 = .ok (.getfield 18, 3) := by decide +kernel
theorem dX1_withBytes_38 : decode cX1_withBytes 38 = .ok (.iload_n 2, 1) := by decide +kernel
theorem dX1_withBytes_39 : decode cX1_withBytes 39 = .ok (.invokevirtual 46, 3) := by decide +kernel
theorem dX1_withBytes_42 : decode cX1_withBytes 42 = .ok (.checkcast 37, 3) := by decide +kernel
theorem dX1_withBytes_45 : decode cX1_withBytes 45 = .ok (.areturn, 1) := by decide +kernel
theorem dX1_withBytes_46 : decode cX1_withBytes 46 = .ok (.iinc 2 1, 3) := by decide +kernel
theorem dX1_withBytes_49 : decode cX1_withBytes 49 = .ok (.goto (-47), 3) := by decide +kernel
theorem dX1_withBytes_52 : decode cX1_withBytes 52 = .ok (.aconst_null, 1) := by decide +kernel
theorem dX1_withBytes_53 : decode cX1_withBytes 53 = .ok (.areturn, 1) := by decide +kernel
theorem dX1_withNumber_0 : decode cX1_withNumber 0 = .ok (.iconst 0, 1) := by decide +kernel
theorem dX1_withNumber_1 : decode cX1_withNumber 1 = .ok (.istore_n 2, 1) := by decide +kernel
theorem dX1_withNumber_2 : decode cX1_withNumber 2 = .ok (.iload_n 2, 1) := by decide +kernel
theorem dX1_withNumber_3 : decode cX1_withNumber 3 = .ok (.aload_n 0, 1) := by decide +kernel
theorem dX1_withNumber_4 : decode cX1_withNumber 4 = .ok (.getfield 18, 3) := by decide +kernel
theorem dX1_withNumber_7 : decode cX1_withNumber 7 = .ok (.invokevirtual 25, 3) := by decide +kernel
theorem dX1_withNumber_10 : decode cX1_withNumber 10 = .ok (.if_icmp .ge 39, 3) := by decide +kernel
theorem dX1_withNumber_13 : decode cX1_withNumber 13 = .ok (.aload_n 0, 1) := by decide +kernel
theorem dX1_withNumber_14 : decode cX1_withNumber 14 = .ok (.getfield 18, 3) := by decide +kernel
theorem dX1_withNumber_17 : decode cX1_withNumber 17 = .ok (.iload_n 2, 1) := by decide +kernel
theorem dX1_withNumber_18 : decode cX1_withNumber 18 = .ok (.invokevirtual 46, 3) := by decide +kernel
theorem dX1_withNumber_21 : decode cX1_withNumber 21 = .ok (.checkcast 37, 3) := by decide +kernel
theorem dX1_withNumber_24 : decode cX1_withNumber 24 = .ok (.invokevirtual 54, 3) := by decide +kernel
theorem dX1_withNumber_27 : decode cX1_withNumber 27 = .ok (.iload_n 1, 1) := by decide +kernel
theorem dX1_withNumber_28 : decode cX1_withNumber 28 = .ok (.if_icmp .ne 15, 3) := by decide +kernel
theorem dX1_withNumber_31 : decode cX1_withNumber 31 = .ok (.aload_n 0, 1) := by decide +kernel
theorem dX1_withNumber_32 : decode cX1_withNumber 32 = .ok (.getfield 18, 3) := by decide +kernel
theorem dX1_withNumber_35 : decode cX1_withNumber 35 = .ok (.iload_n 2, 1) := by decide +kernel
theorem dX1_withNumber_36 : decode cX1_withNumber 36 = .ok (.invokevirtual 46, 3) := by decide +kernel
theorem dX1_withNumber_39 : decode cX1_withNumber 39 = .ok (.checkcast 37, 3) := by decide +kernel
theorem dX1_withNumber_42 : decode cX1_withNumber 42 = .ok (.areturn, 1) := by decide +kernel
theorem dX1_withNumber_43 : decode cX1_withNumber 43 = .ok (.iinc 2 1, 3) := by decide +kernel
theorem dX1_withNumber_46 : decode cX1_withNumber 46 = .ok (.goto (-44), 3) := by decide +kernel
theorem dX1_withNumber_49 : decode cX1_withNumber 49 = .ok (.aconst_null, 1) := by decide +kernel
theorem dX1_withNumber_50 : decode cX1_withNumber 50 = .ok (.areturn, 1) := by decide +kernel
theorem dX1_needed_0 : decode cX1_needed 0 = .ok (.new 15, 3) := by decide +kernel
theorem dX1_needed_3 : decode cX1_needed 3 = .ok (.dup, 1) := by decide +kernel
theorem dX1_needed_4 : decode cX1_needed 4 = .ok (.invokespecial 17, 3) := by decide +kernel
theorem dX1_needed_7 : decode cX1_needed 7 = .ok (.astore_n 1, 1) := by decide +kernel
theorem dX1_needed_8 : decode cX1_needed 8 = .ok (.iconst 0, 1) := by decide +kernel
theorem dX1_needed_9 : decode cX1_needed 9 = .ok (.istore_n 2, 1) := by decide +kernel
theorem dX1_needed_10 : decode cX1_needed 10 = .ok (.iload_n 2, 1) := by decide +kernel
theorem dX1_needed_11 : decode cX1_needed 11 = .ok (.aload_n 0, 1) := by decide +kernel
theorem dX1_needed_12 : decode cX1_needed 12 = .ok (.getfield 18, 3) := by decide +kernel
theorem dX1_needed_15 : decode cX1_needed 15 = .ok (.invokevirtual 25, 3) := by decide +kernel
theorem dX1_needed_18 : decode cX1_needed 18 = .ok (.if_icmp .ge 42, 3) := by decide +kernel
theorem dX1_needed_21 : decode cX1_needed 21 = .ok (.aload_n 0, 1) := by decide +kernel
theorem dX1_needed_22 : decode cX1_needed 22 = .ok (.getfield 18, 3) := by decide +kernel
theorem dX1_needed_25 : decode cX1_needed 25 = .ok (.iload_n 2, 1) := by decide +kernel
theorem dX1_needed_26 : decode cX1_needed 26 = .ok (.invokevirtual 46, 3) := by decide +kernel
theorem dX1_needed_29 : decode cX1_needed 29 = .ok (.checkcast 37, 3) := by decide +kernel
theorem dX1_needed_32 : decode cX1_needed 32 = .ok (.invokevirtual 56, 3) := by decide +kernel
theorem dX1_needed_35 : decode cX1_needed 35 = .ok (.ifCond .le 19, 3) := by decide +kernel
theorem dX1_needed_38 : decode cX1_needed 38 = .ok (.aload_n 1, 1) := by decide +kernel
theorem dX1_needed_39 : decode cX1_needed 39 = .ok (.aload_n 0, 1) := by decide +kernel
theorem dX1_needed_40 : decode cX1_needed 40 = .ok (.getfield 18, 3) := by decide +kernel
theorem dX1_needed_43 : decode cX1_needed 43 = .ok (.iload_n 2, 1) := by decide +kernel
theorem dX1_needed_44 : decode cX1_needed 44 = .ok (.invokevirtual 46, 3) := by decide +kernel
theorem dX1_needed_47 : decode cX1_needed 47 = .ok (.checkcast 37, 3) := by decide +kernel
theorem dX1_needed_50 : decode cX1_needed 50 = .ok (.invokevirtual 32, 3) := by decide +kernel
theorem dX1_needed_53 : decode cX1_needed 53 = .ok (.pop, 1) := by decide +kernel
theorem dX1_needed_54 : decode cX1_needed 54 = .ok (.iinc 2 1, 3) := by decide +kernel
theorem dX1_needed_57 : decode cX1_needed 57 = .ok (.goto (-47), 3) := by decide +kernel
theorem dX1_needed_60 : decode cX1_needed 60 = .ok (.aload_n 1, 1) := by decide +kernel
theorem dX1_needed_61 : decode cX1_needed 61 = .ok (.areturn, 1) := by decide +kernel
theorem dX1_neededBytes_0 : decode cX1_neededBytes 0 = .ok (.iconst 0, 1) := by decide +kernel
theorem dX1_neededBytes_1 : decode cX1_neededBytes 1 = .ok (.istore_n 1, 1) := by decide +kernel
theorem dX1_neededBytes_2 : decode cX1_neededBytes 2 = .ok (.iconst 0, 1) := by decide +kernel
theorem dX1_neededBytes_3 : decode cX1_neededBytes 3 = .ok (.istore_n 2, 1) := by decide +kernel
theorem dX1_neededBytes_4 : decode cX1_neededBytes 4 = .ok (.iload_n 2, 1) := by decide +kernel
theorem dX1_neededBytes_5 : decode cX1_neededBytes 5 = .ok (.aload_n 0, 1) := by decide +kernel
theorem dX1_neededBytes_6 : decode cX1_neededBytes 6 = .ok (.getfield 18, 3) := by decide +kernel
theorem dX1_neededBytes_9 : decode cX1_neededBytes 9 = .ok (.invokevirtual 25, 3) := by decide +kernel
theorem dX1_neededBytes_12 : decode cX1_neededBytes 12 = .ok (.if_icmp .ge 46, 3) := by decide +kernel
theorem dX1_neededBytes_15 : decode cX1_neededBytes 15 = .ok (.aload_n 0, 1) := by decide +kernel
theorem dX1_neededBytes_16 : decode cX1_neededBytes 16 = .ok (.getfield 18, 3) := by decide +kernel
theorem dX1_neededBytes_19 : decode cX1_neededBytes 19 = .ok (.iload_n 2, 1) := by decide +kernel
theorem dX1_neededBytes_20 : decode cX1_neededBytes 20 = .ok (.invokevirtual 46, 3) := by decide +kernel
theorem dX1_neededBytes_23 : decode cX1_neededBytes 23 = .ok (.checkcast 37, 3) := by decide +kernel
theorem dX1_neededBytes_26 : decode cX1_neededBytes 26 = .ok (.invokevirtual 56, 3) := by decide +kernel
theorem dX1_neededBytes_29 : decode cX1_neededBytes 29 = .ok (.ifCond .le 23, 3) := by decide +kernel
theorem dX1_neededBytes_32 : decode cX1_neededBytes 32 = .ok (.iload_n 1, 1) := by decide +kernel
theorem dX1_neededBytes_33 : decode cX1_neededBytes 33 = .ok (.aload_n 0, 1) := by decide +kernel
theorem dX1_neededBytes_34 : decode cX1_neededBytes 34 = .ok (.getfield 18, 3) := by decide +kernel
theorem dX1_neededBytes_37 : decode cX1_neededBytes 37 = .ok (.iload_n 2, 1) := by decide +kernel
theorem dX1_neededBytes_38 : decode cX1_neededBytes 38 = .ok (.invokevirtual 46, 3) := by decide +kernel
theorem dX1_neededBytes_41 : decode cX1_neededBytes 41 = .ok (.checkcast 37, 3) := by decide +kernel
theorem dX1_neededBytes_44 : decode cX1_neededBytes 44 = .ok (.invokevirtual 36, 3) := by decide +kernel
theorem dX1_neededBytes_47 : decode cX1_neededBytes 47 = .ok (.invokevirtual 29, 3) := by decide +kernel
theorem dX1_neededBytes_50 : decode cX1_neededBytes 50 = .ok (.iadd, 1) := by decide +kernel
theorem dX1_neededBytes_51 : decode cX1_neededBytes 51 = .ok (.istore_n 1, 1) := by decide +kernel
theorem dX1_neededBytes_52 : decode cX1_neededBytes 52 = .ok (.iinc 2 1, 3) := by decide +kernel
theorem dX1_neededBytes_55 : decode cX1_neededBytes 55 = .ok (.goto (-51), 3) := by decide +kernel
theorem dX1_neededBytes_58 : decode cX1_neededBytes 58 = .ok (.iload_n 1, 1) := by decide +kernel
theorem dX1_neededBytes_59 : decode cX1_neededBytes 59 = .ok (.ireturn, 1) := by decide +kernel
theorem dX2_init_0 : decode cX2_init 0 = .ok (.aload_n 0, 1) := by decide +kernel
theorem dX2_init_1 : decode cX2_init 1 = .ok (.invokespecial 3, 3) := by decide +kernel
theorem dX2_init_4 : decode cX2_init 4 = .ok (.aload_n 0, 1) := by decide +kernel
theorem dX2_init_5 : decode cX2_init 5 = .ok (.aload_n 1, 1) := by decide +kernel
theorem dX2_init_6 : decode cX2_init 6 = .ok (.putfield 9, 3) := by decide +kernel
theorem dX2_init_9 : decode cX2_init 9 = .ok (.aload_n 0, 1) := by decide +kernel
theorem dX2_init_10 : decode cX2_init 10 = .ok (.iload_n 2, 1) := by decide +kernel
theorem dX2_init_11 : decode cX2_init 11 = .ok (.putfield 15, 3) := by decide +kernel
theorem dX2_init_14 : decode cX2_init 14 = .ok (.aload_n 0, 1) := by decide +kernel
theorem dX2_init_15 : decode cX2_init 15 = .ok (.iload_n 3, 1) := by decide +kernel
theorem dX2_init_16 : decode cX2_init 16 = .ok (.putfield 19, 3) := by decide +kernel
theorem dX2_init_19 : decode cX2_init 19 = .ok (.aload_n 0, 1) := by decide +kernel
theorem dX2_init_20 : decode cX2_init 20 = .ok (.aload_n 1, 1) := by decide +kernel
theorem dX2_init_21 : decode cX2_init 21 = .ok (.iload_n 2, 1) := by decide +kernel
theorem dX2_init_22 : decode cX2_init 22 = .ok (.iload_n 3, 1) := by decide +kernel
theorem dX2_init_23 : decode cX2_init 23 = .ok (.invokestatic 22, 3) := by decide +kernel
theorem dX2_init_26 : decode cX2_init 26 = .ok (.putfield 26, 3) := by decide +kernel
theorem dX2_init_29 : decode cX2_init 29 = .ok (.return_, 1) := by decide +kernel
theorem dX2_markOf_0 : decode cX2_markOf 0 = .ok (.iconst 1, 1) := by decide +kernel
theorem dX2_markOf_1 : decode cX2_markOf 1 = .ok (.istore_n 3, 1) := by decide +kernel
theorem dX2_markOf_2 : decode cX2_markOf 2 = .ok (.iconst 0, 1) := by decide +kernel
theorem dX2_markOf_3 : decode cX2_markOf 3 = .ok (.istore 4, 2) := by decide +kernel
theorem dX2_markOf_5 : decode cX2_markOf 5 = .ok (.iconst 0, 1) := by decide +kernel
theorem dX2_markOf_6 : decode cX2_markOf 6 = .ok (.istore 5, 2) := by decide +kernel
theorem dX2_markOf_8 : decode cX2_markOf 8 = .ok (.iload 5, 2) := by decide +kernel
theorem dX2_markOf_10 : decode cX2_markOf 10 = .ok (.iload_n 2, 1) := by decide +kernel
theorem dX2_markOf_11 : decode cX2_markOf 11 = .ok (.if_icmp .ge 34, 3) := by decide +kernel
theorem dX2_markOf_14 : decode cX2_markOf 14 = .ok (.iload_n 3, 1) := by decide +kernel
theorem dX2_markOf_15 : decode cX2_markOf 15 = .ok (.aload_n 0, 1) := by decide +kernel
theorem dX2_markOf_16 : decode cX2_markOf 16 = .ok (.iload_n 1, 1) := by decide +kernel
theorem dX2_markOf_17 : decode cX2_markOf 17 = .ok (.iload 5, 2) := by decide +kernel
theorem dX2_markOf_19 : decode cX2_markOf 19 = .ok (.iadd, 1) := by decide +kernel
theorem dX2_markOf_20 : decode cX2_markOf 20 = .ok (.invokevirtual 29, 3) := by decide +kernel
theorem dX2_markOf_23 : decode cX2_markOf 23 = .ok (.iadd, 1) := by decide +kernel
theorem dX2_markOf_24 : decode cX2_markOf 24 = .ok (.sipush 251, 3) := by decide +kernel
theorem dX2_markOf_27 : decode cX2_markOf 27 = .ok (.irem, 1) := by decide +kernel
theorem dX2_markOf_28 : decode cX2_markOf 28 = .ok (.istore_n 3, 1) := by decide +kernel
theorem dX2_markOf_29 : decode cX2_markOf 29 = .ok (.iload 4, 2) := by decide +kernel
theorem dX2_markOf_31 : decode cX2_markOf 31 = .ok (.iload_n 3, 1) := by decide +kernel
theorem dX2_markOf_32 : decode cX2_markOf 32 = .ok (.iadd, 1) := by decide +kernel
theorem dX2_markOf_33 : decode cX2_markOf 33 = .ok (.sipush 251, 3) := by decide +kernel
theorem dX2_markOf_36 : decode cX2_markOf 36 = .ok (.irem, 1) := by decide +kernel
theorem dX2_markOf_37 : decode cX2_markOf 37 = .ok (.istore 4, 2) := by decide +kernel
theorem dX2_markOf_39 : decode cX2_markOf 39 = .ok (.iinc 5 1, 3) := by decide +kernel
theorem dX2_markOf_42 : decode cX2_markOf 42 = .ok (.goto (-34), 3) := by decide +kernel
theorem dX2_markOf_45 : decode cX2_markOf 45 = .ok (.sipush 256, 3) := by decide +kernel
theorem dX2_markOf_48 : decode cX2_markOf 48 = .ok (.iload 4, 2) := by decide +kernel
theorem dX2_markOf_50 : decode cX2_markOf 50 = .ok (.imul, 1) := by decide +kernel
theorem dX2_markOf_51 : decode cX2_markOf 51 = .ok (.iload_n 3, 1) := by decide +kernel
theorem dX2_markOf_52 : decode cX2_markOf 52 = .ok (.iadd, 1) := by decide +kernel
theorem dX2_markOf_53 : decode cX2_markOf 53 = .ok (.ireturn, 1) := by decide +kernel
theorem dX2_size_0 : decode cX2_size 0 = .ok (.aload_n 0, 1) := by decide +kernel
theorem dX2_size_1 : decode cX2_size 1 = .ok (.getfield 19, 3) := by decide +kernel
theorem dX2_size_4 : decode cX2_size 4 = .ok (.ireturn, 1) := by decide +kernel
theorem dX2_mark_0 : decode cX2_mark 0 = .ok (.aload_n 0, 1) := by decide +kernel
theorem dX2_mark_1 : decode cX2_mark 1 = .ok (.getfield 26, 3) := by decide +kernel
theorem dX2_mark_4 : decode cX2_mark 4 = .ok (.ireturn, 1) := by decide +kernel
theorem dX2_get_0 : decode cX2_get 0 = .ok (.aload_n 0, 1) := by decide +kernel
theorem dX2_get_1 : decode cX2_get 1 = .ok (.getfield 9, 3) := by decide +kernel
theorem dX2_get_4 : decode cX2_get 4 = .ok (.aload_n 0, 1) := by decide +kernel
theorem dX2_get_5 : decode cX2_get 5 = .ok (.getfield 15, 3) := by decide +kernel
theorem dX2_get_8 : decode cX2_get 8 = .ok (.iload_n 1, 1) := by decide +kernel
theorem dX2_get_9 : decode cX2_get 9 = .ok (.iadd, 1) := by decide +kernel
theorem dX2_get_10 : decode cX2_get 10 = .ok (.invokevirtual 29, 3) := by decide +kernel
theorem dX2_get_13 : decode cX2_get 13 = .ok (.ireturn, 1) := by decide +kernel
theorem dX2_detached_0 : decode cX2_detached 0 = .ok (.new 30, 3) := by decide +kernel
theorem dX2_detached_3 : decode cX2_detached 3 = .ok (.dup, 1) := by decide +kernel
theorem dX2_detached_4 : decode cX2_detached 4 = .ok (.aload_n 0, 1) := by decide +kernel
theorem dX2_detached_5 : decode cX2_detached 5 = .ok (.getfield 19, 3) := by decide +kernel
theorem dX2_detached_8 : decode cX2_detached 8 = .ok (.invokespecial 35, 3) := by decide +kernel
theorem dX2_detached_11 : decode cX2_detached 11 = .ok (.astore_n 1, 1) := by decide +kernel
theorem dX2_detached_12 : decode cX2_detached 12 = .ok (.aload_n 1, 1) := by decide +kernel
theorem dX2_detached_13 : decode cX2_detached 13 = .ok (.aload_n 0, 1) := by decide +kernel
theorem dX2_detached_14 : decode cX2_detached 14 = .ok (.getfield 9, 3) := by decide +kernel
theorem dX2_detached_17 : decode cX2_detached 17 = .ok (.aload_n 0, 1) := by decide +kernel
theorem dX2_detached_18 : decode cX2_detached 18 = .ok (.getfield 15, 3) := by decide +kernel
theorem dX2_detached_21 : decode cX2_detached 21 = .ok (.aload_n 0, 1) := by decide +kernel
theorem dX2_detached_22 : decode cX2_detached 22 = .ok (.getfield 19, 3) := by decide +kernel
theorem dX2_detached_25 : decode cX2_detached 25 = .ok (.invokevirtual 38, 3) := by decide +kernel
theorem dX2_detached_28 : decode cX2_detached 28 = .ok (.new 10, 3) := by decide +kernel
theorem dX2_detached_31 : decode cX2_detached 31 = .ok (.dup, 1) := by decide +kernel
theorem dX2_detached_32 : decode cX2_detached 32 = .ok (.aload_n 1, 1) := by decide +kernel
theorem dX2_detached_33 : decode cX2_detached 33 = .ok (.iconst 0, 1) := by decide +kernel
theorem dX2_detached_34 : decode cX2_detached 34 = .ok (.aload_n 0, 1) := by decide +kernel
theorem dX2_detached_35 : decode cX2_detached 35 = .ok (.getfield 19, 3) := by decide +kernel
theorem dX2_detached_38 : decode cX2_detached 38 = .ok (.invokespecial 42, 3) := by decide +kernel
theorem dX2_detached_41 : decode cX2_detached 41 = .ok (.areturn, 1) := by decide +kernel
theorem dX2_sameAs_0 : decode cX2_sameAs 0 = .ok (.aload_n 0, 1) := by decide +kernel
theorem dX2_sameAs_1 : decode cX2_sameAs 1 = .ok (.getfield 26, 3) := by decide +kernel
theorem dX2_sameAs_4 : decode cX2_sameAs 4 = .ok (.aload_n 1, 1) := by decide +kernel
theorem dX2_sameAs_5 : decode cX2_sameAs 5 = .ok (.getfield 26, 3) := by decide +kernel
theorem dX2_sameAs_8 : decode cX2_sameAs 8 = .ok (.if_icmp .ne 14, 3) := by decide +kernel
theorem dX2_sameAs_11 : decode cX2_sameAs 11 = .ok (.aload_n 0, 1) := by decide +kernel
theorem dX2_sameAs_12 : decode cX2_sameAs 12 = .ok (.getfield 19, 3) := by decide +kernel
theorem dX2_sameAs_15 : decode cX2_sameAs 15 = .ok (.aload_n 1, 1) := by decide +kernel
theorem dX2_sameAs_16 : decode cX2_sameAs 16 = .ok (.getfield 19, 3) := by decide +kernel
theorem dX2_sameAs_19 : decode cX2_sameAs 19 = .ok (.if_icmp .eq 5, 3) := by decide +kernel
theorem dX2_sameAs_22 : decode cX2_sameAs 22 = .ok (.iconst 0, 1) := by decide +kernel
theorem dX2_sameAs_23 : decode cX2_sameAs 23 = .ok (.ireturn, 1) := by decide +kernel
theorem dX2_sameAs_24 : decode cX2_sameAs 24 = .ok (.iconst 0, 1) := by decide +kernel
theorem dX2_sameAs_25 : decode cX2_sameAs 25 = .ok (.istore_n 2, 1) := by decide +kernel
theorem dX2_sameAs_26 : decode cX2_sameAs 26 = .ok (.iload_n 2, 1) := by decide +kernel
theorem dX2_sameAs_27 : decode cX2_sameAs 27 = .ok (.aload_n 0, 1) := by decide +kernel
theorem dX2_sameAs_28 : decode cX2_sameAs 28 = .ok (.getfield 19, 3) := by decide +kernel
theorem dX2_sameAs_31 : decode cX2_sameAs 31 = .ok (.if_icmp .ge 40, 3) := by decide +kernel
theorem dX2_sameAs_34 : decode cX2_sameAs 34 = .ok (.aload_n 0, 1) := by decide +kernel
theorem dX2_sameAs_35 : decode cX2_sameAs 35 = .ok (.getfield 9, 3) := by decide +kernel
theorem dX2_sameAs_38 : decode cX2_sameAs 38 = .ok (.aload_n 0, 1) := by decide +kernel
theorem dX2_sameAs_39 : decode cX2_sameAs 39 = .ok (.getfield 15, 3) := by decide +kernel
theorem dX2_sameAs_42 : decode cX2_sameAs 42 = .ok (.iload_n 2, 1) := by decide +kernel
theorem dX2_sameAs_43 : decode cX2_sameAs 43 = .ok (.iadd, 1) := by decide +kernel
theorem dX2_sameAs_44 : decode cX2_sameAs 44 = .ok (.invokevirtual 29, 3) := by decide +kernel
theorem dX2_sameAs_47 : decode cX2_sameAs 47 = .ok (.aload_n 1, 1) := by decide +kernel
theorem dX2_sameAs_48 : decode cX2_sameAs 48 = .ok (.getfield 9, 3) := by decide +kernel
theorem dX2_sameAs_51 : decode cX2_sameAs 51 = .ok (.aload_n 1, 1) := by decide +kernel
theorem dX2_sameAs_52 : decode cX2_sameAs 52 = .ok (.getfield 15, 3) := by decide +kernel
theorem dX2_sameAs_55 : decode cX2_sameAs 55 = .ok (.iload_n 2, 1) := by decide +kernel
theorem dX2_sameAs_56 : decode cX2_sameAs 56 = .ok (.iadd, 1) := by decide +kernel
theorem dX2_sameAs_57 : decode cX2_sameAs 57 = .ok (.invokevirtual 29, 3) := by decide +kernel
theorem dX2_sameAs_60 : decode cX2_sameAs 60 = .ok (.if_icmp .eq 5, 3) := by decide +kernel
theorem dX2_sameAs_63 : decode cX2_sameAs 63 = .ok (.iconst 0, 1) := by decide +kernel
theorem dX2_sameAs_64 : decode cX2_sameAs 64 = .ok (.ireturn, 1) := by decide +kernel
theorem dX2_sameAs_65 : decode cX2_sameAs 65 = .ok (.iinc 2 1, 3) := by decide +kernel
theorem dX2_sameAs_68 : decode cX2_sameAs 68 = .ok (.goto (-42), 3) := by decide +kernel
theorem dX2_sameAs_71 : decode cX2_sameAs 71 = .ok (.iconst 1, 1) := by decide +kernel
theorem dX2_sameAs_72 : decode cX2_sameAs 72 = .ok (.ireturn, 1) := by decide +kernel
theorem dX3_init_0 : decode cX3_init 0 = .ok (.aload_n 0, 1) := by decide +kernel
theorem dX3_init_1 : decode cX3_init 1 = .ok (.invokespecial 1, 3) := by decide +kernel
theorem dX3_init_4 : decode cX3_init 4 = .ok (.aload_n 0, 1) := by decide +kernel
theorem dX3_init_5 : decode cX3_init 5 = .ok (.iload_n 1, 1) := by decide +kernel
theorem dX3_init_6 : decode cX3_init 6 = .ok (.ifCond .ge 7, 3) := by decide +kernel
theorem dX3_init_9 : decode cX3_init 9 = .ok (.iconst 0, 1) := by decide +kernel
theorem dX3_init_10 : decode cX3_init 10 = .ok (.goto 4, 3) := by decide +kernel
theorem dX3_init_13 : decode cX3_init 13 = .ok (.iload_n 1, 1) := by decide +kernel
theorem dX3_init_14 : decode cX3_init 14 = .ok (.newarray .int, 2) := by decide +kernel
theorem dX3_init_16 : decode cX3_init 16 = .ok (.putfield 7, 3) := by decide +kernel
theorem dX3_init_19 : decode cX3_init 19 = .ok (.aload_n 0, 1) := by decide +kernel
theorem dX3_init_20 : decode cX3_init 20 = .ok (.iconst 0, 1) := by decide +kernel
theorem dX3_init_21 : decode cX3_init 21 = .ok (.putfield 13, 3) := by decide +kernel
theorem dX3_init_24 : decode cX3_init 24 = .ok (.return_, 1) := by decide +kernel
theorem dX3_size_0 : decode cX3_size 0 = .ok (.aload_n 0, 1) := by decide +kernel
theorem dX3_size_1 : decode cX3_size 1 = .ok (.getfield 13, 3) := by decide +kernel
theorem dX3_size_4 : decode cX3_size 4 = .ok (.ireturn, 1) := by decide +kernel
theorem dX3_get_0 : decode cX3_get 0 = .ok (.iload_n 1, 1) := by decide +kernel
theorem dX3_get_1 : decode cX3_get 1 = .ok (.ifCond .lt 20, 3) := by decide +kernel
theorem dX3_get_4 : decode cX3_get 4 = .ok (.iload_n 1, 1) := by decide +kernel
theorem dX3_get_5 : decode cX3_get 5 = .ok (.aload_n 0, 1) := by decide +kernel
theorem dX3_get_6 : decode cX3_get 6 = .ok (.getfield 13, 3) := by decide +kernel
theorem dX3_get_9 : decode cX3_get 9 = .ok (.if_icmp .ge 12, 3) := by decide +kernel
theorem dX3_get_12 : decode cX3_get 12 = .ok (.iload_n 1, 1) := by decide +kernel
theorem dX3_get_13 : decode cX3_get 13 = .ok (.aload_n 0, 1) := by decide +kernel
theorem dX3_get_14 : decode cX3_get 14 = .ok (.getfield 7, 3) := by decide +kernel
theorem dX3_get_17 : decode cX3_get 17 = .ok (.arraylength, 1) := by decide +kernel
theorem dX3_get_18 : decode cX3_get 18 = .ok (.if_icmp .lt 5, 3) := by decide +kernel
theorem dX3_get_21 : decode cX3_get 21 = .ok (.iconst 0, 1) := by decide +kernel
theorem dX3_get_22 : decode cX3_get 22 = .ok (.ireturn, 1) := by decide +kernel
theorem dX3_get_23 : decode cX3_get 23 = .ok (.aload_n 0, 1) := by decide +kernel
theorem dX3_get_24 : decode cX3_get 24 = .ok (.getfield 7, 3) := by decide +kernel
theorem dX3_get_27 : decode cX3_get 27 = .ok (.iload_n 1, 1) := by decide +kernel
theorem dX3_get_28 : decode cX3_get 28 = .ok (.iaload, 1) := by decide +kernel
theorem dX3_get_29 : decode cX3_get 29 = .ok (.ireturn, 1) := by decide +kernel
theorem dX3_add_0 : decode cX3_add 0 = .ok (.aload_n 0, 1) := by decide +kernel
theorem dX3_add_1 : decode cX3_add 1 = .ok (.aload_n 0, 1) := by decide +kernel
theorem dX3_add_2 : decode cX3_add 2 = .ok (.getfield 13, 3) := by decide +kernel
theorem dX3_add_5 : decode cX3_add 5 = .ok (.iload_n 1, 1) := by decide +kernel
theorem dX3_add_6 : decode cX3_add 6 = .ok (.invokevirtual 17, 3) := by decide +kernel
theorem dX3_add_9 : decode cX3_add 9 = .ok (.return_, 1) := by decide +kernel
theorem dX3_addPart_0 : decode cX3_addPart 0 = .ok (.iconst 0, 1) := by decide +kernel
theorem dX3_addPart_1 : decode cX3_addPart 1 = .ok (.istore 4, 2) := by decide +kernel
theorem dX3_addPart_3 : decode cX3_addPart 3 = .ok (.iload 4, 2) := by decide +kernel
theorem dX3_addPart_5 : decode cX3_addPart 5 = .ok (.iload_n 3, 1) := by decide +kernel
theorem dX3_addPart_6 : decode cX3_addPart 6 = .ok (.if_icmp .ge 21, 3) := by decide +kernel
theorem dX3_addPart_9 : decode cX3_addPart 9 = .ok (.aload_n 0, 1) := by decide +kernel
theorem dX3_addPart_10 : decode cX3_addPart 10 = .ok (.aload_n 1, 1) := by decide +kernel
theorem dX3_addPart_11 : decode cX3_addPart 11 = .ok (.iload_n 2, 1) := by decide +kernel
theorem dX3_addPart_12 : decode cX3_addPart 12 = .ok (.iload 4, 2) := by decide +kernel
theorem dX3_addPart_14 : decode cX3_addPart 14 = .ok (.iadd, 1) := by decide +kernel
theorem dX3_addPart_15 : decode cX3_addPart 15 = .ok (.invokevirtual 21, 3) := by decide +kernel
theorem dX3_addPart_18 : decode cX3_addPart 18 = .ok (.invokevirtual 25, 3) := by decide +kernel
theorem dX3_addPart_21 : decode cX3_addPart 21 = .ok (.iinc 4 1, 3) := by decide +kernel
theorem dX3_addPart_24 : decode cX3_addPart 24 = .ok (.goto (-21), 3) := by decide +kernel
theorem dX3_addPart_27 : decode cX3_addPart 27 = .ok (.return_, 1) := by decide +kernel
theorem dX3_putIn_0 : decode cX3_putIn 0 = .ok (.iload_n 1, 1) := by decide +kernel
theorem dX3_putIn_1 : decode cX3_putIn 1 = .ok (.ifCond .lt 23, 3) := by decide +kernel
theorem dX3_putIn_4 : decode cX3_putIn 4 = .ok (.iload_n 1, 1) := by decide +kernel
theorem dX3_putIn_5 : decode cX3_putIn 5 = .ok (.aload_n 0, 1) := by decide +kernel
theorem dX3_putIn_6 : decode cX3_putIn 6 = .ok (.getfield 13, 3) := by decide +kernel
theorem dX3_putIn_9 : decode cX3_putIn 9 = .ok (.if_icmp .gt 15, 3) := by decide +kernel
theorem dX3_putIn_12 : decode cX3_putIn 12 = .ok (.aload_n 0, 1) := by decide +kernel
theorem dX3_putIn_13 : decode cX3_putIn 13 = .ok (.getfield 13, 3) := by decide +kernel
theorem dX3_putIn_16 : decode cX3_putIn 16 = .ok (.aload_n 0, 1) := by decide +kernel
theorem dX3_putIn_17 : decode cX3_putIn 17 = .ok (.getfield 7, 3) := by decide +kernel
theorem dX3_putIn_20 : decode cX3_putIn 20 = .ok (.arraylength, 1) := by decide +kernel
theorem dX3_putIn_21 : decode cX3_putIn 21 = .ok (.if_icmp .lt 4, 3) := by decide +kernel
theorem dX3_putIn_24 : decode cX3_putIn 24 = .ok (.return_, 1) := by decide +kernel
theorem dX3_putIn_25 : decode cX3_putIn 25 = .ok (.aload_n 0, 1) := by decide +kernel
theorem dX3_putIn_26 : decode cX3_putIn 26 = .ok (.getfield 13, 3) := by decide +kernel
theorem dX3_putIn_29 : decode cX3_putIn 29 = .ok (.istore_n 3, 1) := by decide +kernel
theorem dX3_putIn_30 : decode cX3_putIn 30 = .ok (.iload_n 3, 1) := by decide +kernel
theorem dX3_putIn_31 : decode cX3_putIn 31 = .ok (.iload_n 1, 1) := by decide +kernel
theorem dX3_putIn_32 : decode cX3_putIn 32 = .ok (.if_icmp .le 23, 3) := by decide +kernel
theorem dX3_putIn_35 : decode cX3_putIn 35 = .ok (.aload_n 0, 1) := by decide +kernel
theorem dX3_putIn_36 : decode cX3_putIn 36 = .ok (.getfield 7, 3) := by decide +kernel
theorem dX3_putIn_39 : decode cX3_putIn 39 = .ok (.iload_n 3, 1) := by decide +kernel
theorem dX3_putIn_40 : decode cX3_putIn 40 = .ok (.aload_n 0, 1) := by decide +kernel
theorem dX3_putIn_41 : decode cX3_putIn 41 = .ok (.getfield 7, 3) := by decide +kernel
theorem dX3_putIn_44 : decode cX3_putIn 44 = .ok (.iload_n 3, 1) := by decide +kernel
theorem dX3_putIn_45 : decode cX3_putIn 45 = .ok (.iconst 1, 1) := by decide +kernel
theorem dX3_putIn_46 : decode cX3_putIn 46 = .ok (.isub, 1) := by decide +kernel
theorem dX3_putIn_47 : decode cX3_putIn 47 = .ok (.iaload, 1) := by decide +kernel
theorem dX3_putIn_48 : decode cX3_putIn 48 = .ok (.iastore, 1) := by decide +kernel
theorem dX3_putIn_49 : decode cX3_putIn 49 = .ok (.iinc 3 (-1), 3) := by decide +kernel
theorem dX3_putIn_52 : decode cX3_putIn 52 = .ok (.goto (-22), 3) := by decide +kernel
theorem dX3_putIn_55 : decode cX3_putIn 55 = .ok (.aload_n 0, 1) := by decide +kernel
theorem dX3_putIn_56 : decode cX3_putIn 56 = .ok (.getfield 7, 3) := by decide +kernel
theorem dX3_putIn_59 : decode cX3_putIn 59 = .ok (.iload_n 1, 1) := by decide +kernel
theorem dX3_putIn_60 : decode cX3_putIn 60 = .ok (.iload_n 2, 1) := by decide +kernel
theorem dX3_putIn_61 : decode cX3_putIn 61 = .ok (.iastore, 1) := by decide +kernel
theorem dX3_putIn_62 : decode cX3_putIn 62 = .ok (.aload_n 0, 1) := by decide +kernel
theorem dX3_putIn_63 : decode cX3_putIn 63 = .ok (.dup, 1) := by decide +kernel
theorem dX3_putIn_64 : decode cX3_putIn 64 = .ok (.getfield 13, 3) := by decide +kernel
theorem dX3_putIn_67 : decode cX3_putIn 67 = .ok (.iconst 1, 1) := by decide +kernel
theorem dX3_putIn_68 : decode cX3_putIn 68 = .ok (.iadd, 1) := by decide +kernel
theorem dX3_putIn_69 : decode cX3_putIn 69 = .ok (.putfield 13, 3) := by decide +kernel
theorem dX3_putIn_72 : decode cX3_putIn 72 = .ok (.return_, 1) := by decide +kernel
theorem dX3_takeOut_0 : decode cX3_takeOut 0 = .ok (.iload_n 1, 1) := by decide +kernel
theorem dX3_takeOut_1 : decode cX3_takeOut 1 = .ok (.iload_n 2, 1) := by decide +kernel
theorem dX3_takeOut_2 : decode cX3_takeOut 2 = .ok (.aload_n 0, 1) := by decide +kernel
theorem dX3_takeOut_3 : decode cX3_takeOut 3 = .ok (.getfield 13, 3) := by decide +kernel
theorem dX3_takeOut_6 : decode cX3_takeOut 6 = .ok (.invokestatic 29, 3) := by decide +kernel
theorem dX3_takeOut_9 : decode cX3_takeOut 9 = .ok (.ifCond .ne 15, 3) := by decide +kernel
theorem dX3_takeOut_12 : decode cX3_takeOut 12 = .ok (.aload_n 0, 1) := by decide +kernel
theorem dX3_takeOut_13 : decode cX3_takeOut 13 = .ok (.getfield 13, 3) := by decide +kernel
theorem dX3_takeOut_16 : decode cX3_takeOut 16 = .ok (.aload_n 0, 1) := by decide +kernel
theorem dX3_takeOut_17 : decode cX3_takeOut 17 = .ok (.getfield 7, 3) := by decide +kernel
theorem dX3_takeOut_20 : decode cX3_takeOut 20 = .ok (.arraylength, 1) := by decide +kernel
theorem dX3_takeOut_21 : decode cX3_takeOut 21 = .ok (.if_icmp .le 4, 3) := by decide +kernel
theorem dX3_takeOut_24 : decode cX3_takeOut 24 = .ok (.return_, 1) := by decide +kernel
theorem dX3_takeOut_25 : decode cX3_takeOut 25 = .ok (.iload_n 1, 1) := by decide +kernel
theorem dX3_takeOut_26 : decode cX3_takeOut 26 = .ok (.istore_n 3, 1) := by decide +kernel
theorem dX3_takeOut_27 : decode cX3_takeOut 27 = .ok (.iload_n 3, 1) := by decide +kernel
theorem dX3_takeOut_28 : decode cX3_takeOut 28 = .ok (.aload_n 0, 1) := by decide +kernel
theorem dX3_takeOut_29 : decode cX3_takeOut 29 = .ok (.getfield 13, 3) := by decide +kernel
theorem dX3_takeOut_32 : decode cX3_takeOut 32 = .ok (.iload_n 2, 1) := by decide +kernel
theorem dX3_takeOut_33 : decode cX3_takeOut 33 = .ok (.isub, 1) := by decide +kernel
theorem dX3_takeOut_34 : decode cX3_takeOut 34 = .ok (.if_icmp .ge 23, 3) := by decide +kernel
theorem dX3_takeOut_37 : decode cX3_takeOut 37 = .ok (.aload_n 0, 1) := by decide +kernel
theorem dX3_takeOut_38 : decode cX3_takeOut 38 = .ok (.getfield 7, 3) := by decide +kernel
theorem dX3_takeOut_41 : decode cX3_takeOut 41 = .ok (.iload_n 3, 1) := by decide +kernel
theorem dX3_takeOut_42 : decode cX3_takeOut 42 = .ok (.aload_n 0, 1) := by decide +kernel
theorem dX3_takeOut_43 : decode cX3_takeOut 43 = .ok (.getfield 7, 3) := by decide +kernel
theorem dX3_takeOut_46 : decode cX3_takeOut 46 = .ok (.iload_n 3, 1) := by decide +kernel
theorem dX3_takeOut_47 : decode cX3_takeOut 47 = .ok (.iload_n 2, 1) := by decide +kernel
theorem dX3_takeOut_48 : decode cX3_takeOut 48 = .ok (.iadd, 1) := by decide +kernel
theorem dX3_takeOut_49 : decode cX3_takeOut 49 = .ok (.iaload, 1) := by decide +kernel
theorem dX3_takeOut_50 : decode cX3_takeOut 50 = .ok (.iastore, 1) := by decide +kernel
theorem dX3_takeOut_51 : decode cX3_takeOut 51 = .ok (.iinc 3 1, 3) := by decide +kernel
theorem dX3_takeOut_54 : decode cX3_takeOut 54 = .ok (.goto (-27), 3) := by decide +kernel
theorem dX3_takeOut_57 : decode cX3_takeOut 57 = .ok (.aload_n 0, 1) := by decide +kernel
theorem dX3_takeOut_58 : decode cX3_takeOut 58 = .ok (.dup, 1) := by decide +kernel
theorem dX3_takeOut_59 : decode cX3_takeOut 59 = .ok (.getfield 13, 3) := by decide +kernel
theorem dX3_takeOut_62 : decode cX3_takeOut 62 = .ok (.iload_n 2, 1) := by decide +kernel
theorem dX3_takeOut_63 : decode cX3_takeOut 63 = .ok (.isub, 1) := by decide +kernel
theorem dX3_takeOut_64 : decode cX3_takeOut 64 = .ok (.putfield 13, 3) := by decide +kernel
theorem dX3_takeOut_67 : decode cX3_takeOut 67 = .ok (.return_, 1) := by decide +kernel
theorem dX4_init_0 : decode cX4_init 0 = .ok (.aload_n 0, 1) := by decide +kernel
theorem dX4_init_1 : decode cX4_init 1 = .ok (.invokespecial 3, 3) := by decide +kernel
theorem dX4_init_4 : decode cX4_init 4 = .ok (.aload_n 0, 1) := by decide +kernel
theorem dX4_init_5 : decode cX4_init 5 = .ok (.new 9, 3) := by decide +kernel
theorem dX4_init_8 : decode cX4_init 8 = .ok (.dup, 1) := by decide +kernel
theorem dX4_init_9 : decode cX4_init 9 = .ok (.invokespecial 11, 3) := by decide +kernel
theorem dX4_init_12 : decode cX4_init 12 = .ok (.putfield 12, 3) := by decide +kernel
theorem dX4_init_15 : decode cX4_init 15 = .ok (.aload_n 0, 1) := by decide +kernel
theorem dX4_init_16 : decode cX4_init 16 = .ok (.new 9, 3) := by decide +kernel
theorem dX4_init_19 : decode cX4_init 19 = .ok (.dup, 1) := by decide +kernel
theorem dX4_init_20 : decode cX4_init 20 = .ok (.invokespecial 11, 3) := by decide +kernel
theorem dX4_init_23 : decode cX4_init 23 = .ok (.putfield 18, 3) := by decide +kernel
theorem dX4_init_26 : decode cX4_init 26 = .ok (.aload_n 0, 1) := by decide +kernel
theorem dX4_init_27 : decode cX4_init 27 = .ok (.new 21, 3) := by decide +kernel
theorem dX4_init_30 : decode cX4_init 30 = .ok (.dup, 1) := by decide +kernel
theorem dX4_init_31 : decode cX4_init 31 = .ok (.iconst 0, 1) := by decide +kernel
theorem dX4_init_32 : decode cX4_init 32 = .ok (.invokespecial 23, 3) := by decide +kernel
theorem dX4_init_35 : decode cX4_init 35 = .ok (.putfield 26, 3) := by decide +kernel
theorem dX4_init_38 : decode cX4_init 38 = .ok (.aload_n 0, 1) := by decide +kernel
theorem dX4_init_39 : decode cX4_init 39 = .ok (.getfield 12, 3) := by decide +kernel
theorem dX4_init_42 : decode cX4_init 42 = .ok (.aload_n 0, 1) := by decide +kernel
theorem dX4_init_43 : decode cX4_init 43 = .ok (.getfield 26, 3) := by decide +kernel
theorem dX4_init_46 : decode cX4_init 46 = .ok (.invokevirtual 30, 3) := by decide +kernel
theorem dX4_init_49 : decode cX4_init 49 = .ok (.pop, 1) := by decide +kernel
theorem dX4_init_50 : decode cX4_init 50 = .ok (.aload_n 0, 1) := by decide +kernel
theorem dX4_init_51 : decode cX4_init 51 = .ok (.iconst 0, 1) := by decide +kernel
theorem dX4_init_52 : decode cX4_init 52 = .ok (.putfield 34, 3) := by decide +kernel
theorem dX4_init_55 : decode cX4_init 55 = .ok (.aload_n 0, 1) := by decide +kernel
theorem dX4_init_56 : decode cX4_init 56 = .ok (.iconst 0, 1) := by decide +kernel
theorem dX4_init_57 : decode cX4_init 57 = .ok (.putfield 38, 3) := by decide +kernel
theorem dX4_init_60 : decode cX4_init 60 = .ok (.aload_n 0, 1) := by decide +kernel
theorem dX4_init_61 : decode cX4_init 61 = .ok (.iconst 0, 1) := by decide +kernel
theorem dX4_init_62 : decode cX4_init 62 = .ok (.putfield 41, 3) := by decide +kernel
theorem dX4_init_65 : decode cX4_init 65 = .ok (.return_, 1) := by decide +kernel
theorem dX4_hits_0 : decode cX4_hits 0 = .ok (.aload_n 0, 1) := by decide +kernel
theorem dX4_hits_1 : decode cX4_hits 1 = .ok (.getfield 38, 3) := by decide +kernel
theorem dX4_hits_4 : decode cX4_hits 4 = .ok (.ireturn, 1) := by decide +kernel
theorem dX4_reads_0 : decode cX4_reads 0 = .ok (.aload_n 0, 1) := by decide +kernel
theorem dX4_reads_1 : decode cX4_reads 1 = .ok (.getfield 41, 3) := by decide +kernel
theorem dX4_reads_4 : decode cX4_reads 4 = .ok (.ireturn, 1) := by decide +kernel
theorem dX4_containerCount_0 : decode cX4_containerCount 0 = .ok (.aload_n 0, 1) := by decide +kernel
theorem dX4_containerCount_1 : decode cX4_containerCount 1 = .ok (.getfield 12, 3) := by decide +kernel
theorem dX4_containerCount_4 : decode cX4_containerCount 4 = .ok (.invokevirtual 44, 3) := by decide +kernel
theorem dX4_containerCount_7 : decode cX4_containerCount 7 = .ok (.ireturn, 1) := by decide +kernel
theorem dX4_openNumber_0 : decode cX4_openNumber 0 = .ok (.aload_n 0, 1) := by decide +kernel
theorem dX4_openNumber_1 : decode cX4_openNumber 1 = .ok (.getfield 26, 3) := by decide +kernel
theorem dX4_openNumber_4 : decode cX4_openNumber 4 = .ok (.invokevirtual 48, 3) := by decide +kernel
theorem dX4_openNumber_7 : decode cX4_openNumber 7 = .ok (.ireturn, 1) := by decide +kernel
theorem dX4_recentNumber_0 : decode cX4_recentNumber 0 = .ok (.iload_n 1, 1) := by decide +kernel
theorem dX4_recentNumber_1 : decode cX4_recentNumber 1 = .ok (.aload_n 0, 1) := by decide +kernel
theorem dX4_recentNumber_2 : decode cX4_recentNumber 2 = .ok (.getfield 18, 3) := by decide +kernel
theorem dX4_recentNumber_5 : decode cX4_recentNumber 5 = .ok (.invokevirtual 44, 3) := by decide +kernel
theorem dX4_recentNumber_8 : decode cX4_recentNumber 8 = .ok (.invokestatic 51, 3) := by decide +kernel
theorem dX4_recentNumber_11 : decode cX4_recentNumber 11 = .ok (.ifCond .eq 7, 3) := by decide +kernel
theorem dX4_recentNumber_14 : decode cX4_recentNumber 14 = .ok (.iconst (-1), 1) := by decide +kernel
theorem dX4_recentNumber_15 : decode cX4_recentNumber 15 = .ok (.goto 17, 3) := by decide +kernel
theorem dX4_recentNumber_18 : decode cX4_recentNumber 18 = .ok (.aload_n 0, 1) := by decide +kernel
theorem dX4_recentNumber_19 : decode cX4_recentNumber 19 = .ok (.getfield 18, 3) := by decide +kernel
theorem dX4_recentNumber_22 : decode cX4_recentNumber 22 = .ok (.iload_n 1, 1) := by decide +kernel
theorem dX4_recentNumber_23 : decode cX4_recentNumber 23 = .ok (.invokevirtual 55, 3) := by decide +kernel
theorem dX4_recentNumber_26 : decode cX4_recentNumber 26 = .ok (.checkcast 21, 3) := by decide +kernel
theorem dX4_recentNumber_29 : decode cX4_recentNumber 29 = .ok (.invokevirtual 48, 3) := by decide +kernel
theorem dX4_recentNumber_32 : decode cX4_recentNumber 32 = .ok (.ireturn, 1) := by decide +kernel
theorem dX4_has_0 : decode cX4_has 0 = .ok (.aload_n 0, 1) := by decide +kernel
theorem dX4_has_1 : decode cX4_has 1 = .ok (.getfield 12, 3) := by decide +kernel
theorem dX4_has_4 : decode cX4_has 4 = .ok (.aload_n 1, 1) := by decide +kernel
theorem dX4_has_5 : decode cX4_has 5 = .ok (.invokestatic 59, 3) := by decide +kernel
theorem dX4_has_8 : decode cX4_has 8 = .ok (.ifnull 7, 3) := by decide +kernel
theorem dX4_has_11 : decode cX4_has 11 = .ok (.iconst 1, 1) := by decide +kernel
theorem dX4_has_12 : decode cX4_has 12 = .ok (.goto 4, 3) := by decide +kernel
theorem dX4_has_15 : decode cX4_has 15 = .ok (.iconst 0, 1) := by decide +kernel
theorem dX4_has_16 : decode cX4_has 16 = .ok (.ireturn, 1) := by decide +kernel
theorem dX4_findChunk_0 : decode cX4_findChunk 0 = .ok (.iconst 0, 1) := by decide +kernel
theorem dX4_findChunk_1 : decode cX4_findChunk 1 = .ok (.istore_n 2, 1) := by decide +kernel
theorem dX4_findChunk_2 : decode cX4_findChunk 2 = .ok (.iload_n 2, 1) := by decide +kernel
theorem dX4_findChunk_3 : decode cX4_findChunk 3 = .ok (.aload_n 0, 1) := by decide +kernel
theorem dX4_findChunk_4 : decode cX4_findChunk 4 = .ok (.getfield 12, 3) := by decide +kernel
theorem dX4_findChunk_7 : decode cX4_findChunk 7 = .ok (.invokevirtual 44, 3) := by decide +kernel
theorem dX4_findChunk_10 : decode cX4_findChunk 10 = .ok (.if_icmp .ge 31, 3) := by decide +kernel
theorem dX4_findChunk_13 : decode cX4_findChunk 13 = .ok (.aload_n 0, 1) := by decide +kernel
theorem dX4_findChunk_14 : decode cX4_findChunk 14 = .ok (.getfield 12, 3) := by decide +kernel
theorem dX4_findChunk_17 : decode cX4_findChunk 17 = .ok (.iload_n 2, 1) := by decide +kernel
theorem dX4_findChunk_18 : decode cX4_findChunk 18 = .ok (.invokevirtual 55, 3) := by decide +kernel
theorem dX4_findChunk_21 : decode cX4_findChunk 21 = .ok (.checkcast 21, 3) := by decide +kernel
theorem dX4_findChunk_24 : decode cX4_findChunk 24 = .ok (.iload_n 1, 1) := by decide +kernel
theorem dX4_findChunk_25 : decode cX4_findChunk 25 = .ok (.invokevirtual 63, 3) := by decide +kernel
theorem dX4_findChunk_28 : decode cX4_findChunk 28 = .ok (.astore_n 3, 1) := by decide +kernel
theorem dX4_findChunk_29 : decode cX4_findChunk 29 = .ok (.aload_n 3, 1) := by decide +kernel
theorem dX4_findChunk_30 : decode cX4_findChunk 30 = .ok (.ifnull 5, 3) := by decide +kernel
theorem dX4_findChunk_33 : decode cX4_findChunk 33 = .ok (.aload_n 3, 1) := by decide +kernel
theorem dX4_findChunk_34 : decode cX4_findChunk 34 = .ok (.areturn, 1) := by decide +kernel
theorem dX4_findChunk_35 : decode cX4_findChunk 35 = .ok (.iinc 2 1, 3) := by decide +kernel
theorem dX4_findChunk_38 : decode cX4_findChunk 38 = .ok (.goto (-36), 3) := by decide +kernel
theorem dX4_findChunk_41 : decode cX4_findChunk 41 = .ok (.aconst_null, 1) := by decide +kernel
theorem dX4_findChunk_42 : decode cX4_findChunk 42 = .ok (.areturn, 1) := by decide +kernel
theorem dX4_chunkCount_0 : decode cX4_chunkCount 0 = .ok (.iconst 0, 1) := by decide +kernel
theorem dX4_chunkCount_1 : decode cX4_chunkCount 1 = .ok (.istore_n 1, 1) := by decide +kernel
theorem dX4_chunkCount_2 : decode cX4_chunkCount 2 = .ok (.iconst 0, 1) := by decide +kernel
theorem dX4_chunkCount_3 : decode cX4_chunkCount 3 = .ok (.istore_n 2, 1) := by decide +kernel
theorem dX4_chunkCount_4 : decode cX4_chunkCount 4 = .ok (.iload_n 2, 1) := by decide +kernel
theorem dX4_chunkCount_5 : decode cX4_chunkCount 5 = .ok (.aload_n 0, 1) := by decide +kernel
theorem dX4_chunkCount_6 : decode cX4_chunkCount 6 = .ok (.getfield 12, 3) := by decide +kernel
theorem dX4_chunkCount_9 : decode cX4_chunkCount 9 = .ok (.invokevirtual 44, 3) := by decide +kernel
theorem dX4_chunkCount_12 : decode cX4_chunkCount 12 = .ok (.if_icmp .ge 26, 3) := by decide +kernel
theorem dX4_chunkCount_15 : decode cX4_chunkCount 15 = .ok (.iload_n 1, 1) := by decide +kernel
theorem dX4_chunkCount_16 : decode cX4_chunkCount 16 = .ok (.aload_n 0, 1) := by decide +kernel
theorem dX4_chunkCount_17 : decode cX4_chunkCount 17 = .ok (.getfield 12, 3) := by decide +kernel
theorem dX4_chunkCount_20 : decode cX4_chunkCount 20 = .ok (.iload_n 2, 1) := by decide +kernel
theorem dX4_chunkCount_21 : decode cX4_chunkCount 21 = .ok (.invokevirtual 55, 3) := by decide +kernel
theorem dX4_chunkCount_24 : decode cX4_chunkCount 24 = .ok (.checkcast 21, 3) := by decide +kernel
theorem dX4_chunkCount_27 : decode cX4_chunkCount 27 = .ok (.invokevirtual 67, 3) := by decide +kernel
theorem dX4_chunkCount_30 : decode cX4_chunkCount 30 = .ok (.iadd, 1) := by decide +kernel
theorem dX4_chunkCount_31 : decode cX4_chunkCount 31 = .ok (.istore_n 1, 1) := by decide +kernel
theorem dX4_chunkCount_32 : decode cX4_chunkCount 32 = .ok (.iinc 2 1, 3) := by decide +kernel
theorem dX4_chunkCount_35 : decode cX4_chunkCount 35 = .ok (.goto (-31), 3) := by decide +kernel
theorem dX4_chunkCount_38 : decode cX4_chunkCount 38 = .ok (.iload_n 1, 1) := by decide +kernel
theorem dX4_chunkCount_39 : decode cX4_chunkCount 39 = .ok (.ireturn, 1) := by decide +kernel
theorem dX4_filledBytes_0 : decode cX4_filledBytes 0 = .ok (.iconst 0, 1) := by decide +kernel
theorem dX4_filledBytes_1 : decode cX4_filledBytes 1 = .ok (.istore_n 1, 1) := by decide +kernel
theorem dX4_filledBytes_2 : decode cX4_filledBytes 2 = .ok (.iconst 0, 1) := by decide +kernel
theorem dX4_filledBytes_3 : decode cX4_filledBytes 3 = .ok (.istore_n 2, 1) := by decide +kernel
theorem dX4_filledBytes_4 : decode cX4_filledBytes 4 = .ok (.iload_n 2, 1) := by decide +kernel
theorem dX4_filledBytes_5 : decode cX4_filledBytes 5 = .ok (.aload_n 0, 1) := by decide +kernel
theorem dX4_filledBytes_6 : decode cX4_filledBytes 6 = .ok (.getfield 12, 3) := by decide +kernel
theorem dX4_filledBytes_9 : decode cX4_filledBytes 9 = .ok (.invokevirtual 44, 3) := by decide +kernel
theorem dX4_filledBytes_12 : decode cX4_filledBytes 12 = .ok (.if_icmp .ge 26, 3) := by decide +kernel
theorem dX4_filledBytes_15 : decode cX4_filledBytes 15 = .ok (.iload_n 1, 1) := by decide +kernel
theorem dX4_filledBytes_16 : decode cX4_filledBytes 16 = .ok (.aload_n 0, 1) := by decide +kernel
theorem dX4_filledBytes_17 : decode cX4_filledBytes 17 = .ok (.getfield 12, 3) := by decide +kernel
theorem dX4_filledBytes_20 : decode cX4_filledBytes 20 = .ok (.iload_n 2, 1) := by decide +kernel
theorem dX4_filledBytes_21 : decode cX4_filledBytes 21 = .ok (.invokevirtual 55, 3) := by decide +kernel
theorem dX4_filledBytes_24 : decode cX4_filledBytes 24 = .ok (.checkcast 21, 3) := by decide +kernel
theorem dX4_filledBytes_27 : decode cX4_filledBytes 27 = .ok (.invokevirtual 70, 3) := by decide +kernel
theorem dX4_filledBytes_30 : decode cX4_filledBytes 30 = .ok (.iadd, 1) := by decide +kernel
theorem dX4_filledBytes_31 : decode cX4_filledBytes 31 = .ok (.istore_n 1, 1) := by decide +kernel
theorem dX4_filledBytes_32 : decode cX4_filledBytes 32 = .ok (.iinc 2 1, 3) := by decide +kernel
theorem dX4_filledBytes_35 : decode cX4_filledBytes 35 = .ok (.goto (-31), 3) := by decide +kernel
theorem dX4_filledBytes_38 : decode cX4_filledBytes 38 = .ok (.iload_n 1, 1) := by decide +kernel
theorem dX4_filledBytes_39 : decode cX4_filledBytes 39 = .ok (.ireturn, 1) := by decide +kernel
theorem dX4_garbageBytes_0 : decode cX4_garbageBytes 0 = .ok (.iconst 0, 1) := by decide +kernel
theorem dX4_garbageBytes_1 : decode cX4_garbageBytes 1 = .ok (.istore_n 1, 1) := by decide +kernel
theorem dX4_garbageBytes_2 : decode cX4_garbageBytes 2 = .ok (.iconst 0, 1) := by decide +kernel
theorem dX4_garbageBytes_3 : decode cX4_garbageBytes 3 = .ok (.istore_n 2, 1) := by decide +kernel
theorem dX4_garbageBytes_4 : decode cX4_garbageBytes 4 = .ok (.iload_n 2, 1) := by decide +kernel
theorem dX4_garbageBytes_5 : decode cX4_garbageBytes 5 = .ok (.aload_n 0, 1) := by decide +kernel
theorem dX4_garbageBytes_6 : decode cX4_garbageBytes 6 = .ok (.getfield 12, 3) := by decide +kernel
theorem dX4_garbageBytes_9 : decode cX4_garbageBytes 9 = .ok (.invokevirtual 44, 3) := by decide +kernel
theorem dX4_garbageBytes_12 : decode cX4_garbageBytes 12 = .ok (.if_icmp .ge 41, 3) := by decide +kernel
theorem dX4_garbageBytes_15 : decode cX4_garbageBytes 15 = .ok (.iload_n 1, 1) := by decide +kernel
theorem dX4_garbageBytes_16 : decode cX4_garbageBytes 16 = .ok (.aload_n 0, 1) := by decide +kernel
theorem dX4_garbageBytes_17 : decode cX4_garbageBytes 17 = .ok (.getfield 12, 3) := by decide +kernel
theorem dX4_garbageBytes_20 : decode cX4_garbageBytes 20 = .ok (.iload_n 2, 1) := by decide +kernel
theorem dX4_garbageBytes_21 : decode cX4_garbageBytes 21 = .ok (.invokevirtual 55, 3) := by decide +kernel
theorem dX4_garbageBytes_24 : decode cX4_garbageBytes 24 = .ok (.checkcast 21, 3) := by decide +kernel
theorem dX4_garbageBytes_27 : decode cX4_garbageBytes 27 = .ok (.invokevirtual 70, 3) := by decide +kernel
theorem dX4_garbageBytes_30 : decode cX4_garbageBytes 30 = .ok (.aload_n 0, 1) := by decide +kernel
theorem dX4_garbageBytes_31 : decode cX4_garbageBytes 31 = .ok (.getfield 12, 3) := by decide +kernel
theorem dX4_garbageBytes_34 : decode cX4_garbageBytes 34 = .ok (.iload_n 2, 1) := by decide +kernel
theorem dX4_garbageBytes_35 : decode cX4_garbageBytes 35 = .ok (.invokevirtual 55, 3) := by decide +kernel
theorem dX4_garbageBytes_38 : decode cX4_garbageBytes 38 = .ok (.checkcast 21, 3) := by decide +kernel
theorem dX4_garbageBytes_41 : decode cX4_garbageBytes 41 = .ok (.invokevirtual 73, 3) := by decide +kernel
theorem dX4_garbageBytes_44 : decode cX4_garbageBytes 44 = .ok (.isub, 1) := by decide +kernel
theorem dX4_garbageBytes_45 : decode cX4_garbageBytes 45 = .ok (.iadd, 1) := by decide +kernel
theorem dX4_garbageBytes_46 : decode cX4_garbageBytes 46 = .ok (.istore_n 1, 1) := by decide +kernel
theorem dX4_garbageBytes_47 : decode cX4_garbageBytes 47 = .ok (.iinc 2 1, 3) := by decide +kernel
theorem dX4_garbageBytes_50 : decode cX4_garbageBytes 50 = .ok (.goto (-46), 3) := by decide +kernel
theorem dX4_garbageBytes_53 : decode cX4_garbageBytes 53 = .ok (.iload_n 1, 1) := by decide +kernel
theorem dX4_garbageBytes_54 : decode cX4_garbageBytes 54 = .ok (.ireturn, 1) := by decide +kernel
theorem dX4_chunkFor_0 : decode cX4_chunkFor 0 = .ok (.aload_n 0, 1) := by decide +kernel
theorem dX4_chunkFor_1 : decode cX4_chunkFor 1 = .ok (.getfield 18, 3) := by decide +kernel
theorem dX4_chunkFor_4 : decode cX4_chunkFor 4 = .ok (.aload_n 1, 1) := by decide +kernel
theorem dX4_chunkFor_5 : decode cX4_chunkFor 5 = .ok (.invokestatic 59, 3) := by decide +kernel
theorem dX4_chunkFor_8 : decode cX4_chunkFor 8 = .ok (.astore_n 2, 1) := by decide +kernel
theorem dX4_chunkFor_9 : decode cX4_chunkFor 9 = .ok (.aload_n 2, 1) := by decide +kernel
theorem dX4_chunkFor_10 : decode cX4_chunkFor 10 = .ok (.ifnull 16, 3) := by decide +kernel
theorem dX4_chunkFor_13 : decode cX4_chunkFor 13 = .ok (.aload_n 0, 1) := by decide +kernel
theorem dX4_chunkFor_14 : decode cX4_chunkFor 14 = .ok (.dup, 1) := by decide +kernel
theorem dX4_chunkFor_15 : decode cX4_chunkFor 15 = .ok (.getfield 38, 3) := by decide +kernel
theorem dX4_chunkFor_18 : decode cX4_chunkFor 18 = .ok (.iconst 1, 1) := by decide +kernel
theorem dX4_chunkFor_19 : decode cX4_chunkFor 19 = .ok (.iadd, 1) := by decide +kernel
theorem dX4_chunkFor_20 : decode cX4_chunkFor 20 = .ok (.putfield 38, 3) := by decide +kernel
theorem dX4_chunkFor_23 : decode cX4_chunkFor 23 = .ok (.goto 22, 3) := by decide +kernel
theorem dX4_chunkFor_26 : decode cX4_chunkFor 26 = .ok (.aload_n 0, 1) := by decide +kernel
theorem dX4_chunkFor_27 : decode cX4_chunkFor 27 = .ok (.dup, 1) := by decide +kernel
theorem dX4_chunkFor_28 : decode cX4_chunkFor 28 = .ok (.getfield 41, 3) := by decide +kernel
theorem dX4_chunkFor_31 : decode cX4_chunkFor 31 = .ok (.iconst 1, 1) := by decide +kernel
theorem dX4_chunkFor_32 : decode cX4_chunkFor 32 = .ok (.iadd, 1) := by decide +kernel
theorem dX4_chunkFor_33 : decode cX4_chunkFor 33 = .ok (.putfield 41, 3) := by decide +kernel
theorem dX4_chunkFor_36 : decode cX4_chunkFor 36 = .ok (.aload_n 0, 1) := by decide +kernel
theorem dX4_chunkFor_37 : decode cX4_chunkFor 37 = .ok (.getfield 12, 3) := by decide +kernel
theorem dX4_chunkFor_40 : decode cX4_chunkFor 40 = .ok (.aload_n 1, 1) := by decide +kernel
theorem dX4_chunkFor_41 : decode cX4_chunkFor 41 = .ok (.invokestatic 59, 3) := by decide +kernel
theorem dX4_chunkFor_44 : decode cX4_chunkFor 44 = .ok (.astore_n 2, 1) := by decide +kernel
theorem dX4_chunkFor_45 : decode cX4_chunkFor 45 = .ok (.aload_n 2, 1) := by decide +kernel
theorem dX4_chunkFor_46 : decode cX4_chunkFor 46 = .ok (.ifnonnull 9, 3) := by decide +kernel
theorem dX4_chunkFor_49 : decode cX4_chunkFor 49 = .ok (.aload_n 0, 1) := by decide +kernel
theorem dX4_chunkFor_50 : decode cX4_chunkFor 50 = .ok (.aload_n 1, 1) := by decide +kernel
theorem dX4_chunkFor_51 : decode cX4_chunkFor 51 = .ok (.invokevirtual 76, 3) := by decide +kernel
theorem dX4_chunkFor_54 : decode cX4_chunkFor 54 = .ok (.astore_n 2, 1) := by decide +kernel
theorem dX4_chunkFor_55 : decode cX4_chunkFor 55 = .ok (.aload_n 0, 1) := by decide +kernel
theorem dX4_chunkFor_56 : decode cX4_chunkFor 56 = .ok (.aload_n 2, 1) := by decide +kernel
theorem dX4_chunkFor_57 : decode cX4_chunkFor 57 = .ok (.invokevirtual 80, 3) := by decide +kernel
theorem dX4_chunkFor_60 : decode cX4_chunkFor 60 = .ok (.invokevirtual 86, 3) := by decide +kernel
theorem dX4_chunkFor_63 : decode cX4_chunkFor 63 = .ok (.aload_n 2, 1) := by decide +kernel
theorem dX4_chunkFor_64 : decode cX4_chunkFor 64 = .ok (.areturn, 1) := by decide +kernel
theorem dX4_chunkIn_0 : decode cX4_chunkIn 0 = .ok (.iconst 0, 1) := by decide +kernel
theorem dX4_chunkIn_1 : decode cX4_chunkIn 1 = .ok (.istore_n 2, 1) := by decide +kernel
theorem dX4_chunkIn_2 : decode cX4_chunkIn 2 = .ok (.iload_n 2, 1) := by decide +kernel
theorem dX4_chunkIn_3 : decode cX4_chunkIn 3 = .ok (.aload_n 0, 1) := by decide +kernel
theorem dX4_chunkIn_4 : decode cX4_chunkIn 4 = .ok (.invokevirtual 44, 3) := by decide +kernel
theorem dX4_chunkIn_7 : decode cX4_chunkIn 7 = .ok (.if_icmp .ge 28, 3) := by decide +kernel
theorem dX4_chunkIn_10 : decode cX4_chunkIn 10 = .ok (.aload_n 0, 1) := by decide +kernel
theorem dX4_chunkIn_11 : decode cX4_chunkIn 11 = .ok (.iload_n 2, 1) := by decide +kernel
theorem dX4_chunkIn_12 : decode cX4_chunkIn 12 = .ok (.invokevirtual 55, 3) := by decide +kernel
theorem dX4_chunkIn_15 : decode cX4_chunkIn 15 = .ok (.checkcast 21, 3) := by decide +kernel
theorem dX4_chunkIn_18 : decode cX4_chunkIn 18 = .ok (.aload_n 1, 1) := by decide +kernel
theorem dX4_chunkIn_19 : decode cX4_chunkIn 19 = .ok (.invokevirtual 90, 3) := by decide +kernel
theorem dX4_chunkIn_22 : decode cX4_chunkIn 22 = .ok (.astore_n 3, 1) := by decide +kernel
theorem dX4_chunkIn_23 : decode cX4_chunkIn 23 = .ok (.aload_n 3, 1) := by decide +kernel
theorem dX4_chunkIn_24 : decode cX4_chunkIn 24 = .ok (.ifnull 5, 3) := by decide +kernel
theorem dX4_chunkIn_27 : decode cX4_chunkIn 27 = .ok (.aload_n 3, 1) := by decide +kernel
theorem dX4_chunkIn_28 : decode cX4_chunkIn 28 = .ok (.areturn, 1) := by decide +kernel
theorem dX4_chunkIn_29 : decode cX4_chunkIn 29 = .ok (.iinc 2 1, 3) := by decide +kernel
theorem dX4_chunkIn_32 : decode cX4_chunkIn 32 = .ok (.goto (-30), 3) := by decide +kernel
theorem dX4_chunkIn_35 : decode cX4_chunkIn 35 = .ok (.aconst_null, 1) := by decide +kernel
theorem dX4_chunkIn_36 : decode cX4_chunkIn 36 = .ok (.areturn, 1) := by decide +kernel
theorem dX4_storeNew_0 : decode cX4_storeNew 0 = .ok (.aload_n 0, 1) := by decide +kernel
theorem dX4_storeNew_1 : decode cX4_storeNew 1 = .ok (.aload_n 1, 1) := by decide +kernel
theorem dX4_storeNew_2 : decode cX4_storeNew 2 = .ok (.invokevirtual 93, 3) := by decide +kernel
theorem dX4_storeNew_5 : decode cX4_storeNew 5 = .ok (.astore_n 2, 1) := by decide +kernel
theorem dX4_storeNew_6 : decode cX4_storeNew 6 = .ok (.new 81, 3) := by decide +kernel
theorem dX4_storeNew_9 : decode cX4_storeNew 9 = .ok (.dup, 1) := by decide +kernel
theorem dX4_storeNew_10 : decode cX4_storeNew 10 = .ok (.aload_n 0, 1) := by decide +kernel
theorem dX4_storeNew_11 : decode cX4_storeNew 11 = .ok (.getfield 34, 3) := by decide +kernel
theorem dX4_storeNew_14 : decode cX4_storeNew 14 = .ok (.aload_n 1, 1) := by decide +kernel
theorem dX4_storeNew_15 : decode cX4_storeNew 15 = .ok (.invokevirtual 97, 3) := by decide +kernel
theorem dX4_storeNew_18 : decode cX4_storeNew 18 = .ok (.aload_n 2, 1) := by decide +kernel
theorem dX4_storeNew_19 : decode cX4_storeNew 19 = .ok (.invokespecial 103, 3) := by decide +kernel
theorem dX4_storeNew_22 : decode cX4_storeNew 22 = .ok (.astore_n 3, 1) := by decide +kernel
theorem dX4_storeNew_23 : decode cX4_storeNew 23 = .ok (.aload_n 2, 1) := by decide +kernel
theorem dX4_storeNew_24 : decode cX4_storeNew 24 = .ok (.aload_n 3, 1) := by decide +kernel
theorem dX4_storeNew_25 : decode cX4_storeNew 25 = .ok (.invokevirtual 106, 3) := by decide +kernel
theorem dX4_storeNew_28 : decode cX4_storeNew 28 = .ok (.aload_n 0, 1) := by decide +kernel
theorem dX4_storeNew_29 : decode cX4_storeNew 29 = .ok (.dup, 1) := by decide +kernel
theorem dX4_storeNew_30 : decode cX4_storeNew 30 = .ok (.getfield 34, 3) := by decide +kernel
theorem dX4_storeNew_33 : decode cX4_storeNew 33 = .ok (.iconst 1, 1) := by decide +kernel
theorem dX4_storeNew_34 : decode cX4_storeNew 34 = .ok (.iadd, 1) := by decide +kernel
theorem dX4_storeNew_35 : decode cX4_storeNew 35 = .ok (.putfield 34, 3) := by decide +kernel
theorem dX4_storeNew_38 : decode cX4_storeNew 38 = .ok (.aload_n 3, 1) := by decide +kernel
theorem dX4_storeNew_39 : decode cX4_storeNew 39 = .ok (.areturn, 1) := by decide +kernel
theorem dX4_openFor_0 : decode cX4_openFor 0 = .ok (.aload_n 0, 1) := by decide +kernel
theorem dX4_openFor_1 : decode cX4_openFor 1 = .ok (.getfield 26, 3) := by decide +kernel
theorem dX4_openFor_4 : decode cX4_openFor 4 = .ok (.aload_n 1, 1) := by decide +kernel
theorem dX4_openFor_5 : decode cX4_openFor 5 = .ok (.invokevirtual 110, 3) := by decide +kernel
theorem dX4_openFor_8 : decode cX4_openFor 8 = .ok (.ifCond .ne 35, 3) := by decide +kernel
theorem dX4_openFor_11 : decode cX4_openFor 11 = .ok (.aload_n 0, 1) := by decide +kernel
theorem dX4_openFor_12 : decode cX4_openFor 12 = .ok (.new 21, 3) := by decide +kernel
theorem dX4_openFor_15 : decode cX4_openFor 15 = .ok (.dup, 1) := by decide +kernel
theorem dX4_openFor_16 : decode cX4_openFor 16 = .ok (.aload_n 0, 1) := by decide +kernel
theorem dX4_openFor_17 : decode cX4_openFor 17 = .ok (.getfield 26, 3) := by decide +kernel
theorem dX4_openFor_20 : decode cX4_openFor 20 = .ok (.invokevirtual 48, 3) := by decide +kernel
theorem dX4_openFor_23 : decode cX4_openFor 23 = .ok (.iconst 1, 1) := by decide +kernel
theorem dX4_openFor_24 : decode cX4_openFor 24 = .ok (.iadd, 1) := by decide +kernel
theorem dX4_openFor_25 : decode cX4_openFor 25 = .ok (.invokespecial 23, 3) := by decide +kernel
theorem dX4_openFor_28 : decode cX4_openFor 28 = .ok (.putfield 26, 3) := by decide +kernel
theorem dX4_openFor_31 : decode cX4_openFor 31 = .ok (.aload_n 0, 1) := by decide +kernel
theorem dX4_openFor_32 : decode cX4_openFor 32 = .ok (.getfield 12, 3) := by decide +kernel
theorem dX4_openFor_35 : decode cX4_openFor 35 = .ok (.aload_n 0, 1) := by decide +kernel
theorem dX4_openFor_36 : decode cX4_openFor 36 = .ok (.getfield 26, 3) := by decide +kernel
theorem dX4_openFor_39 : decode cX4_openFor 39 = .ok (.invokevirtual 30, 3) := by decide +kernel
theorem dX4_openFor_42 : decode cX4_openFor 42 = .ok (.pop, 1) := by decide +kernel
theorem dX4_openFor_43 : decode cX4_openFor 43 = .ok (.aload_n 0, 1) := by decide +kernel
theorem dX4_openFor_44 : decode cX4_openFor 44 = .ok (.getfield 26, 3) := by decide +kernel
theorem dX4_openFor_47 : decode cX4_openFor 47 = .ok (.areturn, 1) := by decide +kernel
theorem dX4_use_0 : decode cX4_use 0 = .ok (.aload_n 0, 1) := by decide +kernel
theorem dX4_use_1 : decode cX4_use 1 = .ok (.aload_n 1, 1) := by decide +kernel
theorem dX4_use_2 : decode cX4_use 2 = .ok (.invokevirtual 114, 3) := by decide +kernel
theorem dX4_use_5 : decode cX4_use 5 = .ok (.aload_n 0, 1) := by decide +kernel
theorem dX4_use_6 : decode cX4_use 6 = .ok (.getfield 18, 3) := by decide +kernel
theorem dX4_use_9 : decode cX4_use 9 = .ok (.iconst 0, 1) := by decide +kernel
theorem dX4_use_10 : decode cX4_use 10 = .ok (.aload_n 1, 1) := by decide +kernel
theorem dX4_use_11 : decode cX4_use 11 = .ok (.invokevirtual 117, 3) := by decide +kernel
theorem dX4_use_14 : decode cX4_use 14 = .ok (.aload_n 0, 1) := by decide +kernel
theorem dX4_use_15 : decode cX4_use 15 = .ok (.getfield 18, 3) := by decide +kernel
theorem dX4_use_18 : decode cX4_use 18 = .ok (.invokevirtual 44, 3) := by decide +kernel
theorem dX4_use_21 : decode cX4_use 21 = .ok (.iconst 3, 1) := by decide +kernel
theorem dX4_use_22 : decode cX4_use 22 = .ok (.if_icmp .le 20, 3) := by decide +kernel
theorem dX4_use_25 : decode cX4_use 25 = .ok (.aload_n 0, 1) := by decide +kernel
theorem dX4_use_26 : decode cX4_use 26 = .ok (.getfield 18, 3) := by decide +kernel
theorem dX4_use_29 : decode cX4_use 29 = .ok (.aload_n 0, 1) := by decide +kernel
theorem dX4_use_30 : decode cX4_use 30 = .ok (.getfield 18, 3) := by decide +kernel
theorem dX4_use_33 : decode cX4_use 33 = .ok (.invokevirtual 44, 3) := by decide +kernel
theorem dX4_use_36 : decode cX4_use 36 = .ok (.iconst 1, 1) := by decide +kernel
theorem dX4_use_37 : decode cX4_use 37 = .ok (.isub, 1) := by decide +kernel
theorem dX4_use_38 : decode cX4_use 38 = .ok (.invokevirtual 120, 3) := by decide +kernel
theorem dX4_use_41 : decode cX4_use 41 = .ok (.pop, 1) := by decide +kernel
theorem dX4_use_42 : decode cX4_use 42 = .ok (.return_, 1) := by decide +kernel
theorem dX4_leaveCache_0 : decode cX4_leaveCache 0 = .ok (.aload_n 0, 1) := by decide +kernel
theorem dX4_leaveCache_1 : decode cX4_leaveCache 1 = .ok (.getfield 18, 3) := by decide +kernel
theorem dX4_leaveCache_4 : decode cX4_leaveCache 4 = .ok (.invokevirtual 44, 3) := by decide +kernel
theorem dX4_leaveCache_7 : decode cX4_leaveCache 7 = .ok (.iconst 1, 1) := by decide +kernel
theorem dX4_leaveCache_8 : decode cX4_leaveCache 8 = .ok (.isub, 1) := by decide +kernel
theorem dX4_leaveCache_9 : decode cX4_leaveCache 9 = .ok (.istore_n 2, 1) := by decide +kernel
theorem dX4_leaveCache_10 : decode cX4_leaveCache 10 = .ok (.iload_n 2, 1) := by decide +kernel
theorem dX4_leaveCache_11 : decode cX4_leaveCache 11 = .ok (.ifCond .lt 30, 3) := by decide +kernel
theorem dX4_leaveCache_14 : decode cX4_leaveCache 14 = .ok (.aload_n 0, 1) := by decide +kernel
theorem dX4_leaveCache_15 : decode cX4_leaveCache 15 = .ok (.getfield 18, 3) := by decide +kernel
theorem dX4_leaveCache_18 : decode cX4_leaveCache 18 = .ok (.iload_n 2, 1) := by decide +kernel
theorem dX4_leaveCache_19 : decode cX4_leaveCache 19 = .ok (.invokevirtual 55, 3) := by decide +kernel
theorem dX4_leaveCache_22 : decode cX4_leaveCache 22 = .ok (.aload_n 1, 1) := by decide +kernel
theorem dX4_leaveCache_23 : decode cX4_leaveCache 23 = .ok (.if_acmp .ne 12, 3) := by decide +kernel
theorem dX4_leaveCache_26 : decode cX4_leaveCache 26 = .ok (.aload_n 0, 1) := by decide +kernel
theorem dX4_leaveCache_27 : decode cX4_leaveCache 27 = .ok (.getfield 18, 3) := by decide +kernel
theorem dX4_leaveCache_30 : decode cX4_leaveCache 30 = .ok (.iload_n 2, 1) := by decide +kernel
theorem dX4_leaveCache_31 : decode cX4_leaveCache 31 = .ok (.invokevirtual 120, 3) := by decide +kernel
theorem dX4_leaveCache_34 : decode cX4_leaveCache 34 = .ok (.pop, 1) := by decide +kernel
theorem dX4_leaveCache_35 : decode cX4_leaveCache 35 = .ok (.iinc 2 (-1), 3) := by decide +kernel
theorem dX4_leaveCache_38 : decode cX4_leaveCache 38 = .ok (.goto (-28), 3) := by decide +kernel
theorem dX4_leaveCache_41 : decode cX4_leaveCache 41 = .ok (.return_, 1) := by decide +kernel
theorem dX4_collectGarbage_0 : decode cX4_collectGarbage 0 = .ok (.aload_n 0, 1) := by decide +kernel
theorem dX4_collectGarbage_1 : decode cX4_collectGarbage 1 = .ok (.getfield 12, 3) := by decide +kernel
theorem dX4_collectGarbage_4 : decode cX4_collectGarbage 4 = .ok (.invokevirtual 44, 3) := by decide +kernel
theorem dX4_collectGarbage_7 : decode cX4_collectGarbage 7 = .ok (.iconst 1, 1) := by decide +kernel
theorem dX4_collectGarbage_8 : decode cX4_collectGarbage 8 = .ok (.isub, 1) := by decide +kernel
theorem dX4_collectGarbage_9 : decode cX4_collectGarbage 9 = .ok (.istore_n 1, 1) := by decide +kernel
theorem dX4_collectGarbage_10 : decode cX4_collectGarbage 10 = .ok (.iconst 0, 1) := by decide +kernel
theorem dX4_collectGarbage_11 : decode cX4_collectGarbage 11 = .ok (.istore_n 2, 1) := by decide +kernel
theorem dX4_collectGarbage_12 : decode cX4_collectGarbage 12 = .ok (.iconst 0, 1) := by decide +kernel
theorem dX4_collectGarbage_13 : decode cX4_collectGarbage 13 = .ok (.istore_n 3, 1) := by decide +kernel
theorem dX4_collectGarbage_14 : decode cX4_collectGarbage 14 = .ok (.iconst 0, 1) := by decide +kernel
theorem dX4_collectGarbage_15 : decode cX4_collectGarbage 15 = .ok (.istore 4, 2) := by decide +kernel
theorem dX4_collectGarbage_17 : decode cX4_collectGarbage 17 = .ok (.iload 4, 2) := by decide +kernel
theorem dX4_collectGarbage_19 : decode cX4_collectGarbage 19 = .ok (.iload_n 1, 1) := by decide +kernel
theorem dX4_collectGarbage_20 : decode cX4_collectGarbage 20 = .ok (.if_icmp .ge 84, 3) := by decide +kernel
theorem dX4_collectGarbage_23 : decode cX4_collectGarbage 23 = .ok (.iload_n 2, 1) := by decide +kernel
theorem dX4_collectGarbage_24 : decode cX4_collectGarbage 24 = .ok (.aload_n 0, 1) := by decide +kernel
theorem dX4_collectGarbage_25 : decode cX4_collectGarbage 25 = .ok (.getfield 12, 3) := by decide +kernel
theorem dX4_collectGarbage_28 : decode cX4_collectGarbage 28 = .ok (.invokevirtual 44, 3) := by decide +kernel
theorem dX4_collectGarbage_31 : decode cX4_collectGarbage 31 = .ok (.if_icmp .ge 73, 3) := by decide +kernel
theorem dX4_collectGarbage_34 : decode cX4_collectGarbage 34 = .ok (.aload_n 0, 1) := by decide +kernel
theorem dX4_collectGarbage_35 : decode cX4_collectGarbage 35 = .ok (.getfield 12, 3) := by decide +kernel
theorem dX4_collectGarbage_38 : decode cX4_collectGarbage 38 = .ok (.iload_n 2, 1) := by decide +kernel
theorem dX4_collectGarbage_39 : decode cX4_collectGarbage 39 = .ok (.invokevirtual 55, 3) := by decide +kernel
theorem dX4_collectGarbage_42 : decode cX4_collectGarbage 42 = .ok (.checkcast 21, 3) := by decide +kernel
theorem dX4_collectGarbage_45 : decode cX4_collectGarbage 45 = .ok (.astore 5, 2) := by decide +kernel
theorem dX4_collectGarbage_47 : decode cX4_collectGarbage 47 = .ok (.aload 5, 2) := by decide +kernel
theorem dX4_collectGarbage_49 : decode cX4_collectGarbage 49 = .ok (.invokevirtual 73, 3) := by decide +kernel
theorem dX4_collectGarbage_52 : decode cX4_collectGarbage 52 = .ok (.istore 6, 2) := by decide +kernel
theorem dX4_collectGarbage_54 : decode cX4_collectGarbage 54 = .ok (.iconst 2, 1) := by decide +kernel
theorem dX4_collectGarbage_55 : decode cX4_collectGarbage 55 = .ok (.iload 6, 2) := by decide +kernel
theorem dX4_collectGarbage_57 : decode cX4_collectGarbage 57 = .ok (.imul, 1) := by decide +kernel
theorem dX4_collectGarbage_58 : decode cX4_collectGarbage 58 = .ok (.aload 5, 2) := by decide +kernel
theorem dX4_collectGarbage_60 : decode cX4_collectGarbage 60 = .ok (.invokevirtual 70, 3) := by decide +kernel
theorem dX4_collectGarbage_63 : decode cX4_collectGarbage 63 = .ok (.if_icmp .ge 32, 3) := by decide +kernel
theorem dX4_collectGarbage_66 : decode cX4_collectGarbage 66 = .ok (.aload_n 0, 1) := by decide +kernel
theorem dX4_collectGarbage_67 : decode cX4_collectGarbage 67 = .ok (.getfield 12, 3) := by decide +kernel
theorem dX4_collectGarbage_70 : decode cX4_collectGarbage 70 = .ok (.iload_n 2, 1) := by decide +kernel
theorem dX4_collectGarbage_71 : decode cX4_collectGarbage 71 = .ok (.invokevirtual 120, 3) := by decide +kernel
theorem dX4_collectGarbage_74 : decode cX4_collectGarbage 74 = .ok (.pop, 1) := by decide +kernel
theorem dX4_collectGarbage_75 : decode cX4_collectGarbage 75 = .ok (.aload_n 0, 1) := by decide +kernel
theorem dX4_collectGarbage_76 : decode cX4_collectGarbage 76 = .ok (.aload 5, 2) := by decide +kernel
theorem dX4_collectGarbage_78 : decode cX4_collectGarbage 78 = .ok (.invokevirtual 123, 3) := by decide +kernel
theorem dX4_collectGarbage_81 : decode cX4_collectGarbage 81 = .ok (.iload_n 3, 1) := by decide +kernel
theorem dX4_collectGarbage_82 : decode cX4_collectGarbage 82 = .ok (.aload 5, 2) := by decide +kernel
theorem dX4_collectGarbage_84 : decode cX4_collectGarbage 84 = .ok (.invokevirtual 70, 3) := by decide +kernel
theorem dX4_collectGarbage_87 : decode cX4_collectGarbage 87 = .ok (.iload 6, 2) := by decide +kernel
theorem dX4_collectGarbage_89 : decode cX4_collectGarbage 89 = .ok (.isub, 1) := by decide +kernel
theorem dX4_collectGarbage_90 : decode cX4_collectGarbage 90 = .ok (.iadd, 1) := by decide +kernel
theorem dX4_collectGarbage_91 : decode cX4_collectGarbage 91 = .ok (.istore_n 3, 1) := by decide +kernel
theorem dX4_collectGarbage_92 : decode cX4_collectGarbage 92 = .ok (.goto 6, 3) := by decide +kernel
theorem dX4_collectGarbage_95 : decode cX4_collectGarbage 95 = .ok (.iinc 2 1, 3) := by decide +kernel
theorem dX4_collectGarbage_98 : decode cX4_collectGarbage 98 = .ok (.iinc 4 1, 3) := by decide +kernel
theorem dX4_collectGarbage_101 : decode cX4_collectGarbage 101 = .ok (.goto (-84), 3) := by decide +kernel
theorem dX4_collectGarbage_104 : decode cX4_collectGarbage 104 = .ok (.iload_n 3, 1) := by decide +kernel
theorem dX4_collectGarbage_105 : decode cX4_collectGarbage 105 = .ok (.ireturn, 1) := by decide +kernel
theorem dX4_empty_0 : decode cX4_empty 0 = .ok (.aload_n 1, 1) := by decide +kernel
theorem dX4_empty_1 : decode cX4_empty 1 = .ok (.invokevirtual 126, 3) := by decide +kernel
theorem dX4_empty_4 : decode cX4_empty 4 = .ok (.astore_n 2, 1) := by decide +kernel
theorem dX4_empty_5 : decode cX4_empty 5 = .ok (.iconst 0, 1) := by decide +kernel
theorem dX4_empty_6 : decode cX4_empty 6 = .ok (.istore_n 3, 1) := by decide +kernel
theorem dX4_empty_7 : decode cX4_empty 7 = .ok (.iload_n 3, 1) := by decide +kernel
theorem dX4_empty_8 : decode cX4_empty 8 = .ok (.aload_n 2, 1) := by decide +kernel
theorem dX4_empty_9 : decode cX4_empty 9 = .ok (.invokevirtual 44, 3) := by decide +kernel
theorem dX4_empty_12 : decode cX4_empty 12 = .ok (.if_icmp .ge 35, 3) := by decide +kernel
theorem dX4_empty_15 : decode cX4_empty 15 = .ok (.aload_n 0, 1) := by decide +kernel
theorem dX4_empty_16 : decode cX4_empty 16 = .ok (.aload_n 2, 1) := by decide +kernel
theorem dX4_empty_17 : decode cX4_empty 17 = .ok (.iload_n 3, 1) := by decide +kernel
theorem dX4_empty_18 : decode cX4_empty 18 = .ok (.invokevirtual 55, 3) := by decide +kernel
theorem dX4_empty_21 : decode cX4_empty 21 = .ok (.checkcast 81, 3) := by decide +kernel
theorem dX4_empty_24 : decode cX4_empty 24 = .ok (.invokevirtual 130, 3) := by decide +kernel
theorem dX4_empty_27 : decode cX4_empty 27 = .ok (.invokevirtual 93, 3) := by decide +kernel
theorem dX4_empty_30 : decode cX4_empty 30 = .ok (.aload_n 2, 1) := by decide +kernel
theorem dX4_empty_31 : decode cX4_empty 31 = .ok (.iload_n 3, 1) := by decide +kernel
theorem dX4_empty_32 : decode cX4_empty 32 = .ok (.invokevirtual 55, 3) := by decide +kernel
theorem dX4_empty_35 : decode cX4_empty 35 = .ok (.checkcast 81, 3) := by decide +kernel
theorem dX4_empty_38 : decode cX4_empty 38 = .ok (.invokevirtual 106, 3) := by decide +kernel
theorem dX4_empty_41 : decode cX4_empty 41 = .ok (.iinc 3 1, 3) := by decide +kernel
theorem dX4_empty_44 : decode cX4_empty 44 = .ok (.goto (-37), 3) := by decide +kernel
theorem dX4_empty_47 : decode cX4_empty 47 = .ok (.aload_n 0, 1) := by decide +kernel
theorem dX4_empty_48 : decode cX4_empty 48 = .ok (.aload_n 1, 1) := by decide +kernel
theorem dX4_empty_49 : decode cX4_empty 49 = .ok (.invokevirtual 114, 3) := by decide +kernel
theorem dX4_empty_52 : decode cX4_empty 52 = .ok (.return_, 1) := by decide +kernel
theorem dX5_init_0 : decode cX5_init 0 = .ok (.aload_n 0, 1) := by decide +kernel
theorem dX5_init_1 : decode cX5_init 1 = .ok (.invokespecial 3, 3) := by decide +kernel
theorem dX5_init_4 : decode cX5_init 4 = .ok (.aload_n 0, 1) := by decide +kernel
theorem dX5_init_5 : decode cX5_init 5 = .ok (.iload_n 1, 1) := by decide +kernel
theorem dX5_init_6 : decode cX5_init 6 = .ok (.putfield 9, 3) := by decide +kernel
theorem dX5_init_9 : decode cX5_init 9 = .ok (.aload_n 0, 1) := by decide +kernel
theorem dX5_init_10 : decode cX5_init 10 = .ok (.iload_n 2, 1) := by decide +kernel
theorem dX5_init_11 : decode cX5_init 11 = .ok (.putfield 15, 3) := by decide +kernel
theorem dX5_init_14 : decode cX5_init 14 = .ok (.aload_n 0, 1) := by decide +kernel
theorem dX5_init_15 : decode cX5_init 15 = .ok (.new 18, 3) := by decide +kernel
theorem dX5_init_18 : decode cX5_init 18 = .ok (.dup, 1) := by decide +kernel
theorem dX5_init_19 : decode cX5_init 19 = .ok (.aload_n 3, 1) := by decide +kernel
theorem dX5_init_20 : decode cX5_init 20 = .ok (.invokevirtual 20, 3) := by decide +kernel
theorem dX5_init_23 : decode cX5_init 23 = .ok (.invokespecial 24, 3) := by decide +kernel
theorem dX5_init_26 : decode cX5_init 26 = .ok (.putfield 27, 3) := by decide +kernel
theorem dX5_init_29 : decode cX5_init 29 = .ok (.aload_n 0, 1) := by decide +kernel
theorem dX5_init_30 : decode cX5_init 30 = .ok (.getfield 27, 3) := by decide +kernel
theorem dX5_init_33 : decode cX5_init 33 = .ok (.aload_n 3, 1) := by decide +kernel
theorem dX5_init_34 : decode cX5_init 34 = .ok (.iconst 0, 1) := by decide +kernel
theorem dX5_init_35 : decode cX5_init 35 = .ok (.aload_n 3, 1) := by decide +kernel
theorem dX5_init_36 : decode cX5_init 36 = .ok (.invokevirtual 20, 3) := by decide +kernel
theorem dX5_init_39 : decode cX5_init 39 = .ok (.invokevirtual 31, 3) := by decide +kernel
theorem dX5_init_42 : decode cX5_init 42 = .ok (.aload_n 0, 1) := by decide +kernel
theorem dX5_init_43 : decode cX5_init 43 = .ok (.new 35, 3) := by decide +kernel
theorem dX5_init_46 : decode cX5_init 46 = .ok (.dup, 1) := by decide +kernel
theorem dX5_init_47 : decode cX5_init 47 = .ok (.invokespecial 37, 3) := by decide +kernel
theorem dX5_init_50 : decode cX5_init 50 = .ok (.putfield 38, 3) := by decide +kernel
theorem dX5_init_53 : decode cX5_init 53 = .ok (.aload_n 0, 1) := by decide +kernel
theorem dX5_init_54 : decode cX5_init 54 = .ok (.aconst_null, 1) := by decide +kernel
theorem dX5_init_55 : decode cX5_init 55 = .ok (.putfield 42, 3) := by decide +kernel
theorem dX5_init_58 : decode cX5_init 58 = .ok (.return_, 1) := by decide +kernel
theorem dX5_file_0 : decode cX5_file 0 = .ok (.aload_n 0, 1) := by decide +kernel
theorem dX5_file_1 : decode cX5_file 1 = .ok (.getfield 9, 3) := by decide +kernel
theorem dX5_file_4 : decode cX5_file 4 = .ok (.ireturn, 1) := by decide +kernel
theorem dX5_number_0 : decode cX5_number 0 = .ok (.aload_n 0, 1) := by decide +kernel
theorem dX5_number_1 : decode cX5_number 1 = .ok (.getfield 15, 3) := by decide +kernel
theorem dX5_number_4 : decode cX5_number 4 = .ok (.ireturn, 1) := by decide +kernel
theorem dX5_copy_0 : decode cX5_copy 0 = .ok (.aload_n 0, 1) := by decide +kernel
theorem dX5_copy_1 : decode cX5_copy 1 = .ok (.getfield 27, 3) := by decide +kernel
theorem dX5_copy_4 : decode cX5_copy 4 = .ok (.areturn, 1) := by decide +kernel
theorem dX5_base_0 : decode cX5_base 0 = .ok (.aload_n 0, 1) := by decide +kernel
theorem dX5_base_1 : decode cX5_base 1 = .ok (.getfield 42, 3) := by decide +kernel
theorem dX5_base_4 : decode cX5_base 4 = .ok (.areturn, 1) := by decide +kernel
theorem dX5_entryCount_0 : decode cX5_entryCount 0 = .ok (.aload_n 0, 1) := by decide +kernel
theorem dX5_entryCount_1 : decode cX5_entryCount 1 = .ok (.getfield 38, 3) := by decide +kernel
theorem dX5_entryCount_4 : decode cX5_entryCount 4 = .ok (.invokevirtual 46, 3) := by decide +kernel
theorem dX5_entryCount_7 : decode cX5_entryCount 7 = .ok (.ireturn, 1) := by decide +kernel
theorem dX5_entryNumber_0 : decode cX5_entryNumber 0 = .ok (.iload_n 1, 1) := by decide +kernel
theorem dX5_entryNumber_1 : decode cX5_entryNumber 1 = .ok (.aload_n 0, 1) := by decide +kernel
theorem dX5_entryNumber_2 : decode cX5_entryNumber 2 = .ok (.getfield 38, 3) := by decide +kernel
theorem dX5_entryNumber_5 : decode cX5_entryNumber 5 = .ok (.invokevirtual 46, 3) := by decide +kernel
theorem dX5_entryNumber_8 : decode cX5_entryNumber 8 = .ok (.invokestatic 47, 3) := by decide +kernel
theorem dX5_entryNumber_11 : decode cX5_entryNumber 11 = .ok (.ifCond .eq 7, 3) := by decide +kernel
theorem dX5_entryNumber_14 : decode cX5_entryNumber 14 = .ok (.iconst (-1), 1) := by decide +kernel
theorem dX5_entryNumber_15 : decode cX5_entryNumber 15 = .ok (.goto 17, 3) := by decide +kernel
theorem dX5_entryNumber_18 : decode cX5_entryNumber 18 = .ok (.aload_n 0, 1) := by decide +kernel
theorem dX5_entryNumber_19 : decode cX5_entryNumber 19 = .ok (.getfield 38, 3) := by decide +kernel
theorem dX5_entryNumber_22 : decode cX5_entryNumber 22 = .ok (.iload_n 1, 1) := by decide +kernel
theorem dX5_entryNumber_23 : decode cX5_entryNumber 23 = .ok (.invokevirtual 51, 3) := by decide +kernel
theorem dX5_entryNumber_26 : decode cX5_entryNumber 26 = .ok (.checkcast 55, 3) := by decide +kernel
theorem dX5_entryNumber_29 : decode cX5_entryNumber 29 = .ok (.invokevirtual 57, 3) := by decide +kernel
theorem dX5_entryNumber_32 : decode cX5_entryNumber 32 = .ok (.ireturn, 1) := by decide +kernel
theorem dX5_addEntry_0 : decode cX5_addEntry 0 = .ok (.aload_n 0, 1) := by decide +kernel
theorem dX5_addEntry_1 : decode cX5_addEntry 1 = .ok (.getfield 38, 3) := by decide +kernel
theorem dX5_addEntry_4 : decode cX5_addEntry 4 = .ok (.aload_n 1, 1) := by decide +kernel
theorem dX5_addEntry_5 : decode cX5_addEntry 5 = .ok (.invokevirtual 59, 3) := by decide +kernel
theorem dX5_addEntry_8 : decode cX5_addEntry 8 = .ok (.pop, 1) := by decide +kernel
theorem dX5_addEntry_9 : decode cX5_addEntry 9 = .ok (.aload_n 1, 1) := by decide +kernel
theorem dX5_addEntry_10 : decode cX5_addEntry 10 = .ok (.iconst 1, 1) := by decide +kernel
theorem dX5_addEntry_11 : decode cX5_addEntry 11 = .ok (.invokevirtual 63, 3) := by decide +kernel
theorem dX5_addEntry_14 : decode cX5_addEntry 14 = .ok (.return_, 1) := by decide +kernel
theorem dX5_releaseEntries_0 : decode cX5_releaseEntries 0 = .ok (.iconst 0, 1) := by decide +kernel
theorem dX5_releaseEntries_1 : decode cX5_releaseEntries 1 = .ok (.istore_n 1, 1) := by decide +kernel
theorem dX5_releaseEntries_2 : decode cX5_releaseEntries 2 = .ok (.iload_n 1, 1) := by decide +kernel
theorem dX5_releaseEntries_3 : decode cX5_releaseEntries 3 = .ok (.aload_n 0, 1) := by decide +kernel
theorem dX5_releaseEntries_4 : decode cX5_releaseEntries 4 = .ok (.getfield 38, 3) := by decide +kernel
theorem dX5_releaseEntries_7 : decode cX5_releaseEntries 7 = .ok (.invokevirtual 46, 3) := by decide +kernel
theorem dX5_releaseEntries_10 : decode cX5_releaseEntries 10 = .ok (.if_icmp .ge 24, 3) := by decide +kernel
theorem dX5_releaseEntries_13 : decode cX5_releaseEntries 13 = .ok (.aload_n 0, 1) := by decide +kernel
theorem dX5_releaseEntries_14 : decode cX5_releaseEntries 14 = .ok (.getfield 38, 3) := by decide +kernel
theorem dX5_releaseEntries_17 : decode cX5_releaseEntries 17 = .ok (.iload_n 1, 1) := by decide +kernel
theorem dX5_releaseEntries_18 : decode cX5_releaseEntries 18 = .ok (.invokevirtual 51, 3) := by decide +kernel
theorem dX5_releaseEntries_21 : decode cX5_releaseEntries 21 = .ok (.checkcast 55, 3) := by decide +kernel
theorem dX5_releaseEntries_24 : decode cX5_releaseEntries 24 = .ok (.iconst (-1), 1) := by decide +kernel
theorem dX5_releaseEntries_25 : decode cX5_releaseEntries 25 = .ok (.invokevirtual 63, 3) := by decide +kernel
theorem dX5_releaseEntries_28 : decode cX5_releaseEntries 28 = .ok (.iinc 1 1, 3) := by decide +kernel
theorem dX5_releaseEntries_31 : decode cX5_releaseEntries 31 = .ok (.goto (-29), 3) := by decide +kernel
theorem dX5_releaseEntries_34 : decode cX5_releaseEntries 34 = .ok (.return_, 1) := by decide +kernel
theorem dX5_restored_0 : decode cX5_restored 0 = .ok (.iload_n 1, 1) := by decide +kernel
theorem dX5_restored_1 : decode cX5_restored 1 = .ok (.istore_n 2, 1) := by decide +kernel
theorem dX5_restored_2 : decode cX5_restored 2 = .ok (.iconst 0, 1) := by decide +kernel
theorem dX5_restored_3 : decode cX5_restored 3 = .ok (.istore_n 3, 1) := by decide +kernel
theorem dX5_restored_4 : decode cX5_restored 4 = .ok (.iload_n 3, 1) := by decide +kernel
theorem dX5_restored_5 : decode cX5_restored 5 = .ok (.aload_n 0, 1) := by decide +kernel
theorem dX5_restored_6 : decode cX5_restored 6 = .ok (.getfield 38, 3) := by decide +kernel
theorem dX5_restored_9 : decode cX5_restored 9 = .ok (.invokevirtual 46, 3) := by decide +kernel
theorem dX5_restored_12 : decode cX5_restored 12 = .ok (.if_icmp .ge 49, 3) := by decide +kernel
theorem dX5_restored_15 : decode cX5_restored 15 = .ok (.aload_n 0, 1) := by decide +kernel
theorem dX5_restored_16 : decode cX5_restored 16 = .ok (.getfield 38, 3) := by decide +kernel
theorem dX5_restored_19 : decode cX5_restored 19 = .ok (.iload_n 3, 1) := by decide +kernel
theorem dX5_restored_20 : decode cX5_restored 20 = .ok (.invokevirtual 51, 3) := by decide +kernel
theorem dX5_restored_23 : decode cX5_restored 23 = .ok (.checkcast 55, 3) := by decide +kernel
theorem dX5_restored_26 : decode cX5_restored 26 = .ok (.invokevirtual 66, 3) := by decide +kernel
theorem dX5_restored_29 : decode cX5_restored 29 = .ok (.astore 4, 2) := by decide +kernel
theorem dX5_restored_31 : decode cX5_restored 31 = .ok (.iload_n 2, 1) := by decide +kernel
theorem dX5_restored_32 : decode cX5_restored 32 = .ok (.aload 4, 2) := by decide +kernel
theorem dX5_restored_34 : decode cX5_restored 34 = .ok (.invokevirtual 70, 3) := by decide +kernel
theorem dX5_restored_37 : decode cX5_restored 37 = .ok (.if_icmp .ge 10, 3) := by decide +kernel
theorem dX5_restored_40 : decode cX5_restored 40 = .ok (.aload 4, 2) := by decide +kernel
theorem dX5_restored_42 : decode cX5_restored 42 = .ok (.iload_n 2, 1) := by decide +kernel
theorem dX5_restored_43 : decode cX5_restored 43 = .ok (.invokevirtual 73, 3) := by decide +kernel
theorem dX5_restored_46 : decode cX5_restored 46 = .ok (.ireturn, 1) := by decide +kernel
theorem dX5_restored_47 : decode cX5_restored 47 = .ok (.iload_n 2, 1) := by decide +kernel
theorem dX5_restored_48 : decode cX5_restored 48 = .ok (.aload 4, 2) := by decide +kernel
theorem dX5_restored_50 : decode cX5_restored 50 = .ok (.invokevirtual 70, 3) := by decide +kernel
theorem dX5_restored_53 : decode cX5_restored 53 = .ok (.isub, 1) := by decide +kernel
theorem dX5_restored_54 : decode cX5_restored 54 = .ok (.istore_n 2, 1) := by decide +kernel
theorem dX5_restored_55 : decode cX5_restored 55 = .ok (.iinc 3 1, 3) := by decide +kernel
theorem dX5_restored_58 : decode cX5_restored 58 = .ok (.goto (-54), 3) := by decide +kernel
theorem dX5_restored_61 : decode cX5_restored 61 = .ok (.iconst 0, 1) := by decide +kernel
theorem dX5_restored_62 : decode cX5_restored 62 = .ok (.ireturn, 1) := by decide +kernel
theorem dX5_chain_0 : decode cX5_chain 0 = .ok (.iconst 0, 1) := by decide +kernel
theorem dX5_chain_1 : decode cX5_chain 1 = .ok (.istore_n 1, 1) := by decide +kernel
theorem dX5_chain_2 : decode cX5_chain 2 = .ok (.aload_n 0, 1) := by decide +kernel
theorem dX5_chain_3 : decode cX5_chain 3 = .ok (.getfield 42, 3) := by decide +kernel
theorem dX5_chain_6 : decode cX5_chain 6 = .ok (.astore_n 2, 1) := by decide +kernel
theorem dX5_chain_7 : decode cX5_chain 7 = .ok (.aload_n 2, 1) := by decide +kernel
theorem dX5_chain_8 : decode cX5_chain 8 = .ok (.ifnull 19, 3) := by decide +kernel
theorem dX5_chain_11 : decode cX5_chain 11 = .ok (.iload_n 1, 1) := by decide +kernel
theorem dX5_chain_12 : decode cX5_chain 12 = .ok (.iconst 3, 1) := by decide +kernel
theorem dX5_chain_13 : decode cX5_chain 13 = .ok (.if_icmp .ge 14, 3) := by decide +kernel
theorem dX5_chain_16 : decode cX5_chain 16 = .ok (.iinc 1 1, 3) := by decide +kernel
theorem dX5_chain_19 : decode cX5_chain 19 = .ok (.aload_n 2, 1) := by decide +kernel
theorem dX5_chain_20 : decode cX5_chain 20 = .ok (.getfield 42, 3) := by decide +kernel
theorem dX5_chain_23 : decode cX5_chain 23 = .ok (.astore_n 2, 1) := by decide +kernel
theorem dX5_chain_24 : decode cX5_chain 24 = .ok (.goto (-17), 3) := by decide +kernel
theorem dX5_chain_27 : decode cX5_chain 27 = .ok (.iload_n 1, 1) := by decide +kernel
theorem dX5_chain_28 : decode cX5_chain 28 = .ok (.ireturn, 1) := by decide +kernel
theorem dX5_cost_0 : decode cX5_cost 0 = .ok (.aload_n 0, 1) := by decide +kernel
theorem dX5_cost_1 : decode cX5_cost 1 = .ok (.getfield 42, 3) := by decide +kernel
theorem dX5_cost_4 : decode cX5_cost 4 = .ok (.ifnonnull 13, 3) := by decide +kernel
theorem dX5_cost_7 : decode cX5_cost 7 = .ok (.aload_n 0, 1) := by decide +kernel
theorem dX5_cost_8 : decode cX5_cost 8 = .ok (.getfield 38, 3) := by decide +kernel
theorem dX5_cost_11 : decode cX5_cost 11 = .ok (.invokevirtual 46, 3) := by decide +kernel
theorem dX5_cost_14 : decode cX5_cost 14 = .ok (.goto 11, 3) := by decide +kernel
theorem dX5_cost_17 : decode cX5_cost 17 = .ok (.aload_n 0, 1) := by decide +kernel
theorem dX5_cost_18 : decode cX5_cost 18 = .ok (.aload_n 0, 1) := by decide +kernel
theorem dX5_cost_19 : decode cX5_cost 19 = .ok (.getfield 42, 3) := by decide +kernel
theorem dX5_cost_22 : decode cX5_cost 22 = .ok (.invokevirtual 76, 3) := by decide +kernel
theorem dX5_cost_25 : decode cX5_cost 25 = .ok (.ireturn, 1) := by decide +kernel
theorem dX5_chooseBase_0 : decode cX5_chooseBase 0 = .ok (.aload_n 1, 1) := by decide +kernel
theorem dX5_chooseBase_1 : decode cX5_chooseBase 1 = .ok (.ifnull 11, 3) := by decide +kernel
theorem dX5_chooseBase_4 : decode cX5_chooseBase 4 = .ok (.aload_n 1, 1) := by decide +kernel
theorem dX5_chooseBase_5 : decode cX5_chooseBase 5 = .ok (.invokevirtual 80, 3) := by decide +kernel
theorem dX5_chooseBase_8 : decode cX5_chooseBase 8 = .ok (.iconst 3, 1) := by decide +kernel
theorem dX5_chooseBase_9 : decode cX5_chooseBase 9 = .ok (.if_icmp .lt 4, 3) := by decide +kernel
theorem dX5_chooseBase_12 : decode cX5_chooseBase 12 = .ok (.return_, 1) := by decide +kernel
theorem dX5_chooseBase_13 : decode cX5_chooseBase 13 = .ok (.aload_n 0, 1) := by decide +kernel
theorem dX5_chooseBase_14 : decode cX5_chooseBase 14 = .ok (.aload_n 1, 1) := by decide +kernel
theorem dX5_chooseBase_15 : decode cX5_chooseBase 15 = .ok (.invokevirtual 76, 3) := by decide +kernel
theorem dX5_chooseBase_18 : decode cX5_chooseBase 18 = .ok (.aload_n 0, 1) := by decide +kernel
theorem dX5_chooseBase_19 : decode cX5_chooseBase 19 = .ok (.getfield 38, 3) := by decide +kernel
theorem dX5_chooseBase_22 : decode cX5_chooseBase 22 = .ok (.invokevirtual 46, 3) := by decide +kernel
theorem dX5_chooseBase_25 : decode cX5_chooseBase 25 = .ok (.if_icmp .ge 8, 3) := by decide +kernel
theorem dX5_chooseBase_28 : decode cX5_chooseBase 28 = .ok (.aload_n 0, 1) := by decide +kernel
theorem dX5_chooseBase_29 : decode cX5_chooseBase 29 = .ok (.aload_n 1, 1) := by decide +kernel
theorem dX5_chooseBase_30 : decode cX5_chooseBase 30 = .ok (.putfield 42, 3) := by decide +kernel
theorem dX5_chooseBase_33 : decode cX5_chooseBase 33 = .ok (.return_, 1) := by decide +kernel
theorem dX5_loseBase_0 : decode cX5_loseBase 0 = .ok (.aload_n 0, 1) := by decide +kernel
theorem dX5_loseBase_1 : decode cX5_loseBase 1 = .ok (.getfield 42, 3) := by decide +kernel
theorem dX5_loseBase_4 : decode cX5_loseBase 4 = .ok (.aload_n 1, 1) := by decide +kernel
theorem dX5_loseBase_5 : decode cX5_loseBase 5 = .ok (.if_acmp .ne 8, 3) := by decide +kernel
theorem dX5_loseBase_8 : decode cX5_loseBase 8 = .ok (.aload_n 0, 1) := by decide +kernel
theorem dX5_loseBase_9 : decode cX5_loseBase 9 = .ok (.aconst_null, 1) := by decide +kernel
theorem dX5_loseBase_10 : decode cX5_loseBase 10 = .ok (.putfield 42, 3) := by decide +kernel
theorem dX5_loseBase_13 : decode cX5_loseBase 13 = .ok (.return_, 1) := by decide +kernel
theorem dX5_differenceTo_0 : decode cX5_differenceTo 0 = .ok (.aload_n 0, 1) := by decide +kernel
theorem dX5_differenceTo_1 : decode cX5_differenceTo 1 = .ok (.getfield 38, 3) := by decide +kernel
theorem dX5_differenceTo_4 : decode cX5_differenceTo 4 = .ok (.invokevirtual 46, 3) := by decide +kernel
theorem dX5_differenceTo_7 : decode cX5_differenceTo 7 = .ok (.aload_n 1, 1) := by decide +kernel
theorem dX5_differenceTo_8 : decode cX5_differenceTo 8 = .ok (.getfield 38, 3) := by decide +kernel
theorem dX5_differenceTo_11 : decode cX5_differenceTo 11 = .ok (.invokevirtual 46, 3) := by decide +kernel
theorem dX5_differenceTo_14 : decode cX5_differenceTo 14 = .ok (.invokestatic 83, 3) := by decide +kernel
theorem dX5_differenceTo_17 : decode cX5_differenceTo 17 = .ok (.istore_n 2, 1) := by decide +kernel
theorem dX5_differenceTo_18 : decode cX5_differenceTo 18 = .ok (.iconst 0, 1) := by decide +kernel
theorem dX5_differenceTo_19 : decode cX5_differenceTo 19 = .ok (.istore_n 3, 1) := by decide +kernel
theorem dX5_differenceTo_20 : decode cX5_differenceTo 20 = .ok (.iload_n 3, 1) := by decide +kernel
theorem dX5_differenceTo_21 : decode cX5_differenceTo 21 = .ok (.iload_n 2, 1) := by decide +kernel
theorem dX5_differenceTo_22 : decode cX5_differenceTo 22 = .ok (.if_icmp .ge 22, 3) := by decide +kernel
theorem dX5_differenceTo_25 : decode cX5_differenceTo 25 = .ok (.aload_n 0, 1) := by decide +kernel
theorem dX5_differenceTo_26 : decode cX5_differenceTo 26 = .ok (.iload_n 3, 1) := by decide +kernel
theorem dX5_differenceTo_27 : decode cX5_differenceTo 27 = .ok (.invokevirtual 89, 3) := by decide +kernel
theorem dX5_differenceTo_30 : decode cX5_differenceTo 30 = .ok (.aload_n 1, 1) := by decide +kernel
theorem dX5_differenceTo_31 : decode cX5_differenceTo 31 = .ok (.iload_n 3, 1) := by decide +kernel
theorem dX5_differenceTo_32 : decode cX5_differenceTo 32 = .ok (.invokevirtual 89, 3) := by decide +kernel
theorem dX5_differenceTo_35 : decode cX5_differenceTo 35 = .ok (.if_icmp .ne 9, 3) := by decide +kernel
theorem dX5_differenceTo_38 : decode cX5_differenceTo 38 = .ok (.iinc 3 1, 3) := by decide +kernel
theorem dX5_differenceTo_41 : decode cX5_differenceTo 41 = .ok (.goto (-21), 3) := by decide +kernel
theorem dX5_differenceTo_44 : decode cX5_differenceTo 44 = .ok (.iconst 0, 1) := by decide +kernel
theorem dX5_differenceTo_45 : decode cX5_differenceTo 45 = .ok (.istore 4, 2) := by decide +kernel
theorem dX5_differenceTo_47 : decode cX5_differenceTo 47 = .ok (.iload 4, 2) := by decide +kernel
theorem dX5_differenceTo_49 : decode cX5_differenceTo 49 = .ok (.iload_n 2, 1) := by decide +kernel
theorem dX5_differenceTo_50 : decode cX5_differenceTo 50 = .ok (.iload_n 3, 1) := by decide +kernel
theorem dX5_differenceTo_51 : decode cX5_differenceTo 51 = .ok (.isub, 1) := by decide +kernel
theorem dX5_differenceTo_52 : decode cX5_differenceTo 52 = .ok (.if_icmp .ge 24, 3) := by decide +kernel
theorem dX5_differenceTo_55 : decode cX5_differenceTo 55 = .ok (.aload_n 0, 1) := by decide +kernel
theorem dX5_differenceTo_56 : decode cX5_differenceTo 56 = .ok (.iload 4, 2) := by decide +kernel
theorem dX5_differenceTo_58 : decode cX5_differenceTo 58 = .ok (.invokevirtual 92, 3) := by decide +kernel
theorem dX5_differenceTo_61 : decode cX5_differenceTo 61 = .ok (.aload_n 1, 1) := by decide +kernel
theorem dX5_differenceTo_62 : decode cX5_differenceTo 62 = .ok (.iload 4, 2) := by decide +kernel
theorem dX5_differenceTo_64 : decode cX5_differenceTo 64 = .ok (.invokevirtual 92, 3) := by decide +kernel
theorem dX5_differenceTo_67 : decode cX5_differenceTo 67 = .ok (.if_icmp .ne 9, 3) := by decide +kernel
theorem dX5_differenceTo_70 : decode cX5_differenceTo 70 = .ok (.iinc 4 1, 3) := by decide +kernel
theorem dX5_differenceTo_73 : decode cX5_differenceTo 73 = .ok (.goto (-26), 3) := by decide +kernel
theorem dX5_differenceTo_76 : decode cX5_differenceTo 76 = .ok (.aload_n 0, 1) := by decide +kernel
theorem dX5_differenceTo_77 : decode cX5_differenceTo 77 = .ok (.getfield 38, 3) := by decide +kernel
theorem dX5_differenceTo_80 : decode cX5_differenceTo 80 = .ok (.invokevirtual 46, 3) := by decide +kernel
theorem dX5_differenceTo_83 : decode cX5_differenceTo 83 = .ok (.iload_n 3, 1) := by decide +kernel
theorem dX5_differenceTo_84 : decode cX5_differenceTo 84 = .ok (.isub, 1) := by decide +kernel
theorem dX5_differenceTo_85 : decode cX5_differenceTo 85 = .ok (.iload 4, 2) := by decide +kernel
theorem dX5_differenceTo_87 : decode cX5_differenceTo 87 = .ok (.isub, 1) := by decide +kernel
theorem dX5_differenceTo_88 : decode cX5_differenceTo 88 = .ok (.iconst 2, 1) := by decide +kernel
theorem dX5_differenceTo_89 : decode cX5_differenceTo 89 = .ok (.iadd, 1) := by decide +kernel
theorem dX5_differenceTo_90 : decode cX5_differenceTo 90 = .ok (.ireturn, 1) := by decide +kernel
theorem dX5_fromEnd_0 : decode cX5_fromEnd 0 = .ok (.aload_n 0, 1) := by decide +kernel
theorem dX5_fromEnd_1 : decode cX5_fromEnd 1 = .ok (.aload_n 0, 1) := by decide +kernel
theorem dX5_fromEnd_2 : decode cX5_fromEnd 2 = .ok (.getfield 38, 3) := by decide +kernel
theorem dX5_fromEnd_5 : decode cX5_fromEnd 5 = .ok (.invokevirtual 46, 3) := by decide +kernel
theorem dX5_fromEnd_8 : decode cX5_fromEnd 8 = .ok (.iconst 1, 1) := by decide +kernel
theorem dX5_fromEnd_9 : decode cX5_fromEnd 9 = .ok (.isub, 1) := by decide +kernel
theorem dX5_fromEnd_10 : decode cX5_fromEnd 10 = .ok (.iload_n 1, 1) := by decide +kernel
theorem dX5_fromEnd_11 : decode cX5_fromEnd 11 = .ok (.isub, 1) := by decide +kernel
theorem dX5_fromEnd_12 : decode cX5_fromEnd 12 = .ok (.invokevirtual 89, 3) := by decide +kernel
theorem dX5_fromEnd_15 : decode cX5_fromEnd 15 = .ok (.ireturn, 1) := by decide +kernel
theorem dX6_init_0 : decode cX6_init 0 = .ok (.aload_n 0, 1) := by decide +kernel
theorem dX6_init_1 : decode cX6_init 1 = .ok (.invokespecial 1, 3) := by decide +kernel
theorem dX6_init_4 : decode cX6_init 4 = .ok (.aload_n 0, 1) := by decide +kernel
theorem dX6_init_5 : decode cX6_init 5 = .ok (.new 7, 3) := by decide +kernel
theorem dX6_init_8 : decode cX6_init 8 = .ok (.dup, 1) := by decide +kernel
theorem dX6_init_9 : decode cX6_init 9 = .ok (.sipush 240, 3) := by decide +kernel
theorem dX6_init_12 : decode cX6_init 12 = .ok (.invokespecial 11, 3) := by decide +kernel
theorem dX6_init_15 : decode cX6_init 15 = .ok (.putfield 14, 3) := by decide +kernel
theorem dX6_init_18 : decode cX6_init 18 = .ok (.aload_n 0, 1) := by decide +kernel
theorem dX6_init_19 : decode cX6_init 19 = .ok (.new 18, 3) := by decide +kernel
theorem dX6_init_22 : decode cX6_init 22 = .ok (.dup, 1) := by decide +kernel
theorem dX6_init_23 : decode cX6_init 23 = .ok (.invokespecial 20, 3) := by decide +kernel
theorem dX6_init_26 : decode cX6_init 26 = .ok (.putfield 21, 3) := by decide +kernel
theorem dX6_init_29 : decode cX6_init 29 = .ok (.aload_n 0, 1) := by decide +kernel
theorem dX6_init_30 : decode cX6_init 30 = .ok (.bipush 6, 2) := by decide +kernel
theorem dX6_init_32 : decode cX6_init 32 = .ok (.newarray .int, 2) := by decide +kernel
theorem dX6_init_34 : decode cX6_init 34 = .ok (.putfield 25, 3) := by decide +kernel
theorem dX6_init_37 : decode cX6_init 37 = .ok (.aload_n 0, 1) := by decide +kernel
theorem dX6_init_38 : decode cX6_init 38 = .ok (.new 29, 3) := by decide +kernel
theorem dX6_init_41 : decode cX6_init 41 = .ok (.dup, 1) := by decide +kernel
theorem dX6_init_42 : decode cX6_init 42 = .ok (.invokespecial 31, 3) := by decide +kernel
theorem dX6_init_45 : decode cX6_init 45 = .ok (.putfield 32, 3) := by decide +kernel
theorem dX6_init_48 : decode cX6_init 48 = .ok (.aload_n 0, 1) := by decide +kernel
theorem dX6_init_49 : decode cX6_init 49 = .ok (.iconst 0, 1) := by decide +kernel
theorem dX6_init_50 : decode cX6_init 50 = .ok (.putfield 36, 3) := by decide +kernel
theorem dX6_init_53 : decode cX6_init 53 = .ok (.return_, 1) := by decide +kernel
theorem dX6_append_0 : decode cX6_append 0 = .ok (.iload_n 1, 1) := by decide +kernel
theorem dX6_append_1 : decode cX6_append 1 = .ok (.invokestatic 40, 3) := by decide +kernel
theorem dX6_append_4 : decode cX6_append 4 = .ok (.ifCond .ne 21, 3) := by decide +kernel
theorem dX6_append_7 : decode cX6_append 7 = .ok (.iload_n 2, 1) := by decide +kernel
theorem dX6_append_8 : decode cX6_append 8 = .ok (.invokestatic 40, 3) := by decide +kernel
theorem dX6_append_11 : decode cX6_append 11 = .ok (.ifCond .ne 14, 3) := by decide +kernel
theorem dX6_append_14 : decode cX6_append 14 = .ok (.iload_n 3, 1) := by decide +kernel
theorem dX6_append_15 : decode cX6_append 15 = .ok (.iconst 1, 1) := by decide +kernel
theorem dX6_append_16 : decode cX6_append 16 = .ok (.if_icmp .lt 9, 3) := by decide +kernel
theorem dX6_append_19 : decode cX6_append 19 = .ok (.iload_n 3, 1) := by decide +kernel
theorem dX6_append_20 : decode cX6_append 20 = .ok (.bipush 64, 2) := by decide +kernel
theorem dX6_append_22 : decode cX6_append 22 = .ok (.if_icmp .le 11, 3) := by decide +kernel
theorem dX6_append_25 : decode cX6_append 25 = .ok (.new 44, 3) := by decide +kernel
theorem dX6_append_28 : decode cX6_append 28 = .ok (.dup, 1) := by decide +kernel
theorem dX6_append_29 : decode cX6_append 29 = .ok (.invokespecial 46, 3) := by decide +kernel
theorem dX6_append_32 : decode cX6_append 32 = .ok (.athrow, 1) := by decide +kernel
theorem dX6_append_33 : decode cX6_append 33 = .ok (.iload_n 3, 1) := by decide +kernel
theorem dX6_append_34 : decode cX6_append 34 = .ok (.sipush 240, 3) := by decide +kernel
theorem dX6_append_37 : decode cX6_append 37 = .ok (.aload_n 0, 1) := by decide +kernel
theorem dX6_append_38 : decode cX6_append 38 = .ok (.getfield 14, 3) := by decide +kernel
theorem dX6_append_41 : decode cX6_append 41 = .ok (.invokevirtual 47, 3) := by decide +kernel
theorem dX6_append_44 : decode cX6_append 44 = .ok (.isub, 1) := by decide +kernel
theorem dX6_append_45 : decode cX6_append 45 = .ok (.if_icmp .le 11, 3) := by decide +kernel
theorem dX6_append_48 : decode cX6_append 48 = .ok (.new 51, 3) := by decide +kernel
theorem dX6_append_51 : decode cX6_append 51 = .ok (.dup, 1) := by decide +kernel
theorem dX6_append_52 : decode cX6_append 52 = .ok (.invokespecial 53, 3) := by decide +kernel
theorem dX6_append_55 : decode cX6_append 55 = .ok (.athrow, 1) := by decide +kernel
theorem dX6_append_56 : decode cX6_append 56 = .ok (.iload_n 1, 1) := by decide +kernel
theorem dX6_append_57 : decode cX6_append 57 = .ok (.istore 4, 2) := by decide +kernel
theorem dX6_append_59 : decode cX6_append 59 = .ok (.iconst 0, 1) := by decide +kernel
theorem dX6_append_60 : decode cX6_append 60 = .ok (.istore 5, 2) := by decide +kernel
theorem dX6_append_62 : decode cX6_append 62 = .ok (.iload 5, 2) := by decide +kernel
theorem dX6_append_64 : decode cX6_append 64 = .ok (.iload_n 3, 1) := by decide +kernel
theorem dX6_append_65 : decode cX6_append 65 = .ok (.if_icmp .ge 28, 3) := by decide +kernel
theorem dX6_append_68 : decode cX6_append 68 = .ok (.aload_n 0, 1) := by decide +kernel
theorem dX6_append_69 : decode cX6_append 69 = .ok (.getfield 14, 3) := by decide +kernel
theorem dX6_append_72 : decode cX6_append 72 = .ok (.iload 4, 2) := by decide +kernel
theorem dX6_append_74 : decode cX6_append 74 = .ok (.invokevirtual 54, 3) := by decide +kernel
theorem dX6_append_77 : decode cX6_append 77 = .ok (.iload 4, 2) := by decide +kernel
theorem dX6_append_79 : decode cX6_append 79 = .ok (.iload_n 2, 1) := by decide +kernel
theorem dX6_append_80 : decode cX6_append 80 = .ok (.iadd, 1) := by decide +kernel
theorem dX6_append_81 : decode cX6_append 81 = .ok (.sipush 256, 3) := by decide +kernel
theorem dX6_append_84 : decode cX6_append 84 = .ok (.irem, 1) := by decide +kernel
theorem dX6_append_85 : decode cX6_append 85 = .ok (.istore 4, 2) := by decide +kernel
theorem dX6_append_87 : decode cX6_append 87 = .ok (.iinc 5 1, 3) := by decide +kernel
theorem dX6_append_90 : decode cX6_append 90 = .ok (.goto (-28), 3) := by decide +kernel
theorem dX6_append_93 : decode cX6_append 93 = .ok (.aload_n 0, 1) := by decide +kernel
theorem dX6_append_94 : decode cX6_append 94 = .ok (.getfield 14, 3) := by decide +kernel
theorem dX6_append_97 : decode cX6_append 97 = .ok (.invokevirtual 47, 3) := by decide +kernel
theorem dX6_append_100 : decode cX6_append 100 = .ok (.ireturn, 1) := by decide +kernel
theorem dX6_appendCopy_0 : decode cX6_appendCopy 0 = .ok (.aload_n 0, 1) := by decide +kernel
theorem dX6_appendCopy_1 : decode cX6_appendCopy 1 = .ok (.iload_n 1, 1) := by decide +kernel
theorem dX6_appendCopy_2 : decode cX6_appendCopy 2 = .ok (.iload_n 2, 1) := by decide +kernel
theorem dX6_appendCopy_3 : decode cX6_appendCopy 3 = .ok (.invokevirtual 57, 3) := by decide +kernel
theorem dX6_appendCopy_6 : decode cX6_appendCopy 6 = .ok (.invokevirtual 61, 3) := by decide +kernel
theorem dX6_appendCopy_9 : decode cX6_appendCopy 9 = .ok (.astore 5, 2) := by decide +kernel
theorem dX6_appendCopy_11 : decode cX6_appendCopy 11 = .ok (.iload_n 3, 1) := by decide +kernel
theorem dX6_appendCopy_12 : decode cX6_appendCopy 12 = .ok (.iload 4, 2) := by decide +kernel
theorem dX6_appendCopy_14 : decode cX6_appendCopy 14 = .ok (.aload 5, 2) := by decide +kernel
theorem dX6_appendCopy_16 : decode cX6_appendCopy 16 = .ok (.invokevirtual 47, 3) := by decide +kernel
theorem dX6_appendCopy_19 : decode cX6_appendCopy 19 = .ok (.invokestatic 67, 3) := by decide +kernel
theorem dX6_appendCopy_22 : decode cX6_appendCopy 22 = .ok (.ifCond .eq 11, 3) := by decide +kernel
theorem dX6_appendCopy_25 : decode cX6_appendCopy 25 = .ok (.new 71, 3) := by decide +kernel
theorem dX6_appendCopy_28 : decode cX6_appendCopy 28 = .ok (.dup, 1) := by decide +kernel
theorem dX6_appendCopy_29 : decode cX6_appendCopy 29 = .ok (.invokespecial 73, 3) := by decide +kernel
theorem dX6_appendCopy_32 : decode cX6_appendCopy 32 = .ok (.athrow, 1) := by decide +kernel
theorem dX6_appendCopy_33 : decode cX6_appendCopy 33 = .ok (.iload 4, 2) := by decide +kernel
theorem dX6_appendCopy_35 : decode cX6_appendCopy 35 = .ok (.sipush 240, 3) := by decide +kernel
theorem dX6_appendCopy_38 : decode cX6_appendCopy 38 = .ok (.aload_n 0, 1) := by decide +kernel
theorem dX6_appendCopy_39 : decode cX6_appendCopy 39 = .ok (.getfield 14, 3) := by decide +kernel
theorem dX6_appendCopy_42 : decode cX6_appendCopy 42 = .ok (.invokevirtual 47, 3) := by decide +kernel
theorem dX6_appendCopy_45 : decode cX6_appendCopy 45 = .ok (.isub, 1) := by decide +kernel
theorem dX6_appendCopy_46 : decode cX6_appendCopy 46 = .ok (.if_icmp .le 11, 3) := by decide +kernel
theorem dX6_appendCopy_49 : decode cX6_appendCopy 49 = .ok (.new 51, 3) := by decide +kernel
theorem dX6_appendCopy_52 : decode cX6_appendCopy 52 = .ok (.dup, 1) := by decide +kernel
theorem dX6_appendCopy_53 : decode cX6_appendCopy 53 = .ok (.invokespecial 53, 3) := by decide +kernel
theorem dX6_appendCopy_56 : decode cX6_appendCopy 56 = .ok (.athrow, 1) := by decide +kernel
theorem dX6_appendCopy_57 : decode cX6_appendCopy 57 = .ok (.aload_n 0, 1) := by decide +kernel
theorem dX6_appendCopy_58 : decode cX6_appendCopy 58 = .ok (.getfield 14, 3) := by decide +kernel
theorem dX6_appendCopy_61 : decode cX6_appendCopy 61 = .ok (.aload 5, 2) := by decide +kernel
theorem dX6_appendCopy_63 : decode cX6_appendCopy 63 = .ok (.iload_n 3, 1) := by decide +kernel
theorem dX6_appendCopy_64 : decode cX6_appendCopy 64 = .ok (.iload 4, 2) := by decide +kernel
theorem dX6_appendCopy_66 : decode cX6_appendCopy 66 = .ok (.invokevirtual 74, 3) := by decide +kernel
theorem dX6_appendCopy_69 : decode cX6_appendCopy 69 = .ok (.aload_n 0, 1) := by decide +kernel
theorem dX6_appendCopy_70 : decode cX6_appendCopy 70 = .ok (.getfield 14, 3) := by decide +kernel
theorem dX6_appendCopy_73 : decode cX6_appendCopy 73 = .ok (.invokevirtual 47, 3) := by decide +kernel
theorem dX6_appendCopy_76 : decode cX6_appendCopy 76 = .ok (.ireturn, 1) := by decide +kernel
theorem dX6_insert_0 : decode cX6_insert 0 = .ok (.iload_n 1, 1) := by decide +kernel
theorem dX6_insert_1 : decode cX6_insert 1 = .ok (.ifCond .lt 14, 3) := by decide +kernel
theorem dX6_insert_4 : decode cX6_insert 4 = .ok (.iload_n 1, 1) := by decide +kernel
theorem dX6_insert_5 : decode cX6_insert 5 = .ok (.aload_n 0, 1) := by decide +kernel
theorem dX6_insert_6 : decode cX6_insert 6 = .ok (.getfield 14, 3) := by decide +kernel
theorem dX6_insert_9 : decode cX6_insert 9 = .ok (.invokevirtual 47, 3) := by decide +kernel
theorem dX6_insert_12 : decode cX6_insert 12 = .ok (.if_icmp .le 11, 3) := by decide +kernel
theorem dX6_insert_15 : decode cX6_insert 15 = .ok (.new 71, 3) := by decide +kernel
theorem dX6_insert_18 : decode cX6_insert 18 = .ok (.dup, 1) := by decide +kernel
theorem dX6_insert_19 : decode cX6_insert 19 = .ok (.invokespecial 73, 3) := by decide +kernel
theorem dX6_insert_22 : decode cX6_insert 22 = .ok (.athrow, 1) := by decide +kernel
theorem dX6_insert_23 : decode cX6_insert 23 = .ok (.iload_n 2, 1) := by decide +kernel
theorem dX6_insert_24 : decode cX6_insert 24 = .ok (.invokestatic 40, 3) := by decide +kernel
theorem dX6_insert_27 : decode cX6_insert 27 = .ok (.ifCond .eq 11, 3) := by decide +kernel
theorem dX6_insert_30 : decode cX6_insert 30 = .ok (.new 44, 3) := by decide +kernel
theorem dX6_insert_33 : decode cX6_insert 33 = .ok (.dup, 1) := by decide +kernel
theorem dX6_insert_34 : decode cX6_insert 34 = .ok (.invokespecial 46, 3) := by decide +kernel
theorem dX6_insert_37 : decode cX6_insert 37 = .ok (.athrow, 1) := by decide +kernel
theorem dX6_insert_38 : decode cX6_insert 38 = .ok (.aload_n 0, 1) := by decide +kernel
theorem dX6_insert_39 : decode cX6_insert 39 = .ok (.getfield 14, 3) := by decide +kernel
theorem dX6_insert_42 : decode cX6_insert 42 = .ok (.invokevirtual 47, 3) := by decide +kernel
theorem dX6_insert_45 : decode cX6_insert 45 = .ok (.sipush 240, 3) := by decide +kernel
theorem dX6_insert_48 : decode cX6_insert 48 = .ok (.if_icmp .lt 11, 3) := by decide +kernel
theorem dX6_insert_51 : decode cX6_insert 51 = .ok (.new 51, 3) := by decide +kernel
theorem dX6_insert_54 : decode cX6_insert 54 = .ok (.dup, 1) := by decide +kernel
theorem dX6_insert_55 : decode cX6_insert 55 = .ok (.invokespecial 53, 3) := by decide +kernel
theorem dX6_insert_58 : decode cX6_insert 58 = .ok (.athrow, 1) := by decide +kernel
theorem dX6_insert_59 : decode cX6_insert 59 = .ok (.aload_n 0, 1) := by decide +kernel
theorem dX6_insert_60 : decode cX6_insert 60 = .ok (.getfield 14, 3) := by decide +kernel
theorem dX6_insert_63 : decode cX6_insert 63 = .ok (.iload_n 1, 1) := by decide +kernel
theorem dX6_insert_64 : decode cX6_insert 64 = .ok (.iload_n 2, 1) := by decide +kernel
theorem dX6_insert_65 : decode cX6_insert 65 = .ok (.invokevirtual 78, 3) := by decide +kernel
theorem dX6_insert_68 : decode cX6_insert 68 = .ok (.aload_n 0, 1) := by decide +kernel
theorem dX6_insert_69 : decode cX6_insert 69 = .ok (.getfield 14, 3) := by decide +kernel
theorem dX6_insert_72 : decode cX6_insert 72 = .ok (.invokevirtual 47, 3) := by decide +kernel
theorem dX6_insert_75 : decode cX6_insert 75 = .ok (.ireturn, 1) := by decide +kernel
theorem dX6_cut_0 : decode cX6_cut 0 = .ok (.iload_n 1, 1) := by decide +kernel
theorem dX6_cut_1 : decode cX6_cut 1 = .ok (.iload_n 2, 1) := by decide +kernel
theorem dX6_cut_2 : decode cX6_cut 2 = .ok (.aload_n 0, 1) := by decide +kernel
theorem dX6_cut_3 : decode cX6_cut 3 = .ok (.getfield 14, 3) := by decide +kernel
theorem dX6_cut_6 : decode cX6_cut 6 = .ok (.invokevirtual 47, 3) := by decide +kernel
theorem dX6_cut_9 : decode cX6_cut 9 = .ok (.invokestatic 67, 3) := by decide +kernel
theorem dX6_cut_12 : decode cX6_cut 12 = .ok (.ifCond .eq 11, 3) := by decide +kernel
theorem dX6_cut_15 : decode cX6_cut 15 = .ok (.new 71, 3) := by decide +kernel
theorem dX6_cut_18 : decode cX6_cut 18 = .ok (.dup, 1) := by decide +kernel
theorem dX6_cut_19 : decode cX6_cut 19 = .ok (.invokespecial 73, 3) := by decide +kernel
theorem dX6_cut_22 : decode cX6_cut 22 = .ok (.athrow, 1) := by decide +kernel
theorem dX6_cut_23 : decode cX6_cut 23 = .ok (.aload_n 0, 1) := by decide +kernel
theorem dX6_cut_24 : decode cX6_cut 24 = .ok (.getfield 14, 3) := by decide +kernel
theorem dX6_cut_27 : decode cX6_cut 27 = .ok (.iload_n 1, 1) := by decide +kernel
theorem dX6_cut_28 : decode cX6_cut 28 = .ok (.iload_n 2, 1) := by decide +kernel
theorem dX6_cut_29 : decode cX6_cut 29 = .ok (.invokevirtual 82, 3) := by decide +kernel
theorem dX6_cut_32 : decode cX6_cut 32 = .ok (.aload_n 0, 1) := by decide +kernel
theorem dX6_cut_33 : decode cX6_cut 33 = .ok (.getfield 14, 3) := by decide +kernel
theorem dX6_cut_36 : decode cX6_cut 36 = .ok (.invokevirtual 47, 3) := by decide +kernel
theorem dX6_cut_39 : decode cX6_cut 39 = .ok (.ireturn, 1) := by decide +kernel
theorem dX6_clearDraft_0 : decode cX6_clearDraft 0 = .ok (.aload_n 0, 1) := by decide +kernel
theorem dX6_clearDraft_1 : decode cX6_clearDraft 1 = .ok (.getfield 14, 3) := by decide +kernel
theorem dX6_clearDraft_4 : decode cX6_clearDraft 4 = .ok (.invokevirtual 47, 3) := by decide +kernel
theorem dX6_clearDraft_7 : decode cX6_clearDraft 7 = .ok (.istore_n 1, 1) := by decide +kernel
theorem dX6_clearDraft_8 : decode cX6_clearDraft 8 = .ok (.aload_n 0, 1) := by decide +kernel
theorem dX6_clearDraft_9 : decode cX6_clearDraft 9 = .ok (.getfield 14, 3) := by decide +kernel
theorem dX6_clearDraft_12 : decode cX6_clearDraft 12 = .ok (.iconst 0, 1) := by decide +kernel
theorem dX6_clearDraft_13 : decode cX6_clearDraft 13 = .ok (.iload_n 1, 1) := by decide +kernel
theorem dX6_clearDraft_14 : decode cX6_clearDraft 14 = .ok (.invokevirtual 82, 3) := by decide +kernel
theorem dX6_clearDraft_17 : decode cX6_clearDraft 17 = .ok (.iload_n 1, 1) := by decide +kernel
theorem dX6_clearDraft_18 : decode cX6_clearDraft 18 = .ok (.ireturn, 1) := by decide +kernel
theorem dX6_draftLength_0 : decode cX6_draftLength 0 = .ok (.aload_n 0, 1) := by decide +kernel
theorem dX6_draftLength_1 : decode cX6_draftLength 1 = .ok (.getfield 14, 3) := by decide +kernel
theorem dX6_draftLength_4 : decode cX6_draftLength 4 = .ok (.invokevirtual 47, 3) := by decide +kernel
theorem dX6_draftLength_7 : decode cX6_draftLength 7 = .ok (.ireturn, 1) := by decide +kernel
theorem dX6_draftAt_0 : decode cX6_draftAt 0 = .ok (.iload_n 1, 1) := by decide +kernel
theorem dX6_draftAt_1 : decode cX6_draftAt 1 = .ok (.aload_n 0, 1) := by decide +kernel
theorem dX6_draftAt_2 : decode cX6_draftAt 2 = .ok (.getfield 14, 3) := by decide +kernel
theorem dX6_draftAt_5 : decode cX6_draftAt 5 = .ok (.invokevirtual 47, 3) := by decide +kernel
theorem dX6_draftAt_8 : decode cX6_draftAt 8 = .ok (.invokestatic 85, 3) := by decide +kernel
theorem dX6_draftAt_11 : decode cX6_draftAt 11 = .ok (.ifCond .eq 11, 3) := by decide +kernel
theorem dX6_draftAt_14 : decode cX6_draftAt 14 = .ok (.new 71, 3) := by decide +kernel
theorem dX6_draftAt_17 : decode cX6_draftAt 17 = .ok (.dup, 1) := by decide +kernel
theorem dX6_draftAt_18 : decode cX6_draftAt 18 = .ok (.invokespecial 73, 3) := by decide +kernel
theorem dX6_draftAt_21 : decode cX6_draftAt 21 = .ok (.athrow, 1) := by decide +kernel
theorem dX6_draftAt_22 : decode cX6_draftAt 22 = .ok (.aload_n 0, 1) := by decide +kernel
theorem dX6_draftAt_23 : decode cX6_draftAt 23 = .ok (.getfield 14, 3) := by decide +kernel
theorem dX6_draftAt_26 : decode cX6_draftAt 26 = .ok (.iload_n 1, 1) := by decide +kernel
theorem dX6_draftAt_27 : decode cX6_draftAt 27 = .ok (.invokevirtual 89, 3) := by decide +kernel
theorem dX6_draftAt_30 : decode cX6_draftAt 30 = .ok (.ireturn, 1) := by decide +kernel
theorem dX6_save_0 : decode cX6_save 0 = .ok (.iload_n 1, 1) := by decide +kernel
theorem dX6_save_1 : decode cX6_save 1 = .ok (.aload_n 0, 1) := by decide +kernel
theorem dX6_save_2 : decode cX6_save 2 = .ok (.getfield 25, 3) := by decide +kernel
theorem dX6_save_5 : decode cX6_save 5 = .ok (.arraylength, 1) := by decide +kernel
theorem dX6_save_6 : decode cX6_save 6 = .ok (.invokestatic 85, 3) := by decide +kernel
theorem dX6_save_9 : decode cX6_save 9 = .ok (.ifCond .eq 11, 3) := by decide +kernel
theorem dX6_save_12 : decode cX6_save 12 = .ok (.new 71, 3) := by decide +kernel
theorem dX6_save_15 : decode cX6_save 15 = .ok (.dup, 1) := by decide +kernel
theorem dX6_save_16 : decode cX6_save 16 = .ok (.invokespecial 73, 3) := by decide +kernel
theorem dX6_save_19 : decode cX6_save 19 = .ok (.athrow, 1) := by decide +kernel
theorem dX6_save_20 : decode cX6_save 20 = .ok (.aload_n 0, 1) := by decide +kernel
theorem dX6_save_21 : decode cX6_save 21 = .ok (.getfield 21, 3) := by decide +kernel
theorem dX6_save_24 : decode cX6_save 24 = .ok (.invokevirtual 93, 3) := by decide +kernel
theorem dX6_save_27 : decode cX6_save 27 = .ok (.bipush 20, 2) := by decide +kernel
theorem dX6_save_29 : decode cX6_save 29 = .ok (.if_icmp .ge 13, 3) := by decide +kernel
theorem dX6_save_32 : decode cX6_save 32 = .ok (.aload_n 0, 1) := by decide +kernel
theorem dX6_save_33 : decode cX6_save 33 = .ok (.getfield 36, 3) := by decide +kernel
theorem dX6_save_36 : decode cX6_save 36 = .ok (.sipush 512, 3) := by decide +kernel
theorem dX6_save_39 : decode cX6_save 39 = .ok (.if_icmp .lt 11, 3) := by decide +kernel
theorem dX6_save_42 : decode cX6_save 42 = .ok (.new 51, 3) := by decide +kernel
theorem dX6_save_45 : decode cX6_save 45 = .ok (.dup, 1) := by decide +kernel
theorem dX6_save_46 : decode cX6_save 46 = .ok (.invokespecial 53, 3) := by decide +kernel
theorem dX6_save_49 : decode cX6_save 49 = .ok (.athrow, 1) := by decide +kernel
theorem dX6_save_50 : decode cX6_save 50 = .ok (.aload_n 0, 1) := by decide +kernel
theorem dX6_save_51 : decode cX6_save 51 = .ok (.getfield 25, 3) := by decide +kernel
theorem dX6_save_54 : decode cX6_save 54 = .ok (.iload_n 1, 1) := by decide +kernel
theorem dX6_save_55 : decode cX6_save 55 = .ok (.iaload, 1) := by decide +kernel
theorem dX6_save_56 : decode cX6_save 56 = .ok (.istore_n 2, 1) := by decide +kernel
theorem dX6_save_57 : decode cX6_save 57 = .ok (.new 62, 3) := by decide +kernel
theorem dX6_save_60 : decode cX6_save 60 = .ok (.dup, 1) := by decide +kernel
theorem dX6_save_61 : decode cX6_save 61 = .ok (.iload_n 1, 1) := by decide +kernel
theorem dX6_save_62 : decode cX6_save 62 = .ok (.iload_n 2, 1) := by decide +kernel
theorem dX6_save_63 : decode cX6_save 63 = .ok (.aload_n 0, 1) := by decide +kernel
theorem dX6_save_64 : decode cX6_save 64 = .ok (.getfield 14, 3) := by decide +kernel
theorem dX6_save_67 : decode cX6_save 67 = .ok (.invokespecial 94, 3) := by decide +kernel
theorem dX6_save_70 : decode cX6_save 70 = .ok (.astore_n 3, 1) := by decide +kernel
theorem dX6_save_71 : decode cX6_save 71 = .ok (.aload_n 0, 1) := by decide +kernel
theorem dX6_save_72 : decode cX6_save 72 = .ok (.getfield 14, 3) := by decide +kernel
theorem dX6_save_75 : decode cX6_save 75 = .ok (.invokestatic 97, 3) := by decide +kernel
theorem dX6_save_78 : decode cX6_save 78 = .ok (.astore 4, 2) := by decide +kernel
theorem dX6_save_80 : decode cX6_save 80 = .ok (.iconst 0, 1) := by decide +kernel
theorem dX6_save_81 : decode cX6_save 81 = .ok (.istore 5, 2) := by decide +kernel
theorem dX6_save_83 : decode cX6_save 83 = .ok (.iload 5, 2) := by decide +kernel
theorem dX6_save_85 : decode cX6_save 85 = .ok (.aload 4, 2) := by decide +kernel
theorem dX6_save_87 : decode cX6_save 87 = .ok (.invokevirtual 93, 3) := by decide +kernel
theorem dX6_save_90 : decode cX6_save 90 = .ok (.if_icmp .ge 30, 3) := by decide +kernel
theorem dX6_save_93 : decode cX6_save 93 = .ok (.aload_n 3, 1) := by decide +kernel
theorem dX6_save_94 : decode cX6_save 94 = .ok (.aload_n 0, 1) := by decide +kernel
theorem dX6_save_95 : decode cX6_save 95 = .ok (.getfield 32, 3) := by decide +kernel
theorem dX6_save_98 : decode cX6_save 98 = .ok (.aload 4, 2) := by decide +kernel
theorem dX6_save_100 : decode cX6_save 100 = .ok (.iload 5, 2) := by decide +kernel
theorem dX6_save_102 : decode cX6_save 102 = .ok (.invokevirtual 101, 3) := by decide +kernel
theorem dX6_save_105 : decode cX6_save 105 = .ok (.checkcast 104, 3) := by decide +kernel
theorem dX6_save_108 : decode cX6_save 108 = .ok (.invokevirtual 106, 3) := by decide +kernel
theorem dX6_save_111 : decode cX6_save 111 = .ok (.invokevirtual 110, 3) := by decide +kernel
theorem dX6_save_114 : decode cX6_save 114 = .ok (.iinc 5 1, 3) := by decide +kernel
theorem dX6_save_117 : decode cX6_save 117 = .ok (.goto (-34), 3) := by decide +kernel
theorem dX6_save_120 : decode cX6_save 120 = .ok (.aload_n 3, 1) := by decide +kernel
theorem dX6_save_121 : decode cX6_save 121 = .ok (.aload_n 0, 1) := by decide +kernel
theorem dX6_save_122 : decode cX6_save 122 = .ok (.iload_n 1, 1) := by decide +kernel
theorem dX6_save_123 : decode cX6_save 123 = .ok (.invokevirtual 114, 3) := by decide +kernel
theorem dX6_save_126 : decode cX6_save 126 = .ok (.invokevirtual 118, 3) := by decide +kernel
theorem dX6_save_129 : decode cX6_save 129 = .ok (.aload_n 0, 1) := by decide +kernel
theorem dX6_save_130 : decode cX6_save 130 = .ok (.getfield 21, 3) := by decide +kernel
theorem dX6_save_133 : decode cX6_save 133 = .ok (.aload_n 3, 1) := by decide +kernel
theorem dX6_save_134 : decode cX6_save 134 = .ok (.invokevirtual 122, 3) := by decide +kernel
theorem dX6_save_137 : decode cX6_save 137 = .ok (.pop, 1) := by decide +kernel
theorem dX6_save_138 : decode cX6_save 138 = .ok (.aload_n 0, 1) := by decide +kernel
theorem dX6_save_139 : decode cX6_save 139 = .ok (.getfield 25, 3) := by decide +kernel
theorem dX6_save_142 : decode cX6_save 142 = .ok (.iload_n 1, 1) := by decide +kernel
theorem dX6_save_143 : decode cX6_save 143 = .ok (.iload_n 2, 1) := by decide +kernel
theorem dX6_save_144 : decode cX6_save 144 = .ok (.iconst 1, 1) := by decide +kernel
theorem dX6_save_145 : decode cX6_save 145 = .ok (.iadd, 1) := by decide +kernel
theorem dX6_save_146 : decode cX6_save 146 = .ok (.iastore, 1) := by decide +kernel
theorem dX6_save_147 : decode cX6_save 147 = .ok (.aload_n 0, 1) := by decide +kernel
theorem dX6_save_148 : decode cX6_save 148 = .ok (.dup, 1) := by decide +kernel
theorem dX6_save_149 : decode cX6_save 149 = .ok (.getfield 36, 3) := by decide +kernel
theorem dX6_save_152 : decode cX6_save 152 = .ok (.iconst 1, 1) := by decide +kernel
theorem dX6_save_153 : decode cX6_save 153 = .ok (.iadd, 1) := by decide +kernel
theorem dX6_save_154 : decode cX6_save 154 = .ok (.putfield 36, 3) := by decide +kernel
theorem dX6_save_157 : decode cX6_save 157 = .ok (.iload_n 2, 1) := by decide +kernel
theorem dX6_save_158 : decode cX6_save 158 = .ok (.ireturn, 1) := by decide +kernel
theorem dX6_wouldStore_0 : decode cX6_wouldStore 0 = .ok (.aload_n 0, 1) := by decide +kernel
theorem dX6_wouldStore_1 : decode cX6_wouldStore 1 = .ok (.getfield 14, 3) := by decide +kernel
theorem dX6_wouldStore_4 : decode cX6_wouldStore 4 = .ok (.invokestatic 97, 3) := by decide +kernel
theorem dX6_wouldStore_7 : decode cX6_wouldStore 7 = .ok (.astore_n 1, 1) := by decide +kernel
theorem dX6_wouldStore_8 : decode cX6_wouldStore 8 = .ok (.iconst 0, 1) := by decide +kernel
theorem dX6_wouldStore_9 : decode cX6_wouldStore 9 = .ok (.istore_n 2, 1) := by decide +kernel
theorem dX6_wouldStore_10 : decode cX6_wouldStore 10 = .ok (.iconst 0, 1) := by decide +kernel
theorem dX6_wouldStore_11 : decode cX6_wouldStore 11 = .ok (.istore_n 3, 1) := by decide +kernel
theorem dX6_wouldStore_12 : decode cX6_wouldStore 12 = .ok (.iload_n 3, 1) := by decide +kernel
theorem dX6_wouldStore_13 : decode cX6_wouldStore 13 = .ok (.aload_n 1, 1) := by decide +kernel
theorem dX6_wouldStore_14 : decode cX6_wouldStore 14 = .ok (.invokevirtual 93, 3) := by decide +kernel
theorem dX6_wouldStore_17 : decode cX6_wouldStore 17 = .ok (.if_icmp .ge 47, 3) := by decide +kernel
theorem dX6_wouldStore_20 : decode cX6_wouldStore 20 = .ok (.aload_n 1, 1) := by decide +kernel
theorem dX6_wouldStore_21 : decode cX6_wouldStore 21 = .ok (.iload_n 3, 1) := by decide +kernel
theorem dX6_wouldStore_22 : decode cX6_wouldStore 22 = .ok (.invokevirtual 101, 3) := by decide +kernel
theorem dX6_wouldStore_25 : decode cX6_wouldStore 25 = .ok (.checkcast 104, 3) := by decide +kernel
theorem dX6_wouldStore_28 : decode cX6_wouldStore 28 = .ok (.astore 4, 2) := by decide +kernel
theorem dX6_wouldStore_30 : decode cX6_wouldStore 30 = .ok (.aload_n 1, 1) := by decide +kernel
theorem dX6_wouldStore_31 : decode cX6_wouldStore 31 = .ok (.iload_n 3, 1) := by decide +kernel
theorem dX6_wouldStore_32 : decode cX6_wouldStore 32 = .ok (.invokestatic 125, 3) := by decide +kernel
theorem dX6_wouldStore_35 : decode cX6_wouldStore 35 = .ok (.ifCond .ne 23, 3) := by decide +kernel
theorem dX6_wouldStore_38 : decode cX6_wouldStore 38 = .ok (.aload_n 0, 1) := by decide +kernel
theorem dX6_wouldStore_39 : decode cX6_wouldStore 39 = .ok (.getfield 32, 3) := by decide +kernel
theorem dX6_wouldStore_42 : decode cX6_wouldStore 42 = .ok (.aload 4, 2) := by decide +kernel
theorem dX6_wouldStore_44 : decode cX6_wouldStore 44 = .ok (.invokevirtual 129, 3) := by decide +kernel
theorem dX6_wouldStore_47 : decode cX6_wouldStore 47 = .ok (.ifCond .ne 11, 3) := by decide +kernel
theorem dX6_wouldStore_50 : decode cX6_wouldStore 50 = .ok (.iload_n 2, 1) := by decide +kernel
theorem dX6_wouldStore_51 : decode cX6_wouldStore 51 = .ok (.aload 4, 2) := by decide +kernel
theorem dX6_wouldStore_53 : decode cX6_wouldStore 53 = .ok (.invokevirtual 133, 3) := by decide +kernel
theorem dX6_wouldStore_56 : decode cX6_wouldStore 56 = .ok (.iadd, 1) := by decide +kernel
theorem dX6_wouldStore_57 : decode cX6_wouldStore 57 = .ok (.istore_n 2, 1) := by decide +kernel
theorem dX6_wouldStore_58 : decode cX6_wouldStore 58 = .ok (.iinc 3 1, 3) := by decide +kernel
theorem dX6_wouldStore_61 : decode cX6_wouldStore 61 = .ok (.goto (-49), 3) := by decide +kernel
theorem dX6_wouldStore_64 : decode cX6_wouldStore 64 = .ok (.iload_n 2, 1) := by decide +kernel
theorem dX6_wouldStore_65 : decode cX6_wouldStore 65 = .ok (.ireturn, 1) := by decide +kernel
theorem dX6_forget_0 : decode cX6_forget 0 = .ok (.aload_n 0, 1) := by decide +kernel
theorem dX6_forget_1 : decode cX6_forget 1 = .ok (.iload_n 1, 1) := by decide +kernel
theorem dX6_forget_2 : decode cX6_forget 2 = .ok (.iload_n 2, 1) := by decide +kernel
theorem dX6_forget_3 : decode cX6_forget 3 = .ok (.invokevirtual 57, 3) := by decide +kernel
theorem dX6_forget_6 : decode cX6_forget 6 = .ok (.astore_n 3, 1) := by decide +kernel
theorem dX6_forget_7 : decode cX6_forget 7 = .ok (.aload_n 0, 1) := by decide +kernel
theorem dX6_forget_8 : decode cX6_forget 8 = .ok (.getfield 21, 3) := by decide +kernel
theorem dX6_forget_11 : decode cX6_forget 11 = .ok (.invokevirtual 93, 3) := by decide +kernel
theorem dX6_forget_14 : decode cX6_forget 14 = .ok (.iconst 1, 1) := by decide +kernel
theorem dX6_forget_15 : decode cX6_forget 15 = .ok (.isub, 1) := by decide +kernel
theorem dX6_forget_16 : decode cX6_forget 16 = .ok (.istore 4, 2) := by decide +kernel
theorem dX6_forget_18 : decode cX6_forget 18 = .ok (.iload 4, 2) := by decide +kernel
theorem dX6_forget_20 : decode cX6_forget 20 = .ok (.ifCond .lt 48, 3) := by decide +kernel
theorem dX6_forget_23 : decode cX6_forget 23 = .ok (.aload_n 0, 1) := by decide +kernel
theorem dX6_forget_24 : decode cX6_forget 24 = .ok (.getfield 21, 3) := by decide +kernel
theorem dX6_forget_27 : decode cX6_forget 27 = .ok (.iload 4, 2) := by decide +kernel
theorem dX6_forget_29 : decode cX6_forget 29 = .ok (.invokevirtual 101, 3) := by decide +kernel
theorem dX6_forget_32 : decode cX6_forget 32 = .ok (.checkcast 62, 3) := by decide +kernel
theorem dX6_forget_35 : decode cX6_forget 35 = .ok (.astore 5, 2) := by decide +kernel
theorem dX6_forget_37 : decode cX6_forget 37 = .ok (.aload 5, 2) := by decide +kernel
theorem dX6_forget_39 : decode cX6_forget 39 = .ok (.aload_n 3, 1) := by decide +kernel
theorem dX6_forget_40 : decode cX6_forget 40 = .ok (.if_acmp .ne 16, 3) := by decide +kernel
theorem dX6_forget_43 : decode cX6_forget 43 = .ok (.aload_n 0, 1) := by decide +kernel
theorem dX6_forget_44 : decode cX6_forget 44 = .ok (.getfield 21, 3) := by decide +kernel
theorem dX6_forget_47 : decode cX6_forget 47 = .ok (.iload 4, 2) := by decide +kernel
theorem dX6_forget_49 : decode cX6_forget 49 = .ok (.invokevirtual 134, 3) := by decide +kernel
theorem dX6_forget_52 : decode cX6_forget 52 = .ok (.pop, 1) := by decide +kernel
theorem dX6_forget_53 : decode cX6_forget 53 = .ok (.goto 9, 3) := by decide +kernel
theorem dX6_forget_56 : decode cX6_forget 56 = .ok (.aload 5, 2) := by decide +kernel
theorem dX6_forget_58 : decode cX6_forget 58 = .ok (.aload_n 3, 1) := by decide +kernel
theorem dX6_forget_59 : decode cX6_forget 59 = .ok (.invokevirtual 137, 3) := by decide +kernel
theorem dX6_forget_62 : decode cX6_forget 62 = .ok (.iinc 4 (-1), 3) := by decide +kernel
theorem dX6_forget_65 : decode cX6_forget 65 = .ok (.goto (-47), 3) := by decide +kernel
theorem dX6_forget_68 : decode cX6_forget 68 = .ok (.aload_n 3, 1) := by decide +kernel
theorem dX6_forget_69 : decode cX6_forget 69 = .ok (.invokevirtual 140, 3) := by decide +kernel
theorem dX6_forget_72 : decode cX6_forget 72 = .ok (.aload_n 0, 1) := by decide +kernel
theorem dX6_forget_73 : decode cX6_forget 73 = .ok (.getfield 21, 3) := by decide +kernel
theorem dX6_forget_76 : decode cX6_forget 76 = .ok (.invokevirtual 93, 3) := by decide +kernel
theorem dX6_forget_79 : decode cX6_forget 79 = .ok (.ireturn, 1) := by decide +kernel
theorem dX6_collect_0 : decode cX6_collect 0 = .ok (.aload_n 0, 1) := by decide +kernel
theorem dX6_collect_1 : decode cX6_collect 1 = .ok (.getfield 32, 3) := by decide +kernel
theorem dX6_collect_4 : decode cX6_collect 4 = .ok (.invokevirtual 143, 3) := by decide +kernel
theorem dX6_collect_7 : decode cX6_collect 7 = .ok (.ireturn, 1) := by decide +kernel
theorem dX6_versions_0 : decode cX6_versions 0 = .ok (.aload_n 0, 1) := by decide +kernel
theorem dX6_versions_1 : decode cX6_versions 1 = .ok (.getfield 21, 3) := by decide +kernel
theorem dX6_versions_4 : decode cX6_versions 4 = .ok (.invokevirtual 93, 3) := by decide +kernel
theorem dX6_versions_7 : decode cX6_versions 7 = .ok (.ireturn, 1) := by decide +kernel
theorem dX6_isKept_0 : decode cX6_isKept 0 = .ok (.iload_n 1, 1) := by decide +kernel
theorem dX6_isKept_1 : decode cX6_isKept 1 = .ok (.bipush 6, 2) := by decide +kernel
theorem dX6_isKept_3 : decode cX6_isKept 3 = .ok (.invokestatic 85, 3) := by decide +kernel
theorem dX6_isKept_6 : decode cX6_isKept 6 = .ok (.ifCond .eq 11, 3) := by decide +kernel
theorem dX6_isKept_9 : decode cX6_isKept 9 = .ok (.new 71, 3) := by decide +kernel
theorem dX6_isKept_12 : decode cX6_isKept 12 = .ok (.dup, 1) := by decide +kernel
theorem dX6_isKept_13 : decode cX6_isKept 13 = .ok (.invokespecial 73, 3) := by decide +kernel
theorem dX6_isKept_16 : decode cX6_isKept 16 = .ok (.athrow, 1) := by decide +kernel
theorem dX6_isKept_17 : decode cX6_isKept 17 = .ok (.aload_n 0, 1) := by decide +kernel
theorem dX6_isKept_18 : decode cX6_isKept 18 = .ok (.iload_n 1, 1) := by decide +kernel
theorem dX6_isKept_19 : decode cX6_isKept 19 = .ok (.iload_n 2, 1) := by decide +kernel
theorem dX6_isKept_20 : decode cX6_isKept 20 = .ok (.invokevirtual 146, 3) := by decide +kernel
theorem dX6_isKept_23 : decode cX6_isKept 23 = .ok (.ifnull 7, 3) := by decide +kernel
theorem dX6_isKept_26 : decode cX6_isKept 26 = .ok (.iconst 1, 1) := by decide +kernel
theorem dX6_isKept_27 : decode cX6_isKept 27 = .ok (.goto 4, 3) := by decide +kernel
theorem dX6_isKept_30 : decode cX6_isKept 30 = .ok (.iconst 0, 1) := by decide +kernel
theorem dX6_isKept_31 : decode cX6_isKept 31 = .ok (.ireturn, 1) := by decide +kernel
theorem dX6_latest_0 : decode cX6_latest 0 = .ok (.iload_n 1, 1) := by decide +kernel
theorem dX6_latest_1 : decode cX6_latest 1 = .ok (.bipush 6, 2) := by decide +kernel
theorem dX6_latest_3 : decode cX6_latest 3 = .ok (.invokestatic 85, 3) := by decide +kernel
theorem dX6_latest_6 : decode cX6_latest 6 = .ok (.ifCond .eq 11, 3) := by decide +kernel
theorem dX6_latest_9 : decode cX6_latest 9 = .ok (.new 71, 3) := by decide +kernel
theorem dX6_latest_12 : decode cX6_latest 12 = .ok (.dup, 1) := by decide +kernel
theorem dX6_latest_13 : decode cX6_latest 13 = .ok (.invokespecial 73, 3) := by decide +kernel
theorem dX6_latest_16 : decode cX6_latest 16 = .ok (.athrow, 1) := by decide +kernel
theorem dX6_latest_17 : decode cX6_latest 17 = .ok (.aload_n 0, 1) := by decide +kernel
theorem dX6_latest_18 : decode cX6_latest 18 = .ok (.iload_n 1, 1) := by decide +kernel
theorem dX6_latest_19 : decode cX6_latest 19 = .ok (.invokevirtual 114, 3) := by decide +kernel
theorem dX6_latest_22 : decode cX6_latest 22 = .ok (.invokestatic 149, 3) := by decide +kernel
theorem dX6_latest_25 : decode cX6_latest 25 = .ok (.ireturn, 1) := by decide +kernel
theorem dX6_length_0 : decode cX6_length 0 = .ok (.aload_n 0, 1) := by decide +kernel
theorem dX6_length_1 : decode cX6_length 1 = .ok (.iload_n 1, 1) := by decide +kernel
theorem dX6_length_2 : decode cX6_length 2 = .ok (.iload_n 2, 1) := by decide +kernel
theorem dX6_length_3 : decode cX6_length 3 = .ok (.invokevirtual 57, 3) := by decide +kernel
theorem dX6_length_6 : decode cX6_length 6 = .ok (.invokevirtual 61, 3) := by decide +kernel
theorem dX6_length_9 : decode cX6_length 9 = .ok (.invokevirtual 47, 3) := by decide +kernel
theorem dX6_length_12 : decode cX6_length 12 = .ok (.ireturn, 1) := by decide +kernel
theorem dX6_byteAt_0 : decode cX6_byteAt 0 = .ok (.aload_n 0, 1) := by decide +kernel
theorem dX6_byteAt_1 : decode cX6_byteAt 1 = .ok (.iload_n 1, 1) := by decide +kernel
theorem dX6_byteAt_2 : decode cX6_byteAt 2 = .ok (.iload_n 2, 1) := by decide +kernel
theorem dX6_byteAt_3 : decode cX6_byteAt 3 = .ok (.invokevirtual 57, 3) := by decide +kernel
theorem dX6_byteAt_6 : decode cX6_byteAt 6 = .ok (.astore 4, 2) := by decide +kernel
theorem dX6_byteAt_8 : decode cX6_byteAt 8 = .ok (.iload_n 3, 1) := by decide +kernel
theorem dX6_byteAt_9 : decode cX6_byteAt 9 = .ok (.aload 4, 2) := by decide +kernel
theorem dX6_byteAt_11 : decode cX6_byteAt 11 = .ok (.invokevirtual 61, 3) := by decide +kernel
theorem dX6_byteAt_14 : decode cX6_byteAt 14 = .ok (.invokevirtual 47, 3) := by decide +kernel
theorem dX6_byteAt_17 : decode cX6_byteAt 17 = .ok (.invokestatic 85, 3) := by decide +kernel
theorem dX6_byteAt_20 : decode cX6_byteAt 20 = .ok (.ifCond .eq 11, 3) := by decide +kernel
theorem dX6_byteAt_23 : decode cX6_byteAt 23 = .ok (.new 71, 3) := by decide +kernel
theorem dX6_byteAt_26 : decode cX6_byteAt 26 = .ok (.dup, 1) := by decide +kernel
theorem dX6_byteAt_27 : decode cX6_byteAt 27 = .ok (.invokespecial 73, 3) := by decide +kernel
theorem dX6_byteAt_30 : decode cX6_byteAt 30 = .ok (.athrow, 1) := by decide +kernel
theorem dX6_byteAt_31 : decode cX6_byteAt 31 = .ok (.aload 4, 2) := by decide +kernel
theorem dX6_byteAt_33 : decode cX6_byteAt 33 = .ok (.iload_n 3, 1) := by decide +kernel
theorem dX6_byteAt_34 : decode cX6_byteAt 34 = .ok (.invokevirtual 153, 3) := by decide +kernel
theorem dX6_byteAt_37 : decode cX6_byteAt 37 = .ok (.ireturn, 1) := by decide +kernel
theorem dX6_byteByCopy_0 : decode cX6_byteByCopy 0 = .ok (.aload_n 0, 1) := by decide +kernel
theorem dX6_byteByCopy_1 : decode cX6_byteByCopy 1 = .ok (.iload_n 1, 1) := by decide +kernel
theorem dX6_byteByCopy_2 : decode cX6_byteByCopy 2 = .ok (.iload_n 2, 1) := by decide +kernel
theorem dX6_byteByCopy_3 : decode cX6_byteByCopy 3 = .ok (.invokevirtual 57, 3) := by decide +kernel
theorem dX6_byteByCopy_6 : decode cX6_byteByCopy 6 = .ok (.invokevirtual 61, 3) := by decide +kernel
theorem dX6_byteByCopy_9 : decode cX6_byteByCopy 9 = .ok (.astore 4, 2) := by decide +kernel
theorem dX6_byteByCopy_11 : decode cX6_byteByCopy 11 = .ok (.iload_n 3, 1) := by decide +kernel
theorem dX6_byteByCopy_12 : decode cX6_byteByCopy 12 = .ok (.aload 4, 2) := by decide +kernel
theorem dX6_byteByCopy_14 : decode cX6_byteByCopy 14 = .ok (.invokevirtual 47, 3) := by decide +kernel
theorem dX6_byteByCopy_17 : decode cX6_byteByCopy 17 = .ok (.invokestatic 85, 3) := by decide +kernel
theorem dX6_byteByCopy_20 : decode cX6_byteByCopy 20 = .ok (.ifCond .eq 11, 3) := by decide +kernel
theorem dX6_byteByCopy_23 : decode cX6_byteByCopy 23 = .ok (.new 71, 3) := by decide +kernel
theorem dX6_byteByCopy_26 : decode cX6_byteByCopy 26 = .ok (.dup, 1) := by decide +kernel
theorem dX6_byteByCopy_27 : decode cX6_byteByCopy 27 = .ok (.invokespecial 73, 3) := by decide +kernel
theorem dX6_byteByCopy_30 : decode cX6_byteByCopy 30 = .ok (.athrow, 1) := by decide +kernel
theorem dX6_byteByCopy_31 : decode cX6_byteByCopy 31 = .ok (.aload 4, 2) := by decide +kernel
theorem dX6_byteByCopy_33 : decode cX6_byteByCopy 33 = .ok (.iload_n 3, 1) := by decide +kernel
theorem dX6_byteByCopy_34 : decode cX6_byteByCopy 34 = .ok (.invokevirtual 89, 3) := by decide +kernel
theorem dX6_byteByCopy_37 : decode cX6_byteByCopy 37 = .ok (.ireturn, 1) := by decide +kernel
theorem dX6_chunksOf_0 : decode cX6_chunksOf 0 = .ok (.aload_n 0, 1) := by decide +kernel
theorem dX6_chunksOf_1 : decode cX6_chunksOf 1 = .ok (.iload_n 1, 1) := by decide +kernel
theorem dX6_chunksOf_2 : decode cX6_chunksOf 2 = .ok (.iload_n 2, 1) := by decide +kernel
theorem dX6_chunksOf_3 : decode cX6_chunksOf 3 = .ok (.invokevirtual 57, 3) := by decide +kernel
theorem dX6_chunksOf_6 : decode cX6_chunksOf 6 = .ok (.invokevirtual 156, 3) := by decide +kernel
theorem dX6_chunksOf_9 : decode cX6_chunksOf 9 = .ok (.ireturn, 1) := by decide +kernel
theorem dX6_chunkAt_0 : decode cX6_chunkAt 0 = .ok (.aload_n 0, 1) := by decide +kernel
theorem dX6_chunkAt_1 : decode cX6_chunkAt 1 = .ok (.iload_n 1, 1) := by decide +kernel
theorem dX6_chunkAt_2 : decode cX6_chunkAt 2 = .ok (.iload_n 2, 1) := by decide +kernel
theorem dX6_chunkAt_3 : decode cX6_chunkAt 3 = .ok (.invokevirtual 57, 3) := by decide +kernel
theorem dX6_chunkAt_6 : decode cX6_chunkAt 6 = .ok (.astore 4, 2) := by decide +kernel
theorem dX6_chunkAt_8 : decode cX6_chunkAt 8 = .ok (.iload_n 3, 1) := by decide +kernel
theorem dX6_chunkAt_9 : decode cX6_chunkAt 9 = .ok (.aload 4, 2) := by decide +kernel
theorem dX6_chunkAt_11 : decode cX6_chunkAt 11 = .ok (.invokevirtual 156, 3) := by decide +kernel
theorem dX6_chunkAt_14 : decode cX6_chunkAt 14 = .ok (.invokestatic 85, 3) := by decide +kernel
theorem dX6_chunkAt_17 : decode cX6_chunkAt 17 = .ok (.ifCond .eq 11, 3) := by decide +kernel
theorem dX6_chunkAt_20 : decode cX6_chunkAt 20 = .ok (.new 71, 3) := by decide +kernel
theorem dX6_chunkAt_23 : decode cX6_chunkAt 23 = .ok (.dup, 1) := by decide +kernel
theorem dX6_chunkAt_24 : decode cX6_chunkAt 24 = .ok (.invokespecial 73, 3) := by decide +kernel
theorem dX6_chunkAt_27 : decode cX6_chunkAt 27 = .ok (.athrow, 1) := by decide +kernel
theorem dX6_chunkAt_28 : decode cX6_chunkAt 28 = .ok (.aload 4, 2) := by decide +kernel
theorem dX6_chunkAt_30 : decode cX6_chunkAt 30 = .ok (.iload_n 3, 1) := by decide +kernel
theorem dX6_chunkAt_31 : decode cX6_chunkAt 31 = .ok (.invokevirtual 159, 3) := by decide +kernel
theorem dX6_chunkAt_34 : decode cX6_chunkAt 34 = .ok (.ireturn, 1) := by decide +kernel
theorem dX6_baseOf_0 : decode cX6_baseOf 0 = .ok (.aload_n 0, 1) := by decide +kernel
theorem dX6_baseOf_1 : decode cX6_baseOf 1 = .ok (.iload_n 1, 1) := by decide +kernel
theorem dX6_baseOf_2 : decode cX6_baseOf 2 = .ok (.iload_n 2, 1) := by decide +kernel
theorem dX6_baseOf_3 : decode cX6_baseOf 3 = .ok (.invokevirtual 57, 3) := by decide +kernel
theorem dX6_baseOf_6 : decode cX6_baseOf 6 = .ok (.invokevirtual 162, 3) := by decide +kernel
theorem dX6_baseOf_9 : decode cX6_baseOf 9 = .ok (.invokestatic 149, 3) := by decide +kernel
theorem dX6_baseOf_12 : decode cX6_baseOf 12 = .ok (.ireturn, 1) := by decide +kernel
theorem dX6_chainOf_0 : decode cX6_chainOf 0 = .ok (.aload_n 0, 1) := by decide +kernel
theorem dX6_chainOf_1 : decode cX6_chainOf 1 = .ok (.iload_n 1, 1) := by decide +kernel
theorem dX6_chainOf_2 : decode cX6_chainOf 2 = .ok (.iload_n 2, 1) := by decide +kernel
theorem dX6_chainOf_3 : decode cX6_chainOf 3 = .ok (.invokevirtual 57, 3) := by decide +kernel
theorem dX6_chainOf_6 : decode cX6_chainOf 6 = .ok (.invokevirtual 166, 3) := by decide +kernel
theorem dX6_chainOf_9 : decode cX6_chainOf 9 = .ok (.ireturn, 1) := by decide +kernel
theorem dX6_costOf_0 : decode cX6_costOf 0 = .ok (.aload_n 0, 1) := by decide +kernel
theorem dX6_costOf_1 : decode cX6_costOf 1 = .ok (.iload_n 1, 1) := by decide +kernel
theorem dX6_costOf_2 : decode cX6_costOf 2 = .ok (.iload_n 2, 1) := by decide +kernel
theorem dX6_costOf_3 : decode cX6_costOf 3 = .ok (.invokevirtual 57, 3) := by decide +kernel
theorem dX6_costOf_6 : decode cX6_costOf 6 = .ok (.invokevirtual 169, 3) := by decide +kernel
theorem dX6_costOf_9 : decode cX6_costOf 9 = .ok (.ireturn, 1) := by decide +kernel
theorem dX6_isStored_0 : decode cX6_isStored 0 = .ok (.aload_n 0, 1) := by decide +kernel
theorem dX6_isStored_1 : decode cX6_isStored 1 = .ok (.getfield 32, 3) := by decide +kernel
theorem dX6_isStored_4 : decode cX6_isStored 4 = .ok (.iload_n 1, 1) := by decide +kernel
theorem dX6_isStored_5 : decode cX6_isStored 5 = .ok (.invokevirtual 172, 3) := by decide +kernel
theorem dX6_isStored_8 : decode cX6_isStored 8 = .ok (.ifnull 7, 3) := by decide +kernel
theorem dX6_isStored_11 : decode cX6_isStored 11 = .ok (.iconst 1, 1) := by decide +kernel
theorem dX6_isStored_12 : decode cX6_isStored 12 = .ok (.goto 4, 3) := by decide +kernel
theorem dX6_isStored_15 : decode cX6_isStored 15 = .ok (.iconst 0, 1) := by decide +kernel
theorem dX6_isStored_16 : decode cX6_isStored 16 = .ok (.ireturn, 1) := by decide +kernel
theorem dX6_chunks_0 : decode cX6_chunks 0 = .ok (.aload_n 0, 1) := by decide +kernel
theorem dX6_chunks_1 : decode cX6_chunks 1 = .ok (.getfield 32, 3) := by decide +kernel
theorem dX6_chunks_4 : decode cX6_chunks 4 = .ok (.invokevirtual 176, 3) := by decide +kernel
theorem dX6_chunks_7 : decode cX6_chunks 7 = .ok (.ireturn, 1) := by decide +kernel
theorem dX6_chunkLength_0 : decode cX6_chunkLength 0 = .ok (.aload_n 0, 1) := by decide +kernel
theorem dX6_chunkLength_1 : decode cX6_chunkLength 1 = .ok (.iload_n 1, 1) := by decide +kernel
theorem dX6_chunkLength_2 : decode cX6_chunkLength 2 = .ok (.invokevirtual 179, 3) := by decide +kernel
theorem dX6_chunkLength_5 : decode cX6_chunkLength 5 = .ok (.invokevirtual 182, 3) := by decide +kernel
theorem dX6_chunkLength_8 : decode cX6_chunkLength 8 = .ok (.invokevirtual 133, 3) := by decide +kernel
theorem dX6_chunkLength_11 : decode cX6_chunkLength 11 = .ok (.ireturn, 1) := by decide +kernel
theorem dX6_fingerprint_0 : decode cX6_fingerprint 0 = .ok (.aload_n 0, 1) := by decide +kernel
theorem dX6_fingerprint_1 : decode cX6_fingerprint 1 = .ok (.iload_n 1, 1) := by decide +kernel
theorem dX6_fingerprint_2 : decode cX6_fingerprint 2 = .ok (.invokevirtual 179, 3) := by decide +kernel
theorem dX6_fingerprint_5 : decode cX6_fingerprint 5 = .ok (.invokevirtual 182, 3) := by decide +kernel
theorem dX6_fingerprint_8 : decode cX6_fingerprint 8 = .ok (.invokevirtual 188, 3) := by decide +kernel
theorem dX6_fingerprint_11 : decode cX6_fingerprint 11 = .ok (.ireturn, 1) := by decide +kernel
theorem dX6_references_0 : decode cX6_references 0 = .ok (.aload_n 0, 1) := by decide +kernel
theorem dX6_references_1 : decode cX6_references 1 = .ok (.iload_n 1, 1) := by decide +kernel
theorem dX6_references_2 : decode cX6_references 2 = .ok (.invokevirtual 179, 3) := by decide +kernel
theorem dX6_references_5 : decode cX6_references 5 = .ok (.invokevirtual 191, 3) := by decide +kernel
theorem dX6_references_8 : decode cX6_references 8 = .ok (.ireturn, 1) := by decide +kernel
theorem dX6_containerOf_0 : decode cX6_containerOf 0 = .ok (.aload_n 0, 1) := by decide +kernel
theorem dX6_containerOf_1 : decode cX6_containerOf 1 = .ok (.iload_n 1, 1) := by decide +kernel
theorem dX6_containerOf_2 : decode cX6_containerOf 2 = .ok (.invokevirtual 179, 3) := by decide +kernel
theorem dX6_containerOf_5 : decode cX6_containerOf 5 = .ok (.invokevirtual 194, 3) := by decide +kernel
theorem dX6_containerOf_8 : decode cX6_containerOf 8 = .ok (.invokevirtual 198, 3) := by decide +kernel
theorem dX6_containerOf_11 : decode cX6_containerOf 11 = .ok (.ireturn, 1) := by decide +kernel
theorem dX6_containers_0 : decode cX6_containers 0 = .ok (.aload_n 0, 1) := by decide +kernel
theorem dX6_containers_1 : decode cX6_containers 1 = .ok (.getfield 32, 3) := by decide +kernel
theorem dX6_containers_4 : decode cX6_containers 4 = .ok (.invokevirtual 203, 3) := by decide +kernel
theorem dX6_containers_7 : decode cX6_containers 7 = .ok (.ireturn, 1) := by decide +kernel
theorem dX6_openContainer_0 : decode cX6_openContainer 0 = .ok (.aload_n 0, 1) := by decide +kernel
theorem dX6_openContainer_1 : decode cX6_openContainer 1 = .ok (.getfield 32, 3) := by decide +kernel
theorem dX6_openContainer_4 : decode cX6_openContainer 4 = .ok (.invokevirtual 206, 3) := by decide +kernel
theorem dX6_openContainer_7 : decode cX6_openContainer 7 = .ok (.ireturn, 1) := by decide +kernel
theorem dX6_cached_0 : decode cX6_cached 0 = .ok (.iload_n 1, 1) := by decide +kernel
theorem dX6_cached_1 : decode cX6_cached 1 = .ok (.iconst 3, 1) := by decide +kernel
theorem dX6_cached_2 : decode cX6_cached 2 = .ok (.invokestatic 85, 3) := by decide +kernel
theorem dX6_cached_5 : decode cX6_cached 5 = .ok (.ifCond .eq 11, 3) := by decide +kernel
theorem dX6_cached_8 : decode cX6_cached 8 = .ok (.new 71, 3) := by decide +kernel
theorem dX6_cached_11 : decode cX6_cached 11 = .ok (.dup, 1) := by decide +kernel
theorem dX6_cached_12 : decode cX6_cached 12 = .ok (.invokespecial 73, 3) := by decide +kernel
theorem dX6_cached_15 : decode cX6_cached 15 = .ok (.athrow, 1) := by decide +kernel
theorem dX6_cached_16 : decode cX6_cached 16 = .ok (.aload_n 0, 1) := by decide +kernel
theorem dX6_cached_17 : decode cX6_cached 17 = .ok (.getfield 32, 3) := by decide +kernel
theorem dX6_cached_20 : decode cX6_cached 20 = .ok (.iload_n 1, 1) := by decide +kernel
theorem dX6_cached_21 : decode cX6_cached 21 = .ok (.invokevirtual 209, 3) := by decide +kernel
theorem dX6_cached_24 : decode cX6_cached 24 = .ok (.ireturn, 1) := by decide +kernel
theorem dX6_cacheHits_0 : decode cX6_cacheHits 0 = .ok (.aload_n 0, 1) := by decide +kernel
theorem dX6_cacheHits_1 : decode cX6_cacheHits 1 = .ok (.getfield 32, 3) := by decide +kernel
theorem dX6_cacheHits_4 : decode cX6_cacheHits 4 = .ok (.invokevirtual 212, 3) := by decide +kernel
theorem dX6_cacheHits_7 : decode cX6_cacheHits 7 = .ok (.ireturn, 1) := by decide +kernel
theorem dX6_indexReads_0 : decode cX6_indexReads 0 = .ok (.aload_n 0, 1) := by decide +kernel
theorem dX6_indexReads_1 : decode cX6_indexReads 1 = .ok (.getfield 32, 3) := by decide +kernel
theorem dX6_indexReads_4 : decode cX6_indexReads 4 = .ok (.invokevirtual 215, 3) := by decide +kernel
theorem dX6_indexReads_7 : decode cX6_indexReads 7 = .ok (.ireturn, 1) := by decide +kernel
theorem dX6_storedBytes_0 : decode cX6_storedBytes 0 = .ok (.aload_n 0, 1) := by decide +kernel
theorem dX6_storedBytes_1 : decode cX6_storedBytes 1 = .ok (.getfield 32, 3) := by decide +kernel
theorem dX6_storedBytes_4 : decode cX6_storedBytes 4 = .ok (.invokevirtual 218, 3) := by decide +kernel
theorem dX6_storedBytes_7 : decode cX6_storedBytes 7 = .ok (.ireturn, 1) := by decide +kernel
theorem dX6_savedBytes_0 : decode cX6_savedBytes 0 = .ok (.iconst 0, 1) := by decide +kernel
theorem dX6_savedBytes_1 : decode cX6_savedBytes 1 = .ok (.istore_n 1, 1) := by decide +kernel
theorem dX6_savedBytes_2 : decode cX6_savedBytes 2 = .ok (.iconst 0, 1) := by decide +kernel
theorem dX6_savedBytes_3 : decode cX6_savedBytes 3 = .ok (.istore_n 2, 1) := by decide +kernel
theorem dX6_savedBytes_4 : decode cX6_savedBytes 4 = .ok (.iload_n 2, 1) := by decide +kernel
theorem dX6_savedBytes_5 : decode cX6_savedBytes 5 = .ok (.aload_n 0, 1) := by decide +kernel
theorem dX6_savedBytes_6 : decode cX6_savedBytes 6 = .ok (.getfield 21, 3) := by decide +kernel
theorem dX6_savedBytes_9 : decode cX6_savedBytes 9 = .ok (.invokevirtual 93, 3) := by decide +kernel
theorem dX6_savedBytes_12 : decode cX6_savedBytes 12 = .ok (.if_icmp .ge 29, 3) := by decide +kernel
theorem dX6_savedBytes_15 : decode cX6_savedBytes 15 = .ok (.iload_n 1, 1) := by decide +kernel
theorem dX6_savedBytes_16 : decode cX6_savedBytes 16 = .ok (.aload_n 0, 1) := by decide +kernel
theorem dX6_savedBytes_17 : decode cX6_savedBytes 17 = .ok (.getfield 21, 3) := by decide +kernel
theorem dX6_savedBytes_20 : decode cX6_savedBytes 20 = .ok (.iload_n 2, 1) := by decide +kernel
theorem dX6_savedBytes_21 : decode cX6_savedBytes 21 = .ok (.invokevirtual 101, 3) := by decide +kernel
theorem dX6_savedBytes_24 : decode cX6_savedBytes 24 = .ok (.checkcast 62, 3) := by decide +kernel
theorem dX6_savedBytes_27 : decode cX6_savedBytes 27 = .ok (.invokevirtual 61, 3) := by decide +kernel
theorem dX6_savedBytes_30 : decode cX6_savedBytes 30 = .ok (.invokevirtual 47, 3) := by decide +kernel
theorem dX6_savedBytes_33 : decode cX6_savedBytes 33 = .ok (.iadd, 1) := by decide +kernel
theorem dX6_savedBytes_34 : decode cX6_savedBytes 34 = .ok (.istore_n 1, 1) := by decide +kernel
theorem dX6_savedBytes_35 : decode cX6_savedBytes 35 = .ok (.iinc 2 1, 3) := by decide +kernel
theorem dX6_savedBytes_38 : decode cX6_savedBytes 38 = .ok (.goto (-34), 3) := by decide +kernel
theorem dX6_savedBytes_41 : decode cX6_savedBytes 41 = .ok (.iload_n 1, 1) := by decide +kernel
theorem dX6_savedBytes_42 : decode cX6_savedBytes 42 = .ok (.ireturn, 1) := by decide +kernel
theorem dX6_garbage_0 : decode cX6_garbage 0 = .ok (.aload_n 0, 1) := by decide +kernel
theorem dX6_garbage_1 : decode cX6_garbage 1 = .ok (.getfield 32, 3) := by decide +kernel
theorem dX6_garbage_4 : decode cX6_garbage 4 = .ok (.invokevirtual 221, 3) := by decide +kernel
theorem dX6_garbage_7 : decode cX6_garbage 7 = .ok (.ireturn, 1) := by decide +kernel
theorem dX6_ratio_0 : decode cX6_ratio 0 = .ok (.aload_n 0, 1) := by decide +kernel
theorem dX6_ratio_1 : decode cX6_ratio 1 = .ok (.getfield 32, 3) := by decide +kernel
theorem dX6_ratio_4 : decode cX6_ratio 4 = .ok (.invokevirtual 218, 3) := by decide +kernel
theorem dX6_ratio_7 : decode cX6_ratio 7 = .ok (.istore_n 1, 1) := by decide +kernel
theorem dX6_ratio_8 : decode cX6_ratio 8 = .ok (.iload_n 1, 1) := by decide +kernel
theorem dX6_ratio_9 : decode cX6_ratio 9 = .ok (.ifCond .ne 5, 3) := by decide +kernel
theorem dX6_ratio_12 : decode cX6_ratio 12 = .ok (.dconst 0, 1) := by decide +kernel
theorem dX6_ratio_13 : decode cX6_ratio 13 = .ok (.dreturn, 1) := by decide +kernel
theorem dX6_ratio_14 : decode cX6_ratio 14 = .ok (.aload_n 0, 1) := by decide +kernel
theorem dX6_ratio_15 : decode cX6_ratio 15 = .ok (.invokevirtual 224, 3) := by decide +kernel
theorem dX6_ratio_18 : decode cX6_ratio 18 = .ok (.i2d, 1) := by decide +kernel
theorem dX6_ratio_19 : decode cX6_ratio 19 = .ok (.iload_n 1, 1) := by decide +kernel
theorem dX6_ratio_20 : decode cX6_ratio 20 = .ok (.i2d, 1) := by decide +kernel
theorem dX6_ratio_21 : decode cX6_ratio 21 = .ok (.ddiv, 1) := by decide +kernel
theorem dX6_ratio_22 : decode cX6_ratio 22 = .ok (.dreturn, 1) := by decide +kernel
theorem dX6_noByteValue_0 : decode cX6_noByteValue 0 = .ok (.iload_n 0, 1) := by decide +kernel
theorem dX6_noByteValue_1 : decode cX6_noByteValue 1 = .ok (.ifCond .lt 10, 3) := by decide +kernel
theorem dX6_noByteValue_4 : decode cX6_noByteValue 4 = .ok (.iload_n 0, 1) := by decide +kernel
theorem dX6_noByteValue_5 : decode cX6_noByteValue 5 = .ok (.sipush 256, 3) := by decide +kernel
theorem dX6_noByteValue_8 : decode cX6_noByteValue 8 = .ok (.if_icmp .lt 7, 3) := by decide +kernel
theorem dX6_noByteValue_11 : decode cX6_noByteValue 11 = .ok (.iconst 1, 1) := by decide +kernel
theorem dX6_noByteValue_12 : decode cX6_noByteValue 12 = .ok (.goto 4, 3) := by decide +kernel
theorem dX6_noByteValue_15 : decode cX6_noByteValue 15 = .ok (.iconst 0, 1) := by decide +kernel
theorem dX6_noByteValue_16 : decode cX6_noByteValue 16 = .ok (.ireturn, 1) := by decide +kernel
theorem dX6_noPlace_0 : decode cX6_noPlace 0 = .ok (.iload_n 0, 1) := by decide +kernel
theorem dX6_noPlace_1 : decode cX6_noPlace 1 = .ok (.ifCond .lt 8, 3) := by decide +kernel
theorem dX6_noPlace_4 : decode cX6_noPlace 4 = .ok (.iload_n 0, 1) := by decide +kernel
theorem dX6_noPlace_5 : decode cX6_noPlace 5 = .ok (.iload_n 1, 1) := by decide +kernel
theorem dX6_noPlace_6 : decode cX6_noPlace 6 = .ok (.if_icmp .lt 7, 3) := by decide +kernel
theorem dX6_noPlace_9 : decode cX6_noPlace 9 = .ok (.iconst 1, 1) := by decide +kernel
theorem dX6_noPlace_10 : decode cX6_noPlace 10 = .ok (.goto 4, 3) := by decide +kernel
theorem dX6_noPlace_13 : decode cX6_noPlace 13 = .ok (.iconst 0, 1) := by decide +kernel
theorem dX6_noPlace_14 : decode cX6_noPlace 14 = .ok (.ireturn, 1) := by decide +kernel
theorem dX6_noSpan_0 : decode cX6_noSpan 0 = .ok (.iload_n 0, 1) := by decide +kernel
theorem dX6_noSpan_1 : decode cX6_noSpan 1 = .ok (.ifCond .lt 14, 3) := by decide +kernel
theorem dX6_noSpan_4 : decode cX6_noSpan 4 = .ok (.iload_n 1, 1) := by decide +kernel
theorem dX6_noSpan_5 : decode cX6_noSpan 5 = .ok (.ifCond .lt 10, 3) := by decide +kernel
theorem dX6_noSpan_8 : decode cX6_noSpan 8 = .ok (.iload_n 1, 1) := by decide +kernel
theorem dX6_noSpan_9 : decode cX6_noSpan 9 = .ok (.iload_n 2, 1) := by decide +kernel
theorem dX6_noSpan_10 : decode cX6_noSpan 10 = .ok (.iload_n 0, 1) := by decide +kernel
theorem dX6_noSpan_11 : decode cX6_noSpan 11 = .ok (.isub, 1) := by decide +kernel
theorem dX6_noSpan_12 : decode cX6_noSpan 12 = .ok (.if_icmp .le 7, 3) := by decide +kernel
theorem dX6_noSpan_15 : decode cX6_noSpan 15 = .ok (.iconst 1, 1) := by decide +kernel
theorem dX6_noSpan_16 : decode cX6_noSpan 16 = .ok (.goto 4, 3) := by decide +kernel
theorem dX6_noSpan_19 : decode cX6_noSpan 19 = .ok (.iconst 0, 1) := by decide +kernel
theorem dX6_noSpan_20 : decode cX6_noSpan 20 = .ok (.ireturn, 1) := by decide +kernel
theorem dX6_numberOf_0 : decode cX6_numberOf 0 = .ok (.aload_n 0, 1) := by decide +kernel
theorem dX6_numberOf_1 : decode cX6_numberOf 1 = .ok (.ifnonnull 7, 3) := by decide +kernel
theorem dX6_numberOf_4 : decode cX6_numberOf 4 = .ok (.iconst (-1), 1) := by decide +kernel
theorem dX6_numberOf_5 : decode cX6_numberOf 5 = .ok (.goto 7, 3) := by decide +kernel
theorem dX6_numberOf_8 : decode cX6_numberOf 8 = .ok (.aload_n 0, 1) := by decide +kernel
theorem dX6_numberOf_9 : decode cX6_numberOf 9 = .ok (.invokevirtual 227, 3) := by decide +kernel
theorem dX6_numberOf_12 : decode cX6_numberOf 12 = .ok (.ireturn, 1) := by decide +kernel
theorem dX6_findVersion_0 : decode cX6_findVersion 0 = .ok (.iconst 0, 1) := by decide +kernel
theorem dX6_findVersion_1 : decode cX6_findVersion 1 = .ok (.istore_n 3, 1) := by decide +kernel
theorem dX6_findVersion_2 : decode cX6_findVersion 2 = .ok (.iload_n 3, 1) := by decide +kernel
theorem dX6_findVersion_3 : decode cX6_findVersion 3 = .ok (.aload_n 0, 1) := by decide +kernel
theorem dX6_findVersion_4 : decode cX6_findVersion 4 = .ok (.getfield 21, 3) := by decide +kernel
theorem dX6_findVersion_7 : decode cX6_findVersion 7 = .ok (.invokevirtual 93, 3) := by decide +kernel
theorem dX6_findVersion_10 : decode cX6_findVersion 10 = .ok (.if_icmp .ge 43, 3) := by decide +kernel
theorem dX6_findVersion_13 : decode cX6_findVersion 13 = .ok (.aload_n 0, 1) := by decide +kernel
theorem dX6_findVersion_14 : decode cX6_findVersion 14 = .ok (.getfield 21, 3) := by decide +kernel
theorem dX6_findVersion_17 : decode cX6_findVersion 17 = .ok (.iload_n 3, 1) := by decide +kernel
theorem dX6_findVersion_18 : decode cX6_findVersion 18 = .ok (.invokevirtual 101, 3) := by decide +kernel
theorem dX6_findVersion_21 : decode cX6_findVersion 21 = .ok (.checkcast 62, 3) := by decide +kernel
theorem dX6_findVersion_24 : decode cX6_findVersion 24 = .ok (.astore 4, 2) := by decide +kernel
theorem dX6_findVersion_26 : decode cX6_findVersion 26 = .ok (.aload 4, 2) := by decide +kernel
theorem dX6_findVersion_28 : decode cX6_findVersion 28 = .ok (.invokevirtual 228, 3) := by decide +kernel
theorem dX6_findVersion_31 : decode cX6_findVersion 31 = .ok (.iload_n 1, 1) := by decide +kernel
theorem dX6_findVersion_32 : decode cX6_findVersion 32 = .ok (.if_icmp .ne 15, 3) := by decide +kernel
theorem dX6_findVersion_35 : decode cX6_findVersion 35 = .ok (.aload 4, 2) := by decide +kernel
theorem dX6_findVersion_37 : decode cX6_findVersion 37 = .ok (.invokevirtual 227, 3) := by decide +kernel
theorem dX6_findVersion_40 : decode cX6_findVersion 40 = .ok (.iload_n 2, 1) := by decide +kernel
theorem dX6_findVersion_41 : decode cX6_findVersion 41 = .ok (.if_icmp .ne 6, 3) := by decide +kernel
theorem dX6_findVersion_44 : decode cX6_findVersion 44 = .ok (.aload 4, 2) := by decide +kernel
theorem dX6_findVersion_46 : decode cX6_findVersion 46 = .ok (.areturn, 1) := by decide +kernel
theorem dX6_findVersion_47 : decode cX6_findVersion 47 = .ok (.iinc 3 1, 3) := by decide +kernel
theorem dX6_findVersion_50 : decode cX6_findVersion 50 = .ok (.goto (-48), 3) := by decide +kernel
theorem dX6_findVersion_53 : decode cX6_findVersion 53 = .ok (.aconst_null, 1) := by decide +kernel
theorem dX6_findVersion_54 : decode cX6_findVersion 54 = .ok (.areturn, 1) := by decide +kernel
theorem dX6_demandVersion_0 : decode cX6_demandVersion 0 = .ok (.aload_n 0, 1) := by decide +kernel
theorem dX6_demandVersion_1 : decode cX6_demandVersion 1 = .ok (.iload_n 1, 1) := by decide +kernel
theorem dX6_demandVersion_2 : decode cX6_demandVersion 2 = .ok (.iload_n 2, 1) := by decide +kernel
theorem dX6_demandVersion_3 : decode cX6_demandVersion 3 = .ok (.invokevirtual 146, 3) := by decide +kernel
theorem dX6_demandVersion_6 : decode cX6_demandVersion 6 = .ok (.astore_n 3, 1) := by decide +kernel
theorem dX6_demandVersion_7 : decode cX6_demandVersion 7 = .ok (.aload_n 3, 1) := by decide +kernel
theorem dX6_demandVersion_8 : decode cX6_demandVersion 8 = .ok (.ifnonnull 11, 3) := by decide +kernel
theorem dX6_demandVersion_11 : decode cX6_demandVersion 11 = .ok (.new 71, 3) := by decide +kernel
theorem dX6_demandVersion_14 : decode cX6_demandVersion 14 = .ok (.dup, 1) := by decide +kernel
theorem dX6_demandVersion_15 : decode cX6_demandVersion 15 = .ok (.invokespecial 73, 3) := by decide +kernel
theorem dX6_demandVersion_18 : decode cX6_demandVersion 18 = .ok (.athrow, 1) := by decide +kernel
theorem dX6_demandVersion_19 : decode cX6_demandVersion 19 = .ok (.aload_n 3, 1) := by decide +kernel
theorem dX6_demandVersion_20 : decode cX6_demandVersion 20 = .ok (.areturn, 1) := by decide +kernel
theorem dX6_demandChunk_0 : decode cX6_demandChunk 0 = .ok (.aload_n 0, 1) := by decide +kernel
theorem dX6_demandChunk_1 : decode cX6_demandChunk 1 = .ok (.getfield 32, 3) := by decide +kernel
theorem dX6_demandChunk_4 : decode cX6_demandChunk 4 = .ok (.iload_n 1, 1) := by decide +kernel
theorem dX6_demandChunk_5 : decode cX6_demandChunk 5 = .ok (.invokevirtual 172, 3) := by decide +kernel
theorem dX6_demandChunk_8 : decode cX6_demandChunk 8 = .ok (.astore_n 2, 1) := by decide +kernel
theorem dX6_demandChunk_9 : decode cX6_demandChunk 9 = .ok (.aload_n 2, 1) := by decide +kernel
theorem dX6_demandChunk_10 : decode cX6_demandChunk 10 = .ok (.ifnonnull 11, 3) := by decide +kernel
theorem dX6_demandChunk_13 : decode cX6_demandChunk 13 = .ok (.new 71, 3) := by decide +kernel
theorem dX6_demandChunk_16 : decode cX6_demandChunk 16 = .ok (.dup, 1) := by decide +kernel
theorem dX6_demandChunk_17 : decode cX6_demandChunk 17 = .ok (.invokespecial 73, 3) := by decide +kernel
theorem dX6_demandChunk_20 : decode cX6_demandChunk 20 = .ok (.athrow, 1) := by decide +kernel
theorem dX6_demandChunk_21 : decode cX6_demandChunk 21 = .ok (.aload_n 2, 1) := by decide +kernel
theorem dX6_demandChunk_22 : decode cX6_demandChunk 22 = .ok (.areturn, 1) := by decide +kernel
theorem dX6_latestKept_0 : decode cX6_latestKept 0 = .ok (.aload_n 0, 1) := by decide +kernel
theorem dX6_latestKept_1 : decode cX6_latestKept 1 = .ok (.getfield 21, 3) := by decide +kernel
theorem dX6_latestKept_4 : decode cX6_latestKept 4 = .ok (.invokevirtual 93, 3) := by decide +kernel
theorem dX6_latestKept_7 : decode cX6_latestKept 7 = .ok (.iconst 1, 1) := by decide +kernel
theorem dX6_latestKept_8 : decode cX6_latestKept 8 = .ok (.isub, 1) := by decide +kernel
theorem dX6_latestKept_9 : decode cX6_latestKept 9 = .ok (.istore_n 2, 1) := by decide +kernel
theorem dX6_latestKept_10 : decode cX6_latestKept 10 = .ok (.iload_n 2, 1) := by decide +kernel
theorem dX6_latestKept_11 : decode cX6_latestKept 11 = .ok (.ifCond .lt 31, 3) := by decide +kernel
theorem dX6_latestKept_14 : decode cX6_latestKept 14 = .ok (.aload_n 0, 1) := by decide +kernel
theorem dX6_latestKept_15 : decode cX6_latestKept 15 = .ok (.getfield 21, 3) := by decide +kernel
theorem dX6_latestKept_18 : decode cX6_latestKept 18 = .ok (.iload_n 2, 1) := by decide +kernel
theorem dX6_latestKept_19 : decode cX6_latestKept 19 = .ok (.invokevirtual 101, 3) := by decide +kernel
theorem dX6_latestKept_22 : decode cX6_latestKept 22 = .ok (.checkcast 62, 3) := by decide +kernel
theorem dX6_latestKept_25 : decode cX6_latestKept 25 = .ok (.astore_n 3, 1) := by decide +kernel
theorem dX6_latestKept_26 : decode cX6_latestKept 26 = .ok (.aload_n 3, 1) := by decide +kernel
theorem dX6_latestKept_27 : decode cX6_latestKept 27 = .ok (.invokevirtual 228, 3) := by decide +kernel
theorem dX6_latestKept_30 : decode cX6_latestKept 30 = .ok (.iload_n 1, 1) := by decide +kernel
theorem dX6_latestKept_31 : decode cX6_latestKept 31 = .ok (.if_icmp .ne 5, 3) := by decide +kernel
theorem dX6_latestKept_34 : decode cX6_latestKept 34 = .ok (.aload_n 3, 1) := by decide +kernel
theorem dX6_latestKept_35 : decode cX6_latestKept 35 = .ok (.areturn, 1) := by decide +kernel
theorem dX6_latestKept_36 : decode cX6_latestKept 36 = .ok (.iinc 2 (-1), 3) := by decide +kernel
theorem dX6_latestKept_39 : decode cX6_latestKept 39 = .ok (.goto (-29), 3) := by decide +kernel
theorem dX6_latestKept_42 : decode cX6_latestKept 42 = .ok (.aconst_null, 1) := by decide +kernel
theorem dX6_latestKept_43 : decode cX6_latestKept 43 = .ok (.areturn, 1) := by decide +kernel
theorem dX6_piecesOf_0 : decode cX6_piecesOf 0 = .ok (.new 18, 3) := by decide +kernel
theorem dX6_piecesOf_3 : decode cX6_piecesOf 3 = .ok (.dup, 1) := by decide +kernel
theorem dX6_piecesOf_4 : decode cX6_piecesOf 4 = .ok (.invokespecial 20, 3) := by decide +kernel
theorem dX6_piecesOf_7 : decode cX6_piecesOf 7 = .ok (.astore_n 1, 1) := by decide +kernel
theorem dX6_piecesOf_8 : decode cX6_piecesOf 8 = .ok (.iconst 0, 1) := by decide +kernel
theorem dX6_piecesOf_9 : decode cX6_piecesOf 9 = .ok (.istore_n 2, 1) := by decide +kernel
theorem dX6_piecesOf_10 : decode cX6_piecesOf 10 = .ok (.iconst 1, 1) := by decide +kernel
theorem dX6_piecesOf_11 : decode cX6_piecesOf 11 = .ok (.istore_n 3, 1) := by decide +kernel
theorem dX6_piecesOf_12 : decode cX6_piecesOf 12 = .ok (.iload_n 3, 1) := by decide +kernel
theorem dX6_piecesOf_13 : decode cX6_piecesOf 13 = .ok (.aload_n 0, 1) := by decide +kernel
theorem dX6_piecesOf_14 : decode cX6_piecesOf 14 = .ok (.invokevirtual 47, 3) := by decide +kernel
theorem dX6_piecesOf_17 : decode cX6_piecesOf 17 = .ok (.if_icmp .gt 37, 3) := by decide +kernel
theorem dX6_piecesOf_20 : decode cX6_piecesOf 20 = .ok (.aload_n 0, 1) := by decide +kernel
theorem dX6_piecesOf_21 : decode cX6_piecesOf 21 = .ok (.iload_n 2, 1) := by decide +kernel
theorem dX6_piecesOf_22 : decode cX6_piecesOf 22 = .ok (.iload_n 3, 1) := by decide +kernel
theorem dX6_piecesOf_23 : decode cX6_piecesOf 23 = .ok (.invokestatic 231, 3) := by decide +kernel
theorem dX6_piecesOf_26 : decode cX6_piecesOf 26 = .ok (.ifCond .eq 22, 3) := by decide +kernel
theorem dX6_piecesOf_29 : decode cX6_piecesOf 29 = .ok (.aload_n 1, 1) := by decide +kernel
theorem dX6_piecesOf_30 : decode cX6_piecesOf 30 = .ok (.new 104, 3) := by decide +kernel
theorem dX6_piecesOf_33 : decode cX6_piecesOf 33 = .ok (.dup, 1) := by decide +kernel
theorem dX6_piecesOf_34 : decode cX6_piecesOf 34 = .ok (.aload_n 0, 1) := by decide +kernel
theorem dX6_piecesOf_35 : decode cX6_piecesOf 35 = .ok (.iload_n 2, 1) := by decide +kernel
theorem dX6_piecesOf_36 : decode cX6_piecesOf 36 = .ok (.iload_n 3, 1) := by decide +kernel
theorem dX6_piecesOf_37 : decode cX6_piecesOf 37 = .ok (.iload_n 2, 1) := by decide +kernel
theorem dX6_piecesOf_38 : decode cX6_piecesOf 38 = .ok (.isub, 1) := by decide +kernel
theorem dX6_piecesOf_39 : decode cX6_piecesOf 39 = .ok (.invokespecial 235, 3) := by decide +kernel
theorem dX6_piecesOf_42 : decode cX6_piecesOf 42 = .ok (.invokevirtual 122, 3) := by decide +kernel
theorem dX6_piecesOf_45 : decode cX6_piecesOf 45 = .ok (.pop, 1) := by decide +kernel
theorem dX6_piecesOf_46 : decode cX6_piecesOf 46 = .ok (.iload_n 3, 1) := by decide +kernel
theorem dX6_piecesOf_47 : decode cX6_piecesOf 47 = .ok (.istore_n 2, 1) := by decide +kernel
theorem dX6_piecesOf_48 : decode cX6_piecesOf 48 = .ok (.iinc 3 1, 3) := by decide +kernel
theorem dX6_piecesOf_51 : decode cX6_piecesOf 51 = .ok (.goto (-39), 3) := by decide +kernel
theorem dX6_piecesOf_54 : decode cX6_piecesOf 54 = .ok (.aload_n 1, 1) := by decide +kernel
theorem dX6_piecesOf_55 : decode cX6_piecesOf 55 = .ok (.areturn, 1) := by decide +kernel
theorem dX6_endsPiece_0 : decode cX6_endsPiece 0 = .ok (.iload_n 2, 1) := by decide +kernel
theorem dX6_endsPiece_1 : decode cX6_endsPiece 1 = .ok (.iload_n 1, 1) := by decide +kernel
theorem dX6_endsPiece_2 : decode cX6_endsPiece 2 = .ok (.isub, 1) := by decide +kernel
theorem dX6_endsPiece_3 : decode cX6_endsPiece 3 = .ok (.istore_n 3, 1) := by decide +kernel
theorem dX6_endsPiece_4 : decode cX6_endsPiece 4 = .ok (.iload_n 2, 1) := by decide +kernel
theorem dX6_endsPiece_5 : decode cX6_endsPiece 5 = .ok (.aload_n 0, 1) := by decide +kernel
theorem dX6_endsPiece_6 : decode cX6_endsPiece 6 = .ok (.invokevirtual 47, 3) := by decide +kernel
theorem dX6_endsPiece_9 : decode cX6_endsPiece 9 = .ok (.if_icmp .eq 9, 3) := by decide +kernel
theorem dX6_endsPiece_12 : decode cX6_endsPiece 12 = .ok (.iload_n 3, 1) := by decide +kernel
theorem dX6_endsPiece_13 : decode cX6_endsPiece 13 = .ok (.bipush 32, 2) := by decide +kernel
theorem dX6_endsPiece_15 : decode cX6_endsPiece 15 = .ok (.if_icmp .ne 5, 3) := by decide +kernel
theorem dX6_endsPiece_18 : decode cX6_endsPiece 18 = .ok (.iconst 1, 1) := by decide +kernel
theorem dX6_endsPiece_19 : decode cX6_endsPiece 19 = .ok (.ireturn, 1) := by decide +kernel
theorem dX6_endsPiece_20 : decode cX6_endsPiece 20 = .ok (.iload_n 3, 1) := by decide +kernel
theorem dX6_endsPiece_21 : decode cX6_endsPiece 21 = .ok (.bipush 8, 2) := by decide +kernel
theorem dX6_endsPiece_23 : decode cX6_endsPiece 23 = .ok (.if_icmp .lt 18, 3) := by decide +kernel
theorem dX6_endsPiece_26 : decode cX6_endsPiece 26 = .ok (.aload_n 0, 1) := by decide +kernel
theorem dX6_endsPiece_27 : decode cX6_endsPiece 27 = .ok (.iload_n 2, 1) := by decide +kernel
theorem dX6_endsPiece_28 : decode cX6_endsPiece 28 = .ok (.invokestatic 237, 3) := by decide +kernel
theorem dX6_endsPiece_31 : decode cX6_endsPiece 31 = .ok (.bipush 16, 2) := by decide +kernel
theorem dX6_endsPiece_33 : decode cX6_endsPiece 33 = .ok (.irem, 1) := by decide +kernel
theorem dX6_endsPiece_34 : decode cX6_endsPiece 34 = .ok (.ifCond .ne 7, 3) := by decide +kernel
theorem dX6_endsPiece_37 : decode cX6_endsPiece 37 = .ok (.iconst 1, 1) := by decide +kernel
theorem dX6_endsPiece_38 : decode cX6_endsPiece 38 = .ok (.goto 4, 3) := by decide +kernel
theorem dX6_endsPiece_41 : decode cX6_endsPiece 41 = .ok (.iconst 0, 1) := by decide +kernel
theorem dX6_endsPiece_42 : decode cX6_endsPiece 42 = .ok (.ireturn, 1) := by decide +kernel
theorem dX6_windowSum_0 : decode cX6_windowSum 0 = .ok (.iconst 0, 1) := by decide +kernel
theorem dX6_windowSum_1 : decode cX6_windowSum 1 = .ok (.istore_n 2, 1) := by decide +kernel
theorem dX6_windowSum_2 : decode cX6_windowSum 2 = .ok (.iload_n 1, 1) := by decide +kernel
theorem dX6_windowSum_3 : decode cX6_windowSum 3 = .ok (.bipush 8, 2) := by decide +kernel
theorem dX6_windowSum_5 : decode cX6_windowSum 5 = .ok (.isub, 1) := by decide +kernel
theorem dX6_windowSum_6 : decode cX6_windowSum 6 = .ok (.istore_n 3, 1) := by decide +kernel
theorem dX6_windowSum_7 : decode cX6_windowSum 7 = .ok (.iload_n 3, 1) := by decide +kernel
theorem dX6_windowSum_8 : decode cX6_windowSum 8 = .ok (.iload_n 1, 1) := by decide +kernel
theorem dX6_windowSum_9 : decode cX6_windowSum 9 = .ok (.if_icmp .ge 17, 3) := by decide +kernel
theorem dX6_windowSum_12 : decode cX6_windowSum 12 = .ok (.iload_n 2, 1) := by decide +kernel
theorem dX6_windowSum_13 : decode cX6_windowSum 13 = .ok (.aload_n 0, 1) := by decide +kernel
theorem dX6_windowSum_14 : decode cX6_windowSum 14 = .ok (.iload_n 3, 1) := by decide +kernel
theorem dX6_windowSum_15 : decode cX6_windowSum 15 = .ok (.invokevirtual 89, 3) := by decide +kernel
theorem dX6_windowSum_18 : decode cX6_windowSum 18 = .ok (.iadd, 1) := by decide +kernel
theorem dX6_windowSum_19 : decode cX6_windowSum 19 = .ok (.istore_n 2, 1) := by decide +kernel
theorem dX6_windowSum_20 : decode cX6_windowSum 20 = .ok (.iinc 3 1, 3) := by decide +kernel
theorem dX6_windowSum_23 : decode cX6_windowSum 23 = .ok (.goto (-16), 3) := by decide +kernel
theorem dX6_windowSum_26 : decode cX6_windowSum 26 = .ok (.iload_n 2, 1) := by decide +kernel
theorem dX6_windowSum_27 : decode cX6_windowSum 27 = .ok (.ireturn, 1) := by decide +kernel
theorem dX6_cameBefore_0 : decode cX6_cameBefore 0 = .ok (.iload_n 1, 1) := by decide +kernel
theorem dX6_cameBefore_1 : decode cX6_cameBefore 1 = .ok (.aload_n 0, 1) := by decide +kernel
theorem dX6_cameBefore_2 : decode cX6_cameBefore 2 = .ok (.invokevirtual 93, 3) := by decide +kernel
theorem dX6_cameBefore_5 : decode cX6_cameBefore 5 = .ok (.if_icmp .lt 5, 3) := by decide +kernel
theorem dX6_cameBefore_8 : decode cX6_cameBefore 8 = .ok (.iconst 0, 1) := by decide +kernel
theorem dX6_cameBefore_9 : decode cX6_cameBefore 9 = .ok (.ireturn, 1) := by decide +kernel
theorem dX6_cameBefore_10 : decode cX6_cameBefore 10 = .ok (.iconst 0, 1) := by decide +kernel
theorem dX6_cameBefore_11 : decode cX6_cameBefore 11 = .ok (.istore_n 2, 1) := by decide +kernel
theorem dX6_cameBefore_12 : decode cX6_cameBefore 12 = .ok (.iload_n 2, 1) := by decide +kernel
theorem dX6_cameBefore_13 : decode cX6_cameBefore 13 = .ok (.iload_n 1, 1) := by decide +kernel
theorem dX6_cameBefore_14 : decode cX6_cameBefore 14 = .ok (.if_icmp .ge 33, 3) := by decide +kernel
theorem dX6_cameBefore_17 : decode cX6_cameBefore 17 = .ok (.aload_n 0, 1) := by decide +kernel
theorem dX6_cameBefore_18 : decode cX6_cameBefore 18 = .ok (.iload_n 2, 1) := by decide +kernel
theorem dX6_cameBefore_19 : decode cX6_cameBefore 19 = .ok (.invokevirtual 101, 3) := by decide +kernel
theorem dX6_cameBefore_22 : decode cX6_cameBefore 22 = .ok (.checkcast 104, 3) := by decide +kernel
theorem dX6_cameBefore_25 : decode cX6_cameBefore 25 = .ok (.aload_n 0, 1) := by decide +kernel
theorem dX6_cameBefore_26 : decode cX6_cameBefore 26 = .ok (.iload_n 1, 1) := by decide +kernel
theorem dX6_cameBefore_27 : decode cX6_cameBefore 27 = .ok (.invokevirtual 101, 3) := by decide +kernel
theorem dX6_cameBefore_30 : decode cX6_cameBefore 30 = .ok (.checkcast 104, 3) := by decide +kernel
theorem dX6_cameBefore_33 : decode cX6_cameBefore 33 = .ok (.invokevirtual 241, 3) := by decide +kernel
theorem dX6_cameBefore_36 : decode cX6_cameBefore 36 = .ok (.ifCond .eq 5, 3) := by decide +kernel
theorem dX6_cameBefore_39 : decode cX6_cameBefore 39 = .ok (.iconst 1, 1) := by decide +kernel
theorem dX6_cameBefore_40 : decode cX6_cameBefore 40 = .ok (.ireturn, 1) := by decide +kernel
theorem dX6_cameBefore_41 : decode cX6_cameBefore 41 = .ok (.iinc 2 1, 3) := by decide +kernel
theorem dX6_cameBefore_44 : decode cX6_cameBefore 44 = .ok (.goto (-32), 3) := by decide +kernel
theorem dX6_cameBefore_47 : decode cX6_cameBefore 47 = .ok (.iconst 0, 1) := by decide +kernel
theorem dX6_cameBefore_48 : decode cX6_cameBefore 48 = .ok (.ireturn, 1) := by decide +kernel
