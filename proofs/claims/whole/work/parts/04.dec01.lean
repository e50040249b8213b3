theorem dX0_init_0 : decode cX0_init 0 = .ok (.aload_n 0, 1) := by decide +kernel
theorem dX0_init_1 : decode cX0_init 1 = .ok (.invokespecial 3, 3) := by decide +kernel
theorem dX0_init_4 : decode cX0_init 4 = .ok (.aload_n 0, 1) := by decide +kernel
theorem dX0_init_5 : decode cX0_init 5 = .ok (.bipush 6, 2) := by decide +kernel
theorem dX0_init_7 : decode cX0_init 7 = .ok (.newarray .int, 2) := by decide +kernel
theorem dX0_init_9 : decode cX0_init 9 = .ok (.putfield 9, 3) := by decide +kernel
theorem dX0_init_12 : decode cX0_init 12 = .ok (.aload_n 0, 1) := by decide +kernel
theorem dX0_init_13 : decode cX0_init 13 = .ok (.bipush 6, 2) := by decide +kernel
theorem dX0_init_15 : decode cX0_init 15 = .ok (.newarray .int, 2) := by decide +kernel
theorem dX0_init_17 : decode cX0_init 17 = .ok (.putfield 15, 3) := by decide +kernel
theorem dX0_init_20 : decode cX0_init 20 = .ok (.aload_n 0, 1) := by decide +kernel
theorem dX0_init_21 : decode cX0_init 21 = .ok (.bipush 8, 2) := by decide +kernel
theorem dX0_init_23 : decode cX0_init 23 = .ok (.newarray .int, 2) := by decide +kernel
theorem dX0_init_25 : decode cX0_init 25 = .ok (.putfield 18, 3) := by decide +kernel
theorem dX0_init_28 : decode cX0_init 28 = .ok (.aload_n 0, 1) := by decide +kernel
theorem dX0_init_29 : decode cX0_init 29 = .ok (.invokevirtual 21, 3) := by decide +kernel
theorem dX0_init_32 : decode cX0_init 32 = .ok (.aload_n 0, 1) := by decide +kernel
theorem dX0_init_33 : decode cX0_init 33 = .ok (.invokevirtual 24, 3) := by decide +kernel
theorem dX0_init_36 : decode cX0_init 36 = .ok (.return_, 1) := by decide +kernel
theorem dX0_wipe_0 : decode cX0_wipe 0 = .ok (.aload_n 0, 1) := by decide +kernel
theorem dX0_wipe_1 : decode cX0_wipe 1 = .ok (.iconst 0, 1) := by decide +kernel
theorem dX0_wipe_2 : decode cX0_wipe 2 = .ok (.putfield 27, 3) := by decide +kernel
theorem dX0_wipe_5 : decode cX0_wipe 5 = .ok (.aload_n 0, 1) := by decide +kernel
theorem dX0_wipe_6 : decode cX0_wipe 6 = .ok (.iconst 0, 1) := by decide +kernel
theorem dX0_wipe_7 : decode cX0_wipe 7 = .ok (.putfield 31, 3) := by decide +kernel
theorem dX0_wipe_10 : decode cX0_wipe 10 = .ok (.aload_n 0, 1) := by decide +kernel
theorem dX0_wipe_11 : decode cX0_wipe 11 = .ok (.iconst 0, 1) := by decide +kernel
theorem dX0_wipe_12 : decode cX0_wipe 12 = .ok (.putfield 34, 3) := by decide +kernel
theorem dX0_wipe_15 : decode cX0_wipe 15 = .ok (.aload_n 0, 1) := by decide +kernel
theorem dX0_wipe_16 : decode cX0_wipe 16 = .ok (.iconst 0, 1) := by decide +kernel
theorem dX0_wipe_17 : decode cX0_wipe 17 = .ok (.putfield 37, 3) := by decide +kernel
theorem dX0_wipe_20 : decode cX0_wipe 20 = .ok (.return_, 1) := by decide +kernel
theorem dX0_settle_0 : decode cX0_settle 0 = .ok (.aload_n 0, 1) := by decide +kernel
theorem dX0_settle_1 : decode cX0_settle 1 = .ok (.getfield 31, 3) := by decide +kernel
theorem dX0_settle_4 : decode cX0_settle 4 = .ok (.ifCond .ne 8, 3) := by decide +kernel
theorem dX0_settle_7 : decode cX0_settle 7 = .ok (.aload_n 0, 1) := by decide +kernel
theorem dX0_settle_8 : decode cX0_settle 8 = .ok (.iconst 5, 1) := by decide +kernel
theorem dX0_settle_9 : decode cX0_settle 9 = .ok (.invokevirtual 40, 3) := by decide +kernel
theorem dX0_settle_12 : decode cX0_settle 12 = .ok (.aload_n 0, 1) := by decide +kernel
theorem dX0_settle_13 : decode cX0_settle 13 = .ok (.getfield 34, 3) := by decide +kernel
theorem dX0_settle_16 : decode cX0_settle 16 = .ok (.ifCond .ne 8, 3) := by decide +kernel
theorem dX0_settle_19 : decode cX0_settle 19 = .ok (.aload_n 0, 1) := by decide +kernel
theorem dX0_settle_20 : decode cX0_settle 20 = .ok (.iconst 3, 1) := by decide +kernel
theorem dX0_settle_21 : decode cX0_settle 21 = .ok (.putfield 34, 3) := by decide +kernel
theorem dX0_settle_24 : decode cX0_settle 24 = .ok (.aload_n 0, 1) := by decide +kernel
theorem dX0_settle_25 : decode cX0_settle 25 = .ok (.getfield 37, 3) := by decide +kernel
theorem dX0_settle_28 : decode cX0_settle 28 = .ok (.ifCond .ne 9, 3) := by decide +kernel
theorem dX0_settle_31 : decode cX0_settle 31 = .ok (.aload_n 0, 1) := by decide +kernel
theorem dX0_settle_32 : decode cX0_settle 32 = .ok (.bipush 6, 2) := by decide +kernel
theorem dX0_settle_34 : decode cX0_settle 34 = .ok (.putfield 37, 3) := by decide +kernel
theorem dX0_settle_37 : decode cX0_settle 37 = .ok (.return_, 1) := by decide +kernel
theorem dX0_copyFrom_0 : decode cX0_copyFrom 0 = .ok (.aload_n 0, 1) := by decide +kernel
theorem dX0_copyFrom_1 : decode cX0_copyFrom 1 = .ok (.aload_n 1, 1) := by decide +kernel
theorem dX0_copyFrom_2 : decode cX0_copyFrom 2 = .ok (.getfield 27, 3) := by decide +kernel
theorem dX0_copyFrom_5 : decode cX0_copyFrom 5 = .ok (.putfield 27, 3) := by decide +kernel
theorem dX0_copyFrom_8 : decode cX0_copyFrom 8 = .ok (.aload_n 1, 1) := by decide +kernel
theorem dX0_copyFrom_9 : decode cX0_copyFrom 9 = .ok (.getfield 9, 3) := by decide +kernel
theorem dX0_copyFrom_12 : decode cX0_copyFrom 12 = .ok (.iconst 0, 1) := by decide +kernel
theorem dX0_copyFrom_13 : decode cX0_copyFrom 13 = .ok (.aload_n 0, 1) := by decide +kernel
theorem dX0_copyFrom_14 : decode cX0_copyFrom 14 = .ok (.getfield 9, 3) := by decide +kernel
theorem dX0_copyFrom_17 : decode cX0_copyFrom 17 = .ok (.iconst 0, 1) := by decide +kernel
theorem dX0_copyFrom_18 : decode cX0_copyFrom 18 = .ok (.bipush 6, 2) := by decide +kernel
theorem dX0_copyFrom_20 : decode cX0_copyFrom 20 = .ok (.invokestatic 44, 3) := by decide +kernel
theorem dX0_copyFrom_23 : decode cX0_copyFrom 23 = .ok (.aload_n 1, 1) := by decide +kernel
theorem dX0_copyFrom_24 : decode cX0_copyFrom 24 = .ok (.getfield 15, 3) := by decide +kernel
theorem dX0_copyFrom_27 : decode cX0_copyFrom 27 = .ok (.iconst 0, 1) := by decide +kernel
theorem dX0_copyFrom_28 : decode cX0_copyFrom 28 = .ok (.aload_n 0, 1) := by decide +kernel
theorem dX0_copyFrom_29 : decode cX0_copyFrom 29 = .ok (.getfield 15, 3) := by decide +kernel
theorem dX0_copyFrom_32 : decode cX0_copyFrom 32 = .ok (.iconst 0, 1) := by decide +kernel
theorem dX0_copyFrom_33 : decode cX0_copyFrom 33 = .ok (.bipush 6, 2) := by decide +kernel
theorem dX0_copyFrom_35 : decode cX0_copyFrom 35 = .ok (.invokestatic 44, 3) := by decide +kernel
theorem dX0_copyFrom_38 : decode cX0_copyFrom 38 = .ok (.aload_n 0, 1) := by decide +kernel
theorem dX0_copyFrom_39 : decode cX0_copyFrom 39 = .ok (.aload_n 1, 1) := by decide +kernel
theorem dX0_copyFrom_40 : decode cX0_copyFrom 40 = .ok (.getfield 31, 3) := by decide +kernel
theorem dX0_copyFrom_43 : decode cX0_copyFrom 43 = .ok (.putfield 31, 3) := by decide +kernel
theorem dX0_copyFrom_46 : decode cX0_copyFrom 46 = .ok (.aload_n 1, 1) := by decide +kernel
theorem dX0_copyFrom_47 : decode cX0_copyFrom 47 = .ok (.getfield 18, 3) := by decide +kernel
theorem dX0_copyFrom_50 : decode cX0_copyFrom 50 = .ok (.iconst 0, 1) := by decide +kernel
theorem dX0_copyFrom_51 : decode cX0_copyFrom 51 = .ok (.aload_n 0, 1) := by decide +kernel
theorem dX0_copyFrom_52 : decode cX0_copyFrom 52 = .ok (.getfield 18, 3) := by decide +kernel
theorem dX0_copyFrom_55 : decode cX0_copyFrom 55 = .ok (.iconst 0, 1) := by decide +kernel
theorem dX0_copyFrom_56 : decode cX0_copyFrom 56 = .ok (.bipush 8, 2) := by decide +kernel
theorem dX0_copyFrom_58 : decode cX0_copyFrom 58 = .ok (.invokestatic 44, 3) := by decide +kernel
theorem dX0_copyFrom_61 : decode cX0_copyFrom 61 = .ok (.aload_n 0, 1) := by decide +kernel
theorem dX0_copyFrom_62 : decode cX0_copyFrom 62 = .ok (.aload_n 1, 1) := by decide +kernel
theorem dX0_copyFrom_63 : decode cX0_copyFrom 63 = .ok (.getfield 34, 3) := by decide +kernel
theorem dX0_copyFrom_66 : decode cX0_copyFrom 66 = .ok (.putfield 34, 3) := by decide +kernel
theorem dX0_copyFrom_69 : decode cX0_copyFrom 69 = .ok (.aload_n 0, 1) := by decide +kernel
theorem dX0_copyFrom_70 : decode cX0_copyFrom 70 = .ok (.aload_n 1, 1) := by decide +kernel
theorem dX0_copyFrom_71 : decode cX0_copyFrom 71 = .ok (.getfield 37, 3) := by decide +kernel
theorem dX0_copyFrom_74 : decode cX0_copyFrom 74 = .ok (.putfield 37, 3) := by decide +kernel
theorem dX0_copyFrom_77 : decode cX0_copyFrom 77 = .ok (.return_, 1) := by decide +kernel
theorem dX0_lengthenNights_0 : decode cX0_lengthenNights 0 = .ok (.iconst 0, 1) := by decide +kernel
theorem dX0_lengthenNights_1 : decode cX0_lengthenNights 1 = .ok (.istore_n 1, 1) := by decide +kernel
theorem dX0_lengthenNights_2 : decode cX0_lengthenNights 2 = .ok (.iload_n 1, 1) := by decide +kernel
theorem dX0_lengthenNights_3 : decode cX0_lengthenNights 3 = .ok (.bipush 8, 2) := by decide +kernel
theorem dX0_lengthenNights_5 : decode cX0_lengthenNights 5 = .ok (.if_icmp .ge 19, 3) := by decide +kernel
theorem dX0_lengthenNights_8 : decode cX0_lengthenNights 8 = .ok (.aload_n 0, 1) := by decide +kernel
theorem dX0_lengthenNights_9 : decode cX0_lengthenNights 9 = .ok (.getfield 18, 3) := by decide +kernel
theorem dX0_lengthenNights_12 : decode cX0_lengthenNights 12 = .ok (.iload_n 1, 1) := by decide +kernel
theorem dX0_lengthenNights_13 : decode cX0_lengthenNights 13 = .ok (.dup2, 1) := by decide +kernel
theorem dX0_lengthenNights_14 : decode cX0_lengthenNights 14 = .ok (.iaload, 1) := by decide +kernel
theorem dX0_lengthenNights_15 : decode cX0_lengthenNights 15 = .ok (.iconst 1, 1) := by decide +kernel
theorem dX0_lengthenNights_16 : decode cX0_lengthenNights 16 = .ok (.iadd, 1) := by decide +kernel
theorem dX0_lengthenNights_17 : decode cX0_lengthenNights 17 = .ok (.iastore, 1) := by decide +kernel
theorem dX0_lengthenNights_18 : decode cX0_lengthenNights 18 = .ok (.iinc 1 1, 3) := by decide +kernel
theorem dX0_lengthenNights_21 : decode cX0_lengthenNights 21 = .ok (.goto (-19), 3) := by decide +kernel
theorem dX0_lengthenNights_24 : decode cX0_lengthenNights 24 = .ok (.return_, 1) := by decide +kernel
theorem dX0_addTale_0 : decode cX0_addTale 0 = .ok (.aload_n 0, 1) := by decide +kernel
theorem dX0_addTale_1 : decode cX0_addTale 1 = .ok (.getfield 27, 3) := by decide +kernel
theorem dX0_addTale_4 : decode cX0_addTale 4 = .ok (.ifCond .lt 42, 3) := by decide +kernel
theorem dX0_addTale_7 : decode cX0_addTale 7 = .ok (.aload_n 0, 1) := by decide +kernel
theorem dX0_addTale_8 : decode cX0_addTale 8 = .ok (.getfield 27, 3) := by decide +kernel
theorem dX0_addTale_11 : decode cX0_addTale 11 = .ok (.bipush 6, 2) := by decide +kernel
theorem dX0_addTale_13 : decode cX0_addTale 13 = .ok (.if_icmp .ge 33, 3) := by decide +kernel
theorem dX0_addTale_16 : decode cX0_addTale 16 = .ok (.aload_n 0, 1) := by decide +kernel
theorem dX0_addTale_17 : decode cX0_addTale 17 = .ok (.getfield 9, 3) := by decide +kernel
theorem dX0_addTale_20 : decode cX0_addTale 20 = .ok (.aload_n 0, 1) := by decide +kernel
theorem dX0_addTale_21 : decode cX0_addTale 21 = .ok (.getfield 27, 3) := by decide +kernel
theorem dX0_addTale_24 : decode cX0_addTale 24 = .ok (.iload_n 1, 1) := by decide +kernel
theorem dX0_addTale_25 : decode cX0_addTale 25 = .ok (.iastore, 1) := by decide +kernel
theorem dX0_addTale_26 : decode cX0_addTale 26 = .ok (.aload_n 0, 1) := by decide +kernel
theorem dX0_addTale_27 : decode cX0_addTale 27 = .ok (.getfield 15, 3) := by decide +kernel
theorem dX0_addTale_30 : decode cX0_addTale 30 = .ok (.aload_n 0, 1) := by decide +kernel
theorem dX0_addTale_31 : decode cX0_addTale 31 = .ok (.getfield 27, 3) := by decide +kernel
theorem dX0_addTale_34 : decode cX0_addTale 34 = .ok (.iload_n 2, 1) := by decide +kernel
theorem dX0_addTale_35 : decode cX0_addTale 35 = .ok (.iastore, 1) := by decide +kernel
theorem dX0_addTale_36 : decode cX0_addTale 36 = .ok (.aload_n 0, 1) := by decide +kernel
theorem dX0_addTale_37 : decode cX0_addTale 37 = .ok (.dup, 1) := by decide +kernel
theorem dX0_addTale_38 : decode cX0_addTale 38 = .ok (.getfield 27, 3) := by decide +kernel
theorem dX0_addTale_41 : decode cX0_addTale 41 = .ok (.iconst 1, 1) := by decide +kernel
theorem dX0_addTale_42 : decode cX0_addTale 42 = .ok (.iadd, 1) := by decide +kernel
theorem dX0_addTale_43 : decode cX0_addTale 43 = .ok (.putfield 27, 3) := by decide +kernel
theorem dX0_addTale_46 : decode cX0_addTale 46 = .ok (.return_, 1) := by decide +kernel
theorem dX0_addNight_0 : decode cX0_addNight 0 = .ok (.aload_n 0, 1) := by decide +kernel
theorem dX0_addNight_1 : decode cX0_addNight 1 = .ok (.getfield 31, 3) := by decide +kernel
theorem dX0_addNight_4 : decode cX0_addNight 4 = .ok (.ifCond .lt 32, 3) := by decide +kernel
theorem dX0_addNight_7 : decode cX0_addNight 7 = .ok (.aload_n 0, 1) := by decide +kernel
theorem dX0_addNight_8 : decode cX0_addNight 8 = .ok (.getfield 31, 3) := by decide +kernel
theorem dX0_addNight_11 : decode cX0_addNight 11 = .ok (.bipush 8, 2) := by decide +kernel
theorem dX0_addNight_13 : decode cX0_addNight 13 = .ok (.if_icmp .ge 23, 3) := by decide +kernel
theorem dX0_addNight_16 : decode cX0_addNight 16 = .ok (.aload_n 0, 1) := by decide +kernel
theorem dX0_addNight_17 : decode cX0_addNight 17 = .ok (.getfield 18, 3) := by decide +kernel
theorem dX0_addNight_20 : decode cX0_addNight 20 = .ok (.aload_n 0, 1) := by decide +kernel
theorem dX0_addNight_21 : decode cX0_addNight 21 = .ok (.getfield 31, 3) := by decide +kernel
theorem dX0_addNight_24 : decode cX0_addNight 24 = .ok (.iload_n 1, 1) := by decide +kernel
theorem dX0_addNight_25 : decode cX0_addNight 25 = .ok (.iastore, 1) := by decide +kernel
theorem dX0_addNight_26 : decode cX0_addNight 26 = .ok (.aload_n 0, 1) := by decide +kernel
theorem dX0_addNight_27 : decode cX0_addNight 27 = .ok (.dup, 1) := by decide +kernel
theorem dX0_addNight_28 : decode cX0_addNight 28 = .ok (.getfield 31, 3) := by decide +kernel
theorem dX0_addNight_31 : decode cX0_addNight 31 = .ok (.iconst 1, 1) := by decide +kernel
theorem dX0_addNight_32 : decode cX0_addNight 32 = .ok (.iadd, 1) := by decide +kernel
theorem dX0_addNight_33 : decode cX0_addNight 33 = .ok (.putfield 31, 3) := by decide +kernel
theorem dX0_addNight_36 : decode cX0_addNight 36 = .ok (.return_, 1) := by decide +kernel
theorem dX0_isTale_0 : decode cX0_isTale 0 = .ok (.iload_n 1, 1) := by decide +kernel
theorem dX0_isTale_1 : decode cX0_isTale 1 = .ok (.ifCond .lt 21, 3) := by decide +kernel
theorem dX0_isTale_4 : decode cX0_isTale 4 = .ok (.iload_n 1, 1) := by decide +kernel
theorem dX0_isTale_5 : decode cX0_isTale 5 = .ok (.aload_n 0, 1) := by decide +kernel
theorem dX0_isTale_6 : decode cX0_isTale 6 = .ok (.getfield 27, 3) := by decide +kernel
theorem dX0_isTale_9 : decode cX0_isTale 9 = .ok (.if_icmp .ge 13, 3) := by decide +kernel
theorem dX0_isTale_12 : decode cX0_isTale 12 = .ok (.iload_n 1, 1) := by decide +kernel
theorem dX0_isTale_13 : decode cX0_isTale 13 = .ok (.bipush 6, 2) := by decide +kernel
theorem dX0_isTale_15 : decode cX0_isTale 15 = .ok (.if_icmp .ge 7, 3) := by decide +kernel
theorem dX0_isTale_18 : decode cX0_isTale 18 = .ok (.iconst 1, 1) := by decide +kernel
theorem dX0_isTale_19 : decode cX0_isTale 19 = .ok (.goto 4, 3) := by decide +kernel
theorem dX0_isTale_22 : decode cX0_isTale 22 = .ok (.iconst 0, 1) := by decide +kernel
theorem dX0_isTale_23 : decode cX0_isTale 23 = .ok (.ireturn, 1) := by decide +kernel
theorem dX0_partsOf_0 : decode cX0_partsOf 0 = .ok (.aload_n 0, 1) := by decide +kernel
theorem dX0_partsOf_1 : decode cX0_partsOf 1 = .ok (.iload_n 1, 1) := by decide +kernel
theorem dX0_partsOf_2 : decode cX0_partsOf 2 = .ok (.invokevirtual 50, 3) := by decide +kernel
theorem dX0_partsOf_5 : decode cX0_partsOf 5 = .ok (.ifCond .eq 12, 3) := by decide +kernel
theorem dX0_partsOf_8 : decode cX0_partsOf 8 = .ok (.aload_n 0, 1) := by decide +kernel
theorem dX0_partsOf_9 : decode cX0_partsOf 9 = .ok (.getfield 9, 3) := by decide +kernel
theorem dX0_partsOf_12 : decode cX0_partsOf 12 = .ok (.iload_n 1, 1) := by decide +kernel
theorem dX0_partsOf_13 : decode cX0_partsOf 13 = .ok (.iaload, 1) := by decide +kernel
theorem dX0_partsOf_14 : decode cX0_partsOf 14 = .ok (.goto 4, 3) := by decide +kernel
theorem dX0_partsOf_17 : decode cX0_partsOf 17 = .ok (.iconst 0, 1) := by decide +kernel
theorem dX0_partsOf_18 : decode cX0_partsOf 18 = .ok (.ireturn, 1) := by decide +kernel
theorem dX0_withinOf_0 : decode cX0_withinOf 0 = .ok (.aload_n 0, 1) := by decide +kernel
theorem dX0_withinOf_1 : decode cX0_withinOf 1 = .ok (.iload_n 1, 1) := by decide +kernel
theorem dX0_withinOf_2 : decode cX0_withinOf 2 = .ok (.invokevirtual 50, 3) := by decide +kernel
theorem dX0_withinOf_5 : decode cX0_withinOf 5 = .ok (.ifCond .eq 12, 3) := by decide +kernel
theorem dX0_withinOf_8 : decode cX0_withinOf 8 = .ok (.aload_n 0, 1) := by decide +kernel
theorem dX0_withinOf_9 : decode cX0_withinOf 9 = .ok (.getfield 15, 3) := by decide +kernel
theorem dX0_withinOf_12 : decode cX0_withinOf 12 = .ok (.iload_n 1, 1) := by decide +kernel
theorem dX0_withinOf_13 : decode cX0_withinOf 13 = .ok (.iaload, 1) := by decide +kernel
theorem dX0_withinOf_14 : decode cX0_withinOf 14 = .ok (.goto 5, 3) := by decide +kernel
theorem dX0_withinOf_17 : decode cX0_withinOf 17 = .ok (.bipush 9, 2) := by decide +kernel
theorem dX0_withinOf_19 : decode cX0_withinOf 19 = .ok (.ireturn, 1) := by decide +kernel
theorem dX0_toldWithin_0 : decode cX0_toldWithin 0 = .ok (.iconst 0, 1) := by decide +kernel
theorem dX0_toldWithin_1 : decode cX0_toldWithin 1 = .ok (.istore_n 2, 1) := by decide +kernel
theorem dX0_toldWithin_2 : decode cX0_toldWithin 2 = .ok (.iconst 0, 1) := by decide +kernel
theorem dX0_toldWithin_3 : decode cX0_toldWithin 3 = .ok (.istore_n 3, 1) := by decide +kernel
theorem dX0_toldWithin_4 : decode cX0_toldWithin 4 = .ok (.iload_n 3, 1) := by decide +kernel
theorem dX0_toldWithin_5 : decode cX0_toldWithin 5 = .ok (.aload_n 0, 1) := by decide +kernel
theorem dX0_toldWithin_6 : decode cX0_toldWithin 6 = .ok (.getfield 27, 3) := by decide +kernel
theorem dX0_toldWithin_9 : decode cX0_toldWithin 9 = .ok (.if_icmp .ge 26, 3) := by decide +kernel
theorem dX0_toldWithin_12 : decode cX0_toldWithin 12 = .ok (.iload_n 2, 1) := by decide +kernel
theorem dX0_toldWithin_13 : decode cX0_toldWithin 13 = .ok (.aload_n 0, 1) := by decide +kernel
theorem dX0_toldWithin_14 : decode cX0_toldWithin 14 = .ok (.iload_n 3, 1) := by decide +kernel
theorem dX0_toldWithin_15 : decode cX0_toldWithin 15 = .ok (.invokevirtual 54, 3) := by decide +kernel
theorem dX0_toldWithin_18 : decode cX0_toldWithin 18 = .ok (.iload_n 1, 1) := by decide +kernel
theorem dX0_toldWithin_19 : decode cX0_toldWithin 19 = .ok (.if_icmp .ne 7, 3) := by decide +kernel
theorem dX0_toldWithin_22 : decode cX0_toldWithin 22 = .ok (.iconst 1, 1) := by decide +kernel
theorem dX0_toldWithin_23 : decode cX0_toldWithin 23 = .ok (.goto 4, 3) := by decide +kernel
theorem dX0_toldWithin_26 : decode cX0_toldWithin 26 = .ok (.iconst 0, 1) := by decide +kernel
theorem dX0_toldWithin_27 : decode cX0_toldWithin 27 = .ok (.iadd, 1) := by decide +kernel
theorem dX0_toldWithin_28 : decode cX0_toldWithin 28 = .ok (.istore_n 2, 1) := by decide +kernel
theorem dX0_toldWithin_29 : decode cX0_toldWithin 29 = .ok (.iinc 3 1, 3) := by decide +kernel
theorem dX0_toldWithin_32 : decode cX0_toldWithin 32 = .ok (.goto (-28), 3) := by decide +kernel
theorem dX0_toldWithin_35 : decode cX0_toldWithin 35 = .ok (.iload_n 2, 1) := by decide +kernel
theorem dX0_toldWithin_36 : decode cX0_toldWithin 36 = .ok (.ireturn, 1) := by decide +kernel
theorem dX0_hoursOf_0 : decode cX0_hoursOf 0 = .ok (.aload_n 0, 1) := by decide +kernel
theorem dX0_hoursOf_1 : decode cX0_hoursOf 1 = .ok (.getfield 31, 3) := by decide +kernel
theorem dX0_hoursOf_4 : decode cX0_hoursOf 4 = .ok (.ifCond .le 16, 3) := by decide +kernel
theorem dX0_hoursOf_7 : decode cX0_hoursOf 7 = .ok (.aload_n 0, 1) := by decide +kernel
theorem dX0_hoursOf_8 : decode cX0_hoursOf 8 = .ok (.getfield 31, 3) := by decide +kernel
theorem dX0_hoursOf_11 : decode cX0_hoursOf 11 = .ok (.bipush 8, 2) := by decide +kernel
theorem dX0_hoursOf_13 : decode cX0_hoursOf 13 = .ok (.if_icmp .gt 7, 3) := by decide +kernel
theorem dX0_hoursOf_16 : decode cX0_hoursOf 16 = .ok (.iload_n 1, 1) := by decide +kernel
theorem dX0_hoursOf_17 : decode cX0_hoursOf 17 = .ok (.ifCond .ge 5, 3) := by decide +kernel
theorem dX0_hoursOf_20 : decode cX0_hoursOf 20 = .ok (.iconst 0, 1) := by decide +kernel
theorem dX0_hoursOf_21 : decode cX0_hoursOf 21 = .ok (.ireturn, 1) := by decide +kernel
theorem dX0_hoursOf_22 : decode cX0_hoursOf 22 = .ok (.aload_n 0, 1) := by decide +kernel
theorem dX0_hoursOf_23 : decode cX0_hoursOf 23 = .ok (.getfield 18, 3) := by decide +kernel
theorem dX0_hoursOf_26 : decode cX0_hoursOf 26 = .ok (.iload_n 1, 1) := by decide +kernel
theorem dX0_hoursOf_27 : decode cX0_hoursOf 27 = .ok (.aload_n 0, 1) := by decide +kernel
theorem dX0_hoursOf_28 : decode cX0_hoursOf 28 = .ok (.getfield 31, 3) := by decide +kernel
theorem dX0_hoursOf_31 : decode cX0_hoursOf 31 = .ok (.irem, 1) := by decide +kernel
theorem dX0_hoursOf_32 : decode cX0_hoursOf 32 = .ok (.iaload, 1) := by decide +kernel
theorem dX0_hoursOf_33 : decode cX0_hoursOf 33 = .ok (.ireturn, 1) := by decide +kernel
theorem dX1_init_0 : decode cX1_init 0 = .ok (.aload_n 0, 1) := by decide +kernel
theorem dX1_init_1 : decode cX1_init 1 = .ok (.invokespecial 1, 3) := by decide +kernel
theorem dX1_init_4 : decode cX1_init 4 = .ok (.return_, 1) := by decide +kernel
theorem dX1_marked_0 : decode cX1_marked 0 = .ok (.aload_n 0, 1) := by decide +kernel
theorem dX1_marked_1 : decode cX1_marked 1 = .ok (.dup, 1) := by decide +kernel
theorem dX1_marked_2 : decode cX1_marked 2 = .ok (.getfield 7, 3) := by decide +kernel
theorem dX1_marked_5 : decode cX1_marked 5 = .ok (.ldc2_w 13, 3) := by decide +kernel
theorem dX1_marked_8 : decode cX1_marked 8 = .ok (.ladd, 1) := by decide +kernel
theorem dX1_marked_9 : decode cX1_marked 9 = .ok (.putfield 7, 3) := by decide +kernel
theorem dX1_marked_12 : decode cX1_marked 12 = .ok (.aload_n 0, 1) := by decide +kernel
theorem dX1_marked_13 : decode cX1_marked 13 = .ok (.aload_n 1, 1) := by decide +kernel
theorem dX1_marked_14 : decode cX1_marked 14 = .ok (.aload_n 2, 1) := by decide +kernel
theorem dX1_marked_15 : decode cX1_marked 15 = .ok (.iload_n 3, 1) := by decide +kernel
theorem dX1_marked_16 : decode cX1_marked 16 = .ok (.invokespecial 15, 3) := by decide +kernel
theorem dX1_marked_19 : decode cX1_marked 19 = .ok (.aload_n 1, 1) := by decide +kernel
theorem dX1_marked_20 : decode cX1_marked 20 = .ok (.iload_n 3, 1) := by decide +kernel
theorem dX1_marked_21 : decode cX1_marked 21 = .ok (.invokevirtual 19, 3) := by decide +kernel
theorem dX1_marked_24 : decode cX1_marked 24 = .ok (.iadd, 1) := by decide +kernel
theorem dX1_marked_25 : decode cX1_marked 25 = .ok (.ireturn, 1) := by decide +kernel
theorem dX2_init_0 : decode cX2_init 0 = .ok (.aload_n 0, 1) := by decide +kernel
theorem dX2_init_1 : decode cX2_init 1 = .ok (.invokespecial 1, 3) := by decide +kernel
theorem dX2_init_4 : decode cX2_init 4 = .ok (.return_, 1) := by decide +kernel
theorem dX2_marked_0 : decode cX2_marked 0 = .ok (.aload_n 0, 1) := by decide +kernel
theorem dX2_marked_1 : decode cX2_marked 1 = .ok (.dup, 1) := by decide +kernel
theorem dX2_marked_2 : decode cX2_marked 2 = .ok (.getfield 7, 3) := by decide +kernel
theorem dX2_marked_5 : decode cX2_marked 5 = .ok (.ldc2_w 13, 3) := by decide +kernel
theorem dX2_marked_8 : decode cX2_marked 8 = .ok (.ladd, 1) := by decide +kernel
theorem dX2_marked_9 : decode cX2_marked 9 = .ok (.putfield 7, 3) := by decide +kernel
theorem dX2_marked_12 : decode cX2_marked 12 = .ok (.aload_n 0, 1) := by decide +kernel
theorem dX2_marked_13 : decode cX2_marked 13 = .ok (.aload_n 1, 1) := by decide +kernel
theorem dX2_marked_14 : decode cX2_marked 14 = .ok (.aload_n 2, 1) := by decide +kernel
theorem dX2_marked_15 : decode cX2_marked 15 = .ok (.iload_n 3, 1) := by decide +kernel
theorem dX2_marked_16 : decode cX2_marked 16 = .ok (.invokespecial 15, 3) := by decide +kernel
theorem dX2_marked_19 : decode cX2_marked 19 = .ok (.aload_n 2, 1) := by decide +kernel
theorem dX2_marked_20 : decode cX2_marked 20 = .ok (.getfield 19, 3) := by decide +kernel
theorem dX2_marked_23 : decode cX2_marked 23 = .ok (.iadd, 1) := by decide +kernel
theorem dX2_marked_24 : decode cX2_marked 24 = .ok (.ireturn, 1) := by decide +kernel
theorem dX3_init_0 : decode cX3_init 0 = .ok (.aload_n 0, 1) := by decide +kernel
theorem dX3_init_1 : decode cX3_init 1 = .ok (.invokespecial 1, 3) := by decide +kernel
theorem dX3_init_4 : decode cX3_init 4 = .ok (.return_, 1) := by decide +kernel
theorem dX3_marked_0 : decode cX3_marked 0 = .ok (.aload_n 0, 1) := by decide +kernel
theorem dX3_marked_1 : decode cX3_marked 1 = .ok (.dup, 1) := by decide +kernel
theorem dX3_marked_2 : decode cX3_marked 2 = .ok (.getfield 7, 3) := by decide +kernel
theorem dX3_marked_5 : decode cX3_marked 5 = .ok (.ldc2_w 13, 3) := by decide +kernel
theorem dX3_marked_8 : decode cX3_marked 8 = .ok (.ladd, 1) := by decide +kernel
theorem dX3_marked_9 : decode cX3_marked 9 = .ok (.putfield 7, 3) := by decide +kernel
theorem dX3_marked_12 : decode cX3_marked 12 = .ok (.aload_n 0, 1) := by decide +kernel
theorem dX3_marked_13 : decode cX3_marked 13 = .ok (.aload_n 1, 1) := by decide +kernel
theorem dX3_marked_14 : decode cX3_marked 14 = .ok (.aload_n 2, 1) := by decide +kernel
theorem dX3_marked_15 : decode cX3_marked 15 = .ok (.iload_n 3, 1) := by decide +kernel
theorem dX3_marked_16 : decode cX3_marked 16 = .ok (.invokespecial 15, 3) := by decide +kernel
theorem dX3_marked_19 : decode cX3_marked 19 = .ok (.aload_n 2, 1) := by decide +kernel
theorem dX3_marked_20 : decode cX3_marked 20 = .ok (.getfield 19, 3) := by decide +kernel
theorem dX3_marked_23 : decode cX3_marked 23 = .ok (.iadd, 1) := by decide +kernel
theorem dX3_marked_24 : decode cX3_marked 24 = .ok (.ireturn, 1) := by decide +kernel
theorem dX4_init_0 : decode cX4_init 0 = .ok (.aload_n 0, 1) := by decide +kernel
theorem dX4_init_1 : decode cX4_init 1 = .ok (.invokespecial 1, 3) := by decide +kernel
theorem dX4_init_4 : decode cX4_init 4 = .ok (.return_, 1) := by decide +kernel
theorem dX4_marked_0 : decode cX4_marked 0 = .ok (.aload_n 0, 1) := by decide +kernel
theorem dX4_marked_1 : decode cX4_marked 1 = .ok (.dup, 1) := by decide +kernel
theorem dX4_marked_2 : decode cX4_marked 2 = .ok (.getfield 7, 3) := by decide +kernel
theorem dX4_marked_5 : decode cX4_marked 5 = .ok (.ldc2_w 13, 3) := by decide +kernel
theorem dX4_marked_8 : decode cX4_marked 8 = .ok (.ladd, 1) := by decide +kernel
theorem dX4_marked_9 : decode cX4_marked 9 = .ok (.putfield 7, 3) := by decide +kernel
theorem dX4_marked_12 : decode cX4_marked 12 = .ok (.aload_n 0, 1) := by decide +kernel
theorem dX4_marked_13 : decode cX4_marked 13 = .ok (.aload_n 1, 1) := by decide +kernel
theorem dX4_marked_14 : decode cX4_marked 14 = .ok (.aload_n 2, 1) := by decide +kernel
theorem dX4_marked_15 : decode cX4_marked 15 = .ok (.iload_n 3, 1) := by decide +kernel
theorem dX4_marked_16 : decode cX4_marked 16 = .ok (.invokespecial 15, 3) := by decide +kernel
theorem dX4_marked_19 : decode cX4_marked 19 = .ok (.aload_n 1, 1) := by decide +kernel
theorem dX4_marked_20 : decode cX4_marked 20 = .ok (.iload_n 3, 1) := by decide +kernel
theorem dX4_marked_21 : decode cX4_marked 21 = .ok (.invokevirtual 19, 3) := by decide +kernel
theorem dX4_marked_24 : decode cX4_marked 24 = .ok (.isub, 1) := by decide +kernel
theorem dX4_marked_25 : decode cX4_marked 25 = .ok (.ireturn, 1) := by decide +kernel
theorem dX6_init_0 : decode cX6_init 0 = .ok (.aload_n 0, 1) := by decide +kernel
theorem dX6_init_1 : decode cX6_init 1 = .ok (.invokespecial 3, 3) := by decide +kernel
theorem dX6_init_4 : decode cX6_init 4 = .ok (.aload_n 0, 1) := by decide +kernel
theorem dX6_init_5 : decode cX6_init 5 = .ok (.new 9, 3) := by decide +kernel
theorem dX6_init_8 : decode cX6_init 8 = .ok (.dup, 1) := by decide +kernel
theorem dX6_init_9 : decode cX6_init 9 = .ok (.invokespecial 11, 3) := by decide +kernel
theorem dX6_init_12 : decode cX6_init 12 = .ok (.putfield 12, 3) := by decide +kernel
theorem dX6_init_15 : decode cX6_init 15 = .ok (.aload_n 0, 1) := by decide +kernel
theorem dX6_init_16 : decode cX6_init 16 = .ok (.bipush 10, 2) := by decide +kernel
theorem dX6_init_18 : decode cX6_init 18 = .ok (.anewarray 9, 3) := by decide +kernel
theorem dX6_init_21 : decode cX6_init 21 = .ok (.putfield 18, 3) := by decide +kernel
theorem dX6_init_24 : decode cX6_init 24 = .ok (.iconst 0, 1) := by decide +kernel
theorem dX6_init_25 : decode cX6_init 25 = .ok (.istore_n 1, 1) := by decide +kernel
theorem dX6_init_26 : decode cX6_init 26 = .ok (.iload_n 1, 1) := by decide +kernel
theorem dX6_init_27 : decode cX6_init 27 = .ok (.bipush 10, 2) := by decide +kernel
theorem dX6_init_29 : decode cX6_init 29 = .ok (.if_icmp .ge 22, 3) := by decide +kernel
theorem dX6_init_32 : decode cX6_init 32 = .ok (.aload_n 0, 1) := by decide +kernel
theorem dX6_init_33 : decode cX6_init 33 = .ok (.getfield 18, 3) := by decide +kernel
theorem dX6_init_36 : decode cX6_init 36 = .ok (.iload_n 1, 1) := by decide +kernel
theorem dX6_init_37 : decode cX6_init 37 = .ok (.new 9, 3) := by decide +kernel
theorem dX6_init_40 : decode cX6_init 40 = .ok (.dup, 1) := by decide +kernel
theorem dX6_init_41 : decode cX6_init 41 = .ok (.invokespecial 11, 3) := by decide +kernel
theorem dX6_init_44 : decode cX6_init 44 = .ok (.aastore, 1) := by decide +kernel
theorem dX6_init_45 : decode cX6_init 45 = .ok (.iinc 1 1, 3) := by decide +kernel
theorem dX6_init_48 : decode cX6_init 48 = .ok (.goto (-22), 3) := by decide +kernel
theorem dX6_init_51 : decode cX6_init 51 = .ok (.return_, 1) := by decide +kernel
theorem dX6_start_0 : decode cX6_start 0 = .ok (.aload_n 0, 1) := by decide +kernel
theorem dX6_start_1 : decode cX6_start 1 = .ok (.getfield 12, 3) := by decide +kernel
theorem dX6_start_4 : decode cX6_start 4 = .ok (.aload_n 1, 1) := by decide +kernel
theorem dX6_start_5 : decode cX6_start 5 = .ok (.invokevirtual 22, 3) := by decide +kernel
theorem dX6_start_8 : decode cX6_start 8 = .ok (.aload_n 0, 1) := by decide +kernel
theorem dX6_start_9 : decode cX6_start 9 = .ok (.iconst 0, 1) := by decide +kernel
theorem dX6_start_10 : decode cX6_start 10 = .ok (.putfield 26, 3) := by decide +kernel
theorem dX6_start_13 : decode cX6_start 13 = .ok (.return_, 1) := by decide +kernel
theorem dX6_copyFrom_0 : decode cX6_copyFrom 0 = .ok (.aload_n 0, 1) := by decide +kernel
theorem dX6_copyFrom_1 : decode cX6_copyFrom 1 = .ok (.getfield 12, 3) := by decide +kernel
theorem dX6_copyFrom_4 : decode cX6_copyFrom 4 = .ok (.aload_n 1, 1) := by decide +kernel
theorem dX6_copyFrom_5 : decode cX6_copyFrom 5 = .ok (.getfield 12, 3) := by decide +kernel
theorem dX6_copyFrom_8 : decode cX6_copyFrom 8 = .ok (.invokevirtual 30, 3) := by decide +kernel
theorem dX6_copyFrom_11 : decode cX6_copyFrom 11 = .ok (.iconst 0, 1) := by decide +kernel
theorem dX6_copyFrom_12 : decode cX6_copyFrom 12 = .ok (.istore_n 2, 1) := by decide +kernel
theorem dX6_copyFrom_13 : decode cX6_copyFrom 13 = .ok (.iload_n 2, 1) := by decide +kernel
theorem dX6_copyFrom_14 : decode cX6_copyFrom 14 = .ok (.bipush 10, 2) := by decide +kernel
theorem dX6_copyFrom_16 : decode cX6_copyFrom 16 = .ok (.if_icmp .ge 24, 3) := by decide +kernel
theorem dX6_copyFrom_19 : decode cX6_copyFrom 19 = .ok (.aload_n 0, 1) := by decide +kernel
theorem dX6_copyFrom_20 : decode cX6_copyFrom 20 = .ok (.getfield 18, 3) := by decide +kernel
theorem dX6_copyFrom_23 : decode cX6_copyFrom 23 = .ok (.iload_n 2, 1) := by decide +kernel
theorem dX6_copyFrom_24 : decode cX6_copyFrom 24 = .ok (.aaload, 1) := by decide +kernel
theorem dX6_copyFrom_25 : decode cX6_copyFrom 25 = .ok (.aload_n 1, 1) := by decide +kernel
theorem dX6_copyFrom_26 : decode cX6_copyFrom 26 = .ok (.getfield 18, 3) := by decide +kernel
theorem dX6_copyFrom_29 : decode cX6_copyFrom 29 = .ok (.iload_n 2, 1) := by decide +kernel
theorem dX6_copyFrom_30 : decode cX6_copyFrom 30 = .ok (.aaload, 1) := by decide +kernel
theorem dX6_copyFrom_31 : decode cX6_copyFrom 31 = .ok (.invokevirtual 30, 3) := by decide +kernel
theorem dX6_copyFrom_34 : decode cX6_copyFrom 34 = .ok (.iinc 2 1, 3) := by decide +kernel
theorem dX6_copyFrom_37 : decode cX6_copyFrom 37 = .ok (.goto (-24), 3) := by decide +kernel
theorem dX6_copyFrom_40 : decode cX6_copyFrom 40 = .ok (.aload_n 0, 1) := by decide +kernel
theorem dX6_copyFrom_41 : decode cX6_copyFrom 41 = .ok (.aload_n 1, 1) := by decide +kernel
theorem dX6_copyFrom_42 : decode cX6_copyFrom 42 = .ok (.getfield 26, 3) := by decide +kernel
theorem dX6_copyFrom_45 : decode cX6_copyFrom 45 = .ok (.putfield 26, 3) := by decide +kernel
theorem dX6_copyFrom_48 : decode cX6_copyFrom 48 = .ok (.return_, 1) := by decide +kernel
theorem dX6_remember_0 : decode cX6_remember 0 = .ok (.aload_n 0, 1) := by decide +kernel
theorem dX6_remember_1 : decode cX6_remember 1 = .ok (.getfield 26, 3) := by decide +kernel
theorem dX6_remember_4 : decode cX6_remember 4 = .ok (.bipush 10, 2) := by decide +kernel
theorem dX6_remember_6 : decode cX6_remember 6 = .ok (.if_icmp .lt 7, 3) := by decide +kernel
theorem dX6_remember_9 : decode cX6_remember 9 = .ok (.aload_n 0, 1) := by decide +kernel
theorem dX6_remember_10 : decode cX6_remember 10 = .ok (.invokevirtual 34, 3) := by decide +kernel
theorem dX6_remember_13 : decode cX6_remember 13 = .ok (.aload_n 0, 1) := by decide +kernel
theorem dX6_remember_14 : decode cX6_remember 14 = .ok (.getfield 26, 3) := by decide +kernel
theorem dX6_remember_17 : decode cX6_remember 17 = .ok (.ifCond .lt 38, 3) := by decide +kernel
theorem dX6_remember_20 : decode cX6_remember 20 = .ok (.aload_n 0, 1) := by decide +kernel
theorem dX6_remember_21 : decode cX6_remember 21 = .ok (.getfield 26, 3) := by decide +kernel
theorem dX6_remember_24 : decode cX6_remember 24 = .ok (.bipush 10, 2) := by decide +kernel
theorem dX6_remember_26 : decode cX6_remember 26 = .ok (.if_icmp .ge 29, 3) := by decide +kernel
theorem dX6_remember_29 : decode cX6_remember 29 = .ok (.aload_n 0, 1) := by decide +kernel
theorem dX6_remember_30 : decode cX6_remember 30 = .ok (.getfield 18, 3) := by decide +kernel
theorem dX6_remember_33 : decode cX6_remember 33 = .ok (.aload_n 0, 1) := by decide +kernel
theorem dX6_remember_34 : decode cX6_remember 34 = .ok (.getfield 26, 3) := by decide +kernel
theorem dX6_remember_37 : decode cX6_remember 37 = .ok (.aaload, 1) := by decide +kernel
theorem dX6_remember_38 : decode cX6_remember 38 = .ok (.aload_n 0, 1) := by decide +kernel
theorem dX6_remember_39 : decode cX6_remember 39 = .ok (.getfield 12, 3) := by decide +kernel
theorem dX6_remember_42 : decode cX6_remember 42 = .ok (.invokevirtual 30, 3) := by decide +kernel
theorem dX6_remember_45 : decode cX6_remember 45 = .ok (.aload_n 0, 1) := by decide +kernel
theorem dX6_remember_46 : decode cX6_remember 46 = .ok (.dup, 1) := by decide +kernel
theorem dX6_remember_47 : decode cX6_remember 47 = .ok (.getfield 26, 3) := by decide +kernel
theorem dX6_remember_50 : decode cX6_remember 50 = .ok (.iconst 1, 1) := by decide +kernel
theorem dX6_remember_51 : decode cX6_remember 51 = .ok (.iadd, 1) := by decide +kernel
theorem dX6_remember_52 : decode cX6_remember 52 = .ok (.putfield 26, 3) := by decide +kernel
theorem dX6_remember_55 : decode cX6_remember 55 = .ok (.return_, 1) := by decide +kernel
theorem dX6_loseOldest_0 : decode cX6_loseOldest 0 = .ok (.aload_n 0, 1) := by decide +kernel
theorem dX6_loseOldest_1 : decode cX6_loseOldest 1 = .ok (.getfield 18, 3) := by decide +kernel
theorem dX6_loseOldest_4 : decode cX6_loseOldest 4 = .ok (.iconst 0, 1) := by decide +kernel
theorem dX6_loseOldest_5 : decode cX6_loseOldest 5 = .ok (.aaload, 1) := by decide +kernel
theorem dX6_loseOldest_6 : decode cX6_loseOldest 6 = .ok (.astore_n 1, 1) := by decide +kernel
theorem dX6_loseOldest_7 : decode cX6_loseOldest 7 = .ok (.iconst 1, 1) := by decide +kernel
theorem dX6_loseOldest_8 : decode cX6_loseOldest 8 = .ok (.istore_n 2, 1) := by decide +kernel
theorem dX6_loseOldest_9 : decode cX6_loseOldest 9 = .ok (.iload_n 2, 1) := by decide +kernel
theorem dX6_loseOldest_10 : decode cX6_loseOldest 10 = .ok (.bipush 10, 2) := by decide +kernel
theorem dX6_loseOldest_12 : decode cX6_loseOldest 12 = .ok (.if_icmp .ge 23, 3) := by decide +kernel
theorem dX6_loseOldest_15 : decode cX6_loseOldest 15 = .ok (.aload_n 0, 1) := by decide +kernel
theorem dX6_loseOldest_16 : decode cX6_loseOldest 16 = .ok (.getfield 18, 3) := by decide +kernel
theorem dX6_loseOldest_19 : decode cX6_loseOldest 19 = .ok (.iload_n 2, 1) := by decide +kernel
theorem dX6_loseOldest_20 : decode cX6_loseOldest 20 = .ok (.iconst 1, 1) := by decide +kernel
theorem dX6_loseOldest_21 : decode cX6_loseOldest 21 = .ok (.isub, 1) := by decide +kernel
theorem dX6_loseOldest_22 : decode cX6_loseOldest 22 = .ok (.aload_n 0, 1) := by decide +kernel
theorem dX6_loseOldest_23 : decode cX6_loseOldest 23 = .ok (.getfield 18, 3) := by decide +kernel
theorem dX6_loseOldest_26 : decode cX6_loseOldest 26 = .ok (.iload_n 2, 1) := by decide +kernel
theorem dX6_loseOldest_27 : decode cX6_loseOldest 27 = .ok (.aaload, 1) := by decide +kernel
theorem dX6_loseOldest_28 : decode cX6_loseOldest 28 = .ok (.aastore, 1) := by decide +kernel
theorem dX6_loseOldest_29 : decode cX6_loseOldest 29 = .ok (.iinc 2 1, 3) := by decide +kernel
theorem dX6_loseOldest_32 : decode cX6_loseOldest 32 = .ok (.goto (-23), 3) := by decide +kernel
theorem dX6_loseOldest_35 : decode cX6_loseOldest 35 = .ok (.aload_n 0, 1) := by decide +kernel
theorem dX6_loseOldest_36 : decode cX6_loseOldest 36 = .ok (.getfield 18, 3) := by decide +kernel
theorem dX6_loseOldest_39 : decode cX6_loseOldest 39 = .ok (.bipush 9, 2) := by decide +kernel
theorem dX6_loseOldest_41 : decode cX6_loseOldest 41 = .ok (.aload_n 1, 1) := by decide +kernel
theorem dX6_loseOldest_42 : decode cX6_loseOldest 42 = .ok (.aastore, 1) := by decide +kernel
theorem dX6_loseOldest_43 : decode cX6_loseOldest 43 = .ok (.aload_n 0, 1) := by decide +kernel
theorem dX6_loseOldest_44 : decode cX6_loseOldest 44 = .ok (.bipush 9, 2) := by decide +kernel
theorem dX6_loseOldest_46 : decode cX6_loseOldest 46 = .ok (.putfield 26, 3) := by decide +kernel
theorem dX6_loseOldest_49 : decode cX6_loseOldest 49 = .ok (.return_, 1) := by decide +kernel
theorem dX6_takeBack_0 : decode cX6_takeBack 0 = .ok (.aload_n 0, 1) := by decide +kernel
theorem dX6_takeBack_1 : decode cX6_takeBack 1 = .ok (.getfield 26, 3) := by decide +kernel
theorem dX6_takeBack_4 : decode cX6_takeBack 4 = .ok (.ifCond .le 12, 3) := by decide +kernel
theorem dX6_takeBack_7 : decode cX6_takeBack 7 = .ok (.aload_n 0, 1) := by decide +kernel
theorem dX6_takeBack_8 : decode cX6_takeBack 8 = .ok (.getfield 26, 3) := by decide +kernel
theorem dX6_takeBack_11 : decode cX6_takeBack 11 = .ok (.bipush 10, 2) := by decide +kernel
theorem dX6_takeBack_13 : decode cX6_takeBack 13 = .ok (.if_icmp .le 5, 3) := by decide +kernel
theorem dX6_takeBack_16 : decode cX6_takeBack 16 = .ok (.iconst 0, 1) := by decide +kernel
theorem dX6_takeBack_17 : decode cX6_takeBack 17 = .ok (.ireturn, 1) := by decide +kernel
theorem dX6_takeBack_18 : decode cX6_takeBack 18 = .ok (.aload_n 0, 1) := by decide +kernel
theorem dX6_takeBack_19 : decode cX6_takeBack 19 = .ok (.dup, 1) := by decide +kernel
theorem dX6_takeBack_20 : decode cX6_takeBack 20 = .ok (.getfield 26, 3) := by decide +kernel
theorem dX6_takeBack_23 : decode cX6_takeBack 23 = .ok (.iconst 1, 1) := by decide +kernel
theorem dX6_takeBack_24 : decode cX6_takeBack 24 = .ok (.isub, 1) := by decide +kernel
theorem dX6_takeBack_25 : decode cX6_takeBack 25 = .ok (.putfield 26, 3) := by decide +kernel
theorem dX6_takeBack_28 : decode cX6_takeBack 28 = .ok (.aload_n 0, 1) := by decide +kernel
theorem dX6_takeBack_29 : decode cX6_takeBack 29 = .ok (.getfield 12, 3) := by decide +kernel
theorem dX6_takeBack_32 : decode cX6_takeBack 32 = .ok (.aload_n 0, 1) := by decide +kernel
theorem dX6_takeBack_33 : decode cX6_takeBack 33 = .ok (.getfield 18, 3) := by decide +kernel
theorem dX6_takeBack_36 : decode cX6_takeBack 36 = .ok (.aload_n 0, 1) := by decide +kernel
theorem dX6_takeBack_37 : decode cX6_takeBack 37 = .ok (.getfield 26, 3) := by decide +kernel
theorem dX6_takeBack_40 : decode cX6_takeBack 40 = .ok (.aaload, 1) := by decide +kernel
theorem dX6_takeBack_41 : decode cX6_takeBack 41 = .ok (.invokevirtual 30, 3) := by decide +kernel
theorem dX6_takeBack_44 : decode cX6_takeBack 44 = .ok (.iconst 1, 1) := by decide +kernel
theorem dX6_takeBack_45 : decode cX6_takeBack 45 = .ok (.ireturn, 1) := by decide +kernel
theorem dX7_init_0 : decode cX7_init 0 = .ok (.aload_n 0, 1) := by decide +kernel
theorem dX7_init_1 : decode cX7_init 1 = .ok (.invokespecial 1, 3) := by decide +kernel
theorem dX7_init_4 : decode cX7_init 4 = .ok (.return_, 1) := by decide +kernel
theorem dX7_marked_0 : decode cX7_marked 0 = .ok (.aload_n 0, 1) := by decide +kernel
theorem dX7_marked_1 : decode cX7_marked 1 = .ok (.dup, 1) := by decide +kernel
theorem dX7_marked_2 : decode cX7_marked 2 = .ok (.getfield 7, 3) := by decide +kernel
theorem dX7_marked_5 : decode cX7_marked 5 = .ok (.lconst 1, 1) := by decide +kernel
theorem dX7_marked_6 : decode cX7_marked 6 = .ok (.ladd, 1) := by decide +kernel
theorem dX7_marked_7 : decode cX7_marked 7 = .ok (.putfield 7, 3) := by decide +kernel
theorem dX7_marked_10 : decode cX7_marked 10 = .ok (.aload_n 2, 1) := by decide +kernel
theorem dX7_marked_11 : decode cX7_marked 11 = .ok (.iload_n 3, 1) := by decide +kernel
theorem dX7_marked_12 : decode cX7_marked 12 = .ok (.invokevirtual 13, 3) := by decide +kernel
theorem dX7_marked_15 : decode cX7_marked 15 = .ok (.ireturn, 1) := by decide +kernel
theorem dX8_init_0 : decode cX8_init 0 = .ok (.aload_n 0, 1) := by decide +kernel
theorem dX8_init_1 : decode cX8_init 1 = .ok (.invokespecial 3, 3) := by decide +kernel
theorem dX8_init_4 : decode cX8_init 4 = .ok (.aload_n 0, 1) := by decide +kernel
theorem dX8_init_5 : decode cX8_init 5 = .ok (.bipush 6, 2) := by decide +kernel
theorem dX8_init_7 : decode cX8_init 7 = .ok (.newarray .int, 2) := by decide +kernel
theorem dX8_init_9 : decode cX8_init 9 = .ok (.putfield 9, 3) := by decide +kernel
theorem dX8_init_12 : decode cX8_init 12 = .ok (.aload_n 0, 1) := by decide +kernel
theorem dX8_init_13 : decode cX8_init 13 = .ok (.bipush 6, 2) := by decide +kernel
theorem dX8_init_15 : decode cX8_init 15 = .ok (.newarray .int, 2) := by decide +kernel
theorem dX8_init_17 : decode cX8_init 17 = .ok (.putfield 15, 3) := by decide +kernel
theorem dX8_init_20 : decode cX8_init 20 = .ok (.aload_n 0, 1) := by decide +kernel
theorem dX8_init_21 : decode cX8_init 21 = .ok (.bipush 6, 2) := by decide +kernel
theorem dX8_init_23 : decode cX8_init 23 = .ok (.newarray .int, 2) := by decide +kernel
theorem dX8_init_25 : decode cX8_init 25 = .ok (.putfield 18, 3) := by decide +kernel
theorem dX8_init_28 : decode cX8_init 28 = .ok (.return_, 1) := by decide +kernel
theorem dX8_start_0 : decode cX8_start 0 = .ok (.aload_n 0, 1) := by decide +kernel
theorem dX8_start_1 : decode cX8_start 1 = .ok (.iconst 0, 1) := by decide +kernel
theorem dX8_start_2 : decode cX8_start 2 = .ok (.putfield 21, 3) := by decide +kernel
theorem dX8_start_5 : decode cX8_start 5 = .ok (.aload_n 0, 1) := by decide +kernel
theorem dX8_start_6 : decode cX8_start 6 = .ok (.aload_n 1, 1) := by decide +kernel
theorem dX8_start_7 : decode cX8_start 7 = .ok (.iconst 0, 1) := by decide +kernel
theorem dX8_start_8 : decode cX8_start 8 = .ok (.invokevirtual 25, 3) := by decide +kernel
theorem dX8_start_11 : decode cX8_start 11 = .ok (.putfield 31, 3) := by decide +kernel
theorem dX8_start_14 : decode cX8_start 14 = .ok (.aload_n 0, 1) := by decide +kernel
theorem dX8_start_15 : decode cX8_start 15 = .ok (.iconst 0, 1) := by decide +kernel
theorem dX8_start_16 : decode cX8_start 16 = .ok (.putfield 34, 3) := by decide +kernel
theorem dX8_start_19 : decode cX8_start 19 = .ok (.aload_n 0, 1) := by decide +kernel
theorem dX8_start_20 : decode cX8_start 20 = .ok (.iconst 1, 1) := by decide +kernel
theorem dX8_start_21 : decode cX8_start 21 = .ok (.putfield 37, 3) := by decide +kernel
theorem dX8_start_24 : decode cX8_start 24 = .ok (.aload_n 0, 1) := by decide +kernel
theorem dX8_start_25 : decode cX8_start 25 = .ok (.iconst 0, 1) := by decide +kernel
theorem dX8_start_26 : decode cX8_start 26 = .ok (.putfield 41, 3) := by decide +kernel
theorem dX8_start_29 : decode cX8_start 29 = .ok (.aload_n 0, 1) := by decide +kernel
theorem dX8_start_30 : decode cX8_start 30 = .ok (.iconst 0, 1) := by decide +kernel
theorem dX8_start_31 : decode cX8_start 31 = .ok (.putfield 44, 3) := by decide +kernel
theorem dX8_start_34 : decode cX8_start 34 = .ok (.aload_n 0, 1) := by decide +kernel
theorem dX8_start_35 : decode cX8_start 35 = .ok (.iconst 0, 1) := by decide +kernel
theorem dX8_start_36 : decode cX8_start 36 = .ok (.putfield 47, 3) := by decide +kernel
theorem dX8_start_39 : decode cX8_start 39 = .ok (.iconst 0, 1) := by decide +kernel
theorem dX8_start_40 : decode cX8_start 40 = .ok (.istore_n 2, 1) := by decide +kernel
theorem dX8_start_41 : decode cX8_start 41 = .ok (.iload_n 2, 1) := by decide +kernel
theorem dX8_start_42 : decode cX8_start 42 = .ok (.bipush 6, 2) := by decide +kernel
theorem dX8_start_44 : decode cX8_start 44 = .ok (.if_icmp .ge 20, 3) := by decide +kernel
theorem dX8_start_47 : decode cX8_start 47 = .ok (.aload_n 0, 1) := by decide +kernel
theorem dX8_start_48 : decode cX8_start 48 = .ok (.getfield 15, 3) := by decide +kernel
theorem dX8_start_51 : decode cX8_start 51 = .ok (.iload_n 2, 1) := by decide +kernel
theorem dX8_start_52 : decode cX8_start 52 = .ok (.aload_n 1, 1) := by decide +kernel
theorem dX8_start_53 : decode cX8_start 53 = .ok (.iload_n 2, 1) := by decide +kernel
theorem dX8_start_54 : decode cX8_start 54 = .ok (.invokevirtual 50, 3) := by decide +kernel
theorem dX8_start_57 : decode cX8_start 57 = .ok (.iastore, 1) := by decide +kernel
theorem dX8_start_58 : decode cX8_start 58 = .ok (.iinc 2 1, 3) := by decide +kernel
theorem dX8_start_61 : decode cX8_start 61 = .ok (.goto (-20), 3) := by decide +kernel
theorem dX8_start_64 : decode cX8_start 64 = .ok (.return_, 1) := by decide +kernel
theorem dX8_copyFrom_0 : decode cX8_copyFrom 0 = .ok (.aload_n 0, 1) := by decide +kernel
theorem dX8_copyFrom_1 : decode cX8_copyFrom 1 = .ok (.aload_n 1, 1) := by decide +kernel
theorem dX8_copyFrom_2 : decode cX8_copyFrom 2 = .ok (.getfield 21, 3) := by decide +kernel
theorem dX8_copyFrom_5 : decode cX8_copyFrom 5 = .ok (.putfield 21, 3) := by decide +kernel
theorem dX8_copyFrom_8 : decode cX8_copyFrom 8 = .ok (.aload_n 0, 1) := by decide +kernel
theorem dX8_copyFrom_9 : decode cX8_copyFrom 9 = .ok (.aload_n 1, 1) := by decide +kernel
theorem dX8_copyFrom_10 : decode cX8_copyFrom 10 = .ok (.getfield 31, 3) := by decide +kernel
theorem dX8_copyFrom_13 : decode cX8_copyFrom 13 = .ok (.putfield 31, 3) := by decide +kernel
theorem dX8_copyFrom_16 : decode cX8_copyFrom 16 = .ok (.aload_n 0, 1) := by decide +kernel
theorem dX8_copyFrom_17 : decode cX8_copyFrom 17 = .ok (.aload_n 1, 1) := by decide +kernel
theorem dX8_copyFrom_18 : decode cX8_copyFrom 18 = .ok (.getfield 34, 3) := by decide +kernel
theorem dX8_copyFrom_21 : decode cX8_copyFrom 21 = .ok (.putfield 34, 3) := by decide +kernel
theorem dX8_copyFrom_24 : decode cX8_copyFrom 24 = .ok (.aload_n 0, 1) := by decide +kernel
theorem dX8_copyFrom_25 : decode cX8_copyFrom 25 = .ok (.aload_n 1, 1) := by decide +kernel
theorem dX8_copyFrom_26 : decode cX8_copyFrom 26 = .ok (.getfield 37, 3) := by decide +kernel
theorem dX8_copyFrom_29 : decode cX8_copyFrom 29 = .ok (.putfield 37, 3) := by decide +kernel
theorem dX8_copyFrom_32 : decode cX8_copyFrom 32 = .ok (.aload_n 0, 1) := by decide +kernel
theorem dX8_copyFrom_33 : decode cX8_copyFrom 33 = .ok (.aload_n 1, 1) := by decide +kernel
theorem dX8_copyFrom_34 : decode cX8_copyFrom 34 = .ok (.getfield 41, 3) := by decide +kernel
theorem dX8_copyFrom_37 : decode cX8_copyFrom 37 = .ok (.putfield 41, 3) := by decide +kernel
theorem dX8_copyFrom_40 : decode cX8_copyFrom 40 = .ok (.aload_n 0, 1) := by decide +kernel
theorem dX8_copyFrom_41 : decode cX8_copyFrom 41 = .ok (.aload_n 1, 1) := by decide +kernel
theorem dX8_copyFrom_42 : decode cX8_copyFrom 42 = .ok (.getfield 44, 3) := by decide +kernel
theorem dX8_copyFrom_45 : decode cX8_copyFrom 45 = .ok (.putfield 44, 3) := by decide +kernel
theorem dX8_copyFrom_48 : decode cX8_copyFrom 48 = .ok (.aload_n 0, 1) := by decide +kernel
theorem dX8_copyFrom_49 : decode cX8_copyFrom 49 = .ok (.aload_n 1, 1) := by decide +kernel
theorem dX8_copyFrom_50 : decode cX8_copyFrom 50 = .ok (.getfield 47, 3) := by decide +kernel
theorem dX8_copyFrom_53 : decode cX8_copyFrom 53 = .ok (.putfield 47, 3) := by decide +kernel
theorem dX8_copyFrom_56 : decode cX8_copyFrom 56 = .ok (.aload_n 1, 1) := by decide +kernel
theorem dX8_copyFrom_57 : decode cX8_copyFrom 57 = .ok (.getfield 9, 3) := by decide +kernel
theorem dX8_copyFrom_60 : decode cX8_copyFrom 60 = .ok (.iconst 0, 1) := by decide +kernel
theorem dX8_copyFrom_61 : decode cX8_copyFrom 61 = .ok (.aload_n 0, 1) := by decide +kernel
theorem dX8_copyFrom_62 : decode cX8_copyFrom 62 = .ok (.getfield 9, 3) := by decide +kernel
theorem dX8_copyFrom_65 : decode cX8_copyFrom 65 = .ok (.iconst 0, 1) := by decide +kernel
theorem dX8_copyFrom_66 : decode cX8_copyFrom 66 = .ok (.bipush 6, 2) := by decide +kernel
theorem dX8_copyFrom_68 : decode cX8_copyFrom 68 = .ok (.invokestatic 53, 3) := by decide +kernel
theorem dX8_copyFrom_71 : decode cX8_copyFrom 71 = .ok (.aload_n 1, 1) := by decide +kernel
theorem dX8_copyFrom_72 : decode cX8_copyFrom 72 = .ok (.getfield 15, 3) := by decide +kernel
theorem dX8_copyFrom_75 : decode cX8_copyFrom 75 = .ok (.iconst 0, 1) := by decide +kernel
theorem dX8_copyFrom_76 : decode cX8_copyFrom 76 = .ok (.aload_n 0, 1) := by decide +kernel
theorem dX8_copyFrom_77 : decode cX8_copyFrom 77 = .ok (.getfield 15, 3) := by decide +kernel
theorem dX8_copyFrom_80 : decode cX8_copyFrom 80 = .ok (.iconst 0, 1) := by decide +kernel
theorem dX8_copyFrom_81 : decode cX8_copyFrom 81 = .ok (.bipush 6, 2) := by decide +kernel
theorem dX8_copyFrom_83 : decode cX8_copyFrom 83 = .ok (.invokestatic 53, 3) := by decide +kernel
theorem dX8_copyFrom_86 : decode cX8_copyFrom 86 = .ok (.aload_n 1, 1) := by decide +kernel
theorem dX8_copyFrom_87 : decode cX8_copyFrom 87 = .ok (.getfield 18, 3) := by decide +kernel
theorem dX8_copyFrom_90 : decode cX8_copyFrom 90 = .ok (.iconst 0, 1) := by decide +kernel
theorem dX8_copyFrom_91 : decode cX8_copyFrom 91 = .ok (.aload_n 0, 1) := by decide +kernel
theorem dX8_copyFrom_92 : decode cX8_copyFrom 92 = .ok (.getfield 18, 3) := by decide +kernel
theorem dX8_copyFrom_95 : decode cX8_copyFrom 95 = .ok (.iconst 0, 1) := by decide +kernel
theorem dX8_copyFrom_96 : decode cX8_copyFrom 96 = .ok (.bipush 6, 2) := by decide +kernel
theorem dX8_copyFrom_98 : decode cX8_copyFrom 98 = .ok (.invokestatic 53, 3) := by decide +kernel
theorem dX8_copyFrom_101 : decode cX8_copyFrom 101 = .ok (.return_, 1) := by decide +kernel
theorem dX8_leftOf_0 : decode cX8_leftOf 0 = .ok (.iload_n 1, 1) := by decide +kernel
theorem dX8_leftOf_1 : decode cX8_leftOf 1 = .ok (.ifCond .lt 18, 3) := by decide +kernel
theorem dX8_leftOf_4 : decode cX8_leftOf 4 = .ok (.iload_n 1, 1) := by decide +kernel
theorem dX8_leftOf_5 : decode cX8_leftOf 5 = .ok (.bipush 6, 2) := by decide +kernel
theorem dX8_leftOf_7 : decode cX8_leftOf 7 = .ok (.if_icmp .ge 12, 3) := by decide +kernel
theorem dX8_leftOf_10 : decode cX8_leftOf 10 = .ok (.aload_n 0, 1) := by decide +kernel
theorem dX8_leftOf_11 : decode cX8_leftOf 11 = .ok (.getfield 15, 3) := by decide +kernel
theorem dX8_leftOf_14 : decode cX8_leftOf 14 = .ok (.iload_n 1, 1) := by decide +kernel
theorem dX8_leftOf_15 : decode cX8_leftOf 15 = .ok (.iaload, 1) := by decide +kernel
theorem dX8_leftOf_16 : decode cX8_leftOf 16 = .ok (.goto 4, 3) := by decide +kernel
theorem dX8_leftOf_19 : decode cX8_leftOf 19 = .ok (.iconst 0, 1) := by decide +kernel
theorem dX8_leftOf_20 : decode cX8_leftOf 20 = .ok (.ireturn, 1) := by decide +kernel
theorem dX8_lastNightOf_0 : decode cX8_lastNightOf 0 = .ok (.iload_n 1, 1) := by decide +kernel
theorem dX8_lastNightOf_1 : decode cX8_lastNightOf 1 = .ok (.ifCond .lt 18, 3) := by decide +kernel
theorem dX8_lastNightOf_4 : decode cX8_lastNightOf 4 = .ok (.iload_n 1, 1) := by decide +kernel
theorem dX8_lastNightOf_5 : decode cX8_lastNightOf 5 = .ok (.bipush 6, 2) := by decide +kernel
theorem dX8_lastNightOf_7 : decode cX8_lastNightOf 7 = .ok (.if_icmp .ge 12, 3) := by decide +kernel
theorem dX8_lastNightOf_10 : decode cX8_lastNightOf 10 = .ok (.aload_n 0, 1) := by decide +kernel
theorem dX8_lastNightOf_11 : decode cX8_lastNightOf 11 = .ok (.getfield 18, 3) := by decide +kernel
theorem dX8_lastNightOf_14 : decode cX8_lastNightOf 14 = .ok (.iload_n 1, 1) := by decide +kernel
theorem dX8_lastNightOf_15 : decode cX8_lastNightOf 15 = .ok (.iaload, 1) := by decide +kernel
theorem dX8_lastNightOf_16 : decode cX8_lastNightOf 16 = .ok (.goto 4, 3) := by decide +kernel
theorem dX8_lastNightOf_19 : decode cX8_lastNightOf 19 = .ok (.iconst 0, 1) := by decide +kernel
theorem dX8_lastNightOf_20 : decode cX8_lastNightOf 20 = .ok (.ireturn, 1) := by decide +kernel
theorem dX8_isBegun_0 : decode cX8_isBegun 0 = .ok (.aload_n 0, 1) := by decide +kernel
theorem dX8_isBegun_1 : decode cX8_isBegun 1 = .ok (.getfield 41, 3) := by decide +kernel
theorem dX8_isBegun_4 : decode cX8_isBegun 4 = .ok (.iload_n 1, 1) := by decide +kernel
theorem dX8_isBegun_5 : decode cX8_isBegun 5 = .ok (.ishr, 1) := by decide +kernel
theorem dX8_isBegun_6 : decode cX8_isBegun 6 = .ok (.iconst 1, 1) := by decide +kernel
theorem dX8_isBegun_7 : decode cX8_isBegun 7 = .ok (.iand, 1) := by decide +kernel
theorem dX8_isBegun_8 : decode cX8_isBegun 8 = .ok (.iconst 1, 1) := by decide +kernel
theorem dX8_isBegun_9 : decode cX8_isBegun 9 = .ok (.if_icmp .ne 7, 3) := by decide +kernel
theorem dX8_isBegun_12 : decode cX8_isBegun 12 = .ok (.iconst 1, 1) := by decide +kernel
theorem dX8_isBegun_13 : decode cX8_isBegun 13 = .ok (.goto 4, 3) := by decide +kernel
theorem dX8_isBegun_16 : decode cX8_isBegun 16 = .ok (.iconst 0, 1) := by decide +kernel
theorem dX8_isBegun_17 : decode cX8_isBegun 17 = .ok (.ireturn, 1) := by decide +kernel
theorem dX8_openAt_0 : decode cX8_openAt 0 = .ok (.iload_n 1, 1) := by decide +kernel
theorem dX8_openAt_1 : decode cX8_openAt 1 = .ok (.ifCond .lt 26, 3) := by decide +kernel
theorem dX8_openAt_4 : decode cX8_openAt 4 = .ok (.iload_n 1, 1) := by decide +kernel
theorem dX8_openAt_5 : decode cX8_openAt 5 = .ok (.aload_n 0, 1) := by decide +kernel
theorem dX8_openAt_6 : decode cX8_openAt 6 = .ok (.getfield 47, 3) := by decide +kernel
theorem dX8_openAt_9 : decode cX8_openAt 9 = .ok (.if_icmp .ge 18, 3) := by decide +kernel
theorem dX8_openAt_12 : decode cX8_openAt 12 = .ok (.iload_n 1, 1) := by decide +kernel
theorem dX8_openAt_13 : decode cX8_openAt 13 = .ok (.bipush 6, 2) := by decide +kernel
theorem dX8_openAt_15 : decode cX8_openAt 15 = .ok (.if_icmp .ge 12, 3) := by decide +kernel
theorem dX8_openAt_18 : decode cX8_openAt 18 = .ok (.aload_n 0, 1) := by decide +kernel
theorem dX8_openAt_19 : decode cX8_openAt 19 = .ok (.getfield 9, 3) := by decide +kernel
theorem dX8_openAt_22 : decode cX8_openAt 22 = .ok (.iload_n 1, 1) := by decide +kernel
theorem dX8_openAt_23 : decode cX8_openAt 23 = .ok (.iaload, 1) := by decide +kernel
theorem dX8_openAt_24 : decode cX8_openAt 24 = .ok (.goto 5, 3) := by decide +kernel
theorem dX8_openAt_27 : decode cX8_openAt 27 = .ok (.bipush (-9), 2) := by decide +kernel
theorem dX8_openAt_29 : decode cX8_openAt 29 = .ok (.ireturn, 1) := by decide +kernel
theorem dX8_innermost_0 : decode cX8_innermost 0 = .ok (.aload_n 0, 1) := by decide +kernel
theorem dX8_innermost_1 : decode cX8_innermost 1 = .ok (.getfield 47, 3) := by decide +kernel
theorem dX8_innermost_4 : decode cX8_innermost 4 = .ok (.ifCond .le 26, 3) := by decide +kernel
theorem dX8_innermost_7 : decode cX8_innermost 7 = .ok (.aload_n 0, 1) := by decide +kernel
theorem dX8_innermost_8 : decode cX8_innermost 8 = .ok (.getfield 47, 3) := by decide +kernel
theorem dX8_innermost_11 : decode cX8_innermost 11 = .ok (.bipush 6, 2) := by decide +kernel
theorem dX8_innermost_13 : decode cX8_innermost 13 = .ok (.if_icmp .gt 17, 3) := by decide +kernel
theorem dX8_innermost_16 : decode cX8_innermost 16 = .ok (.aload_n 0, 1) := by decide +kernel
theorem dX8_innermost_17 : decode cX8_innermost 17 = .ok (.getfield 9, 3) := by decide +kernel
theorem dX8_innermost_20 : decode cX8_innermost 20 = .ok (.aload_n 0, 1) := by decide +kernel
theorem dX8_innermost_21 : decode cX8_innermost 21 = .ok (.getfield 47, 3) := by decide +kernel
theorem dX8_innermost_24 : decode cX8_innermost 24 = .ok (.iconst 1, 1) := by decide +kernel
theorem dX8_innermost_25 : decode cX8_innermost 25 = .ok (.isub, 1) := by decide +kernel
theorem dX8_innermost_26 : decode cX8_innermost 26 = .ok (.iaload, 1) := by decide +kernel
theorem dX8_innermost_27 : decode cX8_innermost 27 = .ok (.goto 5, 3) := by decide +kernel
theorem dX8_innermost_30 : decode cX8_innermost 30 = .ok (.bipush (-9), 2) := by decide +kernel
theorem dX8_innermost_32 : decode cX8_innermost 32 = .ok (.ireturn, 1) := by decide +kernel
theorem dX8_placeOf_0 : decode cX8_placeOf 0 = .ok (.iconst 0, 1) := by decide +kernel
theorem dX8_placeOf_1 : decode cX8_placeOf 1 = .ok (.istore_n 2, 1) := by decide +kernel
theorem dX8_placeOf_2 : decode cX8_placeOf 2 = .ok (.iload_n 2, 1) := by decide +kernel
theorem dX8_placeOf_3 : decode cX8_placeOf 3 = .ok (.aload_n 0, 1) := by decide +kernel
theorem dX8_placeOf_4 : decode cX8_placeOf 4 = .ok (.getfield 47, 3) := by decide +kernel
theorem dX8_placeOf_7 : decode cX8_placeOf 7 = .ok (.if_icmp .ge 20, 3) := by decide +kernel
theorem dX8_placeOf_10 : decode cX8_placeOf 10 = .ok (.aload_n 0, 1) := by decide +kernel
theorem dX8_placeOf_11 : decode cX8_placeOf 11 = .ok (.iload_n 2, 1) := by decide +kernel
theorem dX8_placeOf_12 : decode cX8_placeOf 12 = .ok (.invokevirtual 59, 3) := by decide +kernel
theorem dX8_placeOf_15 : decode cX8_placeOf 15 = .ok (.iload_n 1, 1) := by decide +kernel
theorem dX8_placeOf_16 : decode cX8_placeOf 16 = .ok (.if_icmp .ne 5, 3) := by decide +kernel
theorem dX8_placeOf_19 : decode cX8_placeOf 19 = .ok (.iload_n 2, 1) := by decide +kernel
theorem dX8_placeOf_20 : decode cX8_placeOf 20 = .ok (.ireturn, 1) := by decide +kernel
theorem dX8_placeOf_21 : decode cX8_placeOf 21 = .ok (.iinc 2 1, 3) := by decide +kernel
theorem dX8_placeOf_24 : decode cX8_placeOf 24 = .ok (.goto (-22), 3) := by decide +kernel
theorem dX8_placeOf_27 : decode cX8_placeOf 27 = .ok (.bipush (-9), 2) := by decide +kernel
theorem dX8_placeOf_29 : decode cX8_placeOf 29 = .ok (.ireturn, 1) := by decide +kernel
theorem dX8_endedBits_0 : decode cX8_endedBits 0 = .ok (.iconst 0, 1) := by decide +kernel
theorem dX8_endedBits_1 : decode cX8_endedBits 1 = .ok (.istore_n 1, 1) := by decide +kernel
theorem dX8_endedBits_2 : decode cX8_endedBits 2 = .ok (.iconst 0, 1) := by decide +kernel
theorem dX8_endedBits_3 : decode cX8_endedBits 3 = .ok (.istore_n 2, 1) := by decide +kernel
theorem dX8_endedBits_4 : decode cX8_endedBits 4 = .ok (.iload_n 2, 1) := by decide +kernel
theorem dX8_endedBits_5 : decode cX8_endedBits 5 = .ok (.bipush 6, 2) := by decide +kernel
theorem dX8_endedBits_7 : decode cX8_endedBits 7 = .ok (.if_icmp .ge 36, 3) := by decide +kernel
theorem dX8_endedBits_10 : decode cX8_endedBits 10 = .ok (.iload_n 1, 1) := by decide +kernel
theorem dX8_endedBits_11 : decode cX8_endedBits 11 = .ok (.aload_n 0, 1) := by decide +kernel
theorem dX8_endedBits_12 : decode cX8_endedBits 12 = .ok (.iload_n 2, 1) := by decide +kernel
theorem dX8_endedBits_13 : decode cX8_endedBits 13 = .ok (.invokevirtual 62, 3) := by decide +kernel
theorem dX8_endedBits_16 : decode cX8_endedBits 16 = .ok (.ifCond .eq 18, 3) := by decide +kernel
theorem dX8_endedBits_19 : decode cX8_endedBits 19 = .ok (.aload_n 0, 1) := by decide +kernel
theorem dX8_endedBits_20 : decode cX8_endedBits 20 = .ok (.getfield 15, 3) := by decide +kernel
theorem dX8_endedBits_23 : decode cX8_endedBits 23 = .ok (.iload_n 2, 1) := by decide +kernel
theorem dX8_endedBits_24 : decode cX8_endedBits 24 = .ok (.iaload, 1) := by decide +kernel
theorem dX8_endedBits_25 : decode cX8_endedBits 25 = .ok (.ifCond .ne 9, 3) := by decide +kernel
theorem dX8_endedBits_28 : decode cX8_endedBits 28 = .ok (.iconst 1, 1) := by decide +kernel
theorem dX8_endedBits_29 : decode cX8_endedBits 29 = .ok (.iload_n 2, 1) := by decide +kernel
theorem dX8_endedBits_30 : decode cX8_endedBits 30 = .ok (.ishl, 1) := by decide +kernel
theorem dX8_endedBits_31 : decode cX8_endedBits 31 = .ok (.goto 4, 3) := by decide +kernel
theorem dX8_endedBits_34 : decode cX8_endedBits 34 = .ok (.iconst 0, 1) := by decide +kernel
theorem dX8_endedBits_35 : decode cX8_endedBits 35 = .ok (.ior, 1) := by decide +kernel
theorem dX8_endedBits_36 : decode cX8_endedBits 36 = .ok (.istore_n 1, 1) := by decide +kernel
theorem dX8_endedBits_37 : decode cX8_endedBits 37 = .ok (.iinc 2 1, 3) := by decide +kernel
theorem dX8_endedBits_40 : decode cX8_endedBits 40 = .ok (.goto (-36), 3) := by decide +kernel
theorem dX8_endedBits_43 : decode cX8_endedBits 43 = .ok (.iload_n 1, 1) := by decide +kernel
theorem dX8_endedBits_44 : decode cX8_endedBits 44 = .ok (.ireturn, 1) := by decide +kernel
theorem dX8_mayBeginBits_0 : decode cX8_mayBeginBits 0 = .ok (.iconst 0, 1) := by decide +kernel
theorem dX8_mayBeginBits_1 : decode cX8_mayBeginBits 1 = .ok (.istore_n 2, 1) := by decide +kernel
theorem dX8_mayBeginBits_2 : decode cX8_mayBeginBits 2 = .ok (.iconst 0, 1) := by decide +kernel
theorem dX8_mayBeginBits_3 : decode cX8_mayBeginBits 3 = .ok (.istore_n 3, 1) := by decide +kernel
theorem dX8_mayBeginBits_4 : decode cX8_mayBeginBits 4 = .ok (.iload_n 3, 1) := by decide +kernel
theorem dX8_mayBeginBits_5 : decode cX8_mayBeginBits 5 = .ok (.aload_n 1, 1) := by decide +kernel
theorem dX8_mayBeginBits_6 : decode cX8_mayBeginBits 6 = .ok (.getfield 66, 3) := by decide +kernel
theorem dX8_mayBeginBits_9 : decode cX8_mayBeginBits 9 = .ok (.if_icmp .ge 28, 3) := by decide +kernel
theorem dX8_mayBeginBits_12 : decode cX8_mayBeginBits 12 = .ok (.iload_n 2, 1) := by decide +kernel
theorem dX8_mayBeginBits_13 : decode cX8_mayBeginBits 13 = .ok (.aload_n 0, 1) := by decide +kernel
theorem dX8_mayBeginBits_14 : decode cX8_mayBeginBits 14 = .ok (.aload_n 1, 1) := by decide +kernel
theorem dX8_mayBeginBits_15 : decode cX8_mayBeginBits 15 = .ok (.iload_n 3, 1) := by decide +kernel
theorem dX8_mayBeginBits_16 : decode cX8_mayBeginBits 16 = .ok (.invokevirtual 69, 3) := by decide +kernel
theorem dX8_mayBeginBits_19 : decode cX8_mayBeginBits 19 = .ok (.ifCond .eq 9, 3) := by decide +kernel
theorem dX8_mayBeginBits_22 : decode cX8_mayBeginBits 22 = .ok (.iconst 1, 1) := by decide +kernel
theorem dX8_mayBeginBits_23 : decode cX8_mayBeginBits 23 = .ok (.iload_n 3, 1) := by decide +kernel
theorem dX8_mayBeginBits_24 : decode cX8_mayBeginBits 24 = .ok (.ishl, 1) := by decide +kernel
theorem dX8_mayBeginBits_25 : decode cX8_mayBeginBits 25 = .ok (.goto 4, 3) := by decide +kernel
theorem dX8_mayBeginBits_28 : decode cX8_mayBeginBits 28 = .ok (.iconst 0, 1) := by decide +kernel
theorem dX8_mayBeginBits_29 : decode cX8_mayBeginBits 29 = .ok (.ior, 1) := by decide +kernel
theorem dX8_mayBeginBits_30 : decode cX8_mayBeginBits 30 = .ok (.istore_n 2, 1) := by decide +kernel
theorem dX8_mayBeginBits_31 : decode cX8_mayBeginBits 31 = .ok (.iinc 3 1, 3) := by decide +kernel
theorem dX8_mayBeginBits_34 : decode cX8_mayBeginBits 34 = .ok (.goto (-30), 3) := by decide +kernel
theorem dX8_mayBeginBits_37 : decode cX8_mayBeginBits 37 = .ok (.iload_n 2, 1) := by decide +kernel
theorem dX8_mayBeginBits_38 : decode cX8_mayBeginBits 38 = .ok (.ireturn, 1) := by decide +kernel
theorem dX8_bitOf_0 : decode cX8_bitOf 0 = .ok (.iload_n 0, 1) := by decide +kernel
theorem dX8_bitOf_1 : decode cX8_bitOf 1 = .ok (.ifCond .lt 15, 3) := by decide +kernel
theorem dX8_bitOf_4 : decode cX8_bitOf 4 = .ok (.iload_n 0, 1) := by decide +kernel
theorem dX8_bitOf_5 : decode cX8_bitOf 5 = .ok (.bipush 6, 2) := by decide +kernel
theorem dX8_bitOf_7 : decode cX8_bitOf 7 = .ok (.if_icmp .ge 9, 3) := by decide +kernel
theorem dX8_bitOf_10 : decode cX8_bitOf 10 = .ok (.iconst 1, 1) := by decide +kernel
theorem dX8_bitOf_11 : decode cX8_bitOf 11 = .ok (.iload_n 0, 1) := by decide +kernel
theorem dX8_bitOf_12 : decode cX8_bitOf 12 = .ok (.ishl, 1) := by decide +kernel
theorem dX8_bitOf_13 : decode cX8_bitOf 13 = .ok (.goto 4, 3) := by decide +kernel
theorem dX8_bitOf_16 : decode cX8_bitOf 16 = .ok (.iconst 0, 1) := by decide +kernel
theorem dX8_bitOf_17 : decode cX8_bitOf 17 = .ok (.ireturn, 1) := by decide +kernel
theorem dX8_hasHour_0 : decode cX8_hasHour 0 = .ok (.aload_n 0, 1) := by decide +kernel
theorem dX8_hasHour_1 : decode cX8_hasHour 1 = .ok (.getfield 37, 3) := by decide +kernel
theorem dX8_hasHour_4 : decode cX8_hasHour 4 = .ok (.ifCond .eq 14, 3) := by decide +kernel
theorem dX8_hasHour_7 : decode cX8_hasHour 7 = .ok (.aload_n 0, 1) := by decide +kernel
theorem dX8_hasHour_8 : decode cX8_hasHour 8 = .ok (.getfield 31, 3) := by decide +kernel
theorem dX8_hasHour_11 : decode cX8_hasHour 11 = .ok (.ifCond .le 7, 3) := by decide +kernel
theorem dX8_hasHour_14 : decode cX8_hasHour 14 = .ok (.iconst 1, 1) := by decide +kernel
theorem dX8_hasHour_15 : decode cX8_hasHour 15 = .ok (.goto 4, 3) := by decide +kernel
theorem dX8_hasHour_18 : decode cX8_hasHour 18 = .ok (.iconst 0, 1) := by decide +kernel
theorem dX8_hasHour_19 : decode cX8_hasHour 19 = .ok (.ireturn, 1) := by decide +kernel
theorem dX8_mayBegin_0 : decode cX8_mayBegin 0 = .ok (.aload_n 0, 1) := by decide +kernel
theorem dX8_mayBegin_1 : decode cX8_mayBegin 1 = .ok (.invokevirtual 73, 3) := by decide +kernel
theorem dX8_mayBegin_4 : decode cX8_mayBegin 4 = .ok (.ifCond .eq 30, 3) := by decide +kernel
theorem dX8_mayBegin_7 : decode cX8_mayBegin 7 = .ok (.aload_n 1, 1) := by decide +kernel
theorem dX8_mayBegin_8 : decode cX8_mayBegin 8 = .ok (.iload_n 2, 1) := by decide +kernel
theorem dX8_mayBegin_9 : decode cX8_mayBegin 9 = .ok (.invokevirtual 77, 3) := by decide +kernel
theorem dX8_mayBegin_12 : decode cX8_mayBegin 12 = .ok (.ifCond .eq 22, 3) := by decide +kernel
theorem dX8_mayBegin_15 : decode cX8_mayBegin 15 = .ok (.aload_n 0, 1) := by decide +kernel
theorem dX8_mayBegin_16 : decode cX8_mayBegin 16 = .ok (.iload_n 2, 1) := by decide +kernel
theorem dX8_mayBegin_17 : decode cX8_mayBegin 17 = .ok (.invokevirtual 62, 3) := by decide +kernel
theorem dX8_mayBegin_20 : decode cX8_mayBegin 20 = .ok (.ifCond .ne 14, 3) := by decide +kernel
theorem dX8_mayBegin_23 : decode cX8_mayBegin 23 = .ok (.aload_n 0, 1) := by decide +kernel
theorem dX8_mayBegin_24 : decode cX8_mayBegin 24 = .ok (.getfield 47, 3) := by decide +kernel
theorem dX8_mayBegin_27 : decode cX8_mayBegin 27 = .ok (.aload_n 1, 1) := by decide +kernel
theorem dX8_mayBegin_28 : decode cX8_mayBegin 28 = .ok (.getfield 80, 3) := by decide +kernel
theorem dX8_mayBegin_31 : decode cX8_mayBegin 31 = .ok (.if_icmp .lt 5, 3) := by decide +kernel
theorem dX8_mayBegin_34 : decode cX8_mayBegin 34 = .ok (.iconst 0, 1) := by decide +kernel
theorem dX8_mayBegin_35 : decode cX8_mayBegin 35 = .ok (.ireturn, 1) := by decide +kernel
theorem dX8_mayBegin_36 : decode cX8_mayBegin 36 = .ok (.aload_n 1, 1) := by decide +kernel
theorem dX8_mayBegin_37 : decode cX8_mayBegin 37 = .ok (.getfield 83, 3) := by decide +kernel
theorem dX8_mayBegin_40 : decode cX8_mayBegin 40 = .ok (.iload_n 2, 1) := by decide +kernel
theorem dX8_mayBegin_41 : decode cX8_mayBegin 41 = .ok (.iaload, 1) := by decide +kernel
theorem dX8_mayBegin_42 : decode cX8_mayBegin 42 = .ok (.istore_n 3, 1) := by decide +kernel
theorem dX8_mayBegin_43 : decode cX8_mayBegin 43 = .ok (.iload_n 3, 1) := by decide +kernel
theorem dX8_mayBegin_44 : decode cX8_mayBegin 44 = .ok (.bipush 9, 2) := by decide +kernel
theorem dX8_mayBegin_46 : decode cX8_mayBegin 46 = .ok (.if_icmp .eq 11, 3) := by decide +kernel
theorem dX8_mayBegin_49 : decode cX8_mayBegin 49 = .ok (.iload_n 3, 1) := by decide +kernel
theorem dX8_mayBegin_50 : decode cX8_mayBegin 50 = .ok (.aload_n 0, 1) := by decide +kernel
theorem dX8_mayBegin_51 : decode cX8_mayBegin 51 = .ok (.invokevirtual 86, 3) := by decide +kernel
theorem dX8_mayBegin_54 : decode cX8_mayBegin 54 = .ok (.if_icmp .ne 7, 3) := by decide +kernel
theorem dX8_mayBegin_57 : decode cX8_mayBegin 57 = .ok (.iconst 1, 1) := by decide +kernel
theorem dX8_mayBegin_58 : decode cX8_mayBegin 58 = .ok (.goto 4, 3) := by decide +kernel
theorem dX8_mayBegin_61 : decode cX8_mayBegin 61 = .ok (.iconst 0, 1) := by decide +kernel
theorem dX8_mayBegin_62 : decode cX8_mayBegin 62 = .ok (.ireturn, 1) := by decide +kernel
theorem dX8_mayDawn_0 : decode cX8_mayDawn 0 = .ok (.aload_n 0, 1) := by decide +kernel
theorem dX8_mayDawn_1 : decode cX8_mayDawn 1 = .ok (.getfield 37, 3) := by decide +kernel
theorem dX8_mayDawn_4 : decode cX8_mayDawn 4 = .ok (.ifCond .eq 23, 3) := by decide +kernel
theorem dX8_mayDawn_7 : decode cX8_mayDawn 7 = .ok (.aload_n 0, 1) := by decide +kernel
theorem dX8_mayDawn_8 : decode cX8_mayDawn 8 = .ok (.getfield 31, 3) := by decide +kernel
theorem dX8_mayDawn_11 : decode cX8_mayDawn 11 = .ok (.ifCond .gt 16, 3) := by decide +kernel
theorem dX8_mayDawn_14 : decode cX8_mayDawn 14 = .ok (.aload_n 0, 1) := by decide +kernel
theorem dX8_mayDawn_15 : decode cX8_mayDawn 15 = .ok (.getfield 21, 3) := by decide +kernel
theorem dX8_mayDawn_18 : decode cX8_mayDawn 18 = .ok (.bipush 99, 2) := by decide +kernel
theorem dX8_mayDawn_20 : decode cX8_mayDawn 20 = .ok (.if_icmp .ge 7, 3) := by decide +kernel
theorem dX8_mayDawn_23 : decode cX8_mayDawn 23 = .ok (.iconst 1, 1) := by decide +kernel
theorem dX8_mayDawn_24 : decode cX8_mayDawn 24 = .ok (.goto 4, 3) := by decide +kernel
theorem dX8_mayDawn_27 : decode cX8_mayDawn 27 = .ok (.iconst 0, 1) := by decide +kernel
theorem dX8_mayDawn_28 : decode cX8_mayDawn 28 = .ok (.ireturn, 1) := by decide +kernel
theorem dX8_beginTale_0 : decode cX8_beginTale 0 = .ok (.iload_n 1, 1) := by decide +kernel
theorem dX8_beginTale_1 : decode cX8_beginTale 1 = .ok (.ifCond .lt 75, 3) := by decide +kernel
theorem dX8_beginTale_4 : decode cX8_beginTale 4 = .ok (.iload_n 1, 1) := by decide +kernel
theorem dX8_beginTale_5 : decode cX8_beginTale 5 = .ok (.bipush 6, 2) := by decide +kernel
theorem dX8_beginTale_7 : decode cX8_beginTale 7 = .ok (.if_icmp .ge 69, 3) := by decide +kernel
theorem dX8_beginTale_10 : decode cX8_beginTale 10 = .ok (.aload_n 0, 1) := by decide +kernel
theorem dX8_beginTale_11 : decode cX8_beginTale 11 = .ok (.getfield 47, 3) := by decide +kernel
theorem dX8_beginTale_14 : decode cX8_beginTale 14 = .ok (.ifCond .lt 62, 3) := by decide +kernel
theorem dX8_beginTale_17 : decode cX8_beginTale 17 = .ok (.aload_n 0, 1) := by decide +kernel
theorem dX8_beginTale_18 : decode cX8_beginTale 18 = .ok (.getfield 47, 3) := by decide +kernel
theorem dX8_beginTale_21 : decode cX8_beginTale 21 = .ok (.bipush 6, 2) := by decide +kernel
theorem dX8_beginTale_23 : decode cX8_beginTale 23 = .ok (.if_icmp .ge 53, 3) := by decide +kernel
theorem dX8_beginTale_26 : decode cX8_beginTale 26 = .ok (.aload_n 0, 1) := by decide +kernel
theorem dX8_beginTale_27 : decode cX8_beginTale 27 = .ok (.dup, 1) := by decide +kernel
theorem dX8_beginTale_28 : decode cX8_beginTale 28 = .ok (.getfield 41, 3) := by decide +kernel
theorem dX8_beginTale_31 : decode cX8_beginTale 31 = .ok (.iconst 1, 1) := by decide +kernel
theorem dX8_beginTale_32 : decode cX8_beginTale 32 = .ok (.iload_n 1, 1) := by decide +kernel
theorem dX8_beginTale_33 : decode cX8_beginTale 33 = .ok (.ishl, 1) := by decide +kernel
theorem dX8_beginTale_34 : decode cX8_beginTale 34 = .ok (.ior, 1) := by decide +kernel
theorem dX8_beginTale_35 : decode cX8_beginTale 35 = .ok (.putfield 41, 3) := by decide +kernel
theorem dX8_beginTale_38 : decode cX8_beginTale 38 = .ok (.aload_n 0, 1) := by decide +kernel
theorem dX8_beginTale_39 : decode cX8_beginTale 39 = .ok (.dup, 1) := by decide +kernel
theorem dX8_beginTale_40 : decode cX8_beginTale 40 = .ok (.getfield 44, 3) := by decide +kernel
theorem dX8_beginTale_43 : decode cX8_beginTale 43 = .ok (.iconst 1, 1) := by decide +kernel
theorem dX8_beginTale_44 : decode cX8_beginTale 44 = .ok (.iload_n 1, 1) := by decide +kernel
theorem dX8_beginTale_45 : decode cX8_beginTale 45 = .ok (.ishl, 1) := by decide +kernel
theorem dX8_beginTale_46 : decode cX8_beginTale 46 = .ok (.ior, 1) := by decide +kernel
theorem dX8_beginTale_47 : decode cX8_beginTale 47 = .ok (.putfield 44, 3) := by decide +kernel
theorem dX8_beginTale_50 : decode cX8_beginTale 50 = .ok (.aload_n 0, 1) := by decide +kernel
theorem dX8_beginTale_51 : decode cX8_beginTale 51 = .ok (.getfield 9, 3) := by decide +kernel
theorem dX8_beginTale_54 : decode cX8_beginTale 54 = .ok (.aload_n 0, 1) := by decide +kernel
theorem dX8_beginTale_55 : decode cX8_beginTale 55 = .ok (.getfield 47, 3) := by decide +kernel
theorem dX8_beginTale_58 : decode cX8_beginTale 58 = .ok (.iload_n 1, 1) := by decide +kernel
theorem dX8_beginTale_59 : decode cX8_beginTale 59 = .ok (.iastore, 1) := by decide +kernel
theorem dX8_beginTale_60 : decode cX8_beginTale 60 = .ok (.aload_n 0, 1) := by decide +kernel
theorem dX8_beginTale_61 : decode cX8_beginTale 61 = .ok (.dup, 1) := by decide +kernel
theorem dX8_beginTale_62 : decode cX8_beginTale 62 = .ok (.getfield 47, 3) := by decide +kernel
theorem dX8_beginTale_65 : decode cX8_beginTale 65 = .ok (.iconst 1, 1) := by decide +kernel
theorem dX8_beginTale_66 : decode cX8_beginTale 66 = .ok (.iadd, 1) := by decide +kernel
theorem dX8_beginTale_67 : decode cX8_beginTale 67 = .ok (.putfield 47, 3) := by decide +kernel
theorem dX8_beginTale_70 : decode cX8_beginTale 70 = .ok (.aload_n 0, 1) := by decide +kernel
theorem dX8_beginTale_71 : decode cX8_beginTale 71 = .ok (.iload_n 1, 1) := by decide +kernel
theorem dX8_beginTale_72 : decode cX8_beginTale 72 = .ok (.iconst 1, 1) := by decide +kernel
theorem dX8_beginTale_73 : decode cX8_beginTale 73 = .ok (.invokevirtual 90, 3) := by decide +kernel
theorem dX8_beginTale_76 : decode cX8_beginTale 76 = .ok (.return_, 1) := by decide +kernel
theorem dX8_tellParts_0 : decode cX8_tellParts 0 = .ok (.iload_n 1, 1) := by decide +kernel
theorem dX8_tellParts_1 : decode cX8_tellParts 1 = .ok (.ifCond .lt 72, 3) := by decide +kernel
theorem dX8_tellParts_4 : decode cX8_tellParts 4 = .ok (.iload_n 1, 1) := by decide +kernel
theorem dX8_tellParts_5 : decode cX8_tellParts 5 = .ok (.bipush 6, 2) := by decide +kernel
theorem dX8_tellParts_7 : decode cX8_tellParts 7 = .ok (.if_icmp .ge 66, 3) := by decide +kernel
theorem dX8_tellParts_10 : decode cX8_tellParts 10 = .ok (.aload_n 0, 1) := by decide +kernel
theorem dX8_tellParts_11 : decode cX8_tellParts 11 = .ok (.getfield 15, 3) := by decide +kernel
theorem dX8_tellParts_14 : decode cX8_tellParts 14 = .ok (.iload_n 1, 1) := by decide +kernel
theorem dX8_tellParts_15 : decode cX8_tellParts 15 = .ok (.dup2, 1) := by decide +kernel
theorem dX8_tellParts_16 : decode cX8_tellParts 16 = .ok (.iaload, 1) := by decide +kernel
theorem dX8_tellParts_17 : decode cX8_tellParts 17 = .ok (.iload_n 2, 1) := by decide +kernel
theorem dX8_tellParts_18 : decode cX8_tellParts 18 = .ok (.isub, 1) := by decide +kernel
theorem dX8_tellParts_19 : decode cX8_tellParts 19 = .ok (.iastore, 1) := by decide +kernel
theorem dX8_tellParts_20 : decode cX8_tellParts 20 = .ok (.aload_n 0, 1) := by decide +kernel
theorem dX8_tellParts_21 : decode cX8_tellParts 21 = .ok (.getfield 18, 3) := by decide +kernel
theorem dX8_tellParts_24 : decode cX8_tellParts 24 = .ok (.iload_n 1, 1) := by decide +kernel
theorem dX8_tellParts_25 : decode cX8_tellParts 25 = .ok (.aload_n 0, 1) := by decide +kernel
theorem dX8_tellParts_26 : decode cX8_tellParts 26 = .ok (.getfield 21, 3) := by decide +kernel
theorem dX8_tellParts_29 : decode cX8_tellParts 29 = .ok (.iastore, 1) := by decide +kernel
theorem dX8_tellParts_30 : decode cX8_tellParts 30 = .ok (.aload_n 0, 1) := by decide +kernel
theorem dX8_tellParts_31 : decode cX8_tellParts 31 = .ok (.dup, 1) := by decide +kernel
theorem dX8_tellParts_32 : decode cX8_tellParts 32 = .ok (.getfield 31, 3) := by decide +kernel
theorem dX8_tellParts_35 : decode cX8_tellParts 35 = .ok (.iload_n 2, 1) := by decide +kernel
theorem dX8_tellParts_36 : decode cX8_tellParts 36 = .ok (.isub, 1) := by decide +kernel
theorem dX8_tellParts_37 : decode cX8_tellParts 37 = .ok (.putfield 31, 3) := by decide +kernel
theorem dX8_tellParts_40 : decode cX8_tellParts 40 = .ok (.aload_n 0, 1) := by decide +kernel
theorem dX8_tellParts_41 : decode cX8_tellParts 41 = .ok (.getfield 15, 3) := by decide +kernel
theorem dX8_tellParts_44 : decode cX8_tellParts 44 = .ok (.iload_n 1, 1) := by decide +kernel
theorem dX8_tellParts_45 : decode cX8_tellParts 45 = .ok (.iaload, 1) := by decide +kernel
theorem dX8_tellParts_46 : decode cX8_tellParts 46 = .ok (.ifCond .gt 27, 3) := by decide +kernel
theorem dX8_tellParts_49 : decode cX8_tellParts 49 = .ok (.aload_n 0, 1) := by decide +kernel
theorem dX8_tellParts_50 : decode cX8_tellParts 50 = .ok (.dup, 1) := by decide +kernel
theorem dX8_tellParts_51 : decode cX8_tellParts 51 = .ok (.getfield 44, 3) := by decide +kernel
theorem dX8_tellParts_54 : decode cX8_tellParts 54 = .ok (.iconst 1, 1) := by decide +kernel
theorem dX8_tellParts_55 : decode cX8_tellParts 55 = .ok (.iload_n 1, 1) := by decide +kernel
theorem dX8_tellParts_56 : decode cX8_tellParts 56 = .ok (.ishl, 1) := by decide +kernel
theorem dX8_tellParts_57 : decode cX8_tellParts 57 = .ok (.iconst (-1), 1) := by decide +kernel
theorem dX8_tellParts_58 : decode cX8_tellParts 58 = .ok (.ixor, 1) := by decide +kernel
theorem dX8_tellParts_59 : decode cX8_tellParts 59 = .ok (.iand, 1) := by decide +kernel
theorem dX8_tellParts_60 : decode cX8_tellParts 60 = .ok (.putfield 44, 3) := by decide +kernel
theorem dX8_tellParts_63 : decode cX8_tellParts 63 = .ok (.aload_n 0, 1) := by decide +kernel
theorem dX8_tellParts_64 : decode cX8_tellParts 64 = .ok (.dup, 1) := by decide +kernel
theorem dX8_tellParts_65 : decode cX8_tellParts 65 = .ok (.getfield 47, 3) := by decide +kernel
theorem dX8_tellParts_68 : decode cX8_tellParts 68 = .ok (.iconst 1, 1) := by decide +kernel
theorem dX8_tellParts_69 : decode cX8_tellParts 69 = .ok (.isub, 1) := by decide +kernel
theorem dX8_tellParts_70 : decode cX8_tellParts 70 = .ok (.putfield 47, 3) := by decide +kernel
theorem dX8_tellParts_73 : decode cX8_tellParts 73 = .ok (.return_, 1) := by decide +kernel
theorem dX8_passHour_0 : decode cX8_passHour 0 = .ok (.aload_n 0, 1) := by decide +kernel
theorem dX8_passHour_1 : decode cX8_passHour 1 = .ok (.dup, 1) := by decide +kernel
theorem dX8_passHour_2 : decode cX8_passHour 2 = .ok (.getfield 31, 3) := by decide +kernel
theorem dX8_passHour_5 : decode cX8_passHour 5 = .ok (.iconst 1, 1) := by decide +kernel
theorem dX8_passHour_6 : decode cX8_passHour 6 = .ok (.isub, 1) := by decide +kernel
theorem dX8_passHour_7 : decode cX8_passHour 7 = .ok (.putfield 31, 3) := by decide +kernel
theorem dX8_passHour_10 : decode cX8_passHour 10 = .ok (.return_, 1) := by decide +kernel
theorem dX8_goOn_0 : decode cX8_goOn 0 = .ok (.aload_n 0, 1) := by decide +kernel
theorem dX8_goOn_1 : decode cX8_goOn 1 = .ok (.getfield 47, 3) := by decide +kernel
theorem dX8_goOn_4 : decode cX8_goOn 4 = .ok (.ifCond .le 34, 3) := by decide +kernel
theorem dX8_goOn_7 : decode cX8_goOn 7 = .ok (.aload_n 0, 1) := by decide +kernel
theorem dX8_goOn_8 : decode cX8_goOn 8 = .ok (.invokevirtual 86, 3) := by decide +kernel
theorem dX8_goOn_11 : decode cX8_goOn 11 = .ok (.istore_n 1, 1) := by decide +kernel
theorem dX8_goOn_12 : decode cX8_goOn 12 = .ok (.aload_n 0, 1) := by decide +kernel
theorem dX8_goOn_13 : decode cX8_goOn 13 = .ok (.iload_n 1, 1) := by decide +kernel
theorem dX8_goOn_14 : decode cX8_goOn 14 = .ok (.aload_n 0, 1) := by decide +kernel
theorem dX8_goOn_15 : decode cX8_goOn 15 = .ok (.iload_n 1, 1) := by decide +kernel
theorem dX8_goOn_16 : decode cX8_goOn 16 = .ok (.invokevirtual 94, 3) := by decide +kernel
theorem dX8_goOn_19 : decode cX8_goOn 19 = .ok (.iconst 1, 1) := by decide +kernel
theorem dX8_goOn_20 : decode cX8_goOn 20 = .ok (.isub, 1) := by decide +kernel
theorem dX8_goOn_21 : decode cX8_goOn 21 = .ok (.iconst 1, 1) := by decide +kernel
theorem dX8_goOn_22 : decode cX8_goOn 22 = .ok (.invokestatic 97, 3) := by decide +kernel
theorem dX8_goOn_25 : decode cX8_goOn 25 = .ok (.aload_n 0, 1) := by decide +kernel
theorem dX8_goOn_26 : decode cX8_goOn 26 = .ok (.getfield 31, 3) := by decide +kernel
theorem dX8_goOn_29 : decode cX8_goOn 29 = .ok (.invokestatic 103, 3) := by decide +kernel
theorem dX8_goOn_32 : decode cX8_goOn 32 = .ok (.invokevirtual 90, 3) := by decide +kernel
theorem dX8_goOn_35 : decode cX8_goOn 35 = .ok (.goto 8, 3) := by decide +kernel
theorem dX8_goOn_38 : decode cX8_goOn 38 = .ok (.aload_n 0, 1) := by decide +kernel
theorem dX8_goOn_39 : decode cX8_goOn 39 = .ok (.iconst 0, 1) := by decide +kernel
theorem dX8_goOn_40 : decode cX8_goOn 40 = .ok (.putfield 31, 3) := by decide +kernel
theorem dX8_goOn_43 : decode cX8_goOn 43 = .ok (.return_, 1) := by decide +kernel
theorem dX8_isPause_0 : decode cX8_isPause 0 = .ok (.aload_n 0, 1) := by decide +kernel
