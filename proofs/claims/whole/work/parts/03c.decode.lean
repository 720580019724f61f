theorem dX9_refusesTitle_47 : decode cX9_refusesTitle 47 = .ok (.iconst 5, 1) := by decide +kernel
theorem dX9_refusesTitle_48 : decode cX9_refusesTitle 48 = .ok (.iaload, 1) := by decide +kernel
theorem dX9_refusesTitle_49 : decode cX9_refusesTitle 49 = .ok (.bipush 20, 2) := by decide +kernel
theorem dX9_refusesTitle_51 : decode cX9_refusesTitle 51 = .ok (.if_icmp .ne 8, 3) := by decide +kernel
theorem dX9_refusesTitle_54 : decode cX9_refusesTitle 54 = .ok (.bipush (-4), 2) := by decide +kernel
theorem dX9_refusesTitle_56 : decode cX9_refusesTitle 56 = .ok (.goto 4, 3) := by decide +kernel
theorem dX9_refusesTitle_59 : decode cX9_refusesTitle 59 = .ok (.iconst 0, 1) := by decide +kernel
theorem dX9_refusesTitle_60 : decode cX9_refusesTitle 60 = .ok (.ireturn, 1) := by decide +kernel
theorem dX9_laysTitle_0 : decode cX9_laysTitle 0 = .ok (.sipush 148, 3) := by decide +kernel
theorem dX9_laysTitle_3 : decode cX9_laysTitle 3 = .ok (.iconst 4, 1) := by decide +kernel
theorem dX9_laysTitle_4 : decode cX9_laysTitle 4 = .ok (.aload_n 0, 1) := by decide +kernel
theorem dX9_laysTitle_5 : decode cX9_laysTitle 5 = .ok (.getfield 7, 3) := by decide +kernel
theorem dX9_laysTitle_8 : decode cX9_laysTitle 8 = .ok (.iconst 5, 1) := by decide +kernel
theorem dX9_laysTitle_9 : decode cX9_laysTitle 9 = .ok (.iaload, 1) := by decide +kernel
theorem dX9_laysTitle_10 : decode cX9_laysTitle 10 = .ok (.imul, 1) := by decide +kernel
theorem dX9_laysTitle_11 : decode cX9_laysTitle 11 = .ok (.iadd, 1) := by decide +kernel
theorem dX9_laysTitle_12 : decode cX9_laysTitle 12 = .ok (.istore 5, 2) := by decide +kernel
theorem dX9_laysTitle_14 : decode cX9_laysTitle 14 = .ok (.aload_n 0, 1) := by decide +kernel
theorem dX9_laysTitle_15 : decode cX9_laysTitle 15 = .ok (.getfield 7, 3) := by decide +kernel
theorem dX9_laysTitle_18 : decode cX9_laysTitle 18 = .ok (.iload 5, 2) := by decide +kernel
theorem dX9_laysTitle_20 : decode cX9_laysTitle 20 = .ok (.iconst 0, 1) := by decide +kernel
theorem dX9_laysTitle_21 : decode cX9_laysTitle 21 = .ok (.iadd, 1) := by decide +kernel
theorem dX9_laysTitle_22 : decode cX9_laysTitle 22 = .ok (.iload_n 1, 1) := by decide +kernel
theorem dX9_laysTitle_23 : decode cX9_laysTitle 23 = .ok (.iastore, 1) := by decide +kernel
theorem dX9_laysTitle_24 : decode cX9_laysTitle 24 = .ok (.aload_n 0, 1) := by decide +kernel
theorem dX9_laysTitle_25 : decode cX9_laysTitle 25 = .ok (.getfield 7, 3) := by decide +kernel
theorem dX9_laysTitle_28 : decode cX9_laysTitle 28 = .ok (.iload 5, 2) := by decide +kernel
theorem dX9_laysTitle_30 : decode cX9_laysTitle 30 = .ok (.iconst 1, 1) := by decide +kernel
theorem dX9_laysTitle_31 : decode cX9_laysTitle 31 = .ok (.iadd, 1) := by decide +kernel
theorem dX9_laysTitle_32 : decode cX9_laysTitle 32 = .ok (.iload_n 2, 1) := by decide +kernel
theorem dX9_laysTitle_33 : decode cX9_laysTitle 33 = .ok (.iastore, 1) := by decide +kernel
theorem dX9_laysTitle_34 : decode cX9_laysTitle 34 = .ok (.aload_n 0, 1) := by decide +kernel
theorem dX9_laysTitle_35 : decode cX9_laysTitle 35 = .ok (.getfield 7, 3) := by decide +kernel
theorem dX9_laysTitle_38 : decode cX9_laysTitle 38 = .ok (.iload 5, 2) := by decide +kernel
theorem dX9_laysTitle_40 : decode cX9_laysTitle 40 = .ok (.iconst 2, 1) := by decide +kernel
theorem dX9_laysTitle_41 : decode cX9_laysTitle 41 = .ok (.iadd, 1) := by decide +kernel
theorem dX9_laysTitle_42 : decode cX9_laysTitle 42 = .ok (.iload_n 3, 1) := by decide +kernel
theorem dX9_laysTitle_43 : decode cX9_laysTitle 43 = .ok (.iastore, 1) := by decide +kernel
theorem dX9_laysTitle_44 : decode cX9_laysTitle 44 = .ok (.aload_n 0, 1) := by decide +kernel
theorem dX9_laysTitle_45 : decode cX9_laysTitle 45 = .ok (.getfield 7, 3) := by decide +kernel
theorem dX9_laysTitle_48 : decode cX9_laysTitle 48 = .ok (.iload 5, 2) := by decide +kernel
theorem dX9_laysTitle_50 : decode cX9_laysTitle 50 = .ok (.iconst 3, 1) := by decide +kernel
theorem dX9_laysTitle_51 : decode cX9_laysTitle 51 = .ok (.iadd, 1) := by decide +kernel
theorem dX9_laysTitle_52 : decode cX9_laysTitle 52 = .ok (.iload 4, 2) := by decide +kernel
theorem dX9_laysTitle_54 : decode cX9_laysTitle 54 = .ok (.iastore, 1) := by decide +kernel
theorem dX9_laysTitle_55 : decode cX9_laysTitle 55 = .ok (.aload_n 0, 1) := by decide +kernel
theorem dX9_laysTitle_56 : decode cX9_laysTitle 56 = .ok (.getfield 7, 3) := by decide +kernel
theorem dX9_laysTitle_59 : decode cX9_laysTitle 59 = .ok (.iconst 5, 1) := by decide +kernel
theorem dX9_laysTitle_60 : decode cX9_laysTitle 60 = .ok (.dup2, 1) := by decide +kernel
theorem dX9_laysTitle_61 : decode cX9_laysTitle 61 = .ok (.iaload, 1) := by decide +kernel
theorem dX9_laysTitle_62 : decode cX9_laysTitle 62 = .ok (.iconst 1, 1) := by decide +kernel
theorem dX9_laysTitle_63 : decode cX9_laysTitle 63 = .ok (.iadd, 1) := by decide +kernel
theorem dX9_laysTitle_64 : decode cX9_laysTitle 64 = .ok (.iastore, 1) := by decide +kernel
theorem dX9_laysTitle_65 : decode cX9_laysTitle 65 = .ok (.aload_n 0, 1) := by decide +kernel
theorem dX9_laysTitle_66 : decode cX9_laysTitle 66 = .ok (.getfield 7, 3) := by decide +kernel
theorem dX9_laysTitle_69 : decode cX9_laysTitle 69 = .ok (.iconst 5, 1) := by decide +kernel
theorem dX9_laysTitle_70 : decode cX9_laysTitle 70 = .ok (.iaload, 1) := by decide +kernel
theorem dX9_laysTitle_71 : decode cX9_laysTitle 71 = .ok (.iconst 1, 1) := by decide +kernel
theorem dX9_laysTitle_72 : decode cX9_laysTitle 72 = .ok (.isub, 1) := by decide +kernel
theorem dX9_laysTitle_73 : decode cX9_laysTitle 73 = .ok (.ireturn, 1) := by decide +kernel
theorem dX9_title_0 : decode cX9_title 0 = .ok (.aload_n 0, 1) := by decide +kernel
theorem dX9_title_1 : decode cX9_title 1 = .ok (.iconst 0, 1) := by decide +kernel
theorem dX9_title_2 : decode cX9_title 2 = .ok (.putfield 56, 3) := by decide +kernel
theorem dX9_title_5 : decode cX9_title 5 = .ok (.aload_n 0, 1) := by decide +kernel
theorem dX9_title_6 : decode cX9_title 6 = .ok (.iload_n 1, 1) := by decide +kernel
theorem dX9_title_7 : decode cX9_title 7 = .ok (.iload_n 2, 1) := by decide +kernel
theorem dX9_title_8 : decode cX9_title 8 = .ok (.iload_n 3, 1) := by decide +kernel
theorem dX9_title_9 : decode cX9_title 9 = .ok (.iload 4, 2) := by decide +kernel
theorem dX9_title_11 : decode cX9_title 11 = .ok (.invokevirtual 151, 3) := by decide +kernel
theorem dX9_title_14 : decode cX9_title 14 = .ok (.istore 5, 2) := by decide +kernel
theorem dX9_title_16 : decode cX9_title 16 = .ok (.iload 5, 2) := by decide +kernel
theorem dX9_title_18 : decode cX9_title 18 = .ok (.ifCond .eq 6, 3) := by decide +kernel
theorem dX9_title_21 : decode cX9_title 21 = .ok (.iload 5, 2) := by decide +kernel
theorem dX9_title_23 : decode cX9_title 23 = .ok (.ireturn, 1) := by decide +kernel
theorem dX9_title_24 : decode cX9_title 24 = .ok (.aload_n 0, 1) := by decide +kernel
theorem dX9_title_25 : decode cX9_title 25 = .ok (.invokevirtual 127, 3) := by decide +kernel
theorem dX9_title_28 : decode cX9_title 28 = .ok (.aload_n 0, 1) := by decide +kernel
theorem dX9_title_29 : decode cX9_title 29 = .ok (.iload_n 1, 1) := by decide +kernel
theorem dX9_title_30 : decode cX9_title 30 = .ok (.iload_n 2, 1) := by decide +kernel
theorem dX9_title_31 : decode cX9_title 31 = .ok (.iload_n 3, 1) := by decide +kernel
theorem dX9_title_32 : decode cX9_title 32 = .ok (.iload 4, 2) := by decide +kernel
theorem dX9_title_34 : decode cX9_title 34 = .ok (.invokevirtual 154, 3) := by decide +kernel
theorem dX9_title_37 : decode cX9_title 37 = .ok (.ireturn, 1) := by decide +kernel
theorem dX9_dropsTitle_0 : decode cX9_dropsTitle 0 = .ok (.aload_n 0, 1) := by decide +kernel
theorem dX9_dropsTitle_1 : decode cX9_dropsTitle 1 = .ok (.getfield 7, 3) := by decide +kernel
theorem dX9_dropsTitle_4 : decode cX9_dropsTitle 4 = .ok (.iconst 5, 1) := by decide +kernel
theorem dX9_dropsTitle_5 : decode cX9_dropsTitle 5 = .ok (.dup2, 1) := by decide +kernel
theorem dX9_dropsTitle_6 : decode cX9_dropsTitle 6 = .ok (.iaload, 1) := by decide +kernel
theorem dX9_dropsTitle_7 : decode cX9_dropsTitle 7 = .ok (.iconst 1, 1) := by decide +kernel
theorem dX9_dropsTitle_8 : decode cX9_dropsTitle 8 = .ok (.isub, 1) := by decide +kernel
theorem dX9_dropsTitle_9 : decode cX9_dropsTitle 9 = .ok (.iastore, 1) := by decide +kernel
theorem dX9_dropsTitle_10 : decode cX9_dropsTitle 10 = .ok (.iconst 4, 1) := by decide +kernel
theorem dX9_dropsTitle_11 : decode cX9_dropsTitle 11 = .ok (.iload_n 1, 1) := by decide +kernel
theorem dX9_dropsTitle_12 : decode cX9_dropsTitle 12 = .ok (.imul, 1) := by decide +kernel
theorem dX9_dropsTitle_13 : decode cX9_dropsTitle 13 = .ok (.istore_n 2, 1) := by decide +kernel
theorem dX9_dropsTitle_14 : decode cX9_dropsTitle 14 = .ok (.iload_n 2, 1) := by decide +kernel
theorem dX9_dropsTitle_15 : decode cX9_dropsTitle 15 = .ok (.iconst 4, 1) := by decide +kernel
theorem dX9_dropsTitle_16 : decode cX9_dropsTitle 16 = .ok (.aload_n 0, 1) := by decide +kernel
theorem dX9_dropsTitle_17 : decode cX9_dropsTitle 17 = .ok (.getfield 7, 3) := by decide +kernel
theorem dX9_dropsTitle_20 : decode cX9_dropsTitle 20 = .ok (.iconst 5, 1) := by decide +kernel
theorem dX9_dropsTitle_21 : decode cX9_dropsTitle 21 = .ok (.iaload, 1) := by decide +kernel
theorem dX9_dropsTitle_22 : decode cX9_dropsTitle 22 = .ok (.imul, 1) := by decide +kernel
theorem dX9_dropsTitle_23 : decode cX9_dropsTitle 23 = .ok (.if_icmp .ge 31, 3) := by decide +kernel
theorem dX9_dropsTitle_26 : decode cX9_dropsTitle 26 = .ok (.aload_n 0, 1) := by decide +kernel
theorem dX9_dropsTitle_27 : decode cX9_dropsTitle 27 = .ok (.getfield 7, 3) := by decide +kernel
theorem dX9_dropsTitle_30 : decode cX9_dropsTitle 30 = .ok (.sipush 148, 3) := by decide +kernel
theorem dX9_dropsTitle_33 : decode cX9_dropsTitle 33 = .ok (.iload_n 2, 1) := by decide +kernel
theorem dX9_dropsTitle_34 : decode cX9_dropsTitle 34 = .ok (.iadd, 1) := by decide +kernel
theorem dX9_dropsTitle_35 : decode cX9_dropsTitle 35 = .ok (.aload_n 0, 1) := by decide +kernel
theorem dX9_dropsTitle_36 : decode cX9_dropsTitle 36 = .ok (.getfield 7, 3) := by decide +kernel
theorem dX9_dropsTitle_39 : decode cX9_dropsTitle 39 = .ok (.sipush 148, 3) := by decide +kernel
theorem dX9_dropsTitle_42 : decode cX9_dropsTitle 42 = .ok (.iload_n 2, 1) := by decide +kernel
theorem dX9_dropsTitle_43 : decode cX9_dropsTitle 43 = .ok (.iadd, 1) := by decide +kernel
theorem dX9_dropsTitle_44 : decode cX9_dropsTitle 44 = .ok (.iconst 4, 1) := by decide +kernel
theorem dX9_dropsTitle_45 : decode cX9_dropsTitle 45 = .ok (.iadd, 1) := by decide +kernel
theorem dX9_dropsTitle_46 : decode cX9_dropsTitle 46 = .ok (.iaload, 1) := by decide +kernel
theorem dX9_dropsTitle_47 : decode cX9_dropsTitle 47 = .ok (.iastore, 1) := by decide +kernel
theorem dX9_dropsTitle_48 : decode cX9_dropsTitle 48 = .ok (.iinc 2 1, 3) := by decide +kernel
theorem dX9_dropsTitle_51 : decode cX9_dropsTitle 51 = .ok (.goto (-37), 3) := by decide +kernel
theorem dX9_dropsTitle_54 : decode cX9_dropsTitle 54 = .ok (.iconst 0, 1) := by decide +kernel
theorem dX9_dropsTitle_55 : decode cX9_dropsTitle 55 = .ok (.istore_n 2, 1) := by decide +kernel
theorem dX9_dropsTitle_56 : decode cX9_dropsTitle 56 = .ok (.iload_n 2, 1) := by decide +kernel
theorem dX9_dropsTitle_57 : decode cX9_dropsTitle 57 = .ok (.iconst 4, 1) := by decide +kernel
theorem dX9_dropsTitle_58 : decode cX9_dropsTitle 58 = .ok (.if_icmp .ge 29, 3) := by decide +kernel
theorem dX9_dropsTitle_61 : decode cX9_dropsTitle 61 = .ok (.aload_n 0, 1) := by decide +kernel
theorem dX9_dropsTitle_62 : decode cX9_dropsTitle 62 = .ok (.getfield 7, 3) := by decide +kernel
theorem dX9_dropsTitle_65 : decode cX9_dropsTitle 65 = .ok (.sipush 148, 3) := by decide +kernel
theorem dX9_dropsTitle_68 : decode cX9_dropsTitle 68 = .ok (.iconst 4, 1) := by decide +kernel
theorem dX9_dropsTitle_69 : decode cX9_dropsTitle 69 = .ok (.aload_n 0, 1) := by decide +kernel
theorem dX9_dropsTitle_70 : decode cX9_dropsTitle 70 = .ok (.getfield 7, 3) := by decide +kernel
theorem dX9_dropsTitle_73 : decode cX9_dropsTitle 73 = .ok (.iconst 5, 1) := by decide +kernel
theorem dX9_dropsTitle_74 : decode cX9_dropsTitle 74 = .ok (.iaload, 1) := by decide +kernel
theorem dX9_dropsTitle_75 : decode cX9_dropsTitle 75 = .ok (.imul, 1) := by decide +kernel
theorem dX9_dropsTitle_76 : decode cX9_dropsTitle 76 = .ok (.iadd, 1) := by decide +kernel
theorem dX9_dropsTitle_77 : decode cX9_dropsTitle 77 = .ok (.iload_n 2, 1) := by decide +kernel
theorem dX9_dropsTitle_78 : decode cX9_dropsTitle 78 = .ok (.iadd, 1) := by decide +kernel
theorem dX9_dropsTitle_79 : decode cX9_dropsTitle 79 = .ok (.iconst 0, 1) := by decide +kernel
theorem dX9_dropsTitle_80 : decode cX9_dropsTitle 80 = .ok (.iastore, 1) := by decide +kernel
theorem dX9_dropsTitle_81 : decode cX9_dropsTitle 81 = .ok (.iinc 2 1, 3) := by decide +kernel
theorem dX9_dropsTitle_84 : decode cX9_dropsTitle 84 = .ok (.goto (-28), 3) := by decide +kernel
theorem dX9_dropsTitle_87 : decode cX9_dropsTitle 87 = .ok (.aload_n 0, 1) := by decide +kernel
theorem dX9_dropsTitle_88 : decode cX9_dropsTitle 88 = .ok (.getfield 7, 3) := by decide +kernel
theorem dX9_dropsTitle_91 : decode cX9_dropsTitle 91 = .ok (.iconst 5, 1) := by decide +kernel
theorem dX9_dropsTitle_92 : decode cX9_dropsTitle 92 = .ok (.iaload, 1) := by decide +kernel
theorem dX9_dropsTitle_93 : decode cX9_dropsTitle 93 = .ok (.ireturn, 1) := by decide +kernel
theorem dX9_drop_0 : decode cX9_drop 0 = .ok (.aload_n 0, 1) := by decide +kernel
theorem dX9_drop_1 : decode cX9_drop 1 = .ok (.iconst 0, 1) := by decide +kernel
theorem dX9_drop_2 : decode cX9_drop 2 = .ok (.putfield 56, 3) := by decide +kernel
theorem dX9_drop_5 : decode cX9_drop 5 = .ok (.iload_n 1, 1) := by decide +kernel
theorem dX9_drop_6 : decode cX9_drop 6 = .ok (.iconst 0, 1) := by decide +kernel
theorem dX9_drop_7 : decode cX9_drop 7 = .ok (.aload_n 0, 1) := by decide +kernel
theorem dX9_drop_8 : decode cX9_drop 8 = .ok (.getfield 7, 3) := by decide +kernel
theorem dX9_drop_11 : decode cX9_drop 11 = .ok (.iconst 5, 1) := by decide +kernel
theorem dX9_drop_12 : decode cX9_drop 12 = .ok (.iaload, 1) := by decide +kernel
theorem dX9_drop_13 : decode cX9_drop 13 = .ok (.iconst 1, 1) := by decide +kernel
theorem dX9_drop_14 : decode cX9_drop 14 = .ok (.isub, 1) := by decide +kernel
theorem dX9_drop_15 : decode cX9_drop 15 = .ok (.invokestatic 60, 3) := by decide +kernel
theorem dX9_drop_18 : decode cX9_drop 18 = .ok (.ifCond .ne 5, 3) := by decide +kernel
theorem dX9_drop_21 : decode cX9_drop 21 = .ok (.iconst (-1), 1) := by decide +kernel
theorem dX9_drop_22 : decode cX9_drop 22 = .ok (.ireturn, 1) := by decide +kernel
theorem dX9_drop_23 : decode cX9_drop 23 = .ok (.aload_n 0, 1) := by decide +kernel
theorem dX9_drop_24 : decode cX9_drop 24 = .ok (.invokevirtual 127, 3) := by decide +kernel
theorem dX9_drop_27 : decode cX9_drop 27 = .ok (.aload_n 0, 1) := by decide +kernel
theorem dX9_drop_28 : decode cX9_drop 28 = .ok (.iload_n 1, 1) := by decide +kernel
theorem dX9_drop_29 : decode cX9_drop 29 = .ok (.invokevirtual 157, 3) := by decide +kernel
theorem dX9_drop_32 : decode cX9_drop 32 = .ok (.ireturn, 1) := by decide +kernel
theorem dX9_timesSung_0 : decode cX9_timesSung 0 = .ok (.iconst 0, 1) := by decide +kernel
theorem dX9_timesSung_1 : decode cX9_timesSung 1 = .ok (.istore_n 2, 1) := by decide +kernel
theorem dX9_timesSung_2 : decode cX9_timesSung 2 = .ok (.iconst 0, 1) := by decide +kernel
theorem dX9_timesSung_3 : decode cX9_timesSung 3 = .ok (.istore_n 3, 1) := by decide +kernel
theorem dX9_timesSung_4 : decode cX9_timesSung 4 = .ok (.iload_n 3, 1) := by decide +kernel
theorem dX9_timesSung_5 : decode cX9_timesSung 5 = .ok (.aload_n 0, 1) := by decide +kernel
theorem dX9_timesSung_6 : decode cX9_timesSung 6 = .ok (.getfield 71, 3) := by decide +kernel
theorem dX9_timesSung_9 : decode cX9_timesSung 9 = .ok (.if_icmp .ge 27, 3) := by decide +kernel
theorem dX9_timesSung_12 : decode cX9_timesSung 12 = .ok (.iload_n 2, 1) := by decide +kernel
theorem dX9_timesSung_13 : decode cX9_timesSung 13 = .ok (.aload_n 0, 1) := by decide +kernel
theorem dX9_timesSung_14 : decode cX9_timesSung 14 = .ok (.getfield 26, 3) := by decide +kernel
theorem dX9_timesSung_17 : decode cX9_timesSung 17 = .ok (.iload_n 3, 1) := by decide +kernel
theorem dX9_timesSung_18 : decode cX9_timesSung 18 = .ok (.iaload, 1) := by decide +kernel
theorem dX9_timesSung_19 : decode cX9_timesSung 19 = .ok (.iload_n 1, 1) := by decide +kernel
theorem dX9_timesSung_20 : decode cX9_timesSung 20 = .ok (.if_icmp .ne 7, 3) := by decide +kernel
theorem dX9_timesSung_23 : decode cX9_timesSung 23 = .ok (.iconst 1, 1) := by decide +kernel
theorem dX9_timesSung_24 : decode cX9_timesSung 24 = .ok (.goto 4, 3) := by decide +kernel
theorem dX9_timesSung_27 : decode cX9_timesSung 27 = .ok (.iconst 0, 1) := by decide +kernel
theorem dX9_timesSung_28 : decode cX9_timesSung 28 = .ok (.iadd, 1) := by decide +kernel
theorem dX9_timesSung_29 : decode cX9_timesSung 29 = .ok (.istore_n 2, 1) := by decide +kernel
theorem dX9_timesSung_30 : decode cX9_timesSung 30 = .ok (.iinc 3 1, 3) := by decide +kernel
theorem dX9_timesSung_33 : decode cX9_timesSung 33 = .ok (.goto (-29), 3) := by decide +kernel
theorem dX9_timesSung_36 : decode cX9_timesSung 36 = .ok (.iload_n 2, 1) := by decide +kernel
theorem dX9_timesSung_37 : decode cX9_timesSung 37 = .ok (.ireturn, 1) := by decide +kernel
theorem dX9_ofBar_0 : decode cX9_ofBar 0 = .ok (.aload_n 0, 1) := by decide +kernel
theorem dX9_ofBar_1 : decode cX9_ofBar 1 = .ok (.iconst 0, 1) := by decide +kernel
theorem dX9_ofBar_2 : decode cX9_ofBar 2 = .ok (.putfield 56, 3) := by decide +kernel
theorem dX9_ofBar_5 : decode cX9_ofBar 5 = .ok (.aload_n 0, 1) := by decide +kernel
theorem dX9_ofBar_6 : decode cX9_ofBar 6 = .ok (.iload_n 1, 1) := by decide +kernel
theorem dX9_ofBar_7 : decode cX9_ofBar 7 = .ok (.invokevirtual 130, 3) := by decide +kernel
theorem dX9_ofBar_10 : decode cX9_ofBar 10 = .ok (.ifCond .ne 5, 3) := by decide +kernel
theorem dX9_ofBar_13 : decode cX9_ofBar 13 = .ok (.iconst (-1), 1) := by decide +kernel
theorem dX9_ofBar_14 : decode cX9_ofBar 14 = .ok (.ireturn, 1) := by decide +kernel
theorem dX9_ofBar_15 : decode cX9_ofBar 15 = .ok (.aload_n 0, 1) := by decide +kernel
theorem dX9_ofBar_16 : decode cX9_ofBar 16 = .ok (.invokevirtual 108, 3) := by decide +kernel
theorem dX9_ofBar_19 : decode cX9_ofBar 19 = .ok (.iload_n 2, 1) := by decide +kernel
theorem dX9_ofBar_20 : decode cX9_ofBar 20 = .ok (.tableswitch 92 0 5 #[40, 50, 60, 66, 72, 78], 40) := by decide +kernel
theorem dX9_ofBar_60 : decode cX9_ofBar 60 = .ok (.aload_n 0, 1) := by decide +kernel
theorem dX9_ofBar_61 : decode cX9_ofBar 61 = .ok (.getfield 7, 3) := by decide +kernel
theorem dX9_ofBar_64 : decode cX9_ofBar 64 = .ok (.bipush 6, 2) := by decide +kernel
theorem dX9_ofBar_66 : decode cX9_ofBar 66 = .ok (.iload_n 1, 1) := by decide +kernel
theorem dX9_ofBar_67 : decode cX9_ofBar 67 = .ok (.iadd, 1) := by decide +kernel
theorem dX9_ofBar_68 : decode cX9_ofBar 68 = .ok (.iaload, 1) := by decide +kernel
theorem dX9_ofBar_69 : decode cX9_ofBar 69 = .ok (.ireturn, 1) := by decide +kernel
theorem dX9_ofBar_70 : decode cX9_ofBar 70 = .ok (.aload_n 0, 1) := by decide +kernel
theorem dX9_ofBar_71 : decode cX9_ofBar 71 = .ok (.getfield 7, 3) := by decide +kernel
theorem dX9_ofBar_74 : decode cX9_ofBar 74 = .ok (.bipush 66, 2) := by decide +kernel
theorem dX9_ofBar_76 : decode cX9_ofBar 76 = .ok (.iload_n 1, 1) := by decide +kernel
theorem dX9_ofBar_77 : decode cX9_ofBar 77 = .ok (.iadd, 1) := by decide +kernel
theorem dX9_ofBar_78 : decode cX9_ofBar 78 = .ok (.iaload, 1) := by decide +kernel
theorem dX9_ofBar_79 : decode cX9_ofBar 79 = .ok (.ireturn, 1) := by decide +kernel
theorem dX9_ofBar_80 : decode cX9_ofBar 80 = .ok (.aload_n 0, 1) := by decide +kernel
theorem dX9_ofBar_81 : decode cX9_ofBar 81 = .ok (.iload_n 1, 1) := by decide +kernel
theorem dX9_ofBar_82 : decode cX9_ofBar 82 = .ok (.invokevirtual 77, 3) := by decide +kernel
theorem dX9_ofBar_85 : decode cX9_ofBar 85 = .ok (.ireturn, 1) := by decide +kernel
theorem dX9_ofBar_86 : decode cX9_ofBar 86 = .ok (.aload_n 0, 1) := by decide +kernel
theorem dX9_ofBar_87 : decode cX9_ofBar 87 = .ok (.iload_n 1, 1) := by decide +kernel
theorem dX9_ofBar_88 : decode cX9_ofBar 88 = .ok (.invokevirtual 160, 3) := by decide +kernel
theorem dX9_ofBar_91 : decode cX9_ofBar 91 = .ok (.ireturn, 1) := by decide +kernel
theorem dX9_ofBar_92 : decode cX9_ofBar 92 = .ok (.aload_n 0, 1) := by decide +kernel
theorem dX9_ofBar_93 : decode cX9_ofBar 93 = .ok (.iload_n 1, 1) := by decide +kernel
theorem dX9_ofBar_94 : decode cX9_ofBar 94 = .ok (.invokevirtual 93, 3) := by decide +kernel
theorem dX9_ofBar_97 : decode cX9_ofBar 97 = .ok (.ireturn, 1) := by decide +kernel
theorem dX9_ofBar_98 : decode cX9_ofBar 98 = .ok (.aload_n 0, 1) := by decide +kernel
theorem dX9_ofBar_99 : decode cX9_ofBar 99 = .ok (.iload_n 1, 1) := by decide +kernel
theorem dX9_ofBar_100 : decode cX9_ofBar 100 = .ok (.invokevirtual 67, 3) := by decide +kernel
theorem dX9_ofBar_103 : decode cX9_ofBar 103 = .ok (.ifCond .eq 7, 3) := by decide +kernel
theorem dX9_ofBar_106 : decode cX9_ofBar 106 = .ok (.iconst 1, 1) := by decide +kernel
theorem dX9_ofBar_107 : decode cX9_ofBar 107 = .ok (.goto 4, 3) := by decide +kernel
theorem dX9_ofBar_110 : decode cX9_ofBar 110 = .ok (.iconst 0, 1) := by decide +kernel
theorem dX9_ofBar_111 : decode cX9_ofBar 111 = .ok (.ireturn, 1) := by decide +kernel
theorem dX9_ofBar_112 : decode cX9_ofBar 112 = .ok (.bipush (-2), 2) := by decide +kernel
theorem dX9_ofBar_114 : decode cX9_ofBar 114 = .ok (.ireturn, 1) := by decide +kernel
theorem dX9_isBlack_0 : decode cX9_isBlack 0 = .ok (.iconst 0, 1) := by decide +kernel
theorem dX9_isBlack_1 : decode cX9_isBlack 1 = .ok (.istore_n 2, 1) := by decide +kernel
theorem dX9_isBlack_2 : decode cX9_isBlack 2 = .ok (.iconst 0, 1) := by decide +kernel
theorem dX9_isBlack_3 : decode cX9_isBlack 3 = .ok (.istore_n 3, 1) := by decide +kernel
theorem dX9_isBlack_4 : decode cX9_isBlack 4 = .ok (.iload_n 3, 1) := by decide +kernel
theorem dX9_isBlack_5 : decode cX9_isBlack 5 = .ok (.aload_n 0, 1) := by decide +kernel
theorem dX9_isBlack_6 : decode cX9_isBlack 6 = .ok (.getfield 7, 3) := by decide +kernel
theorem dX9_isBlack_9 : decode cX9_isBlack 9 = .ok (.iconst 4, 1) := by decide +kernel
theorem dX9_isBlack_10 : decode cX9_isBlack 10 = .ok (.iaload, 1) := by decide +kernel
theorem dX9_isBlack_11 : decode cX9_isBlack 11 = .ok (.if_icmp .ge 52, 3) := by decide +kernel
theorem dX9_isBlack_14 : decode cX9_isBlack 14 = .ok (.iload_n 2, 1) := by decide +kernel
theorem dX9_isBlack_15 : decode cX9_isBlack 15 = .ok (.ifCond .ne 36, 3) := by decide +kernel
theorem dX9_isBlack_18 : decode cX9_isBlack 18 = .ok (.iload_n 1, 1) := by decide +kernel
theorem dX9_isBlack_19 : decode cX9_isBlack 19 = .ok (.aload_n 0, 1) := by decide +kernel
theorem dX9_isBlack_20 : decode cX9_isBlack 20 = .ok (.getfield 7, 3) := by decide +kernel
theorem dX9_isBlack_23 : decode cX9_isBlack 23 = .ok (.sipush 142, 3) := by decide +kernel
theorem dX9_isBlack_26 : decode cX9_isBlack 26 = .ok (.iconst 2, 1) := by decide +kernel
theorem dX9_isBlack_27 : decode cX9_isBlack 27 = .ok (.iload_n 3, 1) := by decide +kernel
theorem dX9_isBlack_28 : decode cX9_isBlack 28 = .ok (.imul, 1) := by decide +kernel
theorem dX9_isBlack_29 : decode cX9_isBlack 29 = .ok (.iadd, 1) := by decide +kernel
theorem dX9_isBlack_30 : decode cX9_isBlack 30 = .ok (.iaload, 1) := by decide +kernel
theorem dX9_isBlack_31 : decode cX9_isBlack 31 = .ok (.aload_n 0, 1) := by decide +kernel
theorem dX9_isBlack_32 : decode cX9_isBlack 32 = .ok (.getfield 7, 3) := by decide +kernel
theorem dX9_isBlack_35 : decode cX9_isBlack 35 = .ok (.sipush 142, 3) := by decide +kernel
theorem dX9_isBlack_38 : decode cX9_isBlack 38 = .ok (.iconst 2, 1) := by decide +kernel
theorem dX9_isBlack_39 : decode cX9_isBlack 39 = .ok (.iload_n 3, 1) := by decide +kernel
theorem dX9_isBlack_40 : decode cX9_isBlack 40 = .ok (.imul, 1) := by decide +kernel
theorem dX9_isBlack_41 : decode cX9_isBlack 41 = .ok (.iadd, 1) := by decide +kernel
theorem dX9_isBlack_42 : decode cX9_isBlack 42 = .ok (.iconst 1, 1) := by decide +kernel
theorem dX9_isBlack_43 : decode cX9_isBlack 43 = .ok (.iadd, 1) := by decide +kernel
theorem dX9_isBlack_44 : decode cX9_isBlack 44 = .ok (.iaload, 1) := by decide +kernel
theorem dX9_isBlack_45 : decode cX9_isBlack 45 = .ok (.invokestatic 60, 3) := by decide +kernel
theorem dX9_isBlack_48 : decode cX9_isBlack 48 = .ok (.ifCond .eq 7, 3) := by decide +kernel
theorem dX9_isBlack_51 : decode cX9_isBlack 51 = .ok (.iconst 1, 1) := by decide +kernel
theorem dX9_isBlack_52 : decode cX9_isBlack 52 = .ok (.goto 4, 3) := by decide +kernel
theorem dX9_isBlack_55 : decode cX9_isBlack 55 = .ok (.iconst 0, 1) := by decide +kernel
theorem dX9_isBlack_56 : decode cX9_isBlack 56 = .ok (.istore_n 2, 1) := by decide +kernel
theorem dX9_isBlack_57 : decode cX9_isBlack 57 = .ok (.iinc 3 1, 3) := by decide +kernel
theorem dX9_isBlack_60 : decode cX9_isBlack 60 = .ok (.goto (-56), 3) := by decide +kernel
theorem dX9_isBlack_63 : decode cX9_isBlack 63 = .ok (.iload_n 2, 1) := by decide +kernel
theorem dX9_isBlack_64 : decode cX9_isBlack 64 = .ok (.ireturn, 1) := by decide +kernel
theorem dX9_sung_0 : decode cX9_sung 0 = .ok (.aload_n 0, 1) := by decide +kernel
theorem dX9_sung_1 : decode cX9_sung 1 = .ok (.iconst 0, 1) := by decide +kernel
theorem dX9_sung_2 : decode cX9_sung 2 = .ok (.putfield 56, 3) := by decide +kernel
theorem dX9_sung_5 : decode cX9_sung 5 = .ok (.aload_n 0, 1) := by decide +kernel
theorem dX9_sung_6 : decode cX9_sung 6 = .ok (.invokevirtual 108, 3) := by decide +kernel
theorem dX9_sung_9 : decode cX9_sung 9 = .ok (.iload_n 1, 1) := by decide +kernel
theorem dX9_sung_10 : decode cX9_sung 10 = .ok (.iconst 0, 1) := by decide +kernel
theorem dX9_sung_11 : decode cX9_sung 11 = .ok (.aload_n 0, 1) := by decide +kernel
theorem dX9_sung_12 : decode cX9_sung 12 = .ok (.getfield 71, 3) := by decide +kernel
theorem dX9_sung_15 : decode cX9_sung 15 = .ok (.iconst 1, 1) := by decide +kernel
theorem dX9_sung_16 : decode cX9_sung 16 = .ok (.isub, 1) := by decide +kernel
theorem dX9_sung_17 : decode cX9_sung 17 = .ok (.invokestatic 60, 3) := by decide +kernel
theorem dX9_sung_20 : decode cX9_sung 20 = .ok (.ifCond .ne 5, 3) := by decide +kernel
theorem dX9_sung_23 : decode cX9_sung 23 = .ok (.iconst (-1), 1) := by decide +kernel
theorem dX9_sung_24 : decode cX9_sung 24 = .ok (.ireturn, 1) := by decide +kernel
theorem dX9_sung_25 : decode cX9_sung 25 = .ok (.iload_n 2, 1) := by decide +kernel
theorem dX9_sung_26 : decode cX9_sung 26 = .ok (.tableswitch 54 0 2 #[26, 33, 40], 26) := by decide +kernel
theorem dX9_sung_52 : decode cX9_sung 52 = .ok (.aload_n 0, 1) := by decide +kernel
theorem dX9_sung_53 : decode cX9_sung 53 = .ok (.getfield 26, 3) := by decide +kernel
theorem dX9_sung_56 : decode cX9_sung 56 = .ok (.iload_n 1, 1) := by decide +kernel
theorem dX9_sung_57 : decode cX9_sung 57 = .ok (.iaload, 1) := by decide +kernel
theorem dX9_sung_58 : decode cX9_sung 58 = .ok (.ireturn, 1) := by decide +kernel
theorem dX9_sung_59 : decode cX9_sung 59 = .ok (.aload_n 0, 1) := by decide +kernel
theorem dX9_sung_60 : decode cX9_sung 60 = .ok (.getfield 29, 3) := by decide +kernel
theorem dX9_sung_63 : decode cX9_sung 63 = .ok (.iload_n 1, 1) := by decide +kernel
theorem dX9_sung_64 : decode cX9_sung 64 = .ok (.iaload, 1) := by decide +kernel
theorem dX9_sung_65 : decode cX9_sung 65 = .ok (.ireturn, 1) := by decide +kernel
theorem dX9_sung_66 : decode cX9_sung 66 = .ok (.aload_n 0, 1) := by decide +kernel
theorem dX9_sung_67 : decode cX9_sung 67 = .ok (.iload_n 1, 1) := by decide +kernel
theorem dX9_sung_68 : decode cX9_sung 68 = .ok (.invokevirtual 163, 3) := by decide +kernel
theorem dX9_sung_71 : decode cX9_sung 71 = .ok (.ifCond .eq 7, 3) := by decide +kernel
theorem dX9_sung_74 : decode cX9_sung 74 = .ok (.iconst 1, 1) := by decide +kernel
theorem dX9_sung_75 : decode cX9_sung 75 = .ok (.goto 4, 3) := by decide +kernel
theorem dX9_sung_78 : decode cX9_sung 78 = .ok (.iconst 0, 1) := by decide +kernel
theorem dX9_sung_79 : decode cX9_sung 79 = .ok (.ireturn, 1) := by decide +kernel
theorem dX9_sung_80 : decode cX9_sung 80 = .ok (.bipush (-2), 2) := by decide +kernel
theorem dX9_sung_82 : decode cX9_sung 82 = .ok (.ireturn, 1) := by decide +kernel
theorem dX9_showingsOf_0 : decode cX9_showingsOf 0 = .ok (.iconst 0, 1) := by decide +kernel
theorem dX9_showingsOf_1 : decode cX9_showingsOf 1 = .ok (.istore_n 3, 1) := by decide +kernel
theorem dX9_showingsOf_2 : decode cX9_showingsOf 2 = .ok (.iconst 0, 1) := by decide +kernel
theorem dX9_showingsOf_3 : decode cX9_showingsOf 3 = .ok (.istore 4, 2) := by decide +kernel
theorem dX9_showingsOf_5 : decode cX9_showingsOf 5 = .ok (.iload 4, 2) := by decide +kernel
theorem dX9_showingsOf_7 : decode cX9_showingsOf 7 = .ok (.aload_n 0, 1) := by decide +kernel
theorem dX9_showingsOf_8 : decode cX9_showingsOf 8 = .ok (.getfield 102, 3) := by decide +kernel
theorem dX9_showingsOf_11 : decode cX9_showingsOf 11 = .ok (.if_icmp .ge 90, 3) := by decide +kernel
theorem dX9_showingsOf_14 : decode cX9_showingsOf 14 = .ok (.aload_n 0, 1) := by decide +kernel
theorem dX9_showingsOf_15 : decode cX9_showingsOf 15 = .ok (.getfield 44, 3) := by decide +kernel
theorem dX9_showingsOf_18 : decode cX9_showingsOf 18 = .ok (.iload 4, 2) := by decide +kernel
theorem dX9_showingsOf_20 : decode cX9_showingsOf 20 = .ok (.iaload, 1) := by decide +kernel
theorem dX9_showingsOf_21 : decode cX9_showingsOf 21 = .ok (.ifCond .ne 7, 3) := by decide +kernel
theorem dX9_showingsOf_24 : decode cX9_showingsOf 24 = .ok (.iconst 1, 1) := by decide +kernel
theorem dX9_showingsOf_25 : decode cX9_showingsOf 25 = .ok (.goto 4, 3) := by decide +kernel
theorem dX9_showingsOf_28 : decode cX9_showingsOf 28 = .ok (.iconst 0, 1) := by decide +kernel
theorem dX9_showingsOf_29 : decode cX9_showingsOf 29 = .ok (.istore 5, 2) := by decide +kernel
theorem dX9_showingsOf_31 : decode cX9_showingsOf 31 = .ok (.iload_n 2, 1) := by decide +kernel
theorem dX9_showingsOf_32 : decode cX9_showingsOf 32 = .ok (.iconst 4, 1) := by decide +kernel
theorem dX9_showingsOf_33 : decode cX9_showingsOf 33 = .ok (.if_icmp .ne 7, 3) := by decide +kernel
theorem dX9_showingsOf_36 : decode cX9_showingsOf 36 = .ok (.iconst 1, 1) := by decide +kernel
theorem dX9_showingsOf_37 : decode cX9_showingsOf 37 = .ok (.goto 36, 3) := by decide +kernel
theorem dX9_showingsOf_40 : decode cX9_showingsOf 40 = .ok (.iload 5, 2) := by decide +kernel
theorem dX9_showingsOf_42 : decode cX9_showingsOf 42 = .ok (.ifCond .ne 7, 3) := by decide +kernel
theorem dX9_showingsOf_45 : decode cX9_showingsOf 45 = .ok (.iconst 0, 1) := by decide +kernel
theorem dX9_showingsOf_46 : decode cX9_showingsOf 46 = .ok (.goto 27, 3) := by decide +kernel
theorem dX9_showingsOf_49 : decode cX9_showingsOf 49 = .ok (.iload_n 2, 1) := by decide +kernel
theorem dX9_showingsOf_50 : decode cX9_showingsOf 50 = .ok (.iconst 5, 1) := by decide +kernel
theorem dX9_showingsOf_51 : decode cX9_showingsOf 51 = .ok (.if_icmp .ne 7, 3) := by decide +kernel
theorem dX9_showingsOf_54 : decode cX9_showingsOf 54 = .ok (.iconst 1, 1) := by decide +kernel
theorem dX9_showingsOf_55 : decode cX9_showingsOf 55 = .ok (.goto 18, 3) := by decide +kernel
theorem dX9_showingsOf_58 : decode cX9_showingsOf 58 = .ok (.aload_n 0, 1) := by decide +kernel
theorem dX9_showingsOf_59 : decode cX9_showingsOf 59 = .ok (.getfield 50, 3) := by decide +kernel
theorem dX9_showingsOf_62 : decode cX9_showingsOf 62 = .ok (.iload 4, 2) := by decide +kernel
theorem dX9_showingsOf_64 : decode cX9_showingsOf 64 = .ok (.iaload, 1) := by decide +kernel
theorem dX9_showingsOf_65 : decode cX9_showingsOf 65 = .ok (.aload_n 0, 1) := by decide +kernel
theorem dX9_showingsOf_66 : decode cX9_showingsOf 66 = .ok (.getfield 47, 3) := by decide +kernel
theorem dX9_showingsOf_69 : decode cX9_showingsOf 69 = .ok (.iload 4, 2) := by decide +kernel
theorem dX9_showingsOf_71 : decode cX9_showingsOf 71 = .ok (.iaload, 1) := by decide +kernel
theorem dX9_showingsOf_72 : decode cX9_showingsOf 72 = .ok (.isub, 1) := by decide +kernel
theorem dX9_showingsOf_73 : decode cX9_showingsOf 73 = .ok (.istore 6, 2) := by decide +kernel
theorem dX9_showingsOf_75 : decode cX9_showingsOf 75 = .ok (.iload_n 3, 1) := by decide +kernel
theorem dX9_showingsOf_76 : decode cX9_showingsOf 76 = .ok (.aload_n 0, 1) := by decide +kernel
theorem dX9_showingsOf_77 : decode cX9_showingsOf 77 = .ok (.getfield 32, 3) := by decide +kernel
theorem dX9_showingsOf_80 : decode cX9_showingsOf 80 = .ok (.iload 4, 2) := by decide +kernel
theorem dX9_showingsOf_82 : decode cX9_showingsOf 82 = .ok (.iaload, 1) := by decide +kernel
theorem dX9_showingsOf_83 : decode cX9_showingsOf 83 = .ok (.iload_n 1, 1) := by decide +kernel
theorem dX9_showingsOf_84 : decode cX9_showingsOf 84 = .ok (.if_icmp .ne 8, 3) := by decide +kernel
theorem dX9_showingsOf_87 : decode cX9_showingsOf 87 = .ok (.iload 6, 2) := by decide +kernel
theorem dX9_showingsOf_89 : decode cX9_showingsOf 89 = .ok (.goto 4, 3) := by decide +kernel
theorem dX9_showingsOf_92 : decode cX9_showingsOf 92 = .ok (.iconst 0, 1) := by decide +kernel
theorem dX9_showingsOf_93 : decode cX9_showingsOf 93 = .ok (.iadd, 1) := by decide +kernel
theorem dX9_showingsOf_94 : decode cX9_showingsOf 94 = .ok (.istore_n 3, 1) := by decide +kernel
theorem dX9_showingsOf_95 : decode cX9_showingsOf 95 = .ok (.iinc 4 1, 3) := by decide +kernel
theorem dX9_showingsOf_98 : decode cX9_showingsOf 98 = .ok (.goto (-93), 3) := by decide +kernel
theorem dX9_showingsOf_101 : decode cX9_showingsOf 101 = .ok (.iload_n 3, 1) := by decide +kernel
theorem dX9_showingsOf_102 : decode cX9_showingsOf 102 = .ok (.ireturn, 1) := by decide +kernel
theorem dX9_ofTitle_0 : decode cX9_ofTitle 0 = .ok (.aload_n 0, 1) := by decide +kernel
theorem dX9_ofTitle_1 : decode cX9_ofTitle 1 = .ok (.iconst 0, 1) := by decide +kernel
theorem dX9_ofTitle_2 : decode cX9_ofTitle 2 = .ok (.putfield 56, 3) := by decide +kernel
theorem dX9_ofTitle_5 : decode cX9_ofTitle 5 = .ok (.iload_n 1, 1) := by decide +kernel
theorem dX9_ofTitle_6 : decode cX9_ofTitle 6 = .ok (.iconst 0, 1) := by decide +kernel
theorem dX9_ofTitle_7 : decode cX9_ofTitle 7 = .ok (.aload_n 0, 1) := by decide +kernel
theorem dX9_ofTitle_8 : decode cX9_ofTitle 8 = .ok (.getfield 7, 3) := by decide +kernel
theorem dX9_ofTitle_11 : decode cX9_ofTitle 11 = .ok (.iconst 5, 1) := by decide +kernel
theorem dX9_ofTitle_12 : decode cX9_ofTitle 12 = .ok (.iaload, 1) := by decide +kernel
theorem dX9_ofTitle_13 : decode cX9_ofTitle 13 = .ok (.iconst 1, 1) := by decide +kernel
theorem dX9_ofTitle_14 : decode cX9_ofTitle 14 = .ok (.isub, 1) := by decide +kernel
theorem dX9_ofTitle_15 : decode cX9_ofTitle 15 = .ok (.invokestatic 60, 3) := by decide +kernel
theorem dX9_ofTitle_18 : decode cX9_ofTitle 18 = .ok (.ifCond .ne 5, 3) := by decide +kernel
theorem dX9_ofTitle_21 : decode cX9_ofTitle 21 = .ok (.iconst (-1), 1) := by decide +kernel
theorem dX9_ofTitle_22 : decode cX9_ofTitle 22 = .ok (.ireturn, 1) := by decide +kernel
theorem dX9_ofTitle_23 : decode cX9_ofTitle 23 = .ok (.iload_n 2, 1) := by decide +kernel
theorem dX9_ofTitle_24 : decode cX9_ofTitle 24 = .ok (.iconst 0, 1) := by decide +kernel
theorem dX9_ofTitle_25 : decode cX9_ofTitle 25 = .ok (.iconst 3, 1) := by decide +kernel
theorem dX9_ofTitle_26 : decode cX9_ofTitle 26 = .ok (.invokestatic 60, 3) := by decide +kernel
theorem dX9_ofTitle_29 : decode cX9_ofTitle 29 = .ok (.ifCond .eq 10, 3) := by decide +kernel
theorem dX9_ofTitle_32 : decode cX9_ofTitle 32 = .ok (.aload_n 0, 1) := by decide +kernel
theorem dX9_ofTitle_33 : decode cX9_ofTitle 33 = .ok (.iload_n 1, 1) := by decide +kernel
theorem dX9_ofTitle_34 : decode cX9_ofTitle 34 = .ok (.iload_n 2, 1) := by decide +kernel
theorem dX9_ofTitle_35 : decode cX9_ofTitle 35 = .ok (.invokevirtual 89, 3) := by decide +kernel
theorem dX9_ofTitle_38 : decode cX9_ofTitle 38 = .ok (.ireturn, 1) := by decide +kernel
theorem dX9_ofTitle_39 : decode cX9_ofTitle 39 = .ok (.aload_n 0, 1) := by decide +kernel
theorem dX9_ofTitle_40 : decode cX9_ofTitle 40 = .ok (.invokevirtual 166, 3) := by decide +kernel
theorem dX9_ofTitle_43 : decode cX9_ofTitle 43 = .ok (.iload_n 2, 1) := by decide +kernel
theorem dX9_ofTitle_44 : decode cX9_ofTitle 44 = .ok (.iconst 4, 1) := by decide +kernel
theorem dX9_ofTitle_45 : decode cX9_ofTitle 45 = .ok (.bipush 6, 2) := by decide +kernel
theorem dX9_ofTitle_47 : decode cX9_ofTitle 47 = .ok (.invokestatic 60, 3) := by decide +kernel
theorem dX9_ofTitle_50 : decode cX9_ofTitle 50 = .ok (.ifCond .eq 12, 3) := by decide +kernel
theorem dX9_ofTitle_53 : decode cX9_ofTitle 53 = .ok (.aload_n 0, 1) := by decide +kernel
theorem dX9_ofTitle_54 : decode cX9_ofTitle 54 = .ok (.iload_n 1, 1) := by decide +kernel
theorem dX9_ofTitle_55 : decode cX9_ofTitle 55 = .ok (.iload_n 2, 1) := by decide +kernel
theorem dX9_ofTitle_56 : decode cX9_ofTitle 56 = .ok (.invokevirtual 169, 3) := by decide +kernel
theorem dX9_ofTitle_59 : decode cX9_ofTitle 59 = .ok (.goto 5, 3) := by decide +kernel
theorem dX9_ofTitle_62 : decode cX9_ofTitle 62 = .ok (.bipush (-2), 2) := by decide +kernel
theorem dX9_ofTitle_64 : decode cX9_ofTitle 64 = .ok (.ireturn, 1) := by decide +kernel
theorem dX9_speed_0 : decode cX9_speed 0 = .ok (.aload_n 0, 1) := by decide +kernel
theorem dX9_speed_1 : decode cX9_speed 1 = .ok (.getfield 44, 3) := by decide +kernel
theorem dX9_speed_4 : decode cX9_speed 4 = .ok (.iload_n 1, 1) := by decide +kernel
theorem dX9_speed_5 : decode cX9_speed 5 = .ok (.iaload, 1) := by decide +kernel
theorem dX9_speed_6 : decode cX9_speed 6 = .ok (.ifCond .eq 6, 3) := by decide +kernel
theorem dX9_speed_9 : decode cX9_speed 9 = .ok (.bipush (-6), 2) := by decide +kernel
theorem dX9_speed_11 : decode cX9_speed 11 = .ok (.ireturn, 1) := by decide +kernel
theorem dX9_speed_12 : decode cX9_speed 12 = .ok (.aload_n 0, 1) := by decide +kernel
theorem dX9_speed_13 : decode cX9_speed 13 = .ok (.getfield 50, 3) := by decide +kernel
theorem dX9_speed_16 : decode cX9_speed 16 = .ok (.iload_n 1, 1) := by decide +kernel
theorem dX9_speed_17 : decode cX9_speed 17 = .ok (.iaload, 1) := by decide +kernel
theorem dX9_speed_18 : decode cX9_speed 18 = .ok (.aload_n 0, 1) := by decide +kernel
theorem dX9_speed_19 : decode cX9_speed 19 = .ok (.getfield 47, 3) := by decide +kernel
theorem dX9_speed_22 : decode cX9_speed 22 = .ok (.iload_n 1, 1) := by decide +kernel
theorem dX9_speed_23 : decode cX9_speed 23 = .ok (.iaload, 1) := by decide +kernel
theorem dX9_speed_24 : decode cX9_speed 24 = .ok (.isub, 1) := by decide +kernel
theorem dX9_speed_25 : decode cX9_speed 25 = .ok (.istore_n 2, 1) := by decide +kernel
theorem dX9_speed_26 : decode cX9_speed 26 = .ok (.iload_n 2, 1) := by decide +kernel
theorem dX9_speed_27 : decode cX9_speed 27 = .ok (.ifCond .ne 9, 3) := by decide +kernel
theorem dX9_speed_30 : decode cX9_speed 30 = .ok (.sipush 999, 3) := by decide +kernel
theorem dX9_speed_33 : decode cX9_speed 33 = .ok (.goto 19, 3) := by decide +kernel
theorem dX9_speed_36 : decode cX9_speed 36 = .ok (.aload_n 0, 1) := by decide +kernel
theorem dX9_speed_37 : decode cX9_speed 37 = .ok (.aload_n 0, 1) := by decide +kernel
theorem dX9_speed_38 : decode cX9_speed 38 = .ok (.getfield 32, 3) := by decide +kernel
theorem dX9_speed_41 : decode cX9_speed 41 = .ok (.iload_n 1, 1) := by decide +kernel
theorem dX9_speed_42 : decode cX9_speed 42 = .ok (.iaload, 1) := by decide +kernel
theorem dX9_speed_43 : decode cX9_speed 43 = .ok (.iconst 3, 1) := by decide +kernel
theorem dX9_speed_44 : decode cX9_speed 44 = .ok (.invokevirtual 89, 3) := by decide +kernel
theorem dX9_speed_47 : decode cX9_speed 47 = .ok (.bipush 10, 2) := by decide +kernel
theorem dX9_speed_49 : decode cX9_speed 49 = .ok (.imul, 1) := by decide +kernel
theorem dX9_speed_50 : decode cX9_speed 50 = .ok (.iload_n 2, 1) := by decide +kernel
theorem dX9_speed_51 : decode cX9_speed 51 = .ok (.idiv, 1) := by decide +kernel
theorem dX9_speed_52 : decode cX9_speed 52 = .ok (.ireturn, 1) := by decide +kernel
theorem dX9_showing_0 : decode cX9_showing 0 = .ok (.aload_n 0, 1) := by decide +kernel
theorem dX9_showing_1 : decode cX9_showing 1 = .ok (.iconst 0, 1) := by decide +kernel
theorem dX9_showing_2 : decode cX9_showing 2 = .ok (.putfield 56, 3) := by decide +kernel
theorem dX9_showing_5 : decode cX9_showing 5 = .ok (.aload_n 0, 1) := by decide +kernel
theorem dX9_showing_6 : decode cX9_showing 6 = .ok (.invokevirtual 166, 3) := by decide +kernel
theorem dX9_showing_9 : decode cX9_showing 9 = .ok (.iload_n 1, 1) := by decide +kernel
theorem dX9_showing_10 : decode cX9_showing 10 = .ok (.iconst 0, 1) := by decide +kernel
theorem dX9_showing_11 : decode cX9_showing 11 = .ok (.aload_n 0, 1) := by decide +kernel
theorem dX9_showing_12 : decode cX9_showing 12 = .ok (.getfield 102, 3) := by decide +kernel
theorem dX9_showing_15 : decode cX9_showing 15 = .ok (.iconst 1, 1) := by decide +kernel
theorem dX9_showing_16 : decode cX9_showing 16 = .ok (.isub, 1) := by decide +kernel
theorem dX9_showing_17 : decode cX9_showing 17 = .ok (.invokestatic 60, 3) := by decide +kernel
theorem dX9_showing_20 : decode cX9_showing 20 = .ok (.ifCond .ne 5, 3) := by decide +kernel
theorem dX9_showing_23 : decode cX9_showing 23 = .ok (.iconst (-1), 1) := by decide +kernel
theorem dX9_showing_24 : decode cX9_showing 24 = .ok (.ireturn, 1) := by decide +kernel
theorem dX9_showing_25 : decode cX9_showing 25 = .ok (.iload_n 2, 1) := by decide +kernel
theorem dX9_showing_26 : decode cX9_showing 26 = .ok (.tableswitch 101 0 7 #[46, 53, 60, 67, 74, 81, 88, 95], 46) := by decide +kernel
theorem dX9_showing_72 : decode cX9_showing 72 = .ok (.aload_n 0, 1) := by decide +kernel
theorem dX9_showing_73 : decode cX9_showing 73 = .ok (.getfield 32, 3) := by decide +kernel
theorem dX9_showing_76 : decode cX9_showing 76 = .ok (.iload_n 1, 1) := by decide +kernel
theorem dX9_showing_77 : decode cX9_showing 77 = .ok (.iaload, 1) := by decide +kernel
theorem dX9_showing_78 : decode cX9_showing 78 = .ok (.ireturn, 1) := by decide +kernel
theorem dX9_showing_79 : decode cX9_showing 79 = .ok (.aload_n 0, 1) := by decide +kernel
theorem dX9_showing_80 : decode cX9_showing 80 = .ok (.getfield 35, 3) := by decide +kernel
theorem dX9_showing_83 : decode cX9_showing 83 = .ok (.iload_n 1, 1) := by decide +kernel
theorem dX9_showing_84 : decode cX9_showing 84 = .ok (.iaload, 1) := by decide +kernel
theorem dX9_showing_85 : decode cX9_showing 85 = .ok (.ireturn, 1) := by decide +kernel
theorem dX9_showing_86 : decode cX9_showing 86 = .ok (.aload_n 0, 1) := by decide +kernel
theorem dX9_showing_87 : decode cX9_showing 87 = .ok (.getfield 38, 3) := by decide +kernel
theorem dX9_showing_90 : decode cX9_showing 90 = .ok (.iload_n 1, 1) := by decide +kernel
theorem dX9_showing_91 : decode cX9_showing 91 = .ok (.iaload, 1) := by decide +kernel
theorem dX9_showing_92 : decode cX9_showing 92 = .ok (.ireturn, 1) := by decide +kernel
theorem dX9_showing_93 : decode cX9_showing 93 = .ok (.aload_n 0, 1) := by decide +kernel
theorem dX9_showing_94 : decode cX9_showing 94 = .ok (.getfield 41, 3) := by decide +kernel
theorem dX9_showing_97 : decode cX9_showing 97 = .ok (.iload_n 1, 1) := by decide +kernel
theorem dX9_showing_98 : decode cX9_showing 98 = .ok (.iaload, 1) := by decide +kernel
theorem dX9_showing_99 : decode cX9_showing 99 = .ok (.ireturn, 1) := by decide +kernel
theorem dX9_showing_100 : decode cX9_showing 100 = .ok (.aload_n 0, 1) := by decide +kernel
theorem dX9_showing_101 : decode cX9_showing 101 = .ok (.getfield 44, 3) := by decide +kernel
theorem dX9_showing_104 : decode cX9_showing 104 = .ok (.iload_n 1, 1) := by decide +kernel
theorem dX9_showing_105 : decode cX9_showing 105 = .ok (.iaload, 1) := by decide +kernel
theorem dX9_showing_106 : decode cX9_showing 106 = .ok (.ireturn, 1) := by decide +kernel
theorem dX9_showing_107 : decode cX9_showing 107 = .ok (.aload_n 0, 1) := by decide +kernel
theorem dX9_showing_108 : decode cX9_showing 108 = .ok (.getfield 47, 3) := by decide +kernel
theorem dX9_showing_111 : decode cX9_showing 111 = .ok (.iload_n 1, 1) := by decide +kernel
theorem dX9_showing_112 : decode cX9_showing 112 = .ok (.iaload, 1) := by decide +kernel
theorem dX9_showing_113 : decode cX9_showing 113 = .ok (.ireturn, 1) := by decide +kernel
theorem dX9_showing_114 : decode cX9_showing 114 = .ok (.aload_n 0, 1) := by decide +kernel
theorem dX9_showing_115 : decode cX9_showing 115 = .ok (.getfield 50, 3) := by decide +kernel
theorem dX9_showing_118 : decode cX9_showing 118 = .ok (.iload_n 1, 1) := by decide +kernel
theorem dX9_showing_119 : decode cX9_showing 119 = .ok (.iaload, 1) := by decide +kernel
theorem dX9_showing_120 : decode cX9_showing 120 = .ok (.ireturn, 1) := by decide +kernel
theorem dX9_showing_121 : decode cX9_showing 121 = .ok (.aload_n 0, 1) := by decide +kernel
theorem dX9_showing_122 : decode cX9_showing 122 = .ok (.iload_n 1, 1) := by decide +kernel
theorem dX9_showing_123 : decode cX9_showing 123 = .ok (.invokevirtual 172, 3) := by decide +kernel
theorem dX9_showing_126 : decode cX9_showing 126 = .ok (.ireturn, 1) := by decide +kernel
theorem dX9_showing_127 : decode cX9_showing 127 = .ok (.bipush (-2), 2) := by decide +kernel
theorem dX9_showing_129 : decode cX9_showing 129 = .ok (.ireturn, 1) := by decide +kernel
theorem dX9_at_0 : decode cX9_at 0 = .ok (.aload_n 0, 1) := by decide +kernel
theorem dX9_at_1 : decode cX9_at 1 = .ok (.iconst 0, 1) := by decide +kernel
theorem dX9_at_2 : decode cX9_at 2 = .ok (.putfield 56, 3) := by decide +kernel
theorem dX9_at_5 : decode cX9_at 5 = .ok (.iload_n 1, 1) := by decide +kernel
theorem dX9_at_6 : decode cX9_at 6 = .ok (.ifCond .ge 6, 3) := by decide +kernel
theorem dX9_at_9 : decode cX9_at 9 = .ok (.bipush (-2), 2) := by decide +kernel
theorem dX9_at_11 : decode cX9_at 11 = .ok (.ireturn, 1) := by decide +kernel
theorem dX9_at_12 : decode cX9_at 12 = .ok (.aload_n 0, 1) := by decide +kernel
theorem dX9_at_13 : decode cX9_at 13 = .ok (.invokevirtual 166, 3) := by decide +kernel
theorem dX9_at_16 : decode cX9_at 16 = .ok (.iconst 0, 1) := by decide +kernel
theorem dX9_at_17 : decode cX9_at 17 = .ok (.istore_n 2, 1) := by decide +kernel
theorem dX9_at_18 : decode cX9_at 18 = .ok (.iload_n 2, 1) := by decide +kernel
theorem dX9_at_19 : decode cX9_at 19 = .ok (.aload_n 0, 1) := by decide +kernel
theorem dX9_at_20 : decode cX9_at 20 = .ok (.getfield 102, 3) := by decide +kernel
theorem dX9_at_23 : decode cX9_at 23 = .ok (.if_icmp .ge 45, 3) := by decide +kernel
theorem dX9_at_26 : decode cX9_at 26 = .ok (.aload_n 0, 1) := by decide +kernel
theorem dX9_at_27 : decode cX9_at 27 = .ok (.getfield 44, 3) := by decide +kernel
theorem dX9_at_30 : decode cX9_at 30 = .ok (.iload_n 2, 1) := by decide +kernel
theorem dX9_at_31 : decode cX9_at 31 = .ok (.iaload, 1) := by decide +kernel
theorem dX9_at_32 : decode cX9_at 32 = .ok (.ifCond .ne 30, 3) := by decide +kernel
theorem dX9_at_35 : decode cX9_at 35 = .ok (.aload_n 0, 1) := by decide +kernel
theorem dX9_at_36 : decode cX9_at 36 = .ok (.getfield 47, 3) := by decide +kernel
theorem dX9_at_39 : decode cX9_at 39 = .ok (.iload_n 2, 1) := by decide +kernel
theorem dX9_at_40 : decode cX9_at 40 = .ok (.iaload, 1) := by decide +kernel
theorem dX9_at_41 : decode cX9_at 41 = .ok (.iload_n 1, 1) := by decide +kernel
theorem dX9_at_42 : decode cX9_at 42 = .ok (.if_icmp .gt 20, 3) := by decide +kernel
theorem dX9_at_45 : decode cX9_at 45 = .ok (.aload_n 0, 1) := by decide +kernel
theorem dX9_at_46 : decode cX9_at 46 = .ok (.getfield 50, 3) := by decide +kernel
theorem dX9_at_49 : decode cX9_at 49 = .ok (.iload_n 2, 1) := by decide +kernel
theorem dX9_at_50 : decode cX9_at 50 = .ok (.iaload, 1) := by decide +kernel
theorem dX9_at_51 : decode cX9_at 51 = .ok (.iload_n 1, 1) := by decide +kernel
theorem dX9_at_52 : decode cX9_at 52 = .ok (.if_icmp .le 10, 3) := by decide +kernel
theorem dX9_at_55 : decode cX9_at 55 = .ok (.aload_n 0, 1) := by decide +kernel
theorem dX9_at_56 : decode cX9_at 56 = .ok (.getfield 32, 3) := by decide +kernel
theorem dX9_at_59 : decode cX9_at 59 = .ok (.iload_n 2, 1) := by decide +kernel
theorem dX9_at_60 : decode cX9_at 60 = .ok (.iaload, 1) := by decide +kernel
theorem dX9_at_61 : decode cX9_at 61 = .ok (.ireturn, 1) := by decide +kernel
theorem dX9_at_62 : decode cX9_at 62 = .ok (.iinc 2 1, 3) := by decide +kernel
theorem dX9_at_65 : decode cX9_at 65 = .ok (.goto (-47), 3) := by decide +kernel
theorem dX9_at_68 : decode cX9_at 68 = .ok (.bipush (-6), 2) := by decide +kernel
theorem dX9_at_70 : decode cX9_at 70 = .ok (.ireturn, 1) := by decide +kernel
theorem dX9_shownTenths_0 : decode cX9_shownTenths 0 = .ok (.iconst 0, 1) := by decide +kernel
theorem dX9_shownTenths_1 : decode cX9_shownTenths 1 = .ok (.istore_n 1, 1) := by decide +kernel
theorem dX9_shownTenths_2 : decode cX9_shownTenths 2 = .ok (.iconst 0, 1) := by decide +kernel
theorem dX9_shownTenths_3 : decode cX9_shownTenths 3 = .ok (.istore_n 2, 1) := by decide +kernel
theorem dX9_shownTenths_4 : decode cX9_shownTenths 4 = .ok (.iload_n 2, 1) := by decide +kernel
theorem dX9_shownTenths_5 : decode cX9_shownTenths 5 = .ok (.aload_n 0, 1) := by decide +kernel
theorem dX9_shownTenths_6 : decode cX9_shownTenths 6 = .ok (.getfield 102, 3) := by decide +kernel
theorem dX9_shownTenths_9 : decode cX9_shownTenths 9 = .ok (.if_icmp .ge 38, 3) := by decide +kernel
theorem dX9_shownTenths_12 : decode cX9_shownTenths 12 = .ok (.iload_n 1, 1) := by decide +kernel
theorem dX9_shownTenths_13 : decode cX9_shownTenths 13 = .ok (.aload_n 0, 1) := by decide +kernel
theorem dX9_shownTenths_14 : decode cX9_shownTenths 14 = .ok (.getfield 44, 3) := by decide +kernel
theorem dX9_shownTenths_17 : decode cX9_shownTenths 17 = .ok (.iload_n 2, 1) := by decide +kernel
theorem dX9_shownTenths_18 : decode cX9_shownTenths 18 = .ok (.iaload, 1) := by decide +kernel
theorem dX9_shownTenths_19 : decode cX9_shownTenths 19 = .ok (.ifCond .ne 19, 3) := by decide +kernel
theorem dX9_shownTenths_22 : decode cX9_shownTenths 22 = .ok (.aload_n 0, 1) := by decide +kernel
theorem dX9_shownTenths_23 : decode cX9_shownTenths 23 = .ok (.getfield 50, 3) := by decide +kernel
theorem dX9_shownTenths_26 : decode cX9_shownTenths 26 = .ok (.iload_n 2, 1) := by decide +kernel
theorem dX9_shownTenths_27 : decode cX9_shownTenths 27 = .ok (.iaload, 1) := by decide +kernel
theorem dX9_shownTenths_28 : decode cX9_shownTenths 28 = .ok (.aload_n 0, 1) := by decide +kernel
theorem dX9_shownTenths_29 : decode cX9_shownTenths 29 = .ok (.getfield 47, 3) := by decide +kernel
theorem dX9_shownTenths_32 : decode cX9_shownTenths 32 = .ok (.iload_n 2, 1) := by decide +kernel
theorem dX9_shownTenths_33 : decode cX9_shownTenths 33 = .ok (.iaload, 1) := by decide +kernel
theorem dX9_shownTenths_34 : decode cX9_shownTenths 34 = .ok (.isub, 1) := by decide +kernel
theorem dX9_shownTenths_35 : decode cX9_shownTenths 35 = .ok (.goto 4, 3) := by decide +kernel
theorem dX9_shownTenths_38 : decode cX9_shownTenths 38 = .ok (.iconst 0, 1) := by decide +kernel
theorem dX9_shownTenths_39 : decode cX9_shownTenths 39 = .ok (.iadd, 1) := by decide +kernel
theorem dX9_shownTenths_40 : decode cX9_shownTenths 40 = .ok (.istore_n 1, 1) := by decide +kernel
theorem dX9_shownTenths_41 : decode cX9_shownTenths 41 = .ok (.iinc 2 1, 3) := by decide +kernel
theorem dX9_shownTenths_44 : decode cX9_shownTenths 44 = .ok (.goto (-40), 3) := by decide +kernel
theorem dX9_shownTenths_47 : decode cX9_shownTenths 47 = .ok (.iload_n 1, 1) := by decide +kernel
theorem dX9_shownTenths_48 : decode cX9_shownTenths 48 = .ok (.ireturn, 1) := by decide +kernel
theorem dX9_count_0 : decode cX9_count 0 = .ok (.aload_n 0, 1) := by decide +kernel
theorem dX9_count_1 : decode cX9_count 1 = .ok (.iconst 0, 1) := by decide +kernel
theorem dX9_count_2 : decode cX9_count 2 = .ok (.putfield 56, 3) := by decide +kernel
theorem dX9_count_5 : decode cX9_count 5 = .ok (.aload_n 0, 1) := by decide +kernel
theorem dX9_count_6 : decode cX9_count 6 = .ok (.invokevirtual 166, 3) := by decide +kernel
theorem dX9_count_9 : decode cX9_count 9 = .ok (.iload_n 1, 1) := by decide +kernel
theorem dX9_count_10 : decode cX9_count 10 = .ok (.tableswitch 155 0 14 #[74, 81, 88, 95, 102, 109, 116, 121, 126, 131, 131, 131, 140, 145, 150], 74) := by decide +kernel
theorem dX9_count_84 : decode cX9_count 84 = .ok (.aload_n 0, 1) := by decide +kernel
theorem dX9_count_85 : decode cX9_count 85 = .ok (.getfield 7, 3) := by decide +kernel
theorem dX9_count_88 : decode cX9_count 88 = .ok (.iconst 0, 1) := by decide +kernel
theorem dX9_count_89 : decode cX9_count 89 = .ok (.iaload, 1) := by decide +kernel
theorem dX9_count_90 : decode cX9_count 90 = .ok (.ireturn, 1) := by decide +kernel
theorem dX9_count_91 : decode cX9_count 91 = .ok (.aload_n 0, 1) := by decide +kernel
theorem dX9_count_92 : decode cX9_count 92 = .ok (.getfield 7, 3) := by decide +kernel
theorem dX9_count_95 : decode cX9_count 95 = .ok (.iconst 2, 1) := by decide +kernel
theorem dX9_count_96 : decode cX9_count 96 = .ok (.iaload, 1) := by decide +kernel
theorem dX9_count_97 : decode cX9_count 97 = .ok (.ireturn, 1) := by decide +kernel
theorem dX9_count_98 : decode cX9_count 98 = .ok (.aload_n 0, 1) := by decide +kernel
theorem dX9_count_99 : decode cX9_count 99 = .ok (.getfield 7, 3) := by decide +kernel
theorem dX9_count_102 : decode cX9_count 102 = .ok (.iconst 3, 1) := by decide +kernel
theorem dX9_count_103 : decode cX9_count 103 = .ok (.iaload, 1) := by decide +kernel
theorem dX9_count_104 : decode cX9_count 104 = .ok (.ireturn, 1) := by decide +kernel
theorem dX9_count_105 : decode cX9_count 105 = .ok (.aload_n 0, 1) := by decide +kernel
theorem dX9_count_106 : decode cX9_count 106 = .ok (.getfield 7, 3) := by decide +kernel
theorem dX9_count_109 : decode cX9_count 109 = .ok (.iconst 4, 1) := by decide +kernel
theorem dX9_count_110 : decode cX9_count 110 = .ok (.iaload, 1) := by decide +kernel
theorem dX9_count_111 : decode cX9_count 111 = .ok (.ireturn, 1) := by decide +kernel
theorem dX9_count_112 : decode cX9_count 112 = .ok (.aload_n 0, 1) := by decide +kernel
theorem dX9_count_113 : decode cX9_count 113 = .ok (.getfield 7, 3) := by decide +kernel
theorem dX9_count_116 : decode cX9_count 116 = .ok (.iconst 5, 1) := by decide +kernel
theorem dX9_count_117 : decode cX9_count 117 = .ok (.iaload, 1) := by decide +kernel
theorem dX9_count_118 : decode cX9_count 118 = .ok (.ireturn, 1) := by decide +kernel
theorem dX9_count_119 : decode cX9_count 119 = .ok (.aload_n 0, 1) := by decide +kernel
theorem dX9_count_120 : decode cX9_count 120 = .ok (.getfield 7, 3) := by decide +kernel
theorem dX9_count_123 : decode cX9_count 123 = .ok (.iconst 1, 1) := by decide +kernel
theorem dX9_count_124 : decode cX9_count 124 = .ok (.iaload, 1) := by decide +kernel
theorem dX9_count_125 : decode cX9_count 125 = .ok (.ireturn, 1) := by decide +kernel
theorem dX9_count_126 : decode cX9_count 126 = .ok (.aload_n 0, 1) := by decide +kernel
theorem dX9_count_127 : decode cX9_count 127 = .ok (.getfield 71, 3) := by decide +kernel
theorem dX9_count_130 : decode cX9_count 130 = .ok (.ireturn, 1) := by decide +kernel
theorem dX9_count_131 : decode cX9_count 131 = .ok (.aload_n 0, 1) := by decide +kernel
theorem dX9_count_132 : decode cX9_count 132 = .ok (.getfield 74, 3) := by decide +kernel
theorem dX9_count_135 : decode cX9_count 135 = .ok (.ireturn, 1) := by decide +kernel
theorem dX9_count_136 : decode cX9_count 136 = .ok (.aload_n 0, 1) := by decide +kernel
theorem dX9_count_137 : decode cX9_count 137 = .ok (.getfield 102, 3) := by decide +kernel
theorem dX9_count_140 : decode cX9_count 140 = .ok (.ireturn, 1) := by decide +kernel
theorem dX9_count_141 : decode cX9_count 141 = .ok (.aload_n 0, 1) := by decide +kernel
theorem dX9_count_142 : decode cX9_count 142 = .ok (.iload_n 1, 1) := by decide +kernel
theorem dX9_count_143 : decode cX9_count 143 = .ok (.bipush 9, 2) := by decide +kernel
theorem dX9_count_145 : decode cX9_count 145 = .ok (.isub, 1) := by decide +kernel
theorem dX9_count_146 : decode cX9_count 146 = .ok (.invokevirtual 175, 3) := by decide +kernel
theorem dX9_count_149 : decode cX9_count 149 = .ok (.ireturn, 1) := by decide +kernel
theorem dX9_count_150 : decode cX9_count 150 = .ok (.aload_n 0, 1) := by decide +kernel
theorem dX9_count_151 : decode cX9_count 151 = .ok (.invokevirtual 178, 3) := by decide +kernel
theorem dX9_count_154 : decode cX9_count 154 = .ok (.ireturn, 1) := by decide +kernel
theorem dX9_count_155 : decode cX9_count 155 = .ok (.aload_n 0, 1) := by decide +kernel
theorem dX9_count_156 : decode cX9_count 156 = .ok (.getfield 182, 3) := by decide +kernel
theorem dX9_count_159 : decode cX9_count 159 = .ok (.ireturn, 1) := by decide +kernel
theorem dX9_count_160 : decode cX9_count 160 = .ok (.aload_n 0, 1) := by decide +kernel
theorem dX9_count_161 : decode cX9_count 161 = .ok (.getfield 64, 3) := by decide +kernel
theorem dX9_count_164 : decode cX9_count 164 = .ok (.ireturn, 1) := by decide +kernel
theorem dX9_count_165 : decode cX9_count 165 = .ok (.bipush (-2), 2) := by decide +kernel
theorem dX9_count_167 : decode cX9_count 167 = .ok (.ireturn, 1) := by decide +kernel
theorem dX9_cutIf_0 : decode cX9_cutIf 0 = .ok (.aload_n 0, 1) := by decide +kernel
theorem dX9_cutIf_1 : decode cX9_cutIf 1 = .ok (.iconst 0, 1) := by decide +kernel
theorem dX9_cutIf_2 : decode cX9_cutIf 2 = .ok (.putfield 56, 3) := by decide +kernel
theorem dX9_cutIf_5 : decode cX9_cutIf 5 = .ok (.aload_n 0, 1) := by decide +kernel
theorem dX9_cutIf_6 : decode cX9_cutIf 6 = .ok (.iload_n 1, 1) := by decide +kernel
theorem dX9_cutIf_7 : decode cX9_cutIf 7 = .ok (.invokevirtual 130, 3) := by decide +kernel
theorem dX9_cutIf_10 : decode cX9_cutIf 10 = .ok (.ifCond .eq 11, 3) := by decide +kernel
theorem dX9_cutIf_13 : decode cX9_cutIf 13 = .ok (.aload_n 0, 1) := by decide +kernel
theorem dX9_cutIf_14 : decode cX9_cutIf 14 = .ok (.iload_n 2, 1) := by decide +kernel
theorem dX9_cutIf_15 : decode cX9_cutIf 15 = .ok (.invokevirtual 130, 3) := by decide +kernel
theorem dX9_cutIf_18 : decode cX9_cutIf 18 = .ok (.ifCond .ne 5, 3) := by decide +kernel
theorem dX9_cutIf_21 : decode cX9_cutIf 21 = .ok (.iconst (-1), 1) := by decide +kernel
theorem dX9_cutIf_22 : decode cX9_cutIf 22 = .ok (.ireturn, 1) := by decide +kernel
theorem dX9_cutIf_23 : decode cX9_cutIf 23 = .ok (.iload_n 2, 1) := by decide +kernel
theorem dX9_cutIf_24 : decode cX9_cutIf 24 = .ok (.iload_n 1, 1) := by decide +kernel
theorem dX9_cutIf_25 : decode cX9_cutIf 25 = .ok (.if_icmp .lt 12, 3) := by decide +kernel
theorem dX9_cutIf_28 : decode cX9_cutIf 28 = .ok (.iload_n 3, 1) := by decide +kernel
theorem dX9_cutIf_29 : decode cX9_cutIf 29 = .ok (.iconst 0, 1) := by decide +kernel
theorem dX9_cutIf_30 : decode cX9_cutIf 30 = .ok (.iconst 1, 1) := by decide +kernel
theorem dX9_cutIf_31 : decode cX9_cutIf 31 = .ok (.invokestatic 60, 3) := by decide +kernel
theorem dX9_cutIf_34 : decode cX9_cutIf 34 = .ok (.ifCond .ne 6, 3) := by decide +kernel
theorem dX9_cutIf_37 : decode cX9_cutIf 37 = .ok (.bipush (-2), 2) := by decide +kernel
theorem dX9_cutIf_39 : decode cX9_cutIf 39 = .ok (.ireturn, 1) := by decide +kernel
theorem dX9_cutIf_40 : decode cX9_cutIf 40 = .ok (.aload_n 0, 1) := by decide +kernel
theorem dX9_cutIf_41 : decode cX9_cutIf 41 = .ok (.getfield 7, 3) := by decide +kernel
theorem dX9_cutIf_44 : decode cX9_cutIf 44 = .ok (.iconst 3, 1) := by decide +kernel
theorem dX9_cutIf_45 : decode cX9_cutIf 45 = .ok (.iaload, 1) := by decide +kernel
theorem dX9_cutIf_46 : decode cX9_cutIf 46 = .ok (.iconst 4, 1) := by decide +kernel
theorem dX9_cutIf_47 : decode cX9_cutIf 47 = .ok (.if_icmp .ne 6, 3) := by decide +kernel
theorem dX9_cutIf_50 : decode cX9_cutIf 50 = .ok (.bipush (-4), 2) := by decide +kernel
theorem dX9_cutIf_52 : decode cX9_cutIf 52 = .ok (.ireturn, 1) := by decide +kernel
theorem dX9_cutIf_53 : decode cX9_cutIf 53 = .ok (.aload_n 0, 1) := by decide +kernel
theorem dX9_cutIf_54 : decode cX9_cutIf 54 = .ok (.invokevirtual 166, 3) := by decide +kernel
theorem dX9_cutIf_57 : decode cX9_cutIf 57 = .ok (.aload_n 0, 1) := by decide +kernel
theorem dX9_cutIf_58 : decode cX9_cutIf 58 = .ok (.getfield 74, 3) := by decide +kernel
theorem dX9_cutIf_61 : decode cX9_cutIf 61 = .ok (.istore 4, 2) := by decide +kernel
theorem dX9_cutIf_63 : decode cX9_cutIf 63 = .ok (.aload_n 0, 1) := by decide +kernel
theorem dX9_cutIf_64 : decode cX9_cutIf 64 = .ok (.invokevirtual 185, 3) := by decide +kernel
theorem dX9_cutIf_67 : decode cX9_cutIf 67 = .ok (.istore 5, 2) := by decide +kernel
theorem dX9_cutIf_69 : decode cX9_cutIf 69 = .ok (.aload_n 0, 1) := by decide +kernel
theorem dX9_cutIf_70 : decode cX9_cutIf 70 = .ok (.sipush 134, 3) := by decide +kernel
theorem dX9_cutIf_73 : decode cX9_cutIf 73 = .ok (.iconst 3, 1) := by decide +kernel
theorem dX9_cutIf_74 : decode cX9_cutIf 74 = .ok (.iload_n 1, 1) := by decide +kernel
theorem dX9_cutIf_75 : decode cX9_cutIf 75 = .ok (.iload_n 2, 1) := by decide +kernel
theorem dX9_cutIf_76 : decode cX9_cutIf 76 = .ok (.invokevirtual 147, 3) := by decide +kernel
theorem dX9_cutIf_79 : decode cX9_cutIf 79 = .ok (.pop, 1) := by decide +kernel
theorem dX9_cutIf_80 : decode cX9_cutIf 80 = .ok (.aload_n 0, 1) := by decide +kernel
theorem dX9_cutIf_81 : decode cX9_cutIf 81 = .ok (.invokevirtual 166, 3) := by decide +kernel
theorem dX9_cutIf_84 : decode cX9_cutIf 84 = .ok (.aload_n 0, 1) := by decide +kernel
theorem dX9_cutIf_85 : decode cX9_cutIf 85 = .ok (.invokevirtual 185, 3) := by decide +kernel
theorem dX9_cutIf_88 : decode cX9_cutIf 88 = .ok (.istore 6, 2) := by decide +kernel
theorem dX9_cutIf_90 : decode cX9_cutIf 90 = .ok (.aload_n 0, 1) := by decide +kernel
theorem dX9_cutIf_91 : decode cX9_cutIf 91 = .ok (.getfield 7, 3) := by decide +kernel
theorem dX9_cutIf_94 : decode cX9_cutIf 94 = .ok (.iconst 3, 1) := by decide +kernel
theorem dX9_cutIf_95 : decode cX9_cutIf 95 = .ok (.dup2, 1) := by decide +kernel
theorem dX9_cutIf_96 : decode cX9_cutIf 96 = .ok (.iaload, 1) := by decide +kernel
theorem dX9_cutIf_97 : decode cX9_cutIf 97 = .ok (.iconst 1, 1) := by decide +kernel
theorem dX9_cutIf_98 : decode cX9_cutIf 98 = .ok (.isub, 1) := by decide +kernel
theorem dX9_cutIf_99 : decode cX9_cutIf 99 = .ok (.iastore, 1) := by decide +kernel
theorem dX9_cutIf_100 : decode cX9_cutIf 100 = .ok (.aload_n 0, 1) := by decide +kernel
theorem dX9_cutIf_101 : decode cX9_cutIf 101 = .ok (.getfield 7, 3) := by decide +kernel
theorem dX9_cutIf_104 : decode cX9_cutIf 104 = .ok (.sipush 134, 3) := by decide +kernel
theorem dX9_cutIf_107 : decode cX9_cutIf 107 = .ok (.iconst 2, 1) := by decide +kernel
theorem dX9_cutIf_108 : decode cX9_cutIf 108 = .ok (.aload_n 0, 1) := by decide +kernel
theorem dX9_cutIf_109 : decode cX9_cutIf 109 = .ok (.getfield 7, 3) := by decide +kernel
theorem dX9_cutIf_112 : decode cX9_cutIf 112 = .ok (.iconst 3, 1) := by decide +kernel
theorem dX9_cutIf_113 : decode cX9_cutIf 113 = .ok (.iaload, 1) := by decide +kernel
theorem dX9_cutIf_114 : decode cX9_cutIf 114 = .ok (.imul, 1) := by decide +kernel
theorem dX9_cutIf_115 : decode cX9_cutIf 115 = .ok (.iadd, 1) := by decide +kernel
theorem dX9_cutIf_116 : decode cX9_cutIf 116 = .ok (.iconst 0, 1) := by decide +kernel
theorem dX9_cutIf_117 : decode cX9_cutIf 117 = .ok (.iastore, 1) := by decide +kernel
theorem dX9_cutIf_118 : decode cX9_cutIf 118 = .ok (.aload_n 0, 1) := by decide +kernel
theorem dX9_cutIf_119 : decode cX9_cutIf 119 = .ok (.getfield 7, 3) := by decide +kernel
theorem dX9_cutIf_122 : decode cX9_cutIf 122 = .ok (.sipush 134, 3) := by decide +kernel
theorem dX9_cutIf_125 : decode cX9_cutIf 125 = .ok (.iconst 2, 1) := by decide +kernel
theorem dX9_cutIf_126 : decode cX9_cutIf 126 = .ok (.aload_n 0, 1) := by decide +kernel
theorem dX9_cutIf_127 : decode cX9_cutIf 127 = .ok (.getfield 7, 3) := by decide +kernel
theorem dX9_cutIf_130 : decode cX9_cutIf 130 = .ok (.iconst 3, 1) := by decide +kernel
theorem dX9_cutIf_131 : decode cX9_cutIf 131 = .ok (.iaload, 1) := by decide +kernel
theorem dX9_cutIf_132 : decode cX9_cutIf 132 = .ok (.imul, 1) := by decide +kernel
theorem dX9_cutIf_133 : decode cX9_cutIf 133 = .ok (.iadd, 1) := by decide +kernel
theorem dX9_cutIf_134 : decode cX9_cutIf 134 = .ok (.iconst 1, 1) := by decide +kernel
theorem dX9_cutIf_135 : decode cX9_cutIf 135 = .ok (.iadd, 1) := by decide +kernel
theorem dX9_cutIf_136 : decode cX9_cutIf 136 = .ok (.iconst 0, 1) := by decide +kernel
theorem dX9_cutIf_137 : decode cX9_cutIf 137 = .ok (.iastore, 1) := by decide +kernel
theorem dX9_cutIf_138 : decode cX9_cutIf 138 = .ok (.iload_n 3, 1) := by decide +kernel
theorem dX9_cutIf_139 : decode cX9_cutIf 139 = .ok (.ifCond .ne 13, 3) := by decide +kernel
theorem dX9_cutIf_142 : decode cX9_cutIf 142 = .ok (.iload 4, 2) := by decide +kernel
theorem dX9_cutIf_144 : decode cX9_cutIf 144 = .ok (.aload_n 0, 1) := by decide +kernel
theorem dX9_cutIf_145 : decode cX9_cutIf 145 = .ok (.getfield 74, 3) := by decide +kernel
theorem dX9_cutIf_148 : decode cX9_cutIf 148 = .ok (.isub, 1) := by decide +kernel
theorem dX9_cutIf_149 : decode cX9_cutIf 149 = .ok (.goto 10, 3) := by decide +kernel
theorem dX9_cutIf_152 : decode cX9_cutIf 152 = .ok (.iload 5, 2) := by decide +kernel
theorem dX9_cutIf_154 : decode cX9_cutIf 154 = .ok (.iload 6, 2) := by decide +kernel
theorem dX9_cutIf_156 : decode cX9_cutIf 156 = .ok (.iconst (-1), 1) := by decide +kernel
theorem dX9_cutIf_157 : decode cX9_cutIf 157 = .ok (.ixor, 1) := by decide +kernel
theorem dX9_cutIf_158 : decode cX9_cutIf 158 = .ok (.iand, 1) := by decide +kernel
theorem dX9_cutIf_159 : decode cX9_cutIf 159 = .ok (.ireturn, 1) := by decide +kernel
theorem dX9_nightAt_0 : decode cX9_nightAt 0 = .ok (.iconst 0, 1) := by decide +kernel
theorem dX9_nightAt_1 : decode cX9_nightAt 1 = .ok (.istore_n 2, 1) := by decide +kernel
theorem dX9_nightAt_2 : decode cX9_nightAt 2 = .ok (.iconst 0, 1) := by decide +kernel
theorem dX9_nightAt_3 : decode cX9_nightAt 3 = .ok (.istore_n 3, 1) := by decide +kernel
theorem dX9_nightAt_4 : decode cX9_nightAt 4 = .ok (.iload_n 3, 1) := by decide +kernel
theorem dX9_nightAt_5 : decode cX9_nightAt 5 = .ok (.aload_n 0, 1) := by decide +kernel
theorem dX9_nightAt_6 : decode cX9_nightAt 6 = .ok (.getfield 71, 3) := by decide +kernel
theorem dX9_nightAt_9 : decode cX9_nightAt 9 = .ok (.if_icmp .ge 32, 3) := by decide +kernel
theorem dX9_nightAt_12 : decode cX9_nightAt 12 = .ok (.iload_n 2, 1) := by decide +kernel
theorem dX9_nightAt_13 : decode cX9_nightAt 13 = .ok (.sipush 600, 3) := by decide +kernel
theorem dX9_nightAt_16 : decode cX9_nightAt 16 = .ok (.aload_n 0, 1) := by decide +kernel
theorem dX9_nightAt_17 : decode cX9_nightAt 17 = .ok (.getfield 7, 3) := by decide +kernel
theorem dX9_nightAt_20 : decode cX9_nightAt 20 = .ok (.bipush 6, 2) := by decide +kernel
theorem dX9_nightAt_22 : decode cX9_nightAt 22 = .ok (.aload_n 0, 1) := by decide +kernel
theorem dX9_nightAt_23 : decode cX9_nightAt 23 = .ok (.getfield 26, 3) := by decide +kernel
theorem dX9_nightAt_26 : decode cX9_nightAt 26 = .ok (.iload_n 3, 1) := by decide +kernel
theorem dX9_nightAt_27 : decode cX9_nightAt 27 = .ok (.iaload, 1) := by decide +kernel
theorem dX9_nightAt_28 : decode cX9_nightAt 28 = .ok (.iadd, 1) := by decide +kernel
theorem dX9_nightAt_29 : decode cX9_nightAt 29 = .ok (.iaload, 1) := by decide +kernel
theorem dX9_nightAt_30 : decode cX9_nightAt 30 = .ok (.imul, 1) := by decide +kernel
theorem dX9_nightAt_31 : decode cX9_nightAt 31 = .ok (.iload_n 1, 1) := by decide +kernel
theorem dX9_nightAt_32 : decode cX9_nightAt 32 = .ok (.idiv, 1) := by decide +kernel
theorem dX9_nightAt_33 : decode cX9_nightAt 33 = .ok (.iadd, 1) := by decide +kernel
theorem dX9_nightAt_34 : decode cX9_nightAt 34 = .ok (.istore_n 2, 1) := by decide +kernel
theorem dX9_nightAt_35 : decode cX9_nightAt 35 = .ok (.iinc 3 1, 3) := by decide +kernel
theorem dX9_nightAt_38 : decode cX9_nightAt 38 = .ok (.goto (-34), 3) := by decide +kernel
theorem dX9_nightAt_41 : decode cX9_nightAt 41 = .ok (.iload_n 2, 1) := by decide +kernel
theorem dX9_nightAt_42 : decode cX9_nightAt 42 = .ok (.ireturn, 1) := by decide +kernel
theorem dX9_slowest_0 : decode cX9_slowest 0 = .ok (.aload_n 0, 1) := by decide +kernel
theorem dX9_slowest_1 : decode cX9_slowest 1 = .ok (.iconst 0, 1) := by decide +kernel
theorem dX9_slowest_2 : decode cX9_slowest 2 = .ok (.putfield 56, 3) := by decide +kernel
theorem dX9_slowest_5 : decode cX9_slowest 5 = .ok (.iload_n 1, 1) := by decide +kernel
theorem dX9_slowest_6 : decode cX9_slowest 6 = .ok (.ifCond .ge 6, 3) := by decide +kernel
theorem dX9_slowest_9 : decode cX9_slowest 9 = .ok (.bipush (-2), 2) := by decide +kernel
theorem dX9_slowest_11 : decode cX9_slowest 11 = .ok (.ireturn, 1) := by decide +kernel
theorem dX9_slowest_12 : decode cX9_slowest 12 = .ok (.aload_n 0, 1) := by decide +kernel
theorem dX9_slowest_13 : decode cX9_slowest 13 = .ok (.invokevirtual 108, 3) := by decide +kernel
theorem dX9_slowest_16 : decode cX9_slowest 16 = .ok (.bipush 20, 2) := by decide +kernel
theorem dX9_slowest_18 : decode cX9_slowest 18 = .ok (.istore_n 2, 1) := by decide +kernel
theorem dX9_slowest_19 : decode cX9_slowest 19 = .ok (.iload_n 2, 1) := by decide +kernel
theorem dX9_slowest_20 : decode cX9_slowest 20 = .ok (.sipush 240, 3) := by decide +kernel
theorem dX9_slowest_23 : decode cX9_slowest 23 = .ok (.if_icmp .gt 20, 3) := by decide +kernel
theorem dX9_slowest_26 : decode cX9_slowest 26 = .ok (.aload_n 0, 1) := by decide +kernel
theorem dX9_slowest_27 : decode cX9_slowest 27 = .ok (.iload_n 2, 1) := by decide +kernel
theorem dX9_slowest_28 : decode cX9_slowest 28 = .ok (.invokevirtual 188, 3) := by decide +kernel
theorem dX9_slowest_31 : decode cX9_slowest 31 = .ok (.iload_n 1, 1) := by decide +kernel
theorem dX9_slowest_32 : decode cX9_slowest 32 = .ok (.if_icmp .gt 5, 3) := by decide +kernel
theorem dX9_slowest_35 : decode cX9_slowest 35 = .ok (.iload_n 2, 1) := by decide +kernel
theorem dX9_slowest_36 : decode cX9_slowest 36 = .ok (.ireturn, 1) := by decide +kernel
theorem dX9_slowest_37 : decode cX9_slowest 37 = .ok (.iinc 2 1, 3) := by decide +kernel
theorem dX9_slowest_40 : decode cX9_slowest 40 = .ok (.goto (-21), 3) := by decide +kernel
theorem dX9_slowest_43 : decode cX9_slowest 43 = .ok (.bipush (-6), 2) := by decide +kernel
theorem dX9_slowest_45 : decode cX9_slowest 45 = .ok (.ireturn, 1) := by decide +kernel
theorem dX9_put_0 : decode cX9_put 0 = .ok (.aload_n 0, 1) := by decide +kernel
theorem dX9_put_1 : decode cX9_put 1 = .ok (.iconst 0, 1) := by decide +kernel
theorem dX9_put_2 : decode cX9_put 2 = .ok (.putfield 56, 3) := by decide +kernel
theorem dX9_put_5 : decode cX9_put 5 = .ok (.iconst 0, 1) := by decide +kernel
theorem dX9_put_6 : decode cX9_put 6 = .ok (.istore_n 3, 1) := by decide +kernel
theorem dX9_put_7 : decode cX9_put 7 = .ok (.lload_n 1, 1) := by decide +kernel
theorem dX9_put_8 : decode cX9_put 8 = .ok (.lstore 4, 2) := by decide +kernel
theorem dX9_put_10 : decode cX9_put 10 = .ok (.iconst 1, 1) := by decide +kernel
theorem dX9_put_11 : decode cX9_put 11 = .ok (.istore 6, 2) := by decide +kernel
theorem dX9_put_13 : decode cX9_put 13 = .ok (.iload_n 3, 1) := by decide +kernel
theorem dX9_put_14 : decode cX9_put 14 = .ok (.bipush 8, 2) := by decide +kernel
theorem dX9_put_16 : decode cX9_put 16 = .ok (.if_icmp .ge 56, 3) := by decide +kernel
theorem dX9_put_19 : decode cX9_put 19 = .ok (.lload 4, 2) := by decide +kernel
theorem dX9_put_21 : decode cX9_put 21 = .ok (.ldc2_w 191, 3) := by decide +kernel
theorem dX9_put_24 : decode cX9_put 24 = .ok (.land, 1) := by decide +kernel
theorem dX9_put_25 : decode cX9_put 25 = .ok (.lconst 0, 1) := by decide +kernel
theorem dX9_put_26 : decode cX9_put 26 = .ok (.lcmp, 1) := by decide +kernel
theorem dX9_put_27 : decode cX9_put 27 = .ok (.ifCond .eq 45, 3) := by decide +kernel
theorem dX9_put_30 : decode cX9_put 30 = .ok (.iload 6, 2) := by decide +kernel
theorem dX9_put_32 : decode cX9_put 32 = .ok (.ifCond .eq 24, 3) := by decide +kernel
theorem dX9_put_35 : decode cX9_put 35 = .ok (.lload 4, 2) := by decide +kernel
theorem dX9_put_37 : decode cX9_put 37 = .ok (.ldc2_w 191, 3) := by decide +kernel
theorem dX9_put_40 : decode cX9_put 40 = .ok (.land, 1) := by decide +kernel
theorem dX9_put_41 : decode cX9_put 41 = .ok (.l2i, 1) := by decide +kernel
theorem dX9_put_42 : decode cX9_put 42 = .ok (.bipush 33, 2) := by decide +kernel
theorem dX9_put_44 : decode cX9_put 44 = .ok (.bipush 126, 2) := by decide +kernel
theorem dX9_put_46 : decode cX9_put 46 = .ok (.invokestatic 60, 3) := by decide +kernel
theorem dX9_put_49 : decode cX9_put 49 = .ok (.ifCond .eq 7, 3) := by decide +kernel
theorem dX9_put_52 : decode cX9_put 52 = .ok (.iconst 1, 1) := by decide +kernel
theorem dX9_put_53 : decode cX9_put 53 = .ok (.goto 4, 3) := by decide +kernel
theorem dX9_put_56 : decode cX9_put 56 = .ok (.iconst 0, 1) := by decide +kernel
theorem dX9_put_57 : decode cX9_put 57 = .ok (.istore 6, 2) := by decide +kernel
theorem dX9_put_59 : decode cX9_put 59 = .ok (.lload 4, 2) := by decide +kernel
theorem dX9_put_61 : decode cX9_put 61 = .ok (.bipush 8, 2) := by decide +kernel
theorem dX9_put_63 : decode cX9_put 63 = .ok (.lushr, 1) := by decide +kernel
theorem dX9_put_64 : decode cX9_put 64 = .ok (.lstore 4, 2) := by decide +kernel
theorem dX9_put_66 : decode cX9_put 66 = .ok (.iinc 3 1, 3) := by decide +kernel
theorem dX9_put_69 : decode cX9_put 69 = .ok (.goto (-56), 3) := by decide +kernel
theorem dX9_put_72 : decode cX9_put 72 = .ok (.iload_n 3, 1) := by decide +kernel
theorem dX9_put_73 : decode cX9_put 73 = .ok (.ifCond .eq 15, 3) := by decide +kernel
theorem dX9_put_76 : decode cX9_put 76 = .ok (.iload 6, 2) := by decide +kernel
theorem dX9_put_78 : decode cX9_put 78 = .ok (.ifCond .eq 10, 3) := by decide +kernel
theorem dX9_put_81 : decode cX9_put 81 = .ok (.lload 4, 2) := by decide +kernel
theorem dX9_put_83 : decode cX9_put 83 = .ok (.lconst 0, 1) := by decide +kernel
theorem dX9_put_84 : decode cX9_put 84 = .ok (.lcmp, 1) := by decide +kernel
theorem dX9_put_85 : decode cX9_put 85 = .ok (.ifCond .eq 6, 3) := by decide +kernel
theorem dX9_put_88 : decode cX9_put 88 = .ok (.bipush (-2), 2) := by decide +kernel
theorem dX9_put_90 : decode cX9_put 90 = .ok (.ireturn, 1) := by decide +kernel
theorem dX9_put_91 : decode cX9_put 91 = .ok (.aload_n 0, 1) := by decide +kernel
theorem dX9_put_92 : decode cX9_put 92 = .ok (.getfield 182, 3) := by decide +kernel
theorem dX9_put_95 : decode cX9_put 95 = .ok (.iload_n 3, 1) := by decide +kernel
theorem dX9_put_96 : decode cX9_put 96 = .ok (.iadd, 1) := by decide +kernel
theorem dX9_put_97 : decode cX9_put 97 = .ok (.bipush 80, 2) := by decide +kernel
theorem dX9_put_99 : decode cX9_put 99 = .ok (.if_icmp .le 6, 3) := by decide +kernel
theorem dX9_put_102 : decode cX9_put 102 = .ok (.bipush (-4), 2) := by decide +kernel
theorem dX9_put_104 : decode cX9_put 104 = .ok (.ireturn, 1) := by decide +kernel
theorem dX9_put_105 : decode cX9_put 105 = .ok (.iconst 0, 1) := by decide +kernel
theorem dX9_put_106 : decode cX9_put 106 = .ok (.istore 7, 2) := by decide +kernel
theorem dX9_put_108 : decode cX9_put 108 = .ok (.iload 7, 2) := by decide +kernel
theorem dX9_put_110 : decode cX9_put 110 = .ok (.iload_n 3, 1) := by decide +kernel
theorem dX9_put_111 : decode cX9_put 111 = .ok (.if_icmp .ge 37, 3) := by decide +kernel
theorem dX9_put_114 : decode cX9_put 114 = .ok (.aload_n 0, 1) := by decide +kernel
theorem dX9_put_115 : decode cX9_put 115 = .ok (.getfield 23, 3) := by decide +kernel
theorem dX9_put_118 : decode cX9_put 118 = .ok (.aload_n 0, 1) := by decide +kernel
theorem dX9_put_119 : decode cX9_put 119 = .ok (.getfield 182, 3) := by decide +kernel
theorem dX9_put_122 : decode cX9_put 122 = .ok (.iload 7, 2) := by decide +kernel
theorem dX9_put_124 : decode cX9_put 124 = .ok (.iadd, 1) := by decide +kernel
theorem dX9_put_125 : decode cX9_put 125 = .ok (.lload_n 1, 1) := by decide +kernel
theorem dX9_put_126 : decode cX9_put 126 = .ok (.bipush 8, 2) := by decide +kernel
theorem dX9_put_128 : decode cX9_put 128 = .ok (.iload_n 3, 1) := by decide +kernel
theorem dX9_put_129 : decode cX9_put 129 = .ok (.iconst 1, 1) := by decide +kernel
theorem dX9_put_130 : decode cX9_put 130 = .ok (.isub, 1) := by decide +kernel
theorem dX9_put_131 : decode cX9_put 131 = .ok (.iload 7, 2) := by decide +kernel
theorem dX9_put_133 : decode cX9_put 133 = .ok (.isub, 1) := by decide +kernel
theorem dX9_put_134 : decode cX9_put 134 = .ok (.imul, 1) := by decide +kernel
theorem dX9_put_135 : decode cX9_put 135 = .ok (.lushr, 1) := by decide +kernel
theorem dX9_put_136 : decode cX9_put 136 = .ok (.ldc2_w 191, 3) := by decide +kernel
theorem dX9_put_139 : decode cX9_put 139 = .ok (.land, 1) := by decide +kernel
theorem dX9_put_140 : decode cX9_put 140 = .ok (.l2i, 1) := by decide +kernel
theorem dX9_put_141 : decode cX9_put 141 = .ok (.iastore, 1) := by decide +kernel
theorem dX9_put_142 : decode cX9_put 142 = .ok (.iinc 7 1, 3) := by decide +kernel
theorem dX9_put_145 : decode cX9_put 145 = .ok (.goto (-37), 3) := by decide +kernel
theorem dX9_put_148 : decode cX9_put 148 = .ok (.aload_n 0, 1) := by decide +kernel
theorem dX9_put_149 : decode cX9_put 149 = .ok (.dup, 1) := by decide +kernel
theorem dX9_put_150 : decode cX9_put 150 = .ok (.getfield 182, 3) := by decide +kernel
theorem dX9_put_153 : decode cX9_put 153 = .ok (.iload_n 3, 1) := by decide +kernel
theorem dX9_put_154 : decode cX9_put 154 = .ok (.iadd, 1) := by decide +kernel
theorem dX9_put_155 : decode cX9_put 155 = .ok (.putfield 182, 3) := by decide +kernel
theorem dX9_put_158 : decode cX9_put 158 = .ok (.aload_n 0, 1) := by decide +kernel
theorem dX9_put_159 : decode cX9_put 159 = .ok (.getfield 182, 3) := by decide +kernel
theorem dX9_put_162 : decode cX9_put 162 = .ok (.ireturn, 1) := by decide +kernel
theorem dX9_wipe_0 : decode cX9_wipe 0 = .ok (.aload_n 0, 1) := by decide +kernel
theorem dX9_wipe_1 : decode cX9_wipe 1 = .ok (.iconst 0, 1) := by decide +kernel
theorem dX9_wipe_2 : decode cX9_wipe 2 = .ok (.putfield 56, 3) := by decide +kernel
theorem dX9_wipe_5 : decode cX9_wipe 5 = .ok (.aload_n 0, 1) := by decide +kernel
theorem dX9_wipe_6 : decode cX9_wipe 6 = .ok (.getfield 182, 3) := by decide +kernel
theorem dX9_wipe_9 : decode cX9_wipe 9 = .ok (.istore_n 1, 1) := by decide +kernel
theorem dX9_wipe_10 : decode cX9_wipe 10 = .ok (.aload_n 0, 1) := by decide +kernel
theorem dX9_wipe_11 : decode cX9_wipe 11 = .ok (.iconst 0, 1) := by decide +kernel
theorem dX9_wipe_12 : decode cX9_wipe 12 = .ok (.putfield 182, 3) := by decide +kernel
theorem dX9_wipe_15 : decode cX9_wipe 15 = .ok (.iload_n 1, 1) := by decide +kernel
theorem dX9_wipe_16 : decode cX9_wipe 16 = .ok (.ireturn, 1) := by decide +kernel
theorem dX9_sign_0 : decode cX9_sign 0 = .ok (.aload_n 0, 1) := by decide +kernel
theorem dX9_sign_1 : decode cX9_sign 1 = .ok (.getfield 193, 3) := by decide +kernel
theorem dX9_sign_4 : decode cX9_sign 4 = .ok (.aload_n 0, 1) := by decide +kernel
theorem dX9_sign_5 : decode cX9_sign 5 = .ok (.getfield 182, 3) := by decide +kernel
theorem dX9_sign_8 : decode cX9_sign 8 = .ok (.if_icmp .ge 15, 3) := by decide +kernel
theorem dX9_sign_11 : decode cX9_sign 11 = .ok (.aload_n 0, 1) := by decide +kernel
theorem dX9_sign_12 : decode cX9_sign 12 = .ok (.getfield 23, 3) := by decide +kernel
theorem dX9_sign_15 : decode cX9_sign 15 = .ok (.aload_n 0, 1) := by decide +kernel
theorem dX9_sign_16 : decode cX9_sign 16 = .ok (.getfield 193, 3) := by decide +kernel
theorem dX9_sign_19 : decode cX9_sign 19 = .ok (.iaload, 1) := by decide +kernel
theorem dX9_sign_20 : decode cX9_sign 20 = .ok (.goto 4, 3) := by decide +kernel
theorem dX9_sign_23 : decode cX9_sign 23 = .ok (.iconst 0, 1) := by decide +kernel
theorem dX9_sign_24 : decode cX9_sign 24 = .ok (.ireturn, 1) := by decide +kernel
theorem dX9_wants_0 : decode cX9_wants 0 = .ok (.aload_n 0, 1) := by decide +kernel
theorem dX9_wants_1 : decode cX9_wants 1 = .ok (.aload_n 0, 1) := by decide +kernel
theorem dX9_wants_2 : decode cX9_wants 2 = .ok (.getfield 196, 3) := by decide +kernel
theorem dX9_wants_5 : decode cX9_wants 5 = .ok (.ifCond .eq 15, 3) := by decide +kernel
theorem dX9_wants_8 : decode cX9_wants 8 = .ok (.aload_n 0, 1) := by decide +kernel
theorem dX9_wants_9 : decode cX9_wants 9 = .ok (.invokevirtual 200, 3) := by decide +kernel
theorem dX9_wants_12 : decode cX9_wants 12 = .ok (.iload_n 1, 1) := by decide +kernel
theorem dX9_wants_13 : decode cX9_wants 13 = .ok (.if_icmp .ne 7, 3) := by decide +kernel
theorem dX9_wants_16 : decode cX9_wants 16 = .ok (.iconst 1, 1) := by decide +kernel
theorem dX9_wants_17 : decode cX9_wants 17 = .ok (.goto 4, 3) := by decide +kernel
theorem dX9_wants_20 : decode cX9_wants 20 = .ok (.iconst 0, 1) := by decide +kernel
theorem dX9_wants_21 : decode cX9_wants 21 = .ok (.putfield 196, 3) := by decide +kernel
theorem dX9_wants_24 : decode cX9_wants 24 = .ok (.aload_n 0, 1) := by decide +kernel
theorem dX9_wants_25 : decode cX9_wants 25 = .ok (.dup, 1) := by decide +kernel
theorem dX9_wants_26 : decode cX9_wants 26 = .ok (.getfield 193, 3) := by decide +kernel
theorem dX9_wants_29 : decode cX9_wants 29 = .ok (.aload_n 0, 1) := by decide +kernel
theorem dX9_wants_30 : decode cX9_wants 30 = .ok (.getfield 196, 3) := by decide +kernel
theorem dX9_wants_33 : decode cX9_wants 33 = .ok (.ifCond .eq 7, 3) := by decide +kernel
theorem dX9_wants_36 : decode cX9_wants 36 = .ok (.iconst 1, 1) := by decide +kernel
theorem dX9_wants_37 : decode cX9_wants 37 = .ok (.goto 4, 3) := by decide +kernel
theorem dX9_wants_40 : decode cX9_wants 40 = .ok (.iconst 0, 1) := by decide +kernel
theorem dX9_wants_41 : decode cX9_wants 41 = .ok (.iadd, 1) := by decide +kernel
theorem dX9_wants_42 : decode cX9_wants 42 = .ok (.putfield 193, 3) := by decide +kernel
theorem dX9_wants_45 : decode cX9_wants 45 = .ok (.return_, 1) := by decide +kernel
theorem dX9_number_0 : decode cX9_number 0 = .ok (.aload_n 0, 1) := by decide +kernel
theorem dX9_number_1 : decode cX9_number 1 = .ok (.aload_n 0, 1) := by decide +kernel
theorem dX9_number_2 : decode cX9_number 2 = .ok (.getfield 196, 3) := by decide +kernel
theorem dX9_number_5 : decode cX9_number 5 = .ok (.ifCond .eq 21, 3) := by decide +kernel
theorem dX9_number_8 : decode cX9_number 8 = .ok (.aload_n 0, 1) := by decide +kernel
theorem dX9_number_9 : decode cX9_number 9 = .ok (.invokevirtual 200, 3) := by decide +kernel
theorem dX9_number_12 : decode cX9_number 12 = .ok (.bipush 48, 2) := by decide +kernel
theorem dX9_number_14 : decode cX9_number 14 = .ok (.bipush 57, 2) := by decide +kernel
theorem dX9_number_16 : decode cX9_number 16 = .ok (.invokestatic 60, 3) := by decide +kernel
theorem dX9_number_19 : decode cX9_number 19 = .ok (.ifCond .eq 7, 3) := by decide +kernel
theorem dX9_number_22 : decode cX9_number 22 = .ok (.iconst 1, 1) := by decide +kernel
theorem dX9_number_23 : decode cX9_number 23 = .ok (.goto 4, 3) := by decide +kernel
theorem dX9_number_26 : decode cX9_number 26 = .ok (.iconst 0, 1) := by decide +kernel
theorem dX9_number_27 : decode cX9_number 27 = .ok (.putfield 196, 3) := by decide +kernel
theorem dX9_number_30 : decode cX9_number 30 = .ok (.aload_n 0, 1) := by decide +kernel
theorem dX9_number_31 : decode cX9_number 31 = .ok (.invokevirtual 200, 3) := by decide +kernel
theorem dX9_number_34 : decode cX9_number 34 = .ok (.bipush 48, 2) := by decide +kernel
theorem dX9_number_36 : decode cX9_number 36 = .ok (.isub, 1) := by decide +kernel
theorem dX9_number_37 : decode cX9_number 37 = .ok (.istore_n 1, 1) := by decide +kernel
theorem dX9_number_38 : decode cX9_number 38 = .ok (.aload_n 0, 1) := by decide +kernel
theorem dX9_number_39 : decode cX9_number 39 = .ok (.dup, 1) := by decide +kernel
theorem dX9_number_40 : decode cX9_number 40 = .ok (.getfield 193, 3) := by decide +kernel
theorem dX9_number_43 : decode cX9_number 43 = .ok (.aload_n 0, 1) := by decide +kernel
theorem dX9_number_44 : decode cX9_number 44 = .ok (.getfield 196, 3) := by decide +kernel
theorem dX9_number_47 : decode cX9_number 47 = .ok (.ifCond .eq 7, 3) := by decide +kernel
theorem dX9_number_50 : decode cX9_number 50 = .ok (.iconst 1, 1) := by decide +kernel
theorem dX9_number_51 : decode cX9_number 51 = .ok (.goto 4, 3) := by decide +kernel
theorem dX9_number_54 : decode cX9_number 54 = .ok (.iconst 0, 1) := by decide +kernel
theorem dX9_number_55 : decode cX9_number 55 = .ok (.iadd, 1) := by decide +kernel
theorem dX9_number_56 : decode cX9_number 56 = .ok (.putfield 193, 3) := by decide +kernel
theorem dX9_number_59 : decode cX9_number 59 = .ok (.iconst 1, 1) := by decide +kernel
theorem dX9_number_60 : decode cX9_number 60 = .ok (.istore_n 2, 1) := by decide +kernel
theorem dX9_number_61 : decode cX9_number 61 = .ok (.iload_n 2, 1) := by decide +kernel
theorem dX9_number_62 : decode cX9_number 62 = .ok (.iconst 3, 1) := by decide +kernel
theorem dX9_number_63 : decode cX9_number 63 = .ok (.if_icmp .ge 57, 3) := by decide +kernel
theorem dX9_number_66 : decode cX9_number 66 = .ok (.aload_n 0, 1) := by decide +kernel
theorem dX9_number_67 : decode cX9_number 67 = .ok (.getfield 196, 3) := by decide +kernel
theorem dX9_number_70 : decode cX9_number 70 = .ok (.ifCond .eq 50, 3) := by decide +kernel
theorem dX9_number_73 : decode cX9_number 73 = .ok (.iload_n 1, 1) := by decide +kernel
theorem dX9_number_74 : decode cX9_number 74 = .ok (.ifCond .le 46, 3) := by decide +kernel
theorem dX9_number_77 : decode cX9_number 77 = .ok (.aload_n 0, 1) := by decide +kernel
theorem dX9_number_78 : decode cX9_number 78 = .ok (.invokevirtual 200, 3) := by decide +kernel
theorem dX9_number_81 : decode cX9_number 81 = .ok (.bipush 48, 2) := by decide +kernel
theorem dX9_number_83 : decode cX9_number 83 = .ok (.bipush 57, 2) := by decide +kernel
theorem dX9_number_85 : decode cX9_number 85 = .ok (.invokestatic 60, 3) := by decide +kernel
theorem dX9_number_88 : decode cX9_number 88 = .ok (.ifCond .eq 32, 3) := by decide +kernel
theorem dX9_number_91 : decode cX9_number 91 = .ok (.bipush 10, 2) := by decide +kernel
theorem dX9_number_93 : decode cX9_number 93 = .ok (.iload_n 1, 1) := by decide +kernel
theorem dX9_number_94 : decode cX9_number 94 = .ok (.imul, 1) := by decide +kernel
theorem dX9_number_95 : decode cX9_number 95 = .ok (.aload_n 0, 1) := by decide +kernel
theorem dX9_number_96 : decode cX9_number 96 = .ok (.invokevirtual 200, 3) := by decide +kernel
theorem dX9_number_99 : decode cX9_number 99 = .ok (.iadd, 1) := by decide +kernel
theorem dX9_number_100 : decode cX9_number 100 = .ok (.bipush 48, 2) := by decide +kernel
theorem dX9_number_102 : decode cX9_number 102 = .ok (.isub, 1) := by decide +kernel
theorem dX9_number_103 : decode cX9_number 103 = .ok (.istore_n 1, 1) := by decide +kernel
theorem dX9_number_104 : decode cX9_number 104 = .ok (.aload_n 0, 1) := by decide +kernel
theorem dX9_number_105 : decode cX9_number 105 = .ok (.dup, 1) := by decide +kernel
theorem dX9_number_106 : decode cX9_number 106 = .ok (.getfield 193, 3) := by decide +kernel
theorem dX9_number_109 : decode cX9_number 109 = .ok (.iconst 1, 1) := by decide +kernel
theorem dX9_number_110 : decode cX9_number 110 = .ok (.iadd, 1) := by decide +kernel
theorem dX9_number_111 : decode cX9_number 111 = .ok (.putfield 193, 3) := by decide +kernel
theorem dX9_number_114 : decode cX9_number 114 = .ok (.iinc 2 1, 3) := by decide +kernel
theorem dX9_number_117 : decode cX9_number 117 = .ok (.goto (-56), 3) := by decide +kernel
theorem dX9_number_120 : decode cX9_number 120 = .ok (.iload_n 1, 1) := by decide +kernel
theorem dX9_number_121 : decode cX9_number 121 = .ok (.ireturn, 1) := by decide +kernel
theorem dX9_readsOrder_0 : decode cX9_readsOrder 0 = .ok (.aload_n 0, 1) := by decide +kernel
theorem dX9_readsOrder_1 : decode cX9_readsOrder 1 = .ok (.invokevirtual 200, 3) := by decide +kernel
theorem dX9_readsOrder_4 : decode cX9_readsOrder 4 = .ok (.istore_n 1, 1) := by decide +kernel
theorem dX9_readsOrder_5 : decode cX9_readsOrder 5 = .ok (.iload_n 1, 1) := by decide +kernel
theorem dX9_readsOrder_6 : decode cX9_readsOrder 6 = .ok (.bipush 108, 2) := by decide +kernel
theorem dX9_readsOrder_8 : decode cX9_readsOrder 8 = .ok (.if_icmp .eq 15, 3) := by decide +kernel
theorem dX9_readsOrder_11 : decode cX9_readsOrder 11 = .ok (.iload_n 1, 1) := by decide +kernel
theorem dX9_readsOrder_12 : decode cX9_readsOrder 12 = .ok (.bipush 101, 2) := by decide +kernel
theorem dX9_readsOrder_14 : decode cX9_readsOrder 14 = .ok (.if_icmp .eq 9, 3) := by decide +kernel
theorem dX9_readsOrder_17 : decode cX9_readsOrder 17 = .ok (.iload_n 1, 1) := by decide +kernel
theorem dX9_readsOrder_18 : decode cX9_readsOrder 18 = .ok (.bipush 110, 2) := by decide +kernel
theorem dX9_readsOrder_20 : decode cX9_readsOrder 20 = .ok (.if_icmp .ne 7, 3) := by decide +kernel
theorem dX9_readsOrder_23 : decode cX9_readsOrder 23 = .ok (.iconst 1, 1) := by decide +kernel
theorem dX9_readsOrder_24 : decode cX9_readsOrder 24 = .ok (.goto 4, 3) := by decide +kernel
theorem dX9_readsOrder_27 : decode cX9_readsOrder 27 = .ok (.iconst 0, 1) := by decide +kernel
theorem dX9_readsOrder_28 : decode cX9_readsOrder 28 = .ok (.istore_n 2, 1) := by decide +kernel
theorem dX9_readsOrder_29 : decode cX9_readsOrder 29 = .ok (.aload_n 0, 1) := by decide +kernel
theorem dX9_readsOrder_30 : decode cX9_readsOrder 30 = .ok (.aload_n 0, 1) := by decide +kernel
theorem dX9_readsOrder_31 : decode cX9_readsOrder 31 = .ok (.getfield 196, 3) := by decide +kernel
theorem dX9_readsOrder_34 : decode cX9_readsOrder 34 = .ok (.ifCond .eq 35, 3) := by decide +kernel
theorem dX9_readsOrder_37 : decode cX9_readsOrder 37 = .ok (.iload_n 2, 1) := by decide +kernel
theorem dX9_readsOrder_38 : decode cX9_readsOrder 38 = .ok (.ifCond .ne 27, 3) := by decide +kernel
theorem dX9_readsOrder_41 : decode cX9_readsOrder 41 = .ok (.iload_n 1, 1) := by decide +kernel
theorem dX9_readsOrder_42 : decode cX9_readsOrder 42 = .ok (.bipush 98, 2) := by decide +kernel
theorem dX9_readsOrder_44 : decode cX9_readsOrder 44 = .ok (.if_icmp .eq 21, 3) := by decide +kernel
theorem dX9_readsOrder_47 : decode cX9_readsOrder 47 = .ok (.iload_n 1, 1) := by decide +kernel
theorem dX9_readsOrder_48 : decode cX9_readsOrder 48 = .ok (.bipush 114, 2) := by decide +kernel
theorem dX9_readsOrder_50 : decode cX9_readsOrder 50 = .ok (.if_icmp .eq 15, 3) := by decide +kernel
theorem dX9_readsOrder_53 : decode cX9_readsOrder 53 = .ok (.iload_n 1, 1) := by decide +kernel
theorem dX9_readsOrder_54 : decode cX9_readsOrder 54 = .ok (.bipush 120, 2) := by decide +kernel
theorem dX9_readsOrder_56 : decode cX9_readsOrder 56 = .ok (.if_icmp .eq 9, 3) := by decide +kernel
theorem dX9_readsOrder_59 : decode cX9_readsOrder 59 = .ok (.iload_n 1, 1) := by decide +kernel
theorem dX9_readsOrder_60 : decode cX9_readsOrder 60 = .ok (.bipush 45, 2) := by decide +kernel
theorem dX9_readsOrder_62 : decode cX9_readsOrder 62 = .ok (.if_icmp .ne 7, 3) := by decide +kernel
theorem dX9_readsOrder_65 : decode cX9_readsOrder 65 = .ok (.iconst 1, 1) := by decide +kernel
theorem dX9_readsOrder_66 : decode cX9_readsOrder 66 = .ok (.goto 4, 3) := by decide +kernel
theorem dX9_readsOrder_69 : decode cX9_readsOrder 69 = .ok (.iconst 0, 1) := by decide +kernel
theorem dX9_readsOrder_70 : decode cX9_readsOrder 70 = .ok (.putfield 196, 3) := by decide +kernel
theorem dX9_readsOrder_73 : decode cX9_readsOrder 73 = .ok (.aload_n 0, 1) := by decide +kernel
theorem dX9_readsOrder_74 : decode cX9_readsOrder 74 = .ok (.dup, 1) := by decide +kernel
theorem dX9_readsOrder_75 : decode cX9_readsOrder 75 = .ok (.getfield 193, 3) := by decide +kernel
theorem dX9_readsOrder_78 : decode cX9_readsOrder 78 = .ok (.aload_n 0, 1) := by decide +kernel
theorem dX9_readsOrder_79 : decode cX9_readsOrder 79 = .ok (.getfield 196, 3) := by decide +kernel
theorem dX9_readsOrder_82 : decode cX9_readsOrder 82 = .ok (.ifCond .eq 7, 3) := by decide +kernel
theorem dX9_readsOrder_85 : decode cX9_readsOrder 85 = .ok (.iconst 1, 1) := by decide +kernel
theorem dX9_readsOrder_86 : decode cX9_readsOrder 86 = .ok (.goto 4, 3) := by decide +kernel
theorem dX9_readsOrder_89 : decode cX9_readsOrder 89 = .ok (.iconst 0, 1) := by decide +kernel
theorem dX9_readsOrder_90 : decode cX9_readsOrder 90 = .ok (.iadd, 1) := by decide +kernel
theorem dX9_readsOrder_91 : decode cX9_readsOrder 91 = .ok (.putfield 193, 3) := by decide +kernel
theorem dX9_readsOrder_94 : decode cX9_readsOrder 94 = .ok (.aload_n 0, 1) := by decide +kernel
theorem dX9_readsOrder_95 : decode cX9_readsOrder 95 = .ok (.invokevirtual 203, 3) := by decide +kernel
theorem dX9_readsOrder_98 : decode cX9_readsOrder 98 = .ok (.istore_n 3, 1) := by decide +kernel
theorem dX9_readsOrder_99 : decode cX9_readsOrder 99 = .ok (.iconst 0, 1) := by decide +kernel
theorem dX9_readsOrder_100 : decode cX9_readsOrder 100 = .ok (.istore 4, 2) := by decide +kernel
theorem dX9_readsOrder_102 : decode cX9_readsOrder 102 = .ok (.iconst 0, 1) := by decide +kernel
theorem dX9_readsOrder_103 : decode cX9_readsOrder 103 = .ok (.istore 5, 2) := by decide +kernel
theorem dX9_readsOrder_105 : decode cX9_readsOrder 105 = .ok (.iload_n 1, 1) := by decide +kernel
theorem dX9_readsOrder_106 : decode cX9_readsOrder 106 = .ok (.bipush 98, 2) := by decide +kernel
theorem dX9_readsOrder_108 : decode cX9_readsOrder 108 = .ok (.if_icmp .eq 7, 3) := by decide +kernel
theorem dX9_readsOrder_111 : decode cX9_readsOrder 111 = .ok (.iload_n 2, 1) := by decide +kernel
theorem dX9_readsOrder_112 : decode cX9_readsOrder 112 = .ok (.ifCond .eq 48, 3) := by decide +kernel
theorem dX9_readsOrder_115 : decode cX9_readsOrder 115 = .ok (.aload_n 0, 1) := by decide +kernel
theorem dX9_readsOrder_116 : decode cX9_readsOrder 116 = .ok (.iload_n 2, 1) := by decide +kernel
theorem dX9_readsOrder_117 : decode cX9_readsOrder 117 = .ok (.ifCond .eq 8, 3) := by decide +kernel
theorem dX9_readsOrder_120 : decode cX9_readsOrder 120 = .ok (.bipush 43, 2) := by decide +kernel
theorem dX9_readsOrder_122 : decode cX9_readsOrder 122 = .ok (.goto 5, 3) := by decide +kernel
theorem dX9_readsOrder_125 : decode cX9_readsOrder 125 = .ok (.bipush 61, 2) := by decide +kernel
theorem dX9_readsOrder_127 : decode cX9_readsOrder 127 = .ok (.invokevirtual 206, 3) := by decide +kernel
theorem dX9_readsOrder_130 : decode cX9_readsOrder 130 = .ok (.aload_n 0, 1) := by decide +kernel
theorem dX9_readsOrder_131 : decode cX9_readsOrder 131 = .ok (.invokevirtual 203, 3) := by decide +kernel
theorem dX9_readsOrder_134 : decode cX9_readsOrder 134 = .ok (.istore 4, 2) := by decide +kernel
theorem dX9_readsOrder_136 : decode cX9_readsOrder 136 = .ok (.aload_n 0, 1) := by decide +kernel
theorem dX9_readsOrder_137 : decode cX9_readsOrder 137 = .ok (.iload_n 2, 1) := by decide +kernel
theorem dX9_readsOrder_138 : decode cX9_readsOrder 138 = .ok (.ifCond .eq 8, 3) := by decide +kernel
theorem dX9_readsOrder_141 : decode cX9_readsOrder 141 = .ok (.bipush 58, 2) := by decide +kernel
theorem dX9_readsOrder_143 : decode cX9_readsOrder 143 = .ok (.goto 5, 3) := by decide +kernel
theorem dX9_readsOrder_146 : decode cX9_readsOrder 146 = .ok (.bipush 64, 2) := by decide +kernel
theorem dX9_readsOrder_148 : decode cX9_readsOrder 148 = .ok (.invokevirtual 206, 3) := by decide +kernel
theorem dX9_readsOrder_151 : decode cX9_readsOrder 151 = .ok (.aload_n 0, 1) := by decide +kernel
theorem dX9_readsOrder_152 : decode cX9_readsOrder 152 = .ok (.invokevirtual 203, 3) := by decide +kernel
theorem dX9_readsOrder_155 : decode cX9_readsOrder 155 = .ok (.istore 5, 2) := by decide +kernel
theorem dX9_readsOrder_157 : decode cX9_readsOrder 157 = .ok (.goto 27, 3) := by decide +kernel
theorem dX9_readsOrder_160 : decode cX9_readsOrder 160 = .ok (.iload_n 1, 1) := by decide +kernel
theorem dX9_readsOrder_161 : decode cX9_readsOrder 161 = .ok (.bipush 114, 2) := by decide +kernel
theorem dX9_readsOrder_163 : decode cX9_readsOrder 163 = .ok (.if_icmp .eq 9, 3) := by decide +kernel
theorem dX9_readsOrder_166 : decode cX9_readsOrder 166 = .ok (.iload_n 1, 1) := by decide +kernel
theorem dX9_readsOrder_167 : decode cX9_readsOrder 167 = .ok (.bipush 120, 2) := by decide +kernel
theorem dX9_readsOrder_169 : decode cX9_readsOrder 169 = .ok (.if_icmp .ne 15, 3) := by decide +kernel
theorem dX9_readsOrder_172 : decode cX9_readsOrder 172 = .ok (.aload_n 0, 1) := by decide +kernel
theorem dX9_readsOrder_173 : decode cX9_readsOrder 173 = .ok (.bipush 45, 2) := by decide +kernel
theorem dX9_readsOrder_175 : decode cX9_readsOrder 175 = .ok (.invokevirtual 206, 3) := by decide +kernel
theorem dX9_readsOrder_178 : decode cX9_readsOrder 178 = .ok (.aload_n 0, 1) := by decide +kernel
theorem dX9_readsOrder_179 : decode cX9_readsOrder 179 = .ok (.invokevirtual 203, 3) := by decide +kernel
theorem dX9_readsOrder_182 : decode cX9_readsOrder 182 = .ok (.istore 4, 2) := by decide +kernel
theorem dX9_readsOrder_184 : decode cX9_readsOrder 184 = .ok (.aload_n 0, 1) := by decide +kernel
theorem dX9_readsOrder_185 : decode cX9_readsOrder 185 = .ok (.getfield 196, 3) := by decide +kernel
theorem dX9_readsOrder_188 : decode cX9_readsOrder 188 = .ok (.ifCond .eq 69, 3) := by decide +kernel
theorem dX9_readsOrder_191 : decode cX9_readsOrder 191 = .ok (.aload_n 0, 1) := by decide +kernel
theorem dX9_readsOrder_192 : decode cX9_readsOrder 192 = .ok (.getfield 53, 3) := by decide +kernel
theorem dX9_readsOrder_195 : decode cX9_readsOrder 195 = .ok (.iconst 4, 1) := by decide +kernel
theorem dX9_readsOrder_196 : decode cX9_readsOrder 196 = .ok (.aload_n 0, 1) := by decide +kernel
theorem dX9_readsOrder_197 : decode cX9_readsOrder 197 = .ok (.getfield 209, 3) := by decide +kernel
theorem dX9_readsOrder_200 : decode cX9_readsOrder 200 = .ok (.imul, 1) := by decide +kernel
theorem dX9_readsOrder_201 : decode cX9_readsOrder 201 = .ok (.iload_n 1, 1) := by decide +kernel
theorem dX9_readsOrder_202 : decode cX9_readsOrder 202 = .ok (.iastore, 1) := by decide +kernel
theorem dX9_readsOrder_203 : decode cX9_readsOrder 203 = .ok (.aload_n 0, 1) := by decide +kernel
theorem dX9_readsOrder_204 : decode cX9_readsOrder 204 = .ok (.getfield 53, 3) := by decide +kernel
theorem dX9_readsOrder_207 : decode cX9_readsOrder 207 = .ok (.iconst 4, 1) := by decide +kernel
theorem dX9_readsOrder_208 : decode cX9_readsOrder 208 = .ok (.aload_n 0, 1) := by decide +kernel
theorem dX9_readsOrder_209 : decode cX9_readsOrder 209 = .ok (.getfield 209, 3) := by decide +kernel
theorem dX9_readsOrder_212 : decode cX9_readsOrder 212 = .ok (.imul, 1) := by decide +kernel
theorem dX9_readsOrder_213 : decode cX9_readsOrder 213 = .ok (.iconst 1, 1) := by decide +kernel
theorem dX9_readsOrder_214 : decode cX9_readsOrder 214 = .ok (.iadd, 1) := by decide +kernel
theorem dX9_readsOrder_215 : decode cX9_readsOrder 215 = .ok (.iload_n 3, 1) := by decide +kernel
theorem dX9_readsOrder_216 : decode cX9_readsOrder 216 = .ok (.iastore, 1) := by decide +kernel
theorem dX9_readsOrder_217 : decode cX9_readsOrder 217 = .ok (.aload_n 0, 1) := by decide +kernel
theorem dX9_readsOrder_218 : decode cX9_readsOrder 218 = .ok (.getfield 53, 3) := by decide +kernel
theorem dX9_readsOrder_221 : decode cX9_readsOrder 221 = .ok (.iconst 4, 1) := by decide +kernel
theorem dX9_readsOrder_222 : decode cX9_readsOrder 222 = .ok (.aload_n 0, 1) := by decide +kernel
theorem dX9_readsOrder_223 : decode cX9_readsOrder 223 = .ok (.getfield 209, 3) := by decide +kernel
theorem dX9_readsOrder_226 : decode cX9_readsOrder 226 = .ok (.imul, 1) := by decide +kernel
theorem dX9_readsOrder_227 : decode cX9_readsOrder 227 = .ok (.iconst 2, 1) := by decide +kernel
theorem dX9_readsOrder_228 : decode cX9_readsOrder 228 = .ok (.iadd, 1) := by decide +kernel
theorem dX9_readsOrder_229 : decode cX9_readsOrder 229 = .ok (.iload 4, 2) := by decide +kernel
theorem dX9_readsOrder_231 : decode cX9_readsOrder 231 = .ok (.iastore, 1) := by decide +kernel
theorem dX9_readsOrder_232 : decode cX9_readsOrder 232 = .ok (.aload_n 0, 1) := by decide +kernel
theorem dX9_readsOrder_233 : decode cX9_readsOrder 233 = .ok (.getfield 53, 3) := by decide +kernel
theorem dX9_readsOrder_236 : decode cX9_readsOrder 236 = .ok (.iconst 4, 1) := by decide +kernel
theorem dX9_readsOrder_237 : decode cX9_readsOrder 237 = .ok (.aload_n 0, 1) := by decide +kernel
theorem dX9_readsOrder_238 : decode cX9_readsOrder 238 = .ok (.getfield 209, 3) := by decide +kernel
theorem dX9_readsOrder_241 : decode cX9_readsOrder 241 = .ok (.imul, 1) := by decide +kernel
theorem dX9_readsOrder_242 : decode cX9_readsOrder 242 = .ok (.iconst 3, 1) := by decide +kernel
theorem dX9_readsOrder_243 : decode cX9_readsOrder 243 = .ok (.iadd, 1) := by decide +kernel
theorem dX9_readsOrder_244 : decode cX9_readsOrder 244 = .ok (.iload 5, 2) := by decide +kernel
theorem dX9_readsOrder_246 : decode cX9_readsOrder 246 = .ok (.iastore, 1) := by decide +kernel
theorem dX9_readsOrder_247 : decode cX9_readsOrder 247 = .ok (.aload_n 0, 1) := by decide +kernel
theorem dX9_readsOrder_248 : decode cX9_readsOrder 248 = .ok (.dup, 1) := by decide +kernel
theorem dX9_readsOrder_249 : decode cX9_readsOrder 249 = .ok (.getfield 209, 3) := by decide +kernel
theorem dX9_readsOrder_252 : decode cX9_readsOrder 252 = .ok (.iconst 1, 1) := by decide +kernel
theorem dX9_readsOrder_253 : decode cX9_readsOrder 253 = .ok (.iadd, 1) := by decide +kernel
theorem dX9_readsOrder_254 : decode cX9_readsOrder 254 = .ok (.putfield 209, 3) := by decide +kernel
theorem dX9_readsOrder_257 : decode cX9_readsOrder 257 = .ok (.return_, 1) := by decide +kernel
theorem dX9_reads_0 : decode cX9_reads 0 = .ok (.aload_n 0, 1) := by decide +kernel
theorem dX9_reads_1 : decode cX9_reads 1 = .ok (.iconst 0, 1) := by decide +kernel
theorem dX9_reads_2 : decode cX9_reads 2 = .ok (.putfield 193, 3) := by decide +kernel
theorem dX9_reads_5 : decode cX9_reads 5 = .ok (.aload_n 0, 1) := by decide +kernel
theorem dX9_reads_6 : decode cX9_reads 6 = .ok (.iconst 1, 1) := by decide +kernel
theorem dX9_reads_7 : decode cX9_reads 7 = .ok (.putfield 196, 3) := by decide +kernel
theorem dX9_reads_10 : decode cX9_reads 10 = .ok (.aload_n 0, 1) := by decide +kernel
theorem dX9_reads_11 : decode cX9_reads 11 = .ok (.iconst 0, 1) := by decide +kernel
theorem dX9_reads_12 : decode cX9_reads 12 = .ok (.putfield 209, 3) := by decide +kernel
theorem dX9_reads_15 : decode cX9_reads 15 = .ok (.aload_n 0, 1) := by decide +kernel
theorem dX9_reads_16 : decode cX9_reads 16 = .ok (.invokevirtual 212, 3) := by decide +kernel
theorem dX9_reads_19 : decode cX9_reads 19 = .ok (.aload_n 0, 1) := by decide +kernel
theorem dX9_reads_20 : decode cX9_reads 20 = .ok (.getfield 196, 3) := by decide +kernel
theorem dX9_reads_23 : decode cX9_reads 23 = .ok (.ifCond .eq 34, 3) := by decide +kernel
theorem dX9_reads_26 : decode cX9_reads 26 = .ok (.aload_n 0, 1) := by decide +kernel
theorem dX9_reads_27 : decode cX9_reads 27 = .ok (.getfield 193, 3) := by decide +kernel
theorem dX9_reads_30 : decode cX9_reads 30 = .ok (.aload_n 0, 1) := by decide +kernel
theorem dX9_reads_31 : decode cX9_reads 31 = .ok (.getfield 182, 3) := by decide +kernel
theorem dX9_reads_34 : decode cX9_reads 34 = .ok (.if_icmp .ge 23, 3) := by decide +kernel
theorem dX9_reads_37 : decode cX9_reads 37 = .ok (.aload_n 0, 1) := by decide +kernel
theorem dX9_reads_38 : decode cX9_reads 38 = .ok (.bipush 59, 2) := by decide +kernel
theorem dX9_reads_40 : decode cX9_reads 40 = .ok (.invokevirtual 206, 3) := by decide +kernel
theorem dX9_reads_43 : decode cX9_reads 43 = .ok (.aload_n 0, 1) := by decide +kernel
theorem dX9_reads_44 : decode cX9_reads 44 = .ok (.getfield 196, 3) := by decide +kernel
theorem dX9_reads_47 : decode cX9_reads 47 = .ok (.ifCond .eq (-28), 3) := by decide +kernel
theorem dX9_reads_50 : decode cX9_reads 50 = .ok (.aload_n 0, 1) := by decide +kernel
theorem dX9_reads_51 : decode cX9_reads 51 = .ok (.invokevirtual 212, 3) := by decide +kernel
theorem dX9_reads_54 : decode cX9_reads 54 = .ok (.goto (-35), 3) := by decide +kernel
theorem dX9_reads_57 : decode cX9_reads 57 = .ok (.aload_n 0, 1) := by decide +kernel
theorem dX9_reads_58 : decode cX9_reads 58 = .ok (.getfield 196, 3) := by decide +kernel
theorem dX9_reads_61 : decode cX9_reads 61 = .ok (.ifCond .eq 8, 3) := by decide +kernel
theorem dX9_reads_64 : decode cX9_reads 64 = .ok (.bipush (-6), 2) := by decide +kernel
theorem dX9_reads_66 : decode cX9_reads 66 = .ok (.goto 7, 3) := by decide +kernel
theorem dX9_reads_69 : decode cX9_reads 69 = .ok (.aload_n 0, 1) := by decide +kernel
theorem dX9_reads_70 : decode cX9_reads 70 = .ok (.getfield 193, 3) := by decide +kernel
theorem dX9_reads_73 : decode cX9_reads 73 = .ok (.ireturn, 1) := by decide +kernel
theorem dX9_fault_0 : decode cX9_fault 0 = .ok (.aload_n 0, 1) := by decide +kernel
theorem dX9_fault_1 : decode cX9_fault 1 = .ok (.iconst 0, 1) := by decide +kernel
theorem dX9_fault_2 : decode cX9_fault 2 = .ok (.putfield 56, 3) := by decide +kernel
theorem dX9_fault_5 : decode cX9_fault 5 = .ok (.aload_n 0, 1) := by decide +kernel
theorem dX9_fault_6 : decode cX9_fault 6 = .ok (.invokevirtual 215, 3) := by decide +kernel
theorem dX9_fault_9 : decode cX9_fault 9 = .ok (.ireturn, 1) := by decide +kernel
theorem dX9_kindBy_0 : decode cX9_kindBy 0 = .ok (.iload_n 0, 1) := by decide +kernel
theorem dX9_kindBy_1 : decode cX9_kindBy 1 = .ok (.bipush 108, 2) := by decide +kernel
theorem dX9_kindBy_3 : decode cX9_kindBy 3 = .ok (.if_icmp .ne 7, 3) := by decide +kernel
theorem dX9_kindBy_6 : decode cX9_kindBy 6 = .ok (.iconst 0, 1) := by decide +kernel
theorem dX9_kindBy_7 : decode cX9_kindBy 7 = .ok (.goto 14, 3) := by decide +kernel
theorem dX9_kindBy_10 : decode cX9_kindBy 10 = .ok (.iload_n 0, 1) := by decide +kernel
theorem dX9_kindBy_11 : decode cX9_kindBy 11 = .ok (.bipush 101, 2) := by decide +kernel
theorem dX9_kindBy_13 : decode cX9_kindBy 13 = .ok (.if_icmp .ne 7, 3) := by decide +kernel
theorem dX9_kindBy_16 : decode cX9_kindBy 16 = .ok (.iconst 1, 1) := by decide +kernel
theorem dX9_kindBy_17 : decode cX9_kindBy 17 = .ok (.goto 4, 3) := by decide +kernel
theorem dX9_kindBy_20 : decode cX9_kindBy 20 = .ok (.iconst 2, 1) := by decide +kernel
theorem dX9_kindBy_21 : decode cX9_kindBy 21 = .ok (.ireturn, 1) := by decide +kernel
theorem dX9_refuses_0 : decode cX9_refuses 0 = .ok (.iload_n 1, 1) := by decide +kernel
theorem dX9_refuses_1 : decode cX9_refuses 1 = .ok (.lookupswitch 89 #[(45, 67), (98, 43), (114, 52), (120, 59)], 43) := by decide +kernel
theorem dX9_refuses_44 : decode cX9_refuses 44 = .ok (.aload_n 0, 1) := by decide +kernel
theorem dX9_refuses_45 : decode cX9_refuses 45 = .ok (.iload_n 2, 1) := by decide +kernel
theorem dX9_refuses_46 : decode cX9_refuses 46 = .ok (.iload_n 3, 1) := by decide +kernel
theorem dX9_refuses_47 : decode cX9_refuses 47 = .ok (.iload 4, 2) := by decide +kernel
theorem dX9_refuses_49 : decode cX9_refuses 49 = .ok (.invokevirtual 133, 3) := by decide +kernel
theorem dX9_refuses_52 : decode cX9_refuses 52 = .ok (.ireturn, 1) := by decide +kernel
theorem dX9_refuses_53 : decode cX9_refuses 53 = .ok (.aload_n 0, 1) := by decide +kernel
theorem dX9_refuses_54 : decode cX9_refuses 54 = .ok (.iload_n 2, 1) := by decide +kernel
theorem dX9_refuses_55 : decode cX9_refuses 55 = .ok (.iload_n 3, 1) := by decide +kernel
theorem dX9_refuses_56 : decode cX9_refuses 56 = .ok (.invokevirtual 144, 3) := by decide +kernel
theorem dX9_refuses_59 : decode cX9_refuses 59 = .ok (.ireturn, 1) := by decide +kernel
theorem dX9_refuses_60 : decode cX9_refuses 60 = .ok (.aload_n 0, 1) := by decide +kernel
theorem dX9_refuses_61 : decode cX9_refuses 61 = .ok (.iload_n 2, 1) := by decide +kernel
theorem dX9_refuses_62 : decode cX9_refuses 62 = .ok (.iload_n 3, 1) := by decide +kernel
theorem dX9_refuses_63 : decode cX9_refuses 63 = .ok (.iconst 3, 1) := by decide +kernel
theorem dX9_refuses_64 : decode cX9_refuses 64 = .ok (.invokevirtual 141, 3) := by decide +kernel
theorem dX9_refuses_67 : decode cX9_refuses 67 = .ok (.ireturn, 1) := by decide +kernel
theorem dX9_refuses_68 : decode cX9_refuses 68 = .ok (.iload_n 2, 1) := by decide +kernel
theorem dX9_refuses_69 : decode cX9_refuses 69 = .ok (.iconst 0, 1) := by decide +kernel
theorem dX9_refuses_70 : decode cX9_refuses 70 = .ok (.aload_n 0, 1) := by decide +kernel
theorem dX9_refuses_71 : decode cX9_refuses 71 = .ok (.getfield 7, 3) := by decide +kernel
theorem dX9_refuses_74 : decode cX9_refuses 74 = .ok (.iconst 5, 1) := by decide +kernel
theorem dX9_refuses_75 : decode cX9_refuses 75 = .ok (.iaload, 1) := by decide +kernel
theorem dX9_refuses_76 : decode cX9_refuses 76 = .ok (.iconst 1, 1) := by decide +kernel
theorem dX9_refuses_77 : decode cX9_refuses 77 = .ok (.isub, 1) := by decide +kernel
theorem dX9_refuses_78 : decode cX9_refuses 78 = .ok (.invokestatic 60, 3) := by decide +kernel
theorem dX9_refuses_81 : decode cX9_refuses 81 = .ok (.ifCond .eq 7, 3) := by decide +kernel
theorem dX9_refuses_84 : decode cX9_refuses 84 = .ok (.iconst 0, 1) := by decide +kernel
theorem dX9_refuses_85 : decode cX9_refuses 85 = .ok (.goto 4, 3) := by decide +kernel
theorem dX9_refuses_88 : decode cX9_refuses 88 = .ok (.iconst (-1), 1) := by decide +kernel
theorem dX9_refuses_89 : decode cX9_refuses 89 = .ok (.ireturn, 1) := by decide +kernel
theorem dX9_refuses_90 : decode cX9_refuses 90 = .ok (.aload_n 0, 1) := by decide +kernel
theorem dX9_refuses_91 : decode cX9_refuses 91 = .ok (.iload_n 1, 1) := by decide +kernel
theorem dX9_refuses_92 : decode cX9_refuses 92 = .ok (.invokestatic 218, 3) := by decide +kernel
theorem dX9_refuses_95 : decode cX9_refuses 95 = .ok (.iload_n 2, 1) := by decide +kernel
theorem dX9_refuses_96 : decode cX9_refuses 96 = .ok (.iload_n 3, 1) := by decide +kernel
theorem dX9_refuses_97 : decode cX9_refuses 97 = .ok (.iload 4, 2) := by decide +kernel
theorem dX9_refuses_99 : decode cX9_refuses 99 = .ok (.invokevirtual 151, 3) := by decide +kernel
theorem dX9_refuses_102 : decode cX9_refuses 102 = .ok (.ireturn, 1) := by decide +kernel
theorem dX9_does_0 : decode cX9_does 0 = .ok (.iload_n 1, 1) := by decide +kernel
theorem dX9_does_1 : decode cX9_does 1 = .ok (.lookupswitch 90 #[(45, 81), (98, 43), (114, 54), (120, 67)], 43) := by decide +kernel
theorem dX9_does_44 : decode cX9_does 44 = .ok (.aload_n 0, 1) := by decide +kernel
theorem dX9_does_45 : decode cX9_does 45 = .ok (.iload_n 2, 1) := by decide +kernel
theorem dX9_does_46 : decode cX9_does 46 = .ok (.iload_n 3, 1) := by decide +kernel
theorem dX9_does_47 : decode cX9_does 47 = .ok (.iload 4, 2) := by decide +kernel
theorem dX9_does_49 : decode cX9_does 49 = .ok (.invokevirtual 137, 3) := by decide +kernel
theorem dX9_does_52 : decode cX9_does 52 = .ok (.goto 52, 3) := by decide +kernel
theorem dX9_does_55 : decode cX9_does 55 = .ok (.aload_n 0, 1) := by decide +kernel
theorem dX9_does_56 : decode cX9_does 56 = .ok (.bipush 126, 2) := by decide +kernel
theorem dX9_does_58 : decode cX9_does 58 = .ok (.iconst 2, 1) := by decide +kernel
theorem dX9_does_59 : decode cX9_does 59 = .ok (.iload_n 2, 1) := by decide +kernel
theorem dX9_does_60 : decode cX9_does 60 = .ok (.iload_n 3, 1) := by decide +kernel
theorem dX9_does_61 : decode cX9_does 61 = .ok (.invokevirtual 147, 3) := by decide +kernel
theorem dX9_does_64 : decode cX9_does 64 = .ok (.pop, 1) := by decide +kernel
theorem dX9_does_65 : decode cX9_does 65 = .ok (.goto 39, 3) := by decide +kernel
theorem dX9_does_68 : decode cX9_does 68 = .ok (.aload_n 0, 1) := by decide +kernel
theorem dX9_does_69 : decode cX9_does 69 = .ok (.sipush 134, 3) := by decide +kernel
theorem dX9_does_72 : decode cX9_does 72 = .ok (.iconst 3, 1) := by decide +kernel
theorem dX9_does_73 : decode cX9_does 73 = .ok (.iload_n 2, 1) := by decide +kernel
theorem dX9_does_74 : decode cX9_does 74 = .ok (.iload_n 3, 1) := by decide +kernel
theorem dX9_does_75 : decode cX9_does 75 = .ok (.invokevirtual 147, 3) := by decide +kernel
theorem dX9_does_78 : decode cX9_does 78 = .ok (.pop, 1) := by decide +kernel
theorem dX9_does_79 : decode cX9_does 79 = .ok (.goto 25, 3) := by decide +kernel
theorem dX9_does_82 : decode cX9_does 82 = .ok (.aload_n 0, 1) := by decide +kernel
theorem dX9_does_83 : decode cX9_does 83 = .ok (.iload_n 2, 1) := by decide +kernel
theorem dX9_does_84 : decode cX9_does 84 = .ok (.invokevirtual 157, 3) := by decide +kernel
theorem dX9_does_87 : decode cX9_does 87 = .ok (.pop, 1) := by decide +kernel
theorem dX9_does_88 : decode cX9_does 88 = .ok (.goto 16, 3) := by decide +kernel
theorem dX9_does_91 : decode cX9_does 91 = .ok (.aload_n 0, 1) := by decide +kernel
theorem dX9_does_92 : decode cX9_does 92 = .ok (.iload_n 1, 1) := by decide +kernel
theorem dX9_does_93 : decode cX9_does 93 = .ok (.invokestatic 218, 3) := by decide +kernel
theorem dX9_does_96 : decode cX9_does 96 = .ok (.iload_n 2, 1) := by decide +kernel
theorem dX9_does_97 : decode cX9_does 97 = .ok (.iload_n 3, 1) := by decide +kernel
theorem dX9_does_98 : decode cX9_does 98 = .ok (.iload 4, 2) := by decide +kernel
theorem dX9_does_100 : decode cX9_does 100 = .ok (.invokevirtual 154, 3) := by decide +kernel
theorem dX9_does_103 : decode cX9_does 103 = .ok (.pop, 1) := by decide +kernel
theorem dX9_does_104 : decode cX9_does 104 = .ok (.return_, 1) := by decide +kernel
theorem dX9_carryOut_0 : decode cX9_carryOut 0 = .ok (.aload_n 0, 1) := by decide +kernel
theorem dX9_carryOut_1 : decode cX9_carryOut 1 = .ok (.iconst 0, 1) := by decide +kernel
theorem dX9_carryOut_2 : decode cX9_carryOut 2 = .ok (.putfield 56, 3) := by decide +kernel
theorem dX9_carryOut_5 : decode cX9_carryOut 5 = .ok (.aload_n 0, 1) := by decide +kernel
theorem dX9_carryOut_6 : decode cX9_carryOut 6 = .ok (.invokevirtual 215, 3) := by decide +kernel
theorem dX9_carryOut_9 : decode cX9_carryOut 9 = .ok (.bipush (-6), 2) := by decide +kernel
theorem dX9_carryOut_11 : decode cX9_carryOut 11 = .ok (.if_icmp .eq 6, 3) := by decide +kernel
theorem dX9_carryOut_14 : decode cX9_carryOut 14 = .ok (.bipush (-3), 2) := by decide +kernel
theorem dX9_carryOut_16 : decode cX9_carryOut 16 = .ok (.ireturn, 1) := by decide +kernel
theorem dX9_carryOut_17 : decode cX9_carryOut 17 = .ok (.aload_n 0, 1) := by decide +kernel
theorem dX9_carryOut_18 : decode cX9_carryOut 18 = .ok (.invokevirtual 127, 3) := by decide +kernel
theorem dX9_carryOut_21 : decode cX9_carryOut 21 = .ok (.aload_n 0, 1) := by decide +kernel
theorem dX9_carryOut_22 : decode cX9_carryOut 22 = .ok (.iconst 0, 1) := by decide +kernel
theorem dX9_carryOut_23 : decode cX9_carryOut 23 = .ok (.putfield 182, 3) := by decide +kernel
theorem dX9_carryOut_26 : decode cX9_carryOut 26 = .ok (.iconst 0, 1) := by decide +kernel
theorem dX9_carryOut_27 : decode cX9_carryOut 27 = .ok (.istore_n 1, 1) := by decide +kernel
theorem dX9_carryOut_28 : decode cX9_carryOut 28 = .ok (.iload_n 1, 1) := by decide +kernel
theorem dX9_carryOut_29 : decode cX9_carryOut 29 = .ok (.aload_n 0, 1) := by decide +kernel
theorem dX9_carryOut_30 : decode cX9_carryOut 30 = .ok (.getfield 209, 3) := by decide +kernel
theorem dX9_carryOut_33 : decode cX9_carryOut 33 = .ok (.if_icmp .ge 78, 3) := by decide +kernel
theorem dX9_carryOut_36 : decode cX9_carryOut 36 = .ok (.aload_n 0, 1) := by decide +kernel
theorem dX9_carryOut_37 : decode cX9_carryOut 37 = .ok (.getfield 53, 3) := by decide +kernel
theorem dX9_carryOut_40 : decode cX9_carryOut 40 = .ok (.iconst 4, 1) := by decide +kernel
theorem dX9_carryOut_41 : decode cX9_carryOut 41 = .ok (.iload_n 1, 1) := by decide +kernel
theorem dX9_carryOut_42 : decode cX9_carryOut 42 = .ok (.imul, 1) := by decide +kernel
theorem dX9_carryOut_43 : decode cX9_carryOut 43 = .ok (.iaload, 1) := by decide +kernel
theorem dX9_carryOut_44 : decode cX9_carryOut 44 = .ok (.istore_n 2, 1) := by decide +kernel
theorem dX9_carryOut_45 : decode cX9_carryOut 45 = .ok (.aload_n 0, 1) := by decide +kernel
theorem dX9_carryOut_46 : decode cX9_carryOut 46 = .ok (.getfield 53, 3) := by decide +kernel
theorem dX9_carryOut_49 : decode cX9_carryOut 49 = .ok (.iconst 4, 1) := by decide +kernel
theorem dX9_carryOut_50 : decode cX9_carryOut 50 = .ok (.iload_n 1, 1) := by decide +kernel
theorem dX9_carryOut_51 : decode cX9_carryOut 51 = .ok (.imul, 1) := by decide +kernel
theorem dX9_carryOut_52 : decode cX9_carryOut 52 = .ok (.iconst 1, 1) := by decide +kernel
theorem dX9_carryOut_53 : decode cX9_carryOut 53 = .ok (.iadd, 1) := by decide +kernel
theorem dX9_carryOut_54 : decode cX9_carryOut 54 = .ok (.iaload, 1) := by decide +kernel
theorem dX9_carryOut_55 : decode cX9_carryOut 55 = .ok (.istore_n 3, 1) := by decide +kernel
theorem dX9_carryOut_56 : decode cX9_carryOut 56 = .ok (.aload_n 0, 1) := by decide +kernel
theorem dX9_carryOut_57 : decode cX9_carryOut 57 = .ok (.getfield 53, 3) := by decide +kernel
theorem dX9_carryOut_60 : decode cX9_carryOut 60 = .ok (.iconst 4, 1) := by decide +kernel
theorem dX9_carryOut_61 : decode cX9_carryOut 61 = .ok (.iload_n 1, 1) := by decide +kernel
theorem dX9_carryOut_62 : decode cX9_carryOut 62 = .ok (.imul, 1) := by decide +kernel
theorem dX9_carryOut_63 : decode cX9_carryOut 63 = .ok (.iconst 2, 1) := by decide +kernel
theorem dX9_carryOut_64 : decode cX9_carryOut 64 = .ok (.iadd, 1) := by decide +kernel
theorem dX9_carryOut_65 : decode cX9_carryOut 65 = .ok (.iaload, 1) := by decide +kernel
theorem dX9_carryOut_66 : decode cX9_carryOut 66 = .ok (.istore 4, 2) := by decide +kernel
theorem dX9_carryOut_68 : decode cX9_carryOut 68 = .ok (.aload_n 0, 1) := by decide +kernel
theorem dX9_carryOut_69 : decode cX9_carryOut 69 = .ok (.getfield 53, 3) := by decide +kernel
theorem dX9_carryOut_72 : decode cX9_carryOut 72 = .ok (.iconst 4, 1) := by decide +kernel
theorem dX9_carryOut_73 : decode cX9_carryOut 73 = .ok (.iload_n 1, 1) := by decide +kernel
theorem dX9_carryOut_74 : decode cX9_carryOut 74 = .ok (.imul, 1) := by decide +kernel
theorem dX9_carryOut_75 : decode cX9_carryOut 75 = .ok (.iconst 3, 1) := by decide +kernel
theorem dX9_carryOut_76 : decode cX9_carryOut 76 = .ok (.iadd, 1) := by decide +kernel
theorem dX9_carryOut_77 : decode cX9_carryOut 77 = .ok (.iaload, 1) := by decide +kernel
theorem dX9_carryOut_78 : decode cX9_carryOut 78 = .ok (.istore 5, 2) := by decide +kernel
theorem dX9_carryOut_80 : decode cX9_carryOut 80 = .ok (.aload_n 0, 1) := by decide +kernel
theorem dX9_carryOut_81 : decode cX9_carryOut 81 = .ok (.iload_n 2, 1) := by decide +kernel
theorem dX9_carryOut_82 : decode cX9_carryOut 82 = .ok (.iload_n 3, 1) := by decide +kernel
theorem dX9_carryOut_83 : decode cX9_carryOut 83 = .ok (.iload 4, 2) := by decide +kernel
theorem dX9_carryOut_85 : decode cX9_carryOut 85 = .ok (.iload 5, 2) := by decide +kernel
theorem dX9_carryOut_87 : decode cX9_carryOut 87 = .ok (.invokevirtual 221, 3) := by decide +kernel
theorem dX9_carryOut_90 : decode cX9_carryOut 90 = .ok (.ifCond .eq 5, 3) := by decide +kernel
theorem dX9_carryOut_93 : decode cX9_carryOut 93 = .ok (.iload_n 1, 1) := by decide +kernel
theorem dX9_carryOut_94 : decode cX9_carryOut 94 = .ok (.ireturn, 1) := by decide +kernel
theorem dX9_carryOut_95 : decode cX9_carryOut 95 = .ok (.aload_n 0, 1) := by decide +kernel
theorem dX9_carryOut_96 : decode cX9_carryOut 96 = .ok (.iload_n 2, 1) := by decide +kernel
theorem dX9_carryOut_97 : decode cX9_carryOut 97 = .ok (.iload_n 3, 1) := by decide +kernel
theorem dX9_carryOut_98 : decode cX9_carryOut 98 = .ok (.iload 4, 2) := by decide +kernel
theorem dX9_carryOut_100 : decode cX9_carryOut 100 = .ok (.iload 5, 2) := by decide +kernel
theorem dX9_carryOut_102 : decode cX9_carryOut 102 = .ok (.invokevirtual 224, 3) := by decide +kernel
theorem dX9_carryOut_105 : decode cX9_carryOut 105 = .ok (.iinc 1 1, 3) := by decide +kernel
theorem dX9_carryOut_108 : decode cX9_carryOut 108 = .ok (.goto (-80), 3) := by decide +kernel
theorem dX9_carryOut_111 : decode cX9_carryOut 111 = .ok (.aload_n 0, 1) := by decide +kernel
theorem dX9_carryOut_112 : decode cX9_carryOut 112 = .ok (.getfield 209, 3) := by decide +kernel
theorem dX9_carryOut_115 : decode cX9_carryOut 115 = .ok (.ireturn, 1) := by decide +kernel
theorem dX9_undo_0 : decode cX9_undo 0 = .ok (.aload_n 0, 1) := by decide +kernel
theorem dX9_undo_1 : decode cX9_undo 1 = .ok (.iconst 0, 1) := by decide +kernel
theorem dX9_undo_2 : decode cX9_undo 2 = .ok (.putfield 56, 3) := by decide +kernel
theorem dX9_undo_5 : decode cX9_undo 5 = .ok (.aload_n 0, 1) := by decide +kernel
theorem dX9_undo_6 : decode cX9_undo 6 = .ok (.getfield 64, 3) := by decide +kernel
theorem dX9_undo_9 : decode cX9_undo 9 = .ok (.ifCond .ne 6, 3) := by decide +kernel
theorem dX9_undo_12 : decode cX9_undo 12 = .ok (.bipush (-5), 2) := by decide +kernel
theorem dX9_undo_14 : decode cX9_undo 14 = .ok (.ireturn, 1) := by decide +kernel
theorem dX9_undo_15 : decode cX9_undo 15 = .ok (.aload_n 0, 1) := by decide +kernel
theorem dX9_undo_16 : decode cX9_undo 16 = .ok (.dup, 1) := by decide +kernel
theorem dX9_undo_17 : decode cX9_undo 17 = .ok (.getfield 64, 3) := by decide +kernel
theorem dX9_undo_20 : decode cX9_undo 20 = .ok (.iconst 1, 1) := by decide +kernel
theorem dX9_undo_21 : decode cX9_undo 21 = .ok (.isub, 1) := by decide +kernel
theorem dX9_undo_22 : decode cX9_undo 22 = .ok (.putfield 64, 3) := by decide +kernel
theorem dX9_undo_25 : decode cX9_undo 25 = .ok (.iconst 0, 1) := by decide +kernel
theorem dX9_undo_26 : decode cX9_undo 26 = .ok (.istore_n 1, 1) := by decide +kernel
theorem dX9_undo_27 : decode cX9_undo 27 = .ok (.iload_n 1, 1) := by decide +kernel
theorem dX9_undo_28 : decode cX9_undo 28 = .ok (.sipush 228, 3) := by decide +kernel
theorem dX9_undo_31 : decode cX9_undo 31 = .ok (.if_icmp .ge 30, 3) := by decide +kernel
theorem dX9_undo_34 : decode cX9_undo 34 = .ok (.aload_n 0, 1) := by decide +kernel
theorem dX9_undo_35 : decode cX9_undo 35 = .ok (.getfield 7, 3) := by decide +kernel
theorem dX9_undo_38 : decode cX9_undo 38 = .ok (.iload_n 1, 1) := by decide +kernel
theorem dX9_undo_39 : decode cX9_undo 39 = .ok (.aload_n 0, 1) := by decide +kernel
theorem dX9_undo_40 : decode cX9_undo 40 = .ok (.getfield 13, 3) := by decide +kernel
theorem dX9_undo_43 : decode cX9_undo 43 = .ok (.sipush 228, 3) := by decide +kernel
theorem dX9_undo_46 : decode cX9_undo 46 = .ok (.aload_n 0, 1) := by decide +kernel
theorem dX9_undo_47 : decode cX9_undo 47 = .ok (.getfield 64, 3) := by decide +kernel
theorem dX9_undo_50 : decode cX9_undo 50 = .ok (.imul, 1) := by decide +kernel
theorem dX9_undo_51 : decode cX9_undo 51 = .ok (.iload_n 1, 1) := by decide +kernel
theorem dX9_undo_52 : decode cX9_undo 52 = .ok (.iadd, 1) := by decide +kernel
theorem dX9_undo_53 : decode cX9_undo 53 = .ok (.iaload, 1) := by decide +kernel
theorem dX9_undo_54 : decode cX9_undo 54 = .ok (.iastore, 1) := by decide +kernel
theorem dX9_undo_55 : decode cX9_undo 55 = .ok (.iinc 1 1, 3) := by decide +kernel
theorem dX9_undo_58 : decode cX9_undo 58 = .ok (.goto (-31), 3) := by decide +kernel
theorem dX9_undo_61 : decode cX9_undo 61 = .ok (.aload_n 0, 1) := by decide +kernel
theorem dX9_undo_62 : decode cX9_undo 62 = .ok (.getfield 64, 3) := by decide +kernel
theorem dX9_undo_65 : decode cX9_undo 65 = .ok (.ireturn, 1) := by decide +kernel
theorem dX9_save_0 : decode cX9_save 0 = .ok (.aload_n 0, 1) := by decide +kernel
theorem dX9_save_1 : decode cX9_save 1 = .ok (.iconst 0, 1) := by decide +kernel
theorem dX9_save_2 : decode cX9_save 2 = .ok (.putfield 56, 3) := by decide +kernel
theorem dX9_save_5 : decode cX9_save 5 = .ok (.iload_n 1, 1) := by decide +kernel
theorem dX9_save_6 : decode cX9_save 6 = .ok (.iconst 0, 1) := by decide +kernel
theorem dX9_save_7 : decode cX9_save 7 = .ok (.iconst 1, 1) := by decide +kernel
theorem dX9_save_8 : decode cX9_save 8 = .ok (.invokestatic 60, 3) := by decide +kernel
theorem dX9_save_11 : decode cX9_save 11 = .ok (.ifCond .ne 6, 3) := by decide +kernel
theorem dX9_save_14 : decode cX9_save 14 = .ok (.bipush (-2), 2) := by decide +kernel
theorem dX9_save_16 : decode cX9_save 16 = .ok (.ireturn, 1) := by decide +kernel
theorem dX9_save_17 : decode cX9_save 17 = .ok (.iconst 0, 1) := by decide +kernel
theorem dX9_save_18 : decode cX9_save 18 = .ok (.istore_n 2, 1) := by decide +kernel
theorem dX9_save_19 : decode cX9_save 19 = .ok (.iload_n 2, 1) := by decide +kernel
theorem dX9_save_20 : decode cX9_save 20 = .ok (.sipush 228, 3) := by decide +kernel
theorem dX9_save_23 : decode cX9_save 23 = .ok (.if_icmp .ge 27, 3) := by decide +kernel
theorem dX9_save_26 : decode cX9_save 26 = .ok (.aload_n 0, 1) := by decide +kernel
theorem dX9_save_27 : decode cX9_save 27 = .ok (.getfield 16, 3) := by decide +kernel
theorem dX9_save_30 : decode cX9_save 30 = .ok (.sipush 228, 3) := by decide +kernel
theorem dX9_save_33 : decode cX9_save 33 = .ok (.iload_n 1, 1) := by decide +kernel
theorem dX9_save_34 : decode cX9_save 34 = .ok (.imul, 1) := by decide +kernel
theorem dX9_save_35 : decode cX9_save 35 = .ok (.iload_n 2, 1) := by decide +kernel
theorem dX9_save_36 : decode cX9_save 36 = .ok (.iadd, 1) := by decide +kernel
theorem dX9_save_37 : decode cX9_save 37 = .ok (.aload_n 0, 1) := by decide +kernel
theorem dX9_save_38 : decode cX9_save 38 = .ok (.getfield 7, 3) := by decide +kernel
theorem dX9_save_41 : decode cX9_save 41 = .ok (.iload_n 2, 1) := by decide +kernel
theorem dX9_save_42 : decode cX9_save 42 = .ok (.iaload, 1) := by decide +kernel
theorem dX9_save_43 : decode cX9_save 43 = .ok (.iastore, 1) := by decide +kernel
theorem dX9_save_44 : decode cX9_save 44 = .ok (.iinc 2 1, 3) := by decide +kernel
theorem dX9_save_47 : decode cX9_save 47 = .ok (.goto (-28), 3) := by decide +kernel
theorem dX9_save_50 : decode cX9_save 50 = .ok (.aload_n 0, 1) := by decide +kernel
theorem dX9_save_51 : decode cX9_save 51 = .ok (.getfield 19, 3) := by decide +kernel
theorem dX9_save_54 : decode cX9_save 54 = .ok (.iload_n 1, 1) := by decide +kernel
theorem dX9_save_55 : decode cX9_save 55 = .ok (.iconst 1, 1) := by decide +kernel
theorem dX9_save_56 : decode cX9_save 56 = .ok (.bastore, 1) := by decide +kernel
theorem dX9_save_57 : decode cX9_save 57 = .ok (.aload_n 0, 1) := by decide +kernel
theorem dX9_save_58 : decode cX9_save 58 = .ok (.getfield 7, 3) := by decide +kernel
theorem dX9_save_61 : decode cX9_save 61 = .ok (.iconst 5, 1) := by decide +kernel
theorem dX9_save_62 : decode cX9_save 62 = .ok (.iaload, 1) := by decide +kernel
theorem dX9_save_63 : decode cX9_save 63 = .ok (.ireturn, 1) := by decide +kernel
theorem dX9_restore_0 : decode cX9_restore 0 = .ok (.aload_n 0, 1) := by decide +kernel
theorem dX9_restore_1 : decode cX9_restore 1 = .ok (.iconst 0, 1) := by decide +kernel
theorem dX9_restore_2 : decode cX9_restore 2 = .ok (.putfield 56, 3) := by decide +kernel
theorem dX9_restore_5 : decode cX9_restore 5 = .ok (.iload_n 1, 1) := by decide +kernel
theorem dX9_restore_6 : decode cX9_restore 6 = .ok (.iconst 0, 1) := by decide +kernel
theorem dX9_restore_7 : decode cX9_restore 7 = .ok (.iconst 1, 1) := by decide +kernel
theorem dX9_restore_8 : decode cX9_restore 8 = .ok (.invokestatic 60, 3) := by decide +kernel
theorem dX9_restore_11 : decode cX9_restore 11 = .ok (.ifCond .ne 6, 3) := by decide +kernel
theorem dX9_restore_14 : decode cX9_restore 14 = .ok (.bipush (-2), 2) := by decide +kernel
theorem dX9_restore_16 : decode cX9_restore 16 = .ok (.ireturn, 1) := by decide +kernel
theorem dX9_restore_17 : decode cX9_restore 17 = .ok (.aload_n 0, 1) := by decide +kernel
theorem dX9_restore_18 : decode cX9_restore 18 = .ok (.getfield 19, 3) := by decide +kernel
theorem dX9_restore_21 : decode cX9_restore 21 = .ok (.iload_n 1, 1) := by decide +kernel
theorem dX9_restore_22 : decode cX9_restore 22 = .ok (.baload, 1) := by decide +kernel
theorem dX9_restore_23 : decode cX9_restore 23 = .ok (.ifCond .ne 6, 3) := by decide +kernel
theorem dX9_restore_26 : decode cX9_restore 26 = .ok (.bipush (-5), 2) := by decide +kernel
theorem dX9_restore_28 : decode cX9_restore 28 = .ok (.ireturn, 1) := by decide +kernel
theorem dX9_restore_29 : decode cX9_restore 29 = .ok (.aload_n 0, 1) := by decide +kernel
theorem dX9_restore_30 : decode cX9_restore 30 = .ok (.invokevirtual 127, 3) := by decide +kernel
theorem dX9_restore_33 : decode cX9_restore 33 = .ok (.iconst 0, 1) := by decide +kernel
theorem dX9_restore_34 : decode cX9_restore 34 = .ok (.istore_n 2, 1) := by decide +kernel
theorem dX9_restore_35 : decode cX9_restore 35 = .ok (.iload_n 2, 1) := by decide +kernel
theorem dX9_restore_36 : decode cX9_restore 36 = .ok (.sipush 228, 3) := by decide +kernel
theorem dX9_restore_39 : decode cX9_restore 39 = .ok (.if_icmp .ge 27, 3) := by decide +kernel
theorem dX9_restore_42 : decode cX9_restore 42 = .ok (.aload_n 0, 1) := by decide +kernel
theorem dX9_restore_43 : decode cX9_restore 43 = .ok (.getfield 7, 3) := by decide +kernel
theorem dX9_restore_46 : decode cX9_restore 46 = .ok (.iload_n 2, 1) := by decide +kernel
theorem dX9_restore_47 : decode cX9_restore 47 = .ok (.aload_n 0, 1) := by decide +kernel
theorem dX9_restore_48 : decode cX9_restore 48 = .ok (.getfield 16, 3) := by decide +kernel
theorem dX9_restore_51 : decode cX9_restore 51 = .ok (.sipush 228, 3) := by decide +kernel
theorem dX9_restore_54 : decode cX9_restore 54 = .ok (.iload_n 1, 1) := by decide +kernel
theorem dX9_restore_55 : decode cX9_restore 55 = .ok (.imul, 1) := by decide +kernel
theorem dX9_restore_56 : decode cX9_restore 56 = .ok (.iload_n 2, 1) := by decide +kernel
theorem dX9_restore_57 : decode cX9_restore 57 = .ok (.iadd, 1) := by decide +kernel
theorem dX9_restore_58 : decode cX9_restore 58 = .ok (.iaload, 1) := by decide +kernel
theorem dX9_restore_59 : decode cX9_restore 59 = .ok (.iastore, 1) := by decide +kernel
theorem dX9_restore_60 : decode cX9_restore 60 = .ok (.iinc 2 1, 3) := by decide +kernel
theorem dX9_restore_63 : decode cX9_restore 63 = .ok (.goto (-28), 3) := by decide +kernel
theorem dX9_restore_66 : decode cX9_restore 66 = .ok (.aload_n 0, 1) := by decide +kernel
theorem dX9_restore_67 : decode cX9_restore 67 = .ok (.getfield 7, 3) := by decide +kernel
theorem dX9_restore_70 : decode cX9_restore 70 = .ok (.iconst 5, 1) := by decide +kernel
theorem dX9_restore_71 : decode cX9_restore 71 = .ok (.iaload, 1) := by decide +kernel
theorem dX9_restore_72 : decode cX9_restore 72 = .ok (.ireturn, 1) := by decide +kernel
theorem dJ9_max_7cf53_0 : decode cJ9_max_7cf53 0 = .ok (.iload_n 0, 1) := by decide +kernel
theorem dJ9_max_7cf53_1 : decode cJ9_max_7cf53 1 = .ok (.iload_n 1, 1) := by decide +kernel
theorem dJ9_max_7cf53_2 : decode cJ9_max_7cf53 2 = .ok (.if_icmp .lt 7, 3) := by decide +kernel
theorem dJ9_max_7cf53_5 : decode cJ9_max_7cf53 5 = .ok (.iload_n 0, 1) := by decide +kernel
theorem dJ9_max_7cf53_6 : decode cJ9_max_7cf53 6 = .ok (.goto 4, 3) := by decide +kernel
theorem dJ9_max_7cf53_9 : decode cJ9_max_7cf53 9 = .ok (.iload_n 1, 1) := by decide +kernel
theorem dJ9_max_7cf53_10 : decode cJ9_max_7cf53 10 = .ok (.ireturn, 1) := by decide +kernel
theorem dJ9_min_7cf53_0 : decode cJ9_min_7cf53 0 = .ok (.iload_n 0, 1) := by decide +kernel
theorem dJ9_min_7cf53_1 : decode cJ9_min_7cf53 1 = .ok (.iload_n 1, 1) := by decide +kernel
theorem dJ9_min_7cf53_2 : decode cJ9_min_7cf53 2 = .ok (.if_icmp .gt 7, 3) := by decide +kernel
theorem dJ9_min_7cf53_5 : decode cJ9_min_7cf53 5 = .ok (.iload_n 0, 1) := by decide +kernel
theorem dJ9_min_7cf53_6 : decode cJ9_min_7cf53 6 = .ok (.goto 4, 3) := by decide +kernel
theorem dJ9_min_7cf53_9 : decode cJ9_min_7cf53 9 = .ok (.iload_n 1, 1) := by decide +kernel
theorem dJ9_min_7cf53_10 : decode cJ9_min_7cf53 10 = .ok (.ireturn, 1) := by decide +kernel
theorem dL_law_0 : decode cL_law 0 = .ok (.new 7, 3) := by decide +kernel
theorem dL_law_3 : decode cL_law 3 = .ok (.dup, 1) := by decide +kernel
theorem dL_law_4 : decode cL_law 4 = .ok (.invokespecial 9, 3) := by decide +kernel
theorem dL_law_7 : decode cL_law 7 = .ok (.astore_n 1, 1) := by decide +kernel
theorem dL_law_8 : decode cL_law 8 = .ok (.new 10, 3) := by decide +kernel
theorem dL_law_11 : decode cL_law 11 = .ok (.dup, 1) := by decide +kernel
theorem dL_law_12 : decode cL_law 12 = .ok (.invokespecial 12, 3) := by decide +kernel
theorem dL_law_15 : decode cL_law 15 = .ok (.astore_n 2, 1) := by decide +kernel
theorem dL_law_16 : decode cL_law 16 = .ok (.iconst 0, 1) := by decide +kernel
theorem dL_law_17 : decode cL_law 17 = .ok (.istore_n 3, 1) := by decide +kernel
theorem dL_law_18 : decode cL_law 18 = .ok (.iload_n 3, 1) := by decide +kernel
theorem dL_law_19 : decode cL_law 19 = .ok (.aload_n 0, 1) := by decide +kernel
theorem dL_law_20 : decode cL_law 20 = .ok (.arraylength, 1) := by decide +kernel
theorem dL_law_21 : decode cL_law 21 = .ok (.iconst 5, 1) := by decide +kernel
theorem dL_law_22 : decode cL_law 22 = .ok (.isub, 1) := by decide +kernel
theorem dL_law_23 : decode cL_law 23 = .ok (.if_icmp .gt 819, 3) := by decide +kernel
theorem dL_law_26 : decode cL_law 26 = .ok (.aload_n 0, 1) := by decide +kernel
theorem dL_law_27 : decode cL_law 27 = .ok (.iload_n 3, 1) := by decide +kernel
theorem dL_law_28 : decode cL_law 28 = .ok (.iaload, 1) := by decide +kernel
theorem dL_law_29 : decode cL_law 29 = .ok (.bipush 31, 2) := by decide +kernel
theorem dL_law_31 : decode cL_law 31 = .ok (.iand, 1) := by decide +kernel
theorem dL_law_32 : decode cL_law 32 = .ok (.tableswitch 804 0 23 #[112, 135, 158, 201, 234, 267, 300, 333, 386, 409, 442, 475, 508, 541, 564, 587, 630, 653, 706, 719, 732, 745, 758, 781], 112) := by decide +kernel
theorem dL_law_144 : decode cL_law 144 = .ok (.aload_n 1, 1) := by decide +kernel
theorem dL_law_145 : decode cL_law 145 = .ok (.aload_n 0, 1) := by decide +kernel
theorem dL_law_146 : decode cL_law 146 = .ok (.iload_n 3, 1) := by decide +kernel
theorem dL_law_147 : decode cL_law 147 = .ok (.iconst 1, 1) := by decide +kernel
theorem dL_law_148 : decode cL_law 148 = .ok (.iadd, 1) := by decide +kernel
theorem dL_law_149 : decode cL_law 149 = .ok (.iaload, 1) := by decide +kernel
theorem dL_law_150 : decode cL_law 150 = .ok (.invokevirtual 13, 3) := by decide +kernel
theorem dL_law_153 : decode cL_law 153 = .ok (.aload_n 2, 1) := by decide +kernel
theorem dL_law_154 : decode cL_law 154 = .ok (.aload_n 0, 1) := by decide +kernel
theorem dL_law_155 : decode cL_law 155 = .ok (.iload_n 3, 1) := by decide +kernel
theorem dL_law_156 : decode cL_law 156 = .ok (.iconst 1, 1) := by decide +kernel
theorem dL_law_157 : decode cL_law 157 = .ok (.iadd, 1) := by decide +kernel
theorem dL_law_158 : decode cL_law 158 = .ok (.iaload, 1) := by decide +kernel
theorem dL_law_159 : decode cL_law 159 = .ok (.invokevirtual 17, 3) := by decide +kernel
theorem dL_law_162 : decode cL_law 162 = .ok (.if_icmp .eq 674, 3) := by decide +kernel
theorem dL_law_165 : decode cL_law 165 = .ok (.iconst 0, 1) := by decide +kernel
theorem dL_law_166 : decode cL_law 166 = .ok (.ireturn, 1) := by decide +kernel
theorem dL_law_167 : decode cL_law 167 = .ok (.aload_n 1, 1) := by decide +kernel
theorem dL_law_168 : decode cL_law 168 = .ok (.aload_n 0, 1) := by decide +kernel
theorem dL_law_169 : decode cL_law 169 = .ok (.iload_n 3, 1) := by decide +kernel
theorem dL_law_170 : decode cL_law 170 = .ok (.iconst 1, 1) := by decide +kernel
theorem dL_law_171 : decode cL_law 171 = .ok (.iadd, 1) := by decide +kernel
theorem dL_law_172 : decode cL_law 172 = .ok (.iaload, 1) := by decide +kernel
theorem dL_law_173 : decode cL_law 173 = .ok (.invokevirtual 18, 3) := by decide +kernel
theorem dL_law_176 : decode cL_law 176 = .ok (.aload_n 2, 1) := by decide +kernel
theorem dL_law_177 : decode cL_law 177 = .ok (.aload_n 0, 1) := by decide +kernel
theorem dL_law_178 : decode cL_law 178 = .ok (.iload_n 3, 1) := by decide +kernel
theorem dL_law_179 : decode cL_law 179 = .ok (.iconst 1, 1) := by decide +kernel
theorem dL_law_180 : decode cL_law 180 = .ok (.iadd, 1) := by decide +kernel
theorem dL_law_181 : decode cL_law 181 = .ok (.iaload, 1) := by decide +kernel
theorem dL_law_182 : decode cL_law 182 = .ok (.invokevirtual 21, 3) := by decide +kernel
theorem dL_law_185 : decode cL_law 185 = .ok (.if_icmp .eq 651, 3) := by decide +kernel
theorem dL_law_188 : decode cL_law 188 = .ok (.iconst 0, 1) := by decide +kernel
theorem dL_law_189 : decode cL_law 189 = .ok (.ireturn, 1) := by decide +kernel
theorem dL_law_190 : decode cL_law 190 = .ok (.aload_n 1, 1) := by decide +kernel
theorem dL_law_191 : decode cL_law 191 = .ok (.aload_n 0, 1) := by decide +kernel
theorem dL_law_192 : decode cL_law 192 = .ok (.iload_n 3, 1) := by decide +kernel
theorem dL_law_193 : decode cL_law 193 = .ok (.iconst 1, 1) := by decide +kernel
theorem dL_law_194 : decode cL_law 194 = .ok (.iadd, 1) := by decide +kernel
theorem dL_law_195 : decode cL_law 195 = .ok (.iaload, 1) := by decide +kernel
theorem dL_law_196 : decode cL_law 196 = .ok (.aload_n 0, 1) := by decide +kernel
theorem dL_law_197 : decode cL_law 197 = .ok (.iload_n 3, 1) := by decide +kernel
theorem dL_law_198 : decode cL_law 198 = .ok (.iconst 2, 1) := by decide +kernel
theorem dL_law_199 : decode cL_law 199 = .ok (.iadd, 1) := by decide +kernel
theorem dL_law_200 : decode cL_law 200 = .ok (.iaload, 1) := by decide +kernel
theorem dL_law_201 : decode cL_law 201 = .ok (.aload_n 0, 1) := by decide +kernel
theorem dL_law_202 : decode cL_law 202 = .ok (.iload_n 3, 1) := by decide +kernel
theorem dL_law_203 : decode cL_law 203 = .ok (.iconst 3, 1) := by decide +kernel
theorem dL_law_204 : decode cL_law 204 = .ok (.iadd, 1) := by decide +kernel
theorem dL_law_205 : decode cL_law 205 = .ok (.iaload, 1) := by decide +kernel
theorem dL_law_206 : decode cL_law 206 = .ok (.invokevirtual 22, 3) := by decide +kernel
theorem dL_law_209 : decode cL_law 209 = .ok (.aload_n 2, 1) := by decide +kernel
theorem dL_law_210 : decode cL_law 210 = .ok (.aload_n 0, 1) := by decide +kernel
theorem dL_law_211 : decode cL_law 211 = .ok (.iload_n 3, 1) := by decide +kernel
theorem dL_law_212 : decode cL_law 212 = .ok (.iconst 1, 1) := by decide +kernel
theorem dL_law_213 : decode cL_law 213 = .ok (.iadd, 1) := by decide +kernel
theorem dL_law_214 : decode cL_law 214 = .ok (.iaload, 1) := by decide +kernel
theorem dL_law_215 : decode cL_law 215 = .ok (.aload_n 0, 1) := by decide +kernel
theorem dL_law_216 : decode cL_law 216 = .ok (.iload_n 3, 1) := by decide +kernel
theorem dL_law_217 : decode cL_law 217 = .ok (.iconst 2, 1) := by decide +kernel
theorem dL_law_218 : decode cL_law 218 = .ok (.iadd, 1) := by decide +kernel
theorem dL_law_219 : decode cL_law 219 = .ok (.iaload, 1) := by decide +kernel
theorem dL_law_220 : decode cL_law 220 = .ok (.aload_n 0, 1) := by decide +kernel
theorem dL_law_221 : decode cL_law 221 = .ok (.iload_n 3, 1) := by decide +kernel
theorem dL_law_222 : decode cL_law 222 = .ok (.iconst 3, 1) := by decide +kernel
theorem dL_law_223 : decode cL_law 223 = .ok (.iadd, 1) := by decide +kernel
theorem dL_law_224 : decode cL_law 224 = .ok (.iaload, 1) := by decide +kernel
theorem dL_law_225 : decode cL_law 225 = .ok (.invokevirtual 26, 3) := by decide +kernel
theorem dL_law_228 : decode cL_law 228 = .ok (.if_icmp .eq 608, 3) := by decide +kernel
theorem dL_law_231 : decode cL_law 231 = .ok (.iconst 0, 1) := by decide +kernel
theorem dL_law_232 : decode cL_law 232 = .ok (.ireturn, 1) := by decide +kernel
theorem dL_law_233 : decode cL_law 233 = .ok (.aload_n 1, 1) := by decide +kernel
theorem dL_law_234 : decode cL_law 234 = .ok (.aload_n 0, 1) := by decide +kernel
theorem dL_law_235 : decode cL_law 235 = .ok (.iload_n 3, 1) := by decide +kernel
theorem dL_law_236 : decode cL_law 236 = .ok (.iconst 1, 1) := by decide +kernel
theorem dL_law_237 : decode cL_law 237 = .ok (.iadd, 1) := by decide +kernel
theorem dL_law_238 : decode cL_law 238 = .ok (.iaload, 1) := by decide +kernel
theorem dL_law_239 : decode cL_law 239 = .ok (.aload_n 0, 1) := by decide +kernel
theorem dL_law_240 : decode cL_law 240 = .ok (.iload_n 3, 1) := by decide +kernel
theorem dL_law_241 : decode cL_law 241 = .ok (.iconst 2, 1) := by decide +kernel
theorem dL_law_242 : decode cL_law 242 = .ok (.iadd, 1) := by decide +kernel
theorem dL_law_243 : decode cL_law 243 = .ok (.iaload, 1) := by decide +kernel
theorem dL_law_244 : decode cL_law 244 = .ok (.invokevirtual 27, 3) := by decide +kernel
theorem dL_law_247 : decode cL_law 247 = .ok (.aload_n 2, 1) := by decide +kernel
theorem dL_law_248 : decode cL_law 248 = .ok (.aload_n 0, 1) := by decide +kernel
theorem dL_law_249 : decode cL_law 249 = .ok (.iload_n 3, 1) := by decide +kernel
theorem dL_law_250 : decode cL_law 250 = .ok (.iconst 1, 1) := by decide +kernel
theorem dL_law_251 : decode cL_law 251 = .ok (.iadd, 1) := by decide +kernel
theorem dL_law_252 : decode cL_law 252 = .ok (.iaload, 1) := by decide +kernel
theorem dL_law_253 : decode cL_law 253 = .ok (.aload_n 0, 1) := by decide +kernel
theorem dL_law_254 : decode cL_law 254 = .ok (.iload_n 3, 1) := by decide +kernel
theorem dL_law_255 : decode cL_law 255 = .ok (.iconst 2, 1) := by decide +kernel
theorem dL_law_256 : decode cL_law 256 = .ok (.iadd, 1) := by decide +kernel
theorem dL_law_257 : decode cL_law 257 = .ok (.iaload, 1) := by decide +kernel
theorem dL_law_258 : decode cL_law 258 = .ok (.invokevirtual 31, 3) := by decide +kernel
theorem dL_law_261 : decode cL_law 261 = .ok (.if_icmp .eq 575, 3) := by decide +kernel
theorem dL_law_264 : decode cL_law 264 = .ok (.iconst 0, 1) := by decide +kernel
theorem dL_law_265 : decode cL_law 265 = .ok (.ireturn, 1) := by decide +kernel
theorem dL_law_266 : decode cL_law 266 = .ok (.aload_n 1, 1) := by decide +kernel
theorem dL_law_267 : decode cL_law 267 = .ok (.aload_n 0, 1) := by decide +kernel
theorem dL_law_268 : decode cL_law 268 = .ok (.iload_n 3, 1) := by decide +kernel
theorem dL_law_269 : decode cL_law 269 = .ok (.iconst 1, 1) := by decide +kernel
theorem dL_law_270 : decode cL_law 270 = .ok (.iadd, 1) := by decide +kernel
theorem dL_law_271 : decode cL_law 271 = .ok (.iaload, 1) := by decide +kernel
theorem dL_law_272 : decode cL_law 272 = .ok (.aload_n 0, 1) := by decide +kernel
theorem dL_law_273 : decode cL_law 273 = .ok (.iload_n 3, 1) := by decide +kernel
theorem dL_law_274 : decode cL_law 274 = .ok (.iconst 2, 1) := by decide +kernel
theorem dL_law_275 : decode cL_law 275 = .ok (.iadd, 1) := by decide +kernel
theorem dL_law_276 : decode cL_law 276 = .ok (.iaload, 1) := by decide +kernel
theorem dL_law_277 : decode cL_law 277 = .ok (.invokevirtual 32, 3) := by decide +kernel
theorem dL_law_280 : decode cL_law 280 = .ok (.aload_n 2, 1) := by decide +kernel
theorem dL_law_281 : decode cL_law 281 = .ok (.aload_n 0, 1) := by decide +kernel
theorem dL_law_282 : decode cL_law 282 = .ok (.iload_n 3, 1) := by decide +kernel
theorem dL_law_283 : decode cL_law 283 = .ok (.iconst 1, 1) := by decide +kernel
theorem dL_law_284 : decode cL_law 284 = .ok (.iadd, 1) := by decide +kernel
theorem dL_law_285 : decode cL_law 285 = .ok (.iaload, 1) := by decide +kernel
theorem dL_law_286 : decode cL_law 286 = .ok (.aload_n 0, 1) := by decide +kernel
theorem dL_law_287 : decode cL_law 287 = .ok (.iload_n 3, 1) := by decide +kernel
theorem dL_law_288 : decode cL_law 288 = .ok (.iconst 2, 1) := by decide +kernel
theorem dL_law_289 : decode cL_law 289 = .ok (.iadd, 1) := by decide +kernel
theorem dL_law_290 : decode cL_law 290 = .ok (.iaload, 1) := by decide +kernel
theorem dL_law_291 : decode cL_law 291 = .ok (.invokevirtual 35, 3) := by decide +kernel
theorem dL_law_294 : decode cL_law 294 = .ok (.if_icmp .eq 542, 3) := by decide +kernel
theorem dL_law_297 : decode cL_law 297 = .ok (.iconst 0, 1) := by decide +kernel
theorem dL_law_298 : decode cL_law 298 = .ok (.ireturn, 1) := by decide +kernel
theorem dL_law_299 : decode cL_law 299 = .ok (.aload_n 1, 1) := by decide +kernel
theorem dL_law_300 : decode cL_law 300 = .ok (.aload_n 0, 1) := by decide +kernel
theorem dL_law_301 : decode cL_law 301 = .ok (.iload_n 3, 1) := by decide +kernel
theorem dL_law_302 : decode cL_law 302 = .ok (.iconst 1, 1) := by decide +kernel
theorem dL_law_303 : decode cL_law 303 = .ok (.iadd, 1) := by decide +kernel
theorem dL_law_304 : decode cL_law 304 = .ok (.iaload, 1) := by decide +kernel
theorem dL_law_305 : decode cL_law 305 = .ok (.aload_n 0, 1) := by decide +kernel
theorem dL_law_306 : decode cL_law 306 = .ok (.iload_n 3, 1) := by decide +kernel
theorem dL_law_307 : decode cL_law 307 = .ok (.iconst 2, 1) := by decide +kernel
theorem dL_law_308 : decode cL_law 308 = .ok (.iadd, 1) := by decide +kernel
theorem dL_law_309 : decode cL_law 309 = .ok (.iaload, 1) := by decide +kernel
theorem dL_law_310 : decode cL_law 310 = .ok (.invokevirtual 36, 3) := by decide +kernel
theorem dL_law_313 : decode cL_law 313 = .ok (.aload_n 2, 1) := by decide +kernel
theorem dL_law_314 : decode cL_law 314 = .ok (.aload_n 0, 1) := by decide +kernel
theorem dL_law_315 : decode cL_law 315 = .ok (.iload_n 3, 1) := by decide +kernel
theorem dL_law_316 : decode cL_law 316 = .ok (.iconst 1, 1) := by decide +kernel
theorem dL_law_317 : decode cL_law 317 = .ok (.iadd, 1) := by decide +kernel
theorem dL_law_318 : decode cL_law 318 = .ok (.iaload, 1) := by decide +kernel
theorem dL_law_319 : decode cL_law 319 = .ok (.aload_n 0, 1) := by decide +kernel
theorem dL_law_320 : decode cL_law 320 = .ok (.iload_n 3, 1) := by decide +kernel
theorem dL_law_321 : decode cL_law 321 = .ok (.iconst 2, 1) := by decide +kernel
theorem dL_law_322 : decode cL_law 322 = .ok (.iadd, 1) := by decide +kernel
theorem dL_law_323 : decode cL_law 323 = .ok (.iaload, 1) := by decide +kernel
theorem dL_law_324 : decode cL_law 324 = .ok (.invokevirtual 39, 3) := by decide +kernel
theorem dL_law_327 : decode cL_law 327 = .ok (.if_icmp .eq 509, 3) := by decide +kernel
theorem dL_law_330 : decode cL_law 330 = .ok (.iconst 0, 1) := by decide +kernel
theorem dL_law_331 : decode cL_law 331 = .ok (.ireturn, 1) := by decide +kernel
theorem dL_law_332 : decode cL_law 332 = .ok (.aload_n 1, 1) := by decide +kernel
theorem dL_law_333 : decode cL_law 333 = .ok (.aload_n 0, 1) := by decide +kernel
theorem dL_law_334 : decode cL_law 334 = .ok (.iload_n 3, 1) := by decide +kernel
theorem dL_law_335 : decode cL_law 335 = .ok (.iconst 1, 1) := by decide +kernel
theorem dL_law_336 : decode cL_law 336 = .ok (.iadd, 1) := by decide +kernel
theorem dL_law_337 : decode cL_law 337 = .ok (.iaload, 1) := by decide +kernel
theorem dL_law_338 : decode cL_law 338 = .ok (.aload_n 0, 1) := by decide +kernel
theorem dL_law_339 : decode cL_law 339 = .ok (.iload_n 3, 1) := by decide +kernel
theorem dL_law_340 : decode cL_law 340 = .ok (.iconst 2, 1) := by decide +kernel
theorem dL_law_341 : decode cL_law 341 = .ok (.iadd, 1) := by decide +kernel
theorem dL_law_342 : decode cL_law 342 = .ok (.iaload, 1) := by decide +kernel
theorem dL_law_343 : decode cL_law 343 = .ok (.invokevirtual 40, 3) := by decide +kernel
theorem dL_law_346 : decode cL_law 346 = .ok (.aload_n 2, 1) := by decide +kernel
theorem dL_law_347 : decode cL_law 347 = .ok (.aload_n 0, 1) := by decide +kernel
theorem dL_law_348 : decode cL_law 348 = .ok (.iload_n 3, 1) := by decide +kernel
theorem dL_law_349 : decode cL_law 349 = .ok (.iconst 1, 1) := by decide +kernel
theorem dL_law_350 : decode cL_law 350 = .ok (.iadd, 1) := by decide +kernel
theorem dL_law_351 : decode cL_law 351 = .ok (.iaload, 1) := by decide +kernel
theorem dL_law_352 : decode cL_law 352 = .ok (.aload_n 0, 1) := by decide +kernel
theorem dL_law_353 : decode cL_law 353 = .ok (.iload_n 3, 1) := by decide +kernel
theorem dL_law_354 : decode cL_law 354 = .ok (.iconst 2, 1) := by decide +kernel
theorem dL_law_355 : decode cL_law 355 = .ok (.iadd, 1) := by decide +kernel
theorem dL_law_356 : decode cL_law 356 = .ok (.iaload, 1) := by decide +kernel
theorem dL_law_357 : decode cL_law 357 = .ok (.invokevirtual 43, 3) := by decide +kernel
theorem dL_law_360 : decode cL_law 360 = .ok (.if_icmp .eq 476, 3) := by decide +kernel
theorem dL_law_363 : decode cL_law 363 = .ok (.iconst 0, 1) := by decide +kernel
theorem dL_law_364 : decode cL_law 364 = .ok (.ireturn, 1) := by decide +kernel
theorem dL_law_365 : decode cL_law 365 = .ok (.aload_n 1, 1) := by decide +kernel
theorem dL_law_366 : decode cL_law 366 = .ok (.aload_n 0, 1) := by decide +kernel
theorem dL_law_367 : decode cL_law 367 = .ok (.iload_n 3, 1) := by decide +kernel
theorem dL_law_368 : decode cL_law 368 = .ok (.iconst 1, 1) := by decide +kernel
theorem dL_law_369 : decode cL_law 369 = .ok (.iadd, 1) := by decide +kernel
theorem dL_law_370 : decode cL_law 370 = .ok (.iaload, 1) := by decide +kernel
theorem dL_law_371 : decode cL_law 371 = .ok (.aload_n 0, 1) := by decide +kernel
theorem dL_law_372 : decode cL_law 372 = .ok (.iload_n 3, 1) := by decide +kernel
theorem dL_law_373 : decode cL_law 373 = .ok (.iconst 2, 1) := by decide +kernel
theorem dL_law_374 : decode cL_law 374 = .ok (.iadd, 1) := by decide +kernel
theorem dL_law_375 : decode cL_law 375 = .ok (.iaload, 1) := by decide +kernel
theorem dL_law_376 : decode cL_law 376 = .ok (.aload_n 0, 1) := by decide +kernel
theorem dL_law_377 : decode cL_law 377 = .ok (.iload_n 3, 1) := by decide +kernel
theorem dL_law_378 : decode cL_law 378 = .ok (.iconst 3, 1) := by decide +kernel
theorem dL_law_379 : decode cL_law 379 = .ok (.iadd, 1) := by decide +kernel
theorem dL_law_380 : decode cL_law 380 = .ok (.iaload, 1) := by decide +kernel
theorem dL_law_381 : decode cL_law 381 = .ok (.aload_n 0, 1) := by decide +kernel
theorem dL_law_382 : decode cL_law 382 = .ok (.iload_n 3, 1) := by decide +kernel
theorem dL_law_383 : decode cL_law 383 = .ok (.iconst 4, 1) := by decide +kernel
theorem dL_law_384 : decode cL_law 384 = .ok (.iadd, 1) := by decide +kernel
theorem dL_law_385 : decode cL_law 385 = .ok (.iaload, 1) := by decide +kernel
theorem dL_law_386 : decode cL_law 386 = .ok (.invokevirtual 44, 3) := by decide +kernel
theorem dL_law_389 : decode cL_law 389 = .ok (.aload_n 2, 1) := by decide +kernel
theorem dL_law_390 : decode cL_law 390 = .ok (.aload_n 0, 1) := by decide +kernel
theorem dL_law_391 : decode cL_law 391 = .ok (.iload_n 3, 1) := by decide +kernel
theorem dL_law_392 : decode cL_law 392 = .ok (.iconst 1, 1) := by decide +kernel
theorem dL_law_393 : decode cL_law 393 = .ok (.iadd, 1) := by decide +kernel
theorem dL_law_394 : decode cL_law 394 = .ok (.iaload, 1) := by decide +kernel
theorem dL_law_395 : decode cL_law 395 = .ok (.aload_n 0, 1) := by decide +kernel
theorem dL_law_396 : decode cL_law 396 = .ok (.iload_n 3, 1) := by decide +kernel
theorem dL_law_397 : decode cL_law 397 = .ok (.iconst 2, 1) := by decide +kernel
theorem dL_law_398 : decode cL_law 398 = .ok (.iadd, 1) := by decide +kernel
theorem dL_law_399 : decode cL_law 399 = .ok (.iaload, 1) := by decide +kernel
theorem dL_law_400 : decode cL_law 400 = .ok (.aload_n 0, 1) := by decide +kernel
theorem dL_law_401 : decode cL_law 401 = .ok (.iload_n 3, 1) := by decide +kernel
theorem dL_law_402 : decode cL_law 402 = .ok (.iconst 3, 1) := by decide +kernel
theorem dL_law_403 : decode cL_law 403 = .ok (.iadd, 1) := by decide +kernel
theorem dL_law_404 : decode cL_law 404 = .ok (.iaload, 1) := by decide +kernel
theorem dL_law_405 : decode cL_law 405 = .ok (.aload_n 0, 1) := by decide +kernel
theorem dL_law_406 : decode cL_law 406 = .ok (.iload_n 3, 1) := by decide +kernel
theorem dL_law_407 : decode cL_law 407 = .ok (.iconst 4, 1) := by decide +kernel
theorem dL_law_408 : decode cL_law 408 = .ok (.iadd, 1) := by decide +kernel
theorem dL_law_409 : decode cL_law 409 = .ok (.iaload, 1) := by decide +kernel
theorem dL_law_410 : decode cL_law 410 = .ok (.invokevirtual 48, 3) := by decide +kernel
theorem dL_law_413 : decode cL_law 413 = .ok (.if_icmp .eq 423, 3) := by decide +kernel
theorem dL_law_416 : decode cL_law 416 = .ok (.iconst 0, 1) := by decide +kernel
theorem dL_law_417 : decode cL_law 417 = .ok (.ireturn, 1) := by decide +kernel
theorem dL_law_418 : decode cL_law 418 = .ok (.aload_n 1, 1) := by decide +kernel
theorem dL_law_419 : decode cL_law 419 = .ok (.aload_n 0, 1) := by decide +kernel
theorem dL_law_420 : decode cL_law 420 = .ok (.iload_n 3, 1) := by decide +kernel
theorem dL_law_421 : decode cL_law 421 = .ok (.iconst 1, 1) := by decide +kernel
theorem dL_law_422 : decode cL_law 422 = .ok (.iadd, 1) := by decide +kernel
theorem dL_law_423 : decode cL_law 423 = .ok (.iaload, 1) := by decide +kernel
theorem dL_law_424 : decode cL_law 424 = .ok (.invokevirtual 49, 3) := by decide +kernel
theorem dL_law_427 : decode cL_law 427 = .ok (.aload_n 2, 1) := by decide +kernel
theorem dL_law_428 : decode cL_law 428 = .ok (.aload_n 0, 1) := by decide +kernel
theorem dL_law_429 : decode cL_law 429 = .ok (.iload_n 3, 1) := by decide +kernel
theorem dL_law_430 : decode cL_law 430 = .ok (.iconst 1, 1) := by decide +kernel
theorem dL_law_431 : decode cL_law 431 = .ok (.iadd, 1) := by decide +kernel
theorem dL_law_432 : decode cL_law 432 = .ok (.iaload, 1) := by decide +kernel
theorem dL_law_433 : decode cL_law 433 = .ok (.invokevirtual 52, 3) := by decide +kernel
theorem dL_law_436 : decode cL_law 436 = .ok (.if_icmp .eq 400, 3) := by decide +kernel
theorem dL_law_439 : decode cL_law 439 = .ok (.iconst 0, 1) := by decide +kernel
theorem dL_law_440 : decode cL_law 440 = .ok (.ireturn, 1) := by decide +kernel
theorem dL_law_441 : decode cL_law 441 = .ok (.aload_n 1, 1) := by decide +kernel
theorem dL_law_442 : decode cL_law 442 = .ok (.aload_n 0, 1) := by decide +kernel
theorem dL_law_443 : decode cL_law 443 = .ok (.iload_n 3, 1) := by decide +kernel
theorem dL_law_444 : decode cL_law 444 = .ok (.iconst 1, 1) := by decide +kernel
theorem dL_law_445 : decode cL_law 445 = .ok (.iadd, 1) := by decide +kernel
theorem dL_law_446 : decode cL_law 446 = .ok (.iaload, 1) := by decide +kernel
theorem dL_law_447 : decode cL_law 447 = .ok (.aload_n 0, 1) := by decide +kernel
theorem dL_law_448 : decode cL_law 448 = .ok (.iload_n 3, 1) := by decide +kernel
theorem dL_law_449 : decode cL_law 449 = .ok (.iconst 2, 1) := by decide +kernel
theorem dL_law_450 : decode cL_law 450 = .ok (.iadd, 1) := by decide +kernel
theorem dL_law_451 : decode cL_law 451 = .ok (.iaload, 1) := by decide +kernel
theorem dL_law_452 : decode cL_law 452 = .ok (.invokevirtual 53, 3) := by decide +kernel
theorem dL_law_455 : decode cL_law 455 = .ok (.aload_n 2, 1) := by decide +kernel
theorem dL_law_456 : decode cL_law 456 = .ok (.aload_n 0, 1) := by decide +kernel
theorem dL_law_457 : decode cL_law 457 = .ok (.iload_n 3, 1) := by decide +kernel
theorem dL_law_458 : decode cL_law 458 = .ok (.iconst 1, 1) := by decide +kernel
theorem dL_law_459 : decode cL_law 459 = .ok (.iadd, 1) := by decide +kernel
theorem dL_law_460 : decode cL_law 460 = .ok (.iaload, 1) := by decide +kernel
theorem dL_law_461 : decode cL_law 461 = .ok (.aload_n 0, 1) := by decide +kernel
theorem dL_law_462 : decode cL_law 462 = .ok (.iload_n 3, 1) := by decide +kernel
theorem dL_law_463 : decode cL_law 463 = .ok (.iconst 2, 1) := by decide +kernel
theorem dL_law_464 : decode cL_law 464 = .ok (.iadd, 1) := by decide +kernel
theorem dL_law_465 : decode cL_law 465 = .ok (.iaload, 1) := by decide +kernel
theorem dL_law_466 : decode cL_law 466 = .ok (.invokevirtual 56, 3) := by decide +kernel
theorem dL_law_469 : decode cL_law 469 = .ok (.if_icmp .eq 367, 3) := by decide +kernel
theorem dL_law_472 : decode cL_law 472 = .ok (.iconst 0, 1) := by decide +kernel
theorem dL_law_473 : decode cL_law 473 = .ok (.ireturn, 1) := by decide +kernel
theorem dL_law_474 : decode cL_law 474 = .ok (.aload_n 1, 1) := by decide +kernel
theorem dL_law_475 : decode cL_law 475 = .ok (.aload_n 0, 1) := by decide +kernel
theorem dL_law_476 : decode cL_law 476 = .ok (.iload_n 3, 1) := by decide +kernel
theorem dL_law_477 : decode cL_law 477 = .ok (.iconst 1, 1) := by decide +kernel
theorem dL_law_478 : decode cL_law 478 = .ok (.iadd, 1) := by decide +kernel
theorem dL_law_479 : decode cL_law 479 = .ok (.iaload, 1) := by decide +kernel
theorem dL_law_480 : decode cL_law 480 = .ok (.aload_n 0, 1) := by decide +kernel
theorem dL_law_481 : decode cL_law 481 = .ok (.iload_n 3, 1) := by decide +kernel
theorem dL_law_482 : decode cL_law 482 = .ok (.iconst 2, 1) := by decide +kernel
theorem dL_law_483 : decode cL_law 483 = .ok (.iadd, 1) := by decide +kernel
theorem dL_law_484 : decode cL_law 484 = .ok (.iaload, 1) := by decide +kernel
theorem dL_law_485 : decode cL_law 485 = .ok (.invokevirtual 57, 3) := by decide +kernel
theorem dL_law_488 : decode cL_law 488 = .ok (.aload_n 2, 1) := by decide +kernel
theorem dL_law_489 : decode cL_law 489 = .ok (.aload_n 0, 1) := by decide +kernel
theorem dL_law_490 : decode cL_law 490 = .ok (.iload_n 3, 1) := by decide +kernel
theorem dL_law_491 : decode cL_law 491 = .ok (.iconst 1, 1) := by decide +kernel
theorem dL_law_492 : decode cL_law 492 = .ok (.iadd, 1) := by decide +kernel
theorem dL_law_493 : decode cL_law 493 = .ok (.iaload, 1) := by decide +kernel
theorem dL_law_494 : decode cL_law 494 = .ok (.aload_n 0, 1) := by decide +kernel
theorem dL_law_495 : decode cL_law 495 = .ok (.iload_n 3, 1) := by decide +kernel
theorem dL_law_496 : decode cL_law 496 = .ok (.iconst 2, 1) := by decide +kernel
theorem dL_law_497 : decode cL_law 497 = .ok (.iadd, 1) := by decide +kernel
theorem dL_law_498 : decode cL_law 498 = .ok (.iaload, 1) := by decide +kernel
theorem dL_law_499 : decode cL_law 499 = .ok (.invokevirtual 60, 3) := by decide +kernel
theorem dL_law_502 : decode cL_law 502 = .ok (.if_icmp .eq 334, 3) := by decide +kernel
theorem dL_law_505 : decode cL_law 505 = .ok (.iconst 0, 1) := by decide +kernel
theorem dL_law_506 : decode cL_law 506 = .ok (.ireturn, 1) := by decide +kernel
theorem dL_law_507 : decode cL_law 507 = .ok (.aload_n 1, 1) := by decide +kernel
theorem dL_law_508 : decode cL_law 508 = .ok (.aload_n 0, 1) := by decide +kernel
theorem dL_law_509 : decode cL_law 509 = .ok (.iload_n 3, 1) := by decide +kernel
theorem dL_law_510 : decode cL_law 510 = .ok (.iconst 1, 1) := by decide +kernel
theorem dL_law_511 : decode cL_law 511 = .ok (.iadd, 1) := by decide +kernel
theorem dL_law_512 : decode cL_law 512 = .ok (.iaload, 1) := by decide +kernel
theorem dL_law_513 : decode cL_law 513 = .ok (.aload_n 0, 1) := by decide +kernel
theorem dL_law_514 : decode cL_law 514 = .ok (.iload_n 3, 1) := by decide +kernel
theorem dL_law_515 : decode cL_law 515 = .ok (.iconst 2, 1) := by decide +kernel
theorem dL_law_516 : decode cL_law 516 = .ok (.iadd, 1) := by decide +kernel
theorem dL_law_517 : decode cL_law 517 = .ok (.iaload, 1) := by decide +kernel
theorem dL_law_518 : decode cL_law 518 = .ok (.invokevirtual 61, 3) := by decide +kernel
theorem dL_law_521 : decode cL_law 521 = .ok (.aload_n 2, 1) := by decide +kernel
theorem dL_law_522 : decode cL_law 522 = .ok (.aload_n 0, 1) := by decide +kernel
theorem dL_law_523 : decode cL_law 523 = .ok (.iload_n 3, 1) := by decide +kernel
theorem dL_law_524 : decode cL_law 524 = .ok (.iconst 1, 1) := by decide +kernel
theorem dL_law_525 : decode cL_law 525 = .ok (.iadd, 1) := by decide +kernel
theorem dL_law_526 : decode cL_law 526 = .ok (.iaload, 1) := by decide +kernel
theorem dL_law_527 : decode cL_law 527 = .ok (.aload_n 0, 1) := by decide +kernel
theorem dL_law_528 : decode cL_law 528 = .ok (.iload_n 3, 1) := by decide +kernel
theorem dL_law_529 : decode cL_law 529 = .ok (.iconst 2, 1) := by decide +kernel
theorem dL_law_530 : decode cL_law 530 = .ok (.iadd, 1) := by decide +kernel
theorem dL_law_531 : decode cL_law 531 = .ok (.iaload, 1) := by decide +kernel
theorem dL_law_532 : decode cL_law 532 = .ok (.invokevirtual 64, 3) := by decide +kernel
theorem dL_law_535 : decode cL_law 535 = .ok (.if_icmp .eq 301, 3) := by decide +kernel
theorem dL_law_538 : decode cL_law 538 = .ok (.iconst 0, 1) := by decide +kernel
theorem dL_law_539 : decode cL_law 539 = .ok (.ireturn, 1) := by decide +kernel
theorem dL_law_540 : decode cL_law 540 = .ok (.aload_n 1, 1) := by decide +kernel
theorem dL_law_541 : decode cL_law 541 = .ok (.aload_n 0, 1) := by decide +kernel
theorem dL_law_542 : decode cL_law 542 = .ok (.iload_n 3, 1) := by decide +kernel
theorem dL_law_543 : decode cL_law 543 = .ok (.iconst 1, 1) := by decide +kernel
theorem dL_law_544 : decode cL_law 544 = .ok (.iadd, 1) := by decide +kernel
theorem dL_law_545 : decode cL_law 545 = .ok (.iaload, 1) := by decide +kernel
theorem dL_law_546 : decode cL_law 546 = .ok (.aload_n 0, 1) := by decide +kernel
theorem dL_law_547 : decode cL_law 547 = .ok (.iload_n 3, 1) := by decide +kernel
theorem dL_law_548 : decode cL_law 548 = .ok (.iconst 2, 1) := by decide +kernel
theorem dL_law_549 : decode cL_law 549 = .ok (.iadd, 1) := by decide +kernel
theorem dL_law_550 : decode cL_law 550 = .ok (.iaload, 1) := by decide +kernel
theorem dL_law_551 : decode cL_law 551 = .ok (.invokevirtual 65, 3) := by decide +kernel
theorem dL_law_554 : decode cL_law 554 = .ok (.aload_n 2, 1) := by decide +kernel
theorem dL_law_555 : decode cL_law 555 = .ok (.aload_n 0, 1) := by decide +kernel
theorem dL_law_556 : decode cL_law 556 = .ok (.iload_n 3, 1) := by decide +kernel
theorem dL_law_557 : decode cL_law 557 = .ok (.iconst 1, 1) := by decide +kernel
theorem dL_law_558 : decode cL_law 558 = .ok (.iadd, 1) := by decide +kernel
theorem dL_law_559 : decode cL_law 559 = .ok (.iaload, 1) := by decide +kernel
theorem dL_law_560 : decode cL_law 560 = .ok (.aload_n 0, 1) := by decide +kernel
theorem dL_law_561 : decode cL_law 561 = .ok (.iload_n 3, 1) := by decide +kernel
theorem dL_law_562 : decode cL_law 562 = .ok (.iconst 2, 1) := by decide +kernel
theorem dL_law_563 : decode cL_law 563 = .ok (.iadd, 1) := by decide +kernel
theorem dL_law_564 : decode cL_law 564 = .ok (.iaload, 1) := by decide +kernel
theorem dL_law_565 : decode cL_law 565 = .ok (.invokevirtual 68, 3) := by decide +kernel
theorem dL_law_568 : decode cL_law 568 = .ok (.if_icmp .eq 268, 3) := by decide +kernel
theorem dL_law_571 : decode cL_law 571 = .ok (.iconst 0, 1) := by decide +kernel
theorem dL_law_572 : decode cL_law 572 = .ok (.ireturn, 1) := by decide +kernel
theorem dL_law_573 : decode cL_law 573 = .ok (.aload_n 1, 1) := by decide +kernel
theorem dL_law_574 : decode cL_law 574 = .ok (.aload_n 0, 1) := by decide +kernel
theorem dL_law_575 : decode cL_law 575 = .ok (.iload_n 3, 1) := by decide +kernel
theorem dL_law_576 : decode cL_law 576 = .ok (.iconst 1, 1) := by decide +kernel
theorem dL_law_577 : decode cL_law 577 = .ok (.iadd, 1) := by decide +kernel
theorem dL_law_578 : decode cL_law 578 = .ok (.iaload, 1) := by decide +kernel
theorem dL_law_579 : decode cL_law 579 = .ok (.invokevirtual 69, 3) := by decide +kernel
theorem dL_law_582 : decode cL_law 582 = .ok (.aload_n 2, 1) := by decide +kernel
theorem dL_law_583 : decode cL_law 583 = .ok (.aload_n 0, 1) := by decide +kernel
theorem dL_law_584 : decode cL_law 584 = .ok (.iload_n 3, 1) := by decide +kernel
theorem dL_law_585 : decode cL_law 585 = .ok (.iconst 1, 1) := by decide +kernel
theorem dL_law_586 : decode cL_law 586 = .ok (.iadd, 1) := by decide +kernel
theorem dL_law_587 : decode cL_law 587 = .ok (.iaload, 1) := by decide +kernel
theorem dL_law_588 : decode cL_law 588 = .ok (.invokevirtual 72, 3) := by decide +kernel
theorem dL_law_591 : decode cL_law 591 = .ok (.if_icmp .eq 245, 3) := by decide +kernel
theorem dL_law_594 : decode cL_law 594 = .ok (.iconst 0, 1) := by decide +kernel
theorem dL_law_595 : decode cL_law 595 = .ok (.ireturn, 1) := by decide +kernel
theorem dL_law_596 : decode cL_law 596 = .ok (.aload_n 1, 1) := by decide +kernel
theorem dL_law_597 : decode cL_law 597 = .ok (.aload_n 0, 1) := by decide +kernel
theorem dL_law_598 : decode cL_law 598 = .ok (.iload_n 3, 1) := by decide +kernel
theorem dL_law_599 : decode cL_law 599 = .ok (.iconst 1, 1) := by decide +kernel
theorem dL_law_600 : decode cL_law 600 = .ok (.iadd, 1) := by decide +kernel
theorem dL_law_601 : decode cL_law 601 = .ok (.iaload, 1) := by decide +kernel
theorem dL_law_602 : decode cL_law 602 = .ok (.invokevirtual 73, 3) := by decide +kernel
theorem dL_law_605 : decode cL_law 605 = .ok (.aload_n 2, 1) := by decide +kernel
theorem dL_law_606 : decode cL_law 606 = .ok (.aload_n 0, 1) := by decide +kernel
theorem dL_law_607 : decode cL_law 607 = .ok (.iload_n 3, 1) := by decide +kernel
theorem dL_law_608 : decode cL_law 608 = .ok (.iconst 1, 1) := by decide +kernel
theorem dL_law_609 : decode cL_law 609 = .ok (.iadd, 1) := by decide +kernel
theorem dL_law_610 : decode cL_law 610 = .ok (.iaload, 1) := by decide +kernel
theorem dL_law_611 : decode cL_law 611 = .ok (.invokevirtual 76, 3) := by decide +kernel
theorem dL_law_614 : decode cL_law 614 = .ok (.if_icmp .eq 222, 3) := by decide +kernel
theorem dL_law_617 : decode cL_law 617 = .ok (.iconst 0, 1) := by decide +kernel
theorem dL_law_618 : decode cL_law 618 = .ok (.ireturn, 1) := by decide +kernel
theorem dL_law_619 : decode cL_law 619 = .ok (.aload_n 1, 1) := by decide +kernel
theorem dL_law_620 : decode cL_law 620 = .ok (.aload_n 0, 1) := by decide +kernel
theorem dL_law_621 : decode cL_law 621 = .ok (.iload_n 3, 1) := by decide +kernel
theorem dL_law_622 : decode cL_law 622 = .ok (.iconst 1, 1) := by decide +kernel
theorem dL_law_623 : decode cL_law 623 = .ok (.iadd, 1) := by decide +kernel
theorem dL_law_624 : decode cL_law 624 = .ok (.iaload, 1) := by decide +kernel
theorem dL_law_625 : decode cL_law 625 = .ok (.aload_n 0, 1) := by decide +kernel
theorem dL_law_626 : decode cL_law 626 = .ok (.iload_n 3, 1) := by decide +kernel
theorem dL_law_627 : decode cL_law 627 = .ok (.iconst 2, 1) := by decide +kernel
theorem dL_law_628 : decode cL_law 628 = .ok (.iadd, 1) := by decide +kernel
theorem dL_law_629 : decode cL_law 629 = .ok (.iaload, 1) := by decide +kernel
theorem dL_law_630 : decode cL_law 630 = .ok (.aload_n 0, 1) := by decide +kernel
theorem dL_law_631 : decode cL_law 631 = .ok (.iload_n 3, 1) := by decide +kernel
theorem dL_law_632 : decode cL_law 632 = .ok (.iconst 3, 1) := by decide +kernel
theorem dL_law_633 : decode cL_law 633 = .ok (.iadd, 1) := by decide +kernel
theorem dL_law_634 : decode cL_law 634 = .ok (.iaload, 1) := by decide +kernel
theorem dL_law_635 : decode cL_law 635 = .ok (.invokevirtual 77, 3) := by decide +kernel
theorem dL_law_638 : decode cL_law 638 = .ok (.aload_n 2, 1) := by decide +kernel
theorem dL_law_639 : decode cL_law 639 = .ok (.aload_n 0, 1) := by decide +kernel
theorem dL_law_640 : decode cL_law 640 = .ok (.iload_n 3, 1) := by decide +kernel
theorem dL_law_641 : decode cL_law 641 = .ok (.iconst 1, 1) := by decide +kernel
theorem dL_law_642 : decode cL_law 642 = .ok (.iadd, 1) := by decide +kernel
theorem dL_law_643 : decode cL_law 643 = .ok (.iaload, 1) := by decide +kernel
theorem dL_law_644 : decode cL_law 644 = .ok (.aload_n 0, 1) := by decide +kernel
theorem dL_law_645 : decode cL_law 645 = .ok (.iload_n 3, 1) := by decide +kernel
theorem dL_law_646 : decode cL_law 646 = .ok (.iconst 2, 1) := by decide +kernel
theorem dL_law_647 : decode cL_law 647 = .ok (.iadd, 1) := by decide +kernel
theorem dL_law_648 : decode cL_law 648 = .ok (.iaload, 1) := by decide +kernel
theorem dL_law_649 : decode cL_law 649 = .ok (.aload_n 0, 1) := by decide +kernel
theorem dL_law_650 : decode cL_law 650 = .ok (.iload_n 3, 1) := by decide +kernel
theorem dL_law_651 : decode cL_law 651 = .ok (.iconst 3, 1) := by decide +kernel
theorem dL_law_652 : decode cL_law 652 = .ok (.iadd, 1) := by decide +kernel
theorem dL_law_653 : decode cL_law 653 = .ok (.iaload, 1) := by decide +kernel
theorem dL_law_654 : decode cL_law 654 = .ok (.invokevirtual 80, 3) := by decide +kernel
theorem dL_law_657 : decode cL_law 657 = .ok (.if_icmp .eq 179, 3) := by decide +kernel
theorem dL_law_660 : decode cL_law 660 = .ok (.iconst 0, 1) := by decide +kernel
theorem dL_law_661 : decode cL_law 661 = .ok (.ireturn, 1) := by decide +kernel
theorem dL_law_662 : decode cL_law 662 = .ok (.aload_n 1, 1) := by decide +kernel
theorem dL_law_663 : decode cL_law 663 = .ok (.aload_n 0, 1) := by decide +kernel
theorem dL_law_664 : decode cL_law 664 = .ok (.iload_n 3, 1) := by decide +kernel
theorem dL_law_665 : decode cL_law 665 = .ok (.iconst 1, 1) := by decide +kernel
theorem dL_law_666 : decode cL_law 666 = .ok (.iadd, 1) := by decide +kernel
theorem dL_law_667 : decode cL_law 667 = .ok (.iaload, 1) := by decide +kernel
theorem dL_law_668 : decode cL_law 668 = .ok (.invokevirtual 81, 3) := by decide +kernel
theorem dL_law_671 : decode cL_law 671 = .ok (.aload_n 2, 1) := by decide +kernel
theorem dL_law_672 : decode cL_law 672 = .ok (.aload_n 0, 1) := by decide +kernel
theorem dL_law_673 : decode cL_law 673 = .ok (.iload_n 3, 1) := by decide +kernel
theorem dL_law_674 : decode cL_law 674 = .ok (.iconst 1, 1) := by decide +kernel
theorem dL_law_675 : decode cL_law 675 = .ok (.iadd, 1) := by decide +kernel
theorem dL_law_676 : decode cL_law 676 = .ok (.iaload, 1) := by decide +kernel
theorem dL_law_677 : decode cL_law 677 = .ok (.invokevirtual 84, 3) := by decide +kernel
theorem dL_law_680 : decode cL_law 680 = .ok (.if_icmp .eq 156, 3) := by decide +kernel
theorem dL_law_683 : decode cL_law 683 = .ok (.iconst 0, 1) := by decide +kernel
theorem dL_law_684 : decode cL_law 684 = .ok (.ireturn, 1) := by decide +kernel
theorem dL_law_685 : decode cL_law 685 = .ok (.aload_n 1, 1) := by decide +kernel
theorem dL_law_686 : decode cL_law 686 = .ok (.aload_n 0, 1) := by decide +kernel
theorem dL_law_687 : decode cL_law 687 = .ok (.iload_n 3, 1) := by decide +kernel
theorem dL_law_688 : decode cL_law 688 = .ok (.iconst 1, 1) := by decide +kernel
theorem dL_law_689 : decode cL_law 689 = .ok (.iadd, 1) := by decide +kernel
theorem dL_law_690 : decode cL_law 690 = .ok (.iaload, 1) := by decide +kernel
theorem dL_law_691 : decode cL_law 691 = .ok (.i2l, 1) := by decide +kernel
theorem dL_law_692 : decode cL_law 692 = .ok (.bipush 32, 2) := by decide +kernel
theorem dL_law_694 : decode cL_law 694 = .ok (.lshl, 1) := by decide +kernel
theorem dL_law_695 : decode cL_law 695 = .ok (.aload_n 0, 1) := by decide +kernel
theorem dL_law_696 : decode cL_law 696 = .ok (.iload_n 3, 1) := by decide +kernel
theorem dL_law_697 : decode cL_law 697 = .ok (.iconst 2, 1) := by decide +kernel
theorem dL_law_698 : decode cL_law 698 = .ok (.iadd, 1) := by decide +kernel
theorem dL_law_699 : decode cL_law 699 = .ok (.iaload, 1) := by decide +kernel
theorem dL_law_700 : decode cL_law 700 = .ok (.i2l, 1) := by decide +kernel
theorem dL_law_701 : decode cL_law 701 = .ok (.ldc2_w 85, 3) := by decide +kernel
theorem dL_law_704 : decode cL_law 704 = .ok (.land, 1) := by decide +kernel
theorem dL_law_705 : decode cL_law 705 = .ok (.lor, 1) := by decide +kernel
theorem dL_law_706 : decode cL_law 706 = .ok (.invokevirtual 87, 3) := by decide +kernel
theorem dL_law_709 : decode cL_law 709 = .ok (.aload_n 2, 1) := by decide +kernel
theorem dL_law_710 : decode cL_law 710 = .ok (.aload_n 0, 1) := by decide +kernel
theorem dL_law_711 : decode cL_law 711 = .ok (.iload_n 3, 1) := by decide +kernel
theorem dL_law_712 : decode cL_law 712 = .ok (.iconst 1, 1) := by decide +kernel
theorem dL_law_713 : decode cL_law 713 = .ok (.iadd, 1) := by decide +kernel
theorem dL_law_714 : decode cL_law 714 = .ok (.iaload, 1) := by decide +kernel
theorem dL_law_715 : decode cL_law 715 = .ok (.i2l, 1) := by decide +kernel
theorem dL_law_716 : decode cL_law 716 = .ok (.bipush 32, 2) := by decide +kernel
theorem dL_law_718 : decode cL_law 718 = .ok (.lshl, 1) := by decide +kernel
theorem dL_law_719 : decode cL_law 719 = .ok (.aload_n 0, 1) := by decide +kernel
theorem dL_law_720 : decode cL_law 720 = .ok (.iload_n 3, 1) := by decide +kernel
theorem dL_law_721 : decode cL_law 721 = .ok (.iconst 2, 1) := by decide +kernel
theorem dL_law_722 : decode cL_law 722 = .ok (.iadd, 1) := by decide +kernel
theorem dL_law_723 : decode cL_law 723 = .ok (.iaload, 1) := by decide +kernel
theorem dL_law_724 : decode cL_law 724 = .ok (.i2l, 1) := by decide +kernel
theorem dL_law_725 : decode cL_law 725 = .ok (.ldc2_w 85, 3) := by decide +kernel
theorem dL_law_728 : decode cL_law 728 = .ok (.land, 1) := by decide +kernel
theorem dL_law_729 : decode cL_law 729 = .ok (.lor, 1) := by decide +kernel
theorem dL_law_730 : decode cL_law 730 = .ok (.invokevirtual 91, 3) := by decide +kernel
theorem dL_law_733 : decode cL_law 733 = .ok (.if_icmp .eq 103, 3) := by decide +kernel
theorem dL_law_736 : decode cL_law 736 = .ok (.iconst 0, 1) := by decide +kernel
theorem dL_law_737 : decode cL_law 737 = .ok (.ireturn, 1) := by decide +kernel
theorem dL_law_738 : decode cL_law 738 = .ok (.aload_n 1, 1) := by decide +kernel
theorem dL_law_739 : decode cL_law 739 = .ok (.invokevirtual 92, 3) := by decide +kernel
theorem dL_law_742 : decode cL_law 742 = .ok (.aload_n 2, 1) := by decide +kernel
theorem dL_law_743 : decode cL_law 743 = .ok (.invokevirtual 96, 3) := by decide +kernel
theorem dL_law_746 : decode cL_law 746 = .ok (.if_icmp .eq 90, 3) := by decide +kernel
theorem dL_law_749 : decode cL_law 749 = .ok (.iconst 0, 1) := by decide +kernel
theorem dL_law_750 : decode cL_law 750 = .ok (.ireturn, 1) := by decide +kernel
theorem dL_law_751 : decode cL_law 751 = .ok (.aload_n 1, 1) := by decide +kernel
theorem dL_law_752 : decode cL_law 752 = .ok (.invokevirtual 97, 3) := by decide +kernel
theorem dL_law_755 : decode cL_law 755 = .ok (.aload_n 2, 1) := by decide +kernel
theorem dL_law_756 : decode cL_law 756 = .ok (.invokevirtual 100, 3) := by decide +kernel
theorem dL_law_759 : decode cL_law 759 = .ok (.if_icmp .eq 77, 3) := by decide +kernel
theorem dL_law_762 : decode cL_law 762 = .ok (.iconst 0, 1) := by decide +kernel
theorem dL_law_763 : decode cL_law 763 = .ok (.ireturn, 1) := by decide +kernel
theorem dL_law_764 : decode cL_law 764 = .ok (.aload_n 1, 1) := by decide +kernel
theorem dL_law_765 : decode cL_law 765 = .ok (.invokevirtual 101, 3) := by decide +kernel
theorem dL_law_768 : decode cL_law 768 = .ok (.aload_n 2, 1) := by decide +kernel
theorem dL_law_769 : decode cL_law 769 = .ok (.invokevirtual 104, 3) := by decide +kernel
theorem dL_law_772 : decode cL_law 772 = .ok (.if_icmp .eq 64, 3) := by decide +kernel
theorem dL_law_775 : decode cL_law 775 = .ok (.iconst 0, 1) := by decide +kernel
theorem dL_law_776 : decode cL_law 776 = .ok (.ireturn, 1) := by decide +kernel
theorem dL_law_777 : decode cL_law 777 = .ok (.aload_n 1, 1) := by decide +kernel
theorem dL_law_778 : decode cL_law 778 = .ok (.invokevirtual 105, 3) := by decide +kernel
theorem dL_law_781 : decode cL_law 781 = .ok (.aload_n 2, 1) := by decide +kernel
theorem dL_law_782 : decode cL_law 782 = .ok (.invokevirtual 108, 3) := by decide +kernel
theorem dL_law_785 : decode cL_law 785 = .ok (.if_icmp .eq 51, 3) := by decide +kernel
theorem dL_law_788 : decode cL_law 788 = .ok (.iconst 0, 1) := by decide +kernel
theorem dL_law_789 : decode cL_law 789 = .ok (.ireturn, 1) := by decide +kernel
theorem dL_law_790 : decode cL_law 790 = .ok (.aload_n 1, 1) := by decide +kernel
theorem dL_law_791 : decode cL_law 791 = .ok (.aload_n 0, 1) := by decide +kernel
theorem dL_law_792 : decode cL_law 792 = .ok (.iload_n 3, 1) := by decide +kernel
theorem dL_law_793 : decode cL_law 793 = .ok (.iconst 1, 1) := by decide +kernel
theorem dL_law_794 : decode cL_law 794 = .ok (.iadd, 1) := by decide +kernel
theorem dL_law_795 : decode cL_law 795 = .ok (.iaload, 1) := by decide +kernel
theorem dL_law_796 : decode cL_law 796 = .ok (.invokevirtual 109, 3) := by decide +kernel
theorem dL_law_799 : decode cL_law 799 = .ok (.aload_n 2, 1) := by decide +kernel
theorem dL_law_800 : decode cL_law 800 = .ok (.aload_n 0, 1) := by decide +kernel
theorem dL_law_801 : decode cL_law 801 = .ok (.iload_n 3, 1) := by decide +kernel
theorem dL_law_802 : decode cL_law 802 = .ok (.iconst 1, 1) := by decide +kernel
theorem dL_law_803 : decode cL_law 803 = .ok (.iadd, 1) := by decide +kernel
theorem dL_law_804 : decode cL_law 804 = .ok (.iaload, 1) := by decide +kernel
theorem dL_law_805 : decode cL_law 805 = .ok (.invokevirtual 112, 3) := by decide +kernel
theorem dL_law_808 : decode cL_law 808 = .ok (.if_icmp .eq 28, 3) := by decide +kernel
theorem dL_law_811 : decode cL_law 811 = .ok (.iconst 0, 1) := by decide +kernel
theorem dL_law_812 : decode cL_law 812 = .ok (.ireturn, 1) := by decide +kernel
theorem dL_law_813 : decode cL_law 813 = .ok (.aload_n 1, 1) := by decide +kernel
theorem dL_law_814 : decode cL_law 814 = .ok (.aload_n 0, 1) := by decide +kernel
theorem dL_law_815 : decode cL_law 815 = .ok (.iload_n 3, 1) := by decide +kernel
theorem dL_law_816 : decode cL_law 816 = .ok (.iconst 1, 1) := by decide +kernel
theorem dL_law_817 : decode cL_law 817 = .ok (.iadd, 1) := by decide +kernel
theorem dL_law_818 : decode cL_law 818 = .ok (.iaload, 1) := by decide +kernel
theorem dL_law_819 : decode cL_law 819 = .ok (.invokevirtual 113, 3) := by decide +kernel
theorem dL_law_822 : decode cL_law 822 = .ok (.aload_n 2, 1) := by decide +kernel
theorem dL_law_823 : decode cL_law 823 = .ok (.aload_n 0, 1) := by decide +kernel
theorem dL_law_824 : decode cL_law 824 = .ok (.iload_n 3, 1) := by decide +kernel
theorem dL_law_825 : decode cL_law 825 = .ok (.iconst 1, 1) := by decide +kernel
theorem dL_law_826 : decode cL_law 826 = .ok (.iadd, 1) := by decide +kernel
theorem dL_law_827 : decode cL_law 827 = .ok (.iaload, 1) := by decide +kernel
theorem dL_law_828 : decode cL_law 828 = .ok (.invokevirtual 116, 3) := by decide +kernel
theorem dL_law_831 : decode cL_law 831 = .ok (.if_icmp .eq 5, 3) := by decide +kernel
theorem dL_law_834 : decode cL_law 834 = .ok (.iconst 0, 1) := by decide +kernel
theorem dL_law_835 : decode cL_law 835 = .ok (.ireturn, 1) := by decide +kernel
theorem dL_law_836 : decode cL_law 836 = .ok (.iinc 3 5, 3) := by decide +kernel
theorem dL_law_839 : decode cL_law 839 = .ok (.goto (-821), 3) := by decide +kernel
theorem dL_law_842 : decode cL_law 842 = .ok (.iconst 1, 1) := by decide +kernel
theorem dL_law_843 : decode cL_law 843 = .ok (.ireturn, 1) := by decide +kernel
