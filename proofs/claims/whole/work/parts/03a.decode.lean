theorem dX0_init_0 : decode cX0_init 0 = .ok (.aload_n 0, 1) := by decide +kernel
theorem dX0_init_1 : decode cX0_init 1 = .ok (.invokespecial 3, 3) := by decide +kernel
theorem dX0_init_4 : decode cX0_init 4 = .ok (.aload_n 0, 1) := by decide +kernel
theorem dX0_init_5 : decode cX0_init 5 = .ok (.bipush 7, 2) := by decide +kernel
theorem dX0_init_7 : decode cX0_init 7 = .ok (.anewarray 11, 3) := by decide +kernel
theorem dX0_init_10 : decode cX0_init 10 = .ok (.putfield 13, 3) := by decide +kernel
theorem dX0_init_13 : decode cX0_init 13 = .ok (.iconst 0, 1) := by decide +kernel
theorem dX0_init_14 : decode cX0_init 14 = .ok (.istore_n 1, 1) := by decide +kernel
theorem dX0_init_15 : decode cX0_init 15 = .ok (.iload_n 1, 1) := by decide +kernel
theorem dX0_init_16 : decode cX0_init 16 = .ok (.bipush 7, 2) := by decide +kernel
theorem dX0_init_18 : decode cX0_init 18 = .ok (.if_icmp .ge 22, 3) := by decide +kernel
theorem dX0_init_21 : decode cX0_init 21 = .ok (.aload_n 0, 1) := by decide +kernel
theorem dX0_init_22 : decode cX0_init 22 = .ok (.getfield 13, 3) := by decide +kernel
theorem dX0_init_25 : decode cX0_init 25 = .ok (.iload_n 1, 1) := by decide +kernel
theorem dX0_init_26 : decode cX0_init 26 = .ok (.new 11, 3) := by decide +kernel
theorem dX0_init_29 : decode cX0_init 29 = .ok (.dup, 1) := by decide +kernel
theorem dX0_init_30 : decode cX0_init 30 = .ok (.invokespecial 17, 3) := by decide +kernel
theorem dX0_init_33 : decode cX0_init 33 = .ok (.aastore, 1) := by decide +kernel
theorem dX0_init_34 : decode cX0_init 34 = .ok (.iinc 1 1, 3) := by decide +kernel
theorem dX0_init_37 : decode cX0_init 37 = .ok (.goto (-22), 3) := by decide +kernel
theorem dX0_init_40 : decode cX0_init 40 = .ok (.return_, 1) := by decide +kernel
theorem dX0_prepare_0 : decode cX0_prepare 0 = .ok (.aload_n 0, 1) := by decide +kernel
theorem dX0_prepare_1 : decode cX0_prepare 1 = .ok (.aload_n 0, 1) := by decide +kernel
theorem dX0_prepare_2 : decode cX0_prepare 2 = .ok (.getfield 18, 3) := by decide +kernel
theorem dX0_prepare_5 : decode cX0_prepare 5 = .ok (.invokevirtual 22, 3) := by decide +kernel
theorem dX0_prepare_8 : decode cX0_prepare 8 = .ok (.astore_n 2, 1) := by decide +kernel
theorem dX0_prepare_9 : decode cX0_prepare 9 = .ok (.aload_n 2, 1) := by decide +kernel
theorem dX0_prepare_10 : decode cX0_prepare 10 = .ok (.ifnull 8, 3) := by decide +kernel
theorem dX0_prepare_13 : decode cX0_prepare 13 = .ok (.aload_n 2, 1) := by decide +kernel
theorem dX0_prepare_14 : decode cX0_prepare 14 = .ok (.aload_n 1, 1) := by decide +kernel
theorem dX0_prepare_15 : decode cX0_prepare 15 = .ok (.invokevirtual 26, 3) := by decide +kernel
theorem dX0_prepare_18 : decode cX0_prepare 18 = .ok (.return_, 1) := by decide +kernel
theorem dX0_record_0 : decode cX0_record 0 = .ok (.aload_n 0, 1) := by decide +kernel
theorem dX0_record_1 : decode cX0_record 1 = .ok (.getfield 18, 3) := by decide +kernel
theorem dX0_record_4 : decode cX0_record 4 = .ok (.bipush 6, 2) := by decide +kernel
theorem dX0_record_6 : decode cX0_record 6 = .ok (.if_icmp .ge 16, 3) := by decide +kernel
theorem dX0_record_9 : decode cX0_record 9 = .ok (.aload_n 0, 1) := by decide +kernel
theorem dX0_record_10 : decode cX0_record 10 = .ok (.dup, 1) := by decide +kernel
theorem dX0_record_11 : decode cX0_record 11 = .ok (.getfield 18, 3) := by decide +kernel
theorem dX0_record_14 : decode cX0_record 14 = .ok (.iconst 1, 1) := by decide +kernel
theorem dX0_record_15 : decode cX0_record 15 = .ok (.iadd, 1) := by decide +kernel
theorem dX0_record_16 : decode cX0_record 16 = .ok (.putfield 18, 3) := by decide +kernel
theorem dX0_record_19 : decode cX0_record 19 = .ok (.goto 16, 3) := by decide +kernel
theorem dX0_record_22 : decode cX0_record 22 = .ok (.aload_n 0, 1) := by decide +kernel
theorem dX0_record_23 : decode cX0_record 23 = .ok (.aload_n 0, 1) := by decide +kernel
theorem dX0_record_24 : decode cX0_record 24 = .ok (.getfield 30, 3) := by decide +kernel
theorem dX0_record_27 : decode cX0_record 27 = .ok (.iconst 1, 1) := by decide +kernel
theorem dX0_record_28 : decode cX0_record 28 = .ok (.iadd, 1) := by decide +kernel
theorem dX0_record_29 : decode cX0_record 29 = .ok (.bipush 7, 2) := by decide +kernel
theorem dX0_record_31 : decode cX0_record 31 = .ok (.irem, 1) := by decide +kernel
theorem dX0_record_32 : decode cX0_record 32 = .ok (.putfield 30, 3) := by decide +kernel
theorem dX0_record_35 : decode cX0_record 35 = .ok (.return_, 1) := by decide +kernel
theorem dX0_takeLatest_0 : decode cX0_takeLatest 0 = .ok (.aload_n 0, 1) := by decide +kernel
theorem dX0_takeLatest_1 : decode cX0_takeLatest 1 = .ok (.getfield 18, 3) := by decide +kernel
theorem dX0_takeLatest_4 : decode cX0_takeLatest 4 = .ok (.ifCond .gt 5, 3) := by decide +kernel
theorem dX0_takeLatest_7 : decode cX0_takeLatest 7 = .ok (.aconst_null, 1) := by decide +kernel
theorem dX0_takeLatest_8 : decode cX0_takeLatest 8 = .ok (.areturn, 1) := by decide +kernel
theorem dX0_takeLatest_9 : decode cX0_takeLatest 9 = .ok (.aload_n 0, 1) := by decide +kernel
theorem dX0_takeLatest_10 : decode cX0_takeLatest 10 = .ok (.dup, 1) := by decide +kernel
theorem dX0_takeLatest_11 : decode cX0_takeLatest 11 = .ok (.getfield 18, 3) := by decide +kernel
theorem dX0_takeLatest_14 : decode cX0_takeLatest 14 = .ok (.iconst 1, 1) := by decide +kernel
theorem dX0_takeLatest_15 : decode cX0_takeLatest 15 = .ok (.isub, 1) := by decide +kernel
theorem dX0_takeLatest_16 : decode cX0_takeLatest 16 = .ok (.putfield 18, 3) := by decide +kernel
theorem dX0_takeLatest_19 : decode cX0_takeLatest 19 = .ok (.aload_n 0, 1) := by decide +kernel
theorem dX0_takeLatest_20 : decode cX0_takeLatest 20 = .ok (.aload_n 0, 1) := by decide +kernel
theorem dX0_takeLatest_21 : decode cX0_takeLatest 21 = .ok (.getfield 18, 3) := by decide +kernel
theorem dX0_takeLatest_24 : decode cX0_takeLatest 24 = .ok (.invokevirtual 22, 3) := by decide +kernel
theorem dX0_takeLatest_27 : decode cX0_takeLatest 27 = .ok (.areturn, 1) := by decide +kernel
theorem dX0_rowAt_0 : decode cX0_rowAt 0 = .ok (.aload_n 0, 1) := by decide +kernel
theorem dX0_rowAt_1 : decode cX0_rowAt 1 = .ok (.getfield 30, 3) := by decide +kernel
theorem dX0_rowAt_4 : decode cX0_rowAt 4 = .ok (.iload_n 1, 1) := by decide +kernel
theorem dX0_rowAt_5 : decode cX0_rowAt 5 = .ok (.iadd, 1) := by decide +kernel
theorem dX0_rowAt_6 : decode cX0_rowAt 6 = .ok (.bipush 7, 2) := by decide +kernel
theorem dX0_rowAt_8 : decode cX0_rowAt 8 = .ok (.irem, 1) := by decide +kernel
theorem dX0_rowAt_9 : decode cX0_rowAt 9 = .ok (.istore_n 2, 1) := by decide +kernel
theorem dX0_rowAt_10 : decode cX0_rowAt 10 = .ok (.iload_n 2, 1) := by decide +kernel
theorem dX0_rowAt_11 : decode cX0_rowAt 11 = .ok (.ifCond .lt 18, 3) := by decide +kernel
theorem dX0_rowAt_14 : decode cX0_rowAt 14 = .ok (.iload_n 2, 1) := by decide +kernel
theorem dX0_rowAt_15 : decode cX0_rowAt 15 = .ok (.bipush 7, 2) := by decide +kernel
theorem dX0_rowAt_17 : decode cX0_rowAt 17 = .ok (.if_icmp .ge 12, 3) := by decide +kernel
theorem dX0_rowAt_20 : decode cX0_rowAt 20 = .ok (.aload_n 0, 1) := by decide +kernel
theorem dX0_rowAt_21 : decode cX0_rowAt 21 = .ok (.getfield 13, 3) := by decide +kernel
theorem dX0_rowAt_24 : decode cX0_rowAt 24 = .ok (.iload_n 2, 1) := by decide +kernel
theorem dX0_rowAt_25 : decode cX0_rowAt 25 = .ok (.aaload, 1) := by decide +kernel
theorem dX0_rowAt_26 : decode cX0_rowAt 26 = .ok (.goto 4, 3) := by decide +kernel
theorem dX0_rowAt_29 : decode cX0_rowAt 29 = .ok (.aconst_null, 1) := by decide +kernel
theorem dX0_rowAt_30 : decode cX0_rowAt 30 = .ok (.areturn, 1) := by decide +kernel
theorem dX1_init_0 : decode cX1_init 0 = .ok (.aload_n 0, 1) := by decide +kernel
theorem dX1_init_1 : decode cX1_init 1 = .ok (.invokespecial 3, 3) := by decide +kernel
theorem dX1_init_4 : decode cX1_init 4 = .ok (.aload_n 0, 1) := by decide +kernel
theorem dX1_init_5 : decode cX1_init 5 = .ok (.bipush 120, 2) := by decide +kernel
theorem dX1_init_7 : decode cX1_init 7 = .ok (.newarray .int, 2) := by decide +kernel
theorem dX1_init_9 : decode cX1_init 9 = .ok (.putfield 9, 3) := by decide +kernel
theorem dX1_init_12 : decode cX1_init 12 = .ok (.aload_n 0, 1) := by decide +kernel
theorem dX1_init_13 : decode cX1_init 13 = .ok (.bipush 120, 2) := by decide +kernel
theorem dX1_init_15 : decode cX1_init 15 = .ok (.newarray .int, 2) := by decide +kernel
theorem dX1_init_17 : decode cX1_init 17 = .ok (.putfield 15, 3) := by decide +kernel
theorem dX1_init_20 : decode cX1_init 20 = .ok (.aload_n 0, 1) := by decide +kernel
theorem dX1_init_21 : decode cX1_init 21 = .ok (.bipush 60, 2) := by decide +kernel
theorem dX1_init_23 : decode cX1_init 23 = .ok (.newarray .int, 2) := by decide +kernel
theorem dX1_init_25 : decode cX1_init 25 = .ok (.putfield 18, 3) := by decide +kernel
theorem dX1_init_28 : decode cX1_init 28 = .ok (.aload_n 0, 1) := by decide +kernel
theorem dX1_init_29 : decode cX1_init 29 = .ok (.bipush 60, 2) := by decide +kernel
theorem dX1_init_31 : decode cX1_init 31 = .ok (.newarray .int, 2) := by decide +kernel
theorem dX1_init_33 : decode cX1_init 33 = .ok (.putfield 21, 3) := by decide +kernel
theorem dX1_init_36 : decode cX1_init 36 = .ok (.aload_n 0, 1) := by decide +kernel
theorem dX1_init_37 : decode cX1_init 37 = .ok (.bipush 60, 2) := by decide +kernel
theorem dX1_init_39 : decode cX1_init 39 = .ok (.newarray .int, 2) := by decide +kernel
theorem dX1_init_41 : decode cX1_init 41 = .ok (.putfield 24, 3) := by decide +kernel
theorem dX1_init_44 : decode cX1_init 44 = .ok (.aload_n 0, 1) := by decide +kernel
theorem dX1_init_45 : decode cX1_init 45 = .ok (.new 27, 3) := by decide +kernel
theorem dX1_init_48 : decode cX1_init 48 = .ok (.dup, 1) := by decide +kernel
theorem dX1_init_49 : decode cX1_init 49 = .ok (.invokespecial 29, 3) := by decide +kernel
theorem dX1_init_52 : decode cX1_init 52 = .ok (.putfield 30, 3) := by decide +kernel
theorem dX1_init_55 : decode cX1_init 55 = .ok (.return_, 1) := by decide +kernel
theorem dX1_workOut_0 : decode cX1_workOut 0 = .ok (.aload_n 0, 1) := by decide +kernel
theorem dX1_workOut_1 : decode cX1_workOut 1 = .ok (.aload_n 1, 1) := by decide +kernel
theorem dX1_workOut_2 : decode cX1_workOut 2 = .ok (.invokevirtual 34, 3) := by decide +kernel
theorem dX1_workOut_5 : decode cX1_workOut 5 = .ok (.aload_n 0, 1) := by decide +kernel
theorem dX1_workOut_6 : decode cX1_workOut 6 = .ok (.aload_n 1, 1) := by decide +kernel
theorem dX1_workOut_7 : decode cX1_workOut 7 = .ok (.getfield 38, 3) := by decide +kernel
theorem dX1_workOut_10 : decode cX1_workOut 10 = .ok (.invokevirtual 44, 3) := by decide +kernel
theorem dX1_workOut_13 : decode cX1_workOut 13 = .ok (.aload_n 0, 1) := by decide +kernel
theorem dX1_workOut_14 : decode cX1_workOut 14 = .ok (.aload_n 1, 1) := by decide +kernel
theorem dX1_workOut_15 : decode cX1_workOut 15 = .ok (.invokevirtual 48, 3) := by decide +kernel
theorem dX1_workOut_18 : decode cX1_workOut 18 = .ok (.return_, 1) := by decide +kernel
theorem dX1_hasPlace_0 : decode cX1_hasPlace 0 = .ok (.iload_n 1, 1) := by decide +kernel
theorem dX1_hasPlace_1 : decode cX1_hasPlace 1 = .ok (.ifCond .lt 15, 3) := by decide +kernel
theorem dX1_hasPlace_4 : decode cX1_hasPlace 4 = .ok (.iload_n 1, 1) := by decide +kernel
theorem dX1_hasPlace_5 : decode cX1_hasPlace 5 = .ok (.aload_n 0, 1) := by decide +kernel
theorem dX1_hasPlace_6 : decode cX1_hasPlace 6 = .ok (.getfield 51, 3) := by decide +kernel
theorem dX1_hasPlace_9 : decode cX1_hasPlace 9 = .ok (.if_icmp .ge 7, 3) := by decide +kernel
theorem dX1_hasPlace_12 : decode cX1_hasPlace 12 = .ok (.iconst 1, 1) := by decide +kernel
theorem dX1_hasPlace_13 : decode cX1_hasPlace 13 = .ok (.goto 4, 3) := by decide +kernel
theorem dX1_hasPlace_16 : decode cX1_hasPlace 16 = .ok (.iconst 0, 1) := by decide +kernel
theorem dX1_hasPlace_17 : decode cX1_hasPlace 17 = .ok (.ireturn, 1) := by decide +kernel
theorem dX1_endIfAllAt_0 : decode cX1_endIfAllAt 0 = .ok (.iconst 0, 1) := by decide +kernel
theorem dX1_endIfAllAt_1 : decode cX1_endIfAllAt 1 = .ok (.istore_n 3, 1) := by decide +kernel
theorem dX1_endIfAllAt_2 : decode cX1_endIfAllAt 2 = .ok (.iconst 0, 1) := by decide +kernel
theorem dX1_endIfAllAt_3 : decode cX1_endIfAllAt 3 = .ok (.istore 4, 2) := by decide +kernel
theorem dX1_endIfAllAt_5 : decode cX1_endIfAllAt 5 = .ok (.iload 4, 2) := by decide +kernel
theorem dX1_endIfAllAt_7 : decode cX1_endIfAllAt 7 = .ok (.aload_n 1, 1) := by decide +kernel
theorem dX1_endIfAllAt_8 : decode cX1_endIfAllAt 8 = .ok (.getfield 55, 3) := by decide +kernel
theorem dX1_endIfAllAt_11 : decode cX1_endIfAllAt 11 = .ok (.if_icmp .ge 31, 3) := by decide +kernel
theorem dX1_endIfAllAt_14 : decode cX1_endIfAllAt 14 = .ok (.iload_n 3, 1) := by decide +kernel
theorem dX1_endIfAllAt_15 : decode cX1_endIfAllAt 15 = .ok (.aload_n 0, 1) := by decide +kernel
theorem dX1_endIfAllAt_16 : decode cX1_endIfAllAt 16 = .ok (.getfield 18, 3) := by decide +kernel
theorem dX1_endIfAllAt_19 : decode cX1_endIfAllAt 19 = .ok (.iload 4, 2) := by decide +kernel
theorem dX1_endIfAllAt_21 : decode cX1_endIfAllAt 21 = .ok (.iaload, 1) := by decide +kernel
theorem dX1_endIfAllAt_22 : decode cX1_endIfAllAt 22 = .ok (.aload_n 1, 1) := by decide +kernel
theorem dX1_endIfAllAt_23 : decode cX1_endIfAllAt 23 = .ok (.getfield 58, 3) := by decide +kernel
theorem dX1_endIfAllAt_26 : decode cX1_endIfAllAt 26 = .ok (.iload 4, 2) := by decide +kernel
theorem dX1_endIfAllAt_28 : decode cX1_endIfAllAt 28 = .ok (.iaload, 1) := by decide +kernel
theorem dX1_endIfAllAt_29 : decode cX1_endIfAllAt 29 = .ok (.iload_n 2, 1) := by decide +kernel
theorem dX1_endIfAllAt_30 : decode cX1_endIfAllAt 30 = .ok (.invokestatic 61, 3) := by decide +kernel
theorem dX1_endIfAllAt_33 : decode cX1_endIfAllAt 33 = .ok (.imul, 1) := by decide +kernel
theorem dX1_endIfAllAt_34 : decode cX1_endIfAllAt 34 = .ok (.iadd, 1) := by decide +kernel
theorem dX1_endIfAllAt_35 : decode cX1_endIfAllAt 35 = .ok (.istore_n 3, 1) := by decide +kernel
theorem dX1_endIfAllAt_36 : decode cX1_endIfAllAt 36 = .ok (.iinc 4 1, 3) := by decide +kernel
theorem dX1_endIfAllAt_39 : decode cX1_endIfAllAt 39 = .ok (.goto (-34), 3) := by decide +kernel
theorem dX1_endIfAllAt_42 : decode cX1_endIfAllAt 42 = .ok (.iload_n 3, 1) := by decide +kernel
theorem dX1_endIfAllAt_43 : decode cX1_endIfAllAt 43 = .ok (.ireturn, 1) := by decide +kernel
theorem dX1_singAll_0 : decode cX1_singAll 0 = .ok (.aload_n 0, 1) := by decide +kernel
theorem dX1_singAll_1 : decode cX1_singAll 1 = .ok (.iconst 0, 1) := by decide +kernel
theorem dX1_singAll_2 : decode cX1_singAll 2 = .ok (.putfield 51, 3) := by decide +kernel
theorem dX1_singAll_5 : decode cX1_singAll 5 = .ok (.aload_n 0, 1) := by decide +kernel
theorem dX1_singAll_6 : decode cX1_singAll 6 = .ok (.iconst 0, 1) := by decide +kernel
theorem dX1_singAll_7 : decode cX1_singAll 7 = .ok (.putfield 65, 3) := by decide +kernel
theorem dX1_singAll_10 : decode cX1_singAll 10 = .ok (.iconst 0, 1) := by decide +kernel
theorem dX1_singAll_11 : decode cX1_singAll 11 = .ok (.istore_n 2, 1) := by decide +kernel
theorem dX1_singAll_12 : decode cX1_singAll 12 = .ok (.iload_n 2, 1) := by decide +kernel
theorem dX1_singAll_13 : decode cX1_singAll 13 = .ok (.bipush 60, 2) := by decide +kernel
theorem dX1_singAll_15 : decode cX1_singAll 15 = .ok (.if_icmp .ge 32, 3) := by decide +kernel
theorem dX1_singAll_18 : decode cX1_singAll 18 = .ok (.aload_n 0, 1) := by decide +kernel
theorem dX1_singAll_19 : decode cX1_singAll 19 = .ok (.getfield 18, 3) := by decide +kernel
theorem dX1_singAll_22 : decode cX1_singAll 22 = .ok (.iload_n 2, 1) := by decide +kernel
theorem dX1_singAll_23 : decode cX1_singAll 23 = .ok (.iconst 0, 1) := by decide +kernel
theorem dX1_singAll_24 : decode cX1_singAll 24 = .ok (.iastore, 1) := by decide +kernel
theorem dX1_singAll_25 : decode cX1_singAll 25 = .ok (.aload_n 0, 1) := by decide +kernel
theorem dX1_singAll_26 : decode cX1_singAll 26 = .ok (.getfield 21, 3) := by decide +kernel
theorem dX1_singAll_29 : decode cX1_singAll 29 = .ok (.iload_n 2, 1) := by decide +kernel
theorem dX1_singAll_30 : decode cX1_singAll 30 = .ok (.bipush (-6), 2) := by decide +kernel
theorem dX1_singAll_32 : decode cX1_singAll 32 = .ok (.iastore, 1) := by decide +kernel
theorem dX1_singAll_33 : decode cX1_singAll 33 = .ok (.aload_n 0, 1) := by decide +kernel
theorem dX1_singAll_34 : decode cX1_singAll 34 = .ok (.getfield 24, 3) := by decide +kernel
theorem dX1_singAll_37 : decode cX1_singAll 37 = .ok (.iload_n 2, 1) := by decide +kernel
theorem dX1_singAll_38 : decode cX1_singAll 38 = .ok (.bipush (-6), 2) := by decide +kernel
theorem dX1_singAll_40 : decode cX1_singAll 40 = .ok (.iastore, 1) := by decide +kernel
theorem dX1_singAll_41 : decode cX1_singAll 41 = .ok (.iinc 2 1, 3) := by decide +kernel
theorem dX1_singAll_44 : decode cX1_singAll 44 = .ok (.goto (-32), 3) := by decide +kernel
theorem dX1_singAll_47 : decode cX1_singAll 47 = .ok (.iconst 0, 1) := by decide +kernel
theorem dX1_singAll_48 : decode cX1_singAll 48 = .ok (.istore_n 2, 1) := by decide +kernel
theorem dX1_singAll_49 : decode cX1_singAll 49 = .ok (.iload_n 2, 1) := by decide +kernel
theorem dX1_singAll_50 : decode cX1_singAll 50 = .ok (.aload_n 1, 1) := by decide +kernel
theorem dX1_singAll_51 : decode cX1_singAll 51 = .ok (.getfield 55, 3) := by decide +kernel
theorem dX1_singAll_54 : decode cX1_singAll 54 = .ok (.if_icmp .ge 41, 3) := by decide +kernel
theorem dX1_singAll_57 : decode cX1_singAll 57 = .ok (.aload_n 0, 1) := by decide +kernel
theorem dX1_singAll_58 : decode cX1_singAll 58 = .ok (.aload_n 1, 1) := by decide +kernel
theorem dX1_singAll_59 : decode cX1_singAll 59 = .ok (.iload_n 2, 1) := by decide +kernel
theorem dX1_singAll_60 : decode cX1_singAll 60 = .ok (.invokevirtual 68, 3) := by decide +kernel
theorem dX1_singAll_63 : decode cX1_singAll 63 = .ok (.aload_n 1, 1) := by decide +kernel
theorem dX1_singAll_64 : decode cX1_singAll 64 = .ok (.getfield 72, 3) := by decide +kernel
theorem dX1_singAll_67 : decode cX1_singAll 67 = .ok (.iload_n 2, 1) := by decide +kernel
theorem dX1_singAll_68 : decode cX1_singAll 68 = .ok (.invokevirtual 76, 3) := by decide +kernel
theorem dX1_singAll_71 : decode cX1_singAll 71 = .ok (.istore_n 3, 1) := by decide +kernel
theorem dX1_singAll_72 : decode cX1_singAll 72 = .ok (.iload_n 3, 1) := by decide +kernel
theorem dX1_singAll_73 : decode cX1_singAll 73 = .ok (.iload_n 2, 1) := by decide +kernel
theorem dX1_singAll_74 : decode cX1_singAll 74 = .ok (.if_icmp .gt 15, 3) := by decide +kernel
theorem dX1_singAll_77 : decode cX1_singAll 77 = .ok (.aload_n 0, 1) := by decide +kernel
theorem dX1_singAll_78 : decode cX1_singAll 78 = .ok (.aload_n 1, 1) := by decide +kernel
theorem dX1_singAll_79 : decode cX1_singAll 79 = .ok (.iload_n 3, 1) := by decide +kernel
theorem dX1_singAll_80 : decode cX1_singAll 80 = .ok (.invokevirtual 68, 3) := by decide +kernel
theorem dX1_singAll_83 : decode cX1_singAll 83 = .ok (.iinc 3 1, 3) := by decide +kernel
theorem dX1_singAll_86 : decode cX1_singAll 86 = .ok (.goto (-14), 3) := by decide +kernel
theorem dX1_singAll_89 : decode cX1_singAll 89 = .ok (.iinc 2 1, 3) := by decide +kernel
theorem dX1_singAll_92 : decode cX1_singAll 92 = .ok (.goto (-43), 3) := by decide +kernel
theorem dX1_singAll_95 : decode cX1_singAll 95 = .ok (.return_, 1) := by decide +kernel
theorem dX1_singBar_0 : decode cX1_singBar 0 = .ok (.aload_n 1, 1) := by decide +kernel
theorem dX1_singBar_1 : decode cX1_singBar 1 = .ok (.iload_n 2, 1) := by decide +kernel
theorem dX1_singBar_2 : decode cX1_singBar 2 = .ok (.invokevirtual 82, 3) := by decide +kernel
theorem dX1_singBar_5 : decode cX1_singBar 5 = .ok (.ifCond .eq 23, 3) := by decide +kernel
theorem dX1_singBar_8 : decode cX1_singBar 8 = .ok (.aload_n 0, 1) := by decide +kernel
theorem dX1_singBar_9 : decode cX1_singBar 9 = .ok (.getfield 51, 3) := by decide +kernel
theorem dX1_singBar_12 : decode cX1_singBar 12 = .ok (.bipush 120, 2) := by decide +kernel
theorem dX1_singBar_14 : decode cX1_singBar 14 = .ok (.if_icmp .ge 14, 3) := by decide +kernel
theorem dX1_singBar_17 : decode cX1_singBar 17 = .ok (.aload_n 1, 1) := by decide +kernel
theorem dX1_singBar_18 : decode cX1_singBar 18 = .ok (.getfield 86, 3) := by decide +kernel
theorem dX1_singBar_21 : decode cX1_singBar 21 = .ok (.iload_n 2, 1) := by decide +kernel
theorem dX1_singBar_22 : decode cX1_singBar 22 = .ok (.invokevirtual 89, 3) := by decide +kernel
theorem dX1_singBar_25 : decode cX1_singBar 25 = .ok (.ifCond .eq 4, 3) := by decide +kernel
theorem dX1_singBar_28 : decode cX1_singBar 28 = .ok (.return_, 1) := by decide +kernel
theorem dX1_singBar_29 : decode cX1_singBar 29 = .ok (.aload_n 0, 1) := by decide +kernel
theorem dX1_singBar_30 : decode cX1_singBar 30 = .ok (.getfield 18, 3) := by decide +kernel
theorem dX1_singBar_33 : decode cX1_singBar 33 = .ok (.iload_n 2, 1) := by decide +kernel
theorem dX1_singBar_34 : decode cX1_singBar 34 = .ok (.iaload, 1) := by decide +kernel
theorem dX1_singBar_35 : decode cX1_singBar 35 = .ok (.ifCond .ne 13, 3) := by decide +kernel
theorem dX1_singBar_38 : decode cX1_singBar 38 = .ok (.aload_n 0, 1) := by decide +kernel
theorem dX1_singBar_39 : decode cX1_singBar 39 = .ok (.getfield 21, 3) := by decide +kernel
theorem dX1_singBar_42 : decode cX1_singBar 42 = .ok (.iload_n 2, 1) := by decide +kernel
theorem dX1_singBar_43 : decode cX1_singBar 43 = .ok (.aload_n 0, 1) := by decide +kernel
theorem dX1_singBar_44 : decode cX1_singBar 44 = .ok (.getfield 51, 3) := by decide +kernel
theorem dX1_singBar_47 : decode cX1_singBar 47 = .ok (.iastore, 1) := by decide +kernel
theorem dX1_singBar_48 : decode cX1_singBar 48 = .ok (.aload_n 0, 1) := by decide +kernel
theorem dX1_singBar_49 : decode cX1_singBar 49 = .ok (.getfield 18, 3) := by decide +kernel
theorem dX1_singBar_52 : decode cX1_singBar 52 = .ok (.iload_n 2, 1) := by decide +kernel
theorem dX1_singBar_53 : decode cX1_singBar 53 = .ok (.dup2, 1) := by decide +kernel
theorem dX1_singBar_54 : decode cX1_singBar 54 = .ok (.iaload, 1) := by decide +kernel
theorem dX1_singBar_55 : decode cX1_singBar 55 = .ok (.iconst 1, 1) := by decide +kernel
theorem dX1_singBar_56 : decode cX1_singBar 56 = .ok (.iadd, 1) := by decide +kernel
theorem dX1_singBar_57 : decode cX1_singBar 57 = .ok (.iastore, 1) := by decide +kernel
theorem dX1_singBar_58 : decode cX1_singBar 58 = .ok (.aload_n 0, 1) := by decide +kernel
theorem dX1_singBar_59 : decode cX1_singBar 59 = .ok (.getfield 24, 3) := by decide +kernel
theorem dX1_singBar_62 : decode cX1_singBar 62 = .ok (.iload_n 2, 1) := by decide +kernel
theorem dX1_singBar_63 : decode cX1_singBar 63 = .ok (.aload_n 0, 1) := by decide +kernel
theorem dX1_singBar_64 : decode cX1_singBar 64 = .ok (.getfield 51, 3) := by decide +kernel
theorem dX1_singBar_67 : decode cX1_singBar 67 = .ok (.iastore, 1) := by decide +kernel
theorem dX1_singBar_68 : decode cX1_singBar 68 = .ok (.aload_n 0, 1) := by decide +kernel
theorem dX1_singBar_69 : decode cX1_singBar 69 = .ok (.getfield 9, 3) := by decide +kernel
theorem dX1_singBar_72 : decode cX1_singBar 72 = .ok (.aload_n 0, 1) := by decide +kernel
theorem dX1_singBar_73 : decode cX1_singBar 73 = .ok (.getfield 51, 3) := by decide +kernel
theorem dX1_singBar_76 : decode cX1_singBar 76 = .ok (.iload_n 2, 1) := by decide +kernel
theorem dX1_singBar_77 : decode cX1_singBar 77 = .ok (.iastore, 1) := by decide +kernel
theorem dX1_singBar_78 : decode cX1_singBar 78 = .ok (.aload_n 0, 1) := by decide +kernel
theorem dX1_singBar_79 : decode cX1_singBar 79 = .ok (.getfield 15, 3) := by decide +kernel
theorem dX1_singBar_82 : decode cX1_singBar 82 = .ok (.aload_n 0, 1) := by decide +kernel
theorem dX1_singBar_83 : decode cX1_singBar 83 = .ok (.getfield 51, 3) := by decide +kernel
theorem dX1_singBar_86 : decode cX1_singBar 86 = .ok (.aload_n 0, 1) := by decide +kernel
theorem dX1_singBar_87 : decode cX1_singBar 87 = .ok (.getfield 65, 3) := by decide +kernel
theorem dX1_singBar_90 : decode cX1_singBar 90 = .ok (.iastore, 1) := by decide +kernel
theorem dX1_singBar_91 : decode cX1_singBar 91 = .ok (.aload_n 0, 1) := by decide +kernel
theorem dX1_singBar_92 : decode cX1_singBar 92 = .ok (.dup, 1) := by decide +kernel
theorem dX1_singBar_93 : decode cX1_singBar 93 = .ok (.getfield 51, 3) := by decide +kernel
theorem dX1_singBar_96 : decode cX1_singBar 96 = .ok (.iconst 1, 1) := by decide +kernel
theorem dX1_singBar_97 : decode cX1_singBar 97 = .ok (.iadd, 1) := by decide +kernel
theorem dX1_singBar_98 : decode cX1_singBar 98 = .ok (.putfield 51, 3) := by decide +kernel
theorem dX1_singBar_101 : decode cX1_singBar 101 = .ok (.aload_n 0, 1) := by decide +kernel
theorem dX1_singBar_102 : decode cX1_singBar 102 = .ok (.dup, 1) := by decide +kernel
theorem dX1_singBar_103 : decode cX1_singBar 103 = .ok (.getfield 65, 3) := by decide +kernel
theorem dX1_singBar_106 : decode cX1_singBar 106 = .ok (.aload_n 1, 1) := by decide +kernel
theorem dX1_singBar_107 : decode cX1_singBar 107 = .ok (.iload_n 2, 1) := by decide +kernel
theorem dX1_singBar_108 : decode cX1_singBar 108 = .ok (.invokevirtual 92, 3) := by decide +kernel
theorem dX1_singBar_111 : decode cX1_singBar 111 = .ok (.iadd, 1) := by decide +kernel
theorem dX1_singBar_112 : decode cX1_singBar 112 = .ok (.putfield 65, 3) := by decide +kernel
theorem dX1_singBar_115 : decode cX1_singBar 115 = .ok (.return_, 1) := by decide +kernel
theorem dX1_gatherShowings_0 : decode cX1_gatherShowings 0 = .ok (.aload_n 0, 1) := by decide +kernel
theorem dX1_gatherShowings_1 : decode cX1_gatherShowings 1 = .ok (.getfield 30, 3) := by decide +kernel
theorem dX1_gatherShowings_4 : decode cX1_gatherShowings 4 = .ok (.iconst 0, 1) := by decide +kernel
theorem dX1_gatherShowings_5 : decode cX1_gatherShowings 5 = .ok (.putfield 95, 3) := by decide +kernel
theorem dX1_gatherShowings_8 : decode cX1_gatherShowings 8 = .ok (.iconst 0, 1) := by decide +kernel
theorem dX1_gatherShowings_9 : decode cX1_gatherShowings 9 = .ok (.istore_n 2, 1) := by decide +kernel
theorem dX1_gatherShowings_10 : decode cX1_gatherShowings 10 = .ok (.iload_n 2, 1) := by decide +kernel
theorem dX1_gatherShowings_11 : decode cX1_gatherShowings 11 = .ok (.aload_n 0, 1) := by decide +kernel
theorem dX1_gatherShowings_12 : decode cX1_gatherShowings 12 = .ok (.getfield 51, 3) := by decide +kernel
theorem dX1_gatherShowings_15 : decode cX1_gatherShowings 15 = .ok (.if_icmp .ge 90, 3) := by decide +kernel
theorem dX1_gatherShowings_18 : decode cX1_gatherShowings 18 = .ok (.iconst 0, 1) := by decide +kernel
theorem dX1_gatherShowings_19 : decode cX1_gatherShowings 19 = .ok (.istore_n 3, 1) := by decide +kernel
theorem dX1_gatherShowings_20 : decode cX1_gatherShowings 20 = .ok (.iload_n 3, 1) := by decide +kernel
theorem dX1_gatherShowings_21 : decode cX1_gatherShowings 21 = .ok (.aload_n 1, 1) := by decide +kernel
theorem dX1_gatherShowings_22 : decode cX1_gatherShowings 22 = .ok (.getfield 98, 3) := by decide +kernel
theorem dX1_gatherShowings_25 : decode cX1_gatherShowings 25 = .ok (.if_icmp .ge 74, 3) := by decide +kernel
theorem dX1_gatherShowings_28 : decode cX1_gatherShowings 28 = .ok (.aload_n 0, 1) := by decide +kernel
theorem dX1_gatherShowings_29 : decode cX1_gatherShowings 29 = .ok (.aload_n 1, 1) := by decide +kernel
theorem dX1_gatherShowings_30 : decode cX1_gatherShowings 30 = .ok (.getfield 101, 3) := by decide +kernel
theorem dX1_gatherShowings_33 : decode cX1_gatherShowings 33 = .ok (.iload_n 3, 1) := by decide +kernel
theorem dX1_gatherShowings_34 : decode cX1_gatherShowings 34 = .ok (.iaload, 1) := by decide +kernel
theorem dX1_gatherShowings_35 : decode cX1_gatherShowings 35 = .ok (.aload_n 1, 1) := by decide +kernel
theorem dX1_gatherShowings_36 : decode cX1_gatherShowings 36 = .ok (.getfield 104, 3) := by decide +kernel
theorem dX1_gatherShowings_39 : decode cX1_gatherShowings 39 = .ok (.iload_n 3, 1) := by decide +kernel
theorem dX1_gatherShowings_40 : decode cX1_gatherShowings 40 = .ok (.iaload, 1) := by decide +kernel
theorem dX1_gatherShowings_41 : decode cX1_gatherShowings 41 = .ok (.iload_n 2, 1) := by decide +kernel
theorem dX1_gatherShowings_42 : decode cX1_gatherShowings 42 = .ok (.invokevirtual 107, 3) := by decide +kernel
theorem dX1_gatherShowings_45 : decode cX1_gatherShowings 45 = .ok (.ifCond .eq 48, 3) := by decide +kernel
theorem dX1_gatherShowings_48 : decode cX1_gatherShowings 48 = .ok (.iconst 0, 1) := by decide +kernel
theorem dX1_gatherShowings_49 : decode cX1_gatherShowings 49 = .ok (.aload_n 0, 1) := by decide +kernel
theorem dX1_gatherShowings_50 : decode cX1_gatherShowings 50 = .ok (.getfield 15, 3) := by decide +kernel
theorem dX1_gatherShowings_53 : decode cX1_gatherShowings 53 = .ok (.iload_n 2, 1) := by decide +kernel
theorem dX1_gatherShowings_54 : decode cX1_gatherShowings 54 = .ok (.iaload, 1) := by decide +kernel
theorem dX1_gatherShowings_55 : decode cX1_gatherShowings 55 = .ok (.aload_n 1, 1) := by decide +kernel
theorem dX1_gatherShowings_56 : decode cX1_gatherShowings 56 = .ok (.getfield 101, 3) := by decide +kernel
theorem dX1_gatherShowings_59 : decode cX1_gatherShowings 59 = .ok (.iload_n 3, 1) := by decide +kernel
theorem dX1_gatherShowings_60 : decode cX1_gatherShowings 60 = .ok (.iaload, 1) := by decide +kernel
theorem dX1_gatherShowings_61 : decode cX1_gatherShowings 61 = .ok (.invokestatic 111, 3) := by decide +kernel
theorem dX1_gatherShowings_64 : decode cX1_gatherShowings 64 = .ok (.isub, 1) := by decide +kernel
theorem dX1_gatherShowings_65 : decode cX1_gatherShowings 65 = .ok (.invokestatic 114, 3) := by decide +kernel
theorem dX1_gatherShowings_68 : decode cX1_gatherShowings 68 = .ok (.istore 4, 2) := by decide +kernel
theorem dX1_gatherShowings_70 : decode cX1_gatherShowings 70 = .ok (.aload_n 0, 1) := by decide +kernel
theorem dX1_gatherShowings_71 : decode cX1_gatherShowings 71 = .ok (.getfield 30, 3) := by decide +kernel
theorem dX1_gatherShowings_74 : decode cX1_gatherShowings 74 = .ok (.iload_n 3, 1) := by decide +kernel
theorem dX1_gatherShowings_75 : decode cX1_gatherShowings 75 = .ok (.iload_n 2, 1) := by decide +kernel
theorem dX1_gatherShowings_76 : decode cX1_gatherShowings 76 = .ok (.iload 4, 2) := by decide +kernel
theorem dX1_gatherShowings_78 : decode cX1_gatherShowings 78 = .ok (.aload_n 0, 1) := by decide +kernel
theorem dX1_gatherShowings_79 : decode cX1_gatherShowings 79 = .ok (.iload_n 2, 1) := by decide +kernel
theorem dX1_gatherShowings_80 : decode cX1_gatherShowings 80 = .ok (.aload_n 1, 1) := by decide +kernel
theorem dX1_gatherShowings_81 : decode cX1_gatherShowings 81 = .ok (.getfield 119, 3) := by decide +kernel
theorem dX1_gatherShowings_84 : decode cX1_gatherShowings 84 = .ok (.iload_n 3, 1) := by decide +kernel
theorem dX1_gatherShowings_85 : decode cX1_gatherShowings 85 = .ok (.iaload, 1) := by decide +kernel
theorem dX1_gatherShowings_86 : decode cX1_gatherShowings 86 = .ok (.iadd, 1) := by decide +kernel
theorem dX1_gatherShowings_87 : decode cX1_gatherShowings 87 = .ok (.invokevirtual 122, 3) := by decide +kernel
theorem dX1_gatherShowings_90 : decode cX1_gatherShowings 90 = .ok (.invokevirtual 125, 3) := by decide +kernel
theorem dX1_gatherShowings_93 : decode cX1_gatherShowings 93 = .ok (.iinc 3 1, 3) := by decide +kernel
theorem dX1_gatherShowings_96 : decode cX1_gatherShowings 96 = .ok (.goto (-76), 3) := by decide +kernel
theorem dX1_gatherShowings_99 : decode cX1_gatherShowings 99 = .ok (.iinc 2 1, 3) := by decide +kernel
theorem dX1_gatherShowings_102 : decode cX1_gatherShowings 102 = .ok (.goto (-92), 3) := by decide +kernel
theorem dX1_gatherShowings_105 : decode cX1_gatherShowings 105 = .ok (.return_, 1) := by decide +kernel
theorem dX1_comesWith_0 : decode cX1_comesWith 0 = .ok (.aload_n 0, 1) := by decide +kernel
theorem dX1_comesWith_1 : decode cX1_comesWith 1 = .ok (.getfield 9, 3) := by decide +kernel
theorem dX1_comesWith_4 : decode cX1_comesWith 4 = .ok (.iload_n 3, 1) := by decide +kernel
theorem dX1_comesWith_5 : decode cX1_comesWith 5 = .ok (.iaload, 1) := by decide +kernel
theorem dX1_comesWith_6 : decode cX1_comesWith 6 = .ok (.iload_n 2, 1) := by decide +kernel
theorem dX1_comesWith_7 : decode cX1_comesWith 7 = .ok (.if_icmp .eq 5, 3) := by decide +kernel
theorem dX1_comesWith_10 : decode cX1_comesWith 10 = .ok (.iconst 0, 1) := by decide +kernel
theorem dX1_comesWith_11 : decode cX1_comesWith 11 = .ok (.ireturn, 1) := by decide +kernel
theorem dX1_comesWith_12 : decode cX1_comesWith 12 = .ok (.iload_n 1, 1) := by decide +kernel
theorem dX1_comesWith_13 : decode cX1_comesWith 13 = .ok (.lookupswitch 59 #[(0, 27), (2, 43)], 27) := by decide +kernel
theorem dX1_comesWith_40 : decode cX1_comesWith 40 = .ok (.aload_n 0, 1) := by decide +kernel
theorem dX1_comesWith_41 : decode cX1_comesWith 41 = .ok (.getfield 21, 3) := by decide +kernel
theorem dX1_comesWith_44 : decode cX1_comesWith 44 = .ok (.iload_n 2, 1) := by decide +kernel
theorem dX1_comesWith_45 : decode cX1_comesWith 45 = .ok (.iaload, 1) := by decide +kernel
theorem dX1_comesWith_46 : decode cX1_comesWith 46 = .ok (.iload_n 3, 1) := by decide +kernel
theorem dX1_comesWith_47 : decode cX1_comesWith 47 = .ok (.if_icmp .ne 7, 3) := by decide +kernel
theorem dX1_comesWith_50 : decode cX1_comesWith 50 = .ok (.iconst 1, 1) := by decide +kernel
theorem dX1_comesWith_51 : decode cX1_comesWith 51 = .ok (.goto 4, 3) := by decide +kernel
theorem dX1_comesWith_54 : decode cX1_comesWith 54 = .ok (.iconst 0, 1) := by decide +kernel
theorem dX1_comesWith_55 : decode cX1_comesWith 55 = .ok (.ireturn, 1) := by decide +kernel
theorem dX1_comesWith_56 : decode cX1_comesWith 56 = .ok (.aload_n 0, 1) := by decide +kernel
theorem dX1_comesWith_57 : decode cX1_comesWith 57 = .ok (.getfield 24, 3) := by decide +kernel
theorem dX1_comesWith_60 : decode cX1_comesWith 60 = .ok (.iload_n 2, 1) := by decide +kernel
theorem dX1_comesWith_61 : decode cX1_comesWith 61 = .ok (.iaload, 1) := by decide +kernel
theorem dX1_comesWith_62 : decode cX1_comesWith 62 = .ok (.iload_n 3, 1) := by decide +kernel
theorem dX1_comesWith_63 : decode cX1_comesWith 63 = .ok (.if_icmp .ne 7, 3) := by decide +kernel
theorem dX1_comesWith_66 : decode cX1_comesWith 66 = .ok (.iconst 1, 1) := by decide +kernel
theorem dX1_comesWith_67 : decode cX1_comesWith 67 = .ok (.goto 4, 3) := by decide +kernel
theorem dX1_comesWith_70 : decode cX1_comesWith 70 = .ok (.iconst 0, 1) := by decide +kernel
theorem dX1_comesWith_71 : decode cX1_comesWith 71 = .ok (.ireturn, 1) := by decide +kernel
theorem dX1_comesWith_72 : decode cX1_comesWith 72 = .ok (.iconst 1, 1) := by decide +kernel
theorem dX1_comesWith_73 : decode cX1_comesWith 73 = .ok (.ireturn, 1) := by decide +kernel
theorem dX1_lookAtShowings_0 : decode cX1_lookAtShowings 0 = .ok (.bipush (-6), 2) := by decide +kernel
theorem dX1_lookAtShowings_2 : decode cX1_lookAtShowings 2 = .ok (.istore_n 2, 1) := by decide +kernel
theorem dX1_lookAtShowings_3 : decode cX1_lookAtShowings 3 = .ok (.iconst 0, 1) := by decide +kernel
theorem dX1_lookAtShowings_4 : decode cX1_lookAtShowings 4 = .ok (.istore_n 3, 1) := by decide +kernel
theorem dX1_lookAtShowings_5 : decode cX1_lookAtShowings 5 = .ok (.iload_n 3, 1) := by decide +kernel
theorem dX1_lookAtShowings_6 : decode cX1_lookAtShowings 6 = .ok (.aload_n 0, 1) := by decide +kernel
theorem dX1_lookAtShowings_7 : decode cX1_lookAtShowings 7 = .ok (.getfield 30, 3) := by decide +kernel
theorem dX1_lookAtShowings_10 : decode cX1_lookAtShowings 10 = .ok (.getfield 95, 3) := by decide +kernel
theorem dX1_lookAtShowings_13 : decode cX1_lookAtShowings 13 = .ok (.if_icmp .ge 98, 3) := by decide +kernel
theorem dX1_lookAtShowings_16 : decode cX1_lookAtShowings 16 = .ok (.aload_n 0, 1) := by decide +kernel
theorem dX1_lookAtShowings_17 : decode cX1_lookAtShowings 17 = .ok (.aload_n 1, 1) := by decide +kernel
theorem dX1_lookAtShowings_18 : decode cX1_lookAtShowings 18 = .ok (.getfield 129, 3) := by decide +kernel
theorem dX1_lookAtShowings_21 : decode cX1_lookAtShowings 21 = .ok (.aload_n 0, 1) := by decide +kernel
theorem dX1_lookAtShowings_22 : decode cX1_lookAtShowings 22 = .ok (.getfield 30, 3) := by decide +kernel
theorem dX1_lookAtShowings_25 : decode cX1_lookAtShowings 25 = .ok (.getfield 132, 3) := by decide +kernel
theorem dX1_lookAtShowings_28 : decode cX1_lookAtShowings 28 = .ok (.iload_n 3, 1) := by decide +kernel
theorem dX1_lookAtShowings_29 : decode cX1_lookAtShowings 29 = .ok (.iaload, 1) := by decide +kernel
theorem dX1_lookAtShowings_30 : decode cX1_lookAtShowings 30 = .ok (.invokevirtual 135, 3) := by decide +kernel
theorem dX1_lookAtShowings_33 : decode cX1_lookAtShowings 33 = .ok (.ifCond .eq 16, 3) := by decide +kernel
theorem dX1_lookAtShowings_36 : decode cX1_lookAtShowings 36 = .ok (.aload_n 0, 1) := by decide +kernel
theorem dX1_lookAtShowings_37 : decode cX1_lookAtShowings 37 = .ok (.getfield 30, 3) := by decide +kernel
theorem dX1_lookAtShowings_40 : decode cX1_lookAtShowings 40 = .ok (.getfield 139, 3) := by decide +kernel
theorem dX1_lookAtShowings_43 : decode cX1_lookAtShowings 43 = .ok (.iload_n 3, 1) := by decide +kernel
theorem dX1_lookAtShowings_44 : decode cX1_lookAtShowings 44 = .ok (.iconst 1, 1) := by decide +kernel
theorem dX1_lookAtShowings_45 : decode cX1_lookAtShowings 45 = .ok (.iastore, 1) := by decide +kernel
theorem dX1_lookAtShowings_46 : decode cX1_lookAtShowings 46 = .ok (.goto 46, 3) := by decide +kernel
theorem dX1_lookAtShowings_49 : decode cX1_lookAtShowings 49 = .ok (.aload_n 1, 1) := by decide +kernel
theorem dX1_lookAtShowings_50 : decode cX1_lookAtShowings 50 = .ok (.getfield 38, 3) := by decide +kernel
theorem dX1_lookAtShowings_53 : decode cX1_lookAtShowings 53 = .ok (.getfield 101, 3) := by decide +kernel
theorem dX1_lookAtShowings_56 : decode cX1_lookAtShowings 56 = .ok (.aload_n 0, 1) := by decide +kernel
theorem dX1_lookAtShowings_57 : decode cX1_lookAtShowings 57 = .ok (.getfield 30, 3) := by decide +kernel
theorem dX1_lookAtShowings_60 : decode cX1_lookAtShowings 60 = .ok (.getfield 142, 3) := by decide +kernel
theorem dX1_lookAtShowings_63 : decode cX1_lookAtShowings 63 = .ok (.iload_n 3, 1) := by decide +kernel
theorem dX1_lookAtShowings_64 : decode cX1_lookAtShowings 64 = .ok (.iaload, 1) := by decide +kernel
theorem dX1_lookAtShowings_65 : decode cX1_lookAtShowings 65 = .ok (.iaload, 1) := by decide +kernel
theorem dX1_lookAtShowings_66 : decode cX1_lookAtShowings 66 = .ok (.iconst 1, 1) := by decide +kernel
theorem dX1_lookAtShowings_67 : decode cX1_lookAtShowings 67 = .ok (.if_icmp .eq 7, 3) := by decide +kernel
theorem dX1_lookAtShowings_70 : decode cX1_lookAtShowings 70 = .ok (.iconst 1, 1) := by decide +kernel
theorem dX1_lookAtShowings_71 : decode cX1_lookAtShowings 71 = .ok (.goto 4, 3) := by decide +kernel
theorem dX1_lookAtShowings_74 : decode cX1_lookAtShowings 74 = .ok (.iconst 0, 1) := by decide +kernel
theorem dX1_lookAtShowings_75 : decode cX1_lookAtShowings 75 = .ok (.istore 4, 2) := by decide +kernel
theorem dX1_lookAtShowings_77 : decode cX1_lookAtShowings 77 = .ok (.aload_n 0, 1) := by decide +kernel
theorem dX1_lookAtShowings_78 : decode cX1_lookAtShowings 78 = .ok (.getfield 30, 3) := by decide +kernel
theorem dX1_lookAtShowings_81 : decode cX1_lookAtShowings 81 = .ok (.iload_n 3, 1) := by decide +kernel
theorem dX1_lookAtShowings_82 : decode cX1_lookAtShowings 82 = .ok (.iload_n 2, 1) := by decide +kernel
theorem dX1_lookAtShowings_83 : decode cX1_lookAtShowings 83 = .ok (.iload 4, 2) := by decide +kernel
theorem dX1_lookAtShowings_85 : decode cX1_lookAtShowings 85 = .ok (.aload_n 1, 1) := by decide +kernel
theorem dX1_lookAtShowings_86 : decode cX1_lookAtShowings 86 = .ok (.getfield 145, 3) := by decide +kernel
theorem dX1_lookAtShowings_89 : decode cX1_lookAtShowings 89 = .ok (.invokevirtual 148, 3) := by decide +kernel
theorem dX1_lookAtShowings_92 : decode cX1_lookAtShowings 92 = .ok (.aload_n 0, 1) := by decide +kernel
theorem dX1_lookAtShowings_93 : decode cX1_lookAtShowings 93 = .ok (.getfield 30, 3) := by decide +kernel
theorem dX1_lookAtShowings_96 : decode cX1_lookAtShowings 96 = .ok (.iload_n 3, 1) := by decide +kernel
theorem dX1_lookAtShowings_97 : decode cX1_lookAtShowings 97 = .ok (.invokevirtual 152, 3) := by decide +kernel
theorem dX1_lookAtShowings_100 : decode cX1_lookAtShowings 100 = .ok (.ifCond .eq 5, 3) := by decide +kernel
theorem dX1_lookAtShowings_103 : decode cX1_lookAtShowings 103 = .ok (.iload_n 3, 1) := by decide +kernel
theorem dX1_lookAtShowings_104 : decode cX1_lookAtShowings 104 = .ok (.istore_n 2, 1) := by decide +kernel
theorem dX1_lookAtShowings_105 : decode cX1_lookAtShowings 105 = .ok (.iinc 3 1, 3) := by decide +kernel
theorem dX1_lookAtShowings_108 : decode cX1_lookAtShowings 108 = .ok (.goto (-103), 3) := by decide +kernel
theorem dX1_lookAtShowings_111 : decode cX1_lookAtShowings 111 = .ok (.return_, 1) := by decide +kernel
theorem dX1_isBlackAt_0 : decode cX1_isBlackAt 0 = .ok (.iconst 0, 1) := by decide +kernel
theorem dX1_isBlackAt_1 : decode cX1_isBlackAt 1 = .ok (.istore_n 3, 1) := by decide +kernel
theorem dX1_isBlackAt_2 : decode cX1_isBlackAt 2 = .ok (.iload_n 3, 1) := by decide +kernel
theorem dX1_isBlackAt_3 : decode cX1_isBlackAt 3 = .ok (.aload_n 1, 1) := by decide +kernel
theorem dX1_isBlackAt_4 : decode cX1_isBlackAt 4 = .ok (.getfield 155, 3) := by decide +kernel
theorem dX1_isBlackAt_7 : decode cX1_isBlackAt 7 = .ok (.if_icmp .ge 55, 3) := by decide +kernel
theorem dX1_isBlackAt_10 : decode cX1_isBlackAt 10 = .ok (.aload_n 1, 1) := by decide +kernel
theorem dX1_isBlackAt_11 : decode cX1_isBlackAt 11 = .ok (.getfield 156, 3) := by decide +kernel
theorem dX1_isBlackAt_14 : decode cX1_isBlackAt 14 = .ok (.iload_n 3, 1) := by decide +kernel
theorem dX1_isBlackAt_15 : decode cX1_isBlackAt 15 = .ok (.iaload, 1) := by decide +kernel
theorem dX1_isBlackAt_16 : decode cX1_isBlackAt 16 = .ok (.istore 4, 2) := by decide +kernel
theorem dX1_isBlackAt_18 : decode cX1_isBlackAt 18 = .ok (.aload_n 0, 1) := by decide +kernel
theorem dX1_isBlackAt_19 : decode cX1_isBlackAt 19 = .ok (.iload 4, 2) := by decide +kernel
theorem dX1_isBlackAt_21 : decode cX1_isBlackAt 21 = .ok (.invokevirtual 159, 3) := by decide +kernel
theorem dX1_isBlackAt_24 : decode cX1_isBlackAt 24 = .ok (.ifCond .eq 32, 3) := by decide +kernel
theorem dX1_isBlackAt_27 : decode cX1_isBlackAt 27 = .ok (.iload_n 2, 1) := by decide +kernel
theorem dX1_isBlackAt_28 : decode cX1_isBlackAt 28 = .ok (.aload_n 0, 1) := by decide +kernel
theorem dX1_isBlackAt_29 : decode cX1_isBlackAt 29 = .ok (.getfield 15, 3) := by decide +kernel
theorem dX1_isBlackAt_32 : decode cX1_isBlackAt 32 = .ok (.iload 4, 2) := by decide +kernel
theorem dX1_isBlackAt_34 : decode cX1_isBlackAt 34 = .ok (.iaload, 1) := by decide +kernel
theorem dX1_isBlackAt_35 : decode cX1_isBlackAt 35 = .ok (.if_icmp .lt 21, 3) := by decide +kernel
theorem dX1_isBlackAt_38 : decode cX1_isBlackAt 38 = .ok (.iload_n 2, 1) := by decide +kernel
theorem dX1_isBlackAt_39 : decode cX1_isBlackAt 39 = .ok (.aload_n 0, 1) := by decide +kernel
theorem dX1_isBlackAt_40 : decode cX1_isBlackAt 40 = .ok (.aload_n 1, 1) := by decide +kernel
theorem dX1_isBlackAt_41 : decode cX1_isBlackAt 41 = .ok (.getfield 162, 3) := by decide +kernel
theorem dX1_isBlackAt_44 : decode cX1_isBlackAt 44 = .ok (.iload_n 3, 1) := by decide +kernel
theorem dX1_isBlackAt_45 : decode cX1_isBlackAt 45 = .ok (.iaload, 1) := by decide +kernel
theorem dX1_isBlackAt_46 : decode cX1_isBlackAt 46 = .ok (.iconst 1, 1) := by decide +kernel
theorem dX1_isBlackAt_47 : decode cX1_isBlackAt 47 = .ok (.iadd, 1) := by decide +kernel
theorem dX1_isBlackAt_48 : decode cX1_isBlackAt 48 = .ok (.invokevirtual 122, 3) := by decide +kernel
theorem dX1_isBlackAt_51 : decode cX1_isBlackAt 51 = .ok (.if_icmp .ge 5, 3) := by decide +kernel
theorem dX1_isBlackAt_54 : decode cX1_isBlackAt 54 = .ok (.iconst 1, 1) := by decide +kernel
theorem dX1_isBlackAt_55 : decode cX1_isBlackAt 55 = .ok (.ireturn, 1) := by decide +kernel
theorem dX1_isBlackAt_56 : decode cX1_isBlackAt 56 = .ok (.iinc 3 1, 3) := by decide +kernel
theorem dX1_isBlackAt_59 : decode cX1_isBlackAt 59 = .ok (.goto (-57), 3) := by decide +kernel
theorem dX1_isBlackAt_62 : decode cX1_isBlackAt 62 = .ok (.iconst 0, 1) := by decide +kernel
theorem dX1_isBlackAt_63 : decode cX1_isBlackAt 63 = .ok (.ireturn, 1) := by decide +kernel
theorem dX1_beginOrEnd_0 : decode cX1_beginOrEnd 0 = .ok (.aload_n 0, 1) := by decide +kernel
theorem dX1_beginOrEnd_1 : decode cX1_beginOrEnd 1 = .ok (.iload_n 1, 1) := by decide +kernel
theorem dX1_beginOrEnd_2 : decode cX1_beginOrEnd 2 = .ok (.invokevirtual 159, 3) := by decide +kernel
theorem dX1_beginOrEnd_5 : decode cX1_beginOrEnd 5 = .ok (.ifCond .eq 12, 3) := by decide +kernel
theorem dX1_beginOrEnd_8 : decode cX1_beginOrEnd 8 = .ok (.aload_n 0, 1) := by decide +kernel
theorem dX1_beginOrEnd_9 : decode cX1_beginOrEnd 9 = .ok (.getfield 15, 3) := by decide +kernel
theorem dX1_beginOrEnd_12 : decode cX1_beginOrEnd 12 = .ok (.iload_n 1, 1) := by decide +kernel
theorem dX1_beginOrEnd_13 : decode cX1_beginOrEnd 13 = .ok (.iaload, 1) := by decide +kernel
theorem dX1_beginOrEnd_14 : decode cX1_beginOrEnd 14 = .ok (.goto 7, 3) := by decide +kernel
theorem dX1_beginOrEnd_17 : decode cX1_beginOrEnd 17 = .ok (.aload_n 0, 1) := by decide +kernel
theorem dX1_beginOrEnd_18 : decode cX1_beginOrEnd 18 = .ok (.getfield 65, 3) := by decide +kernel
theorem dX1_beginOrEnd_21 : decode cX1_beginOrEnd 21 = .ok (.ireturn, 1) := by decide +kernel
theorem dX2_init_0 : decode cX2_init 0 = .ok (.aload_n 0, 1) := by decide +kernel
theorem dX2_init_1 : decode cX2_init 1 = .ok (.invokespecial 3, 3) := by decide +kernel
theorem dX2_init_4 : decode cX2_init 4 = .ok (.aload_n 0, 1) := by decide +kernel
theorem dX2_init_5 : decode cX2_init 5 = .ok (.bipush 80, 2) := by decide +kernel
theorem dX2_init_7 : decode cX2_init 7 = .ok (.newarray .int, 2) := by decide +kernel
theorem dX2_init_9 : decode cX2_init 9 = .ok (.putfield 9, 3) := by decide +kernel
theorem dX2_init_12 : decode cX2_init 12 = .ok (.return_, 1) := by decide +kernel
theorem dX2_append_0 : decode cX2_append 0 = .ok (.lload_n 1, 1) := by decide +kernel
theorem dX2_append_1 : decode cX2_append 1 = .ok (.invokestatic 15, 3) := by decide +kernel
theorem dX2_append_4 : decode cX2_append 4 = .ok (.istore_n 3, 1) := by decide +kernel
theorem dX2_append_5 : decode cX2_append 5 = .ok (.iload_n 3, 1) := by decide +kernel
theorem dX2_append_6 : decode cX2_append 6 = .ok (.iconst 1, 1) := by decide +kernel
theorem dX2_append_7 : decode cX2_append 7 = .ok (.if_icmp .ge 6, 3) := by decide +kernel
theorem dX2_append_10 : decode cX2_append 10 = .ok (.bipush (-2), 2) := by decide +kernel
theorem dX2_append_12 : decode cX2_append 12 = .ok (.ireturn, 1) := by decide +kernel
theorem dX2_append_13 : decode cX2_append 13 = .ok (.aload_n 0, 1) := by decide +kernel
theorem dX2_append_14 : decode cX2_append 14 = .ok (.getfield 19, 3) := by decide +kernel
theorem dX2_append_17 : decode cX2_append 17 = .ok (.iload_n 3, 1) := by decide +kernel
theorem dX2_append_18 : decode cX2_append 18 = .ok (.iadd, 1) := by decide +kernel
theorem dX2_append_19 : decode cX2_append 19 = .ok (.bipush 80, 2) := by decide +kernel
theorem dX2_append_21 : decode cX2_append 21 = .ok (.if_icmp .le 6, 3) := by decide +kernel
theorem dX2_append_24 : decode cX2_append 24 = .ok (.bipush (-4), 2) := by decide +kernel
theorem dX2_append_26 : decode cX2_append 26 = .ok (.ireturn, 1) := by decide +kernel
theorem dX2_append_27 : decode cX2_append 27 = .ok (.iconst 0, 1) := by decide +kernel
theorem dX2_append_28 : decode cX2_append 28 = .ok (.istore 4, 2) := by decide +kernel
theorem dX2_append_30 : decode cX2_append 30 = .ok (.iload 4, 2) := by decide +kernel
theorem dX2_append_32 : decode cX2_append 32 = .ok (.iload_n 3, 1) := by decide +kernel
theorem dX2_append_33 : decode cX2_append 33 = .ok (.if_icmp .ge 31, 3) := by decide +kernel
theorem dX2_append_36 : decode cX2_append 36 = .ok (.aload_n 0, 1) := by decide +kernel
theorem dX2_append_37 : decode cX2_append 37 = .ok (.getfield 9, 3) := by decide +kernel
theorem dX2_append_40 : decode cX2_append 40 = .ok (.aload_n 0, 1) := by decide +kernel
theorem dX2_append_41 : decode cX2_append 41 = .ok (.getfield 19, 3) := by decide +kernel
theorem dX2_append_44 : decode cX2_append 44 = .ok (.iload_n 3, 1) := by decide +kernel
theorem dX2_append_45 : decode cX2_append 45 = .ok (.iadd, 1) := by decide +kernel
theorem dX2_append_46 : decode cX2_append 46 = .ok (.iconst 1, 1) := by decide +kernel
theorem dX2_append_47 : decode cX2_append 47 = .ok (.isub, 1) := by decide +kernel
theorem dX2_append_48 : decode cX2_append 48 = .ok (.iload 4, 2) := by decide +kernel
theorem dX2_append_50 : decode cX2_append 50 = .ok (.isub, 1) := by decide +kernel
theorem dX2_append_51 : decode cX2_append 51 = .ok (.lload_n 1, 1) := by decide +kernel
theorem dX2_append_52 : decode cX2_append 52 = .ok (.iload 4, 2) := by decide +kernel
theorem dX2_append_54 : decode cX2_append 54 = .ok (.invokestatic 23, 3) := by decide +kernel
theorem dX2_append_57 : decode cX2_append 57 = .ok (.iastore, 1) := by decide +kernel
theorem dX2_append_58 : decode cX2_append 58 = .ok (.iinc 4 1, 3) := by decide +kernel
theorem dX2_append_61 : decode cX2_append 61 = .ok (.goto (-31), 3) := by decide +kernel
theorem dX2_append_64 : decode cX2_append 64 = .ok (.aload_n 0, 1) := by decide +kernel
theorem dX2_append_65 : decode cX2_append 65 = .ok (.dup, 1) := by decide +kernel
theorem dX2_append_66 : decode cX2_append 66 = .ok (.getfield 19, 3) := by decide +kernel
theorem dX2_append_69 : decode cX2_append 69 = .ok (.iload_n 3, 1) := by decide +kernel
theorem dX2_append_70 : decode cX2_append 70 = .ok (.iadd, 1) := by decide +kernel
theorem dX2_append_71 : decode cX2_append 71 = .ok (.putfield 19, 3) := by decide +kernel
theorem dX2_append_74 : decode cX2_append 74 = .ok (.aload_n 0, 1) := by decide +kernel
theorem dX2_append_75 : decode cX2_append 75 = .ok (.getfield 19, 3) := by decide +kernel
theorem dX2_append_78 : decode cX2_append 78 = .ok (.ireturn, 1) := by decide +kernel
theorem dX2_countOf_0 : decode cX2_countOf 0 = .ok (.iconst 0, 1) := by decide +kernel
theorem dX2_countOf_1 : decode cX2_countOf 1 = .ok (.istore_n 2, 1) := by decide +kernel
theorem dX2_countOf_2 : decode cX2_countOf 2 = .ok (.iconst 0, 1) := by decide +kernel
theorem dX2_countOf_3 : decode cX2_countOf 3 = .ok (.istore_n 3, 1) := by decide +kernel
theorem dX2_countOf_4 : decode cX2_countOf 4 = .ok (.iload_n 3, 1) := by decide +kernel
theorem dX2_countOf_5 : decode cX2_countOf 5 = .ok (.bipush 8, 2) := by decide +kernel
theorem dX2_countOf_7 : decode cX2_countOf 7 = .ok (.if_icmp .ge 55, 3) := by decide +kernel
theorem dX2_countOf_10 : decode cX2_countOf 10 = .ok (.lload_n 0, 1) := by decide +kernel
theorem dX2_countOf_11 : decode cX2_countOf 11 = .ok (.iload_n 3, 1) := by decide +kernel
theorem dX2_countOf_12 : decode cX2_countOf 12 = .ok (.invokestatic 23, 3) := by decide +kernel
theorem dX2_countOf_15 : decode cX2_countOf 15 = .ok (.istore 4, 2) := by decide +kernel
theorem dX2_countOf_17 : decode cX2_countOf 17 = .ok (.iload 4, 2) := by decide +kernel
theorem dX2_countOf_19 : decode cX2_countOf 19 = .ok (.ifCond .ne 20, 3) := by decide +kernel
theorem dX2_countOf_22 : decode cX2_countOf 22 = .ok (.lload_n 0, 1) := by decide +kernel
theorem dX2_countOf_23 : decode cX2_countOf 23 = .ok (.bipush 8, 2) := by decide +kernel
theorem dX2_countOf_25 : decode cX2_countOf 25 = .ok (.iload_n 3, 1) := by decide +kernel
theorem dX2_countOf_26 : decode cX2_countOf 26 = .ok (.imul, 1) := by decide +kernel
theorem dX2_countOf_27 : decode cX2_countOf 27 = .ok (.lushr, 1) := by decide +kernel
theorem dX2_countOf_28 : decode cX2_countOf 28 = .ok (.lconst 0, 1) := by decide +kernel
theorem dX2_countOf_29 : decode cX2_countOf 29 = .ok (.lcmp, 1) := by decide +kernel
theorem dX2_countOf_30 : decode cX2_countOf 30 = .ok (.ifCond .ne 7, 3) := by decide +kernel
theorem dX2_countOf_33 : decode cX2_countOf 33 = .ok (.iload_n 2, 1) := by decide +kernel
theorem dX2_countOf_34 : decode cX2_countOf 34 = .ok (.goto 4, 3) := by decide +kernel
theorem dX2_countOf_37 : decode cX2_countOf 37 = .ok (.iconst 0, 1) := by decide +kernel
theorem dX2_countOf_38 : decode cX2_countOf 38 = .ok (.ireturn, 1) := by decide +kernel
theorem dX2_countOf_39 : decode cX2_countOf 39 = .ok (.iload 4, 2) := by decide +kernel
theorem dX2_countOf_41 : decode cX2_countOf 41 = .ok (.bipush 33, 2) := by decide +kernel
theorem dX2_countOf_43 : decode cX2_countOf 43 = .ok (.bipush 126, 2) := by decide +kernel
theorem dX2_countOf_45 : decode cX2_countOf 45 = .ok (.invokestatic 27, 3) := by decide +kernel
theorem dX2_countOf_48 : decode cX2_countOf 48 = .ok (.ifCond .ne 5, 3) := by decide +kernel
theorem dX2_countOf_51 : decode cX2_countOf 51 = .ok (.iconst 0, 1) := by decide +kernel
theorem dX2_countOf_52 : decode cX2_countOf 52 = .ok (.ireturn, 1) := by decide +kernel
theorem dX2_countOf_53 : decode cX2_countOf 53 = .ok (.iinc 2 1, 3) := by decide +kernel
theorem dX2_countOf_56 : decode cX2_countOf 56 = .ok (.iinc 3 1, 3) := by decide +kernel
theorem dX2_countOf_59 : decode cX2_countOf 59 = .ok (.goto (-55), 3) := by decide +kernel
theorem dX2_countOf_62 : decode cX2_countOf 62 = .ok (.iload_n 2, 1) := by decide +kernel
theorem dX2_countOf_63 : decode cX2_countOf 63 = .ok (.ireturn, 1) := by decide +kernel
theorem dX2_codeAt_0 : decode cX2_codeAt 0 = .ok (.lload_n 0, 1) := by decide +kernel
theorem dX2_codeAt_1 : decode cX2_codeAt 1 = .ok (.bipush 8, 2) := by decide +kernel
theorem dX2_codeAt_3 : decode cX2_codeAt 3 = .ok (.iload_n 2, 1) := by decide +kernel
theorem dX2_codeAt_4 : decode cX2_codeAt 4 = .ok (.imul, 1) := by decide +kernel
theorem dX2_codeAt_5 : decode cX2_codeAt 5 = .ok (.lushr, 1) := by decide +kernel
theorem dX2_codeAt_6 : decode cX2_codeAt 6 = .ok (.ldc2_w 31, 3) := by decide +kernel
theorem dX2_codeAt_9 : decode cX2_codeAt 9 = .ok (.land, 1) := by decide +kernel
theorem dX2_codeAt_10 : decode cX2_codeAt 10 = .ok (.l2i, 1) := by decide +kernel
theorem dX2_codeAt_11 : decode cX2_codeAt 11 = .ok (.ireturn, 1) := by decide +kernel
theorem dX3_init_0 : decode cX3_init 0 = .ok (.aload_n 0, 1) := by decide +kernel
theorem dX3_init_1 : decode cX3_init 1 = .ok (.invokespecial 3, 3) := by decide +kernel
theorem dX3_init_4 : decode cX3_init 4 = .ok (.aload_n 0, 1) := by decide +kernel
theorem dX3_init_5 : decode cX3_init 5 = .ok (.iconst 3, 1) := by decide +kernel
theorem dX3_init_6 : decode cX3_init 6 = .ok (.newarray .int, 2) := by decide +kernel
theorem dX3_init_8 : decode cX3_init 8 = .ok (.putfield 9, 3) := by decide +kernel
theorem dX3_init_11 : decode cX3_init 11 = .ok (.return_, 1) := by decide +kernel
theorem dX3_start_0 : decode cX3_start 0 = .ok (.aload_n 0, 1) := by decide +kernel
theorem dX3_start_1 : decode cX3_start 1 = .ok (.iconst 0, 1) := by decide +kernel
theorem dX3_start_2 : decode cX3_start 2 = .ok (.putfield 15, 3) := by decide +kernel
theorem dX3_start_5 : decode cX3_start 5 = .ok (.aload_n 0, 1) := by decide +kernel
theorem dX3_start_6 : decode cX3_start 6 = .ok (.iconst 0, 1) := by decide +kernel
theorem dX3_start_7 : decode cX3_start 7 = .ok (.putfield 19, 3) := by decide +kernel
theorem dX3_start_10 : decode cX3_start 10 = .ok (.aload_n 0, 1) := by decide +kernel
theorem dX3_start_11 : decode cX3_start 11 = .ok (.iconst 0, 1) := by decide +kernel
theorem dX3_start_12 : decode cX3_start 12 = .ok (.putfield 22, 3) := by decide +kernel
theorem dX3_start_15 : decode cX3_start 15 = .ok (.iconst 0, 1) := by decide +kernel
theorem dX3_start_16 : decode cX3_start 16 = .ok (.istore_n 1, 1) := by decide +kernel
theorem dX3_start_17 : decode cX3_start 17 = .ok (.iload_n 1, 1) := by decide +kernel
theorem dX3_start_18 : decode cX3_start 18 = .ok (.aload_n 0, 1) := by decide +kernel
theorem dX3_start_19 : decode cX3_start 19 = .ok (.getfield 9, 3) := by decide +kernel
theorem dX3_start_22 : decode cX3_start 22 = .ok (.arraylength, 1) := by decide +kernel
theorem dX3_start_23 : decode cX3_start 23 = .ok (.if_icmp .ge 16, 3) := by decide +kernel
theorem dX3_start_26 : decode cX3_start 26 = .ok (.aload_n 0, 1) := by decide +kernel
theorem dX3_start_27 : decode cX3_start 27 = .ok (.getfield 9, 3) := by decide +kernel
theorem dX3_start_30 : decode cX3_start 30 = .ok (.iload_n 1, 1) := by decide +kernel
theorem dX3_start_31 : decode cX3_start 31 = .ok (.iconst 0, 1) := by decide +kernel
theorem dX3_start_32 : decode cX3_start 32 = .ok (.iastore, 1) := by decide +kernel
theorem dX3_start_33 : decode cX3_start 33 = .ok (.iinc 1 1, 3) := by decide +kernel
theorem dX3_start_36 : decode cX3_start 36 = .ok (.goto (-19), 3) := by decide +kernel
theorem dX3_start_39 : decode cX3_start 39 = .ok (.return_, 1) := by decide +kernel
theorem dX3_faultOf_0 : decode cX3_faultOf 0 = .ok (.aload_n 0, 1) := by decide +kernel
theorem dX3_faultOf_1 : decode cX3_faultOf 1 = .ok (.invokevirtual 25, 3) := by decide +kernel
theorem dX3_faultOf_4 : decode cX3_faultOf 4 = .ok (.iconst 0, 1) := by decide +kernel
theorem dX3_faultOf_5 : decode cX3_faultOf 5 = .ok (.istore_n 2, 1) := by decide +kernel
theorem dX3_faultOf_6 : decode cX3_faultOf 6 = .ok (.iload_n 2, 1) := by decide +kernel
theorem dX3_faultOf_7 : decode cX3_faultOf 7 = .ok (.aload_n 1, 1) := by decide +kernel
theorem dX3_faultOf_8 : decode cX3_faultOf 8 = .ok (.getfield 28, 3) := by decide +kernel
theorem dX3_faultOf_11 : decode cX3_faultOf 11 = .ok (.if_icmp .ge 24, 3) := by decide +kernel
theorem dX3_faultOf_14 : decode cX3_faultOf 14 = .ok (.aload_n 0, 1) := by decide +kernel
theorem dX3_faultOf_15 : decode cX3_faultOf 15 = .ok (.aload_n 1, 1) := by decide +kernel
theorem dX3_faultOf_16 : decode cX3_faultOf 16 = .ok (.getfield 33, 3) := by decide +kernel
theorem dX3_faultOf_19 : decode cX3_faultOf 19 = .ok (.iload_n 2, 1) := by decide +kernel
theorem dX3_faultOf_20 : decode cX3_faultOf 20 = .ok (.iaload, 1) := by decide +kernel
theorem dX3_faultOf_21 : decode cX3_faultOf 21 = .ok (.invokevirtual 36, 3) := by decide +kernel
theorem dX3_faultOf_24 : decode cX3_faultOf 24 = .ok (.ifCond .ne 5, 3) := by decide +kernel
theorem dX3_faultOf_27 : decode cX3_faultOf 27 = .ok (.iload_n 2, 1) := by decide +kernel
theorem dX3_faultOf_28 : decode cX3_faultOf 28 = .ok (.ireturn, 1) := by decide +kernel
theorem dX3_faultOf_29 : decode cX3_faultOf 29 = .ok (.iinc 2 1, 3) := by decide +kernel
theorem dX3_faultOf_32 : decode cX3_faultOf 32 = .ok (.goto (-26), 3) := by decide +kernel
theorem dX3_faultOf_35 : decode cX3_faultOf 35 = .ok (.aload_n 0, 1) := by decide +kernel
theorem dX3_faultOf_36 : decode cX3_faultOf 36 = .ok (.invokevirtual 40, 3) := by decide +kernel
theorem dX3_faultOf_39 : decode cX3_faultOf 39 = .ok (.ifCond .eq 8, 3) := by decide +kernel
theorem dX3_faultOf_42 : decode cX3_faultOf 42 = .ok (.bipush (-6), 2) := by decide +kernel
theorem dX3_faultOf_44 : decode cX3_faultOf 44 = .ok (.goto 7, 3) := by decide +kernel
theorem dX3_faultOf_47 : decode cX3_faultOf 47 = .ok (.aload_n 1, 1) := by decide +kernel
theorem dX3_faultOf_48 : decode cX3_faultOf 48 = .ok (.getfield 28, 3) := by decide +kernel
theorem dX3_faultOf_51 : decode cX3_faultOf 51 = .ok (.ireturn, 1) := by decide +kernel
theorem dX3_take_0 : decode cX3_take 0 = .ok (.aload_n 0, 1) := by decide +kernel
theorem dX3_take_1 : decode cX3_take 1 = .ok (.getfield 15, 3) := by decide +kernel
theorem dX3_take_4 : decode cX3_take 4 = .ok (.ifCond .ne 9, 3) := by decide +kernel
theorem dX3_take_7 : decode cX3_take 7 = .ok (.aload_n 0, 1) := by decide +kernel
theorem dX3_take_8 : decode cX3_take 8 = .ok (.iload_n 1, 1) := by decide +kernel
theorem dX3_take_9 : decode cX3_take 9 = .ok (.invokevirtual 44, 3) := by decide +kernel
theorem dX3_take_12 : decode cX3_take 12 = .ok (.ireturn, 1) := by decide +kernel
theorem dX3_take_13 : decode cX3_take 13 = .ok (.iload_n 1, 1) := by decide +kernel
theorem dX3_take_14 : decode cX3_take 14 = .ok (.bipush 48, 2) := by decide +kernel
theorem dX3_take_16 : decode cX3_take 16 = .ok (.bipush 57, 2) := by decide +kernel
theorem dX3_take_18 : decode cX3_take 18 = .ok (.invokestatic 47, 3) := by decide +kernel
theorem dX3_take_21 : decode cX3_take 21 = .ok (.ifCond .eq 14, 3) := by decide +kernel
theorem dX3_take_24 : decode cX3_take 24 = .ok (.aload_n 0, 1) := by decide +kernel
theorem dX3_take_25 : decode cX3_take 25 = .ok (.iload_n 1, 1) := by decide +kernel
theorem dX3_take_26 : decode cX3_take 26 = .ok (.bipush 48, 2) := by decide +kernel
theorem dX3_take_28 : decode cX3_take 28 = .ok (.isub, 1) := by decide +kernel
theorem dX3_take_29 : decode cX3_take 29 = .ok (.invokevirtual 51, 3) := by decide +kernel
theorem dX3_take_32 : decode cX3_take 32 = .ok (.goto 8, 3) := by decide +kernel
theorem dX3_take_35 : decode cX3_take 35 = .ok (.aload_n 0, 1) := by decide +kernel
theorem dX3_take_36 : decode cX3_take 36 = .ok (.iload_n 1, 1) := by decide +kernel
theorem dX3_take_37 : decode cX3_take 37 = .ok (.invokevirtual 54, 3) := by decide +kernel
theorem dX3_take_40 : decode cX3_take 40 = .ok (.ireturn, 1) := by decide +kernel
theorem dX3_canEnd_0 : decode cX3_canEnd 0 = .ok (.aload_n 0, 1) := by decide +kernel
theorem dX3_canEnd_1 : decode cX3_canEnd 1 = .ok (.getfield 15, 3) := by decide +kernel
theorem dX3_canEnd_4 : decode cX3_canEnd 4 = .ok (.ifCond .eq 23, 3) := by decide +kernel
theorem dX3_canEnd_7 : decode cX3_canEnd 7 = .ok (.aload_n 0, 1) := by decide +kernel
theorem dX3_canEnd_8 : decode cX3_canEnd 8 = .ok (.getfield 22, 3) := by decide +kernel
theorem dX3_canEnd_11 : decode cX3_canEnd 11 = .ok (.ifCond .le 16, 3) := by decide +kernel
theorem dX3_canEnd_14 : decode cX3_canEnd 14 = .ok (.aload_n 0, 1) := by decide +kernel
theorem dX3_canEnd_15 : decode cX3_canEnd 15 = .ok (.invokevirtual 57, 3) := by decide +kernel
theorem dX3_canEnd_18 : decode cX3_canEnd 18 = .ok (.bipush 59, 2) := by decide +kernel
theorem dX3_canEnd_20 : decode cX3_canEnd 20 = .ok (.if_icmp .ne 7, 3) := by decide +kernel
theorem dX3_canEnd_23 : decode cX3_canEnd 23 = .ok (.iconst 1, 1) := by decide +kernel
theorem dX3_canEnd_24 : decode cX3_canEnd 24 = .ok (.goto 4, 3) := by decide +kernel
theorem dX3_canEnd_27 : decode cX3_canEnd 27 = .ok (.iconst 0, 1) := by decide +kernel
theorem dX3_canEnd_28 : decode cX3_canEnd 28 = .ok (.ireturn, 1) := by decide +kernel
theorem dX3_open_0 : decode cX3_open 0 = .ok (.iload_n 1, 1) := by decide +kernel
theorem dX3_open_1 : decode cX3_open 1 = .ok (.lookupswitch 74 #[(45, 67), (98, 67), (101, 67), (108, 67), (110, 67), (114, 67), (120, 67)], 67) := by decide +kernel
theorem dX3_open_68 : decode cX3_open 68 = .ok (.aload_n 0, 1) := by decide +kernel
theorem dX3_open_69 : decode cX3_open 69 = .ok (.iload_n 1, 1) := by decide +kernel
theorem dX3_open_70 : decode cX3_open 70 = .ok (.putfield 15, 3) := by decide +kernel
theorem dX3_open_73 : decode cX3_open 73 = .ok (.iconst 1, 1) := by decide +kernel
theorem dX3_open_74 : decode cX3_open 74 = .ok (.ireturn, 1) := by decide +kernel
theorem dX3_open_75 : decode cX3_open 75 = .ok (.iconst 0, 1) := by decide +kernel
theorem dX3_open_76 : decode cX3_open 76 = .ok (.ireturn, 1) := by decide +kernel
theorem dX3_takeDigit_0 : decode cX3_takeDigit 0 = .ok (.aload_n 0, 1) := by decide +kernel
theorem dX3_takeDigit_1 : decode cX3_takeDigit 1 = .ok (.getfield 19, 3) := by decide +kernel
theorem dX3_takeDigit_4 : decode cX3_takeDigit 4 = .ok (.ifCond .lt 15, 3) := by decide +kernel
theorem dX3_takeDigit_7 : decode cX3_takeDigit 7 = .ok (.aload_n 0, 1) := by decide +kernel
theorem dX3_takeDigit_8 : decode cX3_takeDigit 8 = .ok (.getfield 19, 3) := by decide +kernel
theorem dX3_takeDigit_11 : decode cX3_takeDigit 11 = .ok (.aload_n 0, 1) := by decide +kernel
theorem dX3_takeDigit_12 : decode cX3_takeDigit 12 = .ok (.getfield 9, 3) := by decide +kernel
theorem dX3_takeDigit_15 : decode cX3_takeDigit 15 = .ok (.arraylength, 1) := by decide +kernel
theorem dX3_takeDigit_16 : decode cX3_takeDigit 16 = .ok (.if_icmp .lt 5, 3) := by decide +kernel
theorem dX3_takeDigit_19 : decode cX3_takeDigit 19 = .ok (.iconst 0, 1) := by decide +kernel
theorem dX3_takeDigit_20 : decode cX3_takeDigit 20 = .ok (.ireturn, 1) := by decide +kernel
theorem dX3_takeDigit_21 : decode cX3_takeDigit 21 = .ok (.aload_n 0, 1) := by decide +kernel
theorem dX3_takeDigit_22 : decode cX3_takeDigit 22 = .ok (.getfield 9, 3) := by decide +kernel
theorem dX3_takeDigit_25 : decode cX3_takeDigit 25 = .ok (.aload_n 0, 1) := by decide +kernel
theorem dX3_takeDigit_26 : decode cX3_takeDigit 26 = .ok (.getfield 19, 3) := by decide +kernel
theorem dX3_takeDigit_29 : decode cX3_takeDigit 29 = .ok (.iaload, 1) := by decide +kernel
theorem dX3_takeDigit_30 : decode cX3_takeDigit 30 = .ok (.istore_n 2, 1) := by decide +kernel
theorem dX3_takeDigit_31 : decode cX3_takeDigit 31 = .ok (.aload_n 0, 1) := by decide +kernel
theorem dX3_takeDigit_32 : decode cX3_takeDigit 32 = .ok (.getfield 22, 3) := by decide +kernel
theorem dX3_takeDigit_35 : decode cX3_takeDigit 35 = .ok (.ifCond .le 11, 3) := by decide +kernel
theorem dX3_takeDigit_38 : decode cX3_takeDigit 38 = .ok (.iload_n 2, 1) := by decide +kernel
theorem dX3_takeDigit_39 : decode cX3_takeDigit 39 = .ok (.ifCond .ne 7, 3) := by decide +kernel
theorem dX3_takeDigit_42 : decode cX3_takeDigit 42 = .ok (.iconst 1, 1) := by decide +kernel
theorem dX3_takeDigit_43 : decode cX3_takeDigit 43 = .ok (.goto 4, 3) := by decide +kernel
theorem dX3_takeDigit_46 : decode cX3_takeDigit 46 = .ok (.iconst 0, 1) := by decide +kernel
theorem dX3_takeDigit_47 : decode cX3_takeDigit 47 = .ok (.istore_n 3, 1) := by decide +kernel
theorem dX3_takeDigit_48 : decode cX3_takeDigit 48 = .ok (.iload_n 3, 1) := by decide +kernel
theorem dX3_takeDigit_49 : decode cX3_takeDigit 49 = .ok (.ifCond .ne 9, 3) := by decide +kernel
theorem dX3_takeDigit_52 : decode cX3_takeDigit 52 = .ok (.iload_n 2, 1) := by decide +kernel
theorem dX3_takeDigit_53 : decode cX3_takeDigit 53 = .ok (.bipush 99, 2) := by decide +kernel
theorem dX3_takeDigit_55 : decode cX3_takeDigit 55 = .ok (.if_icmp .le 5, 3) := by decide +kernel
theorem dX3_takeDigit_58 : decode cX3_takeDigit 58 = .ok (.iconst 0, 1) := by decide +kernel
theorem dX3_takeDigit_59 : decode cX3_takeDigit 59 = .ok (.ireturn, 1) := by decide +kernel
theorem dX3_takeDigit_60 : decode cX3_takeDigit 60 = .ok (.aload_n 0, 1) := by decide +kernel
theorem dX3_takeDigit_61 : decode cX3_takeDigit 61 = .ok (.getfield 9, 3) := by decide +kernel
theorem dX3_takeDigit_64 : decode cX3_takeDigit 64 = .ok (.aload_n 0, 1) := by decide +kernel
theorem dX3_takeDigit_65 : decode cX3_takeDigit 65 = .ok (.getfield 19, 3) := by decide +kernel
theorem dX3_takeDigit_68 : decode cX3_takeDigit 68 = .ok (.bipush 10, 2) := by decide +kernel
theorem dX3_takeDigit_70 : decode cX3_takeDigit 70 = .ok (.iload_n 2, 1) := by decide +kernel
theorem dX3_takeDigit_71 : decode cX3_takeDigit 71 = .ok (.imul, 1) := by decide +kernel
theorem dX3_takeDigit_72 : decode cX3_takeDigit 72 = .ok (.iload_n 1, 1) := by decide +kernel
theorem dX3_takeDigit_73 : decode cX3_takeDigit 73 = .ok (.iadd, 1) := by decide +kernel
theorem dX3_takeDigit_74 : decode cX3_takeDigit 74 = .ok (.iastore, 1) := by decide +kernel
theorem dX3_takeDigit_75 : decode cX3_takeDigit 75 = .ok (.aload_n 0, 1) := by decide +kernel
theorem dX3_takeDigit_76 : decode cX3_takeDigit 76 = .ok (.dup, 1) := by decide +kernel
theorem dX3_takeDigit_77 : decode cX3_takeDigit 77 = .ok (.getfield 22, 3) := by decide +kernel
theorem dX3_takeDigit_80 : decode cX3_takeDigit 80 = .ok (.iconst 1, 1) := by decide +kernel
theorem dX3_takeDigit_81 : decode cX3_takeDigit 81 = .ok (.iadd, 1) := by decide +kernel
theorem dX3_takeDigit_82 : decode cX3_takeDigit 82 = .ok (.putfield 22, 3) := by decide +kernel
theorem dX3_takeDigit_85 : decode cX3_takeDigit 85 = .ok (.iconst 1, 1) := by decide +kernel
theorem dX3_takeDigit_86 : decode cX3_takeDigit 86 = .ok (.ireturn, 1) := by decide +kernel
theorem dX3_takeSign_0 : decode cX3_takeSign 0 = .ok (.aload_n 0, 1) := by decide +kernel
theorem dX3_takeSign_1 : decode cX3_takeSign 1 = .ok (.getfield 22, 3) := by decide +kernel
theorem dX3_takeSign_4 : decode cX3_takeSign 4 = .ok (.ifCond .eq 11, 3) := by decide +kernel
theorem dX3_takeSign_7 : decode cX3_takeSign 7 = .ok (.iload_n 1, 1) := by decide +kernel
theorem dX3_takeSign_8 : decode cX3_takeSign 8 = .ok (.aload_n 0, 1) := by decide +kernel
theorem dX3_takeSign_9 : decode cX3_takeSign 9 = .ok (.invokevirtual 57, 3) := by decide +kernel
theorem dX3_takeSign_12 : decode cX3_takeSign 12 = .ok (.if_icmp .eq 5, 3) := by decide +kernel
theorem dX3_takeSign_15 : decode cX3_takeSign 15 = .ok (.iconst 0, 1) := by decide +kernel
theorem dX3_takeSign_16 : decode cX3_takeSign 16 = .ok (.ireturn, 1) := by decide +kernel
theorem dX3_takeSign_17 : decode cX3_takeSign 17 = .ok (.iload_n 1, 1) := by decide +kernel
theorem dX3_takeSign_18 : decode cX3_takeSign 18 = .ok (.bipush 59, 2) := by decide +kernel
theorem dX3_takeSign_20 : decode cX3_takeSign 20 = .ok (.if_icmp .ne 10, 3) := by decide +kernel
theorem dX3_takeSign_23 : decode cX3_takeSign 23 = .ok (.aload_n 0, 1) := by decide +kernel
theorem dX3_takeSign_24 : decode cX3_takeSign 24 = .ok (.invokevirtual 25, 3) := by decide +kernel
theorem dX3_takeSign_27 : decode cX3_takeSign 27 = .ok (.goto 18, 3) := by decide +kernel
theorem dX3_takeSign_30 : decode cX3_takeSign 30 = .ok (.aload_n 0, 1) := by decide +kernel
theorem dX3_takeSign_31 : decode cX3_takeSign 31 = .ok (.dup, 1) := by decide +kernel
theorem dX3_takeSign_32 : decode cX3_takeSign 32 = .ok (.getfield 19, 3) := by decide +kernel
theorem dX3_takeSign_35 : decode cX3_takeSign 35 = .ok (.iconst 1, 1) := by decide +kernel
theorem dX3_takeSign_36 : decode cX3_takeSign 36 = .ok (.iadd, 1) := by decide +kernel
theorem dX3_takeSign_37 : decode cX3_takeSign 37 = .ok (.putfield 19, 3) := by decide +kernel
theorem dX3_takeSign_40 : decode cX3_takeSign 40 = .ok (.aload_n 0, 1) := by decide +kernel
theorem dX3_takeSign_41 : decode cX3_takeSign 41 = .ok (.iconst 0, 1) := by decide +kernel
theorem dX3_takeSign_42 : decode cX3_takeSign 42 = .ok (.putfield 22, 3) := by decide +kernel
theorem dX3_takeSign_45 : decode cX3_takeSign 45 = .ok (.iconst 1, 1) := by decide +kernel
theorem dX3_takeSign_46 : decode cX3_takeSign 46 = .ok (.ireturn, 1) := by decide +kernel
theorem dX3_signBehindNumber_0 : decode cX3_signBehindNumber 0 = .ok (.aload_n 0, 1) := by decide +kernel
theorem dX3_signBehindNumber_1 : decode cX3_signBehindNumber 1 = .ok (.getfield 15, 3) := by decide +kernel
theorem dX3_signBehindNumber_4 : decode cX3_signBehindNumber 4 = .ok (.lookupswitch 90 #[(45, 87), (98, 44), (114, 72), (120, 72)], 44) := by decide +kernel
theorem dX3_signBehindNumber_48 : decode cX3_signBehindNumber 48 = .ok (.aload_n 0, 1) := by decide +kernel
theorem dX3_signBehindNumber_49 : decode cX3_signBehindNumber 49 = .ok (.getfield 19, 3) := by decide +kernel
theorem dX3_signBehindNumber_52 : decode cX3_signBehindNumber 52 = .ok (.ifCond .ne 8, 3) := by decide +kernel
theorem dX3_signBehindNumber_55 : decode cX3_signBehindNumber 55 = .ok (.bipush 61, 2) := by decide +kernel
theorem dX3_signBehindNumber_57 : decode cX3_signBehindNumber 57 = .ok (.goto 18, 3) := by decide +kernel
theorem dX3_signBehindNumber_60 : decode cX3_signBehindNumber 60 = .ok (.aload_n 0, 1) := by decide +kernel
theorem dX3_signBehindNumber_61 : decode cX3_signBehindNumber 61 = .ok (.getfield 19, 3) := by decide +kernel
theorem dX3_signBehindNumber_64 : decode cX3_signBehindNumber 64 = .ok (.iconst 1, 1) := by decide +kernel
theorem dX3_signBehindNumber_65 : decode cX3_signBehindNumber 65 = .ok (.if_icmp .ne 8, 3) := by decide +kernel
theorem dX3_signBehindNumber_68 : decode cX3_signBehindNumber 68 = .ok (.bipush 64, 2) := by decide +kernel
theorem dX3_signBehindNumber_70 : decode cX3_signBehindNumber 70 = .ok (.goto 5, 3) := by decide +kernel
theorem dX3_signBehindNumber_73 : decode cX3_signBehindNumber 73 = .ok (.bipush 59, 2) := by decide +kernel
theorem dX3_signBehindNumber_75 : decode cX3_signBehindNumber 75 = .ok (.ireturn, 1) := by decide +kernel
theorem dX3_signBehindNumber_76 : decode cX3_signBehindNumber 76 = .ok (.aload_n 0, 1) := by decide +kernel
theorem dX3_signBehindNumber_77 : decode cX3_signBehindNumber 77 = .ok (.getfield 19, 3) := by decide +kernel
theorem dX3_signBehindNumber_80 : decode cX3_signBehindNumber 80 = .ok (.ifCond .ne 8, 3) := by decide +kernel
theorem dX3_signBehindNumber_83 : decode cX3_signBehindNumber 83 = .ok (.bipush 45, 2) := by decide +kernel
theorem dX3_signBehindNumber_85 : decode cX3_signBehindNumber 85 = .ok (.goto 5, 3) := by decide +kernel
theorem dX3_signBehindNumber_88 : decode cX3_signBehindNumber 88 = .ok (.bipush 59, 2) := by decide +kernel
theorem dX3_signBehindNumber_90 : decode cX3_signBehindNumber 90 = .ok (.ireturn, 1) := by decide +kernel
theorem dX3_signBehindNumber_91 : decode cX3_signBehindNumber 91 = .ok (.bipush 59, 2) := by decide +kernel
theorem dX3_signBehindNumber_93 : decode cX3_signBehindNumber 93 = .ok (.ireturn, 1) := by decide +kernel
theorem dX3_signBehindNumber_94 : decode cX3_signBehindNumber 94 = .ok (.aload_n 0, 1) := by decide +kernel
theorem dX3_signBehindNumber_95 : decode cX3_signBehindNumber 95 = .ok (.getfield 19, 3) := by decide +kernel
theorem dX3_signBehindNumber_98 : decode cX3_signBehindNumber 98 = .ok (.ifCond .ne 8, 3) := by decide +kernel
theorem dX3_signBehindNumber_101 : decode cX3_signBehindNumber 101 = .ok (.bipush 43, 2) := by decide +kernel
theorem dX3_signBehindNumber_103 : decode cX3_signBehindNumber 103 = .ok (.goto 18, 3) := by decide +kernel
theorem dX3_signBehindNumber_106 : decode cX3_signBehindNumber 106 = .ok (.aload_n 0, 1) := by decide +kernel
theorem dX3_signBehindNumber_107 : decode cX3_signBehindNumber 107 = .ok (.getfield 19, 3) := by decide +kernel
theorem dX3_signBehindNumber_110 : decode cX3_signBehindNumber 110 = .ok (.iconst 1, 1) := by decide +kernel
theorem dX3_signBehindNumber_111 : decode cX3_signBehindNumber 111 = .ok (.if_icmp .ne 8, 3) := by decide +kernel
theorem dX3_signBehindNumber_114 : decode cX3_signBehindNumber 114 = .ok (.bipush 58, 2) := by decide +kernel
theorem dX3_signBehindNumber_116 : decode cX3_signBehindNumber 116 = .ok (.goto 5, 3) := by decide +kernel
theorem dX3_signBehindNumber_119 : decode cX3_signBehindNumber 119 = .ok (.bipush 59, 2) := by decide +kernel
theorem dX3_signBehindNumber_121 : decode cX3_signBehindNumber 121 = .ok (.ireturn, 1) := by decide +kernel
theorem dX4_init_0 : decode cX4_init 0 = .ok (.aload_n 0, 1) := by decide +kernel
theorem dX4_init_1 : decode cX4_init 1 = .ok (.invokespecial 3, 3) := by decide +kernel
theorem dX4_init_4 : decode cX4_init 4 = .ok (.aload_n 0, 1) := by decide +kernel
theorem dX4_init_5 : decode cX4_init 5 = .ok (.bipush 32, 2) := by decide +kernel
theorem dX4_init_7 : decode cX4_init 7 = .ok (.putfield 9, 3) := by decide +kernel
theorem dX4_init_10 : decode cX4_init 10 = .ok (.aload_n 0, 1) := by decide +kernel
theorem dX4_init_11 : decode cX4_init 11 = .ok (.bipush 10, 2) := by decide +kernel
theorem dX4_init_13 : decode cX4_init 13 = .ok (.putfield 15, 3) := by decide +kernel
theorem dX4_init_16 : decode cX4_init 16 = .ok (.aload_n 0, 1) := by decide +kernel
theorem dX4_init_17 : decode cX4_init 17 = .ok (.bipush 60, 2) := by decide +kernel
theorem dX4_init_19 : decode cX4_init 19 = .ok (.newarray .int, 2) := by decide +kernel
theorem dX4_init_21 : decode cX4_init 21 = .ok (.putfield 18, 3) := by decide +kernel
theorem dX4_init_24 : decode cX4_init 24 = .ok (.aload_n 0, 1) := by decide +kernel
theorem dX4_init_25 : decode cX4_init 25 = .ok (.bipush 60, 2) := by decide +kernel
theorem dX4_init_27 : decode cX4_init 27 = .ok (.newarray .int, 2) := by decide +kernel
theorem dX4_init_29 : decode cX4_init 29 = .ok (.putfield 22, 3) := by decide +kernel
theorem dX4_init_32 : decode cX4_init 32 = .ok (.iconst 0, 1) := by decide +kernel
theorem dX4_init_33 : decode cX4_init 33 = .ok (.istore_n 1, 1) := by decide +kernel
theorem dX4_init_34 : decode cX4_init 34 = .ok (.iload_n 1, 1) := by decide +kernel
theorem dX4_init_35 : decode cX4_init 35 = .ok (.bipush 60, 2) := by decide +kernel
theorem dX4_init_37 : decode cX4_init 37 = .ok (.if_icmp .ge 24, 3) := by decide +kernel
theorem dX4_init_40 : decode cX4_init 40 = .ok (.aload_n 0, 1) := by decide +kernel
theorem dX4_init_41 : decode cX4_init 41 = .ok (.getfield 18, 3) := by decide +kernel
theorem dX4_init_44 : decode cX4_init 44 = .ok (.iload_n 1, 1) := by decide +kernel
theorem dX4_init_45 : decode cX4_init 45 = .ok (.iconst 4, 1) := by decide +kernel
theorem dX4_init_46 : decode cX4_init 46 = .ok (.iastore, 1) := by decide +kernel
theorem dX4_init_47 : decode cX4_init 47 = .ok (.aload_n 0, 1) := by decide +kernel
theorem dX4_init_48 : decode cX4_init 48 = .ok (.getfield 22, 3) := by decide +kernel
theorem dX4_init_51 : decode cX4_init 51 = .ok (.iload_n 1, 1) := by decide +kernel
theorem dX4_init_52 : decode cX4_init 52 = .ok (.bipush 60, 2) := by decide +kernel
theorem dX4_init_54 : decode cX4_init 54 = .ok (.iastore, 1) := by decide +kernel
theorem dX4_init_55 : decode cX4_init 55 = .ok (.iinc 1 1, 3) := by decide +kernel
theorem dX4_init_58 : decode cX4_init 58 = .ok (.goto (-24), 3) := by decide +kernel
theorem dX4_init_61 : decode cX4_init 61 = .ok (.aload_n 0, 1) := by decide +kernel
theorem dX4_init_62 : decode cX4_init 62 = .ok (.new 25, 3) := by decide +kernel
theorem dX4_init_65 : decode cX4_init 65 = .ok (.dup, 1) := by decide +kernel
theorem dX4_init_66 : decode cX4_init 66 = .ok (.iconst 4, 1) := by decide +kernel
theorem dX4_init_67 : decode cX4_init 67 = .ok (.invokespecial 27, 3) := by decide +kernel
theorem dX4_init_70 : decode cX4_init 70 = .ok (.putfield 30, 3) := by decide +kernel
theorem dX4_init_73 : decode cX4_init 73 = .ok (.aload_n 0, 1) := by decide +kernel
theorem dX4_init_74 : decode cX4_init 74 = .ok (.new 25, 3) := by decide +kernel
theorem dX4_init_77 : decode cX4_init 77 = .ok (.dup, 1) := by decide +kernel
theorem dX4_init_78 : decode cX4_init 78 = .ok (.iconst 4, 1) := by decide +kernel
theorem dX4_init_79 : decode cX4_init 79 = .ok (.invokespecial 27, 3) := by decide +kernel
theorem dX4_init_82 : decode cX4_init 82 = .ok (.putfield 34, 3) := by decide +kernel
theorem dX4_init_85 : decode cX4_init 85 = .ok (.aload_n 0, 1) := by decide +kernel
theorem dX4_init_86 : decode cX4_init 86 = .ok (.new 25, 3) := by decide +kernel
theorem dX4_init_89 : decode cX4_init 89 = .ok (.dup, 1) := by decide +kernel
theorem dX4_init_90 : decode cX4_init 90 = .ok (.iconst 3, 1) := by decide +kernel
theorem dX4_init_91 : decode cX4_init 91 = .ok (.invokespecial 27, 3) := by decide +kernel
theorem dX4_init_94 : decode cX4_init 94 = .ok (.putfield 37, 3) := by decide +kernel
theorem dX4_init_97 : decode cX4_init 97 = .ok (.aload_n 0, 1) := by decide +kernel
theorem dX4_init_98 : decode cX4_init 98 = .ok (.new 40, 3) := by decide +kernel
theorem dX4_init_101 : decode cX4_init 101 = .ok (.dup, 1) := by decide +kernel
theorem dX4_init_102 : decode cX4_init 102 = .ok (.invokespecial 42, 3) := by decide +kernel
theorem dX4_init_105 : decode cX4_init 105 = .ok (.putfield 43, 3) := by decide +kernel
theorem dX4_init_108 : decode cX4_init 108 = .ok (.return_, 1) := by decide +kernel
theorem dX4_copyFrom_0 : decode cX4_copyFrom 0 = .ok (.aload_n 0, 1) := by decide +kernel
theorem dX4_copyFrom_1 : decode cX4_copyFrom 1 = .ok (.aload_n 1, 1) := by decide +kernel
theorem dX4_copyFrom_2 : decode cX4_copyFrom 2 = .ok (.getfield 9, 3) := by decide +kernel
theorem dX4_copyFrom_5 : decode cX4_copyFrom 5 = .ok (.putfield 9, 3) := by decide +kernel
theorem dX4_copyFrom_8 : decode cX4_copyFrom 8 = .ok (.aload_n 0, 1) := by decide +kernel
theorem dX4_copyFrom_9 : decode cX4_copyFrom 9 = .ok (.aload_n 1, 1) := by decide +kernel
theorem dX4_copyFrom_10 : decode cX4_copyFrom 10 = .ok (.getfield 15, 3) := by decide +kernel
theorem dX4_copyFrom_13 : decode cX4_copyFrom 13 = .ok (.putfield 15, 3) := by decide +kernel
theorem dX4_copyFrom_16 : decode cX4_copyFrom 16 = .ok (.aload_n 1, 1) := by decide +kernel
theorem dX4_copyFrom_17 : decode cX4_copyFrom 17 = .ok (.getfield 18, 3) := by decide +kernel
theorem dX4_copyFrom_20 : decode cX4_copyFrom 20 = .ok (.iconst 0, 1) := by decide +kernel
theorem dX4_copyFrom_21 : decode cX4_copyFrom 21 = .ok (.aload_n 0, 1) := by decide +kernel
theorem dX4_copyFrom_22 : decode cX4_copyFrom 22 = .ok (.getfield 18, 3) := by decide +kernel
theorem dX4_copyFrom_25 : decode cX4_copyFrom 25 = .ok (.iconst 0, 1) := by decide +kernel
theorem dX4_copyFrom_26 : decode cX4_copyFrom 26 = .ok (.bipush 60, 2) := by decide +kernel
theorem dX4_copyFrom_28 : decode cX4_copyFrom 28 = .ok (.invokestatic 47, 3) := by decide +kernel
theorem dX4_copyFrom_31 : decode cX4_copyFrom 31 = .ok (.aload_n 1, 1) := by decide +kernel
theorem dX4_copyFrom_32 : decode cX4_copyFrom 32 = .ok (.getfield 22, 3) := by decide +kernel
theorem dX4_copyFrom_35 : decode cX4_copyFrom 35 = .ok (.iconst 0, 1) := by decide +kernel
theorem dX4_copyFrom_36 : decode cX4_copyFrom 36 = .ok (.aload_n 0, 1) := by decide +kernel
theorem dX4_copyFrom_37 : decode cX4_copyFrom 37 = .ok (.getfield 22, 3) := by decide +kernel
theorem dX4_copyFrom_40 : decode cX4_copyFrom 40 = .ok (.iconst 0, 1) := by decide +kernel
theorem dX4_copyFrom_41 : decode cX4_copyFrom 41 = .ok (.bipush 60, 2) := by decide +kernel
theorem dX4_copyFrom_43 : decode cX4_copyFrom 43 = .ok (.invokestatic 47, 3) := by decide +kernel
theorem dX4_copyFrom_46 : decode cX4_copyFrom 46 = .ok (.aload_n 0, 1) := by decide +kernel
theorem dX4_copyFrom_47 : decode cX4_copyFrom 47 = .ok (.getfield 30, 3) := by decide +kernel
theorem dX4_copyFrom_50 : decode cX4_copyFrom 50 = .ok (.aload_n 1, 1) := by decide +kernel
theorem dX4_copyFrom_51 : decode cX4_copyFrom 51 = .ok (.getfield 30, 3) := by decide +kernel
theorem dX4_copyFrom_54 : decode cX4_copyFrom 54 = .ok (.invokevirtual 53, 3) := by decide +kernel
theorem dX4_copyFrom_57 : decode cX4_copyFrom 57 = .ok (.aload_n 0, 1) := by decide +kernel
theorem dX4_copyFrom_58 : decode cX4_copyFrom 58 = .ok (.getfield 34, 3) := by decide +kernel
theorem dX4_copyFrom_61 : decode cX4_copyFrom 61 = .ok (.aload_n 1, 1) := by decide +kernel
theorem dX4_copyFrom_62 : decode cX4_copyFrom 62 = .ok (.getfield 34, 3) := by decide +kernel
theorem dX4_copyFrom_65 : decode cX4_copyFrom 65 = .ok (.invokevirtual 53, 3) := by decide +kernel
theorem dX4_copyFrom_68 : decode cX4_copyFrom 68 = .ok (.aload_n 0, 1) := by decide +kernel
theorem dX4_copyFrom_69 : decode cX4_copyFrom 69 = .ok (.getfield 37, 3) := by decide +kernel
theorem dX4_copyFrom_72 : decode cX4_copyFrom 72 = .ok (.aload_n 1, 1) := by decide +kernel
theorem dX4_copyFrom_73 : decode cX4_copyFrom 73 = .ok (.getfield 37, 3) := by decide +kernel
theorem dX4_copyFrom_76 : decode cX4_copyFrom 76 = .ok (.invokevirtual 53, 3) := by decide +kernel
theorem dX4_copyFrom_79 : decode cX4_copyFrom 79 = .ok (.aload_n 0, 1) := by decide +kernel
theorem dX4_copyFrom_80 : decode cX4_copyFrom 80 = .ok (.getfield 43, 3) := by decide +kernel
theorem dX4_copyFrom_83 : decode cX4_copyFrom 83 = .ok (.aload_n 1, 1) := by decide +kernel
theorem dX4_copyFrom_84 : decode cX4_copyFrom 84 = .ok (.getfield 43, 3) := by decide +kernel
theorem dX4_copyFrom_87 : decode cX4_copyFrom 87 = .ok (.invokevirtual 57, 3) := by decide +kernel
theorem dX4_copyFrom_90 : decode cX4_copyFrom 90 = .ok (.return_, 1) := by decide +kernel
theorem dX4_hasBar_0 : decode cX4_hasBar 0 = .ok (.iload_n 1, 1) := by decide +kernel
theorem dX4_hasBar_1 : decode cX4_hasBar 1 = .ok (.ifCond .lt 15, 3) := by decide +kernel
theorem dX4_hasBar_4 : decode cX4_hasBar 4 = .ok (.iload_n 1, 1) := by decide +kernel
theorem dX4_hasBar_5 : decode cX4_hasBar 5 = .ok (.aload_n 0, 1) := by decide +kernel
theorem dX4_hasBar_6 : decode cX4_hasBar 6 = .ok (.getfield 9, 3) := by decide +kernel
theorem dX4_hasBar_9 : decode cX4_hasBar 9 = .ok (.if_icmp .ge 7, 3) := by decide +kernel
theorem dX4_hasBar_12 : decode cX4_hasBar 12 = .ok (.iconst 1, 1) := by decide +kernel
theorem dX4_hasBar_13 : decode cX4_hasBar 13 = .ok (.goto 4, 3) := by decide +kernel
theorem dX4_hasBar_16 : decode cX4_hasBar 16 = .ok (.iconst 0, 1) := by decide +kernel
theorem dX4_hasBar_17 : decode cX4_hasBar 17 = .ok (.ireturn, 1) := by decide +kernel
theorem dX4_tenthsOf_0 : decode cX4_tenthsOf 0 = .ok (.aload_n 0, 1) := by decide +kernel
theorem dX4_tenthsOf_1 : decode cX4_tenthsOf 1 = .ok (.iload_n 1, 1) := by decide +kernel
theorem dX4_tenthsOf_2 : decode cX4_tenthsOf 2 = .ok (.invokevirtual 60, 3) := by decide +kernel
theorem dX4_tenthsOf_5 : decode cX4_tenthsOf 5 = .ok (.ifCond .eq 21, 3) := by decide +kernel
theorem dX4_tenthsOf_8 : decode cX4_tenthsOf 8 = .ok (.aload_n 0, 1) := by decide +kernel
theorem dX4_tenthsOf_9 : decode cX4_tenthsOf 9 = .ok (.getfield 18, 3) := by decide +kernel
theorem dX4_tenthsOf_12 : decode cX4_tenthsOf 12 = .ok (.iload_n 1, 1) := by decide +kernel
theorem dX4_tenthsOf_13 : decode cX4_tenthsOf 13 = .ok (.iaload, 1) := by decide +kernel
theorem dX4_tenthsOf_14 : decode cX4_tenthsOf 14 = .ok (.aload_n 0, 1) := by decide +kernel
theorem dX4_tenthsOf_15 : decode cX4_tenthsOf 15 = .ok (.getfield 22, 3) := by decide +kernel
theorem dX4_tenthsOf_18 : decode cX4_tenthsOf 18 = .ok (.iload_n 1, 1) := by decide +kernel
theorem dX4_tenthsOf_19 : decode cX4_tenthsOf 19 = .ok (.iaload, 1) := by decide +kernel
theorem dX4_tenthsOf_20 : decode cX4_tenthsOf 20 = .ok (.invokestatic 64, 3) := by decide +kernel
theorem dX4_tenthsOf_23 : decode cX4_tenthsOf 23 = .ok (.goto 4, 3) := by decide +kernel
theorem dX4_tenthsOf_26 : decode cX4_tenthsOf 26 = .ok (.iconst 0, 1) := by decide +kernel
theorem dX4_tenthsOf_27 : decode cX4_tenthsOf 27 = .ok (.ireturn, 1) := by decide +kernel
theorem dX4_spanError_0 : decode cX4_spanError 0 = .ok (.aload_n 0, 1) := by decide +kernel
theorem dX4_spanError_1 : decode cX4_spanError 1 = .ok (.iload_n 1, 1) := by decide +kernel
theorem dX4_spanError_2 : decode cX4_spanError 2 = .ok (.invokevirtual 60, 3) := by decide +kernel
theorem dX4_spanError_5 : decode cX4_spanError 5 = .ok (.ifCond .eq 11, 3) := by decide +kernel
theorem dX4_spanError_8 : decode cX4_spanError 8 = .ok (.aload_n 0, 1) := by decide +kernel
theorem dX4_spanError_9 : decode cX4_spanError 9 = .ok (.iload_n 2, 1) := by decide +kernel
theorem dX4_spanError_10 : decode cX4_spanError 10 = .ok (.invokevirtual 60, 3) := by decide +kernel
theorem dX4_spanError_13 : decode cX4_spanError 13 = .ok (.ifCond .ne 5, 3) := by decide +kernel
theorem dX4_spanError_16 : decode cX4_spanError 16 = .ok (.iconst (-1), 1) := by decide +kernel
theorem dX4_spanError_17 : decode cX4_spanError 17 = .ok (.ireturn, 1) := by decide +kernel
theorem dX4_spanError_18 : decode cX4_spanError 18 = .ok (.iload_n 2, 1) := by decide +kernel
theorem dX4_spanError_19 : decode cX4_spanError 19 = .ok (.iload_n 1, 1) := by decide +kernel
theorem dX4_spanError_20 : decode cX4_spanError 20 = .ok (.if_icmp .ge 8, 3) := by decide +kernel
theorem dX4_spanError_23 : decode cX4_spanError 23 = .ok (.bipush (-2), 2) := by decide +kernel
theorem dX4_spanError_25 : decode cX4_spanError 25 = .ok (.goto 4, 3) := by decide +kernel
theorem dX4_spanError_28 : decode cX4_spanError 28 = .ok (.iconst 0, 1) := by decide +kernel
theorem dX4_spanError_29 : decode cX4_spanError 29 = .ok (.ireturn, 1) := by decide +kernel
theorem dX4_changeBars_0 : decode cX4_changeBars 0 = .ok (.iload_n 1, 1) := by decide +kernel
theorem dX4_changeBars_1 : decode cX4_changeBars 1 = .ok (.iconst 1, 1) := by decide +kernel
theorem dX4_changeBars_2 : decode cX4_changeBars 2 = .ok (.bipush 60, 2) := by decide +kernel
theorem dX4_changeBars_4 : decode cX4_changeBars 4 = .ok (.invokestatic 68, 3) := by decide +kernel
theorem dX4_changeBars_7 : decode cX4_changeBars 7 = .ok (.ifCond .ne 6, 3) := by decide +kernel
theorem dX4_changeBars_10 : decode cX4_changeBars 10 = .ok (.bipush (-2), 2) := by decide +kernel
theorem dX4_changeBars_12 : decode cX4_changeBars 12 = .ok (.ireturn, 1) := by decide +kernel
theorem dX4_changeBars_13 : decode cX4_changeBars 13 = .ok (.aload_n 0, 1) := by decide +kernel
theorem dX4_changeBars_14 : decode cX4_changeBars 14 = .ok (.invokevirtual 72, 3) := by decide +kernel
theorem dX4_changeBars_17 : decode cX4_changeBars 17 = .ok (.iload_n 1, 1) := by decide +kernel
theorem dX4_changeBars_18 : decode cX4_changeBars 18 = .ok (.if_icmp .lt 6, 3) := by decide +kernel
theorem dX4_changeBars_21 : decode cX4_changeBars 21 = .ok (.bipush (-5), 2) := by decide +kernel
theorem dX4_changeBars_23 : decode cX4_changeBars 23 = .ok (.ireturn, 1) := by decide +kernel
theorem dX4_changeBars_24 : decode cX4_changeBars 24 = .ok (.aload_n 0, 1) := by decide +kernel
theorem dX4_changeBars_25 : decode cX4_changeBars 25 = .ok (.getfield 9, 3) := by decide +kernel
theorem dX4_changeBars_28 : decode cX4_changeBars 28 = .ok (.istore_n 2, 1) := by decide +kernel
theorem dX4_changeBars_29 : decode cX4_changeBars 29 = .ok (.aload_n 0, 1) := by decide +kernel
theorem dX4_changeBars_30 : decode cX4_changeBars 30 = .ok (.iload_n 1, 1) := by decide +kernel
theorem dX4_changeBars_31 : decode cX4_changeBars 31 = .ok (.putfield 9, 3) := by decide +kernel
theorem dX4_changeBars_34 : decode cX4_changeBars 34 = .ok (.iload_n 2, 1) := by decide +kernel
theorem dX4_changeBars_35 : decode cX4_changeBars 35 = .ok (.ireturn, 1) := by decide +kernel
theorem dX4_changeShortest_0 : decode cX4_changeShortest 0 = .ok (.iload_n 1, 1) := by decide +kernel
theorem dX4_changeShortest_1 : decode cX4_changeShortest 1 = .ok (.iconst 0, 1) := by decide +kernel
theorem dX4_changeShortest_2 : decode cX4_changeShortest 2 = .ok (.bipush 50, 2) := by decide +kernel
theorem dX4_changeShortest_4 : decode cX4_changeShortest 4 = .ok (.invokestatic 68, 3) := by decide +kernel
theorem dX4_changeShortest_7 : decode cX4_changeShortest 7 = .ok (.ifCond .ne 6, 3) := by decide +kernel
theorem dX4_changeShortest_10 : decode cX4_changeShortest 10 = .ok (.bipush (-2), 2) := by decide +kernel
theorem dX4_changeShortest_12 : decode cX4_changeShortest 12 = .ok (.ireturn, 1) := by decide +kernel
theorem dX4_changeShortest_13 : decode cX4_changeShortest 13 = .ok (.aload_n 0, 1) := by decide +kernel
theorem dX4_changeShortest_14 : decode cX4_changeShortest 14 = .ok (.getfield 15, 3) := by decide +kernel
theorem dX4_changeShortest_17 : decode cX4_changeShortest 17 = .ok (.istore_n 2, 1) := by decide +kernel
theorem dX4_changeShortest_18 : decode cX4_changeShortest 18 = .ok (.aload_n 0, 1) := by decide +kernel
theorem dX4_changeShortest_19 : decode cX4_changeShortest 19 = .ok (.iload_n 1, 1) := by decide +kernel
theorem dX4_changeShortest_20 : decode cX4_changeShortest 20 = .ok (.putfield 15, 3) := by decide +kernel
theorem dX4_changeShortest_23 : decode cX4_changeShortest 23 = .ok (.iload_n 2, 1) := by decide +kernel
theorem dX4_changeShortest_24 : decode cX4_changeShortest 24 = .ok (.ireturn, 1) := by decide +kernel
theorem dX4_changeBar_0 : decode cX4_changeBar 0 = .ok (.aload_n 0, 1) := by decide +kernel
theorem dX4_changeBar_1 : decode cX4_changeBar 1 = .ok (.iload_n 1, 1) := by decide +kernel
theorem dX4_changeBar_2 : decode cX4_changeBar 2 = .ok (.invokevirtual 60, 3) := by decide +kernel
theorem dX4_changeBar_5 : decode cX4_changeBar 5 = .ok (.ifCond .ne 5, 3) := by decide +kernel
theorem dX4_changeBar_8 : decode cX4_changeBar 8 = .ok (.iconst (-1), 1) := by decide +kernel
theorem dX4_changeBar_9 : decode cX4_changeBar 9 = .ok (.ireturn, 1) := by decide +kernel
theorem dX4_changeBar_10 : decode cX4_changeBar 10 = .ok (.iload_n 2, 1) := by decide +kernel
theorem dX4_changeBar_11 : decode cX4_changeBar 11 = .ok (.iconst 1, 1) := by decide +kernel
theorem dX4_changeBar_12 : decode cX4_changeBar 12 = .ok (.bipush 12, 2) := by decide +kernel
theorem dX4_changeBar_14 : decode cX4_changeBar 14 = .ok (.invokestatic 68, 3) := by decide +kernel
theorem dX4_changeBar_17 : decode cX4_changeBar 17 = .ok (.ifCond .eq 15, 3) := by decide +kernel
theorem dX4_changeBar_20 : decode cX4_changeBar 20 = .ok (.iload_n 3, 1) := by decide +kernel
theorem dX4_changeBar_21 : decode cX4_changeBar 21 = .ok (.bipush 20, 2) := by decide +kernel
theorem dX4_changeBar_23 : decode cX4_changeBar 23 = .ok (.sipush 240, 3) := by decide +kernel
theorem dX4_changeBar_26 : decode cX4_changeBar 26 = .ok (.invokestatic 68, 3) := by decide +kernel
theorem dX4_changeBar_29 : decode cX4_changeBar 29 = .ok (.ifCond .ne 6, 3) := by decide +kernel
theorem dX4_changeBar_32 : decode cX4_changeBar 32 = .ok (.bipush (-2), 2) := by decide +kernel
theorem dX4_changeBar_34 : decode cX4_changeBar 34 = .ok (.ireturn, 1) := by decide +kernel
theorem dX4_changeBar_35 : decode cX4_changeBar 35 = .ok (.aload_n 0, 1) := by decide +kernel
theorem dX4_changeBar_36 : decode cX4_changeBar 36 = .ok (.getfield 18, 3) := by decide +kernel
theorem dX4_changeBar_39 : decode cX4_changeBar 39 = .ok (.iload_n 1, 1) := by decide +kernel
theorem dX4_changeBar_40 : decode cX4_changeBar 40 = .ok (.iload_n 2, 1) := by decide +kernel
theorem dX4_changeBar_41 : decode cX4_changeBar 41 = .ok (.iastore, 1) := by decide +kernel
theorem dX4_changeBar_42 : decode cX4_changeBar 42 = .ok (.aload_n 0, 1) := by decide +kernel
theorem dX4_changeBar_43 : decode cX4_changeBar 43 = .ok (.getfield 22, 3) := by decide +kernel
theorem dX4_changeBar_46 : decode cX4_changeBar 46 = .ok (.iload_n 1, 1) := by decide +kernel
theorem dX4_changeBar_47 : decode cX4_changeBar 47 = .ok (.iload_n 3, 1) := by decide +kernel
theorem dX4_changeBar_48 : decode cX4_changeBar 48 = .ok (.iastore, 1) := by decide +kernel
theorem dX4_changeBar_49 : decode cX4_changeBar 49 = .ok (.aload_n 0, 1) := by decide +kernel
theorem dX4_changeBar_50 : decode cX4_changeBar 50 = .ok (.iload_n 1, 1) := by decide +kernel
theorem dX4_changeBar_51 : decode cX4_changeBar 51 = .ok (.invokevirtual 76, 3) := by decide +kernel
theorem dX4_changeBar_54 : decode cX4_changeBar 54 = .ok (.ireturn, 1) := by decide +kernel
theorem dX4_addRepeat_0 : decode cX4_addRepeat 0 = .ok (.aload_n 0, 1) := by decide +kernel
theorem dX4_addRepeat_1 : decode cX4_addRepeat 1 = .ok (.iload_n 1, 1) := by decide +kernel
theorem dX4_addRepeat_2 : decode cX4_addRepeat 2 = .ok (.iload_n 2, 1) := by decide +kernel
theorem dX4_addRepeat_3 : decode cX4_addRepeat 3 = .ok (.invokevirtual 80, 3) := by decide +kernel
theorem dX4_addRepeat_6 : decode cX4_addRepeat 6 = .ok (.istore_n 3, 1) := by decide +kernel
theorem dX4_addRepeat_7 : decode cX4_addRepeat 7 = .ok (.iload_n 3, 1) := by decide +kernel
theorem dX4_addRepeat_8 : decode cX4_addRepeat 8 = .ok (.ifCond .ge 5, 3) := by decide +kernel
theorem dX4_addRepeat_11 : decode cX4_addRepeat 11 = .ok (.iload_n 3, 1) := by decide +kernel
theorem dX4_addRepeat_12 : decode cX4_addRepeat 12 = .ok (.ireturn, 1) := by decide +kernel
theorem dX4_addRepeat_13 : decode cX4_addRepeat 13 = .ok (.aload_n 0, 1) := by decide +kernel
theorem dX4_addRepeat_14 : decode cX4_addRepeat 14 = .ok (.getfield 30, 3) := by decide +kernel
theorem dX4_addRepeat_17 : decode cX4_addRepeat 17 = .ok (.invokevirtual 83, 3) := by decide +kernel
theorem dX4_addRepeat_20 : decode cX4_addRepeat 20 = .ok (.ifCond .eq 6, 3) := by decide +kernel
theorem dX4_addRepeat_23 : decode cX4_addRepeat 23 = .ok (.bipush (-4), 2) := by decide +kernel
theorem dX4_addRepeat_25 : decode cX4_addRepeat 25 = .ok (.ireturn, 1) := by decide +kernel
theorem dX4_addRepeat_26 : decode cX4_addRepeat 26 = .ok (.aload_n 0, 1) := by decide +kernel
theorem dX4_addRepeat_27 : decode cX4_addRepeat 27 = .ok (.getfield 30, 3) := by decide +kernel
theorem dX4_addRepeat_30 : decode cX4_addRepeat 30 = .ok (.iload_n 1, 1) := by decide +kernel
theorem dX4_addRepeat_31 : decode cX4_addRepeat 31 = .ok (.iload_n 2, 1) := by decide +kernel
theorem dX4_addRepeat_32 : decode cX4_addRepeat 32 = .ok (.invokevirtual 87, 3) := by decide +kernel
theorem dX4_addRepeat_35 : decode cX4_addRepeat 35 = .ok (.ifCond .eq 8, 3) := by decide +kernel
theorem dX4_addRepeat_38 : decode cX4_addRepeat 38 = .ok (.bipush (-5), 2) := by decide +kernel
theorem dX4_addRepeat_40 : decode cX4_addRepeat 40 = .ok (.goto 12, 3) := by decide +kernel
theorem dX4_addRepeat_43 : decode cX4_addRepeat 43 = .ok (.aload_n 0, 1) := by decide +kernel
theorem dX4_addRepeat_44 : decode cX4_addRepeat 44 = .ok (.getfield 30, 3) := by decide +kernel
theorem dX4_addRepeat_47 : decode cX4_addRepeat 47 = .ok (.iload_n 1, 1) := by decide +kernel
theorem dX4_addRepeat_48 : decode cX4_addRepeat 48 = .ok (.iload_n 2, 1) := by decide +kernel
theorem dX4_addRepeat_49 : decode cX4_addRepeat 49 = .ok (.invokevirtual 91, 3) := by decide +kernel
theorem dX4_addRepeat_52 : decode cX4_addRepeat 52 = .ok (.ireturn, 1) := by decide +kernel
theorem dX4_addCut_0 : decode cX4_addCut 0 = .ok (.aload_n 0, 1) := by decide +kernel
theorem dX4_addCut_1 : decode cX4_addCut 1 = .ok (.iload_n 1, 1) := by decide +kernel
theorem dX4_addCut_2 : decode cX4_addCut 2 = .ok (.iload_n 2, 1) := by decide +kernel
theorem dX4_addCut_3 : decode cX4_addCut 3 = .ok (.invokevirtual 80, 3) := by decide +kernel
theorem dX4_addCut_6 : decode cX4_addCut 6 = .ok (.istore_n 3, 1) := by decide +kernel
theorem dX4_addCut_7 : decode cX4_addCut 7 = .ok (.iload_n 3, 1) := by decide +kernel
theorem dX4_addCut_8 : decode cX4_addCut 8 = .ok (.ifCond .ge 7, 3) := by decide +kernel
theorem dX4_addCut_11 : decode cX4_addCut 11 = .ok (.iload_n 3, 1) := by decide +kernel
theorem dX4_addCut_12 : decode cX4_addCut 12 = .ok (.goto 12, 3) := by decide +kernel
theorem dX4_addCut_15 : decode cX4_addCut 15 = .ok (.aload_n 0, 1) := by decide +kernel
theorem dX4_addCut_16 : decode cX4_addCut 16 = .ok (.getfield 34, 3) := by decide +kernel
theorem dX4_addCut_19 : decode cX4_addCut 19 = .ok (.iload_n 1, 1) := by decide +kernel
theorem dX4_addCut_20 : decode cX4_addCut 20 = .ok (.iload_n 2, 1) := by decide +kernel
theorem dX4_addCut_21 : decode cX4_addCut 21 = .ok (.invokevirtual 91, 3) := by decide +kernel
theorem dX4_addCut_24 : decode cX4_addCut 24 = .ok (.ireturn, 1) := by decide +kernel
theorem dX4_addBlackout_0 : decode cX4_addBlackout 0 = .ok (.iload_n 1, 1) := by decide +kernel
theorem dX4_addBlackout_1 : decode cX4_addBlackout 1 = .ok (.ifCond .lt 15, 3) := by decide +kernel
theorem dX4_addBlackout_4 : decode cX4_addBlackout 4 = .ok (.iload_n 2, 1) := by decide +kernel
theorem dX4_addBlackout_5 : decode cX4_addBlackout 5 = .ok (.iload_n 1, 1) := by decide +kernel
theorem dX4_addBlackout_6 : decode cX4_addBlackout 6 = .ok (.if_icmp .lt 10, 3) := by decide +kernel
theorem dX4_addBlackout_9 : decode cX4_addBlackout 9 = .ok (.iload_n 2, 1) := by decide +kernel
theorem dX4_addBlackout_10 : decode cX4_addBlackout 10 = .ok (.sipush 199, 3) := by decide +kernel
theorem dX4_addBlackout_13 : decode cX4_addBlackout 13 = .ok (.if_icmp .le 6, 3) := by decide +kernel
theorem dX4_addBlackout_16 : decode cX4_addBlackout 16 = .ok (.bipush (-2), 2) := by decide +kernel
theorem dX4_addBlackout_18 : decode cX4_addBlackout 18 = .ok (.ireturn, 1) := by decide +kernel
theorem dX4_addBlackout_19 : decode cX4_addBlackout 19 = .ok (.aload_n 0, 1) := by decide +kernel
theorem dX4_addBlackout_20 : decode cX4_addBlackout 20 = .ok (.getfield 37, 3) := by decide +kernel
theorem dX4_addBlackout_23 : decode cX4_addBlackout 23 = .ok (.iload_n 1, 1) := by decide +kernel
theorem dX4_addBlackout_24 : decode cX4_addBlackout 24 = .ok (.iload_n 2, 1) := by decide +kernel
theorem dX4_addBlackout_25 : decode cX4_addBlackout 25 = .ok (.invokevirtual 91, 3) := by decide +kernel
theorem dX4_addBlackout_28 : decode cX4_addBlackout 28 = .ok (.ireturn, 1) := by decide +kernel
theorem dX4_removeSpan_0 : decode cX4_removeSpan 0 = .ok (.iload_n 1, 1) := by decide +kernel
theorem dX4_removeSpan_1 : decode cX4_removeSpan 1 = .ok (.tableswitch 54 0 2 #[27, 36, 45], 27) := by decide +kernel
theorem dX4_removeSpan_28 : decode cX4_removeSpan 28 = .ok (.aload_n 0, 1) := by decide +kernel
theorem dX4_removeSpan_29 : decode cX4_removeSpan 29 = .ok (.getfield 30, 3) := by decide +kernel
theorem dX4_removeSpan_32 : decode cX4_removeSpan 32 = .ok (.iload_n 2, 1) := by decide +kernel
theorem dX4_removeSpan_33 : decode cX4_removeSpan 33 = .ok (.invokevirtual 94, 3) := by decide +kernel
theorem dX4_removeSpan_36 : decode cX4_removeSpan 36 = .ok (.ireturn, 1) := by decide +kernel
theorem dX4_removeSpan_37 : decode cX4_removeSpan 37 = .ok (.aload_n 0, 1) := by decide +kernel
theorem dX4_removeSpan_38 : decode cX4_removeSpan 38 = .ok (.getfield 34, 3) := by decide +kernel
theorem dX4_removeSpan_41 : decode cX4_removeSpan 41 = .ok (.iload_n 2, 1) := by decide +kernel
theorem dX4_removeSpan_42 : decode cX4_removeSpan 42 = .ok (.invokevirtual 94, 3) := by decide +kernel
theorem dX4_removeSpan_45 : decode cX4_removeSpan 45 = .ok (.ireturn, 1) := by decide +kernel
theorem dX4_removeSpan_46 : decode cX4_removeSpan 46 = .ok (.aload_n 0, 1) := by decide +kernel
theorem dX4_removeSpan_47 : decode cX4_removeSpan 47 = .ok (.getfield 37, 3) := by decide +kernel
theorem dX4_removeSpan_50 : decode cX4_removeSpan 50 = .ok (.iload_n 2, 1) := by decide +kernel
theorem dX4_removeSpan_51 : decode cX4_removeSpan 51 = .ok (.invokevirtual 94, 3) := by decide +kernel
theorem dX4_removeSpan_54 : decode cX4_removeSpan 54 = .ok (.ireturn, 1) := by decide +kernel
theorem dX4_removeSpan_55 : decode cX4_removeSpan 55 = .ok (.bipush (-2), 2) := by decide +kernel
theorem dX4_removeSpan_57 : decode cX4_removeSpan 57 = .ok (.ireturn, 1) := by decide +kernel
theorem dX4_addTitle_0 : decode cX4_addTitle 0 = .ok (.aload_n 0, 1) := by decide +kernel
theorem dX4_addTitle_1 : decode cX4_addTitle 1 = .ok (.iload_n 2, 1) := by decide +kernel
theorem dX4_addTitle_2 : decode cX4_addTitle 2 = .ok (.invokevirtual 60, 3) := by decide +kernel
theorem dX4_addTitle_5 : decode cX4_addTitle 5 = .ok (.ifCond .ne 5, 3) := by decide +kernel
theorem dX4_addTitle_8 : decode cX4_addTitle 8 = .ok (.iconst (-1), 1) := by decide +kernel
theorem dX4_addTitle_9 : decode cX4_addTitle 9 = .ok (.ireturn, 1) := by decide +kernel
theorem dX4_addTitle_10 : decode cX4_addTitle 10 = .ok (.iload_n 1, 1) := by decide +kernel
theorem dX4_addTitle_11 : decode cX4_addTitle 11 = .ok (.iconst 0, 1) := by decide +kernel
theorem dX4_addTitle_12 : decode cX4_addTitle 12 = .ok (.iconst 2, 1) := by decide +kernel
theorem dX4_addTitle_13 : decode cX4_addTitle 13 = .ok (.invokestatic 68, 3) := by decide +kernel
theorem dX4_addTitle_16 : decode cX4_addTitle 16 = .ok (.ifCond .eq 28, 3) := by decide +kernel
theorem dX4_addTitle_19 : decode cX4_addTitle 19 = .ok (.iload_n 3, 1) := by decide +kernel
theorem dX4_addTitle_20 : decode cX4_addTitle 20 = .ok (.iconst 1, 1) := by decide +kernel
theorem dX4_addTitle_21 : decode cX4_addTitle 21 = .ok (.bipush 20, 2) := by decide +kernel
theorem dX4_addTitle_23 : decode cX4_addTitle 23 = .ok (.invokestatic 68, 3) := by decide +kernel
theorem dX4_addTitle_26 : decode cX4_addTitle 26 = .ok (.ifCond .eq 18, 3) := by decide +kernel
theorem dX4_addTitle_29 : decode cX4_addTitle 29 = .ok (.iload 4, 2) := by decide +kernel
theorem dX4_addTitle_31 : decode cX4_addTitle 31 = .ok (.iconst 1, 1) := by decide +kernel
theorem dX4_addTitle_32 : decode cX4_addTitle 32 = .ok (.bipush 80, 2) := by decide +kernel
theorem dX4_addTitle_34 : decode cX4_addTitle 34 = .ok (.invokestatic 68, 3) := by decide +kernel
theorem dX4_addTitle_37 : decode cX4_addTitle 37 = .ok (.ifCond .eq 7, 3) := by decide +kernel
theorem dX4_addTitle_40 : decode cX4_addTitle 40 = .ok (.iconst 1, 1) := by decide +kernel
theorem dX4_addTitle_41 : decode cX4_addTitle 41 = .ok (.goto 4, 3) := by decide +kernel
theorem dX4_addTitle_44 : decode cX4_addTitle 44 = .ok (.iconst 0, 1) := by decide +kernel
theorem dX4_addTitle_45 : decode cX4_addTitle 45 = .ok (.istore 5, 2) := by decide +kernel
theorem dX4_addTitle_47 : decode cX4_addTitle 47 = .ok (.iload 5, 2) := by decide +kernel
theorem dX4_addTitle_49 : decode cX4_addTitle 49 = .ok (.ifCond .eq 18, 3) := by decide +kernel
theorem dX4_addTitle_52 : decode cX4_addTitle 52 = .ok (.aload_n 0, 1) := by decide +kernel
theorem dX4_addTitle_53 : decode cX4_addTitle 53 = .ok (.getfield 43, 3) := by decide +kernel
theorem dX4_addTitle_56 : decode cX4_addTitle 56 = .ok (.iload_n 1, 1) := by decide +kernel
theorem dX4_addTitle_57 : decode cX4_addTitle 57 = .ok (.iload_n 2, 1) := by decide +kernel
theorem dX4_addTitle_58 : decode cX4_addTitle 58 = .ok (.iload_n 3, 1) := by decide +kernel
theorem dX4_addTitle_59 : decode cX4_addTitle 59 = .ok (.iload 4, 2) := by decide +kernel
theorem dX4_addTitle_61 : decode cX4_addTitle 61 = .ok (.invokevirtual 97, 3) := by decide +kernel
theorem dX4_addTitle_64 : decode cX4_addTitle 64 = .ok (.goto 5, 3) := by decide +kernel
theorem dX4_addTitle_67 : decode cX4_addTitle 67 = .ok (.bipush (-2), 2) := by decide +kernel
theorem dX4_addTitle_69 : decode cX4_addTitle 69 = .ok (.ireturn, 1) := by decide +kernel
theorem dX4_removeTitle_0 : decode cX4_removeTitle 0 = .ok (.aload_n 0, 1) := by decide +kernel
theorem dX4_removeTitle_1 : decode cX4_removeTitle 1 = .ok (.getfield 43, 3) := by decide +kernel
theorem dX4_removeTitle_4 : decode cX4_removeTitle 4 = .ok (.iload_n 1, 1) := by decide +kernel
theorem dX4_removeTitle_5 : decode cX4_removeTitle 5 = .ok (.invokevirtual 100, 3) := by decide +kernel
theorem dX4_removeTitle_8 : decode cX4_removeTitle 8 = .ok (.ireturn, 1) := by decide +kernel
theorem dX4_highestBarInUse_0 : decode cX4_highestBarInUse 0 = .ok (.aload_n 0, 1) := by decide +kernel
theorem dX4_highestBarInUse_1 : decode cX4_highestBarInUse 1 = .ok (.getfield 43, 3) := by decide +kernel
theorem dX4_highestBarInUse_4 : decode cX4_highestBarInUse 4 = .ok (.invokevirtual 101, 3) := by decide +kernel
theorem dX4_highestBarInUse_7 : decode cX4_highestBarInUse 7 = .ok (.aload_n 0, 1) := by decide +kernel
theorem dX4_highestBarInUse_8 : decode cX4_highestBarInUse 8 = .ok (.getfield 30, 3) := by decide +kernel
theorem dX4_highestBarInUse_11 : decode cX4_highestBarInUse 11 = .ok (.invokevirtual 104, 3) := by decide +kernel
theorem dX4_highestBarInUse_14 : decode cX4_highestBarInUse 14 = .ok (.aload_n 0, 1) := by decide +kernel
theorem dX4_highestBarInUse_15 : decode cX4_highestBarInUse 15 = .ok (.getfield 34, 3) := by decide +kernel
theorem dX4_highestBarInUse_18 : decode cX4_highestBarInUse 18 = .ok (.invokevirtual 104, 3) := by decide +kernel
theorem dX4_highestBarInUse_21 : decode cX4_highestBarInUse 21 = .ok (.invokestatic 107, 3) := by decide +kernel
theorem dX4_highestBarInUse_24 : decode cX4_highestBarInUse 24 = .ok (.invokestatic 107, 3) := by decide +kernel
theorem dX4_highestBarInUse_27 : decode cX4_highestBarInUse 27 = .ok (.ireturn, 1) := by decide +kernel
theorem dX5_init_0 : decode cX5_init 0 = .ok (.aload_n 0, 1) := by decide +kernel
theorem dX5_init_1 : decode cX5_init 1 = .ok (.invokespecial 3, 3) := by decide +kernel
theorem dX5_init_4 : decode cX5_init 4 = .ok (.aload_n 0, 1) := by decide +kernel
theorem dX5_init_5 : decode cX5_init 5 = .ok (.bipush 40, 2) := by decide +kernel
theorem dX5_init_7 : decode cX5_init 7 = .ok (.newarray .int, 2) := by decide +kernel
theorem dX5_init_9 : decode cX5_init 9 = .ok (.putfield 9, 3) := by decide +kernel
theorem dX5_init_12 : decode cX5_init 12 = .ok (.aload_n 0, 1) := by decide +kernel
theorem dX5_init_13 : decode cX5_init 13 = .ok (.bipush 40, 2) := by decide +kernel
theorem dX5_init_15 : decode cX5_init 15 = .ok (.newarray .int, 2) := by decide +kernel
theorem dX5_init_17 : decode cX5_init 17 = .ok (.putfield 15, 3) := by decide +kernel
theorem dX5_init_20 : decode cX5_init 20 = .ok (.aload_n 0, 1) := by decide +kernel
theorem dX5_init_21 : decode cX5_init 21 = .ok (.bipush 40, 2) := by decide +kernel
theorem dX5_init_23 : decode cX5_init 23 = .ok (.newarray .int, 2) := by decide +kernel
theorem dX5_init_25 : decode cX5_init 25 = .ok (.putfield 18, 3) := by decide +kernel
theorem dX5_init_28 : decode cX5_init 28 = .ok (.aload_n 0, 1) := by decide +kernel
theorem dX5_init_29 : decode cX5_init 29 = .ok (.bipush 40, 2) := by decide +kernel
theorem dX5_init_31 : decode cX5_init 31 = .ok (.newarray .int, 2) := by decide +kernel
theorem dX5_init_33 : decode cX5_init 33 = .ok (.putfield 21, 3) := by decide +kernel
theorem dX5_init_36 : decode cX5_init 36 = .ok (.aload_n 0, 1) := by decide +kernel
theorem dX5_init_37 : decode cX5_init 37 = .ok (.bipush 40, 2) := by decide +kernel
theorem dX5_init_39 : decode cX5_init 39 = .ok (.newarray .int, 2) := by decide +kernel
theorem dX5_init_41 : decode cX5_init 41 = .ok (.putfield 24, 3) := by decide +kernel
theorem dX5_init_44 : decode cX5_init 44 = .ok (.aload_n 0, 1) := by decide +kernel
theorem dX5_init_45 : decode cX5_init 45 = .ok (.bipush 40, 2) := by decide +kernel
theorem dX5_init_47 : decode cX5_init 47 = .ok (.newarray .int, 2) := by decide +kernel
theorem dX5_init_49 : decode cX5_init 49 = .ok (.putfield 27, 3) := by decide +kernel
theorem dX5_init_52 : decode cX5_init 52 = .ok (.aload_n 0, 1) := by decide +kernel
theorem dX5_init_53 : decode cX5_init 53 = .ok (.bipush 40, 2) := by decide +kernel
theorem dX5_init_55 : decode cX5_init 55 = .ok (.newarray .int, 2) := by decide +kernel
theorem dX5_init_57 : decode cX5_init 57 = .ok (.putfield 30, 3) := by decide +kernel
theorem dX5_init_60 : decode cX5_init 60 = .ok (.return_, 1) := by decide +kernel
theorem dX5_has_0 : decode cX5_has 0 = .ok (.iload_n 1, 1) := by decide +kernel
theorem dX5_has_1 : decode cX5_has 1 = .ok (.ifCond .lt 15, 3) := by decide +kernel
theorem dX5_has_4 : decode cX5_has 4 = .ok (.iload_n 1, 1) := by decide +kernel
theorem dX5_has_5 : decode cX5_has 5 = .ok (.aload_n 0, 1) := by decide +kernel
theorem dX5_has_6 : decode cX5_has 6 = .ok (.getfield 33, 3) := by decide +kernel
theorem dX5_has_9 : decode cX5_has 9 = .ok (.if_icmp .ge 7, 3) := by decide +kernel
theorem dX5_has_12 : decode cX5_has 12 = .ok (.iconst 1, 1) := by decide +kernel
theorem dX5_has_13 : decode cX5_has 13 = .ok (.goto 4, 3) := by decide +kernel
theorem dX5_has_16 : decode cX5_has 16 = .ok (.iconst 0, 1) := by decide +kernel
theorem dX5_has_17 : decode cX5_has 17 = .ok (.ireturn, 1) := by decide +kernel
theorem dX5_shows_0 : decode cX5_shows 0 = .ok (.aload_n 0, 1) := by decide +kernel
theorem dX5_shows_1 : decode cX5_shows 1 = .ok (.iload_n 1, 1) := by decide +kernel
theorem dX5_shows_2 : decode cX5_shows 2 = .ok (.invokevirtual 37, 3) := by decide +kernel
theorem dX5_shows_5 : decode cX5_shows 5 = .ok (.ifCond .eq 16, 3) := by decide +kernel
theorem dX5_shows_8 : decode cX5_shows 8 = .ok (.aload_n 0, 1) := by decide +kernel
theorem dX5_shows_9 : decode cX5_shows 9 = .ok (.getfield 24, 3) := by decide +kernel
theorem dX5_shows_12 : decode cX5_shows 12 = .ok (.iload_n 1, 1) := by decide +kernel
theorem dX5_shows_13 : decode cX5_shows 13 = .ok (.iaload, 1) := by decide +kernel
theorem dX5_shows_14 : decode cX5_shows 14 = .ok (.ifCond .ne 7, 3) := by decide +kernel
theorem dX5_shows_17 : decode cX5_shows 17 = .ok (.iconst 1, 1) := by decide +kernel
theorem dX5_shows_18 : decode cX5_shows 18 = .ok (.goto 4, 3) := by decide +kernel
theorem dX5_shows_21 : decode cX5_shows 21 = .ok (.iconst 0, 1) := by decide +kernel
theorem dX5_shows_22 : decode cX5_shows 22 = .ok (.ireturn, 1) := by decide +kernel
theorem dX5_add_0 : decode cX5_add 0 = .ok (.aload_n 0, 1) := by decide +kernel
theorem dX5_add_1 : decode cX5_add 1 = .ok (.getfield 33, 3) := by decide +kernel
theorem dX5_add_4 : decode cX5_add 4 = .ok (.bipush 40, 2) := by decide +kernel
theorem dX5_add_6 : decode cX5_add 6 = .ok (.if_icmp .lt 4, 3) := by decide +kernel
theorem dX5_add_9 : decode cX5_add 9 = .ok (.return_, 1) := by decide +kernel
theorem dX5_add_10 : decode cX5_add 10 = .ok (.aload_n 0, 1) := by decide +kernel
theorem dX5_add_11 : decode cX5_add 11 = .ok (.getfield 9, 3) := by decide +kernel
theorem dX5_add_14 : decode cX5_add 14 = .ok (.aload_n 0, 1) := by decide +kernel
theorem dX5_add_15 : decode cX5_add 15 = .ok (.getfield 33, 3) := by decide +kernel
theorem dX5_add_18 : decode cX5_add 18 = .ok (.iload_n 1, 1) := by decide +kernel
theorem dX5_add_19 : decode cX5_add 19 = .ok (.iastore, 1) := by decide +kernel
theorem dX5_add_20 : decode cX5_add 20 = .ok (.aload_n 0, 1) := by decide +kernel
theorem dX5_add_21 : decode cX5_add 21 = .ok (.getfield 15, 3) := by decide +kernel
theorem dX5_add_24 : decode cX5_add 24 = .ok (.aload_n 0, 1) := by decide +kernel
theorem dX5_add_25 : decode cX5_add 25 = .ok (.getfield 33, 3) := by decide +kernel
theorem dX5_add_28 : decode cX5_add 28 = .ok (.iload_n 2, 1) := by decide +kernel
theorem dX5_add_29 : decode cX5_add 29 = .ok (.iastore, 1) := by decide +kernel
theorem dX5_add_30 : decode cX5_add 30 = .ok (.aload_n 0, 1) := by decide +kernel
theorem dX5_add_31 : decode cX5_add 31 = .ok (.getfield 18, 3) := by decide +kernel
theorem dX5_add_34 : decode cX5_add 34 = .ok (.aload_n 0, 1) := by decide +kernel
theorem dX5_add_35 : decode cX5_add 35 = .ok (.getfield 33, 3) := by decide +kernel
theorem dX5_add_38 : decode cX5_add 38 = .ok (.iload_n 3, 1) := by decide +kernel
theorem dX5_add_39 : decode cX5_add 39 = .ok (.iastore, 1) := by decide +kernel
theorem dX5_add_40 : decode cX5_add 40 = .ok (.aload_n 0, 1) := by decide +kernel
theorem dX5_add_41 : decode cX5_add 41 = .ok (.getfield 21, 3) := by decide +kernel
theorem dX5_add_44 : decode cX5_add 44 = .ok (.aload_n 0, 1) := by decide +kernel
theorem dX5_add_45 : decode cX5_add 45 = .ok (.getfield 33, 3) := by decide +kernel
theorem dX5_add_48 : decode cX5_add 48 = .ok (.iload 4, 2) := by decide +kernel
theorem dX5_add_50 : decode cX5_add 50 = .ok (.iastore, 1) := by decide +kernel
theorem dX5_add_51 : decode cX5_add 51 = .ok (.aload_n 0, 1) := by decide +kernel
theorem dX5_add_52 : decode cX5_add 52 = .ok (.dup, 1) := by decide +kernel
theorem dX5_add_53 : decode cX5_add 53 = .ok (.getfield 33, 3) := by decide +kernel
theorem dX5_add_56 : decode cX5_add 56 = .ok (.iconst 1, 1) := by decide +kernel
theorem dX5_add_57 : decode cX5_add 57 = .ok (.iadd, 1) := by decide +kernel
theorem dX5_add_58 : decode cX5_add 58 = .ok (.putfield 33, 3) := by decide +kernel
theorem dX5_add_61 : decode cX5_add 61 = .ok (.return_, 1) := by decide +kernel
theorem dX5_lookAt_0 : decode cX5_lookAt 0 = .ok (.aload_n 0, 1) := by decide +kernel
theorem dX5_lookAt_1 : decode cX5_lookAt 1 = .ok (.getfield 18, 3) := by decide +kernel
theorem dX5_lookAt_4 : decode cX5_lookAt 4 = .ok (.iload_n 1, 1) := by decide +kernel
theorem dX5_lookAt_5 : decode cX5_lookAt 5 = .ok (.iaload, 1) := by decide +kernel
theorem dX5_lookAt_6 : decode cX5_lookAt 6 = .ok (.istore 5, 2) := by decide +kernel
theorem dX5_lookAt_8 : decode cX5_lookAt 8 = .ok (.aload_n 0, 1) := by decide +kernel
theorem dX5_lookAt_9 : decode cX5_lookAt 9 = .ok (.iload_n 2, 1) := by decide +kernel
theorem dX5_lookAt_10 : decode cX5_lookAt 10 = .ok (.invokevirtual 37, 3) := by decide +kernel
theorem dX5_lookAt_13 : decode cX5_lookAt 13 = .ok (.ifCond .eq 29, 3) := by decide +kernel
theorem dX5_lookAt_16 : decode cX5_lookAt 16 = .ok (.iload 5, 2) := by decide +kernel
theorem dX5_lookAt_18 : decode cX5_lookAt 18 = .ok (.iload_n 3, 1) := by decide +kernel
theorem dX5_lookAt_19 : decode cX5_lookAt 19 = .ok (.ifCond .eq 12, 3) := by decide +kernel
theorem dX5_lookAt_22 : decode cX5_lookAt 22 = .ok (.aload_n 0, 1) := by decide +kernel
theorem dX5_lookAt_23 : decode cX5_lookAt 23 = .ok (.getfield 30, 3) := by decide +kernel
theorem dX5_lookAt_26 : decode cX5_lookAt 26 = .ok (.iload_n 2, 1) := by decide +kernel
theorem dX5_lookAt_27 : decode cX5_lookAt 27 = .ok (.iaload, 1) := by decide +kernel
theorem dX5_lookAt_28 : decode cX5_lookAt 28 = .ok (.goto 9, 3) := by decide +kernel
theorem dX5_lookAt_31 : decode cX5_lookAt 31 = .ok (.aload_n 0, 1) := by decide +kernel
theorem dX5_lookAt_32 : decode cX5_lookAt 32 = .ok (.getfield 27, 3) := by decide +kernel
theorem dX5_lookAt_35 : decode cX5_lookAt 35 = .ok (.iload_n 2, 1) := by decide +kernel
theorem dX5_lookAt_36 : decode cX5_lookAt 36 = .ok (.iaload, 1) := by decide +kernel
theorem dX5_lookAt_37 : decode cX5_lookAt 37 = .ok (.invokestatic 41, 3) := by decide +kernel
theorem dX5_lookAt_40 : decode cX5_lookAt 40 = .ok (.istore 5, 2) := by decide +kernel
theorem dX5_lookAt_42 : decode cX5_lookAt 42 = .ok (.iload 5, 2) := by decide +kernel
theorem dX5_lookAt_44 : decode cX5_lookAt 44 = .ok (.aload_n 0, 1) := by decide +kernel
theorem dX5_lookAt_45 : decode cX5_lookAt 45 = .ok (.getfield 21, 3) := by decide +kernel
theorem dX5_lookAt_48 : decode cX5_lookAt 48 = .ok (.iload_n 1, 1) := by decide +kernel
theorem dX5_lookAt_49 : decode cX5_lookAt 49 = .ok (.iaload, 1) := by decide +kernel
theorem dX5_lookAt_50 : decode cX5_lookAt 50 = .ok (.invokestatic 41, 3) := by decide +kernel
theorem dX5_lookAt_53 : decode cX5_lookAt 53 = .ok (.istore 6, 2) := by decide +kernel
theorem dX5_lookAt_55 : decode cX5_lookAt 55 = .ok (.iload 6, 2) := by decide +kernel
theorem dX5_lookAt_57 : decode cX5_lookAt 57 = .ok (.iload 5, 2) := by decide +kernel
theorem dX5_lookAt_59 : decode cX5_lookAt 59 = .ok (.isub, 1) := by decide +kernel
theorem dX5_lookAt_60 : decode cX5_lookAt 60 = .ok (.iload 4, 2) := by decide +kernel
theorem dX5_lookAt_62 : decode cX5_lookAt 62 = .ok (.if_icmp .ge 11, 3) := by decide +kernel
theorem dX5_lookAt_65 : decode cX5_lookAt 65 = .ok (.aload_n 0, 1) := by decide +kernel
theorem dX5_lookAt_66 : decode cX5_lookAt 66 = .ok (.getfield 24, 3) := by decide +kernel
theorem dX5_lookAt_69 : decode cX5_lookAt 69 = .ok (.iload_n 1, 1) := by decide +kernel
theorem dX5_lookAt_70 : decode cX5_lookAt 70 = .ok (.iconst 2, 1) := by decide +kernel
theorem dX5_lookAt_71 : decode cX5_lookAt 71 = .ok (.iastore, 1) := by decide +kernel
theorem dX5_lookAt_72 : decode cX5_lookAt 72 = .ok (.return_, 1) := by decide +kernel
theorem dX5_lookAt_73 : decode cX5_lookAt 73 = .ok (.aload_n 0, 1) := by decide +kernel
theorem dX5_lookAt_74 : decode cX5_lookAt 74 = .ok (.iload_n 2, 1) := by decide +kernel
theorem dX5_lookAt_75 : decode cX5_lookAt 75 = .ok (.invokevirtual 37, 3) := by decide +kernel
theorem dX5_lookAt_78 : decode cX5_lookAt 78 = .ok (.ifCond .eq 20, 3) := by decide +kernel
theorem dX5_lookAt_81 : decode cX5_lookAt 81 = .ok (.aload_n 0, 1) := by decide +kernel
theorem dX5_lookAt_82 : decode cX5_lookAt 82 = .ok (.getfield 30, 3) := by decide +kernel
theorem dX5_lookAt_85 : decode cX5_lookAt 85 = .ok (.iload_n 2, 1) := by decide +kernel
theorem dX5_lookAt_86 : decode cX5_lookAt 86 = .ok (.aload_n 0, 1) := by decide +kernel
theorem dX5_lookAt_87 : decode cX5_lookAt 87 = .ok (.getfield 30, 3) := by decide +kernel
theorem dX5_lookAt_90 : decode cX5_lookAt 90 = .ok (.iload_n 2, 1) := by decide +kernel
theorem dX5_lookAt_91 : decode cX5_lookAt 91 = .ok (.iaload, 1) := by decide +kernel
theorem dX5_lookAt_92 : decode cX5_lookAt 92 = .ok (.iload 5, 2) := by decide +kernel
theorem dX5_lookAt_94 : decode cX5_lookAt 94 = .ok (.invokestatic 47, 3) := by decide +kernel
theorem dX5_lookAt_97 : decode cX5_lookAt 97 = .ok (.iastore, 1) := by decide +kernel
theorem dX5_lookAt_98 : decode cX5_lookAt 98 = .ok (.aload_n 0, 1) := by decide +kernel
theorem dX5_lookAt_99 : decode cX5_lookAt 99 = .ok (.getfield 24, 3) := by decide +kernel
theorem dX5_lookAt_102 : decode cX5_lookAt 102 = .ok (.iload_n 1, 1) := by decide +kernel
theorem dX5_lookAt_103 : decode cX5_lookAt 103 = .ok (.iconst 0, 1) := by decide +kernel
theorem dX5_lookAt_104 : decode cX5_lookAt 104 = .ok (.iastore, 1) := by decide +kernel
theorem dX5_lookAt_105 : decode cX5_lookAt 105 = .ok (.aload_n 0, 1) := by decide +kernel
theorem dX5_lookAt_106 : decode cX5_lookAt 106 = .ok (.getfield 27, 3) := by decide +kernel
theorem dX5_lookAt_109 : decode cX5_lookAt 109 = .ok (.iload_n 1, 1) := by decide +kernel
theorem dX5_lookAt_110 : decode cX5_lookAt 110 = .ok (.iload 5, 2) := by decide +kernel
theorem dX5_lookAt_112 : decode cX5_lookAt 112 = .ok (.iastore, 1) := by decide +kernel
theorem dX5_lookAt_113 : decode cX5_lookAt 113 = .ok (.aload_n 0, 1) := by decide +kernel
theorem dX5_lookAt_114 : decode cX5_lookAt 114 = .ok (.getfield 30, 3) := by decide +kernel
theorem dX5_lookAt_117 : decode cX5_lookAt 117 = .ok (.iload_n 1, 1) := by decide +kernel
theorem dX5_lookAt_118 : decode cX5_lookAt 118 = .ok (.iload 6, 2) := by decide +kernel
theorem dX5_lookAt_120 : decode cX5_lookAt 120 = .ok (.iastore, 1) := by decide +kernel
theorem dX5_lookAt_121 : decode cX5_lookAt 121 = .ok (.return_, 1) := by decide +kernel
theorem dX5_titleAt_0 : decode cX5_titleAt 0 = .ok (.iconst 0, 1) := by decide +kernel
theorem dX5_titleAt_1 : decode cX5_titleAt 1 = .ok (.istore_n 2, 1) := by decide +kernel
theorem dX5_titleAt_2 : decode cX5_titleAt 2 = .ok (.iload_n 2, 1) := by decide +kernel
theorem dX5_titleAt_3 : decode cX5_titleAt 3 = .ok (.aload_n 0, 1) := by decide +kernel
theorem dX5_titleAt_4 : decode cX5_titleAt 4 = .ok (.getfield 33, 3) := by decide +kernel
theorem dX5_titleAt_7 : decode cX5_titleAt 7 = .ok (.if_icmp .ge 45, 3) := by decide +kernel
theorem dX5_titleAt_10 : decode cX5_titleAt 10 = .ok (.aload_n 0, 1) := by decide +kernel
theorem dX5_titleAt_11 : decode cX5_titleAt 11 = .ok (.getfield 24, 3) := by decide +kernel
theorem dX5_titleAt_14 : decode cX5_titleAt 14 = .ok (.iload_n 2, 1) := by decide +kernel
theorem dX5_titleAt_15 : decode cX5_titleAt 15 = .ok (.iaload, 1) := by decide +kernel
theorem dX5_titleAt_16 : decode cX5_titleAt 16 = .ok (.ifCond .ne 30, 3) := by decide +kernel
theorem dX5_titleAt_19 : decode cX5_titleAt 19 = .ok (.aload_n 0, 1) := by decide +kernel
theorem dX5_titleAt_20 : decode cX5_titleAt 20 = .ok (.getfield 27, 3) := by decide +kernel
theorem dX5_titleAt_23 : decode cX5_titleAt 23 = .ok (.iload_n 2, 1) := by decide +kernel
theorem dX5_titleAt_24 : decode cX5_titleAt 24 = .ok (.iaload, 1) := by decide +kernel
theorem dX5_titleAt_25 : decode cX5_titleAt 25 = .ok (.iload_n 1, 1) := by decide +kernel
theorem dX5_titleAt_26 : decode cX5_titleAt 26 = .ok (.if_icmp .gt 20, 3) := by decide +kernel
theorem dX5_titleAt_29 : decode cX5_titleAt 29 = .ok (.iload_n 1, 1) := by decide +kernel
theorem dX5_titleAt_30 : decode cX5_titleAt 30 = .ok (.aload_n 0, 1) := by decide +kernel
theorem dX5_titleAt_31 : decode cX5_titleAt 31 = .ok (.getfield 30, 3) := by decide +kernel
theorem dX5_titleAt_34 : decode cX5_titleAt 34 = .ok (.iload_n 2, 1) := by decide +kernel
theorem dX5_titleAt_35 : decode cX5_titleAt 35 = .ok (.iaload, 1) := by decide +kernel
theorem dX5_titleAt_36 : decode cX5_titleAt 36 = .ok (.if_icmp .ge 10, 3) := by decide +kernel
theorem dX5_titleAt_39 : decode cX5_titleAt 39 = .ok (.aload_n 0, 1) := by decide +kernel
theorem dX5_titleAt_40 : decode cX5_titleAt 40 = .ok (.getfield 9, 3) := by decide +kernel
theorem dX5_titleAt_43 : decode cX5_titleAt 43 = .ok (.iload_n 2, 1) := by decide +kernel
theorem dX5_titleAt_44 : decode cX5_titleAt 44 = .ok (.iaload, 1) := by decide +kernel
theorem dX5_titleAt_45 : decode cX5_titleAt 45 = .ok (.ireturn, 1) := by decide +kernel
theorem dX5_titleAt_46 : decode cX5_titleAt 46 = .ok (.iinc 2 1, 3) := by decide +kernel
theorem dX5_titleAt_49 : decode cX5_titleAt 49 = .ok (.goto (-47), 3) := by decide +kernel
theorem dX5_titleAt_52 : decode cX5_titleAt 52 = .ok (.bipush (-6), 2) := by decide +kernel
theorem dX5_titleAt_54 : decode cX5_titleAt 54 = .ok (.ireturn, 1) := by decide +kernel
theorem dX5_countWith_0 : decode cX5_countWith 0 = .ok (.iconst 0, 1) := by decide +kernel
theorem dX5_countWith_1 : decode cX5_countWith 1 = .ok (.istore_n 2, 1) := by decide +kernel
theorem dX5_countWith_2 : decode cX5_countWith 2 = .ok (.iconst 0, 1) := by decide +kernel
theorem dX5_countWith_3 : decode cX5_countWith 3 = .ok (.istore_n 3, 1) := by decide +kernel
theorem dX5_countWith_4 : decode cX5_countWith 4 = .ok (.iload_n 3, 1) := by decide +kernel
theorem dX5_countWith_5 : decode cX5_countWith 5 = .ok (.aload_n 0, 1) := by decide +kernel
theorem dX5_countWith_6 : decode cX5_countWith 6 = .ok (.getfield 33, 3) := by decide +kernel
theorem dX5_countWith_9 : decode cX5_countWith 9 = .ok (.if_icmp .ge 22, 3) := by decide +kernel
theorem dX5_countWith_12 : decode cX5_countWith 12 = .ok (.aload_n 0, 1) := by decide +kernel
theorem dX5_countWith_13 : decode cX5_countWith 13 = .ok (.getfield 24, 3) := by decide +kernel
theorem dX5_countWith_16 : decode cX5_countWith 16 = .ok (.iload_n 3, 1) := by decide +kernel
theorem dX5_countWith_17 : decode cX5_countWith 17 = .ok (.iaload, 1) := by decide +kernel
theorem dX5_countWith_18 : decode cX5_countWith 18 = .ok (.iload_n 1, 1) := by decide +kernel
theorem dX5_countWith_19 : decode cX5_countWith 19 = .ok (.if_icmp .ne 6, 3) := by decide +kernel
theorem dX5_countWith_22 : decode cX5_countWith 22 = .ok (.iinc 2 1, 3) := by decide +kernel
theorem dX5_countWith_25 : decode cX5_countWith 25 = .ok (.iinc 3 1, 3) := by decide +kernel
theorem dX5_countWith_28 : decode cX5_countWith 28 = .ok (.goto (-24), 3) := by decide +kernel
theorem dX5_countWith_31 : decode cX5_countWith 31 = .ok (.iload_n 2, 1) := by decide +kernel
theorem dX5_countWith_32 : decode cX5_countWith 32 = .ok (.ireturn, 1) := by decide +kernel
theorem dX5_countOf_0 : decode cX5_countOf 0 = .ok (.iconst 0, 1) := by decide +kernel
theorem dX5_countOf_1 : decode cX5_countOf 1 = .ok (.istore_n 2, 1) := by decide +kernel
theorem dX5_countOf_2 : decode cX5_countOf 2 = .ok (.iconst 0, 1) := by decide +kernel
theorem dX5_countOf_3 : decode cX5_countOf 3 = .ok (.istore_n 3, 1) := by decide +kernel
theorem dX5_countOf_4 : decode cX5_countOf 4 = .ok (.iload_n 3, 1) := by decide +kernel
theorem dX5_countOf_5 : decode cX5_countOf 5 = .ok (.aload_n 0, 1) := by decide +kernel
theorem dX5_countOf_6 : decode cX5_countOf 6 = .ok (.getfield 33, 3) := by decide +kernel
theorem dX5_countOf_9 : decode cX5_countOf 9 = .ok (.if_icmp .ge 22, 3) := by decide +kernel
theorem dX5_countOf_12 : decode cX5_countOf 12 = .ok (.aload_n 0, 1) := by decide +kernel
theorem dX5_countOf_13 : decode cX5_countOf 13 = .ok (.getfield 9, 3) := by decide +kernel
theorem dX5_countOf_16 : decode cX5_countOf 16 = .ok (.iload_n 3, 1) := by decide +kernel
theorem dX5_countOf_17 : decode cX5_countOf 17 = .ok (.iaload, 1) := by decide +kernel
theorem dX5_countOf_18 : decode cX5_countOf 18 = .ok (.iload_n 1, 1) := by decide +kernel
theorem dX5_countOf_19 : decode cX5_countOf 19 = .ok (.if_icmp .ne 6, 3) := by decide +kernel
theorem dX5_countOf_22 : decode cX5_countOf 22 = .ok (.iinc 2 1, 3) := by decide +kernel
theorem dX5_countOf_25 : decode cX5_countOf 25 = .ok (.iinc 3 1, 3) := by decide +kernel
theorem dX5_countOf_28 : decode cX5_countOf 28 = .ok (.goto (-24), 3) := by decide +kernel
theorem dX5_countOf_31 : decode cX5_countOf 31 = .ok (.iload_n 2, 1) := by decide +kernel
theorem dX5_countOf_32 : decode cX5_countOf 32 = .ok (.ireturn, 1) := by decide +kernel
theorem dX5_countShownOf_0 : decode cX5_countShownOf 0 = .ok (.iconst 0, 1) := by decide +kernel
theorem dX5_countShownOf_1 : decode cX5_countShownOf 1 = .ok (.istore_n 2, 1) := by decide +kernel
theorem dX5_countShownOf_2 : decode cX5_countShownOf 2 = .ok (.iconst 0, 1) := by decide +kernel
theorem dX5_countShownOf_3 : decode cX5_countShownOf 3 = .ok (.istore_n 3, 1) := by decide +kernel
theorem dX5_countShownOf_4 : decode cX5_countShownOf 4 = .ok (.iload_n 3, 1) := by decide +kernel
theorem dX5_countShownOf_5 : decode cX5_countShownOf 5 = .ok (.aload_n 0, 1) := by decide +kernel
theorem dX5_countShownOf_6 : decode cX5_countShownOf 6 = .ok (.getfield 33, 3) := by decide +kernel
theorem dX5_countShownOf_9 : decode cX5_countShownOf 9 = .ok (.if_icmp .ge 31, 3) := by decide +kernel
theorem dX5_countShownOf_12 : decode cX5_countShownOf 12 = .ok (.aload_n 0, 1) := by decide +kernel
theorem dX5_countShownOf_13 : decode cX5_countShownOf 13 = .ok (.getfield 9, 3) := by decide +kernel
theorem dX5_countShownOf_16 : decode cX5_countShownOf 16 = .ok (.iload_n 3, 1) := by decide +kernel
theorem dX5_countShownOf_17 : decode cX5_countShownOf 17 = .ok (.iaload, 1) := by decide +kernel
theorem dX5_countShownOf_18 : decode cX5_countShownOf 18 = .ok (.iload_n 1, 1) := by decide +kernel
theorem dX5_countShownOf_19 : decode cX5_countShownOf 19 = .ok (.if_icmp .ne 15, 3) := by decide +kernel
theorem dX5_countShownOf_22 : decode cX5_countShownOf 22 = .ok (.aload_n 0, 1) := by decide +kernel
theorem dX5_countShownOf_23 : decode cX5_countShownOf 23 = .ok (.getfield 24, 3) := by decide +kernel
theorem dX5_countShownOf_26 : decode cX5_countShownOf 26 = .ok (.iload_n 3, 1) := by decide +kernel
theorem dX5_countShownOf_27 : decode cX5_countShownOf 27 = .ok (.iaload, 1) := by decide +kernel
theorem dX5_countShownOf_28 : decode cX5_countShownOf 28 = .ok (.ifCond .ne 6, 3) := by decide +kernel
theorem dX5_countShownOf_31 : decode cX5_countShownOf 31 = .ok (.iinc 2 1, 3) := by decide +kernel
theorem dX5_countShownOf_34 : decode cX5_countShownOf 34 = .ok (.iinc 3 1, 3) := by decide +kernel
theorem dX5_countShownOf_37 : decode cX5_countShownOf 37 = .ok (.goto (-33), 3) := by decide +kernel
theorem dX5_countShownOf_40 : decode cX5_countShownOf 40 = .ok (.iload_n 2, 1) := by decide +kernel
theorem dX5_countShownOf_41 : decode cX5_countShownOf 41 = .ok (.ireturn, 1) := by decide +kernel
theorem dX5_tenthsOf_0 : decode cX5_tenthsOf 0 = .ok (.iconst 0, 1) := by decide +kernel
theorem dX5_tenthsOf_1 : decode cX5_tenthsOf 1 = .ok (.istore_n 2, 1) := by decide +kernel
theorem dX5_tenthsOf_2 : decode cX5_tenthsOf 2 = .ok (.iconst 0, 1) := by decide +kernel
theorem dX5_tenthsOf_3 : decode cX5_tenthsOf 3 = .ok (.istore_n 3, 1) := by decide +kernel
theorem dX5_tenthsOf_4 : decode cX5_tenthsOf 4 = .ok (.iload_n 3, 1) := by decide +kernel
theorem dX5_tenthsOf_5 : decode cX5_tenthsOf 5 = .ok (.aload_n 0, 1) := by decide +kernel
theorem dX5_tenthsOf_6 : decode cX5_tenthsOf 6 = .ok (.getfield 33, 3) := by decide +kernel
theorem dX5_tenthsOf_9 : decode cX5_tenthsOf 9 = .ok (.if_icmp .ge 27, 3) := by decide +kernel
theorem dX5_tenthsOf_12 : decode cX5_tenthsOf 12 = .ok (.aload_n 0, 1) := by decide +kernel
theorem dX5_tenthsOf_13 : decode cX5_tenthsOf 13 = .ok (.getfield 9, 3) := by decide +kernel
theorem dX5_tenthsOf_16 : decode cX5_tenthsOf 16 = .ok (.iload_n 3, 1) := by decide +kernel
theorem dX5_tenthsOf_17 : decode cX5_tenthsOf 17 = .ok (.iaload, 1) := by decide +kernel
theorem dX5_tenthsOf_18 : decode cX5_tenthsOf 18 = .ok (.iload_n 1, 1) := by decide +kernel
theorem dX5_tenthsOf_19 : decode cX5_tenthsOf 19 = .ok (.if_icmp .ne 11, 3) := by decide +kernel
theorem dX5_tenthsOf_22 : decode cX5_tenthsOf 22 = .ok (.iload_n 2, 1) := by decide +kernel
theorem dX5_tenthsOf_23 : decode cX5_tenthsOf 23 = .ok (.aload_n 0, 1) := by decide +kernel
theorem dX5_tenthsOf_24 : decode cX5_tenthsOf 24 = .ok (.iload_n 3, 1) := by decide +kernel
theorem dX5_tenthsOf_25 : decode cX5_tenthsOf 25 = .ok (.invokevirtual 50, 3) := by decide +kernel
theorem dX5_tenthsOf_28 : decode cX5_tenthsOf 28 = .ok (.iadd, 1) := by decide +kernel
theorem dX5_tenthsOf_29 : decode cX5_tenthsOf 29 = .ok (.istore_n 2, 1) := by decide +kernel
theorem dX5_tenthsOf_30 : decode cX5_tenthsOf 30 = .ok (.iinc 3 1, 3) := by decide +kernel
theorem dX5_tenthsOf_33 : decode cX5_tenthsOf 33 = .ok (.goto (-29), 3) := by decide +kernel
theorem dX5_tenthsOf_36 : decode cX5_tenthsOf 36 = .ok (.iload_n 2, 1) := by decide +kernel
theorem dX5_tenthsOf_37 : decode cX5_tenthsOf 37 = .ok (.ireturn, 1) := by decide +kernel
theorem dX5_tenthsOfAll_0 : decode cX5_tenthsOfAll 0 = .ok (.iconst 0, 1) := by decide +kernel
theorem dX5_tenthsOfAll_1 : decode cX5_tenthsOfAll 1 = .ok (.istore_n 1, 1) := by decide +kernel
theorem dX5_tenthsOfAll_2 : decode cX5_tenthsOfAll 2 = .ok (.iconst 0, 1) := by decide +kernel
theorem dX5_tenthsOfAll_3 : decode cX5_tenthsOfAll 3 = .ok (.istore_n 2, 1) := by decide +kernel
theorem dX5_tenthsOfAll_4 : decode cX5_tenthsOfAll 4 = .ok (.iload_n 2, 1) := by decide +kernel
theorem dX5_tenthsOfAll_5 : decode cX5_tenthsOfAll 5 = .ok (.aload_n 0, 1) := by decide +kernel
theorem dX5_tenthsOfAll_6 : decode cX5_tenthsOfAll 6 = .ok (.getfield 33, 3) := by decide +kernel
theorem dX5_tenthsOfAll_9 : decode cX5_tenthsOfAll 9 = .ok (.if_icmp .ge 17, 3) := by decide +kernel
theorem dX5_tenthsOfAll_12 : decode cX5_tenthsOfAll 12 = .ok (.iload_n 1, 1) := by decide +kernel
theorem dX5_tenthsOfAll_13 : decode cX5_tenthsOfAll 13 = .ok (.aload_n 0, 1) := by decide +kernel
theorem dX5_tenthsOfAll_14 : decode cX5_tenthsOfAll 14 = .ok (.iload_n 2, 1) := by decide +kernel
theorem dX5_tenthsOfAll_15 : decode cX5_tenthsOfAll 15 = .ok (.invokevirtual 50, 3) := by decide +kernel
theorem dX5_tenthsOfAll_18 : decode cX5_tenthsOfAll 18 = .ok (.iadd, 1) := by decide +kernel
theorem dX5_tenthsOfAll_19 : decode cX5_tenthsOfAll 19 = .ok (.istore_n 1, 1) := by decide +kernel
theorem dX5_tenthsOfAll_20 : decode cX5_tenthsOfAll 20 = .ok (.iinc 2 1, 3) := by decide +kernel
theorem dX5_tenthsOfAll_23 : decode cX5_tenthsOfAll 23 = .ok (.goto (-19), 3) := by decide +kernel
theorem dX5_tenthsOfAll_26 : decode cX5_tenthsOfAll 26 = .ok (.iload_n 1, 1) := by decide +kernel
theorem dX5_tenthsOfAll_27 : decode cX5_tenthsOfAll 27 = .ok (.ireturn, 1) := by decide +kernel
theorem dX5_shownTenths_0 : decode cX5_shownTenths 0 = .ok (.aload_n 0, 1) := by decide +kernel
theorem dX5_shownTenths_1 : decode cX5_shownTenths 1 = .ok (.iload_n 1, 1) := by decide +kernel
theorem dX5_shownTenths_2 : decode cX5_shownTenths 2 = .ok (.invokevirtual 54, 3) := by decide +kernel
theorem dX5_shownTenths_5 : decode cX5_shownTenths 5 = .ok (.ifCond .eq 19, 3) := by decide +kernel
theorem dX5_shownTenths_8 : decode cX5_shownTenths 8 = .ok (.aload_n 0, 1) := by decide +kernel
theorem dX5_shownTenths_9 : decode cX5_shownTenths 9 = .ok (.getfield 30, 3) := by decide +kernel
theorem dX5_shownTenths_12 : decode cX5_shownTenths 12 = .ok (.iload_n 1, 1) := by decide +kernel
theorem dX5_shownTenths_13 : decode cX5_shownTenths 13 = .ok (.iaload, 1) := by decide +kernel
theorem dX5_shownTenths_14 : decode cX5_shownTenths 14 = .ok (.aload_n 0, 1) := by decide +kernel
theorem dX5_shownTenths_15 : decode cX5_shownTenths 15 = .ok (.getfield 27, 3) := by decide +kernel
theorem dX5_shownTenths_18 : decode cX5_shownTenths 18 = .ok (.iload_n 1, 1) := by decide +kernel
theorem dX5_shownTenths_19 : decode cX5_shownTenths 19 = .ok (.iaload, 1) := by decide +kernel
theorem dX5_shownTenths_20 : decode cX5_shownTenths 20 = .ok (.isub, 1) := by decide +kernel
theorem dX5_shownTenths_21 : decode cX5_shownTenths 21 = .ok (.goto 4, 3) := by decide +kernel
theorem dX5_shownTenths_24 : decode cX5_shownTenths 24 = .ok (.iconst 0, 1) := by decide +kernel
theorem dX5_shownTenths_25 : decode cX5_shownTenths 25 = .ok (.ireturn, 1) := by decide +kernel
theorem dX6_init_0 : decode cX6_init 0 = .ok (.aload_n 0, 1) := by decide +kernel
theorem dX6_init_1 : decode cX6_init 1 = .ok (.invokespecial 3, 3) := by decide +kernel
theorem dX6_init_4 : decode cX6_init 4 = .ok (.aload_n 0, 1) := by decide +kernel
theorem dX6_init_5 : decode cX6_init 5 = .ok (.iload_n 1, 1) := by decide +kernel
theorem dX6_init_6 : decode cX6_init 6 = .ok (.newarray .int, 2) := by decide +kernel
theorem dX6_init_8 : decode cX6_init 8 = .ok (.putfield 9, 3) := by decide +kernel
theorem dX6_init_11 : decode cX6_init 11 = .ok (.aload_n 0, 1) := by decide +kernel
theorem dX6_init_12 : decode cX6_init 12 = .ok (.iload_n 1, 1) := by decide +kernel
theorem dX6_init_13 : decode cX6_init 13 = .ok (.newarray .int, 2) := by decide +kernel
theorem dX6_init_15 : decode cX6_init 15 = .ok (.putfield 15, 3) := by decide +kernel
theorem dX6_init_18 : decode cX6_init 18 = .ok (.return_, 1) := by decide +kernel
theorem dX6_copyFrom_0 : decode cX6_copyFrom 0 = .ok (.aload_n 0, 1) := by decide +kernel
theorem dX6_copyFrom_1 : decode cX6_copyFrom 1 = .ok (.getfield 9, 3) := by decide +kernel
theorem dX6_copyFrom_4 : decode cX6_copyFrom 4 = .ok (.arraylength, 1) := by decide +kernel
theorem dX6_copyFrom_5 : decode cX6_copyFrom 5 = .ok (.aload_n 1, 1) := by decide +kernel
theorem dX6_copyFrom_6 : decode cX6_copyFrom 6 = .ok (.getfield 9, 3) := by decide +kernel
theorem dX6_copyFrom_9 : decode cX6_copyFrom 9 = .ok (.arraylength, 1) := by decide +kernel
theorem dX6_copyFrom_10 : decode cX6_copyFrom 10 = .ok (.invokestatic 18, 3) := by decide +kernel
theorem dX6_copyFrom_13 : decode cX6_copyFrom 13 = .ok (.istore_n 2, 1) := by decide +kernel
theorem dX6_copyFrom_14 : decode cX6_copyFrom 14 = .ok (.aload_n 0, 1) := by decide +kernel
theorem dX6_copyFrom_15 : decode cX6_copyFrom 15 = .ok (.aload_n 1, 1) := by decide +kernel
theorem dX6_copyFrom_16 : decode cX6_copyFrom 16 = .ok (.getfield 24, 3) := by decide +kernel
theorem dX6_copyFrom_19 : decode cX6_copyFrom 19 = .ok (.iload_n 2, 1) := by decide +kernel
theorem dX6_copyFrom_20 : decode cX6_copyFrom 20 = .ok (.invokestatic 18, 3) := by decide +kernel
theorem dX6_copyFrom_23 : decode cX6_copyFrom 23 = .ok (.putfield 24, 3) := by decide +kernel
theorem dX6_copyFrom_26 : decode cX6_copyFrom 26 = .ok (.aload_n 1, 1) := by decide +kernel
theorem dX6_copyFrom_27 : decode cX6_copyFrom 27 = .ok (.getfield 9, 3) := by decide +kernel
theorem dX6_copyFrom_30 : decode cX6_copyFrom 30 = .ok (.iconst 0, 1) := by decide +kernel
theorem dX6_copyFrom_31 : decode cX6_copyFrom 31 = .ok (.aload_n 0, 1) := by decide +kernel
theorem dX6_copyFrom_32 : decode cX6_copyFrom 32 = .ok (.getfield 9, 3) := by decide +kernel
theorem dX6_copyFrom_35 : decode cX6_copyFrom 35 = .ok (.iconst 0, 1) := by decide +kernel
theorem dX6_copyFrom_36 : decode cX6_copyFrom 36 = .ok (.iload_n 2, 1) := by decide +kernel
theorem dX6_copyFrom_37 : decode cX6_copyFrom 37 = .ok (.invokestatic 28, 3) := by decide +kernel
theorem dX6_copyFrom_40 : decode cX6_copyFrom 40 = .ok (.aload_n 1, 1) := by decide +kernel
theorem dX6_copyFrom_41 : decode cX6_copyFrom 41 = .ok (.getfield 15, 3) := by decide +kernel
theorem dX6_copyFrom_44 : decode cX6_copyFrom 44 = .ok (.iconst 0, 1) := by decide +kernel
theorem dX6_copyFrom_45 : decode cX6_copyFrom 45 = .ok (.aload_n 0, 1) := by decide +kernel
theorem dX6_copyFrom_46 : decode cX6_copyFrom 46 = .ok (.getfield 15, 3) := by decide +kernel
theorem dX6_copyFrom_49 : decode cX6_copyFrom 49 = .ok (.iconst 0, 1) := by decide +kernel
theorem dX6_copyFrom_50 : decode cX6_copyFrom 50 = .ok (.iload_n 2, 1) := by decide +kernel
theorem dX6_copyFrom_51 : decode cX6_copyFrom 51 = .ok (.invokestatic 28, 3) := by decide +kernel
theorem dX6_copyFrom_54 : decode cX6_copyFrom 54 = .ok (.return_, 1) := by decide +kernel
theorem dX6_isFull_0 : decode cX6_isFull 0 = .ok (.aload_n 0, 1) := by decide +kernel
theorem dX6_isFull_1 : decode cX6_isFull 1 = .ok (.getfield 24, 3) := by decide +kernel
theorem dX6_isFull_4 : decode cX6_isFull 4 = .ok (.aload_n 0, 1) := by decide +kernel
theorem dX6_isFull_5 : decode cX6_isFull 5 = .ok (.getfield 9, 3) := by decide +kernel
theorem dX6_isFull_8 : decode cX6_isFull 8 = .ok (.arraylength, 1) := by decide +kernel
theorem dX6_isFull_9 : decode cX6_isFull 9 = .ok (.if_icmp .lt 7, 3) := by decide +kernel
theorem dX6_isFull_12 : decode cX6_isFull 12 = .ok (.iconst 1, 1) := by decide +kernel
theorem dX6_isFull_13 : decode cX6_isFull 13 = .ok (.goto 4, 3) := by decide +kernel
theorem dX6_isFull_16 : decode cX6_isFull 16 = .ok (.iconst 0, 1) := by decide +kernel
theorem dX6_isFull_17 : decode cX6_isFull 17 = .ok (.ireturn, 1) := by decide +kernel
theorem dX6_add_0 : decode cX6_add 0 = .ok (.aload_n 0, 1) := by decide +kernel
theorem dX6_add_1 : decode cX6_add 1 = .ok (.invokevirtual 34, 3) := by decide +kernel
theorem dX6_add_4 : decode cX6_add 4 = .ok (.ifCond .eq 6, 3) := by decide +kernel
theorem dX6_add_7 : decode cX6_add 7 = .ok (.bipush (-4), 2) := by decide +kernel
theorem dX6_add_9 : decode cX6_add 9 = .ok (.ireturn, 1) := by decide +kernel
theorem dX6_add_10 : decode cX6_add 10 = .ok (.aload_n 0, 1) := by decide +kernel
theorem dX6_add_11 : decode cX6_add 11 = .ok (.getfield 9, 3) := by decide +kernel
theorem dX6_add_14 : decode cX6_add 14 = .ok (.aload_n 0, 1) := by decide +kernel
theorem dX6_add_15 : decode cX6_add 15 = .ok (.getfield 24, 3) := by decide +kernel
theorem dX6_add_18 : decode cX6_add 18 = .ok (.iload_n 1, 1) := by decide +kernel
theorem dX6_add_19 : decode cX6_add 19 = .ok (.iastore, 1) := by decide +kernel
theorem dX6_add_20 : decode cX6_add 20 = .ok (.aload_n 0, 1) := by decide +kernel
theorem dX6_add_21 : decode cX6_add 21 = .ok (.getfield 15, 3) := by decide +kernel
theorem dX6_add_24 : decode cX6_add 24 = .ok (.aload_n 0, 1) := by decide +kernel
theorem dX6_add_25 : decode cX6_add 25 = .ok (.getfield 24, 3) := by decide +kernel
theorem dX6_add_28 : decode cX6_add 28 = .ok (.iload_n 2, 1) := by decide +kernel
theorem dX6_add_29 : decode cX6_add 29 = .ok (.iastore, 1) := by decide +kernel
theorem dX6_add_30 : decode cX6_add 30 = .ok (.aload_n 0, 1) := by decide +kernel
theorem dX6_add_31 : decode cX6_add 31 = .ok (.dup, 1) := by decide +kernel
theorem dX6_add_32 : decode cX6_add 32 = .ok (.getfield 24, 3) := by decide +kernel
theorem dX6_add_35 : decode cX6_add 35 = .ok (.iconst 1, 1) := by decide +kernel
theorem dX6_add_36 : decode cX6_add 36 = .ok (.iadd, 1) := by decide +kernel
theorem dX6_add_37 : decode cX6_add 37 = .ok (.putfield 24, 3) := by decide +kernel
theorem dX6_add_40 : decode cX6_add 40 = .ok (.aload_n 0, 1) := by decide +kernel
theorem dX6_add_41 : decode cX6_add 41 = .ok (.getfield 24, 3) := by decide +kernel
theorem dX6_add_44 : decode cX6_add 44 = .ok (.iconst 1, 1) := by decide +kernel
theorem dX6_add_45 : decode cX6_add 45 = .ok (.isub, 1) := by decide +kernel
theorem dX6_add_46 : decode cX6_add 46 = .ok (.ireturn, 1) := by decide +kernel
theorem dX6_remove_0 : decode cX6_remove 0 = .ok (.iload_n 1, 1) := by decide +kernel
theorem dX6_remove_1 : decode cX6_remove 1 = .ok (.ifCond .lt 11, 3) := by decide +kernel
theorem dX6_remove_4 : decode cX6_remove 4 = .ok (.iload_n 1, 1) := by decide +kernel
theorem dX6_remove_5 : decode cX6_remove 5 = .ok (.aload_n 0, 1) := by decide +kernel
theorem dX6_remove_6 : decode cX6_remove 6 = .ok (.getfield 24, 3) := by decide +kernel
theorem dX6_remove_9 : decode cX6_remove 9 = .ok (.if_icmp .lt 5, 3) := by decide +kernel
theorem dX6_remove_12 : decode cX6_remove 12 = .ok (.iconst (-1), 1) := by decide +kernel
theorem dX6_remove_13 : decode cX6_remove 13 = .ok (.ireturn, 1) := by decide +kernel
theorem dX6_remove_14 : decode cX6_remove 14 = .ok (.iload_n 1, 1) := by decide +kernel
theorem dX6_remove_15 : decode cX6_remove 15 = .ok (.iconst 1, 1) := by decide +kernel
theorem dX6_remove_16 : decode cX6_remove 16 = .ok (.iadd, 1) := by decide +kernel
theorem dX6_remove_17 : decode cX6_remove 17 = .ok (.istore_n 2, 1) := by decide +kernel
theorem dX6_remove_18 : decode cX6_remove 18 = .ok (.iload_n 2, 1) := by decide +kernel
theorem dX6_remove_19 : decode cX6_remove 19 = .ok (.aload_n 0, 1) := by decide +kernel
theorem dX6_remove_20 : decode cX6_remove 20 = .ok (.getfield 24, 3) := by decide +kernel
theorem dX6_remove_23 : decode cX6_remove 23 = .ok (.if_icmp .ge 37, 3) := by decide +kernel
theorem dX6_remove_26 : decode cX6_remove 26 = .ok (.aload_n 0, 1) := by decide +kernel
theorem dX6_remove_27 : decode cX6_remove 27 = .ok (.getfield 9, 3) := by decide +kernel
theorem dX6_remove_30 : decode cX6_remove 30 = .ok (.iload_n 2, 1) := by decide +kernel
theorem dX6_remove_31 : decode cX6_remove 31 = .ok (.iconst 1, 1) := by decide +kernel
theorem dX6_remove_32 : decode cX6_remove 32 = .ok (.isub, 1) := by decide +kernel
theorem dX6_remove_33 : decode cX6_remove 33 = .ok (.aload_n 0, 1) := by decide +kernel
theorem dX6_remove_34 : decode cX6_remove 34 = .ok (.getfield 9, 3) := by decide +kernel
theorem dX6_remove_37 : decode cX6_remove 37 = .ok (.iload_n 2, 1) := by decide +kernel
theorem dX6_remove_38 : decode cX6_remove 38 = .ok (.iaload, 1) := by decide +kernel
theorem dX6_remove_39 : decode cX6_remove 39 = .ok (.iastore, 1) := by decide +kernel
theorem dX6_remove_40 : decode cX6_remove 40 = .ok (.aload_n 0, 1) := by decide +kernel
theorem dX6_remove_41 : decode cX6_remove 41 = .ok (.getfield 15, 3) := by decide +kernel
theorem dX6_remove_44 : decode cX6_remove 44 = .ok (.iload_n 2, 1) := by decide +kernel
theorem dX6_remove_45 : decode cX6_remove 45 = .ok (.iconst 1, 1) := by decide +kernel
theorem dX6_remove_46 : decode cX6_remove 46 = .ok (.isub, 1) := by decide +kernel
theorem dX6_remove_47 : decode cX6_remove 47 = .ok (.aload_n 0, 1) := by decide +kernel
theorem dX6_remove_48 : decode cX6_remove 48 = .ok (.getfield 15, 3) := by decide +kernel
theorem dX6_remove_51 : decode cX6_remove 51 = .ok (.iload_n 2, 1) := by decide +kernel
theorem dX6_remove_52 : decode cX6_remove 52 = .ok (.iaload, 1) := by decide +kernel
theorem dX6_remove_53 : decode cX6_remove 53 = .ok (.iastore, 1) := by decide +kernel
theorem dX6_remove_54 : decode cX6_remove 54 = .ok (.iinc 2 1, 3) := by decide +kernel
theorem dX6_remove_57 : decode cX6_remove 57 = .ok (.goto (-39), 3) := by decide +kernel
theorem dX6_remove_60 : decode cX6_remove 60 = .ok (.aload_n 0, 1) := by decide +kernel
theorem dX6_remove_61 : decode cX6_remove 61 = .ok (.dup, 1) := by decide +kernel
theorem dX6_remove_62 : decode cX6_remove 62 = .ok (.getfield 24, 3) := by decide +kernel
theorem dX6_remove_65 : decode cX6_remove 65 = .ok (.iconst 1, 1) := by decide +kernel
theorem dX6_remove_66 : decode cX6_remove 66 = .ok (.isub, 1) := by decide +kernel
theorem dX6_remove_67 : decode cX6_remove 67 = .ok (.putfield 24, 3) := by decide +kernel
theorem dX6_remove_70 : decode cX6_remove 70 = .ok (.aload_n 0, 1) := by decide +kernel
theorem dX6_remove_71 : decode cX6_remove 71 = .ok (.getfield 24, 3) := by decide +kernel
theorem dX6_remove_74 : decode cX6_remove 74 = .ok (.ireturn, 1) := by decide +kernel
theorem dX6_meets_0 : decode cX6_meets 0 = .ok (.iconst 0, 1) := by decide +kernel
theorem dX6_meets_1 : decode cX6_meets 1 = .ok (.istore_n 3, 1) := by decide +kernel
theorem dX6_meets_2 : decode cX6_meets 2 = .ok (.iload_n 3, 1) := by decide +kernel
theorem dX6_meets_3 : decode cX6_meets 3 = .ok (.aload_n 0, 1) := by decide +kernel
theorem dX6_meets_4 : decode cX6_meets 4 = .ok (.getfield 24, 3) := by decide +kernel
theorem dX6_meets_7 : decode cX6_meets 7 = .ok (.if_icmp .ge 31, 3) := by decide +kernel
theorem dX6_meets_10 : decode cX6_meets 10 = .ok (.aload_n 0, 1) := by decide +kernel
theorem dX6_meets_11 : decode cX6_meets 11 = .ok (.getfield 9, 3) := by decide +kernel
theorem dX6_meets_14 : decode cX6_meets 14 = .ok (.iload_n 3, 1) := by decide +kernel
theorem dX6_meets_15 : decode cX6_meets 15 = .ok (.iaload, 1) := by decide +kernel
theorem dX6_meets_16 : decode cX6_meets 16 = .ok (.iload_n 2, 1) := by decide +kernel
theorem dX6_meets_17 : decode cX6_meets 17 = .ok (.if_icmp .gt 15, 3) := by decide +kernel
theorem dX6_meets_20 : decode cX6_meets 20 = .ok (.iload_n 1, 1) := by decide +kernel
theorem dX6_meets_21 : decode cX6_meets 21 = .ok (.aload_n 0, 1) := by decide +kernel
theorem dX6_meets_22 : decode cX6_meets 22 = .ok (.getfield 15, 3) := by decide +kernel
theorem dX6_meets_25 : decode cX6_meets 25 = .ok (.iload_n 3, 1) := by decide +kernel
theorem dX6_meets_26 : decode cX6_meets 26 = .ok (.iaload, 1) := by decide +kernel
theorem dX6_meets_27 : decode cX6_meets 27 = .ok (.if_icmp .gt 5, 3) := by decide +kernel
theorem dX6_meets_30 : decode cX6_meets 30 = .ok (.iconst 1, 1) := by decide +kernel
theorem dX6_meets_31 : decode cX6_meets 31 = .ok (.ireturn, 1) := by decide +kernel
theorem dX6_meets_32 : decode cX6_meets 32 = .ok (.iinc 3 1, 3) := by decide +kernel
theorem dX6_meets_35 : decode cX6_meets 35 = .ok (.goto (-33), 3) := by decide +kernel
theorem dX6_meets_38 : decode cX6_meets 38 = .ok (.iconst 0, 1) := by decide +kernel
theorem dX6_meets_39 : decode cX6_meets 39 = .ok (.ireturn, 1) := by decide +kernel
theorem dX6_covers_0 : decode cX6_covers 0 = .ok (.aload_n 0, 1) := by decide +kernel
theorem dX6_covers_1 : decode cX6_covers 1 = .ok (.iload_n 1, 1) := by decide +kernel
theorem dX6_covers_2 : decode cX6_covers 2 = .ok (.iload_n 1, 1) := by decide +kernel
theorem dX6_covers_3 : decode cX6_covers 3 = .ok (.invokevirtual 38, 3) := by decide +kernel
theorem dX6_covers_6 : decode cX6_covers 6 = .ok (.ireturn, 1) := by decide +kernel
theorem dX6_highest_0 : decode cX6_highest 0 = .ok (.iconst (-1), 1) := by decide +kernel
theorem dX6_highest_1 : decode cX6_highest 1 = .ok (.istore_n 1, 1) := by decide +kernel
theorem dX6_highest_2 : decode cX6_highest 2 = .ok (.iconst 0, 1) := by decide +kernel
theorem dX6_highest_3 : decode cX6_highest 3 = .ok (.istore_n 2, 1) := by decide +kernel
theorem dX6_highest_4 : decode cX6_highest 4 = .ok (.iload_n 2, 1) := by decide +kernel
theorem dX6_highest_5 : decode cX6_highest 5 = .ok (.aload_n 0, 1) := by decide +kernel
theorem dX6_highest_6 : decode cX6_highest 6 = .ok (.getfield 24, 3) := by decide +kernel
theorem dX6_highest_9 : decode cX6_highest 9 = .ok (.if_icmp .ge 20, 3) := by decide +kernel
theorem dX6_highest_12 : decode cX6_highest 12 = .ok (.iload_n 1, 1) := by decide +kernel
theorem dX6_highest_13 : decode cX6_highest 13 = .ok (.aload_n 0, 1) := by decide +kernel
theorem dX6_highest_14 : decode cX6_highest 14 = .ok (.getfield 15, 3) := by decide +kernel
theorem dX6_highest_17 : decode cX6_highest 17 = .ok (.iload_n 2, 1) := by decide +kernel
theorem dX6_highest_18 : decode cX6_highest 18 = .ok (.iaload, 1) := by decide +kernel
theorem dX6_highest_19 : decode cX6_highest 19 = .ok (.invokestatic 42, 3) := by decide +kernel
theorem dX6_highest_22 : decode cX6_highest 22 = .ok (.istore_n 1, 1) := by decide +kernel
theorem dX6_highest_23 : decode cX6_highest 23 = .ok (.iinc 2 1, 3) := by decide +kernel
theorem dX6_highest_26 : decode cX6_highest 26 = .ok (.goto (-22), 3) := by decide +kernel
theorem dX6_highest_29 : decode cX6_highest 29 = .ok (.iload_n 1, 1) := by decide +kernel
theorem dX6_highest_30 : decode cX6_highest 30 = .ok (.ireturn, 1) := by decide +kernel
theorem dX6_backFrom_0 : decode cX6_backFrom 0 = .ok (.iconst 0, 1) := by decide +kernel
theorem dX6_backFrom_1 : decode cX6_backFrom 1 = .ok (.istore_n 2, 1) := by decide +kernel
theorem dX6_backFrom_2 : decode cX6_backFrom 2 = .ok (.iload_n 2, 1) := by decide +kernel
theorem dX6_backFrom_3 : decode cX6_backFrom 3 = .ok (.aload_n 0, 1) := by decide +kernel
theorem dX6_backFrom_4 : decode cX6_backFrom 4 = .ok (.getfield 24, 3) := by decide +kernel
theorem dX6_backFrom_7 : decode cX6_backFrom 7 = .ok (.if_icmp .ge 26, 3) := by decide +kernel
theorem dX6_backFrom_10 : decode cX6_backFrom 10 = .ok (.aload_n 0, 1) := by decide +kernel
theorem dX6_backFrom_11 : decode cX6_backFrom 11 = .ok (.getfield 15, 3) := by decide +kernel
theorem dX6_backFrom_14 : decode cX6_backFrom 14 = .ok (.iload_n 2, 1) := by decide +kernel
theorem dX6_backFrom_15 : decode cX6_backFrom 15 = .ok (.iaload, 1) := by decide +kernel
theorem dX6_backFrom_16 : decode cX6_backFrom 16 = .ok (.iload_n 1, 1) := by decide +kernel
theorem dX6_backFrom_17 : decode cX6_backFrom 17 = .ok (.if_icmp .ne 10, 3) := by decide +kernel
theorem dX6_backFrom_20 : decode cX6_backFrom 20 = .ok (.aload_n 0, 1) := by decide +kernel
theorem dX6_backFrom_21 : decode cX6_backFrom 21 = .ok (.getfield 9, 3) := by decide +kernel
theorem dX6_backFrom_24 : decode cX6_backFrom 24 = .ok (.iload_n 2, 1) := by decide +kernel
theorem dX6_backFrom_25 : decode cX6_backFrom 25 = .ok (.iaload, 1) := by decide +kernel
theorem dX6_backFrom_26 : decode cX6_backFrom 26 = .ok (.ireturn, 1) := by decide +kernel
theorem dX6_backFrom_27 : decode cX6_backFrom 27 = .ok (.iinc 2 1, 3) := by decide +kernel
theorem dX6_backFrom_30 : decode cX6_backFrom 30 = .ok (.goto (-28), 3) := by decide +kernel
theorem dX6_backFrom_33 : decode cX6_backFrom 33 = .ok (.iload_n 1, 1) := by decide +kernel
theorem dX6_backFrom_34 : decode cX6_backFrom 34 = .ok (.iconst 1, 1) := by decide +kernel
theorem dX6_backFrom_35 : decode cX6_backFrom 35 = .ok (.iadd, 1) := by decide +kernel
theorem dX6_backFrom_36 : decode cX6_backFrom 36 = .ok (.ireturn, 1) := by decide +kernel
theorem dX7_init_0 : decode cX7_init 0 = .ok (.aload_n 0, 1) := by decide +kernel
theorem dX7_init_1 : decode cX7_init 1 = .ok (.invokespecial 3, 3) := by decide +kernel
theorem dX7_init_4 : decode cX7_init 4 = .ok (.aload_n 0, 1) := by decide +kernel
theorem dX7_init_5 : decode cX7_init 5 = .ok (.bipush 20, 2) := by decide +kernel
theorem dX7_init_7 : decode cX7_init 7 = .ok (.newarray .int, 2) := by decide +kernel
theorem dX7_init_9 : decode cX7_init 9 = .ok (.putfield 9, 3) := by decide +kernel
theorem dX7_init_12 : decode cX7_init 12 = .ok (.aload_n 0, 1) := by decide +kernel
theorem dX7_init_13 : decode cX7_init 13 = .ok (.bipush 20, 2) := by decide +kernel
theorem dX7_init_15 : decode cX7_init 15 = .ok (.newarray .int, 2) := by decide +kernel
theorem dX7_init_17 : decode cX7_init 17 = .ok (.putfield 15, 3) := by decide +kernel
theorem dX7_init_20 : decode cX7_init 20 = .ok (.aload_n 0, 1) := by decide +kernel
theorem dX7_init_21 : decode cX7_init 21 = .ok (.bipush 20, 2) := by decide +kernel
theorem dX7_init_23 : decode cX7_init 23 = .ok (.newarray .int, 2) := by decide +kernel
theorem dX7_init_25 : decode cX7_init 25 = .ok (.putfield 18, 3) := by decide +kernel
theorem dX7_init_28 : decode cX7_init 28 = .ok (.aload_n 0, 1) := by decide +kernel
theorem dX7_init_29 : decode cX7_init 29 = .ok (.bipush 20, 2) := by decide +kernel
theorem dX7_init_31 : decode cX7_init 31 = .ok (.newarray .int, 2) := by decide +kernel
theorem dX7_init_33 : decode cX7_init 33 = .ok (.putfield 21, 3) := by decide +kernel
theorem dX7_init_36 : decode cX7_init 36 = .ok (.return_, 1) := by decide +kernel
theorem dX7_copyFrom_0 : decode cX7_copyFrom 0 = .ok (.aload_n 0, 1) := by decide +kernel
theorem dX7_copyFrom_1 : decode cX7_copyFrom 1 = .ok (.aload_n 1, 1) := by decide +kernel
theorem dX7_copyFrom_2 : decode cX7_copyFrom 2 = .ok (.getfield 24, 3) := by decide +kernel
theorem dX7_copyFrom_5 : decode cX7_copyFrom 5 = .ok (.putfield 24, 3) := by decide +kernel
theorem dX7_copyFrom_8 : decode cX7_copyFrom 8 = .ok (.aload_n 1, 1) := by decide +kernel
theorem dX7_copyFrom_9 : decode cX7_copyFrom 9 = .ok (.getfield 9, 3) := by decide +kernel
theorem dX7_copyFrom_12 : decode cX7_copyFrom 12 = .ok (.iconst 0, 1) := by decide +kernel
theorem dX7_copyFrom_13 : decode cX7_copyFrom 13 = .ok (.aload_n 0, 1) := by decide +kernel
theorem dX7_copyFrom_14 : decode cX7_copyFrom 14 = .ok (.getfield 9, 3) := by decide +kernel
theorem dX7_copyFrom_17 : decode cX7_copyFrom 17 = .ok (.iconst 0, 1) := by decide +kernel
theorem dX7_copyFrom_18 : decode cX7_copyFrom 18 = .ok (.bipush 20, 2) := by decide +kernel
theorem dX7_copyFrom_20 : decode cX7_copyFrom 20 = .ok (.invokestatic 28, 3) := by decide +kernel
theorem dX7_copyFrom_23 : decode cX7_copyFrom 23 = .ok (.aload_n 1, 1) := by decide +kernel
theorem dX7_copyFrom_24 : decode cX7_copyFrom 24 = .ok (.getfield 15, 3) := by decide +kernel
theorem dX7_copyFrom_27 : decode cX7_copyFrom 27 = .ok (.iconst 0, 1) := by decide +kernel
theorem dX7_copyFrom_28 : decode cX7_copyFrom 28 = .ok (.aload_n 0, 1) := by decide +kernel
theorem dX7_copyFrom_29 : decode cX7_copyFrom 29 = .ok (.getfield 15, 3) := by decide +kernel
theorem dX7_copyFrom_32 : decode cX7_copyFrom 32 = .ok (.iconst 0, 1) := by decide +kernel
theorem dX7_copyFrom_33 : decode cX7_copyFrom 33 = .ok (.bipush 20, 2) := by decide +kernel
theorem dX7_copyFrom_35 : decode cX7_copyFrom 35 = .ok (.invokestatic 28, 3) := by decide +kernel
theorem dX7_copyFrom_38 : decode cX7_copyFrom 38 = .ok (.aload_n 1, 1) := by decide +kernel
theorem dX7_copyFrom_39 : decode cX7_copyFrom 39 = .ok (.getfield 18, 3) := by decide +kernel
theorem dX7_copyFrom_42 : decode cX7_copyFrom 42 = .ok (.iconst 0, 1) := by decide +kernel
theorem dX7_copyFrom_43 : decode cX7_copyFrom 43 = .ok (.aload_n 0, 1) := by decide +kernel
theorem dX7_copyFrom_44 : decode cX7_copyFrom 44 = .ok (.getfield 18, 3) := by decide +kernel
theorem dX7_copyFrom_47 : decode cX7_copyFrom 47 = .ok (.iconst 0, 1) := by decide +kernel
theorem dX7_copyFrom_48 : decode cX7_copyFrom 48 = .ok (.bipush 20, 2) := by decide +kernel
theorem dX7_copyFrom_50 : decode cX7_copyFrom 50 = .ok (.invokestatic 28, 3) := by decide +kernel
theorem dX7_copyFrom_53 : decode cX7_copyFrom 53 = .ok (.aload_n 1, 1) := by decide +kernel
theorem dX7_copyFrom_54 : decode cX7_copyFrom 54 = .ok (.getfield 21, 3) := by decide +kernel
theorem dX7_copyFrom_57 : decode cX7_copyFrom 57 = .ok (.iconst 0, 1) := by decide +kernel
theorem dX7_copyFrom_58 : decode cX7_copyFrom 58 = .ok (.aload_n 0, 1) := by decide +kernel
theorem dX7_copyFrom_59 : decode cX7_copyFrom 59 = .ok (.getfield 21, 3) := by decide +kernel
theorem dX7_copyFrom_62 : decode cX7_copyFrom 62 = .ok (.iconst 0, 1) := by decide +kernel
theorem dX7_copyFrom_63 : decode cX7_copyFrom 63 = .ok (.bipush 20, 2) := by decide +kernel
theorem dX7_copyFrom_65 : decode cX7_copyFrom 65 = .ok (.invokestatic 28, 3) := by decide +kernel
theorem dX7_copyFrom_68 : decode cX7_copyFrom 68 = .ok (.return_, 1) := by decide +kernel
theorem dX7_has_0 : decode cX7_has 0 = .ok (.iload_n 1, 1) := by decide +kernel
theorem dX7_has_1 : decode cX7_has 1 = .ok (.ifCond .lt 15, 3) := by decide +kernel
theorem dX7_has_4 : decode cX7_has 4 = .ok (.iload_n 1, 1) := by decide +kernel
theorem dX7_has_5 : decode cX7_has 5 = .ok (.aload_n 0, 1) := by decide +kernel
theorem dX7_has_6 : decode cX7_has 6 = .ok (.getfield 24, 3) := by decide +kernel
theorem dX7_has_9 : decode cX7_has 9 = .ok (.if_icmp .ge 7, 3) := by decide +kernel
theorem dX7_has_12 : decode cX7_has 12 = .ok (.iconst 1, 1) := by decide +kernel
theorem dX7_has_13 : decode cX7_has 13 = .ok (.goto 4, 3) := by decide +kernel
theorem dX7_has_16 : decode cX7_has 16 = .ok (.iconst 0, 1) := by decide +kernel
theorem dX7_has_17 : decode cX7_has 17 = .ok (.ireturn, 1) := by decide +kernel
theorem dX7_add_0 : decode cX7_add 0 = .ok (.aload_n 0, 1) := by decide +kernel
theorem dX7_add_1 : decode cX7_add 1 = .ok (.getfield 24, 3) := by decide +kernel
theorem dX7_add_4 : decode cX7_add 4 = .ok (.bipush 20, 2) := by decide +kernel
theorem dX7_add_6 : decode cX7_add 6 = .ok (.if_icmp .lt 6, 3) := by decide +kernel
theorem dX7_add_9 : decode cX7_add 9 = .ok (.bipush (-4), 2) := by decide +kernel
theorem dX7_add_11 : decode cX7_add 11 = .ok (.ireturn, 1) := by decide +kernel
theorem dX7_add_12 : decode cX7_add 12 = .ok (.aload_n 0, 1) := by decide +kernel
theorem dX7_add_13 : decode cX7_add 13 = .ok (.getfield 9, 3) := by decide +kernel
theorem dX7_add_16 : decode cX7_add 16 = .ok (.aload_n 0, 1) := by decide +kernel
theorem dX7_add_17 : decode cX7_add 17 = .ok (.getfield 24, 3) := by decide +kernel
theorem dX7_add_20 : decode cX7_add 20 = .ok (.iload_n 1, 1) := by decide +kernel
theorem dX7_add_21 : decode cX7_add 21 = .ok (.iastore, 1) := by decide +kernel
theorem dX7_add_22 : decode cX7_add 22 = .ok (.aload_n 0, 1) := by decide +kernel
theorem dX7_add_23 : decode cX7_add 23 = .ok (.getfield 15, 3) := by decide +kernel
theorem dX7_add_26 : decode cX7_add 26 = .ok (.aload_n 0, 1) := by decide +kernel
theorem dX7_add_27 : decode cX7_add 27 = .ok (.getfield 24, 3) := by decide +kernel
theorem dX7_add_30 : decode cX7_add 30 = .ok (.iload_n 2, 1) := by decide +kernel
theorem dX7_add_31 : decode cX7_add 31 = .ok (.iastore, 1) := by decide +kernel
theorem dX7_add_32 : decode cX7_add 32 = .ok (.aload_n 0, 1) := by decide +kernel
theorem dX7_add_33 : decode cX7_add 33 = .ok (.getfield 18, 3) := by decide +kernel
theorem dX7_add_36 : decode cX7_add 36 = .ok (.aload_n 0, 1) := by decide +kernel
theorem dX7_add_37 : decode cX7_add 37 = .ok (.getfield 24, 3) := by decide +kernel
theorem dX7_add_40 : decode cX7_add 40 = .ok (.iload_n 3, 1) := by decide +kernel
theorem dX7_add_41 : decode cX7_add 41 = .ok (.iastore, 1) := by decide +kernel
theorem dX7_add_42 : decode cX7_add 42 = .ok (.aload_n 0, 1) := by decide +kernel
theorem dX7_add_43 : decode cX7_add 43 = .ok (.getfield 21, 3) := by decide +kernel
theorem dX7_add_46 : decode cX7_add 46 = .ok (.aload_n 0, 1) := by decide +kernel
theorem dX7_add_47 : decode cX7_add 47 = .ok (.getfield 24, 3) := by decide +kernel
theorem dX7_add_50 : decode cX7_add 50 = .ok (.iload 4, 2) := by decide +kernel
theorem dX7_add_52 : decode cX7_add 52 = .ok (.iastore, 1) := by decide +kernel
theorem dX7_add_53 : decode cX7_add 53 = .ok (.aload_n 0, 1) := by decide +kernel
theorem dX7_add_54 : decode cX7_add 54 = .ok (.dup, 1) := by decide +kernel
theorem dX7_add_55 : decode cX7_add 55 = .ok (.getfield 24, 3) := by decide +kernel
theorem dX7_add_58 : decode cX7_add 58 = .ok (.iconst 1, 1) := by decide +kernel
theorem dX7_add_59 : decode cX7_add 59 = .ok (.iadd, 1) := by decide +kernel
theorem dX7_add_60 : decode cX7_add 60 = .ok (.putfield 24, 3) := by decide +kernel
theorem dX7_add_63 : decode cX7_add 63 = .ok (.aload_n 0, 1) := by decide +kernel
theorem dX7_add_64 : decode cX7_add 64 = .ok (.getfield 24, 3) := by decide +kernel
theorem dX7_add_67 : decode cX7_add 67 = .ok (.iconst 1, 1) := by decide +kernel
theorem dX7_add_68 : decode cX7_add 68 = .ok (.isub, 1) := by decide +kernel
theorem dX7_add_69 : decode cX7_add 69 = .ok (.ireturn, 1) := by decide +kernel
theorem dX7_remove_0 : decode cX7_remove 0 = .ok (.aload_n 0, 1) := by decide +kernel
theorem dX7_remove_1 : decode cX7_remove 1 = .ok (.iload_n 1, 1) := by decide +kernel
theorem dX7_remove_2 : decode cX7_remove 2 = .ok (.invokevirtual 34, 3) := by decide +kernel
theorem dX7_remove_5 : decode cX7_remove 5 = .ok (.ifCond .ne 5, 3) := by decide +kernel
theorem dX7_remove_8 : decode cX7_remove 8 = .ok (.iconst (-1), 1) := by decide +kernel
theorem dX7_remove_9 : decode cX7_remove 9 = .ok (.ireturn, 1) := by decide +kernel
theorem dX7_remove_10 : decode cX7_remove 10 = .ok (.iload_n 1, 1) := by decide +kernel
theorem dX7_remove_11 : decode cX7_remove 11 = .ok (.iconst 1, 1) := by decide +kernel
theorem dX7_remove_12 : decode cX7_remove 12 = .ok (.iadd, 1) := by decide +kernel
theorem dX7_remove_13 : decode cX7_remove 13 = .ok (.istore_n 2, 1) := by decide +kernel
theorem dX7_remove_14 : decode cX7_remove 14 = .ok (.iload_n 2, 1) := by decide +kernel
theorem dX7_remove_15 : decode cX7_remove 15 = .ok (.aload_n 0, 1) := by decide +kernel
theorem dX7_remove_16 : decode cX7_remove 16 = .ok (.getfield 24, 3) := by decide +kernel
theorem dX7_remove_19 : decode cX7_remove 19 = .ok (.if_icmp .ge 65, 3) := by decide +kernel
theorem dX7_remove_22 : decode cX7_remove 22 = .ok (.aload_n 0, 1) := by decide +kernel
theorem dX7_remove_23 : decode cX7_remove 23 = .ok (.getfield 9, 3) := by decide +kernel
theorem dX7_remove_26 : decode cX7_remove 26 = .ok (.iload_n 2, 1) := by decide +kernel
theorem dX7_remove_27 : decode cX7_remove 27 = .ok (.iconst 1, 1) := by decide +kernel
theorem dX7_remove_28 : decode cX7_remove 28 = .ok (.isub, 1) := by decide +kernel
theorem dX7_remove_29 : decode cX7_remove 29 = .ok (.aload_n 0, 1) := by decide +kernel
theorem dX7_remove_30 : decode cX7_remove 30 = .ok (.getfield 9, 3) := by decide +kernel
theorem dX7_remove_33 : decode cX7_remove 33 = .ok (.iload_n 2, 1) := by decide +kernel
theorem dX7_remove_34 : decode cX7_remove 34 = .ok (.iaload, 1) := by decide +kernel
theorem dX7_remove_35 : decode cX7_remove 35 = .ok (.iastore, 1) := by decide +kernel
theorem dX7_remove_36 : decode cX7_remove 36 = .ok (.aload_n 0, 1) := by decide +kernel
theorem dX7_remove_37 : decode cX7_remove 37 = .ok (.getfield 15, 3) := by decide +kernel
theorem dX7_remove_40 : decode cX7_remove 40 = .ok (.iload_n 2, 1) := by decide +kernel
theorem dX7_remove_41 : decode cX7_remove 41 = .ok (.iconst 1, 1) := by decide +kernel
theorem dX7_remove_42 : decode cX7_remove 42 = .ok (.isub, 1) := by decide +kernel
theorem dX7_remove_43 : decode cX7_remove 43 = .ok (.aload_n 0, 1) := by decide +kernel
theorem dX7_remove_44 : decode cX7_remove 44 = .ok (.getfield 15, 3) := by decide +kernel
theorem dX7_remove_47 : decode cX7_remove 47 = .ok (.iload_n 2, 1) := by decide +kernel
theorem dX7_remove_48 : decode cX7_remove 48 = .ok (.iaload, 1) := by decide +kernel
theorem dX7_remove_49 : decode cX7_remove 49 = .ok (.iastore, 1) := by decide +kernel
theorem dX7_remove_50 : decode cX7_remove 50 = .ok (.aload_n 0, 1) := by decide +kernel
theorem dX7_remove_51 : decode cX7_remove 51 = .ok (.getfield 18, 3) := by decide +kernel
theorem dX7_remove_54 : decode cX7_remove 54 = .ok (.iload_n 2, 1) := by decide +kernel
theorem dX7_remove_55 : decode cX7_remove 55 = .ok (.iconst 1, 1) := by decide +kernel
theorem dX7_remove_56 : decode cX7_remove 56 = .ok (.isub, 1) := by decide +kernel
theorem dX7_remove_57 : decode cX7_remove 57 = .ok (.aload_n 0, 1) := by decide +kernel
theorem dX7_remove_58 : decode cX7_remove 58 = .ok (.getfield 18, 3) := by decide +kernel
theorem dX7_remove_61 : decode cX7_remove 61 = .ok (.iload_n 2, 1) := by decide +kernel
theorem dX7_remove_62 : decode cX7_remove 62 = .ok (.iaload, 1) := by decide +kernel
theorem dX7_remove_63 : decode cX7_remove 63 = .ok (.iastore, 1) := by decide +kernel
theorem dX7_remove_64 : decode cX7_remove 64 = .ok (.aload_n 0, 1) := by decide +kernel
theorem dX7_remove_65 : decode cX7_remove 65 = .ok (.getfield 21, 3) := by decide +kernel
theorem dX7_remove_68 : decode cX7_remove 68 = .ok (.iload_n 2, 1) := by decide +kernel
theorem dX7_remove_69 : decode cX7_remove 69 = .ok (.iconst 1, 1) := by decide +kernel
theorem dX7_remove_70 : decode cX7_remove 70 = .ok (.isub, 1) := by decide +kernel
theorem dX7_remove_71 : decode cX7_remove 71 = .ok (.aload_n 0, 1) := by decide +kernel
theorem dX7_remove_72 : decode cX7_remove 72 = .ok (.getfield 21, 3) := by decide +kernel
theorem dX7_remove_75 : decode cX7_remove 75 = .ok (.iload_n 2, 1) := by decide +kernel
theorem dX7_remove_76 : decode cX7_remove 76 = .ok (.iaload, 1) := by decide +kernel
theorem dX7_remove_77 : decode cX7_remove 77 = .ok (.iastore, 1) := by decide +kernel
theorem dX7_remove_78 : decode cX7_remove 78 = .ok (.iinc 2 1, 3) := by decide +kernel
theorem dX7_remove_81 : decode cX7_remove 81 = .ok (.goto (-67), 3) := by decide +kernel
theorem dX7_remove_84 : decode cX7_remove 84 = .ok (.aload_n 0, 1) := by decide +kernel
theorem dX7_remove_85 : decode cX7_remove 85 = .ok (.dup, 1) := by decide +kernel
theorem dX7_remove_86 : decode cX7_remove 86 = .ok (.getfield 24, 3) := by decide +kernel
theorem dX7_remove_89 : decode cX7_remove 89 = .ok (.iconst 1, 1) := by decide +kernel
theorem dX7_remove_90 : decode cX7_remove 90 = .ok (.isub, 1) := by decide +kernel
theorem dX7_remove_91 : decode cX7_remove 91 = .ok (.putfield 24, 3) := by decide +kernel
theorem dX7_remove_94 : decode cX7_remove 94 = .ok (.aload_n 0, 1) := by decide +kernel
theorem dX7_remove_95 : decode cX7_remove 95 = .ok (.getfield 24, 3) := by decide +kernel
theorem dX7_remove_98 : decode cX7_remove 98 = .ok (.ireturn, 1) := by decide +kernel
theorem dX7_highestBar_0 : decode cX7_highestBar 0 = .ok (.iconst (-1), 1) := by decide +kernel
theorem dX7_highestBar_1 : decode cX7_highestBar 1 = .ok (.istore_n 1, 1) := by decide +kernel
theorem dX7_highestBar_2 : decode cX7_highestBar 2 = .ok (.iconst 0, 1) := by decide +kernel
theorem dX7_highestBar_3 : decode cX7_highestBar 3 = .ok (.istore_n 2, 1) := by decide +kernel
theorem dX7_highestBar_4 : decode cX7_highestBar 4 = .ok (.iload_n 2, 1) := by decide +kernel
theorem dX7_highestBar_5 : decode cX7_highestBar 5 = .ok (.aload_n 0, 1) := by decide +kernel
theorem dX7_highestBar_6 : decode cX7_highestBar 6 = .ok (.getfield 24, 3) := by decide +kernel
theorem dX7_highestBar_9 : decode cX7_highestBar 9 = .ok (.if_icmp .ge 20, 3) := by decide +kernel
theorem dX7_highestBar_12 : decode cX7_highestBar 12 = .ok (.iload_n 1, 1) := by decide +kernel
theorem dX7_highestBar_13 : decode cX7_highestBar 13 = .ok (.aload_n 0, 1) := by decide +kernel
theorem dX7_highestBar_14 : decode cX7_highestBar 14 = .ok (.getfield 15, 3) := by decide +kernel
theorem dX7_highestBar_17 : decode cX7_highestBar 17 = .ok (.iload_n 2, 1) := by decide +kernel
theorem dX7_highestBar_18 : decode cX7_highestBar 18 = .ok (.iaload, 1) := by decide +kernel
theorem dX7_highestBar_19 : decode cX7_highestBar 19 = .ok (.invokestatic 38, 3) := by decide +kernel
theorem dX7_highestBar_22 : decode cX7_highestBar 22 = .ok (.istore_n 1, 1) := by decide +kernel
theorem dX7_highestBar_23 : decode cX7_highestBar 23 = .ok (.iinc 2 1, 3) := by decide +kernel
theorem dX7_highestBar_26 : decode cX7_highestBar 26 = .ok (.goto (-22), 3) := by decide +kernel
theorem dX7_highestBar_29 : decode cX7_highestBar 29 = .ok (.iload_n 1, 1) := by decide +kernel
theorem dX7_highestBar_30 : decode cX7_highestBar 30 = .ok (.ireturn, 1) := by decide +kernel
theorem dX8_init_0 : decode cX8_init 0 = .ok (.aload_n 0, 1) := by decide +kernel
theorem dX8_init_1 : decode cX8_init 1 = .ok (.invokespecial 3, 3) := by decide +kernel
theorem dX8_init_4 : decode cX8_init 4 = .ok (.aload_n 0, 1) := by decide +kernel
theorem dX8_init_5 : decode cX8_init 5 = .ok (.new 9, 3) := by decide +kernel
theorem dX8_init_8 : decode cX8_init 8 = .ok (.dup, 1) := by decide +kernel
theorem dX8_init_9 : decode cX8_init 9 = .ok (.invokespecial 11, 3) := by decide +kernel
theorem dX8_init_12 : decode cX8_init 12 = .ok (.putfield 12, 3) := by decide +kernel
theorem dX8_init_15 : decode cX8_init 15 = .ok (.aload_n 0, 1) := by decide +kernel
theorem dX8_init_16 : decode cX8_init 16 = .ok (.new 16, 3) := by decide +kernel
theorem dX8_init_19 : decode cX8_init 19 = .ok (.dup, 1) := by decide +kernel
theorem dX8_init_20 : decode cX8_init 20 = .ok (.invokespecial 18, 3) := by decide +kernel
theorem dX8_init_23 : decode cX8_init 23 = .ok (.putfield 19, 3) := by decide +kernel
theorem dX8_init_26 : decode cX8_init 26 = .ok (.aload_n 0, 1) := by decide +kernel
theorem dX8_init_27 : decode cX8_init 27 = .ok (.new 9, 3) := by decide +kernel
theorem dX8_init_30 : decode cX8_init 30 = .ok (.dup, 1) := by decide +kernel
theorem dX8_init_31 : decode cX8_init 31 = .ok (.invokespecial 11, 3) := by decide +kernel
theorem dX8_init_34 : decode cX8_init 34 = .ok (.putfield 23, 3) := by decide +kernel
theorem dX8_init_37 : decode cX8_init 37 = .ok (.aload_n 0, 1) := by decide +kernel
theorem dX8_init_38 : decode cX8_init 38 = .ok (.new 16, 3) := by decide +kernel
theorem dX8_init_41 : decode cX8_init 41 = .ok (.dup, 1) := by decide +kernel
theorem dX8_init_42 : decode cX8_init 42 = .ok (.invokespecial 18, 3) := by decide +kernel
theorem dX8_init_45 : decode cX8_init 45 = .ok (.putfield 26, 3) := by decide +kernel
theorem dX8_init_48 : decode cX8_init 48 = .ok (.aload_n 0, 1) := by decide +kernel
theorem dX8_init_49 : decode cX8_init 49 = .ok (.new 29, 3) := by decide +kernel
theorem dX8_init_52 : decode cX8_init 52 = .ok (.dup, 1) := by decide +kernel
theorem dX8_init_53 : decode cX8_init 53 = .ok (.invokespecial 31, 3) := by decide +kernel
theorem dX8_init_56 : decode cX8_init 56 = .ok (.putfield 32, 3) := by decide +kernel
theorem dX8_init_59 : decode cX8_init 59 = .ok (.aload_n 0, 1) := by decide +kernel
theorem dX8_init_60 : decode cX8_init 60 = .ok (.new 36, 3) := by decide +kernel
theorem dX8_init_63 : decode cX8_init 63 = .ok (.dup, 1) := by decide +kernel
theorem dX8_init_64 : decode cX8_init 64 = .ok (.invokespecial 38, 3) := by decide +kernel
theorem dX8_init_67 : decode cX8_init 67 = .ok (.putfield 39, 3) := by decide +kernel
theorem dX8_init_70 : decode cX8_init 70 = .ok (.aload_n 0, 1) := by decide +kernel
theorem dX8_init_71 : decode cX8_init 71 = .ok (.new 43, 3) := by decide +kernel
theorem dX8_init_74 : decode cX8_init 74 = .ok (.dup, 1) := by decide +kernel
theorem dX8_init_75 : decode cX8_init 75 = .ok (.invokespecial 45, 3) := by decide +kernel
theorem dX8_init_78 : decode cX8_init 78 = .ok (.putfield 46, 3) := by decide +kernel
theorem dX8_init_81 : decode cX8_init 81 = .ok (.aload_n 0, 1) := by decide +kernel
theorem dX8_init_82 : decode cX8_init 82 = .ok (.iconst 2, 1) := by decide +kernel
theorem dX8_init_83 : decode cX8_init 83 = .ok (.anewarray 9, 3) := by decide +kernel
theorem dX8_init_86 : decode cX8_init 86 = .ok (.putfield 50, 3) := by decide +kernel
theorem dX8_init_89 : decode cX8_init 89 = .ok (.iconst 0, 1) := by decide +kernel
theorem dX8_init_90 : decode cX8_init 90 = .ok (.istore_n 1, 1) := by decide +kernel
theorem dX8_init_91 : decode cX8_init 91 = .ok (.iload_n 1, 1) := by decide +kernel
theorem dX8_init_92 : decode cX8_init 92 = .ok (.iconst 2, 1) := by decide +kernel
theorem dX8_init_93 : decode cX8_init 93 = .ok (.if_icmp .ge 22, 3) := by decide +kernel
theorem dX8_init_96 : decode cX8_init 96 = .ok (.aload_n 0, 1) := by decide +kernel
theorem dX8_init_97 : decode cX8_init 97 = .ok (.getfield 50, 3) := by decide +kernel
theorem dX8_init_100 : decode cX8_init 100 = .ok (.iload_n 1, 1) := by decide +kernel
theorem dX8_init_101 : decode cX8_init 101 = .ok (.new 9, 3) := by decide +kernel
theorem dX8_init_104 : decode cX8_init 104 = .ok (.dup, 1) := by decide +kernel
theorem dX8_init_105 : decode cX8_init 105 = .ok (.invokespecial 11, 3) := by decide +kernel
theorem dX8_init_108 : decode cX8_init 108 = .ok (.aastore, 1) := by decide +kernel
theorem dX8_init_109 : decode cX8_init 109 = .ok (.iinc 1 1, 3) := by decide +kernel
theorem dX8_init_112 : decode cX8_init 112 = .ok (.goto (-21), 3) := by decide +kernel
theorem dX8_init_115 : decode cX8_init 115 = .ok (.aload_n 0, 1) := by decide +kernel
theorem dX8_init_116 : decode cX8_init 116 = .ok (.iconst 2, 1) := by decide +kernel
theorem dX8_init_117 : decode cX8_init 117 = .ok (.newarray .boolean, 2) := by decide +kernel
theorem dX8_init_119 : decode cX8_init 119 = .ok (.putfield 54, 3) := by decide +kernel
theorem dX8_init_122 : decode cX8_init 122 = .ok (.aload_n 0, 1) := by decide +kernel
theorem dX8_init_123 : decode cX8_init 123 = .ok (.getfield 19, 3) := by decide +kernel
theorem dX8_init_126 : decode cX8_init 126 = .ok (.aload_n 0, 1) := by decide +kernel
theorem dX8_init_127 : decode cX8_init 127 = .ok (.getfield 12, 3) := by decide +kernel
theorem dX8_init_130 : decode cX8_init 130 = .ok (.invokevirtual 58, 3) := by decide +kernel
theorem dX8_init_133 : decode cX8_init 133 = .ok (.return_, 1) := by decide +kernel
theorem dX8_bars_0 : decode cX8_bars 0 = .ok (.aload_n 0, 1) := by decide +kernel
theorem dX8_bars_1 : decode cX8_bars 1 = .ok (.getfield 46, 3) := by decide +kernel
theorem dX8_bars_4 : decode cX8_bars 4 = .ok (.aload_n 0, 1) := by decide +kernel
theorem dX8_bars_5 : decode cX8_bars 5 = .ok (.getfield 12, 3) := by decide +kernel
theorem dX8_bars_8 : decode cX8_bars 8 = .ok (.invokevirtual 62, 3) := by decide +kernel
theorem dX8_bars_11 : decode cX8_bars 11 = .ok (.aload_n 0, 1) := by decide +kernel
theorem dX8_bars_12 : decode cX8_bars 12 = .ok (.aload_n 0, 1) := by decide +kernel
theorem dX8_bars_13 : decode cX8_bars 13 = .ok (.getfield 12, 3) := by decide +kernel
theorem dX8_bars_16 : decode cX8_bars 16 = .ok (.iload_n 1, 1) := by decide +kernel
theorem dX8_bars_17 : decode cX8_bars 17 = .ok (.invokevirtual 65, 3) := by decide +kernel
theorem dX8_bars_20 : decode cX8_bars 20 = .ok (.invokevirtual 69, 3) := by decide +kernel
theorem dX8_bars_23 : decode cX8_bars 23 = .ok (.ireturn, 1) := by decide +kernel
theorem dX8_shortest_0 : decode cX8_shortest 0 = .ok (.aload_n 0, 1) := by decide +kernel
theorem dX8_shortest_1 : decode cX8_shortest 1 = .ok (.getfield 46, 3) := by decide +kernel
theorem dX8_shortest_4 : decode cX8_shortest 4 = .ok (.aload_n 0, 1) := by decide +kernel
theorem dX8_shortest_5 : decode cX8_shortest 5 = .ok (.getfield 12, 3) := by decide +kernel
theorem dX8_shortest_8 : decode cX8_shortest 8 = .ok (.invokevirtual 62, 3) := by decide +kernel
theorem dX8_shortest_11 : decode cX8_shortest 11 = .ok (.aload_n 0, 1) := by decide +kernel
theorem dX8_shortest_12 : decode cX8_shortest 12 = .ok (.aload_n 0, 1) := by decide +kernel
theorem dX8_shortest_13 : decode cX8_shortest 13 = .ok (.getfield 12, 3) := by decide +kernel
theorem dX8_shortest_16 : decode cX8_shortest 16 = .ok (.iload_n 1, 1) := by decide +kernel
theorem dX8_shortest_17 : decode cX8_shortest 17 = .ok (.invokevirtual 72, 3) := by decide +kernel
theorem dX8_shortest_20 : decode cX8_shortest 20 = .ok (.invokevirtual 69, 3) := by decide +kernel
theorem dX8_shortest_23 : decode cX8_shortest 23 = .ok (.ireturn, 1) := by decide +kernel
theorem dX8_bar_0 : decode cX8_bar 0 = .ok (.aload_n 0, 1) := by decide +kernel
theorem dX8_bar_1 : decode cX8_bar 1 = .ok (.getfield 46, 3) := by decide +kernel
theorem dX8_bar_4 : decode cX8_bar 4 = .ok (.aload_n 0, 1) := by decide +kernel
theorem dX8_bar_5 : decode cX8_bar 5 = .ok (.getfield 12, 3) := by decide +kernel
theorem dX8_bar_8 : decode cX8_bar 8 = .ok (.invokevirtual 62, 3) := by decide +kernel
theorem dX8_bar_11 : decode cX8_bar 11 = .ok (.aload_n 0, 1) := by decide +kernel
theorem dX8_bar_12 : decode cX8_bar 12 = .ok (.aload_n 0, 1) := by decide +kernel
theorem dX8_bar_13 : decode cX8_bar 13 = .ok (.getfield 12, 3) := by decide +kernel
theorem dX8_bar_16 : decode cX8_bar 16 = .ok (.iload_n 1, 1) := by decide +kernel
theorem dX8_bar_17 : decode cX8_bar 17 = .ok (.iload_n 2, 1) := by decide +kernel
theorem dX8_bar_18 : decode cX8_bar 18 = .ok (.iload_n 3, 1) := by decide +kernel
theorem dX8_bar_19 : decode cX8_bar 19 = .ok (.invokevirtual 75, 3) := by decide +kernel
theorem dX8_bar_22 : decode cX8_bar 22 = .ok (.invokevirtual 69, 3) := by decide +kernel
theorem dX8_bar_25 : decode cX8_bar 25 = .ok (.ireturn, 1) := by decide +kernel
theorem dX8_repeat_0 : decode cX8_repeat 0 = .ok (.aload_n 0, 1) := by decide +kernel
theorem dX8_repeat_1 : decode cX8_repeat 1 = .ok (.getfield 46, 3) := by decide +kernel
theorem dX8_repeat_4 : decode cX8_repeat 4 = .ok (.aload_n 0, 1) := by decide +kernel
theorem dX8_repeat_5 : decode cX8_repeat 5 = .ok (.getfield 12, 3) := by decide +kernel
theorem dX8_repeat_8 : decode cX8_repeat 8 = .ok (.invokevirtual 62, 3) := by decide +kernel
theorem dX8_repeat_11 : decode cX8_repeat 11 = .ok (.aload_n 0, 1) := by decide +kernel
theorem dX8_repeat_12 : decode cX8_repeat 12 = .ok (.aload_n 0, 1) := by decide +kernel
theorem dX8_repeat_13 : decode cX8_repeat 13 = .ok (.getfield 12, 3) := by decide +kernel
theorem dX8_repeat_16 : decode cX8_repeat 16 = .ok (.iload_n 1, 1) := by decide +kernel
theorem dX8_repeat_17 : decode cX8_repeat 17 = .ok (.iload_n 2, 1) := by decide +kernel
theorem dX8_repeat_18 : decode cX8_repeat 18 = .ok (.invokevirtual 79, 3) := by decide +kernel
theorem dX8_repeat_21 : decode cX8_repeat 21 = .ok (.invokevirtual 69, 3) := by decide +kernel
theorem dX8_repeat_24 : decode cX8_repeat 24 = .ok (.ireturn, 1) := by decide +kernel
theorem dX8_cut_0 : decode cX8_cut 0 = .ok (.aload_n 0, 1) := by decide +kernel
theorem dX8_cut_1 : decode cX8_cut 1 = .ok (.getfield 46, 3) := by decide +kernel
theorem dX8_cut_4 : decode cX8_cut 4 = .ok (.aload_n 0, 1) := by decide +kernel
theorem dX8_cut_5 : decode cX8_cut 5 = .ok (.getfield 12, 3) := by decide +kernel
theorem dX8_cut_8 : decode cX8_cut 8 = .ok (.invokevirtual 62, 3) := by decide +kernel
theorem dX8_cut_11 : decode cX8_cut 11 = .ok (.aload_n 0, 1) := by decide +kernel
theorem dX8_cut_12 : decode cX8_cut 12 = .ok (.aload_n 0, 1) := by decide +kernel
theorem dX8_cut_13 : decode cX8_cut 13 = .ok (.getfield 12, 3) := by decide +kernel
theorem dX8_cut_16 : decode cX8_cut 16 = .ok (.iload_n 1, 1) := by decide +kernel
theorem dX8_cut_17 : decode cX8_cut 17 = .ok (.iload_n 2, 1) := by decide +kernel
theorem dX8_cut_18 : decode cX8_cut 18 = .ok (.invokevirtual 83, 3) := by decide +kernel
theorem dX8_cut_21 : decode cX8_cut 21 = .ok (.invokevirtual 69, 3) := by decide +kernel
theorem dX8_cut_24 : decode cX8_cut 24 = .ok (.ireturn, 1) := by decide +kernel
theorem dX8_blackout_0 : decode cX8_blackout 0 = .ok (.aload_n 0, 1) := by decide +kernel
theorem dX8_blackout_1 : decode cX8_blackout 1 = .ok (.getfield 46, 3) := by decide +kernel
theorem dX8_blackout_4 : decode cX8_blackout 4 = .ok (.aload_n 0, 1) := by decide +kernel
theorem dX8_blackout_5 : decode cX8_blackout 5 = .ok (.getfield 12, 3) := by decide +kernel
theorem dX8_blackout_8 : decode cX8_blackout 8 = .ok (.invokevirtual 62, 3) := by decide +kernel
theorem dX8_blackout_11 : decode cX8_blackout 11 = .ok (.aload_n 0, 1) := by decide +kernel
theorem dX8_blackout_12 : decode cX8_blackout 12 = .ok (.aload_n 0, 1) := by decide +kernel
theorem dX8_blackout_13 : decode cX8_blackout 13 = .ok (.getfield 12, 3) := by decide +kernel
theorem dX8_blackout_16 : decode cX8_blackout 16 = .ok (.iload_n 1, 1) := by decide +kernel
theorem dX8_blackout_17 : decode cX8_blackout 17 = .ok (.iload_n 2, 1) := by decide +kernel
theorem dX8_blackout_18 : decode cX8_blackout 18 = .ok (.invokevirtual 86, 3) := by decide +kernel
theorem dX8_blackout_21 : decode cX8_blackout 21 = .ok (.invokevirtual 69, 3) := by decide +kernel
theorem dX8_blackout_24 : decode cX8_blackout 24 = .ok (.ireturn, 1) := by decide +kernel
theorem dX8_undoSpan_0 : decode cX8_undoSpan 0 = .ok (.aload_n 0, 1) := by decide +kernel
theorem dX8_undoSpan_1 : decode cX8_undoSpan 1 = .ok (.getfield 46, 3) := by decide +kernel
theorem dX8_undoSpan_4 : decode cX8_undoSpan 4 = .ok (.aload_n 0, 1) := by decide +kernel
theorem dX8_undoSpan_5 : decode cX8_undoSpan 5 = .ok (.getfield 12, 3) := by decide +kernel
theorem dX8_undoSpan_8 : decode cX8_undoSpan 8 = .ok (.invokevirtual 62, 3) := by decide +kernel
theorem dX8_undoSpan_11 : decode cX8_undoSpan 11 = .ok (.aload_n 0, 1) := by decide +kernel
theorem dX8_undoSpan_12 : decode cX8_undoSpan 12 = .ok (.aload_n 0, 1) := by decide +kernel
theorem dX8_undoSpan_13 : decode cX8_undoSpan 13 = .ok (.getfield 12, 3) := by decide +kernel
theorem dX8_undoSpan_16 : decode cX8_undoSpan 16 = .ok (.iload_n 1, 1) := by decide +kernel
theorem dX8_undoSpan_17 : decode cX8_undoSpan 17 = .ok (.iload_n 2, 1) := by decide +kernel
theorem dX8_undoSpan_18 : decode cX8_undoSpan 18 = .ok (.invokevirtual 89, 3) := by decide +kernel
theorem dX8_undoSpan_21 : decode cX8_undoSpan 21 = .ok (.invokevirtual 69, 3) := by decide +kernel
theorem dX8_undoSpan_24 : decode cX8_undoSpan 24 = .ok (.ireturn, 1) := by decide +kernel
theorem dX8_title_0 : decode cX8_title 0 = .ok (.aload_n 0, 1) := by decide +kernel
theorem dX8_title_1 : decode cX8_title 1 = .ok (.getfield 46, 3) := by decide +kernel
theorem dX8_title_4 : decode cX8_title 4 = .ok (.aload_n 0, 1) := by decide +kernel
theorem dX8_title_5 : decode cX8_title 5 = .ok (.getfield 12, 3) := by decide +kernel
theorem dX8_title_8 : decode cX8_title 8 = .ok (.invokevirtual 62, 3) := by decide +kernel
theorem dX8_title_11 : decode cX8_title 11 = .ok (.aload_n 0, 1) := by decide +kernel
theorem dX8_title_12 : decode cX8_title 12 = .ok (.aload_n 0, 1) := by decide +kernel
theorem dX8_title_13 : decode cX8_title 13 = .ok (.getfield 12, 3) := by decide +kernel
theorem dX8_title_16 : decode cX8_title 16 = .ok (.iload_n 1, 1) := by decide +kernel
theorem dX8_title_17 : decode cX8_title 17 = .ok (.iload_n 2, 1) := by decide +kernel
theorem dX8_title_18 : decode cX8_title 18 = .ok (.iload_n 3, 1) := by decide +kernel
theorem dX8_title_19 : decode cX8_title 19 = .ok (.iload 4, 2) := by decide +kernel
theorem dX8_title_21 : decode cX8_title 21 = .ok (.invokevirtual 92, 3) := by decide +kernel
theorem dX8_title_24 : decode cX8_title 24 = .ok (.invokevirtual 69, 3) := by decide +kernel
theorem dX8_title_27 : decode cX8_title 27 = .ok (.ireturn, 1) := by decide +kernel
theorem dX8_drop_0 : decode cX8_drop 0 = .ok (.aload_n 0, 1) := by decide +kernel
theorem dX8_drop_1 : decode cX8_drop 1 = .ok (.getfield 46, 3) := by decide +kernel
theorem dX8_drop_4 : decode cX8_drop 4 = .ok (.aload_n 0, 1) := by decide +kernel
theorem dX8_drop_5 : decode cX8_drop 5 = .ok (.getfield 12, 3) := by decide +kernel
theorem dX8_drop_8 : decode cX8_drop 8 = .ok (.invokevirtual 62, 3) := by decide +kernel
theorem dX8_drop_11 : decode cX8_drop 11 = .ok (.aload_n 0, 1) := by decide +kernel
theorem dX8_drop_12 : decode cX8_drop 12 = .ok (.aload_n 0, 1) := by decide +kernel
theorem dX8_drop_13 : decode cX8_drop 13 = .ok (.getfield 12, 3) := by decide +kernel
theorem dX8_drop_16 : decode cX8_drop 16 = .ok (.iload_n 1, 1) := by decide +kernel
theorem dX8_drop_17 : decode cX8_drop 17 = .ok (.invokevirtual 96, 3) := by decide +kernel
theorem dX8_drop_20 : decode cX8_drop 20 = .ok (.invokevirtual 69, 3) := by decide +kernel
theorem dX8_drop_23 : decode cX8_drop 23 = .ok (.ireturn, 1) := by decide +kernel
theorem dX8_ofBar_0 : decode cX8_ofBar 0 = .ok (.aload_n 0, 1) := by decide +kernel
theorem dX8_ofBar_1 : decode cX8_ofBar 1 = .ok (.getfield 12, 3) := by decide +kernel
theorem dX8_ofBar_4 : decode cX8_ofBar 4 = .ok (.iload_n 1, 1) := by decide +kernel
theorem dX8_ofBar_5 : decode cX8_ofBar 5 = .ok (.invokevirtual 99, 3) := by decide +kernel
theorem dX8_ofBar_8 : decode cX8_ofBar 8 = .ok (.ifCond .ne 5, 3) := by decide +kernel
theorem dX8_ofBar_11 : decode cX8_ofBar 11 = .ok (.iconst (-1), 1) := by decide +kernel
theorem dX8_ofBar_12 : decode cX8_ofBar 12 = .ok (.ireturn, 1) := by decide +kernel
theorem dX8_ofBar_13 : decode cX8_ofBar 13 = .ok (.iload_n 2, 1) := by decide +kernel
theorem dX8_ofBar_14 : decode cX8_ofBar 14 = .ok (.tableswitch 107 0 5 #[38, 48, 58, 67, 77, 87], 38) := by decide +kernel
theorem dX8_ofBar_52 : decode cX8_ofBar 52 = .ok (.aload_n 0, 1) := by decide +kernel
theorem dX8_ofBar_53 : decode cX8_ofBar 53 = .ok (.getfield 12, 3) := by decide +kernel
theorem dX8_ofBar_56 : decode cX8_ofBar 56 = .ok (.getfield 103, 3) := by decide +kernel
