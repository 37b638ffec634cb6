theorem d_OL_init_0 : decode b_OL_init 0 = .ok (.aload_n 0, 1) := by decide +kernel
theorem d_OL_init_1 : decode b_OL_init 1 = .ok (.invokespecial 3, 3) := by decide +kernel
theorem d_OL_init_4 : decode b_OL_init 4 = .ok (.aload_n 0, 1) := by decide +kernel
theorem d_OL_init_5 : decode b_OL_init 5 = .ok (.bipush 12, 2) := by decide +kernel
theorem d_OL_init_7 : decode b_OL_init 7 = .ok (.anewarray 9, 3) := by decide +kernel
theorem d_OL_init_10 : decode b_OL_init 10 = .ok (.putfield 11, 3) := by decide +kernel
theorem d_OL_init_13 : decode b_OL_init 13 = .ok (.aload_n 0, 1) := by decide +kernel
theorem d_OL_init_14 : decode b_OL_init 14 = .ok (.new 15, 3) := by decide +kernel
theorem d_OL_init_17 : decode b_OL_init 17 = .ok (.dup, 1) := by decide +kernel
theorem d_OL_init_18 : decode b_OL_init 18 = .ok (.invokespecial 17, 3) := by decide +kernel
theorem d_OL_init_21 : decode b_OL_init 21 = .ok (.putfield 18, 3) := by decide +kernel
theorem d_OL_init_24 : decode b_OL_init 24 = .ok (.aload_n 0, 1) := by decide +kernel
theorem d_OL_init_25 : decode b_OL_init 25 = .ok (.new 22, 3) := by decide +kernel
theorem d_OL_init_28 : decode b_OL_init 28 = .ok (.dup, 1) := by decide +kernel
theorem d_OL_init_29 : decode b_OL_init 29 = .ok (.invokespecial 24, 3) := by decide +kernel
theorem d_OL_init_32 : decode b_OL_init 32 = .ok (.putfield 25, 3) := by decide +kernel
theorem d_OL_init_35 : decode b_OL_init 35 = .ok (.return_, 1) := by decide +kernel
theorem d_Li_init_0 : decode b_Li_init 0 = .ok (.aload_n 0, 1) := by decide +kernel
theorem d_Li_init_1 : decode b_Li_init 1 = .ok (.invokespecial 3, 3) := by decide +kernel
theorem d_Li_init_4 : decode b_Li_init 4 = .ok (.aload_n 0, 1) := by decide +kernel
theorem d_Li_init_5 : decode b_Li_init 5 = .ok (.bipush 12, 2) := by decide +kernel
theorem d_Li_init_7 : decode b_Li_init 7 = .ok (.anewarray 9, 3) := by decide +kernel
theorem d_Li_init_10 : decode b_Li_init 10 = .ok (.putfield 11, 3) := by decide +kernel
theorem d_Li_init_13 : decode b_Li_init 13 = .ok (.aload_n 0, 1) := by decide +kernel
theorem d_Li_init_14 : decode b_Li_init 14 = .ok (.bipush 12, 2) := by decide +kernel
theorem d_Li_init_16 : decode b_Li_init 16 = .ok (.newarray .int, 2) := by decide +kernel
theorem d_Li_init_18 : decode b_Li_init 18 = .ok (.putfield 17, 3) := by decide +kernel
theorem d_Li_init_21 : decode b_Li_init 21 = .ok (.aload_n 0, 1) := by decide +kernel
theorem d_Li_init_22 : decode b_Li_init 22 = .ok (.new 21, 3) := by decide +kernel
theorem d_Li_init_25 : decode b_Li_init 25 = .ok (.dup, 1) := by decide +kernel
theorem d_Li_init_26 : decode b_Li_init 26 = .ok (.invokespecial 23, 3) := by decide +kernel
theorem d_Li_init_29 : decode b_Li_init 29 = .ok (.putfield 24, 3) := by decide +kernel
theorem d_Li_init_32 : decode b_Li_init 32 = .ok (.aload_n 0, 1) := by decide +kernel
theorem d_Li_init_33 : decode b_Li_init 33 = .ok (.bipush 96, 2) := by decide +kernel
theorem d_Li_init_35 : decode b_Li_init 35 = .ok (.newarray .boolean, 2) := by decide +kernel
theorem d_Li_init_37 : decode b_Li_init 37 = .ok (.putfield 28, 3) := by decide +kernel
theorem d_Li_init_40 : decode b_Li_init 40 = .ok (.aload_n 0, 1) := by decide +kernel
theorem d_Li_init_41 : decode b_Li_init 41 = .ok (.bipush 96, 2) := by decide +kernel
theorem d_Li_init_43 : decode b_Li_init 43 = .ok (.newarray .int, 2) := by decide +kernel
theorem d_Li_init_45 : decode b_Li_init 45 = .ok (.putfield 32, 3) := by decide +kernel
theorem d_Li_init_48 : decode b_Li_init 48 = .ok (.aload_n 0, 1) := by decide +kernel
theorem d_Li_init_49 : decode b_Li_init 49 = .ok (.bipush 96, 2) := by decide +kernel
theorem d_Li_init_51 : decode b_Li_init 51 = .ok (.newarray .int, 2) := by decide +kernel
theorem d_Li_init_53 : decode b_Li_init 53 = .ok (.putfield 35, 3) := by decide +kernel
theorem d_Li_init_56 : decode b_Li_init 56 = .ok (.aload_n 0, 1) := by decide +kernel
theorem d_Li_init_57 : decode b_Li_init 57 = .ok (.sipush 4096, 3) := by decide +kernel
theorem d_Li_init_60 : decode b_Li_init 60 = .ok (.newarray .int, 2) := by decide +kernel
theorem d_Li_init_62 : decode b_Li_init 62 = .ok (.putfield 38, 3) := by decide +kernel
theorem d_Li_init_65 : decode b_Li_init 65 = .ok (.aload_n 0, 1) := by decide +kernel
theorem d_Li_init_66 : decode b_Li_init 66 = .ok (.iconst (-1), 1) := by decide +kernel
theorem d_Li_init_67 : decode b_Li_init 67 = .ok (.putfield 41, 3) := by decide +kernel
theorem d_Li_init_70 : decode b_Li_init 70 = .ok (.aload_n 0, 1) := by decide +kernel
theorem d_Li_init_71 : decode b_Li_init 71 = .ok (.iconst (-1), 1) := by decide +kernel
theorem d_Li_init_72 : decode b_Li_init 72 = .ok (.putfield 45, 3) := by decide +kernel
theorem d_Li_init_75 : decode b_Li_init 75 = .ok (.return_, 1) := by decide +kernel
theorem d_NT_init_0 : decode b_NT_init 0 = .ok (.aload_n 0, 1) := by decide +kernel
theorem d_NT_init_1 : decode b_NT_init 1 = .ok (.invokespecial 3, 3) := by decide +kernel
theorem d_NT_init_4 : decode b_NT_init 4 = .ok (.aload_n 0, 1) := by decide +kernel
theorem d_NT_init_5 : decode b_NT_init 5 = .ok (.sipush 144, 3) := by decide +kernel
theorem d_NT_init_8 : decode b_NT_init 8 = .ok (.anewarray 9, 3) := by decide +kernel
theorem d_NT_init_11 : decode b_NT_init 11 = .ok (.putfield 11, 3) := by decide +kernel
theorem d_NT_init_14 : decode b_NT_init 14 = .ok (.aload_n 0, 1) := by decide +kernel
theorem d_NT_init_15 : decode b_NT_init 15 = .ok (.sipush 144, 3) := by decide +kernel
theorem d_NT_init_18 : decode b_NT_init 18 = .ok (.anewarray 9, 3) := by decide +kernel
theorem d_NT_init_21 : decode b_NT_init 21 = .ok (.putfield 17, 3) := by decide +kernel
theorem d_NT_init_24 : decode b_NT_init 24 = .ok (.aload_n 0, 1) := by decide +kernel
theorem d_NT_init_25 : decode b_NT_init 25 = .ok (.sipush 144, 3) := by decide +kernel
theorem d_NT_init_28 : decode b_NT_init 28 = .ok (.anewarray 9, 3) := by decide +kernel
theorem d_NT_init_31 : decode b_NT_init 31 = .ok (.putfield 20, 3) := by decide +kernel
theorem d_NT_init_34 : decode b_NT_init 34 = .ok (.iconst 0, 1) := by decide +kernel
theorem d_NT_init_35 : decode b_NT_init 35 = .ok (.istore_n 1, 1) := by decide +kernel
theorem d_NT_init_36 : decode b_NT_init 36 = .ok (.iload_n 1, 1) := by decide +kernel
theorem d_NT_init_37 : decode b_NT_init 37 = .ok (.sipush 144, 3) := by decide +kernel
theorem d_NT_init_40 : decode b_NT_init 40 = .ok (.if_icmp .ge 22, 3) := by decide +kernel
theorem d_NT_init_43 : decode b_NT_init 43 = .ok (.aload_n 0, 1) := by decide +kernel
theorem d_NT_init_44 : decode b_NT_init 44 = .ok (.getfield 11, 3) := by decide +kernel
theorem d_NT_init_47 : decode b_NT_init 47 = .ok (.iload_n 1, 1) := by decide +kernel
theorem d_NT_init_48 : decode b_NT_init 48 = .ok (.new 9, 3) := by decide +kernel
theorem d_NT_init_51 : decode b_NT_init 51 = .ok (.dup, 1) := by decide +kernel
theorem d_NT_init_52 : decode b_NT_init 52 = .ok (.invokespecial 23, 3) := by decide +kernel
theorem d_NT_init_55 : decode b_NT_init 55 = .ok (.aastore, 1) := by decide +kernel
theorem d_NT_init_56 : decode b_NT_init 56 = .ok (.iinc 1 1, 3) := by decide +kernel
theorem d_NT_init_59 : decode b_NT_init 59 = .ok (.goto (-23), 3) := by decide +kernel
theorem d_NT_init_62 : decode b_NT_init 62 = .ok (.return_, 1) := by decide +kernel
theorem d_Me_init_0 : decode b_Me_init 0 = .ok (.aload_n 0, 1) := by decide +kernel
theorem d_Me_init_1 : decode b_Me_init 1 = .ok (.invokespecial 3, 3) := by decide +kernel
theorem d_Me_init_4 : decode b_Me_init 4 = .ok (.return_, 1) := by decide +kernel
theorem d_Oc_init_0 : decode b_Oc_init 0 = .ok (.aload_n 0, 1) := by decide +kernel
theorem d_Oc_init_1 : decode b_Oc_init 1 = .ok (.invokespecial 3, 3) := by decide +kernel
theorem d_Oc_init_4 : decode b_Oc_init 4 = .ok (.aload_n 0, 1) := by decide +kernel
theorem d_Oc_init_5 : decode b_Oc_init 5 = .ok (.sipush 1303, 3) := by decide +kernel
theorem d_Oc_init_8 : decode b_Oc_init 8 = .ok (.newarray .int, 2) := by decide +kernel
theorem d_Oc_init_10 : decode b_Oc_init 10 = .ok (.putfield 9, 3) := by decide +kernel
theorem d_Oc_init_13 : decode b_Oc_init 13 = .ok (.return_, 1) := by decide +kernel
theorem d_OL_nameAt_0 : decode b_OL_nameAt 0 = .ok (.aload_n 0, 1) := by decide +kernel
theorem d_OL_nameAt_1 : decode b_OL_nameAt 1 = .ok (.getfield 18, 3) := by decide +kernel
theorem d_OL_nameAt_4 : decode b_OL_nameAt 4 = .ok (.iload_n 1, 1) := by decide +kernel
theorem d_OL_nameAt_5 : decode b_OL_nameAt 5 = .ok (.invokevirtual 188, 3) := by decide +kernel
theorem d_OL_nameAt_8 : decode b_OL_nameAt 8 = .ok (.ireturn, 1) := by decide +kernel
theorem d_Li_addressOfNumber_0 : decode b_Li_addressOfNumber 0 = .ok (.aload_n 0, 1) := by decide +kernel
theorem d_Li_addressOfNumber_1 : decode b_Li_addressOfNumber 1 = .ok (.getfield 51, 3) := by decide +kernel
theorem d_Li_addressOfNumber_4 : decode b_Li_addressOfNumber 4 = .ok (.ifCond .eq 14, 3) := by decide +kernel
theorem d_Li_addressOfNumber_7 : decode b_Li_addressOfNumber 7 = .ok (.aload_n 0, 1) := by decide +kernel
theorem d_Li_addressOfNumber_8 : decode b_Li_addressOfNumber 8 = .ok (.getfield 24, 3) := by decide +kernel
theorem d_Li_addressOfNumber_11 : decode b_Li_addressOfNumber 11 = .ok (.iload_n 1, 1) := by decide +kernel
theorem d_Li_addressOfNumber_12 : decode b_Li_addressOfNumber 12 = .ok (.invokevirtual 58, 3) := by decide +kernel
theorem d_Li_addressOfNumber_15 : decode b_Li_addressOfNumber 15 = .ok (.goto 4, 3) := by decide +kernel
theorem d_Li_addressOfNumber_18 : decode b_Li_addressOfNumber 18 = .ok (.aconst_null, 1) := by decide +kernel
theorem d_Li_addressOfNumber_19 : decode b_Li_addressOfNumber 19 = .ok (.astore_n 2, 1) := by decide +kernel
theorem d_Li_addressOfNumber_20 : decode b_Li_addressOfNumber 20 = .ok (.aload_n 2, 1) := by decide +kernel
theorem d_Li_addressOfNumber_21 : decode b_Li_addressOfNumber 21 = .ok (.ifnonnull 7, 3) := by decide +kernel
theorem d_Li_addressOfNumber_24 : decode b_Li_addressOfNumber 24 = .ok (.iconst (-1), 1) := by decide +kernel
theorem d_Li_addressOfNumber_25 : decode b_Li_addressOfNumber 25 = .ok (.goto 8, 3) := by decide +kernel
theorem d_Li_addressOfNumber_28 : decode b_Li_addressOfNumber 28 = .ok (.aload_n 0, 1) := by decide +kernel
theorem d_Li_addressOfNumber_29 : decode b_Li_addressOfNumber 29 = .ok (.aload_n 2, 1) := by decide +kernel
theorem d_Li_addressOfNumber_30 : decode b_Li_addressOfNumber 30 = .ok (.invokevirtual 62, 3) := by decide +kernel
theorem d_Li_addressOfNumber_33 : decode b_Li_addressOfNumber 33 = .ok (.ireturn, 1) := by decide +kernel
theorem d_NT_findOrNull_0 : decode b_NT_findOrNull 0 = .ok (.iconst 0, 1) := by decide +kernel
theorem d_NT_findOrNull_1 : decode b_NT_findOrNull 1 = .ok (.istore_n 2, 1) := by decide +kernel
theorem d_NT_findOrNull_2 : decode b_NT_findOrNull 2 = .ok (.iload_n 2, 1) := by decide +kernel
theorem d_NT_findOrNull_3 : decode b_NT_findOrNull 3 = .ok (.aload_n 0, 1) := by decide +kernel
theorem d_NT_findOrNull_4 : decode b_NT_findOrNull 4 = .ok (.getfield 24, 3) := by decide +kernel
theorem d_NT_findOrNull_7 : decode b_NT_findOrNull 7 = .ok (.if_icmp .ge 29, 3) := by decide +kernel
theorem d_NT_findOrNull_10 : decode b_NT_findOrNull 10 = .ok (.aload_n 0, 1) := by decide +kernel
theorem d_NT_findOrNull_11 : decode b_NT_findOrNull 11 = .ok (.getfield 11, 3) := by decide +kernel
theorem d_NT_findOrNull_14 : decode b_NT_findOrNull 14 = .ok (.iload_n 2, 1) := by decide +kernel
theorem d_NT_findOrNull_15 : decode b_NT_findOrNull 15 = .ok (.aaload, 1) := by decide +kernel
theorem d_NT_findOrNull_16 : decode b_NT_findOrNull 16 = .ok (.getfield 31, 3) := by decide +kernel
theorem d_NT_findOrNull_19 : decode b_NT_findOrNull 19 = .ok (.iload_n 1, 1) := by decide +kernel
theorem d_NT_findOrNull_20 : decode b_NT_findOrNull 20 = .ok (.if_icmp .ne 10, 3) := by decide +kernel
theorem d_NT_findOrNull_23 : decode b_NT_findOrNull 23 = .ok (.aload_n 0, 1) := by decide +kernel
theorem d_NT_findOrNull_24 : decode b_NT_findOrNull 24 = .ok (.getfield 11, 3) := by decide +kernel
theorem d_NT_findOrNull_27 : decode b_NT_findOrNull 27 = .ok (.iload_n 2, 1) := by decide +kernel
theorem d_NT_findOrNull_28 : decode b_NT_findOrNull 28 = .ok (.aaload, 1) := by decide +kernel
theorem d_NT_findOrNull_29 : decode b_NT_findOrNull 29 = .ok (.areturn, 1) := by decide +kernel
theorem d_NT_findOrNull_30 : decode b_NT_findOrNull 30 = .ok (.iinc 2 1, 3) := by decide +kernel
theorem d_NT_findOrNull_33 : decode b_NT_findOrNull 33 = .ok (.goto (-31), 3) := by decide +kernel
theorem d_NT_findOrNull_36 : decode b_NT_findOrNull 36 = .ok (.aconst_null, 1) := by decide +kernel
theorem d_NT_findOrNull_37 : decode b_NT_findOrNull 37 = .ok (.areturn, 1) := by decide +kernel
theorem d_Li_addressOf_0 : decode b_Li_addressOf 0 = .ok (.aload_n 1, 1) := by decide +kernel
theorem d_Li_addressOf_1 : decode b_Li_addressOf 1 = .ok (.getfield 66, 3) := by decide +kernel
theorem d_Li_addressOf_4 : decode b_Li_addressOf 4 = .ok (.iconst 3, 1) := by decide +kernel
theorem d_Li_addressOf_5 : decode b_Li_addressOf 5 = .ok (.if_icmp .ne 5, 3) := by decide +kernel
theorem d_Li_addressOf_8 : decode b_Li_addressOf 8 = .ok (.iconst (-1), 1) := by decide +kernel
theorem d_Li_addressOf_9 : decode b_Li_addressOf 9 = .ok (.ireturn, 1) := by decide +kernel
theorem d_Li_addressOf_10 : decode b_Li_addressOf 10 = .ok (.aload_n 1, 1) := by decide +kernel
theorem d_Li_addressOf_11 : decode b_Li_addressOf 11 = .ok (.getfield 66, 3) := by decide +kernel
theorem d_Li_addressOf_14 : decode b_Li_addressOf 14 = .ok (.iconst 2, 1) := by decide +kernel
theorem d_Li_addressOf_15 : decode b_Li_addressOf 15 = .ok (.if_icmp .ne 8, 3) := by decide +kernel
theorem d_Li_addressOf_18 : decode b_Li_addressOf 18 = .ok (.aload_n 1, 1) := by decide +kernel
theorem d_Li_addressOf_19 : decode b_Li_addressOf 19 = .ok (.getfield 71, 3) := by decide +kernel
theorem d_Li_addressOf_22 : decode b_Li_addressOf 22 = .ok (.ireturn, 1) := by decide +kernel
theorem d_Li_addressOf_23 : decode b_Li_addressOf 23 = .ok (.aload_n 0, 1) := by decide +kernel
theorem d_Li_addressOf_24 : decode b_Li_addressOf 24 = .ok (.getfield 28, 3) := by decide +kernel
theorem d_Li_addressOf_27 : decode b_Li_addressOf 27 = .ok (.aload_n 1, 1) := by decide +kernel
theorem d_Li_addressOf_28 : decode b_Li_addressOf 28 = .ok (.getfield 74, 3) := by decide +kernel
theorem d_Li_addressOf_31 : decode b_Li_addressOf 31 = .ok (.baload, 1) := by decide +kernel
theorem d_Li_addressOf_32 : decode b_Li_addressOf 32 = .ok (.ifCond .eq 20, 3) := by decide +kernel
theorem d_Li_addressOf_35 : decode b_Li_addressOf 35 = .ok (.aload_n 0, 1) := by decide +kernel
theorem d_Li_addressOf_36 : decode b_Li_addressOf 36 = .ok (.getfield 35, 3) := by decide +kernel
theorem d_Li_addressOf_39 : decode b_Li_addressOf 39 = .ok (.aload_n 1, 1) := by decide +kernel
theorem d_Li_addressOf_40 : decode b_Li_addressOf 40 = .ok (.getfield 74, 3) := by decide +kernel
theorem d_Li_addressOf_43 : decode b_Li_addressOf 43 = .ok (.iaload, 1) := by decide +kernel
theorem d_Li_addressOf_44 : decode b_Li_addressOf 44 = .ok (.aload_n 1, 1) := by decide +kernel
theorem d_Li_addressOf_45 : decode b_Li_addressOf 45 = .ok (.getfield 77, 3) := by decide +kernel
theorem d_Li_addressOf_48 : decode b_Li_addressOf 48 = .ok (.iadd, 1) := by decide +kernel
theorem d_Li_addressOf_49 : decode b_Li_addressOf 49 = .ok (.goto 4, 3) := by decide +kernel
theorem d_Li_addressOf_52 : decode b_Li_addressOf 52 = .ok (.iconst (-1), 1) := by decide +kernel
theorem d_Li_addressOf_53 : decode b_Li_addressOf 53 = .ok (.ireturn, 1) := by decide +kernel
theorem d_OL_count_0 : decode b_OL_count 0 = .ok (.iload_n 1, 1) := by decide +kernel
theorem d_OL_count_1 : decode b_OL_count 1 = .ok (.tableswitch 96 0 6 #[43, 48, 56, 64, 72, 80, 88], 43) := by decide +kernel
theorem d_OL_count_44 : decode b_OL_count 44 = .ok (.aload_n 0, 1) := by decide +kernel
theorem d_OL_count_45 : decode b_OL_count 45 = .ok (.getfield 29, 3) := by decide +kernel
theorem d_OL_count_48 : decode b_OL_count 48 = .ok (.ireturn, 1) := by decide +kernel
theorem d_OL_count_49 : decode b_OL_count 49 = .ok (.aload_n 0, 1) := by decide +kernel
theorem d_OL_count_50 : decode b_OL_count 50 = .ok (.getfield 18, 3) := by decide +kernel
theorem d_OL_count_53 : decode b_OL_count 53 = .ok (.getfield 143, 3) := by decide +kernel
theorem d_OL_count_56 : decode b_OL_count 56 = .ok (.ireturn, 1) := by decide +kernel
theorem d_OL_count_57 : decode b_OL_count 57 = .ok (.aload_n 0, 1) := by decide +kernel
theorem d_OL_count_58 : decode b_OL_count 58 = .ok (.getfield 18, 3) := by decide +kernel
theorem d_OL_count_61 : decode b_OL_count 61 = .ok (.getfield 157, 3) := by decide +kernel
theorem d_OL_count_64 : decode b_OL_count 64 = .ok (.ireturn, 1) := by decide +kernel
theorem d_OL_count_65 : decode b_OL_count 65 = .ok (.aload_n 0, 1) := by decide +kernel
theorem d_OL_count_66 : decode b_OL_count 66 = .ok (.getfield 18, 3) := by decide +kernel
theorem d_OL_count_69 : decode b_OL_count 69 = .ok (.getfield 216, 3) := by decide +kernel
theorem d_OL_count_72 : decode b_OL_count 72 = .ok (.ireturn, 1) := by decide +kernel
theorem d_OL_count_73 : decode b_OL_count 73 = .ok (.aload_n 0, 1) := by decide +kernel
theorem d_OL_count_74 : decode b_OL_count 74 = .ok (.getfield 18, 3) := by decide +kernel
theorem d_OL_count_77 : decode b_OL_count 77 = .ok (.getfield 219, 3) := by decide +kernel
theorem d_OL_count_80 : decode b_OL_count 80 = .ok (.ireturn, 1) := by decide +kernel
theorem d_OL_count_81 : decode b_OL_count 81 = .ok (.aload_n 0, 1) := by decide +kernel
theorem d_OL_count_82 : decode b_OL_count 82 = .ok (.getfield 18, 3) := by decide +kernel
theorem d_OL_count_85 : decode b_OL_count 85 = .ok (.getfield 222, 3) := by decide +kernel
theorem d_OL_count_88 : decode b_OL_count 88 = .ok (.ireturn, 1) := by decide +kernel
theorem d_OL_count_89 : decode b_OL_count 89 = .ok (.aload_n 0, 1) := by decide +kernel
theorem d_OL_count_90 : decode b_OL_count 90 = .ok (.getfield 25, 3) := by decide +kernel
theorem d_OL_count_93 : decode b_OL_count 93 = .ok (.getfield 195, 3) := by decide +kernel
theorem d_OL_count_96 : decode b_OL_count 96 = .ok (.ireturn, 1) := by decide +kernel
theorem d_OL_count_97 : decode b_OL_count 97 = .ok (.aload_n 0, 1) := by decide +kernel
theorem d_OL_count_98 : decode b_OL_count 98 = .ok (.iload_n 1, 1) := by decide +kernel
theorem d_OL_count_99 : decode b_OL_count 99 = .ok (.invokevirtual 225, 3) := by decide +kernel
theorem d_OL_count_102 : decode b_OL_count 102 = .ok (.ireturn, 1) := by decide +kernel
theorem d_OL_countOfLatest_0 : decode b_OL_countOfLatest 0 = .ok (.aload_n 0, 1) := by decide +kernel
theorem d_OL_countOfLatest_1 : decode b_OL_countOfLatest 1 = .ok (.aload_n 0, 1) := by decide +kernel
theorem d_OL_countOfLatest_2 : decode b_OL_countOfLatest 2 = .ok (.getfield 29, 3) := by decide +kernel
theorem d_OL_countOfLatest_5 : decode b_OL_countOfLatest 5 = .ok (.iconst 1, 1) := by decide +kernel
theorem d_OL_countOfLatest_6 : decode b_OL_countOfLatest 6 = .ok (.isub, 1) := by decide +kernel
theorem d_OL_countOfLatest_7 : decode b_OL_countOfLatest 7 = .ok (.invokevirtual 228, 3) := by decide +kernel
theorem d_OL_countOfLatest_10 : decode b_OL_countOfLatest 10 = .ok (.astore_n 2, 1) := by decide +kernel
theorem d_OL_countOfLatest_11 : decode b_OL_countOfLatest 11 = .ok (.aload_n 2, 1) := by decide +kernel
theorem d_OL_countOfLatest_12 : decode b_OL_countOfLatest 12 = .ok (.ifnonnull 5, 3) := by decide +kernel
theorem d_OL_countOfLatest_15 : decode b_OL_countOfLatest 15 = .ok (.iconst (-1), 1) := by decide +kernel
theorem d_OL_countOfLatest_16 : decode b_OL_countOfLatest 16 = .ok (.ireturn, 1) := by decide +kernel
theorem d_OL_countOfLatest_17 : decode b_OL_countOfLatest 17 = .ok (.iload_n 1, 1) := by decide +kernel
theorem d_OL_countOfLatest_18 : decode b_OL_countOfLatest 18 = .ok (.tableswitch 41 7 9 #[26, 31, 36], 26) := by decide +kernel
theorem d_OL_countOfLatest_44 : decode b_OL_countOfLatest 44 = .ok (.aload_n 2, 1) := by decide +kernel
theorem d_OL_countOfLatest_45 : decode b_OL_countOfLatest 45 = .ok (.getfield 60, 3) := by decide +kernel
theorem d_OL_countOfLatest_48 : decode b_OL_countOfLatest 48 = .ok (.ireturn, 1) := by decide +kernel
theorem d_OL_countOfLatest_49 : decode b_OL_countOfLatest 49 = .ok (.aload_n 2, 1) := by decide +kernel
theorem d_OL_countOfLatest_50 : decode b_OL_countOfLatest 50 = .ok (.getfield 97, 3) := by decide +kernel
theorem d_OL_countOfLatest_53 : decode b_OL_countOfLatest 53 = .ok (.ireturn, 1) := by decide +kernel
theorem d_OL_countOfLatest_54 : decode b_OL_countOfLatest 54 = .ok (.aload_n 2, 1) := by decide +kernel
theorem d_OL_countOfLatest_55 : decode b_OL_countOfLatest 55 = .ok (.getfield 116, 3) := by decide +kernel
theorem d_OL_countOfLatest_58 : decode b_OL_countOfLatest 58 = .ok (.ireturn, 1) := by decide +kernel
theorem d_OL_countOfLatest_59 : decode b_OL_countOfLatest 59 = .ok (.iconst (-1), 1) := by decide +kernel
theorem d_OL_countOfLatest_60 : decode b_OL_countOfLatest 60 = .ok (.ireturn, 1) := by decide +kernel
theorem d_OL_unitOrNull_0 : decode b_OL_unitOrNull 0 = .ok (.iload_n 1, 1) := by decide +kernel
theorem d_OL_unitOrNull_1 : decode b_OL_unitOrNull 1 = .ok (.ifCond .lt 20, 3) := by decide +kernel
theorem d_OL_unitOrNull_4 : decode b_OL_unitOrNull 4 = .ok (.iload_n 1, 1) := by decide +kernel
theorem d_OL_unitOrNull_5 : decode b_OL_unitOrNull 5 = .ok (.aload_n 0, 1) := by decide +kernel
theorem d_OL_unitOrNull_6 : decode b_OL_unitOrNull 6 = .ok (.getfield 29, 3) := by decide +kernel
theorem d_OL_unitOrNull_9 : decode b_OL_unitOrNull 9 = .ok (.if_icmp .ge 12, 3) := by decide +kernel
theorem d_OL_unitOrNull_12 : decode b_OL_unitOrNull 12 = .ok (.aload_n 0, 1) := by decide +kernel
theorem d_OL_unitOrNull_13 : decode b_OL_unitOrNull 13 = .ok (.getfield 11, 3) := by decide +kernel
theorem d_OL_unitOrNull_16 : decode b_OL_unitOrNull 16 = .ok (.iload_n 1, 1) := by decide +kernel
theorem d_OL_unitOrNull_17 : decode b_OL_unitOrNull 17 = .ok (.aaload, 1) := by decide +kernel
theorem d_OL_unitOrNull_18 : decode b_OL_unitOrNull 18 = .ok (.goto 4, 3) := by decide +kernel
theorem d_OL_unitOrNull_21 : decode b_OL_unitOrNull 21 = .ok (.aconst_null, 1) := by decide +kernel
theorem d_OL_unitOrNull_22 : decode b_OL_unitOrNull 22 = .ok (.areturn, 1) := by decide +kernel
theorem d_OL_object_0 : decode b_OL_object 0 = .ok (.aload_n 0, 1) := by decide +kernel
theorem d_OL_object_1 : decode b_OL_object 1 = .ok (.getfield 29, 3) := by decide +kernel
theorem d_OL_object_4 : decode b_OL_object 4 = .ok (.bipush 12, 2) := by decide +kernel
theorem d_OL_object_6 : decode b_OL_object 6 = .ok (.if_icmp .lt 13, 3) := by decide +kernel
theorem d_OL_object_9 : decode b_OL_object 9 = .ok (.new 33, 3) := by decide +kernel
theorem d_OL_object_12 : decode b_OL_object 12 = .ok (.dup, 1) := by decide +kernel
theorem d_OL_object_13 : decode b_OL_object 13 = .ok (.ldc 35, 2) := by decide +kernel
theorem d_OL_object_15 : decode b_OL_object 15 = .ok (.invokespecial 37, 3) := by decide +kernel
theorem d_OL_object_18 : decode b_OL_object 18 = .ok (.athrow, 1) := by decide +kernel
theorem d_OL_object_19 : decode b_OL_object 19 = .ok (.aload_n 0, 1) := by decide +kernel
theorem d_OL_object_20 : decode b_OL_object 20 = .ok (.new 9, 3) := by decide +kernel
theorem d_OL_object_23 : decode b_OL_object 23 = .ok (.dup, 1) := by decide +kernel
theorem d_OL_object_24 : decode b_OL_object 24 = .ok (.invokespecial 40, 3) := by decide +kernel
theorem d_OL_object_27 : decode b_OL_object 27 = .ok (.invokevirtual 41, 3) := by decide +kernel
theorem d_OL_object_30 : decode b_OL_object 30 = .ok (.ireturn, 1) := by decide +kernel
theorem d_Un_init_0 : decode b_Un_init 0 = .ok (.aload_n 0, 1) := by decide +kernel
theorem d_Un_init_1 : decode b_Un_init 1 = .ok (.invokespecial 3, 3) := by decide +kernel
theorem d_Un_init_4 : decode b_Un_init 4 = .ok (.aload_n 0, 1) := by decide +kernel
theorem d_Un_init_5 : decode b_Un_init 5 = .ok (.bipush 8, 2) := by decide +kernel
theorem d_Un_init_7 : decode b_Un_init 7 = .ok (.anewarray 9, 3) := by decide +kernel
theorem d_Un_init_10 : decode b_Un_init 10 = .ok (.putfield 11, 3) := by decide +kernel
theorem d_Un_init_13 : decode b_Un_init 13 = .ok (.aload_n 0, 1) := by decide +kernel
theorem d_Un_init_14 : decode b_Un_init 14 = .ok (.bipush 12, 2) := by decide +kernel
theorem d_Un_init_16 : decode b_Un_init 16 = .ok (.anewarray 17, 3) := by decide +kernel
theorem d_Un_init_19 : decode b_Un_init 19 = .ok (.putfield 19, 3) := by decide +kernel
theorem d_Un_init_22 : decode b_Un_init 22 = .ok (.aload_n 0, 1) := by decide +kernel
theorem d_Un_init_23 : decode b_Un_init 23 = .ok (.bipush 16, 2) := by decide +kernel
theorem d_Un_init_25 : decode b_Un_init 25 = .ok (.anewarray 23, 3) := by decide +kernel
theorem d_Un_init_28 : decode b_Un_init 28 = .ok (.putfield 25, 3) := by decide +kernel
theorem d_Un_init_31 : decode b_Un_init 31 = .ok (.return_, 1) := by decide +kernel
theorem d_OL_keep_0 : decode b_OL_keep 0 = .ok (.aload_n 0, 1) := by decide +kernel
theorem d_OL_keep_1 : decode b_OL_keep 1 = .ok (.getfield 11, 3) := by decide +kernel
theorem d_OL_keep_4 : decode b_OL_keep 4 = .ok (.aload_n 0, 1) := by decide +kernel
theorem d_OL_keep_5 : decode b_OL_keep 5 = .ok (.getfield 29, 3) := by decide +kernel
theorem d_OL_keep_8 : decode b_OL_keep 8 = .ok (.aload_n 1, 1) := by decide +kernel
theorem d_OL_keep_9 : decode b_OL_keep 9 = .ok (.aastore, 1) := by decide +kernel
theorem d_OL_keep_10 : decode b_OL_keep 10 = .ok (.aload_n 0, 1) := by decide +kernel
theorem d_OL_keep_11 : decode b_OL_keep 11 = .ok (.dup, 1) := by decide +kernel
theorem d_OL_keep_12 : decode b_OL_keep 12 = .ok (.getfield 29, 3) := by decide +kernel
theorem d_OL_keep_15 : decode b_OL_keep 15 = .ok (.iconst 1, 1) := by decide +kernel
theorem d_OL_keep_16 : decode b_OL_keep 16 = .ok (.iadd, 1) := by decide +kernel
theorem d_OL_keep_17 : decode b_OL_keep 17 = .ok (.putfield 29, 3) := by decide +kernel
theorem d_OL_keep_20 : decode b_OL_keep 20 = .ok (.aload_n 0, 1) := by decide +kernel
theorem d_OL_keep_21 : decode b_OL_keep 21 = .ok (.getfield 29, 3) := by decide +kernel
theorem d_OL_keep_24 : decode b_OL_keep 24 = .ok (.iconst 1, 1) := by decide +kernel
theorem d_OL_keep_25 : decode b_OL_keep 25 = .ok (.isub, 1) := by decide +kernel
theorem d_OL_keep_26 : decode b_OL_keep 26 = .ok (.ireturn, 1) := by decide +kernel
theorem d_OL_section_0 : decode b_OL_section 0 = .ok (.aload_n 0, 1) := by decide +kernel
theorem d_OL_section_1 : decode b_OL_section 1 = .ok (.iload_n 1, 1) := by decide +kernel
theorem d_OL_section_2 : decode b_OL_section 2 = .ok (.invokevirtual 45, 3) := by decide +kernel
theorem d_OL_section_5 : decode b_OL_section 5 = .ok (.astore 5, 2) := by decide +kernel
theorem d_OL_section_7 : decode b_OL_section 7 = .ok (.iload_n 2, 1) := by decide +kernel
theorem d_OL_section_8 : decode b_OL_section 8 = .ok (.iload_n 3, 1) := by decide +kernel
theorem d_OL_section_9 : decode b_OL_section 9 = .ok (.iload 4, 2) := by decide +kernel
theorem d_OL_section_11 : decode b_OL_section 11 = .ok (.invokestatic 49, 3) := by decide +kernel
theorem d_OL_section_14 : decode b_OL_section 14 = .ok (.ifCond .ne 13, 3) := by decide +kernel
theorem d_OL_section_17 : decode b_OL_section 17 = .ok (.new 55, 3) := by decide +kernel
theorem d_OL_section_20 : decode b_OL_section 20 = .ok (.dup, 1) := by decide +kernel
theorem d_OL_section_21 : decode b_OL_section 21 = .ok (.ldc 57, 2) := by decide +kernel
theorem d_OL_section_23 : decode b_OL_section 23 = .ok (.invokespecial 59, 3) := by decide +kernel
theorem d_OL_section_26 : decode b_OL_section 26 = .ok (.athrow, 1) := by decide +kernel
theorem d_OL_section_27 : decode b_OL_section 27 = .ok (.aload 5, 2) := by decide +kernel
theorem d_OL_section_29 : decode b_OL_section 29 = .ok (.getfield 60, 3) := by decide +kernel
theorem d_OL_section_32 : decode b_OL_section 32 = .ok (.bipush 8, 2) := by decide +kernel
theorem d_OL_section_34 : decode b_OL_section 34 = .ok (.if_icmp .lt 13, 3) := by decide +kernel
theorem d_OL_section_37 : decode b_OL_section 37 = .ok (.new 33, 3) := by decide +kernel
theorem d_OL_section_40 : decode b_OL_section 40 = .ok (.dup, 1) := by decide +kernel
theorem d_OL_section_41 : decode b_OL_section 41 = .ok (.ldc 63, 2) := by decide +kernel
theorem d_OL_section_43 : decode b_OL_section 43 = .ok (.invokespecial 37, 3) := by decide +kernel
theorem d_OL_section_46 : decode b_OL_section 46 = .ok (.athrow, 1) := by decide +kernel
theorem d_OL_section_47 : decode b_OL_section 47 = .ok (.aload 5, 2) := by decide +kernel
theorem d_OL_section_49 : decode b_OL_section 49 = .ok (.new 50, 3) := by decide +kernel
theorem d_OL_section_52 : decode b_OL_section 52 = .ok (.dup, 1) := by decide +kernel
theorem d_OL_section_53 : decode b_OL_section 53 = .ok (.iload_n 2, 1) := by decide +kernel
theorem d_OL_section_54 : decode b_OL_section 54 = .ok (.iload_n 3, 1) := by decide +kernel
theorem d_OL_section_55 : decode b_OL_section 55 = .ok (.iload 4, 2) := by decide +kernel
theorem d_OL_section_57 : decode b_OL_section 57 = .ok (.invokespecial 65, 3) := by decide +kernel
theorem d_OL_section_60 : decode b_OL_section 60 = .ok (.invokevirtual 68, 3) := by decide +kernel
theorem d_OL_section_63 : decode b_OL_section 63 = .ok (.ireturn, 1) := by decide +kernel
theorem d_OL_known_0 : decode b_OL_known 0 = .ok (.aload_n 0, 1) := by decide +kernel
theorem d_OL_known_1 : decode b_OL_known 1 = .ok (.iload_n 1, 1) := by decide +kernel
theorem d_OL_known_2 : decode b_OL_known 2 = .ok (.invokevirtual 228, 3) := by decide +kernel
theorem d_OL_known_5 : decode b_OL_known 5 = .ok (.astore_n 2, 1) := by decide +kernel
theorem d_OL_known_6 : decode b_OL_known 6 = .ok (.aload_n 2, 1) := by decide +kernel
theorem d_OL_known_7 : decode b_OL_known 7 = .ok (.ifnonnull 13, 3) := by decide +kernel
theorem d_OL_known_10 : decode b_OL_known 10 = .ok (.new 169, 3) := by decide +kernel
theorem d_OL_known_13 : decode b_OL_known 13 = .ok (.dup, 1) := by decide +kernel
theorem d_OL_known_14 : decode b_OL_known 14 = .ok (.ldc 230, 2) := by decide +kernel
theorem d_OL_known_16 : decode b_OL_known 16 = .ok (.invokespecial 173, 3) := by decide +kernel
theorem d_OL_known_19 : decode b_OL_known 19 = .ok (.athrow, 1) := by decide +kernel
theorem d_OL_known_20 : decode b_OL_known 20 = .ok (.aload_n 2, 1) := by decide +kernel
theorem d_OL_known_21 : decode b_OL_known 21 = .ok (.areturn, 1) := by decide +kernel
theorem d_Se_canBe_0 : decode b_Se_canBe 0 = .ok (.iload_n 0, 1) := by decide +kernel
theorem d_Se_canBe_1 : decode b_Se_canBe 1 = .ok (.ifCond .lt 30, 3) := by decide +kernel
theorem d_Se_canBe_4 : decode b_Se_canBe 4 = .ok (.iload_n 0, 1) := by decide +kernel
theorem d_Se_canBe_5 : decode b_Se_canBe 5 = .ok (.iconst 4, 1) := by decide +kernel
theorem d_Se_canBe_6 : decode b_Se_canBe 6 = .ok (.if_icmp .ge 25, 3) := by decide +kernel
theorem d_Se_canBe_9 : decode b_Se_canBe 9 = .ok (.iload_n 1, 1) := by decide +kernel
theorem d_Se_canBe_10 : decode b_Se_canBe 10 = .ok (.invokestatic 25, 3) := by decide +kernel
theorem d_Se_canBe_13 : decode b_Se_canBe 13 = .ok (.ifCond .eq 18, 3) := by decide +kernel
theorem d_Se_canBe_16 : decode b_Se_canBe 16 = .ok (.iload_n 2, 1) := by decide +kernel
theorem d_Se_canBe_17 : decode b_Se_canBe 17 = .ok (.ifCond .lt 14, 3) := by decide +kernel
theorem d_Se_canBe_20 : decode b_Se_canBe 20 = .ok (.iload_n 2, 1) := by decide +kernel
theorem d_Se_canBe_21 : decode b_Se_canBe 21 = .ok (.sipush 128, 3) := by decide +kernel
theorem d_Se_canBe_24 : decode b_Se_canBe 24 = .ok (.if_icmp .gt 7, 3) := by decide +kernel
theorem d_Se_canBe_27 : decode b_Se_canBe 27 = .ok (.iconst 1, 1) := by decide +kernel
theorem d_Se_canBe_28 : decode b_Se_canBe 28 = .ok (.goto 4, 3) := by decide +kernel
theorem d_Se_canBe_31 : decode b_Se_canBe 31 = .ok (.iconst 0, 1) := by decide +kernel
theorem d_Se_canBe_32 : decode b_Se_canBe 32 = .ok (.ireturn, 1) := by decide +kernel
theorem d_Se_powerCanBe_0 : decode b_Se_powerCanBe 0 = .ok (.iload_n 0, 1) := by decide +kernel
theorem d_Se_powerCanBe_1 : decode b_Se_powerCanBe 1 = .ok (.ifCond .lt 13, 3) := by decide +kernel
theorem d_Se_powerCanBe_4 : decode b_Se_powerCanBe 4 = .ok (.iload_n 0, 1) := by decide +kernel
theorem d_Se_powerCanBe_5 : decode b_Se_powerCanBe 5 = .ok (.bipush 6, 2) := by decide +kernel
theorem d_Se_powerCanBe_7 : decode b_Se_powerCanBe 7 = .ok (.if_icmp .gt 7, 3) := by decide +kernel
theorem d_Se_powerCanBe_10 : decode b_Se_powerCanBe 10 = .ok (.iconst 1, 1) := by decide +kernel
theorem d_Se_powerCanBe_11 : decode b_Se_powerCanBe 11 = .ok (.goto 4, 3) := by decide +kernel
theorem d_Se_powerCanBe_14 : decode b_Se_powerCanBe 14 = .ok (.iconst 0, 1) := by decide +kernel
theorem d_Se_powerCanBe_15 : decode b_Se_powerCanBe 15 = .ok (.ireturn, 1) := by decide +kernel
theorem d_Se_init_0 : decode b_Se_init 0 = .ok (.aload_n 0, 1) := by decide +kernel
theorem d_Se_init_1 : decode b_Se_init 1 = .ok (.invokespecial 3, 3) := by decide +kernel
theorem d_Se_init_4 : decode b_Se_init 4 = .ok (.aload_n 0, 1) := by decide +kernel
theorem d_Se_init_5 : decode b_Se_init 5 = .ok (.iload_n 1, 1) := by decide +kernel
theorem d_Se_init_6 : decode b_Se_init 6 = .ok (.putfield 9, 3) := by decide +kernel
theorem d_Se_init_9 : decode b_Se_init 9 = .ok (.aload_n 0, 1) := by decide +kernel
theorem d_Se_init_10 : decode b_Se_init 10 = .ok (.iload_n 2, 1) := by decide +kernel
theorem d_Se_init_11 : decode b_Se_init 11 = .ok (.putfield 15, 3) := by decide +kernel
theorem d_Se_init_14 : decode b_Se_init 14 = .ok (.aload_n 0, 1) := by decide +kernel
theorem d_Se_init_15 : decode b_Se_init 15 = .ok (.iload_n 3, 1) := by decide +kernel
theorem d_Se_init_16 : decode b_Se_init 16 = .ok (.putfield 18, 3) := by decide +kernel
theorem d_Se_init_19 : decode b_Se_init 19 = .ok (.aload_n 0, 1) := by decide +kernel
theorem d_Se_init_20 : decode b_Se_init 20 = .ok (.iload_n 1, 1) := by decide +kernel
theorem d_Se_init_21 : decode b_Se_init 21 = .ok (.iconst 3, 1) := by decide +kernel
theorem d_Se_init_22 : decode b_Se_init 22 = .ok (.if_icmp .eq 7, 3) := by decide +kernel
theorem d_Se_init_25 : decode b_Se_init 25 = .ok (.iload_n 3, 1) := by decide +kernel
theorem d_Se_init_26 : decode b_Se_init 26 = .ok (.ifCond .ge 7, 3) := by decide +kernel
theorem d_Se_init_29 : decode b_Se_init 29 = .ok (.iconst 0, 1) := by decide +kernel
theorem d_Se_init_30 : decode b_Se_init 30 = .ok (.goto 4, 3) := by decide +kernel
theorem d_Se_init_33 : decode b_Se_init 33 = .ok (.iload_n 3, 1) := by decide +kernel
theorem d_Se_init_34 : decode b_Se_init 34 = .ok (.newarray .int, 2) := by decide +kernel
theorem d_Se_init_36 : decode b_Se_init 36 = .ok (.putfield 21, 3) := by decide +kernel
theorem d_Se_init_39 : decode b_Se_init 39 = .ok (.return_, 1) := by decide +kernel
theorem d_Un_addSection_0 : decode b_Un_addSection 0 = .ok (.aload_n 0, 1) := by decide +kernel
theorem d_Un_addSection_1 : decode b_Un_addSection 1 = .ok (.getfield 11, 3) := by decide +kernel
theorem d_Un_addSection_4 : decode b_Un_addSection 4 = .ok (.aload_n 0, 1) := by decide +kernel
theorem d_Un_addSection_5 : decode b_Un_addSection 5 = .ok (.getfield 29, 3) := by decide +kernel
theorem d_Un_addSection_8 : decode b_Un_addSection 8 = .ok (.aload_n 1, 1) := by decide +kernel
theorem d_Un_addSection_9 : decode b_Un_addSection 9 = .ok (.aastore, 1) := by decide +kernel
theorem d_Un_addSection_10 : decode b_Un_addSection 10 = .ok (.aload_n 0, 1) := by decide +kernel
theorem d_Un_addSection_11 : decode b_Un_addSection 11 = .ok (.dup, 1) := by decide +kernel
theorem d_Un_addSection_12 : decode b_Un_addSection 12 = .ok (.getfield 29, 3) := by decide +kernel
theorem d_Un_addSection_15 : decode b_Un_addSection 15 = .ok (.iconst 1, 1) := by decide +kernel
theorem d_Un_addSection_16 : decode b_Un_addSection 16 = .ok (.iadd, 1) := by decide +kernel
theorem d_Un_addSection_17 : decode b_Un_addSection 17 = .ok (.putfield 29, 3) := by decide +kernel
theorem d_Un_addSection_20 : decode b_Un_addSection 20 = .ok (.aload_n 0, 1) := by decide +kernel
theorem d_Un_addSection_21 : decode b_Un_addSection 21 = .ok (.getfield 29, 3) := by decide +kernel
theorem d_Un_addSection_24 : decode b_Un_addSection 24 = .ok (.iconst 1, 1) := by decide +kernel
theorem d_Un_addSection_25 : decode b_Un_addSection 25 = .ok (.isub, 1) := by decide +kernel
theorem d_Un_addSection_26 : decode b_Un_addSection 26 = .ok (.ireturn, 1) := by decide +kernel
theorem d_OL_bytes_0 : decode b_OL_bytes 0 = .ok (.aload_n 0, 1) := by decide +kernel
theorem d_OL_bytes_1 : decode b_OL_bytes 1 = .ok (.iload_n 1, 1) := by decide +kernel
theorem d_OL_bytes_2 : decode b_OL_bytes 2 = .ok (.invokevirtual 45, 3) := by decide +kernel
theorem d_OL_bytes_5 : decode b_OL_bytes 5 = .ok (.iload_n 2, 1) := by decide +kernel
theorem d_OL_bytes_6 : decode b_OL_bytes 6 = .ok (.invokevirtual 72, 3) := by decide +kernel
theorem d_OL_bytes_9 : decode b_OL_bytes 9 = .ok (.astore 5, 2) := by decide +kernel
theorem d_OL_bytes_11 : decode b_OL_bytes 11 = .ok (.aload 5, 2) := by decide +kernel
theorem d_OL_bytes_13 : decode b_OL_bytes 13 = .ok (.ifnull 12, 3) := by decide +kernel
theorem d_OL_bytes_16 : decode b_OL_bytes 16 = .ok (.aload 5, 2) := by decide +kernel
theorem d_OL_bytes_18 : decode b_OL_bytes 18 = .ok (.getfield 76, 3) := by decide +kernel
theorem d_OL_bytes_21 : decode b_OL_bytes 21 = .ok (.iconst 3, 1) := by decide +kernel
theorem d_OL_bytes_22 : decode b_OL_bytes 22 = .ok (.if_icmp .ne 13, 3) := by decide +kernel
theorem d_OL_bytes_25 : decode b_OL_bytes 25 = .ok (.new 55, 3) := by decide +kernel
theorem d_OL_bytes_28 : decode b_OL_bytes 28 = .ok (.dup, 1) := by decide +kernel
theorem d_OL_bytes_29 : decode b_OL_bytes 29 = .ok (.ldc 79, 2) := by decide +kernel
theorem d_OL_bytes_31 : decode b_OL_bytes 31 = .ok (.invokespecial 59, 3) := by decide +kernel
theorem d_OL_bytes_34 : decode b_OL_bytes 34 = .ok (.athrow, 1) := by decide +kernel
theorem d_OL_bytes_35 : decode b_OL_bytes 35 = .ok (.iload_n 3, 1) := by decide +kernel
theorem d_OL_bytes_36 : decode b_OL_bytes 36 = .ok (.ifCond .lt 13, 3) := by decide +kernel
theorem d_OL_bytes_39 : decode b_OL_bytes 39 = .ok (.iload_n 3, 1) := by decide +kernel
theorem d_OL_bytes_40 : decode b_OL_bytes 40 = .ok (.aload 5, 2) := by decide +kernel
theorem d_OL_bytes_42 : decode b_OL_bytes 42 = .ok (.getfield 81, 3) := by decide +kernel
theorem d_OL_bytes_45 : decode b_OL_bytes 45 = .ok (.arraylength, 1) := by decide +kernel
theorem d_OL_bytes_46 : decode b_OL_bytes 46 = .ok (.if_icmp .lt 13, 3) := by decide +kernel
theorem d_OL_bytes_49 : decode b_OL_bytes 49 = .ok (.new 55, 3) := by decide +kernel
theorem d_OL_bytes_52 : decode b_OL_bytes 52 = .ok (.dup, 1) := by decide +kernel
theorem d_OL_bytes_53 : decode b_OL_bytes 53 = .ok (.ldc 85, 2) := by decide +kernel
theorem d_OL_bytes_55 : decode b_OL_bytes 55 = .ok (.invokespecial 59, 3) := by decide +kernel
theorem d_OL_bytes_58 : decode b_OL_bytes 58 = .ok (.athrow, 1) := by decide +kernel
theorem d_OL_bytes_59 : decode b_OL_bytes 59 = .ok (.aload 5, 2) := by decide +kernel
theorem d_OL_bytes_61 : decode b_OL_bytes 61 = .ok (.iload_n 3, 1) := by decide +kernel
theorem d_OL_bytes_62 : decode b_OL_bytes 62 = .ok (.iload 4, 2) := by decide +kernel
theorem d_OL_bytes_64 : decode b_OL_bytes 64 = .ok (.invokevirtual 87, 3) := by decide +kernel
theorem d_OL_bytes_67 : decode b_OL_bytes 67 = .ok (.ireturn, 1) := by decide +kernel
theorem d_Un_sectionOrNull_0 : decode b_Un_sectionOrNull 0 = .ok (.iload_n 1, 1) := by decide +kernel
theorem d_Un_sectionOrNull_1 : decode b_Un_sectionOrNull 1 = .ok (.ifCond .lt 20, 3) := by decide +kernel
theorem d_Un_sectionOrNull_4 : decode b_Un_sectionOrNull 4 = .ok (.iload_n 1, 1) := by decide +kernel
theorem d_Un_sectionOrNull_5 : decode b_Un_sectionOrNull 5 = .ok (.aload_n 0, 1) := by decide +kernel
theorem d_Un_sectionOrNull_6 : decode b_Un_sectionOrNull 6 = .ok (.getfield 29, 3) := by decide +kernel
theorem d_Un_sectionOrNull_9 : decode b_Un_sectionOrNull 9 = .ok (.if_icmp .ge 12, 3) := by decide +kernel
theorem d_Un_sectionOrNull_12 : decode b_Un_sectionOrNull 12 = .ok (.aload_n 0, 1) := by decide +kernel
theorem d_Un_sectionOrNull_13 : decode b_Un_sectionOrNull 13 = .ok (.getfield 11, 3) := by decide +kernel
theorem d_Un_sectionOrNull_16 : decode b_Un_sectionOrNull 16 = .ok (.iload_n 1, 1) := by decide +kernel
theorem d_Un_sectionOrNull_17 : decode b_Un_sectionOrNull 17 = .ok (.aaload, 1) := by decide +kernel
theorem d_Un_sectionOrNull_18 : decode b_Un_sectionOrNull 18 = .ok (.goto 4, 3) := by decide +kernel
theorem d_Un_sectionOrNull_21 : decode b_Un_sectionOrNull 21 = .ok (.aconst_null, 1) := by decide +kernel
theorem d_Un_sectionOrNull_22 : decode b_Un_sectionOrNull 22 = .ok (.areturn, 1) := by decide +kernel
theorem d_Se_overwrite_0 : decode b_Se_overwrite 0 = .ok (.iconst 4, 1) := by decide +kernel
theorem d_Se_overwrite_1 : decode b_Se_overwrite 1 = .ok (.aload_n 0, 1) := by decide +kernel
theorem d_Se_overwrite_2 : decode b_Se_overwrite 2 = .ok (.getfield 21, 3) := by decide +kernel
theorem d_Se_overwrite_5 : decode b_Se_overwrite 5 = .ok (.arraylength, 1) := by decide +kernel
theorem d_Se_overwrite_6 : decode b_Se_overwrite 6 = .ok (.iload_n 1, 1) := by decide +kernel
theorem d_Se_overwrite_7 : decode b_Se_overwrite 7 = .ok (.isub, 1) := by decide +kernel
theorem d_Se_overwrite_8 : decode b_Se_overwrite 8 = .ok (.invokestatic 29, 3) := by decide +kernel
theorem d_Se_overwrite_11 : decode b_Se_overwrite 11 = .ok (.istore_n 3, 1) := by decide +kernel
theorem d_Se_overwrite_12 : decode b_Se_overwrite 12 = .ok (.iconst 0, 1) := by decide +kernel
theorem d_Se_overwrite_13 : decode b_Se_overwrite 13 = .ok (.istore 4, 2) := by decide +kernel
theorem d_Se_overwrite_15 : decode b_Se_overwrite 15 = .ok (.iload 4, 2) := by decide +kernel
theorem d_Se_overwrite_17 : decode b_Se_overwrite 17 = .ok (.iload_n 3, 1) := by decide +kernel
theorem d_Se_overwrite_18 : decode b_Se_overwrite 18 = .ok (.if_icmp .ge 32, 3) := by decide +kernel
theorem d_Se_overwrite_21 : decode b_Se_overwrite 21 = .ok (.aload_n 0, 1) := by decide +kernel
theorem d_Se_overwrite_22 : decode b_Se_overwrite 22 = .ok (.getfield 21, 3) := by decide +kernel
theorem d_Se_overwrite_25 : decode b_Se_overwrite 25 = .ok (.iload_n 1, 1) := by decide +kernel
theorem d_Se_overwrite_26 : decode b_Se_overwrite 26 = .ok (.iload 4, 2) := by decide +kernel
theorem d_Se_overwrite_28 : decode b_Se_overwrite 28 = .ok (.iadd, 1) := by decide +kernel
theorem d_Se_overwrite_29 : decode b_Se_overwrite 29 = .ok (.iload_n 2, 1) := by decide +kernel
theorem d_Se_overwrite_30 : decode b_Se_overwrite 30 = .ok (.bipush 24, 2) := by decide +kernel
theorem d_Se_overwrite_32 : decode b_Se_overwrite 32 = .ok (.bipush 8, 2) := by decide +kernel
theorem d_Se_overwrite_34 : decode b_Se_overwrite 34 = .ok (.iload 4, 2) := by decide +kernel
theorem d_Se_overwrite_36 : decode b_Se_overwrite 36 = .ok (.imul, 1) := by decide +kernel
theorem d_Se_overwrite_37 : decode b_Se_overwrite 37 = .ok (.isub, 1) := by decide +kernel
theorem d_Se_overwrite_38 : decode b_Se_overwrite 38 = .ok (.iushr, 1) := by decide +kernel
theorem d_Se_overwrite_39 : decode b_Se_overwrite 39 = .ok (.sipush 255, 3) := by decide +kernel
theorem d_Se_overwrite_42 : decode b_Se_overwrite 42 = .ok (.iand, 1) := by decide +kernel
theorem d_Se_overwrite_43 : decode b_Se_overwrite 43 = .ok (.iastore, 1) := by decide +kernel
theorem d_Se_overwrite_44 : decode b_Se_overwrite 44 = .ok (.iinc 4 1, 3) := by decide +kernel
theorem d_Se_overwrite_47 : decode b_Se_overwrite 47 = .ok (.goto (-32), 3) := by decide +kernel
theorem d_Se_overwrite_50 : decode b_Se_overwrite 50 = .ok (.iload_n 3, 1) := by decide +kernel
theorem d_Se_overwrite_51 : decode b_Se_overwrite 51 = .ok (.ireturn, 1) := by decide +kernel
theorem d_OL_name_0 : decode b_OL_name 0 = .ok (.aload_n 0, 1) := by decide +kernel
theorem d_OL_name_1 : decode b_OL_name 1 = .ok (.iload_n 1, 1) := by decide +kernel
theorem d_OL_name_2 : decode b_OL_name 2 = .ok (.invokevirtual 45, 3) := by decide +kernel
theorem d_OL_name_5 : decode b_OL_name 5 = .ok (.astore 6, 2) := by decide +kernel
theorem d_OL_name_7 : decode b_OL_name 7 = .ok (.aload 6, 2) := by decide +kernel
theorem d_OL_name_9 : decode b_OL_name 9 = .ok (.iload_n 2, 1) := by decide +kernel
theorem d_OL_name_10 : decode b_OL_name 10 = .ok (.iload_n 3, 1) := by decide +kernel
theorem d_OL_name_11 : decode b_OL_name 11 = .ok (.iload 4, 2) := by decide +kernel
theorem d_OL_name_13 : decode b_OL_name 13 = .ok (.iload 5, 2) := by decide +kernel
theorem d_OL_name_15 : decode b_OL_name 15 = .ok (.invokevirtual 91, 3) := by decide +kernel
theorem d_OL_name_18 : decode b_OL_name 18 = .ok (.ifCond .ne 13, 3) := by decide +kernel
theorem d_OL_name_21 : decode b_OL_name 21 = .ok (.new 55, 3) := by decide +kernel
theorem d_OL_name_24 : decode b_OL_name 24 = .ok (.dup, 1) := by decide +kernel
theorem d_OL_name_25 : decode b_OL_name 25 = .ok (.ldc 95, 2) := by decide +kernel
theorem d_OL_name_27 : decode b_OL_name 27 = .ok (.invokespecial 59, 3) := by decide +kernel
theorem d_OL_name_30 : decode b_OL_name 30 = .ok (.athrow, 1) := by decide +kernel
theorem d_OL_name_31 : decode b_OL_name 31 = .ok (.aload 6, 2) := by decide +kernel
theorem d_OL_name_33 : decode b_OL_name 33 = .ok (.getfield 97, 3) := by decide +kernel
theorem d_OL_name_36 : decode b_OL_name 36 = .ok (.bipush 12, 2) := by decide +kernel
theorem d_OL_name_38 : decode b_OL_name 38 = .ok (.if_icmp .lt 13, 3) := by decide +kernel
theorem d_OL_name_41 : decode b_OL_name 41 = .ok (.new 33, 3) := by decide +kernel
theorem d_OL_name_44 : decode b_OL_name 44 = .ok (.dup, 1) := by decide +kernel
theorem d_OL_name_45 : decode b_OL_name 45 = .ok (.ldc 100, 2) := by decide +kernel
theorem d_OL_name_47 : decode b_OL_name 47 = .ok (.invokespecial 37, 3) := by decide +kernel
theorem d_OL_name_50 : decode b_OL_name 50 = .ok (.athrow, 1) := by decide +kernel
theorem d_OL_name_51 : decode b_OL_name 51 = .ok (.aload 6, 2) := by decide +kernel
theorem d_OL_name_53 : decode b_OL_name 53 = .ok (.new 102, 3) := by decide +kernel
theorem d_OL_name_56 : decode b_OL_name 56 = .ok (.dup, 1) := by decide +kernel
theorem d_OL_name_57 : decode b_OL_name 57 = .ok (.iload_n 2, 1) := by decide +kernel
theorem d_OL_name_58 : decode b_OL_name 58 = .ok (.iload_n 3, 1) := by decide +kernel
theorem d_OL_name_59 : decode b_OL_name 59 = .ok (.iload 4, 2) := by decide +kernel
theorem d_OL_name_61 : decode b_OL_name 61 = .ok (.iload 5, 2) := by decide +kernel
theorem d_OL_name_63 : decode b_OL_name 63 = .ok (.invokespecial 104, 3) := by decide +kernel
theorem d_OL_name_66 : decode b_OL_name 66 = .ok (.invokevirtual 107, 3) := by decide +kernel
theorem d_OL_name_69 : decode b_OL_name 69 = .ok (.ireturn, 1) := by decide +kernel
theorem d_Un_canName_0 : decode b_Un_canName 0 = .ok (.aload_n 0, 1) := by decide +kernel
theorem d_Un_canName_1 : decode b_Un_canName 1 = .ok (.iload_n 2, 1) := by decide +kernel
theorem d_Un_canName_2 : decode b_Un_canName 2 = .ok (.iload_n 3, 1) := by decide +kernel
theorem d_Un_canName_3 : decode b_Un_canName 3 = .ok (.iload 4, 2) := by decide +kernel
theorem d_Un_canName_5 : decode b_Un_canName 5 = .ok (.invokevirtual 33, 3) := by decide +kernel
theorem d_Un_canName_8 : decode b_Un_canName 8 = .ok (.ifCond .eq 15, 3) := by decide +kernel
theorem d_Un_canName_11 : decode b_Un_canName 11 = .ok (.aload_n 0, 1) := by decide +kernel
theorem d_Un_canName_12 : decode b_Un_canName 12 = .ok (.iload_n 1, 1) := by decide +kernel
theorem d_Un_canName_13 : decode b_Un_canName 13 = .ok (.invokevirtual 37, 3) := by decide +kernel
theorem d_Un_canName_16 : decode b_Un_canName 16 = .ok (.ifCond .ne 7, 3) := by decide +kernel
theorem d_Un_canName_19 : decode b_Un_canName 19 = .ok (.iconst 1, 1) := by decide +kernel
theorem d_Un_canName_20 : decode b_Un_canName 20 = .ok (.goto 4, 3) := by decide +kernel
theorem d_Un_canName_23 : decode b_Un_canName 23 = .ok (.iconst 0, 1) := by decide +kernel
theorem d_Un_canName_24 : decode b_Un_canName 24 = .ok (.ireturn, 1) := by decide +kernel
theorem d_Un_sortCanBe_0 : decode b_Un_sortCanBe 0 = .ok (.iload_n 1, 1) := by decide +kernel
theorem d_Un_sortCanBe_1 : decode b_Un_sortCanBe 1 = .ok (.tableswitch 97 0 3 #[31, 31, 58, 83], 31) := by decide +kernel
theorem d_Un_sortCanBe_32 : decode b_Un_sortCanBe 32 = .ok (.aload_n 0, 1) := by decide +kernel
theorem d_Un_sortCanBe_33 : decode b_Un_sortCanBe 33 = .ok (.iload_n 2, 1) := by decide +kernel
theorem d_Un_sortCanBe_34 : decode b_Un_sortCanBe 34 = .ok (.invokevirtual 41, 3) := by decide +kernel
theorem d_Un_sortCanBe_37 : decode b_Un_sortCanBe 37 = .ok (.astore 4, 2) := by decide +kernel
theorem d_Un_sortCanBe_39 : decode b_Un_sortCanBe 39 = .ok (.aload 4, 2) := by decide +kernel
theorem d_Un_sortCanBe_41 : decode b_Un_sortCanBe 41 = .ok (.ifnull 16, 3) := by decide +kernel
theorem d_Un_sortCanBe_44 : decode b_Un_sortCanBe 44 = .ok (.aload 4, 2) := by decide +kernel
theorem d_Un_sortCanBe_46 : decode b_Un_sortCanBe 46 = .ok (.iload_n 3, 1) := by decide +kernel
theorem d_Un_sortCanBe_47 : decode b_Un_sortCanBe 47 = .ok (.invokevirtual 45, 3) := by decide +kernel
theorem d_Un_sortCanBe_50 : decode b_Un_sortCanBe 50 = .ok (.ifCond .eq 7, 3) := by decide +kernel
theorem d_Un_sortCanBe_53 : decode b_Un_sortCanBe 53 = .ok (.iconst 1, 1) := by decide +kernel
theorem d_Un_sortCanBe_54 : decode b_Un_sortCanBe 54 = .ok (.goto 4, 3) := by decide +kernel
theorem d_Un_sortCanBe_57 : decode b_Un_sortCanBe 57 = .ok (.iconst 0, 1) := by decide +kernel
theorem d_Un_sortCanBe_58 : decode b_Un_sortCanBe 58 = .ok (.ireturn, 1) := by decide +kernel
theorem d_Un_sortCanBe_59 : decode b_Un_sortCanBe 59 = .ok (.iload_n 2, 1) := by decide +kernel
theorem d_Un_sortCanBe_60 : decode b_Un_sortCanBe 60 = .ok (.invokestatic 48, 3) := by decide +kernel
theorem d_Un_sortCanBe_63 : decode b_Un_sortCanBe 63 = .ok (.ifCond .eq 19, 3) := by decide +kernel
theorem d_Un_sortCanBe_66 : decode b_Un_sortCanBe 66 = .ok (.iload_n 3, 1) := by decide +kernel
theorem d_Un_sortCanBe_67 : decode b_Un_sortCanBe 67 = .ok (.iconst 1, 1) := by decide +kernel
theorem d_Un_sortCanBe_68 : decode b_Un_sortCanBe 68 = .ok (.if_icmp .lt 14, 3) := by decide +kernel
theorem d_Un_sortCanBe_71 : decode b_Un_sortCanBe 71 = .ok (.iload_n 3, 1) := by decide +kernel
theorem d_Un_sortCanBe_72 : decode b_Un_sortCanBe 72 = .ok (.sipush 1024, 3) := by decide +kernel
theorem d_Un_sortCanBe_75 : decode b_Un_sortCanBe 75 = .ok (.if_icmp .gt 7, 3) := by decide +kernel
theorem d_Un_sortCanBe_78 : decode b_Un_sortCanBe 78 = .ok (.iconst 1, 1) := by decide +kernel
theorem d_Un_sortCanBe_79 : decode b_Un_sortCanBe 79 = .ok (.goto 4, 3) := by decide +kernel
theorem d_Un_sortCanBe_82 : decode b_Un_sortCanBe 82 = .ok (.iconst 0, 1) := by decide +kernel
theorem d_Un_sortCanBe_83 : decode b_Un_sortCanBe 83 = .ok (.ireturn, 1) := by decide +kernel
theorem d_Un_sortCanBe_84 : decode b_Un_sortCanBe 84 = .ok (.iload_n 2, 1) := by decide +kernel
theorem d_Un_sortCanBe_85 : decode b_Un_sortCanBe 85 = .ok (.ifCond .ne 11, 3) := by decide +kernel
theorem d_Un_sortCanBe_88 : decode b_Un_sortCanBe 88 = .ok (.iload_n 3, 1) := by decide +kernel
theorem d_Un_sortCanBe_89 : decode b_Un_sortCanBe 89 = .ok (.ifCond .ne 7, 3) := by decide +kernel
theorem d_Un_sortCanBe_92 : decode b_Un_sortCanBe 92 = .ok (.iconst 1, 1) := by decide +kernel
theorem d_Un_sortCanBe_93 : decode b_Un_sortCanBe 93 = .ok (.goto 4, 3) := by decide +kernel
theorem d_Un_sortCanBe_96 : decode b_Un_sortCanBe 96 = .ok (.iconst 0, 1) := by decide +kernel
theorem d_Un_sortCanBe_97 : decode b_Un_sortCanBe 97 = .ok (.ireturn, 1) := by decide +kernel
theorem d_Un_sortCanBe_98 : decode b_Un_sortCanBe 98 = .ok (.iconst 0, 1) := by decide +kernel
theorem d_Un_sortCanBe_99 : decode b_Un_sortCanBe 99 = .ok (.ireturn, 1) := by decide +kernel
theorem d_Se_hasPlace_0 : decode b_Se_hasPlace 0 = .ok (.iload_n 1, 1) := by decide +kernel
theorem d_Se_hasPlace_1 : decode b_Se_hasPlace 1 = .ok (.ifCond .lt 15, 3) := by decide +kernel
theorem d_Se_hasPlace_4 : decode b_Se_hasPlace 4 = .ok (.iload_n 1, 1) := by decide +kernel
theorem d_Se_hasPlace_5 : decode b_Se_hasPlace 5 = .ok (.aload_n 0, 1) := by decide +kernel
theorem d_Se_hasPlace_6 : decode b_Se_hasPlace 6 = .ok (.getfield 18, 3) := by decide +kernel
theorem d_Se_hasPlace_9 : decode b_Se_hasPlace 9 = .ok (.if_icmp .gt 7, 3) := by decide +kernel
theorem d_Se_hasPlace_12 : decode b_Se_hasPlace 12 = .ok (.iconst 1, 1) := by decide +kernel
theorem d_Se_hasPlace_13 : decode b_Se_hasPlace 13 = .ok (.goto 4, 3) := by decide +kernel
theorem d_Se_hasPlace_16 : decode b_Se_hasPlace 16 = .ok (.iconst 0, 1) := by decide +kernel
theorem d_Se_hasPlace_17 : decode b_Se_hasPlace 17 = .ok (.ireturn, 1) := by decide +kernel
theorem d_Un_hasName_0 : decode b_Un_hasName 0 = .ok (.iconst 0, 1) := by decide +kernel
theorem d_Un_hasName_1 : decode b_Un_hasName 1 = .ok (.istore_n 2, 1) := by decide +kernel
theorem d_Un_hasName_2 : decode b_Un_hasName 2 = .ok (.iload_n 2, 1) := by decide +kernel
theorem d_Un_hasName_3 : decode b_Un_hasName 3 = .ok (.aload_n 0, 1) := by decide +kernel
theorem d_Un_hasName_4 : decode b_Un_hasName 4 = .ok (.getfield 51, 3) := by decide +kernel
theorem d_Un_hasName_7 : decode b_Un_hasName 7 = .ok (.if_icmp .ge 24, 3) := by decide +kernel
theorem d_Un_hasName_10 : decode b_Un_hasName 10 = .ok (.aload_n 0, 1) := by decide +kernel
theorem d_Un_hasName_11 : decode b_Un_hasName 11 = .ok (.getfield 19, 3) := by decide +kernel
theorem d_Un_hasName_14 : decode b_Un_hasName 14 = .ok (.iload_n 2, 1) := by decide +kernel
theorem d_Un_hasName_15 : decode b_Un_hasName 15 = .ok (.aaload, 1) := by decide +kernel
theorem d_Un_hasName_16 : decode b_Un_hasName 16 = .ok (.getfield 54, 3) := by decide +kernel
theorem d_Un_hasName_19 : decode b_Un_hasName 19 = .ok (.iload_n 1, 1) := by decide +kernel
theorem d_Un_hasName_20 : decode b_Un_hasName 20 = .ok (.if_icmp .ne 5, 3) := by decide +kernel
theorem d_Un_hasName_23 : decode b_Un_hasName 23 = .ok (.iconst 1, 1) := by decide +kernel
theorem d_Un_hasName_24 : decode b_Un_hasName 24 = .ok (.ireturn, 1) := by decide +kernel
theorem d_Un_hasName_25 : decode b_Un_hasName 25 = .ok (.iinc 2 1, 3) := by decide +kernel
theorem d_Un_hasName_28 : decode b_Un_hasName 28 = .ok (.goto (-26), 3) := by decide +kernel
theorem d_Un_hasName_31 : decode b_Un_hasName 31 = .ok (.iconst 0, 1) := by decide +kernel
theorem d_Un_hasName_32 : decode b_Un_hasName 32 = .ok (.ireturn, 1) := by decide +kernel
theorem d_Na_init_0 : decode b_Na_init 0 = .ok (.aload_n 0, 1) := by decide +kernel
theorem d_Na_init_1 : decode b_Na_init 1 = .ok (.invokespecial 1, 3) := by decide +kernel
theorem d_Na_init_4 : decode b_Na_init 4 = .ok (.aload_n 0, 1) := by decide +kernel
theorem d_Na_init_5 : decode b_Na_init 5 = .ok (.iload_n 1, 1) := by decide +kernel
theorem d_Na_init_6 : decode b_Na_init 6 = .ok (.putfield 7, 3) := by decide +kernel
theorem d_Na_init_9 : decode b_Na_init 9 = .ok (.aload_n 0, 1) := by decide +kernel
theorem d_Na_init_10 : decode b_Na_init 10 = .ok (.iload_n 2, 1) := by decide +kernel
theorem d_Na_init_11 : decode b_Na_init 11 = .ok (.putfield 13, 3) := by decide +kernel
theorem d_Na_init_14 : decode b_Na_init 14 = .ok (.aload_n 0, 1) := by decide +kernel
theorem d_Na_init_15 : decode b_Na_init 15 = .ok (.iload_n 3, 1) := by decide +kernel
theorem d_Na_init_16 : decode b_Na_init 16 = .ok (.putfield 16, 3) := by decide +kernel
theorem d_Na_init_19 : decode b_Na_init 19 = .ok (.aload_n 0, 1) := by decide +kernel
theorem d_Na_init_20 : decode b_Na_init 20 = .ok (.iload 4, 2) := by decide +kernel
theorem d_Na_init_22 : decode b_Na_init 22 = .ok (.putfield 19, 3) := by decide +kernel
theorem d_Na_init_25 : decode b_Na_init 25 = .ok (.return_, 1) := by decide +kernel
theorem d_Un_addName_0 : decode b_Un_addName 0 = .ok (.aload_n 0, 1) := by decide +kernel
theorem d_Un_addName_1 : decode b_Un_addName 1 = .ok (.getfield 19, 3) := by decide +kernel
theorem d_Un_addName_4 : decode b_Un_addName 4 = .ok (.aload_n 0, 1) := by decide +kernel
theorem d_Un_addName_5 : decode b_Un_addName 5 = .ok (.getfield 51, 3) := by decide +kernel
theorem d_Un_addName_8 : decode b_Un_addName 8 = .ok (.aload_n 1, 1) := by decide +kernel
theorem d_Un_addName_9 : decode b_Un_addName 9 = .ok (.aastore, 1) := by decide +kernel
theorem d_Un_addName_10 : decode b_Un_addName 10 = .ok (.aload_n 0, 1) := by decide +kernel
theorem d_Un_addName_11 : decode b_Un_addName 11 = .ok (.dup, 1) := by decide +kernel
theorem d_Un_addName_12 : decode b_Un_addName 12 = .ok (.getfield 51, 3) := by decide +kernel
theorem d_Un_addName_15 : decode b_Un_addName 15 = .ok (.iconst 1, 1) := by decide +kernel
theorem d_Un_addName_16 : decode b_Un_addName 16 = .ok (.iadd, 1) := by decide +kernel
theorem d_Un_addName_17 : decode b_Un_addName 17 = .ok (.putfield 51, 3) := by decide +kernel
theorem d_Un_addName_20 : decode b_Un_addName 20 = .ok (.aload_n 0, 1) := by decide +kernel
theorem d_Un_addName_21 : decode b_Un_addName 21 = .ok (.getfield 51, 3) := by decide +kernel
theorem d_Un_addName_24 : decode b_Un_addName 24 = .ok (.iconst 1, 1) := by decide +kernel
theorem d_Un_addName_25 : decode b_Un_addName 25 = .ok (.isub, 1) := by decide +kernel
theorem d_Un_addName_26 : decode b_Un_addName 26 = .ok (.ireturn, 1) := by decide +kernel
theorem d_OL_reference_0 : decode b_OL_reference 0 = .ok (.aload_n 0, 1) := by decide +kernel
theorem d_OL_reference_1 : decode b_OL_reference 1 = .ok (.iload_n 1, 1) := by decide +kernel
theorem d_OL_reference_2 : decode b_OL_reference 2 = .ok (.invokevirtual 45, 3) := by decide +kernel
theorem d_OL_reference_5 : decode b_OL_reference 5 = .ok (.astore 7, 2) := by decide +kernel
theorem d_OL_reference_7 : decode b_OL_reference 7 = .ok (.aload 7, 2) := by decide +kernel
theorem d_OL_reference_9 : decode b_OL_reference 9 = .ok (.iload_n 2, 1) := by decide +kernel
theorem d_OL_reference_10 : decode b_OL_reference 10 = .ok (.iload_n 3, 1) := by decide +kernel
theorem d_OL_reference_11 : decode b_OL_reference 11 = .ok (.iload 4, 2) := by decide +kernel
theorem d_OL_reference_13 : decode b_OL_reference 13 = .ok (.iload 5, 2) := by decide +kernel
theorem d_OL_reference_15 : decode b_OL_reference 15 = .ok (.invokevirtual 111, 3) := by decide +kernel
theorem d_OL_reference_18 : decode b_OL_reference 18 = .ok (.ifCond .ne 13, 3) := by decide +kernel
theorem d_OL_reference_21 : decode b_OL_reference 21 = .ok (.new 55, 3) := by decide +kernel
theorem d_OL_reference_24 : decode b_OL_reference 24 = .ok (.dup, 1) := by decide +kernel
theorem d_OL_reference_25 : decode b_OL_reference 25 = .ok (.ldc 114, 2) := by decide +kernel
theorem d_OL_reference_27 : decode b_OL_reference 27 = .ok (.invokespecial 59, 3) := by decide +kernel
theorem d_OL_reference_30 : decode b_OL_reference 30 = .ok (.athrow, 1) := by decide +kernel
theorem d_OL_reference_31 : decode b_OL_reference 31 = .ok (.aload 7, 2) := by decide +kernel
theorem d_OL_reference_33 : decode b_OL_reference 33 = .ok (.getfield 116, 3) := by decide +kernel
theorem d_OL_reference_36 : decode b_OL_reference 36 = .ok (.bipush 16, 2) := by decide +kernel
theorem d_OL_reference_38 : decode b_OL_reference 38 = .ok (.if_icmp .lt 13, 3) := by decide +kernel
theorem d_OL_reference_41 : decode b_OL_reference 41 = .ok (.new 33, 3) := by decide +kernel
theorem d_OL_reference_44 : decode b_OL_reference 44 = .ok (.dup, 1) := by decide +kernel
theorem d_OL_reference_45 : decode b_OL_reference 45 = .ok (.ldc 119, 2) := by decide +kernel
theorem d_OL_reference_47 : decode b_OL_reference 47 = .ok (.invokespecial 37, 3) := by decide +kernel
theorem d_OL_reference_50 : decode b_OL_reference 50 = .ok (.athrow, 1) := by decide +kernel
theorem d_OL_reference_51 : decode b_OL_reference 51 = .ok (.aload 7, 2) := by decide +kernel
theorem d_OL_reference_53 : decode b_OL_reference 53 = .ok (.new 121, 3) := by decide +kernel
theorem d_OL_reference_56 : decode b_OL_reference 56 = .ok (.dup, 1) := by decide +kernel
theorem d_OL_reference_57 : decode b_OL_reference 57 = .ok (.iload_n 2, 1) := by decide +kernel
theorem d_OL_reference_58 : decode b_OL_reference 58 = .ok (.iload_n 3, 1) := by decide +kernel
theorem d_OL_reference_59 : decode b_OL_reference 59 = .ok (.iload 4, 2) := by decide +kernel
theorem d_OL_reference_61 : decode b_OL_reference 61 = .ok (.iload 5, 2) := by decide +kernel
theorem d_OL_reference_63 : decode b_OL_reference 63 = .ok (.iload 6, 2) := by decide +kernel
theorem d_OL_reference_65 : decode b_OL_reference 65 = .ok (.invokespecial 123, 3) := by decide +kernel
theorem d_OL_reference_68 : decode b_OL_reference 68 = .ok (.invokevirtual 126, 3) := by decide +kernel
theorem d_OL_reference_71 : decode b_OL_reference 71 = .ok (.ireturn, 1) := by decide +kernel
theorem d_Un_canRefer_0 : decode b_Un_canRefer 0 = .ok (.aload_n 0, 1) := by decide +kernel
theorem d_Un_canRefer_1 : decode b_Un_canRefer 1 = .ok (.iload_n 1, 1) := by decide +kernel
theorem d_Un_canRefer_2 : decode b_Un_canRefer 2 = .ok (.invokevirtual 41, 3) := by decide +kernel
theorem d_Un_canRefer_5 : decode b_Un_canRefer 5 = .ok (.astore 5, 2) := by decide +kernel
theorem d_Un_canRefer_7 : decode b_Un_canRefer 7 = .ok (.aload 5, 2) := by decide +kernel
theorem d_Un_canRefer_9 : decode b_Un_canRefer 9 = .ok (.ifnull 51, 3) := by decide +kernel
theorem d_Un_canRefer_12 : decode b_Un_canRefer 12 = .ok (.aload 5, 2) := by decide +kernel
theorem d_Un_canRefer_14 : decode b_Un_canRefer 14 = .ok (.getfield 57, 3) := by decide +kernel
theorem d_Un_canRefer_17 : decode b_Un_canRefer 17 = .ok (.iconst 3, 1) := by decide +kernel
theorem d_Un_canRefer_18 : decode b_Un_canRefer 18 = .ok (.if_icmp .eq 42, 3) := by decide +kernel
theorem d_Un_canRefer_21 : decode b_Un_canRefer 21 = .ok (.aload 5, 2) := by decide +kernel
theorem d_Un_canRefer_23 : decode b_Un_canRefer 23 = .ok (.iload_n 2, 1) := by decide +kernel
theorem d_Un_canRefer_24 : decode b_Un_canRefer 24 = .ok (.invokevirtual 45, 3) := by decide +kernel
theorem d_Un_canRefer_27 : decode b_Un_canRefer 27 = .ok (.ifCond .eq 33, 3) := by decide +kernel
theorem d_Un_canRefer_30 : decode b_Un_canRefer 30 = .ok (.iload_n 3, 1) := by decide +kernel
theorem d_Un_canRefer_31 : decode b_Un_canRefer 31 = .ok (.ifCond .lt 29, 3) := by decide +kernel
theorem d_Un_canRefer_34 : decode b_Un_canRefer 34 = .ok (.iload_n 3, 1) := by decide +kernel
theorem d_Un_canRefer_35 : decode b_Un_canRefer 35 = .ok (.getstatic 60, 3) := by decide +kernel
theorem d_Un_canRefer_38 : decode b_Un_canRefer 38 = .ok (.arraylength, 1) := by decide +kernel
theorem d_Un_canRefer_39 : decode b_Un_canRefer 39 = .ok (.if_icmp .ge 21, 3) := by decide +kernel
theorem d_Un_canRefer_42 : decode b_Un_canRefer 42 = .ok (.iload 4, 2) := by decide +kernel
theorem d_Un_canRefer_44 : decode b_Un_canRefer 44 = .ok (.ifCond .lt 16, 3) := by decide +kernel
theorem d_Un_canRefer_47 : decode b_Un_canRefer 47 = .ok (.iload 4, 2) := by decide +kernel
theorem d_Un_canRefer_49 : decode b_Un_canRefer 49 = .ok (.aload_n 0, 1) := by decide +kernel
theorem d_Un_canRefer_50 : decode b_Un_canRefer 50 = .ok (.getfield 51, 3) := by decide +kernel
theorem d_Un_canRefer_53 : decode b_Un_canRefer 53 = .ok (.if_icmp .ge 7, 3) := by decide +kernel
theorem d_Un_canRefer_56 : decode b_Un_canRefer 56 = .ok (.iconst 1, 1) := by decide +kernel
theorem d_Un_canRefer_57 : decode b_Un_canRefer 57 = .ok (.goto 4, 3) := by decide +kernel
theorem d_Un_canRefer_60 : decode b_Un_canRefer 60 = .ok (.iconst 0, 1) := by decide +kernel
theorem d_Un_canRefer_61 : decode b_Un_canRefer 61 = .ok (.ireturn, 1) := by decide +kernel
theorem d_Rf_init_0 : decode b_Rf_init 0 = .ok (.aload_n 0, 1) := by decide +kernel
theorem d_Rf_init_1 : decode b_Rf_init 1 = .ok (.invokespecial 1, 3) := by decide +kernel
theorem d_Rf_init_4 : decode b_Rf_init 4 = .ok (.aload_n 0, 1) := by decide +kernel
theorem d_Rf_init_5 : decode b_Rf_init 5 = .ok (.iload_n 1, 1) := by decide +kernel
theorem d_Rf_init_6 : decode b_Rf_init 6 = .ok (.putfield 7, 3) := by decide +kernel
theorem d_Rf_init_9 : decode b_Rf_init 9 = .ok (.aload_n 0, 1) := by decide +kernel
theorem d_Rf_init_10 : decode b_Rf_init 10 = .ok (.iload_n 2, 1) := by decide +kernel
theorem d_Rf_init_11 : decode b_Rf_init 11 = .ok (.putfield 13, 3) := by decide +kernel
theorem d_Rf_init_14 : decode b_Rf_init 14 = .ok (.aload_n 0, 1) := by decide +kernel
theorem d_Rf_init_15 : decode b_Rf_init 15 = .ok (.iload_n 3, 1) := by decide +kernel
theorem d_Rf_init_16 : decode b_Rf_init 16 = .ok (.putfield 16, 3) := by decide +kernel
theorem d_Rf_init_19 : decode b_Rf_init 19 = .ok (.aload_n 0, 1) := by decide +kernel
theorem d_Rf_init_20 : decode b_Rf_init 20 = .ok (.iload 4, 2) := by decide +kernel
theorem d_Rf_init_22 : decode b_Rf_init 22 = .ok (.putfield 19, 3) := by decide +kernel
theorem d_Rf_init_25 : decode b_Rf_init 25 = .ok (.aload_n 0, 1) := by decide +kernel
theorem d_Rf_init_26 : decode b_Rf_init 26 = .ok (.iload 5, 2) := by decide +kernel
theorem d_Rf_init_28 : decode b_Rf_init 28 = .ok (.putfield 22, 3) := by decide +kernel
theorem d_Rf_init_31 : decode b_Rf_init 31 = .ok (.return_, 1) := by decide +kernel
theorem d_Un_addReference_0 : decode b_Un_addReference 0 = .ok (.aload_n 0, 1) := by decide +kernel
theorem d_Un_addReference_1 : decode b_Un_addReference 1 = .ok (.getfield 25, 3) := by decide +kernel
theorem d_Un_addReference_4 : decode b_Un_addReference 4 = .ok (.aload_n 0, 1) := by decide +kernel
theorem d_Un_addReference_5 : decode b_Un_addReference 5 = .ok (.getfield 64, 3) := by decide +kernel
theorem d_Un_addReference_8 : decode b_Un_addReference 8 = .ok (.aload_n 1, 1) := by decide +kernel
theorem d_Un_addReference_9 : decode b_Un_addReference 9 = .ok (.aastore, 1) := by decide +kernel
theorem d_Un_addReference_10 : decode b_Un_addReference 10 = .ok (.aload_n 0, 1) := by decide +kernel
theorem d_Un_addReference_11 : decode b_Un_addReference 11 = .ok (.dup, 1) := by decide +kernel
theorem d_Un_addReference_12 : decode b_Un_addReference 12 = .ok (.getfield 64, 3) := by decide +kernel
theorem d_Un_addReference_15 : decode b_Un_addReference 15 = .ok (.iconst 1, 1) := by decide +kernel
theorem d_Un_addReference_16 : decode b_Un_addReference 16 = .ok (.iadd, 1) := by decide +kernel
theorem d_Un_addReference_17 : decode b_Un_addReference 17 = .ok (.putfield 64, 3) := by decide +kernel
theorem d_Un_addReference_20 : decode b_Un_addReference 20 = .ok (.aload_n 0, 1) := by decide +kernel
theorem d_Un_addReference_21 : decode b_Un_addReference 21 = .ok (.getfield 64, 3) := by decide +kernel
theorem d_Un_addReference_24 : decode b_Un_addReference 24 = .ok (.iconst 1, 1) := by decide +kernel
theorem d_Un_addReference_25 : decode b_Un_addReference 25 = .ok (.isub, 1) := by decide +kernel
theorem d_Un_addReference_26 : decode b_Un_addReference 26 = .ok (.ireturn, 1) := by decide +kernel
theorem d_OL_choose_0 : decode b_OL_choose 0 = .ok (.aload_n 0, 1) := by decide +kernel
theorem d_OL_choose_1 : decode b_OL_choose 1 = .ok (.iload_n 1, 1) := by decide +kernel
theorem d_OL_choose_2 : decode b_OL_choose 2 = .ok (.invokevirtual 45, 3) := by decide +kernel
theorem d_OL_choose_5 : decode b_OL_choose 5 = .ok (.astore_n 2, 1) := by decide +kernel
theorem d_OL_choose_6 : decode b_OL_choose 6 = .ok (.aload_n 0, 1) := by decide +kernel
theorem d_OL_choose_7 : decode b_OL_choose 7 = .ok (.getfield 18, 3) := by decide +kernel
theorem d_OL_choose_10 : decode b_OL_choose 10 = .ok (.iload_n 1, 1) := by decide +kernel
theorem d_OL_choose_11 : decode b_OL_choose 11 = .ok (.invokevirtual 130, 3) := by decide +kernel
theorem d_OL_choose_14 : decode b_OL_choose 14 = .ok (.ifCond .eq 13, 3) := by decide +kernel
theorem d_OL_choose_17 : decode b_OL_choose 17 = .ok (.new 55, 3) := by decide +kernel
theorem d_OL_choose_20 : decode b_OL_choose 20 = .ok (.dup, 1) := by decide +kernel
theorem d_OL_choose_21 : decode b_OL_choose 21 = .ok (.ldc 134, 2) := by decide +kernel
theorem d_OL_choose_23 : decode b_OL_choose 23 = .ok (.invokespecial 59, 3) := by decide +kernel
theorem d_OL_choose_26 : decode b_OL_choose 26 = .ok (.athrow, 1) := by decide +kernel
theorem d_OL_choose_27 : decode b_OL_choose 27 = .ok (.aload_n 0, 1) := by decide +kernel
theorem d_OL_choose_28 : decode b_OL_choose 28 = .ok (.getfield 18, 3) := by decide +kernel
theorem d_OL_choose_31 : decode b_OL_choose 31 = .ok (.iload_n 1, 1) := by decide +kernel
theorem d_OL_choose_32 : decode b_OL_choose 32 = .ok (.aload_n 2, 1) := by decide +kernel
theorem d_OL_choose_33 : decode b_OL_choose 33 = .ok (.invokevirtual 136, 3) := by decide +kernel
theorem d_OL_choose_36 : decode b_OL_choose 36 = .ok (.ireturn, 1) := by decide +kernel
theorem d_Li_isChosen_0 : decode b_Li_isChosen 0 = .ok (.iconst 0, 1) := by decide +kernel
theorem d_Li_isChosen_1 : decode b_Li_isChosen 1 = .ok (.istore_n 2, 1) := by decide +kernel
theorem d_Li_isChosen_2 : decode b_Li_isChosen 2 = .ok (.iload_n 2, 1) := by decide +kernel
theorem d_Li_isChosen_3 : decode b_Li_isChosen 3 = .ok (.aload_n 0, 1) := by decide +kernel
theorem d_Li_isChosen_4 : decode b_Li_isChosen 4 = .ok (.getfield 48, 3) := by decide +kernel
theorem d_Li_isChosen_7 : decode b_Li_isChosen 7 = .ok (.if_icmp .ge 21, 3) := by decide +kernel
theorem d_Li_isChosen_10 : decode b_Li_isChosen 10 = .ok (.aload_n 0, 1) := by decide +kernel
theorem d_Li_isChosen_11 : decode b_Li_isChosen 11 = .ok (.getfield 17, 3) := by decide +kernel
theorem d_Li_isChosen_14 : decode b_Li_isChosen 14 = .ok (.iload_n 2, 1) := by decide +kernel
theorem d_Li_isChosen_15 : decode b_Li_isChosen 15 = .ok (.iaload, 1) := by decide +kernel
theorem d_Li_isChosen_16 : decode b_Li_isChosen 16 = .ok (.iload_n 1, 1) := by decide +kernel
theorem d_Li_isChosen_17 : decode b_Li_isChosen 17 = .ok (.if_icmp .ne 5, 3) := by decide +kernel
theorem d_Li_isChosen_20 : decode b_Li_isChosen 20 = .ok (.iconst 1, 1) := by decide +kernel
theorem d_Li_isChosen_21 : decode b_Li_isChosen 21 = .ok (.ireturn, 1) := by decide +kernel
theorem d_Li_isChosen_22 : decode b_Li_isChosen 22 = .ok (.iinc 2 1, 3) := by decide +kernel
theorem d_Li_isChosen_25 : decode b_Li_isChosen 25 = .ok (.goto (-23), 3) := by decide +kernel
theorem d_Li_isChosen_28 : decode b_Li_isChosen 28 = .ok (.iconst 0, 1) := by decide +kernel
theorem d_Li_isChosen_29 : decode b_Li_isChosen 29 = .ok (.ireturn, 1) := by decide +kernel
theorem d_Li_takeBehind_0 : decode b_Li_takeBehind 0 = .ok (.aload_n 0, 1) := by decide +kernel
theorem d_Li_takeBehind_1 : decode b_Li_takeBehind 1 = .ok (.getfield 11, 3) := by decide +kernel
theorem d_Li_takeBehind_4 : decode b_Li_takeBehind 4 = .ok (.iload_n 1, 1) := by decide +kernel
theorem d_Li_takeBehind_5 : decode b_Li_takeBehind 5 = .ok (.aload_n 2, 1) := by decide +kernel
theorem d_Li_takeBehind_6 : decode b_Li_takeBehind 6 = .ok (.aastore, 1) := by decide +kernel
theorem d_Li_takeBehind_7 : decode b_Li_takeBehind 7 = .ok (.aload_n 0, 1) := by decide +kernel
theorem d_Li_takeBehind_8 : decode b_Li_takeBehind 8 = .ok (.getfield 17, 3) := by decide +kernel
theorem d_Li_takeBehind_11 : decode b_Li_takeBehind 11 = .ok (.aload_n 0, 1) := by decide +kernel
theorem d_Li_takeBehind_12 : decode b_Li_takeBehind 12 = .ok (.getfield 48, 3) := by decide +kernel
theorem d_Li_takeBehind_15 : decode b_Li_takeBehind 15 = .ok (.iload_n 1, 1) := by decide +kernel
theorem d_Li_takeBehind_16 : decode b_Li_takeBehind 16 = .ok (.iastore, 1) := by decide +kernel
theorem d_Li_takeBehind_17 : decode b_Li_takeBehind 17 = .ok (.aload_n 0, 1) := by decide +kernel
theorem d_Li_takeBehind_18 : decode b_Li_takeBehind 18 = .ok (.dup, 1) := by decide +kernel
theorem d_Li_takeBehind_19 : decode b_Li_takeBehind 19 = .ok (.getfield 48, 3) := by decide +kernel
theorem d_Li_takeBehind_22 : decode b_Li_takeBehind 22 = .ok (.iconst 1, 1) := by decide +kernel
theorem d_Li_takeBehind_23 : decode b_Li_takeBehind 23 = .ok (.iadd, 1) := by decide +kernel
theorem d_Li_takeBehind_24 : decode b_Li_takeBehind 24 = .ok (.putfield 48, 3) := by decide +kernel
theorem d_Li_takeBehind_27 : decode b_Li_takeBehind 27 = .ok (.aload_n 0, 1) := by decide +kernel
theorem d_Li_takeBehind_28 : decode b_Li_takeBehind 28 = .ok (.getfield 48, 3) := by decide +kernel
theorem d_Li_takeBehind_31 : decode b_Li_takeBehind 31 = .ok (.ireturn, 1) := by decide +kernel
theorem d_OL_link_0 : decode b_OL_link 0 = .ok (.iload_n 2, 1) := by decide +kernel
theorem d_OL_link_1 : decode b_OL_link 1 = .ok (.ifCond .lt 9, 3) := by decide +kernel
theorem d_OL_link_4 : decode b_OL_link 4 = .ok (.iload_n 2, 1) := by decide +kernel
theorem d_OL_link_5 : decode b_OL_link 5 = .ok (.ldc 140, 2) := by decide +kernel
theorem d_OL_link_7 : decode b_OL_link 7 = .ok (.if_icmp .le 13, 3) := by decide +kernel
theorem d_OL_link_10 : decode b_OL_link 10 = .ok (.new 55, 3) := by decide +kernel
theorem d_OL_link_13 : decode b_OL_link 13 = .ok (.dup, 1) := by decide +kernel
theorem d_OL_link_14 : decode b_OL_link 14 = .ok (.ldc 141, 2) := by decide +kernel
theorem d_OL_link_16 : decode b_OL_link 16 = .ok (.invokespecial 59, 3) := by decide +kernel
theorem d_OL_link_19 : decode b_OL_link 19 = .ok (.athrow, 1) := by decide +kernel
theorem d_OL_link_20 : decode b_OL_link 20 = .ok (.aload_n 0, 1) := by decide +kernel
theorem d_OL_link_21 : decode b_OL_link 21 = .ok (.getfield 18, 3) := by decide +kernel
theorem d_OL_link_24 : decode b_OL_link 24 = .ok (.getfield 143, 3) := by decide +kernel
theorem d_OL_link_27 : decode b_OL_link 27 = .ok (.ifCond .ne 13, 3) := by decide +kernel
theorem d_OL_link_30 : decode b_OL_link 30 = .ok (.new 146, 3) := by decide +kernel
theorem d_OL_link_33 : decode b_OL_link 33 = .ok (.dup, 1) := by decide +kernel
theorem d_OL_link_34 : decode b_OL_link 34 = .ok (.ldc 148, 2) := by decide +kernel
theorem d_OL_link_36 : decode b_OL_link 36 = .ok (.invokespecial 150, 3) := by decide +kernel
theorem d_OL_link_39 : decode b_OL_link 39 = .ok (.athrow, 1) := by decide +kernel
theorem d_OL_link_40 : decode b_OL_link 40 = .ok (.aload_n 0, 1) := by decide +kernel
theorem d_OL_link_41 : decode b_OL_link 41 = .ok (.getfield 18, 3) := by decide +kernel
theorem d_OL_link_44 : decode b_OL_link 44 = .ok (.iload_n 1, 1) := by decide +kernel
theorem d_OL_link_45 : decode b_OL_link 45 = .ok (.iload_n 2, 1) := by decide +kernel
theorem d_OL_link_46 : decode b_OL_link 46 = .ok (.invokevirtual 151, 3) := by decide +kernel
theorem d_OL_link_49 : decode b_OL_link 49 = .ok (.ifCond .ne 13, 3) := by decide +kernel
theorem d_OL_link_52 : decode b_OL_link 52 = .ok (.new 33, 3) := by decide +kernel
theorem d_OL_link_55 : decode b_OL_link 55 = .ok (.dup, 1) := by decide +kernel
theorem d_OL_link_56 : decode b_OL_link 56 = .ok (.ldc 155, 2) := by decide +kernel
theorem d_OL_link_58 : decode b_OL_link 58 = .ok (.invokespecial 37, 3) := by decide +kernel
theorem d_OL_link_61 : decode b_OL_link 61 = .ok (.athrow, 1) := by decide +kernel
theorem d_OL_link_62 : decode b_OL_link 62 = .ok (.aload_n 0, 1) := by decide +kernel
theorem d_OL_link_63 : decode b_OL_link 63 = .ok (.getfield 18, 3) := by decide +kernel
theorem d_OL_link_66 : decode b_OL_link 66 = .ok (.getfield 157, 3) := by decide +kernel
theorem d_OL_link_69 : decode b_OL_link 69 = .ok (.ireturn, 1) := by decide +kernel
theorem d_Li_makeImage_0 : decode b_Li_makeImage 0 = .ok (.aload_n 0, 1) := by decide +kernel
theorem d_Li_makeImage_1 : decode b_Li_makeImage 1 = .ok (.invokevirtual 80, 3) := by decide +kernel
theorem d_Li_makeImage_4 : decode b_Li_makeImage 4 = .ok (.aload_n 0, 1) := by decide +kernel
theorem d_Li_makeImage_5 : decode b_Li_makeImage 5 = .ok (.iload_n 2, 1) := by decide +kernel
theorem d_Li_makeImage_6 : decode b_Li_makeImage 6 = .ok (.putfield 55, 3) := by decide +kernel
theorem d_Li_makeImage_9 : decode b_Li_makeImage 9 = .ok (.aload_n 0, 1) := by decide +kernel
theorem d_Li_makeImage_10 : decode b_Li_makeImage 10 = .ok (.aload_n 0, 1) := by decide +kernel
theorem d_Li_makeImage_11 : decode b_Li_makeImage 11 = .ok (.invokevirtual 83, 3) := by decide +kernel
theorem d_Li_makeImage_14 : decode b_Li_makeImage 14 = .ok (.ifCond .eq 36, 3) := by decide +kernel
theorem d_Li_makeImage_17 : decode b_Li_makeImage 17 = .ok (.aload_n 0, 1) := by decide +kernel
theorem d_Li_makeImage_18 : decode b_Li_makeImage 18 = .ok (.iload_n 1, 1) := by decide +kernel
theorem d_Li_makeImage_19 : decode b_Li_makeImage 19 = .ok (.invokevirtual 87, 3) := by decide +kernel
theorem d_Li_makeImage_22 : decode b_Li_makeImage 22 = .ok (.ifCond .eq 28, 3) := by decide +kernel
theorem d_Li_makeImage_25 : decode b_Li_makeImage 25 = .ok (.aload_n 0, 1) := by decide +kernel
theorem d_Li_makeImage_26 : decode b_Li_makeImage 26 = .ok (.invokevirtual 91, 3) := by decide +kernel
theorem d_Li_makeImage_29 : decode b_Li_makeImage 29 = .ok (.ifCond .eq 21, 3) := by decide +kernel
theorem d_Li_makeImage_32 : decode b_Li_makeImage 32 = .ok (.aload_n 0, 1) := by decide +kernel
theorem d_Li_makeImage_33 : decode b_Li_makeImage 33 = .ok (.invokevirtual 94, 3) := by decide +kernel
theorem d_Li_makeImage_36 : decode b_Li_makeImage 36 = .ok (.ifCond .eq 14, 3) := by decide +kernel
theorem d_Li_makeImage_39 : decode b_Li_makeImage 39 = .ok (.aload_n 0, 1) := by decide +kernel
theorem d_Li_makeImage_40 : decode b_Li_makeImage 40 = .ok (.invokevirtual 97, 3) := by decide +kernel
theorem d_Li_makeImage_43 : decode b_Li_makeImage 43 = .ok (.ifCond .eq 7, 3) := by decide +kernel
theorem d_Li_makeImage_46 : decode b_Li_makeImage 46 = .ok (.iconst 1, 1) := by decide +kernel
theorem d_Li_makeImage_47 : decode b_Li_makeImage 47 = .ok (.goto 4, 3) := by decide +kernel
theorem d_Li_makeImage_50 : decode b_Li_makeImage 50 = .ok (.iconst 0, 1) := by decide +kernel
theorem d_Li_makeImage_51 : decode b_Li_makeImage 51 = .ok (.putfield 51, 3) := by decide +kernel
theorem d_Li_makeImage_54 : decode b_Li_makeImage 54 = .ok (.aload_n 0, 1) := by decide +kernel
theorem d_Li_makeImage_55 : decode b_Li_makeImage 55 = .ok (.getfield 51, 3) := by decide +kernel
theorem d_Li_makeImage_58 : decode b_Li_makeImage 58 = .ok (.ifCond .ne 7, 3) := by decide +kernel
theorem d_Li_makeImage_61 : decode b_Li_makeImage 61 = .ok (.aload_n 0, 1) := by decide +kernel
theorem d_Li_makeImage_62 : decode b_Li_makeImage 62 = .ok (.invokevirtual 100, 3) := by decide +kernel
theorem d_Li_makeImage_65 : decode b_Li_makeImage 65 = .ok (.aload_n 0, 1) := by decide +kernel
theorem d_Li_makeImage_66 : decode b_Li_makeImage 66 = .ok (.iconst 0, 1) := by decide +kernel
theorem d_Li_makeImage_67 : decode b_Li_makeImage 67 = .ok (.putfield 48, 3) := by decide +kernel
theorem d_Li_makeImage_70 : decode b_Li_makeImage 70 = .ok (.aload_n 0, 1) := by decide +kernel
theorem d_Li_makeImage_71 : decode b_Li_makeImage 71 = .ok (.getfield 51, 3) := by decide +kernel
theorem d_Li_makeImage_74 : decode b_Li_makeImage 74 = .ok (.ireturn, 1) := by decide +kernel
theorem d_Li_forget_0 : decode b_Li_forget 0 = .ok (.aload_n 0, 1) := by decide +kernel
theorem d_Li_forget_1 : decode b_Li_forget 1 = .ok (.invokevirtual 100, 3) := by decide +kernel
theorem d_Li_forget_4 : decode b_Li_forget 4 = .ok (.aload_n 0, 1) := by decide +kernel
theorem d_Li_forget_5 : decode b_Li_forget 5 = .ok (.iconst 0, 1) := by decide +kernel
theorem d_Li_forget_6 : decode b_Li_forget 6 = .ok (.iconst (-1), 1) := by decide +kernel
theorem d_Li_forget_7 : decode b_Li_forget 7 = .ok (.iconst (-1), 1) := by decide +kernel
theorem d_Li_forget_8 : decode b_Li_forget 8 = .ok (.invokevirtual 103, 3) := by decide +kernel
theorem d_Li_forget_11 : decode b_Li_forget 11 = .ok (.pop, 1) := by decide +kernel
theorem d_Li_forget_12 : decode b_Li_forget 12 = .ok (.aload_n 0, 1) := by decide +kernel
theorem d_Li_forget_13 : decode b_Li_forget 13 = .ok (.getfield 24, 3) := by decide +kernel
theorem d_Li_forget_16 : decode b_Li_forget 16 = .ok (.invokevirtual 107, 3) := by decide +kernel
theorem d_Li_forget_19 : decode b_Li_forget 19 = .ok (.aload_n 0, 1) := by decide +kernel
theorem d_Li_forget_20 : decode b_Li_forget 20 = .ok (.iconst 0, 1) := by decide +kernel
theorem d_Li_forget_21 : decode b_Li_forget 21 = .ok (.putfield 110, 3) := by decide +kernel
theorem d_Li_forget_24 : decode b_Li_forget 24 = .ok (.iconst 0, 1) := by decide +kernel
theorem d_Li_forget_25 : decode b_Li_forget 25 = .ok (.istore_n 1, 1) := by decide +kernel
theorem d_Li_forget_26 : decode b_Li_forget 26 = .ok (.iload_n 1, 1) := by decide +kernel
theorem d_Li_forget_27 : decode b_Li_forget 27 = .ok (.bipush 96, 2) := by decide +kernel
theorem d_Li_forget_29 : decode b_Li_forget 29 = .ok (.if_icmp .ge 16, 3) := by decide +kernel
theorem d_Li_forget_32 : decode b_Li_forget 32 = .ok (.aload_n 0, 1) := by decide +kernel
theorem d_Li_forget_33 : decode b_Li_forget 33 = .ok (.getfield 28, 3) := by decide +kernel
theorem d_Li_forget_36 : decode b_Li_forget 36 = .ok (.iload_n 1, 1) := by decide +kernel
theorem d_Li_forget_37 : decode b_Li_forget 37 = .ok (.iconst 0, 1) := by decide +kernel
theorem d_Li_forget_38 : decode b_Li_forget 38 = .ok (.bastore, 1) := by decide +kernel
theorem d_Li_forget_39 : decode b_Li_forget 39 = .ok (.iinc 1 1, 3) := by decide +kernel
theorem d_Li_forget_42 : decode b_Li_forget 42 = .ok (.goto (-16), 3) := by decide +kernel
theorem d_Li_forget_45 : decode b_Li_forget 45 = .ok (.return_, 1) := by decide +kernel
theorem d_Li_dropImage_0 : decode b_Li_dropImage 0 = .ok (.aload_n 0, 1) := by decide +kernel
theorem d_Li_dropImage_1 : decode b_Li_dropImage 1 = .ok (.iconst 0, 1) := by decide +kernel
theorem d_Li_dropImage_2 : decode b_Li_dropImage 2 = .ok (.putfield 113, 3) := by decide +kernel
theorem d_Li_dropImage_5 : decode b_Li_dropImage 5 = .ok (.aload_n 0, 1) := by decide +kernel
theorem d_Li_dropImage_6 : decode b_Li_dropImage 6 = .ok (.iconst 0, 1) := by decide +kernel
theorem d_Li_dropImage_7 : decode b_Li_dropImage 7 = .ok (.putfield 116, 3) := by decide +kernel
theorem d_Li_dropImage_10 : decode b_Li_dropImage 10 = .ok (.aload_n 0, 1) := by decide +kernel
theorem d_Li_dropImage_11 : decode b_Li_dropImage 11 = .ok (.iconst 0, 1) := by decide +kernel
theorem d_Li_dropImage_12 : decode b_Li_dropImage 12 = .ok (.putfield 119, 3) := by decide +kernel
theorem d_Li_dropImage_15 : decode b_Li_dropImage 15 = .ok (.aload_n 0, 1) := by decide +kernel
theorem d_Li_dropImage_16 : decode b_Li_dropImage 16 = .ok (.iconst 0, 1) := by decide +kernel
theorem d_Li_dropImage_17 : decode b_Li_dropImage 17 = .ok (.putfield 122, 3) := by decide +kernel
theorem d_Li_dropImage_20 : decode b_Li_dropImage 20 = .ok (.return_, 1) := by decide +kernel
theorem d_Li_tell_0 : decode b_Li_tell 0 = .ok (.aload_n 0, 1) := by decide +kernel
theorem d_Li_tell_1 : decode b_Li_tell 1 = .ok (.iload_n 1, 1) := by decide +kernel
theorem d_Li_tell_2 : decode b_Li_tell 2 = .ok (.putfield 125, 3) := by decide +kernel
theorem d_Li_tell_5 : decode b_Li_tell 5 = .ok (.aload_n 0, 1) := by decide +kernel
theorem d_Li_tell_6 : decode b_Li_tell 6 = .ok (.iload_n 2, 1) := by decide +kernel
theorem d_Li_tell_7 : decode b_Li_tell 7 = .ok (.putfield 41, 3) := by decide +kernel
theorem d_Li_tell_10 : decode b_Li_tell 10 = .ok (.aload_n 0, 1) := by decide +kernel
theorem d_Li_tell_11 : decode b_Li_tell 11 = .ok (.iload_n 3, 1) := by decide +kernel
theorem d_Li_tell_12 : decode b_Li_tell 12 = .ok (.putfield 45, 3) := by decide +kernel
theorem d_Li_tell_15 : decode b_Li_tell 15 = .ok (.iconst 0, 1) := by decide +kernel
theorem d_Li_tell_16 : decode b_Li_tell 16 = .ok (.ireturn, 1) := by decide +kernel
theorem d_NT_clear_0 : decode b_NT_clear 0 = .ok (.aload_n 0, 1) := by decide +kernel
theorem d_NT_clear_1 : decode b_NT_clear 1 = .ok (.iconst 0, 1) := by decide +kernel
theorem d_NT_clear_2 : decode b_NT_clear 2 = .ok (.putfield 24, 3) := by decide +kernel
theorem d_NT_clear_5 : decode b_NT_clear 5 = .ok (.aload_n 0, 1) := by decide +kernel
theorem d_NT_clear_6 : decode b_NT_clear 6 = .ok (.iconst 0, 1) := by decide +kernel
theorem d_NT_clear_7 : decode b_NT_clear 7 = .ok (.putfield 28, 3) := by decide +kernel
theorem d_NT_clear_10 : decode b_NT_clear 10 = .ok (.return_, 1) := by decide +kernel
theorem d_Li_gatherNames_0 : decode b_Li_gatherNames 0 = .ok (.iconst 0, 1) := by decide +kernel
theorem d_Li_gatherNames_1 : decode b_Li_gatherNames 1 = .ok (.istore_n 1, 1) := by decide +kernel
theorem d_Li_gatherNames_2 : decode b_Li_gatherNames 2 = .ok (.iload_n 1, 1) := by decide +kernel
theorem d_Li_gatherNames_3 : decode b_Li_gatherNames 3 = .ok (.aload_n 0, 1) := by decide +kernel
theorem d_Li_gatherNames_4 : decode b_Li_gatherNames 4 = .ok (.getfield 48, 3) := by decide +kernel
theorem d_Li_gatherNames_7 : decode b_Li_gatherNames 7 = .ok (.if_icmp .ge 73, 3) := by decide +kernel
theorem d_Li_gatherNames_10 : decode b_Li_gatherNames 10 = .ok (.aload_n 0, 1) := by decide +kernel
theorem d_Li_gatherNames_11 : decode b_Li_gatherNames 11 = .ok (.getfield 11, 3) := by decide +kernel
theorem d_Li_gatherNames_14 : decode b_Li_gatherNames 14 = .ok (.aload_n 0, 1) := by decide +kernel
theorem d_Li_gatherNames_15 : decode b_Li_gatherNames 15 = .ok (.getfield 17, 3) := by decide +kernel
theorem d_Li_gatherNames_18 : decode b_Li_gatherNames 18 = .ok (.iload_n 1, 1) := by decide +kernel
theorem d_Li_gatherNames_19 : decode b_Li_gatherNames 19 = .ok (.iaload, 1) := by decide +kernel
theorem d_Li_gatherNames_20 : decode b_Li_gatherNames 20 = .ok (.aaload, 1) := by decide +kernel
theorem d_Li_gatherNames_21 : decode b_Li_gatherNames 21 = .ok (.astore_n 2, 1) := by decide +kernel
theorem d_Li_gatherNames_22 : decode b_Li_gatherNames 22 = .ok (.iconst 0, 1) := by decide +kernel
theorem d_Li_gatherNames_23 : decode b_Li_gatherNames 23 = .ok (.istore_n 3, 1) := by decide +kernel
theorem d_Li_gatherNames_24 : decode b_Li_gatherNames 24 = .ok (.iload_n 3, 1) := by decide +kernel
theorem d_Li_gatherNames_25 : decode b_Li_gatherNames 25 = .ok (.aload_n 2, 1) := by decide +kernel
theorem d_Li_gatherNames_26 : decode b_Li_gatherNames 26 = .ok (.getfield 128, 3) := by decide +kernel
theorem d_Li_gatherNames_29 : decode b_Li_gatherNames 29 = .ok (.if_icmp .ge 45, 3) := by decide +kernel
theorem d_Li_gatherNames_32 : decode b_Li_gatherNames 32 = .ok (.aload_n 0, 1) := by decide +kernel
theorem d_Li_gatherNames_33 : decode b_Li_gatherNames 33 = .ok (.getfield 24, 3) := by decide +kernel
theorem d_Li_gatherNames_36 : decode b_Li_gatherNames 36 = .ok (.aload_n 0, 1) := by decide +kernel
theorem d_Li_gatherNames_37 : decode b_Li_gatherNames 37 = .ok (.getfield 17, 3) := by decide +kernel
theorem d_Li_gatherNames_40 : decode b_Li_gatherNames 40 = .ok (.iload_n 1, 1) := by decide +kernel
theorem d_Li_gatherNames_41 : decode b_Li_gatherNames 41 = .ok (.iaload, 1) := by decide +kernel
theorem d_Li_gatherNames_42 : decode b_Li_gatherNames 42 = .ok (.iload_n 3, 1) := by decide +kernel
theorem d_Li_gatherNames_43 : decode b_Li_gatherNames 43 = .ok (.aload_n 2, 1) := by decide +kernel
theorem d_Li_gatherNames_44 : decode b_Li_gatherNames 44 = .ok (.getfield 131, 3) := by decide +kernel
theorem d_Li_gatherNames_47 : decode b_Li_gatherNames 47 = .ok (.iload_n 3, 1) := by decide +kernel
theorem d_Li_gatherNames_48 : decode b_Li_gatherNames 48 = .ok (.aaload, 1) := by decide +kernel
theorem d_Li_gatherNames_49 : decode b_Li_gatherNames 49 = .ok (.invokevirtual 135, 3) := by decide +kernel
theorem d_Li_gatherNames_52 : decode b_Li_gatherNames 52 = .ok (.ifCond .ne 16, 3) := by decide +kernel
theorem d_Li_gatherNames_55 : decode b_Li_gatherNames 55 = .ok (.aload_n 0, 1) := by decide +kernel
theorem d_Li_gatherNames_56 : decode b_Li_gatherNames 56 = .ok (.iconst 1, 1) := by decide +kernel
theorem d_Li_gatherNames_57 : decode b_Li_gatherNames 57 = .ok (.aload_n 0, 1) := by decide +kernel
theorem d_Li_gatherNames_58 : decode b_Li_gatherNames 58 = .ok (.getfield 17, 3) := by decide +kernel
theorem d_Li_gatherNames_61 : decode b_Li_gatherNames 61 = .ok (.iload_n 1, 1) := by decide +kernel
theorem d_Li_gatherNames_62 : decode b_Li_gatherNames 62 = .ok (.iaload, 1) := by decide +kernel
theorem d_Li_gatherNames_63 : decode b_Li_gatherNames 63 = .ok (.iload_n 3, 1) := by decide +kernel
theorem d_Li_gatherNames_64 : decode b_Li_gatherNames 64 = .ok (.invokevirtual 103, 3) := by decide +kernel
theorem d_Li_gatherNames_67 : decode b_Li_gatherNames 67 = .ok (.ireturn, 1) := by decide +kernel
theorem d_Li_gatherNames_68 : decode b_Li_gatherNames 68 = .ok (.iinc 3 1, 3) := by decide +kernel
theorem d_Li_gatherNames_71 : decode b_Li_gatherNames 71 = .ok (.goto (-47), 3) := by decide +kernel
theorem d_Li_gatherNames_74 : decode b_Li_gatherNames 74 = .ok (.iinc 1 1, 3) := by decide +kernel
theorem d_Li_gatherNames_77 : decode b_Li_gatherNames 77 = .ok (.goto (-75), 3) := by decide +kernel
theorem d_Li_gatherNames_80 : decode b_Li_gatherNames 80 = .ok (.iconst 1, 1) := by decide +kernel
theorem d_Li_gatherNames_81 : decode b_Li_gatherNames 81 = .ok (.ireturn, 1) := by decide +kernel
theorem d_NT_enter_0 : decode b_NT_enter 0 = .ok (.aload_n 0, 1) := by decide +kernel
theorem d_NT_enter_1 : decode b_NT_enter 1 = .ok (.aload_n 3, 1) := by decide +kernel
theorem d_NT_enter_2 : decode b_NT_enter 2 = .ok (.getfield 42, 3) := by decide +kernel
theorem d_NT_enter_5 : decode b_NT_enter 5 = .ok (.invokevirtual 45, 3) := by decide +kernel
theorem d_NT_enter_8 : decode b_NT_enter 8 = .ok (.astore 4, 2) := by decide +kernel
theorem d_NT_enter_10 : decode b_NT_enter 10 = .ok (.aload_n 0, 1) := by decide +kernel
theorem d_NT_enter_11 : decode b_NT_enter 11 = .ok (.getfield 17, 3) := by decide +kernel
theorem d_NT_enter_14 : decode b_NT_enter 14 = .ok (.iload_n 1, 1) := by decide +kernel
theorem d_NT_enter_15 : decode b_NT_enter 15 = .ok (.bipush 12, 2) := by decide +kernel
theorem d_NT_enter_17 : decode b_NT_enter 17 = .ok (.imul, 1) := by decide +kernel
theorem d_NT_enter_18 : decode b_NT_enter 18 = .ok (.iload_n 2, 1) := by decide +kernel
theorem d_NT_enter_19 : decode b_NT_enter 19 = .ok (.iadd, 1) := by decide +kernel
theorem d_NT_enter_20 : decode b_NT_enter 20 = .ok (.aload 4, 2) := by decide +kernel
theorem d_NT_enter_22 : decode b_NT_enter 22 = .ok (.aastore, 1) := by decide +kernel
theorem d_NT_enter_23 : decode b_NT_enter 23 = .ok (.aload_n 3, 1) := by decide +kernel
theorem d_NT_enter_24 : decode b_NT_enter 24 = .ok (.getfield 48, 3) := by decide +kernel
theorem d_NT_enter_27 : decode b_NT_enter 27 = .ok (.tableswitch 93 0 2 #[25, 55, 84], 25) := by decide +kernel
theorem d_NT_enter_52 : decode b_NT_enter 52 = .ok (.aload 4, 2) := by decide +kernel
theorem d_NT_enter_54 : decode b_NT_enter 54 = .ok (.getfield 51, 3) := by decide +kernel
theorem d_NT_enter_57 : decode b_NT_enter 57 = .ok (.ifCond .ne 5, 3) := by decide +kernel
theorem d_NT_enter_60 : decode b_NT_enter 60 = .ok (.iconst 0, 1) := by decide +kernel
theorem d_NT_enter_61 : decode b_NT_enter 61 = .ok (.ireturn, 1) := by decide +kernel
theorem d_NT_enter_62 : decode b_NT_enter 62 = .ok (.aload 4, 2) := by decide +kernel
theorem d_NT_enter_64 : decode b_NT_enter 64 = .ok (.iconst 0, 1) := by decide +kernel
theorem d_NT_enter_65 : decode b_NT_enter 65 = .ok (.iload_n 1, 1) := by decide +kernel
theorem d_NT_enter_66 : decode b_NT_enter 66 = .ok (.aload_n 3, 1) := by decide +kernel
theorem d_NT_enter_67 : decode b_NT_enter 67 = .ok (.getfield 52, 3) := by decide +kernel
theorem d_NT_enter_70 : decode b_NT_enter 70 = .ok (.invokestatic 55, 3) := by decide +kernel
theorem d_NT_enter_73 : decode b_NT_enter 73 = .ok (.aload_n 3, 1) := by decide +kernel
theorem d_NT_enter_74 : decode b_NT_enter 74 = .ok (.getfield 59, 3) := by decide +kernel
theorem d_NT_enter_77 : decode b_NT_enter 77 = .ok (.invokevirtual 62, 3) := by decide +kernel
theorem d_NT_enter_80 : decode b_NT_enter 80 = .ok (.iconst 1, 1) := by decide +kernel
theorem d_NT_enter_81 : decode b_NT_enter 81 = .ok (.ireturn, 1) := by decide +kernel
theorem d_NT_enter_82 : decode b_NT_enter 82 = .ok (.aload 4, 2) := by decide +kernel
theorem d_NT_enter_84 : decode b_NT_enter 84 = .ok (.getfield 51, 3) := by decide +kernel
theorem d_NT_enter_87 : decode b_NT_enter 87 = .ok (.iconst 3, 1) := by decide +kernel
theorem d_NT_enter_88 : decode b_NT_enter 88 = .ok (.if_icmp .ne 21, 3) := by decide +kernel
theorem d_NT_enter_91 : decode b_NT_enter 91 = .ok (.aload 4, 2) := by decide +kernel
theorem d_NT_enter_93 : decode b_NT_enter 93 = .ok (.iconst 1, 1) := by decide +kernel
theorem d_NT_enter_94 : decode b_NT_enter 94 = .ok (.iload_n 1, 1) := by decide +kernel
theorem d_NT_enter_95 : decode b_NT_enter 95 = .ok (.aload_n 3, 1) := by decide +kernel
theorem d_NT_enter_96 : decode b_NT_enter 96 = .ok (.getfield 52, 3) := by decide +kernel
theorem d_NT_enter_99 : decode b_NT_enter 99 = .ok (.invokestatic 55, 3) := by decide +kernel
theorem d_NT_enter_102 : decode b_NT_enter 102 = .ok (.aload_n 3, 1) := by decide +kernel
theorem d_NT_enter_103 : decode b_NT_enter 103 = .ok (.getfield 59, 3) := by decide +kernel
theorem d_NT_enter_106 : decode b_NT_enter 106 = .ok (.invokevirtual 62, 3) := by decide +kernel
theorem d_NT_enter_109 : decode b_NT_enter 109 = .ok (.iconst 1, 1) := by decide +kernel
theorem d_NT_enter_110 : decode b_NT_enter 110 = .ok (.ireturn, 1) := by decide +kernel
theorem d_NT_enter_111 : decode b_NT_enter 111 = .ok (.aload_n 0, 1) := by decide +kernel
theorem d_NT_enter_112 : decode b_NT_enter 112 = .ok (.aload 4, 2) := by decide +kernel
theorem d_NT_enter_114 : decode b_NT_enter 114 = .ok (.aload_n 3, 1) := by decide +kernel
theorem d_NT_enter_115 : decode b_NT_enter 115 = .ok (.invokevirtual 66, 3) := by decide +kernel
theorem d_NT_enter_118 : decode b_NT_enter 118 = .ok (.iconst 1, 1) := by decide +kernel
theorem d_NT_enter_119 : decode b_NT_enter 119 = .ok (.ireturn, 1) := by decide +kernel
theorem d_NT_enter_120 : decode b_NT_enter 120 = .ok (.iconst 1, 1) := by decide +kernel
theorem d_NT_enter_121 : decode b_NT_enter 121 = .ok (.ireturn, 1) := by decide +kernel
theorem d_NT_findOrBegin_0 : decode b_NT_findOrBegin 0 = .ok (.aload_n 0, 1) := by decide +kernel
theorem d_NT_findOrBegin_1 : decode b_NT_findOrBegin 1 = .ok (.iload_n 1, 1) := by decide +kernel
theorem d_NT_findOrBegin_2 : decode b_NT_findOrBegin 2 = .ok (.invokevirtual 34, 3) := by decide +kernel
theorem d_NT_findOrBegin_5 : decode b_NT_findOrBegin 5 = .ok (.astore_n 2, 1) := by decide +kernel
theorem d_NT_findOrBegin_6 : decode b_NT_findOrBegin 6 = .ok (.aload_n 2, 1) := by decide +kernel
theorem d_NT_findOrBegin_7 : decode b_NT_findOrBegin 7 = .ok (.ifnull 5, 3) := by decide +kernel
theorem d_NT_findOrBegin_10 : decode b_NT_findOrBegin 10 = .ok (.aload_n 2, 1) := by decide +kernel
theorem d_NT_findOrBegin_11 : decode b_NT_findOrBegin 11 = .ok (.areturn, 1) := by decide +kernel
theorem d_NT_findOrBegin_12 : decode b_NT_findOrBegin 12 = .ok (.aload_n 0, 1) := by decide +kernel
theorem d_NT_findOrBegin_13 : decode b_NT_findOrBegin 13 = .ok (.getfield 11, 3) := by decide +kernel
theorem d_NT_findOrBegin_16 : decode b_NT_findOrBegin 16 = .ok (.aload_n 0, 1) := by decide +kernel
theorem d_NT_findOrBegin_17 : decode b_NT_findOrBegin 17 = .ok (.getfield 24, 3) := by decide +kernel
theorem d_NT_findOrBegin_20 : decode b_NT_findOrBegin 20 = .ok (.aaload, 1) := by decide +kernel
theorem d_NT_findOrBegin_21 : decode b_NT_findOrBegin 21 = .ok (.astore_n 3, 1) := by decide +kernel
theorem d_NT_findOrBegin_22 : decode b_NT_findOrBegin 22 = .ok (.aload_n 0, 1) := by decide +kernel
theorem d_NT_findOrBegin_23 : decode b_NT_findOrBegin 23 = .ok (.dup, 1) := by decide +kernel
theorem d_NT_findOrBegin_24 : decode b_NT_findOrBegin 24 = .ok (.getfield 24, 3) := by decide +kernel
theorem d_NT_findOrBegin_27 : decode b_NT_findOrBegin 27 = .ok (.iconst 1, 1) := by decide +kernel
theorem d_NT_findOrBegin_28 : decode b_NT_findOrBegin 28 = .ok (.iadd, 1) := by decide +kernel
theorem d_NT_findOrBegin_29 : decode b_NT_findOrBegin 29 = .ok (.putfield 24, 3) := by decide +kernel
theorem d_NT_findOrBegin_32 : decode b_NT_findOrBegin 32 = .ok (.aload_n 3, 1) := by decide +kernel
theorem d_NT_findOrBegin_33 : decode b_NT_findOrBegin 33 = .ok (.iload_n 1, 1) := by decide +kernel
theorem d_NT_findOrBegin_34 : decode b_NT_findOrBegin 34 = .ok (.invokevirtual 38, 3) := by decide +kernel
theorem d_NT_findOrBegin_37 : decode b_NT_findOrBegin 37 = .ok (.aload_n 3, 1) := by decide +kernel
theorem d_NT_findOrBegin_38 : decode b_NT_findOrBegin 38 = .ok (.areturn, 1) := by decide +kernel
theorem d_Me_begin_0 : decode b_Me_begin 0 = .ok (.aload_n 0, 1) := by decide +kernel
theorem d_Me_begin_1 : decode b_Me_begin 1 = .ok (.iload_n 1, 1) := by decide +kernel
theorem d_Me_begin_2 : decode b_Me_begin 2 = .ok (.putfield 9, 3) := by decide +kernel
theorem d_Me_begin_5 : decode b_Me_begin 5 = .ok (.aload_n 0, 1) := by decide +kernel
theorem d_Me_begin_6 : decode b_Me_begin 6 = .ok (.iconst 3, 1) := by decide +kernel
theorem d_Me_begin_7 : decode b_Me_begin 7 = .ok (.putfield 15, 3) := by decide +kernel
theorem d_Me_begin_10 : decode b_Me_begin 10 = .ok (.aload_n 0, 1) := by decide +kernel
theorem d_Me_begin_11 : decode b_Me_begin 11 = .ok (.iconst 0, 1) := by decide +kernel
theorem d_Me_begin_12 : decode b_Me_begin 12 = .ok (.putfield 18, 3) := by decide +kernel
theorem d_Me_begin_15 : decode b_Me_begin 15 = .ok (.aload_n 0, 1) := by decide +kernel
theorem d_Me_begin_16 : decode b_Me_begin 16 = .ok (.iconst 0, 1) := by decide +kernel
theorem d_Me_begin_17 : decode b_Me_begin 17 = .ok (.putfield 21, 3) := by decide +kernel
theorem d_Me_begin_20 : decode b_Me_begin 20 = .ok (.aload_n 0, 1) := by decide +kernel
theorem d_Me_begin_21 : decode b_Me_begin 21 = .ok (.iconst 0, 1) := by decide +kernel
theorem d_Me_begin_22 : decode b_Me_begin 22 = .ok (.putfield 24, 3) := by decide +kernel
theorem d_Me_begin_25 : decode b_Me_begin 25 = .ok (.aload_n 0, 1) := by decide +kernel
theorem d_Me_begin_26 : decode b_Me_begin 26 = .ok (.iconst (-1), 1) := by decide +kernel
theorem d_Me_begin_27 : decode b_Me_begin 27 = .ok (.putfield 28, 3) := by decide +kernel
theorem d_Me_begin_30 : decode b_Me_begin 30 = .ok (.return_, 1) := by decide +kernel
theorem d_OL_slotOf_0 : decode b_OL_slotOf 0 = .ok (.iload_n 0, 1) := by decide +kernel
theorem d_OL_slotOf_1 : decode b_OL_slotOf 1 = .ok (.bipush 8, 2) := by decide +kernel
theorem d_OL_slotOf_3 : decode b_OL_slotOf 3 = .ok (.imul, 1) := by decide +kernel
theorem d_OL_slotOf_4 : decode b_OL_slotOf 4 = .ok (.iload_n 1, 1) := by decide +kernel
theorem d_OL_slotOf_5 : decode b_OL_slotOf 5 = .ok (.iadd, 1) := by decide +kernel
theorem d_OL_slotOf_6 : decode b_OL_slotOf 6 = .ok (.ireturn, 1) := by decide +kernel
theorem d_Me_define_0 : decode b_Me_define 0 = .ok (.aload_n 0, 1) := by decide +kernel
theorem d_Me_define_1 : decode b_Me_define 1 = .ok (.iload_n 1, 1) := by decide +kernel
theorem d_Me_define_2 : decode b_Me_define 2 = .ok (.putfield 15, 3) := by decide +kernel
theorem d_Me_define_5 : decode b_Me_define 5 = .ok (.aload_n 0, 1) := by decide +kernel
theorem d_Me_define_6 : decode b_Me_define 6 = .ok (.iload_n 2, 1) := by decide +kernel
theorem d_Me_define_7 : decode b_Me_define 7 = .ok (.putfield 31, 3) := by decide +kernel
theorem d_Me_define_10 : decode b_Me_define 10 = .ok (.aload_n 0, 1) := by decide +kernel
theorem d_Me_define_11 : decode b_Me_define 11 = .ok (.iload_n 3, 1) := by decide +kernel
theorem d_Me_define_12 : decode b_Me_define 12 = .ok (.putfield 34, 3) := by decide +kernel
theorem d_Me_define_15 : decode b_Me_define 15 = .ok (.return_, 1) := by decide +kernel
theorem d_NT_enterCommon_0 : decode b_NT_enterCommon 0 = .ok (.aload_n 1, 1) := by decide +kernel
theorem d_NT_enterCommon_1 : decode b_NT_enterCommon 1 = .ok (.getfield 51, 3) := by decide +kernel
theorem d_NT_enterCommon_4 : decode b_NT_enterCommon 4 = .ok (.ifCond .ne 4, 3) := by decide +kernel
theorem d_NT_enterCommon_7 : decode b_NT_enterCommon 7 = .ok (.return_, 1) := by decide +kernel
theorem d_NT_enterCommon_8 : decode b_NT_enterCommon 8 = .ok (.aload_n 1, 1) := by decide +kernel
theorem d_NT_enterCommon_9 : decode b_NT_enterCommon 9 = .ok (.getfield 51, 3) := by decide +kernel
theorem d_NT_enterCommon_12 : decode b_NT_enterCommon 12 = .ok (.iconst 2, 1) := by decide +kernel
theorem d_NT_enterCommon_13 : decode b_NT_enterCommon 13 = .ok (.if_icmp .eq 23, 3) := by decide +kernel
theorem d_NT_enterCommon_16 : decode b_NT_enterCommon 16 = .ok (.aload_n 0, 1) := by decide +kernel
theorem d_NT_enterCommon_17 : decode b_NT_enterCommon 17 = .ok (.getfield 20, 3) := by decide +kernel
theorem d_NT_enterCommon_20 : decode b_NT_enterCommon 20 = .ok (.aload_n 0, 1) := by decide +kernel
theorem d_NT_enterCommon_21 : decode b_NT_enterCommon 21 = .ok (.getfield 28, 3) := by decide +kernel
theorem d_NT_enterCommon_24 : decode b_NT_enterCommon 24 = .ok (.aload_n 1, 1) := by decide +kernel
theorem d_NT_enterCommon_25 : decode b_NT_enterCommon 25 = .ok (.aastore, 1) := by decide +kernel
theorem d_NT_enterCommon_26 : decode b_NT_enterCommon 26 = .ok (.aload_n 0, 1) := by decide +kernel
theorem d_NT_enterCommon_27 : decode b_NT_enterCommon 27 = .ok (.dup, 1) := by decide +kernel
theorem d_NT_enterCommon_28 : decode b_NT_enterCommon 28 = .ok (.getfield 28, 3) := by decide +kernel
theorem d_NT_enterCommon_31 : decode b_NT_enterCommon 31 = .ok (.iconst 1, 1) := by decide +kernel
theorem d_NT_enterCommon_32 : decode b_NT_enterCommon 32 = .ok (.iadd, 1) := by decide +kernel
theorem d_NT_enterCommon_33 : decode b_NT_enterCommon 33 = .ok (.putfield 28, 3) := by decide +kernel
theorem d_NT_enterCommon_36 : decode b_NT_enterCommon 36 = .ok (.aload_n 1, 1) := by decide +kernel
theorem d_NT_enterCommon_37 : decode b_NT_enterCommon 37 = .ok (.aload_n 2, 1) := by decide +kernel
theorem d_NT_enterCommon_38 : decode b_NT_enterCommon 38 = .ok (.getfield 52, 3) := by decide +kernel
theorem d_NT_enterCommon_41 : decode b_NT_enterCommon 41 = .ok (.aload_n 2, 1) := by decide +kernel
theorem d_NT_enterCommon_42 : decode b_NT_enterCommon 42 = .ok (.getfield 59, 3) := by decide +kernel
theorem d_NT_enterCommon_45 : decode b_NT_enterCommon 45 = .ok (.invokevirtual 70, 3) := by decide +kernel
theorem d_NT_enterCommon_48 : decode b_NT_enterCommon 48 = .ok (.return_, 1) := by decide +kernel
theorem d_Me_widen_0 : decode b_Me_widen 0 = .ok (.aload_n 0, 1) := by decide +kernel
theorem d_Me_widen_1 : decode b_Me_widen 1 = .ok (.iconst 2, 1) := by decide +kernel
theorem d_Me_widen_2 : decode b_Me_widen 2 = .ok (.putfield 15, 3) := by decide +kernel
theorem d_Me_widen_5 : decode b_Me_widen 5 = .ok (.aload_n 0, 1) := by decide +kernel
theorem d_Me_widen_6 : decode b_Me_widen 6 = .ok (.aload_n 0, 1) := by decide +kernel
theorem d_Me_widen_7 : decode b_Me_widen 7 = .ok (.getfield 18, 3) := by decide +kernel
theorem d_Me_widen_10 : decode b_Me_widen 10 = .ok (.iload_n 1, 1) := by decide +kernel
theorem d_Me_widen_11 : decode b_Me_widen 11 = .ok (.invokestatic 37, 3) := by decide +kernel
theorem d_Me_widen_14 : decode b_Me_widen 14 = .ok (.putfield 18, 3) := by decide +kernel
theorem d_Me_widen_17 : decode b_Me_widen 17 = .ok (.aload_n 0, 1) := by decide +kernel
theorem d_Me_widen_18 : decode b_Me_widen 18 = .ok (.aload_n 0, 1) := by decide +kernel
theorem d_Me_widen_19 : decode b_Me_widen 19 = .ok (.getfield 21, 3) := by decide +kernel
theorem d_Me_widen_22 : decode b_Me_widen 22 = .ok (.iload_n 2, 1) := by decide +kernel
theorem d_Me_widen_23 : decode b_Me_widen 23 = .ok (.invokestatic 37, 3) := by decide +kernel
theorem d_Me_widen_26 : decode b_Me_widen 26 = .ok (.putfield 21, 3) := by decide +kernel
theorem d_Me_widen_29 : decode b_Me_widen 29 = .ok (.return_, 1) := by decide +kernel
theorem d_Li_reachFrom_0 : decode b_Li_reachFrom 0 = .ok (.aload_n 0, 1) := by decide +kernel
theorem d_Li_reachFrom_1 : decode b_Li_reachFrom 1 = .ok (.getfield 24, 3) := by decide +kernel
theorem d_Li_reachFrom_4 : decode b_Li_reachFrom 4 = .ok (.iload_n 1, 1) := by decide +kernel
theorem d_Li_reachFrom_5 : decode b_Li_reachFrom 5 = .ok (.invokevirtual 58, 3) := by decide +kernel
theorem d_Li_reachFrom_8 : decode b_Li_reachFrom 8 = .ok (.astore_n 2, 1) := by decide +kernel
theorem d_Li_reachFrom_9 : decode b_Li_reachFrom 9 = .ok (.aload_n 2, 1) := by decide +kernel
theorem d_Li_reachFrom_10 : decode b_Li_reachFrom 10 = .ok (.ifnull 11, 3) := by decide +kernel
theorem d_Li_reachFrom_13 : decode b_Li_reachFrom 13 = .ok (.aload_n 2, 1) := by decide +kernel
theorem d_Li_reachFrom_14 : decode b_Li_reachFrom 14 = .ok (.getfield 66, 3) := by decide +kernel
theorem d_Li_reachFrom_17 : decode b_Li_reachFrom 17 = .ok (.iconst 3, 1) := by decide +kernel
theorem d_Li_reachFrom_18 : decode b_Li_reachFrom 18 = .ok (.if_icmp .ne 11, 3) := by decide +kernel
theorem d_Li_reachFrom_21 : decode b_Li_reachFrom 21 = .ok (.aload_n 0, 1) := by decide +kernel
theorem d_Li_reachFrom_22 : decode b_Li_reachFrom 22 = .ok (.iconst 2, 1) := by decide +kernel
theorem d_Li_reachFrom_23 : decode b_Li_reachFrom 23 = .ok (.iconst (-1), 1) := by decide +kernel
theorem d_Li_reachFrom_24 : decode b_Li_reachFrom 24 = .ok (.iload_n 1, 1) := by decide +kernel
theorem d_Li_reachFrom_25 : decode b_Li_reachFrom 25 = .ok (.invokevirtual 103, 3) := by decide +kernel
theorem d_Li_reachFrom_28 : decode b_Li_reachFrom 28 = .ok (.ireturn, 1) := by decide +kernel
theorem d_Li_reachFrom_29 : decode b_Li_reachFrom 29 = .ok (.aload_n 0, 1) := by decide +kernel
theorem d_Li_reachFrom_30 : decode b_Li_reachFrom 30 = .ok (.aload_n 2, 1) := by decide +kernel
theorem d_Li_reachFrom_31 : decode b_Li_reachFrom 31 = .ok (.invokevirtual 139, 3) := by decide +kernel
theorem d_Li_reachFrom_34 : decode b_Li_reachFrom 34 = .ok (.iconst 0, 1) := by decide +kernel
theorem d_Li_reachFrom_35 : decode b_Li_reachFrom 35 = .ok (.istore_n 3, 1) := by decide +kernel
theorem d_Li_reachFrom_36 : decode b_Li_reachFrom 36 = .ok (.iload_n 3, 1) := by decide +kernel
theorem d_Li_reachFrom_37 : decode b_Li_reachFrom 37 = .ok (.bipush 96, 2) := by decide +kernel
theorem d_Li_reachFrom_39 : decode b_Li_reachFrom 39 = .ok (.if_icmp .ge 39, 3) := by decide +kernel
theorem d_Li_reachFrom_42 : decode b_Li_reachFrom 42 = .ok (.iload_n 3, 1) := by decide +kernel
theorem d_Li_reachFrom_43 : decode b_Li_reachFrom 43 = .ok (.aload_n 0, 1) := by decide +kernel
theorem d_Li_reachFrom_44 : decode b_Li_reachFrom 44 = .ok (.getfield 110, 3) := by decide +kernel
theorem d_Li_reachFrom_47 : decode b_Li_reachFrom 47 = .ok (.if_icmp .ge 31, 3) := by decide +kernel
theorem d_Li_reachFrom_50 : decode b_Li_reachFrom 50 = .ok (.aload_n 0, 1) := by decide +kernel
theorem d_Li_reachFrom_51 : decode b_Li_reachFrom 51 = .ok (.aload_n 0, 1) := by decide +kernel
theorem d_Li_reachFrom_52 : decode b_Li_reachFrom 52 = .ok (.getfield 32, 3) := by decide +kernel
theorem d_Li_reachFrom_55 : decode b_Li_reachFrom 55 = .ok (.iload_n 3, 1) := by decide +kernel
theorem d_Li_reachFrom_56 : decode b_Li_reachFrom 56 = .ok (.iaload, 1) := by decide +kernel
theorem d_Li_reachFrom_57 : decode b_Li_reachFrom 57 = .ok (.bipush 8, 2) := by decide +kernel
theorem d_Li_reachFrom_59 : decode b_Li_reachFrom 59 = .ok (.idiv, 1) := by decide +kernel
theorem d_Li_reachFrom_60 : decode b_Li_reachFrom 60 = .ok (.aload_n 0, 1) := by decide +kernel
theorem d_Li_reachFrom_61 : decode b_Li_reachFrom 61 = .ok (.getfield 32, 3) := by decide +kernel
theorem d_Li_reachFrom_64 : decode b_Li_reachFrom 64 = .ok (.iload_n 3, 1) := by decide +kernel
theorem d_Li_reachFrom_65 : decode b_Li_reachFrom 65 = .ok (.iaload, 1) := by decide +kernel
theorem d_Li_reachFrom_66 : decode b_Li_reachFrom 66 = .ok (.bipush 8, 2) := by decide +kernel
theorem d_Li_reachFrom_68 : decode b_Li_reachFrom 68 = .ok (.irem, 1) := by decide +kernel
theorem d_Li_reachFrom_69 : decode b_Li_reachFrom 69 = .ok (.invokevirtual 143, 3) := by decide +kernel
theorem d_Li_reachFrom_72 : decode b_Li_reachFrom 72 = .ok (.iinc 3 1, 3) := by decide +kernel
theorem d_Li_reachFrom_75 : decode b_Li_reachFrom 75 = .ok (.goto (-39), 3) := by decide +kernel
theorem d_Li_reachFrom_78 : decode b_Li_reachFrom 78 = .ok (.iconst 1, 1) := by decide +kernel
theorem d_Li_reachFrom_79 : decode b_Li_reachFrom 79 = .ok (.ireturn, 1) := by decide +kernel
theorem d_Li_reach_0 : decode b_Li_reach 0 = .ok (.aload_n 1, 1) := by decide +kernel
theorem d_Li_reach_1 : decode b_Li_reach 1 = .ok (.getfield 66, 3) := by decide +kernel
theorem d_Li_reach_4 : decode b_Li_reach 4 = .ok (.iconst 3, 1) := by decide +kernel
theorem d_Li_reach_5 : decode b_Li_reach 5 = .ok (.if_icmp .ne 4, 3) := by decide +kernel
theorem d_Li_reach_8 : decode b_Li_reach 8 = .ok (.return_, 1) := by decide +kernel
theorem d_Li_reach_9 : decode b_Li_reach 9 = .ok (.aload_n 1, 1) := by decide +kernel
theorem d_Li_reach_10 : decode b_Li_reach 10 = .ok (.getfield 66, 3) := by decide +kernel
theorem d_Li_reach_13 : decode b_Li_reach 13 = .ok (.iconst 2, 1) := by decide +kernel
theorem d_Li_reach_14 : decode b_Li_reach 14 = .ok (.if_icmp .ne 11, 3) := by decide +kernel
theorem d_Li_reach_17 : decode b_Li_reach 17 = .ok (.aload_n 1, 1) := by decide +kernel
theorem d_Li_reach_18 : decode b_Li_reach 18 = .ok (.iconst 1, 1) := by decide +kernel
theorem d_Li_reach_19 : decode b_Li_reach 19 = .ok (.putfield 166, 3) := by decide +kernel
theorem d_Li_reach_22 : decode b_Li_reach 22 = .ok (.goto 48, 3) := by decide +kernel
theorem d_Li_reach_25 : decode b_Li_reach 25 = .ok (.aload_n 0, 1) := by decide +kernel
theorem d_Li_reach_26 : decode b_Li_reach 26 = .ok (.getfield 28, 3) := by decide +kernel
theorem d_Li_reach_29 : decode b_Li_reach 29 = .ok (.aload_n 1, 1) := by decide +kernel
theorem d_Li_reach_30 : decode b_Li_reach 30 = .ok (.getfield 74, 3) := by decide +kernel
theorem d_Li_reach_33 : decode b_Li_reach 33 = .ok (.baload, 1) := by decide +kernel
theorem d_Li_reach_34 : decode b_Li_reach 34 = .ok (.ifCond .ne 36, 3) := by decide +kernel
theorem d_Li_reach_37 : decode b_Li_reach 37 = .ok (.aload_n 0, 1) := by decide +kernel
theorem d_Li_reach_38 : decode b_Li_reach 38 = .ok (.getfield 28, 3) := by decide +kernel
theorem d_Li_reach_41 : decode b_Li_reach 41 = .ok (.aload_n 1, 1) := by decide +kernel
theorem d_Li_reach_42 : decode b_Li_reach 42 = .ok (.getfield 74, 3) := by decide +kernel
theorem d_Li_reach_45 : decode b_Li_reach 45 = .ok (.iconst 1, 1) := by decide +kernel
theorem d_Li_reach_46 : decode b_Li_reach 46 = .ok (.bastore, 1) := by decide +kernel
theorem d_Li_reach_47 : decode b_Li_reach 47 = .ok (.aload_n 0, 1) := by decide +kernel
theorem d_Li_reach_48 : decode b_Li_reach 48 = .ok (.getfield 32, 3) := by decide +kernel
theorem d_Li_reach_51 : decode b_Li_reach 51 = .ok (.aload_n 0, 1) := by decide +kernel
theorem d_Li_reach_52 : decode b_Li_reach 52 = .ok (.getfield 110, 3) := by decide +kernel
theorem d_Li_reach_55 : decode b_Li_reach 55 = .ok (.aload_n 1, 1) := by decide +kernel
theorem d_Li_reach_56 : decode b_Li_reach 56 = .ok (.getfield 74, 3) := by decide +kernel
theorem d_Li_reach_59 : decode b_Li_reach 59 = .ok (.iastore, 1) := by decide +kernel
theorem d_Li_reach_60 : decode b_Li_reach 60 = .ok (.aload_n 0, 1) := by decide +kernel
theorem d_Li_reach_61 : decode b_Li_reach 61 = .ok (.dup, 1) := by decide +kernel
theorem d_Li_reach_62 : decode b_Li_reach 62 = .ok (.getfield 110, 3) := by decide +kernel
theorem d_Li_reach_65 : decode b_Li_reach 65 = .ok (.iconst 1, 1) := by decide +kernel
theorem d_Li_reach_66 : decode b_Li_reach 66 = .ok (.iadd, 1) := by decide +kernel
theorem d_Li_reach_67 : decode b_Li_reach 67 = .ok (.putfield 110, 3) := by decide +kernel
theorem d_Li_reach_70 : decode b_Li_reach 70 = .ok (.return_, 1) := by decide +kernel
theorem d_Li_reachFromSection_0 : decode b_Li_reachFromSection 0 = .ok (.aload_n 0, 1) := by decide +kernel
theorem d_Li_reachFromSection_1 : decode b_Li_reachFromSection 1 = .ok (.getfield 11, 3) := by decide +kernel
theorem d_Li_reachFromSection_4 : decode b_Li_reachFromSection 4 = .ok (.iload_n 1, 1) := by decide +kernel
theorem d_Li_reachFromSection_5 : decode b_Li_reachFromSection 5 = .ok (.aaload, 1) := by decide +kernel
theorem d_Li_reachFromSection_6 : decode b_Li_reachFromSection 6 = .ok (.astore_n 3, 1) := by decide +kernel
theorem d_Li_reachFromSection_7 : decode b_Li_reachFromSection 7 = .ok (.iconst 0, 1) := by decide +kernel
theorem d_Li_reachFromSection_8 : decode b_Li_reachFromSection 8 = .ok (.istore 4, 2) := by decide +kernel
theorem d_Li_reachFromSection_10 : decode b_Li_reachFromSection 10 = .ok (.iload 4, 2) := by decide +kernel
theorem d_Li_reachFromSection_12 : decode b_Li_reachFromSection 12 = .ok (.aload_n 3, 1) := by decide +kernel
theorem d_Li_reachFromSection_13 : decode b_Li_reachFromSection 13 = .ok (.getfield 147, 3) := by decide +kernel
theorem d_Li_reachFromSection_16 : decode b_Li_reachFromSection 16 = .ok (.if_icmp .ge 45, 3) := by decide +kernel
theorem d_Li_reachFromSection_19 : decode b_Li_reachFromSection 19 = .ok (.aload_n 3, 1) := by decide +kernel
theorem d_Li_reachFromSection_20 : decode b_Li_reachFromSection 20 = .ok (.getfield 150, 3) := by decide +kernel
theorem d_Li_reachFromSection_23 : decode b_Li_reachFromSection 23 = .ok (.iload 4, 2) := by decide +kernel
theorem d_Li_reachFromSection_25 : decode b_Li_reachFromSection 25 = .ok (.aaload, 1) := by decide +kernel
theorem d_Li_reachFromSection_26 : decode b_Li_reachFromSection 26 = .ok (.getfield 154, 3) := by decide +kernel
theorem d_Li_reachFromSection_29 : decode b_Li_reachFromSection 29 = .ok (.iload_n 2, 1) := by decide +kernel
theorem d_Li_reachFromSection_30 : decode b_Li_reachFromSection 30 = .ok (.if_icmp .ne 25, 3) := by decide +kernel
theorem d_Li_reachFromSection_33 : decode b_Li_reachFromSection 33 = .ok (.aload_n 0, 1) := by decide +kernel
theorem d_Li_reachFromSection_34 : decode b_Li_reachFromSection 34 = .ok (.aload_n 0, 1) := by decide +kernel
theorem d_Li_reachFromSection_35 : decode b_Li_reachFromSection 35 = .ok (.getfield 24, 3) := by decide +kernel
theorem d_Li_reachFromSection_38 : decode b_Li_reachFromSection 38 = .ok (.iload_n 1, 1) := by decide +kernel
theorem d_Li_reachFromSection_39 : decode b_Li_reachFromSection 39 = .ok (.aload_n 3, 1) := by decide +kernel
theorem d_Li_reachFromSection_40 : decode b_Li_reachFromSection 40 = .ok (.getfield 150, 3) := by decide +kernel
theorem d_Li_reachFromSection_43 : decode b_Li_reachFromSection 43 = .ok (.iload 4, 2) := by decide +kernel
theorem d_Li_reachFromSection_45 : decode b_Li_reachFromSection 45 = .ok (.aaload, 1) := by decide +kernel
theorem d_Li_reachFromSection_46 : decode b_Li_reachFromSection 46 = .ok (.getfield 159, 3) := by decide +kernel
theorem d_Li_reachFromSection_49 : decode b_Li_reachFromSection 49 = .ok (.invokevirtual 162, 3) := by decide +kernel
theorem d_Li_reachFromSection_52 : decode b_Li_reachFromSection 52 = .ok (.invokevirtual 139, 3) := by decide +kernel
theorem d_Li_reachFromSection_55 : decode b_Li_reachFromSection 55 = .ok (.iinc 4 1, 3) := by decide +kernel
theorem d_Li_reachFromSection_58 : decode b_Li_reachFromSection 58 = .ok (.goto (-48), 3) := by decide +kernel
theorem d_Li_reachFromSection_61 : decode b_Li_reachFromSection 61 = .ok (.return_, 1) := by decide +kernel
theorem d_NT_meaningOf_0 : decode b_NT_meaningOf 0 = .ok (.aload_n 0, 1) := by decide +kernel
theorem d_NT_meaningOf_1 : decode b_NT_meaningOf 1 = .ok (.getfield 17, 3) := by decide +kernel
theorem d_NT_meaningOf_4 : decode b_NT_meaningOf 4 = .ok (.iload_n 1, 1) := by decide +kernel
theorem d_NT_meaningOf_5 : decode b_NT_meaningOf 5 = .ok (.bipush 12, 2) := by decide +kernel
theorem d_NT_meaningOf_7 : decode b_NT_meaningOf 7 = .ok (.imul, 1) := by decide +kernel
theorem d_NT_meaningOf_8 : decode b_NT_meaningOf 8 = .ok (.iload_n 2, 1) := by decide +kernel
theorem d_NT_meaningOf_9 : decode b_NT_meaningOf 9 = .ok (.iadd, 1) := by decide +kernel
theorem d_NT_meaningOf_10 : decode b_NT_meaningOf 10 = .ok (.aaload, 1) := by decide +kernel
theorem d_NT_meaningOf_11 : decode b_NT_meaningOf 11 = .ok (.areturn, 1) := by decide +kernel
theorem d_Li_nothingIsMissing_0 : decode b_Li_nothingIsMissing 0 = .ok (.iconst 0, 1) := by decide +kernel
theorem d_Li_nothingIsMissing_1 : decode b_Li_nothingIsMissing 1 = .ok (.istore_n 1, 1) := by decide +kernel
theorem d_Li_nothingIsMissing_2 : decode b_Li_nothingIsMissing 2 = .ok (.iload_n 1, 1) := by decide +kernel
theorem d_Li_nothingIsMissing_3 : decode b_Li_nothingIsMissing 3 = .ok (.aload_n 0, 1) := by decide +kernel
theorem d_Li_nothingIsMissing_4 : decode b_Li_nothingIsMissing 4 = .ok (.getfield 48, 3) := by decide +kernel
theorem d_Li_nothingIsMissing_7 : decode b_Li_nothingIsMissing 7 = .ok (.if_icmp .ge 105, 3) := by decide +kernel
theorem d_Li_nothingIsMissing_10 : decode b_Li_nothingIsMissing 10 = .ok (.aload_n 0, 1) := by decide +kernel
theorem d_Li_nothingIsMissing_11 : decode b_Li_nothingIsMissing 11 = .ok (.getfield 11, 3) := by decide +kernel
theorem d_Li_nothingIsMissing_14 : decode b_Li_nothingIsMissing 14 = .ok (.aload_n 0, 1) := by decide +kernel
theorem d_Li_nothingIsMissing_15 : decode b_Li_nothingIsMissing 15 = .ok (.getfield 17, 3) := by decide +kernel
theorem d_Li_nothingIsMissing_18 : decode b_Li_nothingIsMissing 18 = .ok (.iload_n 1, 1) := by decide +kernel
theorem d_Li_nothingIsMissing_19 : decode b_Li_nothingIsMissing 19 = .ok (.iaload, 1) := by decide +kernel
theorem d_Li_nothingIsMissing_20 : decode b_Li_nothingIsMissing 20 = .ok (.aaload, 1) := by decide +kernel
theorem d_Li_nothingIsMissing_21 : decode b_Li_nothingIsMissing 21 = .ok (.astore_n 2, 1) := by decide +kernel
theorem d_Li_nothingIsMissing_22 : decode b_Li_nothingIsMissing 22 = .ok (.iconst 0, 1) := by decide +kernel
theorem d_Li_nothingIsMissing_23 : decode b_Li_nothingIsMissing 23 = .ok (.istore_n 3, 1) := by decide +kernel
theorem d_Li_nothingIsMissing_24 : decode b_Li_nothingIsMissing 24 = .ok (.iload_n 3, 1) := by decide +kernel
theorem d_Li_nothingIsMissing_25 : decode b_Li_nothingIsMissing 25 = .ok (.aload_n 2, 1) := by decide +kernel
theorem d_Li_nothingIsMissing_26 : decode b_Li_nothingIsMissing 26 = .ok (.getfield 147, 3) := by decide +kernel
theorem d_Li_nothingIsMissing_29 : decode b_Li_nothingIsMissing 29 = .ok (.if_icmp .ge 77, 3) := by decide +kernel
theorem d_Li_nothingIsMissing_32 : decode b_Li_nothingIsMissing 32 = .ok (.aload_n 2, 1) := by decide +kernel
theorem d_Li_nothingIsMissing_33 : decode b_Li_nothingIsMissing 33 = .ok (.getfield 150, 3) := by decide +kernel
theorem d_Li_nothingIsMissing_36 : decode b_Li_nothingIsMissing 36 = .ok (.iload_n 3, 1) := by decide +kernel
theorem d_Li_nothingIsMissing_37 : decode b_Li_nothingIsMissing 37 = .ok (.aaload, 1) := by decide +kernel
theorem d_Li_nothingIsMissing_38 : decode b_Li_nothingIsMissing 38 = .ok (.astore 4, 2) := by decide +kernel
theorem d_Li_nothingIsMissing_40 : decode b_Li_nothingIsMissing 40 = .ok (.aload_n 0, 1) := by decide +kernel
theorem d_Li_nothingIsMissing_41 : decode b_Li_nothingIsMissing 41 = .ok (.getfield 28, 3) := by decide +kernel
theorem d_Li_nothingIsMissing_44 : decode b_Li_nothingIsMissing 44 = .ok (.aload_n 0, 1) := by decide +kernel
theorem d_Li_nothingIsMissing_45 : decode b_Li_nothingIsMissing 45 = .ok (.getfield 17, 3) := by decide +kernel
theorem d_Li_nothingIsMissing_48 : decode b_Li_nothingIsMissing 48 = .ok (.iload_n 1, 1) := by decide +kernel
theorem d_Li_nothingIsMissing_49 : decode b_Li_nothingIsMissing 49 = .ok (.iaload, 1) := by decide +kernel
theorem d_Li_nothingIsMissing_50 : decode b_Li_nothingIsMissing 50 = .ok (.aload 4, 2) := by decide +kernel
theorem d_Li_nothingIsMissing_52 : decode b_Li_nothingIsMissing 52 = .ok (.getfield 154, 3) := by decide +kernel
theorem d_Li_nothingIsMissing_55 : decode b_Li_nothingIsMissing 55 = .ok (.invokestatic 168, 3) := by decide +kernel
theorem d_Li_nothingIsMissing_58 : decode b_Li_nothingIsMissing 58 = .ok (.baload, 1) := by decide +kernel
theorem d_Li_nothingIsMissing_59 : decode b_Li_nothingIsMissing 59 = .ok (.ifCond .eq 41, 3) := by decide +kernel
theorem d_Li_nothingIsMissing_62 : decode b_Li_nothingIsMissing 62 = .ok (.aload_n 0, 1) := by decide +kernel
theorem d_Li_nothingIsMissing_63 : decode b_Li_nothingIsMissing 63 = .ok (.getfield 24, 3) := by decide +kernel
theorem d_Li_nothingIsMissing_66 : decode b_Li_nothingIsMissing 66 = .ok (.aload_n 0, 1) := by decide +kernel
theorem d_Li_nothingIsMissing_67 : decode b_Li_nothingIsMissing 67 = .ok (.getfield 17, 3) := by decide +kernel
theorem d_Li_nothingIsMissing_70 : decode b_Li_nothingIsMissing 70 = .ok (.iload_n 1, 1) := by decide +kernel
theorem d_Li_nothingIsMissing_71 : decode b_Li_nothingIsMissing 71 = .ok (.iaload, 1) := by decide +kernel
theorem d_Li_nothingIsMissing_72 : decode b_Li_nothingIsMissing 72 = .ok (.aload 4, 2) := by decide +kernel
theorem d_Li_nothingIsMissing_74 : decode b_Li_nothingIsMissing 74 = .ok (.getfield 159, 3) := by decide +kernel
theorem d_Li_nothingIsMissing_77 : decode b_Li_nothingIsMissing 77 = .ok (.invokevirtual 162, 3) := by decide +kernel
theorem d_Li_nothingIsMissing_80 : decode b_Li_nothingIsMissing 80 = .ok (.getfield 66, 3) := by decide +kernel
theorem d_Li_nothingIsMissing_83 : decode b_Li_nothingIsMissing 83 = .ok (.iconst 3, 1) := by decide +kernel
theorem d_Li_nothingIsMissing_84 : decode b_Li_nothingIsMissing 84 = .ok (.if_icmp .ne 16, 3) := by decide +kernel
theorem d_Li_nothingIsMissing_87 : decode b_Li_nothingIsMissing 87 = .ok (.aload_n 0, 1) := by decide +kernel
theorem d_Li_nothingIsMissing_88 : decode b_Li_nothingIsMissing 88 = .ok (.iconst 2, 1) := by decide +kernel
theorem d_Li_nothingIsMissing_89 : decode b_Li_nothingIsMissing 89 = .ok (.aload_n 0, 1) := by decide +kernel
theorem d_Li_nothingIsMissing_90 : decode b_Li_nothingIsMissing 90 = .ok (.getfield 17, 3) := by decide +kernel
theorem d_Li_nothingIsMissing_93 : decode b_Li_nothingIsMissing 93 = .ok (.iload_n 1, 1) := by decide +kernel
theorem d_Li_nothingIsMissing_94 : decode b_Li_nothingIsMissing 94 = .ok (.iaload, 1) := by decide +kernel
theorem d_Li_nothingIsMissing_95 : decode b_Li_nothingIsMissing 95 = .ok (.iload_n 3, 1) := by decide +kernel
theorem d_Li_nothingIsMissing_96 : decode b_Li_nothingIsMissing 96 = .ok (.invokevirtual 103, 3) := by decide +kernel
theorem d_Li_nothingIsMissing_99 : decode b_Li_nothingIsMissing 99 = .ok (.ireturn, 1) := by decide +kernel
theorem d_Li_nothingIsMissing_100 : decode b_Li_nothingIsMissing 100 = .ok (.iinc 3 1, 3) := by decide +kernel
theorem d_Li_nothingIsMissing_103 : decode b_Li_nothingIsMissing 103 = .ok (.goto (-79), 3) := by decide +kernel
theorem d_Li_nothingIsMissing_106 : decode b_Li_nothingIsMissing 106 = .ok (.iinc 1 1, 3) := by decide +kernel
theorem d_Li_nothingIsMissing_109 : decode b_Li_nothingIsMissing 109 = .ok (.goto (-107), 3) := by decide +kernel
theorem d_Li_nothingIsMissing_112 : decode b_Li_nothingIsMissing 112 = .ok (.iconst 1, 1) := by decide +kernel
theorem d_Li_nothingIsMissing_113 : decode b_Li_nothingIsMissing 113 = .ok (.ireturn, 1) := by decide +kernel
theorem d_Li_layOut_0 : decode b_Li_layOut 0 = .ok (.iconst 0, 1) := by decide +kernel
theorem d_Li_layOut_1 : decode b_Li_layOut 1 = .ok (.istore_n 1, 1) := by decide +kernel
theorem d_Li_layOut_2 : decode b_Li_layOut 2 = .ok (.iload_n 1, 1) := by decide +kernel
theorem d_Li_layOut_3 : decode b_Li_layOut 3 = .ok (.iconst 4, 1) := by decide +kernel
theorem d_Li_layOut_4 : decode b_Li_layOut 4 = .ok (.if_icmp .ge 36, 3) := by decide +kernel
theorem d_Li_layOut_7 : decode b_Li_layOut 7 = .ok (.iconst 0, 1) := by decide +kernel
theorem d_Li_layOut_8 : decode b_Li_layOut 8 = .ok (.istore_n 2, 1) := by decide +kernel
theorem d_Li_layOut_9 : decode b_Li_layOut 9 = .ok (.iload_n 2, 1) := by decide +kernel
theorem d_Li_layOut_10 : decode b_Li_layOut 10 = .ok (.aload_n 0, 1) := by decide +kernel
theorem d_Li_layOut_11 : decode b_Li_layOut 11 = .ok (.getfield 48, 3) := by decide +kernel
theorem d_Li_layOut_14 : decode b_Li_layOut 14 = .ok (.if_icmp .ge 20, 3) := by decide +kernel
theorem d_Li_layOut_17 : decode b_Li_layOut 17 = .ok (.aload_n 0, 1) := by decide +kernel
theorem d_Li_layOut_18 : decode b_Li_layOut 18 = .ok (.iload_n 1, 1) := by decide +kernel
theorem d_Li_layOut_19 : decode b_Li_layOut 19 = .ok (.aload_n 0, 1) := by decide +kernel
theorem d_Li_layOut_20 : decode b_Li_layOut 20 = .ok (.getfield 17, 3) := by decide +kernel
theorem d_Li_layOut_23 : decode b_Li_layOut 23 = .ok (.iload_n 2, 1) := by decide +kernel
theorem d_Li_layOut_24 : decode b_Li_layOut 24 = .ok (.iaload, 1) := by decide +kernel
theorem d_Li_layOut_25 : decode b_Li_layOut 25 = .ok (.invokevirtual 172, 3) := by decide +kernel
theorem d_Li_layOut_28 : decode b_Li_layOut 28 = .ok (.iinc 2 1, 3) := by decide +kernel
theorem d_Li_layOut_31 : decode b_Li_layOut 31 = .ok (.goto (-22), 3) := by decide +kernel
theorem d_Li_layOut_34 : decode b_Li_layOut 34 = .ok (.iinc 1 1, 3) := by decide +kernel
theorem d_Li_layOut_37 : decode b_Li_layOut 37 = .ok (.goto (-35), 3) := by decide +kernel
theorem d_Li_layOut_40 : decode b_Li_layOut 40 = .ok (.aload_n 0, 1) := by decide +kernel
theorem d_Li_layOut_41 : decode b_Li_layOut 41 = .ok (.invokevirtual 175, 3) := by decide +kernel
theorem d_Li_layOut_44 : decode b_Li_layOut 44 = .ok (.aload_n 0, 1) := by decide +kernel
theorem d_Li_layOut_45 : decode b_Li_layOut 45 = .ok (.getfield 113, 3) := by decide +kernel
theorem d_Li_layOut_48 : decode b_Li_layOut 48 = .ok (.sipush 4096, 3) := by decide +kernel
theorem d_Li_layOut_51 : decode b_Li_layOut 51 = .ok (.if_icmp .le 12, 3) := by decide +kernel
theorem d_Li_layOut_54 : decode b_Li_layOut 54 = .ok (.aload_n 0, 1) := by decide +kernel
theorem d_Li_layOut_55 : decode b_Li_layOut 55 = .ok (.bipush 6, 2) := by decide +kernel
theorem d_Li_layOut_57 : decode b_Li_layOut 57 = .ok (.iconst (-1), 1) := by decide +kernel
theorem d_Li_layOut_58 : decode b_Li_layOut 58 = .ok (.iconst (-1), 1) := by decide +kernel
theorem d_Li_layOut_59 : decode b_Li_layOut 59 = .ok (.invokevirtual 103, 3) := by decide +kernel
theorem d_Li_layOut_62 : decode b_Li_layOut 62 = .ok (.ireturn, 1) := by decide +kernel
theorem d_Li_layOut_63 : decode b_Li_layOut 63 = .ok (.aload_n 0, 1) := by decide +kernel
theorem d_Li_layOut_64 : decode b_Li_layOut 64 = .ok (.invokevirtual 178, 3) := by decide +kernel
theorem d_Li_layOut_67 : decode b_Li_layOut 67 = .ok (.iconst 1, 1) := by decide +kernel
theorem d_Li_layOut_68 : decode b_Li_layOut 68 = .ok (.ireturn, 1) := by decide +kernel
theorem d_Li_layOutKind_0 : decode b_Li_layOutKind 0 = .ok (.aload_n 0, 1) := by decide +kernel
theorem d_Li_layOutKind_1 : decode b_Li_layOutKind 1 = .ok (.getfield 11, 3) := by decide +kernel
theorem d_Li_layOutKind_4 : decode b_Li_layOutKind 4 = .ok (.iload_n 2, 1) := by decide +kernel
theorem d_Li_layOutKind_5 : decode b_Li_layOutKind 5 = .ok (.aaload, 1) := by decide +kernel
theorem d_Li_layOutKind_6 : decode b_Li_layOutKind 6 = .ok (.astore_n 3, 1) := by decide +kernel
theorem d_Li_layOutKind_7 : decode b_Li_layOutKind 7 = .ok (.iconst 0, 1) := by decide +kernel
theorem d_Li_layOutKind_8 : decode b_Li_layOutKind 8 = .ok (.istore 4, 2) := by decide +kernel
theorem d_Li_layOutKind_10 : decode b_Li_layOutKind 10 = .ok (.iload 4, 2) := by decide +kernel
theorem d_Li_layOutKind_12 : decode b_Li_layOutKind 12 = .ok (.aload_n 3, 1) := by decide +kernel
theorem d_Li_layOutKind_13 : decode b_Li_layOutKind 13 = .ok (.getfield 181, 3) := by decide +kernel
theorem d_Li_layOutKind_16 : decode b_Li_layOutKind 16 = .ok (.if_icmp .ge 76, 3) := by decide +kernel
theorem d_Li_layOutKind_19 : decode b_Li_layOutKind 19 = .ok (.aload_n 3, 1) := by decide +kernel
theorem d_Li_layOutKind_20 : decode b_Li_layOutKind 20 = .ok (.getfield 184, 3) := by decide +kernel
theorem d_Li_layOutKind_23 : decode b_Li_layOutKind 23 = .ok (.iload 4, 2) := by decide +kernel
theorem d_Li_layOutKind_25 : decode b_Li_layOutKind 25 = .ok (.aaload, 1) := by decide +kernel
theorem d_Li_layOutKind_26 : decode b_Li_layOutKind 26 = .ok (.astore 5, 2) := by decide +kernel
theorem d_Li_layOutKind_28 : decode b_Li_layOutKind 28 = .ok (.aload 5, 2) := by decide +kernel
theorem d_Li_layOutKind_30 : decode b_Li_layOutKind 30 = .ok (.getfield 188, 3) := by decide +kernel
theorem d_Li_layOutKind_33 : decode b_Li_layOutKind 33 = .ok (.iload_n 1, 1) := by decide +kernel
theorem d_Li_layOutKind_34 : decode b_Li_layOutKind 34 = .ok (.if_icmp .ne 52, 3) := by decide +kernel
theorem d_Li_layOutKind_37 : decode b_Li_layOutKind 37 = .ok (.aload_n 0, 1) := by decide +kernel
theorem d_Li_layOutKind_38 : decode b_Li_layOutKind 38 = .ok (.getfield 28, 3) := by decide +kernel
theorem d_Li_layOutKind_41 : decode b_Li_layOutKind 41 = .ok (.iload_n 2, 1) := by decide +kernel
theorem d_Li_layOutKind_42 : decode b_Li_layOutKind 42 = .ok (.iload 4, 2) := by decide +kernel
theorem d_Li_layOutKind_44 : decode b_Li_layOutKind 44 = .ok (.invokestatic 168, 3) := by decide +kernel
theorem d_Li_layOutKind_47 : decode b_Li_layOutKind 47 = .ok (.baload, 1) := by decide +kernel
theorem d_Li_layOutKind_48 : decode b_Li_layOutKind 48 = .ok (.ifCond .eq 38, 3) := by decide +kernel
theorem d_Li_layOutKind_51 : decode b_Li_layOutKind 51 = .ok (.aload_n 0, 1) := by decide +kernel
theorem d_Li_layOutKind_52 : decode b_Li_layOutKind 52 = .ok (.getfield 35, 3) := by decide +kernel
theorem d_Li_layOutKind_55 : decode b_Li_layOutKind 55 = .ok (.iload_n 2, 1) := by decide +kernel
theorem d_Li_layOutKind_56 : decode b_Li_layOutKind 56 = .ok (.iload 4, 2) := by decide +kernel
theorem d_Li_layOutKind_58 : decode b_Li_layOutKind 58 = .ok (.invokestatic 168, 3) := by decide +kernel
theorem d_Li_layOutKind_61 : decode b_Li_layOutKind 61 = .ok (.aload_n 0, 1) := by decide +kernel
theorem d_Li_layOutKind_62 : decode b_Li_layOutKind 62 = .ok (.aload 5, 2) := by decide +kernel
theorem d_Li_layOutKind_64 : decode b_Li_layOutKind 64 = .ok (.getfield 193, 3) := by decide +kernel
theorem d_Li_layOutKind_67 : decode b_Li_layOutKind 67 = .ok (.aload 5, 2) := by decide +kernel
theorem d_Li_layOutKind_69 : decode b_Li_layOutKind 69 = .ok (.getfield 196, 3) := by decide +kernel
theorem d_Li_layOutKind_72 : decode b_Li_layOutKind 72 = .ok (.invokevirtual 197, 3) := by decide +kernel
theorem d_Li_layOutKind_75 : decode b_Li_layOutKind 75 = .ok (.iastore, 1) := by decide +kernel
theorem d_Li_layOutKind_76 : decode b_Li_layOutKind 76 = .ok (.aload_n 0, 1) := by decide +kernel
theorem d_Li_layOutKind_77 : decode b_Li_layOutKind 77 = .ok (.dup, 1) := by decide +kernel
theorem d_Li_layOutKind_78 : decode b_Li_layOutKind 78 = .ok (.getfield 116, 3) := by decide +kernel
theorem d_Li_layOutKind_81 : decode b_Li_layOutKind 81 = .ok (.iconst 1, 1) := by decide +kernel
theorem d_Li_layOutKind_82 : decode b_Li_layOutKind 82 = .ok (.iadd, 1) := by decide +kernel
theorem d_Li_layOutKind_83 : decode b_Li_layOutKind 83 = .ok (.putfield 116, 3) := by decide +kernel
theorem d_Li_layOutKind_86 : decode b_Li_layOutKind 86 = .ok (.iinc 4 1, 3) := by decide +kernel
theorem d_Li_layOutKind_89 : decode b_Li_layOutKind 89 = .ok (.goto (-79), 3) := by decide +kernel
theorem d_Li_layOutKind_92 : decode b_Li_layOutKind 92 = .ok (.return_, 1) := by decide +kernel
theorem d_Li_nextPlace_0 : decode b_Li_nextPlace 0 = .ok (.aload_n 0, 1) := by decide +kernel
theorem d_Li_nextPlace_1 : decode b_Li_nextPlace 1 = .ok (.getfield 55, 3) := by decide +kernel
theorem d_Li_nextPlace_4 : decode b_Li_nextPlace 4 = .ok (.aload_n 0, 1) := by decide +kernel
theorem d_Li_nextPlace_5 : decode b_Li_nextPlace 5 = .ok (.getfield 113, 3) := by decide +kernel
theorem d_Li_nextPlace_8 : decode b_Li_nextPlace 8 = .ok (.iadd, 1) := by decide +kernel
theorem d_Li_nextPlace_9 : decode b_Li_nextPlace 9 = .ok (.istore_n 3, 1) := by decide +kernel
theorem d_Li_nextPlace_10 : decode b_Li_nextPlace 10 = .ok (.iconst 1, 1) := by decide +kernel
theorem d_Li_nextPlace_11 : decode b_Li_nextPlace 11 = .ok (.iload_n 1, 1) := by decide +kernel
theorem d_Li_nextPlace_12 : decode b_Li_nextPlace 12 = .ok (.ishl, 1) := by decide +kernel
theorem d_Li_nextPlace_13 : decode b_Li_nextPlace 13 = .ok (.iconst 1, 1) := by decide +kernel
theorem d_Li_nextPlace_14 : decode b_Li_nextPlace 14 = .ok (.isub, 1) := by decide +kernel
theorem d_Li_nextPlace_15 : decode b_Li_nextPlace 15 = .ok (.istore 4, 2) := by decide +kernel
theorem d_Li_nextPlace_17 : decode b_Li_nextPlace 17 = .ok (.iload_n 3, 1) := by decide +kernel
theorem d_Li_nextPlace_18 : decode b_Li_nextPlace 18 = .ok (.iload 4, 2) := by decide +kernel
theorem d_Li_nextPlace_20 : decode b_Li_nextPlace 20 = .ok (.iadd, 1) := by decide +kernel
theorem d_Li_nextPlace_21 : decode b_Li_nextPlace 21 = .ok (.iload 4, 2) := by decide +kernel
theorem d_Li_nextPlace_23 : decode b_Li_nextPlace 23 = .ok (.iconst (-1), 1) := by decide +kernel
theorem d_Li_nextPlace_24 : decode b_Li_nextPlace 24 = .ok (.ixor, 1) := by decide +kernel
theorem d_Li_nextPlace_25 : decode b_Li_nextPlace 25 = .ok (.iand, 1) := by decide +kernel
theorem d_Li_nextPlace_26 : decode b_Li_nextPlace 26 = .ok (.istore 5, 2) := by decide +kernel
theorem d_Li_nextPlace_28 : decode b_Li_nextPlace 28 = .ok (.aload_n 0, 1) := by decide +kernel
theorem d_Li_nextPlace_29 : decode b_Li_nextPlace 29 = .ok (.dup, 1) := by decide +kernel
theorem d_Li_nextPlace_30 : decode b_Li_nextPlace 30 = .ok (.getfield 122, 3) := by decide +kernel
theorem d_Li_nextPlace_33 : decode b_Li_nextPlace 33 = .ok (.iload 5, 2) := by decide +kernel
theorem d_Li_nextPlace_35 : decode b_Li_nextPlace 35 = .ok (.iload_n 3, 1) := by decide +kernel
theorem d_Li_nextPlace_36 : decode b_Li_nextPlace 36 = .ok (.isub, 1) := by decide +kernel
theorem d_Li_nextPlace_37 : decode b_Li_nextPlace 37 = .ok (.iadd, 1) := by decide +kernel
theorem d_Li_nextPlace_38 : decode b_Li_nextPlace 38 = .ok (.putfield 122, 3) := by decide +kernel
theorem d_Li_nextPlace_41 : decode b_Li_nextPlace 41 = .ok (.aload_n 0, 1) := by decide +kernel
theorem d_Li_nextPlace_42 : decode b_Li_nextPlace 42 = .ok (.iload 5, 2) := by decide +kernel
theorem d_Li_nextPlace_44 : decode b_Li_nextPlace 44 = .ok (.iload_n 2, 1) := by decide +kernel
theorem d_Li_nextPlace_45 : decode b_Li_nextPlace 45 = .ok (.iadd, 1) := by decide +kernel
theorem d_Li_nextPlace_46 : decode b_Li_nextPlace 46 = .ok (.aload_n 0, 1) := by decide +kernel
theorem d_Li_nextPlace_47 : decode b_Li_nextPlace 47 = .ok (.getfield 55, 3) := by decide +kernel
theorem d_Li_nextPlace_50 : decode b_Li_nextPlace 50 = .ok (.isub, 1) := by decide +kernel
theorem d_Li_nextPlace_51 : decode b_Li_nextPlace 51 = .ok (.putfield 113, 3) := by decide +kernel
theorem d_Li_nextPlace_54 : decode b_Li_nextPlace 54 = .ok (.iload 5, 2) := by decide +kernel
theorem d_Li_nextPlace_56 : decode b_Li_nextPlace 56 = .ok (.ireturn, 1) := by decide +kernel
theorem d_Li_layOutCommons_0 : decode b_Li_layOutCommons 0 = .ok (.iconst 0, 1) := by decide +kernel
theorem d_Li_layOutCommons_1 : decode b_Li_layOutCommons 1 = .ok (.istore_n 1, 1) := by decide +kernel
theorem d_Li_layOutCommons_2 : decode b_Li_layOutCommons 2 = .ok (.iload_n 1, 1) := by decide +kernel
theorem d_Li_layOutCommons_3 : decode b_Li_layOutCommons 3 = .ok (.aload_n 0, 1) := by decide +kernel
theorem d_Li_layOutCommons_4 : decode b_Li_layOutCommons 4 = .ok (.getfield 24, 3) := by decide +kernel
theorem d_Li_layOutCommons_7 : decode b_Li_layOutCommons 7 = .ok (.getfield 200, 3) := by decide +kernel
theorem d_Li_layOutCommons_10 : decode b_Li_layOutCommons 10 = .ok (.if_icmp .ge 60, 3) := by decide +kernel
theorem d_Li_layOutCommons_13 : decode b_Li_layOutCommons 13 = .ok (.aload_n 0, 1) := by decide +kernel
theorem d_Li_layOutCommons_14 : decode b_Li_layOutCommons 14 = .ok (.getfield 24, 3) := by decide +kernel
theorem d_Li_layOutCommons_17 : decode b_Li_layOutCommons 17 = .ok (.getfield 203, 3) := by decide +kernel
theorem d_Li_layOutCommons_20 : decode b_Li_layOutCommons 20 = .ok (.iload_n 1, 1) := by decide +kernel
theorem d_Li_layOutCommons_21 : decode b_Li_layOutCommons 21 = .ok (.aaload, 1) := by decide +kernel
theorem d_Li_layOutCommons_22 : decode b_Li_layOutCommons 22 = .ok (.astore_n 2, 1) := by decide +kernel
theorem d_Li_layOutCommons_23 : decode b_Li_layOutCommons 23 = .ok (.aload_n 2, 1) := by decide +kernel
theorem d_Li_layOutCommons_24 : decode b_Li_layOutCommons 24 = .ok (.getfield 66, 3) := by decide +kernel
theorem d_Li_layOutCommons_27 : decode b_Li_layOutCommons 27 = .ok (.iconst 2, 1) := by decide +kernel
theorem d_Li_layOutCommons_28 : decode b_Li_layOutCommons 28 = .ok (.if_icmp .ne 36, 3) := by decide +kernel
theorem d_Li_layOutCommons_31 : decode b_Li_layOutCommons 31 = .ok (.aload_n 2, 1) := by decide +kernel
theorem d_Li_layOutCommons_32 : decode b_Li_layOutCommons 32 = .ok (.getfield 166, 3) := by decide +kernel
theorem d_Li_layOutCommons_35 : decode b_Li_layOutCommons 35 = .ok (.ifCond .eq 29, 3) := by decide +kernel
theorem d_Li_layOutCommons_38 : decode b_Li_layOutCommons 38 = .ok (.aload_n 2, 1) := by decide +kernel
theorem d_Li_layOutCommons_39 : decode b_Li_layOutCommons 39 = .ok (.aload_n 0, 1) := by decide +kernel
theorem d_Li_layOutCommons_40 : decode b_Li_layOutCommons 40 = .ok (.aload_n 2, 1) := by decide +kernel
theorem d_Li_layOutCommons_41 : decode b_Li_layOutCommons 41 = .ok (.getfield 207, 3) := by decide +kernel
theorem d_Li_layOutCommons_44 : decode b_Li_layOutCommons 44 = .ok (.aload_n 2, 1) := by decide +kernel
theorem d_Li_layOutCommons_45 : decode b_Li_layOutCommons 45 = .ok (.getfield 208, 3) := by decide +kernel
theorem d_Li_layOutCommons_48 : decode b_Li_layOutCommons 48 = .ok (.invokevirtual 197, 3) := by decide +kernel
theorem d_Li_layOutCommons_51 : decode b_Li_layOutCommons 51 = .ok (.putfield 71, 3) := by decide +kernel
theorem d_Li_layOutCommons_54 : decode b_Li_layOutCommons 54 = .ok (.aload_n 0, 1) := by decide +kernel
theorem d_Li_layOutCommons_55 : decode b_Li_layOutCommons 55 = .ok (.dup, 1) := by decide +kernel
theorem d_Li_layOutCommons_56 : decode b_Li_layOutCommons 56 = .ok (.getfield 119, 3) := by decide +kernel
theorem d_Li_layOutCommons_59 : decode b_Li_layOutCommons 59 = .ok (.iconst 1, 1) := by decide +kernel
theorem d_Li_layOutCommons_60 : decode b_Li_layOutCommons 60 = .ok (.iadd, 1) := by decide +kernel
theorem d_Li_layOutCommons_61 : decode b_Li_layOutCommons 61 = .ok (.putfield 119, 3) := by decide +kernel
theorem d_Li_layOutCommons_64 : decode b_Li_layOutCommons 64 = .ok (.iinc 1 1, 3) := by decide +kernel
theorem d_Li_layOutCommons_67 : decode b_Li_layOutCommons 67 = .ok (.goto (-65), 3) := by decide +kernel
theorem d_Li_layOutCommons_70 : decode b_Li_layOutCommons 70 = .ok (.return_, 1) := by decide +kernel
theorem d_Li_copyBytes_0 : decode b_Li_copyBytes 0 = .ok (.iconst 0, 1) := by decide +kernel
theorem d_Li_copyBytes_1 : decode b_Li_copyBytes 1 = .ok (.istore_n 1, 1) := by decide +kernel
theorem d_Li_copyBytes_2 : decode b_Li_copyBytes 2 = .ok (.iload_n 1, 1) := by decide +kernel
theorem d_Li_copyBytes_3 : decode b_Li_copyBytes 3 = .ok (.aload_n 0, 1) := by decide +kernel
theorem d_Li_copyBytes_4 : decode b_Li_copyBytes 4 = .ok (.getfield 113, 3) := by decide +kernel
theorem d_Li_copyBytes_7 : decode b_Li_copyBytes 7 = .ok (.if_icmp .ge 16, 3) := by decide +kernel
theorem d_Li_copyBytes_10 : decode b_Li_copyBytes 10 = .ok (.aload_n 0, 1) := by decide +kernel
theorem d_Li_copyBytes_11 : decode b_Li_copyBytes 11 = .ok (.getfield 38, 3) := by decide +kernel
theorem d_Li_copyBytes_14 : decode b_Li_copyBytes 14 = .ok (.iload_n 1, 1) := by decide +kernel
theorem d_Li_copyBytes_15 : decode b_Li_copyBytes 15 = .ok (.iconst 0, 1) := by decide +kernel
theorem d_Li_copyBytes_16 : decode b_Li_copyBytes 16 = .ok (.iastore, 1) := by decide +kernel
theorem d_Li_copyBytes_17 : decode b_Li_copyBytes 17 = .ok (.iinc 1 1, 3) := by decide +kernel
theorem d_Li_copyBytes_20 : decode b_Li_copyBytes 20 = .ok (.goto (-18), 3) := by decide +kernel
theorem d_Li_copyBytes_23 : decode b_Li_copyBytes 23 = .ok (.iconst 0, 1) := by decide +kernel
theorem d_Li_copyBytes_24 : decode b_Li_copyBytes 24 = .ok (.istore_n 1, 1) := by decide +kernel
theorem d_Li_copyBytes_25 : decode b_Li_copyBytes 25 = .ok (.iload_n 1, 1) := by decide +kernel
theorem d_Li_copyBytes_26 : decode b_Li_copyBytes 26 = .ok (.aload_n 0, 1) := by decide +kernel
theorem d_Li_copyBytes_27 : decode b_Li_copyBytes 27 = .ok (.getfield 110, 3) := by decide +kernel
theorem d_Li_copyBytes_30 : decode b_Li_copyBytes 30 = .ok (.if_icmp .ge 59, 3) := by decide +kernel
theorem d_Li_copyBytes_33 : decode b_Li_copyBytes 33 = .ok (.aload_n 0, 1) := by decide +kernel
theorem d_Li_copyBytes_34 : decode b_Li_copyBytes 34 = .ok (.getfield 32, 3) := by decide +kernel
theorem d_Li_copyBytes_37 : decode b_Li_copyBytes 37 = .ok (.iload_n 1, 1) := by decide +kernel
theorem d_Li_copyBytes_38 : decode b_Li_copyBytes 38 = .ok (.iaload, 1) := by decide +kernel
theorem d_Li_copyBytes_39 : decode b_Li_copyBytes 39 = .ok (.istore_n 2, 1) := by decide +kernel
theorem d_Li_copyBytes_40 : decode b_Li_copyBytes 40 = .ok (.aload_n 0, 1) := by decide +kernel
theorem d_Li_copyBytes_41 : decode b_Li_copyBytes 41 = .ok (.getfield 11, 3) := by decide +kernel
theorem d_Li_copyBytes_44 : decode b_Li_copyBytes 44 = .ok (.iload_n 2, 1) := by decide +kernel
theorem d_Li_copyBytes_45 : decode b_Li_copyBytes 45 = .ok (.bipush 8, 2) := by decide +kernel
theorem d_Li_copyBytes_47 : decode b_Li_copyBytes 47 = .ok (.idiv, 1) := by decide +kernel
theorem d_Li_copyBytes_48 : decode b_Li_copyBytes 48 = .ok (.aaload, 1) := by decide +kernel
theorem d_Li_copyBytes_49 : decode b_Li_copyBytes 49 = .ok (.getfield 184, 3) := by decide +kernel
theorem d_Li_copyBytes_52 : decode b_Li_copyBytes 52 = .ok (.iload_n 2, 1) := by decide +kernel
theorem d_Li_copyBytes_53 : decode b_Li_copyBytes 53 = .ok (.bipush 8, 2) := by decide +kernel
theorem d_Li_copyBytes_55 : decode b_Li_copyBytes 55 = .ok (.irem, 1) := by decide +kernel
theorem d_Li_copyBytes_56 : decode b_Li_copyBytes 56 = .ok (.aaload, 1) := by decide +kernel
theorem d_Li_copyBytes_57 : decode b_Li_copyBytes 57 = .ok (.getfield 211, 3) := by decide +kernel
theorem d_Li_copyBytes_60 : decode b_Li_copyBytes 60 = .ok (.astore_n 3, 1) := by decide +kernel
theorem d_Li_copyBytes_61 : decode b_Li_copyBytes 61 = .ok (.aload_n 3, 1) := by decide +kernel
theorem d_Li_copyBytes_62 : decode b_Li_copyBytes 62 = .ok (.iconst 0, 1) := by decide +kernel
theorem d_Li_copyBytes_63 : decode b_Li_copyBytes 63 = .ok (.aload_n 0, 1) := by decide +kernel
theorem d_Li_copyBytes_64 : decode b_Li_copyBytes 64 = .ok (.getfield 38, 3) := by decide +kernel
theorem d_Li_copyBytes_67 : decode b_Li_copyBytes 67 = .ok (.aload_n 0, 1) := by decide +kernel
theorem d_Li_copyBytes_68 : decode b_Li_copyBytes 68 = .ok (.getfield 35, 3) := by decide +kernel
theorem d_Li_copyBytes_71 : decode b_Li_copyBytes 71 = .ok (.iload_n 2, 1) := by decide +kernel
theorem d_Li_copyBytes_72 : decode b_Li_copyBytes 72 = .ok (.iaload, 1) := by decide +kernel
theorem d_Li_copyBytes_73 : decode b_Li_copyBytes 73 = .ok (.aload_n 0, 1) := by decide +kernel
theorem d_Li_copyBytes_74 : decode b_Li_copyBytes 74 = .ok (.getfield 55, 3) := by decide +kernel
theorem d_Li_copyBytes_77 : decode b_Li_copyBytes 77 = .ok (.isub, 1) := by decide +kernel
theorem d_Li_copyBytes_78 : decode b_Li_copyBytes 78 = .ok (.aload_n 3, 1) := by decide +kernel
theorem d_Li_copyBytes_79 : decode b_Li_copyBytes 79 = .ok (.arraylength, 1) := by decide +kernel
theorem d_Li_copyBytes_80 : decode b_Li_copyBytes 80 = .ok (.invokestatic 214, 3) := by decide +kernel
theorem d_Li_copyBytes_83 : decode b_Li_copyBytes 83 = .ok (.iinc 1 1, 3) := by decide +kernel
theorem d_Li_copyBytes_86 : decode b_Li_copyBytes 86 = .ok (.goto (-61), 3) := by decide +kernel
theorem d_Li_copyBytes_89 : decode b_Li_copyBytes 89 = .ok (.return_, 1) := by decide +kernel
theorem d_Li_workIn_0 : decode b_Li_workIn 0 = .ok (.iconst 0, 1) := by decide +kernel
theorem d_Li_workIn_1 : decode b_Li_workIn 1 = .ok (.istore_n 1, 1) := by decide +kernel
theorem d_Li_workIn_2 : decode b_Li_workIn 2 = .ok (.iload_n 1, 1) := by decide +kernel
theorem d_Li_workIn_3 : decode b_Li_workIn 3 = .ok (.aload_n 0, 1) := by decide +kernel
theorem d_Li_workIn_4 : decode b_Li_workIn 4 = .ok (.getfield 48, 3) := by decide +kernel
theorem d_Li_workIn_7 : decode b_Li_workIn 7 = .ok (.if_icmp .ge 74, 3) := by decide +kernel
theorem d_Li_workIn_10 : decode b_Li_workIn 10 = .ok (.aload_n 0, 1) := by decide +kernel
theorem d_Li_workIn_11 : decode b_Li_workIn 11 = .ok (.getfield 11, 3) := by decide +kernel
theorem d_Li_workIn_14 : decode b_Li_workIn 14 = .ok (.aload_n 0, 1) := by decide +kernel
theorem d_Li_workIn_15 : decode b_Li_workIn 15 = .ok (.getfield 17, 3) := by decide +kernel
theorem d_Li_workIn_18 : decode b_Li_workIn 18 = .ok (.iload_n 1, 1) := by decide +kernel
theorem d_Li_workIn_19 : decode b_Li_workIn 19 = .ok (.iaload, 1) := by decide +kernel
theorem d_Li_workIn_20 : decode b_Li_workIn 20 = .ok (.aaload, 1) := by decide +kernel
theorem d_Li_workIn_21 : decode b_Li_workIn 21 = .ok (.astore_n 2, 1) := by decide +kernel
theorem d_Li_workIn_22 : decode b_Li_workIn 22 = .ok (.iconst 0, 1) := by decide +kernel
theorem d_Li_workIn_23 : decode b_Li_workIn 23 = .ok (.istore_n 3, 1) := by decide +kernel
theorem d_Li_workIn_24 : decode b_Li_workIn 24 = .ok (.iload_n 3, 1) := by decide +kernel
theorem d_Li_workIn_25 : decode b_Li_workIn 25 = .ok (.aload_n 2, 1) := by decide +kernel
theorem d_Li_workIn_26 : decode b_Li_workIn 26 = .ok (.getfield 147, 3) := by decide +kernel
theorem d_Li_workIn_29 : decode b_Li_workIn 29 = .ok (.if_icmp .ge 46, 3) := by decide +kernel
theorem d_Li_workIn_32 : decode b_Li_workIn 32 = .ok (.aload_n 0, 1) := by decide +kernel
theorem d_Li_workIn_33 : decode b_Li_workIn 33 = .ok (.aload_n 0, 1) := by decide +kernel
theorem d_Li_workIn_34 : decode b_Li_workIn 34 = .ok (.getfield 17, 3) := by decide +kernel
theorem d_Li_workIn_37 : decode b_Li_workIn 37 = .ok (.iload_n 1, 1) := by decide +kernel
theorem d_Li_workIn_38 : decode b_Li_workIn 38 = .ok (.iaload, 1) := by decide +kernel
theorem d_Li_workIn_39 : decode b_Li_workIn 39 = .ok (.aload_n 2, 1) := by decide +kernel
theorem d_Li_workIn_40 : decode b_Li_workIn 40 = .ok (.getfield 150, 3) := by decide +kernel
theorem d_Li_workIn_43 : decode b_Li_workIn 43 = .ok (.iload_n 3, 1) := by decide +kernel
theorem d_Li_workIn_44 : decode b_Li_workIn 44 = .ok (.aaload, 1) := by decide +kernel
theorem d_Li_workIn_45 : decode b_Li_workIn 45 = .ok (.invokevirtual 220, 3) := by decide +kernel
theorem d_Li_workIn_48 : decode b_Li_workIn 48 = .ok (.istore 4, 2) := by decide +kernel
theorem d_Li_workIn_50 : decode b_Li_workIn 50 = .ok (.iload 4, 2) := by decide +kernel
theorem d_Li_workIn_52 : decode b_Li_workIn 52 = .ok (.ifCond .eq 17, 3) := by decide +kernel
theorem d_Li_workIn_55 : decode b_Li_workIn 55 = .ok (.aload_n 0, 1) := by decide +kernel
theorem d_Li_workIn_56 : decode b_Li_workIn 56 = .ok (.iload 4, 2) := by decide +kernel
theorem d_Li_workIn_58 : decode b_Li_workIn 58 = .ok (.aload_n 0, 1) := by decide +kernel
theorem d_Li_workIn_59 : decode b_Li_workIn 59 = .ok (.getfield 17, 3) := by decide +kernel
theorem d_Li_workIn_62 : decode b_Li_workIn 62 = .ok (.iload_n 1, 1) := by decide +kernel
theorem d_Li_workIn_63 : decode b_Li_workIn 63 = .ok (.iaload, 1) := by decide +kernel
theorem d_Li_workIn_64 : decode b_Li_workIn 64 = .ok (.iload_n 3, 1) := by decide +kernel
theorem d_Li_workIn_65 : decode b_Li_workIn 65 = .ok (.invokevirtual 103, 3) := by decide +kernel
theorem d_Li_workIn_68 : decode b_Li_workIn 68 = .ok (.ireturn, 1) := by decide +kernel
theorem d_Li_workIn_69 : decode b_Li_workIn 69 = .ok (.iinc 3 1, 3) := by decide +kernel
theorem d_Li_workIn_72 : decode b_Li_workIn 72 = .ok (.goto (-48), 3) := by decide +kernel
theorem d_Li_workIn_75 : decode b_Li_workIn 75 = .ok (.iinc 1 1, 3) := by decide +kernel
theorem d_Li_workIn_78 : decode b_Li_workIn 78 = .ok (.goto (-76), 3) := by decide +kernel
theorem d_Li_workIn_81 : decode b_Li_workIn 81 = .ok (.iconst 1, 1) := by decide +kernel
theorem d_Li_workIn_82 : decode b_Li_workIn 82 = .ok (.ireturn, 1) := by decide +kernel
theorem d_Li_workInOne_0 : decode b_Li_workInOne 0 = .ok (.iload_n 1, 1) := by decide +kernel
theorem d_Li_workInOne_1 : decode b_Li_workInOne 1 = .ok (.aload_n 2, 1) := by decide +kernel
theorem d_Li_workInOne_2 : decode b_Li_workInOne 2 = .ok (.getfield 154, 3) := by decide +kernel
theorem d_Li_workInOne_5 : decode b_Li_workInOne 5 = .ok (.invokestatic 168, 3) := by decide +kernel
theorem d_Li_workInOne_8 : decode b_Li_workInOne 8 = .ok (.istore_n 3, 1) := by decide +kernel
theorem d_Li_workInOne_9 : decode b_Li_workInOne 9 = .ok (.aload_n 0, 1) := by decide +kernel
theorem d_Li_workInOne_10 : decode b_Li_workInOne 10 = .ok (.getfield 28, 3) := by decide +kernel
theorem d_Li_workInOne_13 : decode b_Li_workInOne 13 = .ok (.iload_n 3, 1) := by decide +kernel
theorem d_Li_workInOne_14 : decode b_Li_workInOne 14 = .ok (.baload, 1) := by decide +kernel
theorem d_Li_workInOne_15 : decode b_Li_workInOne 15 = .ok (.ifCond .ne 5, 3) := by decide +kernel
theorem d_Li_workInOne_18 : decode b_Li_workInOne 18 = .ok (.iconst 0, 1) := by decide +kernel
theorem d_Li_workInOne_19 : decode b_Li_workInOne 19 = .ok (.ireturn, 1) := by decide +kernel
theorem d_Li_workInOne_20 : decode b_Li_workInOne 20 = .ok (.getstatic 224, 3) := by decide +kernel
theorem d_Li_workInOne_23 : decode b_Li_workInOne 23 = .ok (.aload_n 2, 1) := by decide +kernel
theorem d_Li_workInOne_24 : decode b_Li_workInOne 24 = .ok (.getfield 227, 3) := by decide +kernel
theorem d_Li_workInOne_27 : decode b_Li_workInOne 27 = .ok (.iaload, 1) := by decide +kernel
theorem d_Li_workInOne_28 : decode b_Li_workInOne 28 = .ok (.istore 4, 2) := by decide +kernel
theorem d_Li_workInOne_30 : decode b_Li_workInOne 30 = .ok (.aload_n 2, 1) := by decide +kernel
theorem d_Li_workInOne_31 : decode b_Li_workInOne 31 = .ok (.getfield 230, 3) := by decide +kernel
theorem d_Li_workInOne_34 : decode b_Li_workInOne 34 = .ok (.iload 4, 2) := by decide +kernel
theorem d_Li_workInOne_36 : decode b_Li_workInOne 36 = .ok (.iadd, 1) := by decide +kernel
theorem d_Li_workInOne_37 : decode b_Li_workInOne 37 = .ok (.aload_n 0, 1) := by decide +kernel
theorem d_Li_workInOne_38 : decode b_Li_workInOne 38 = .ok (.getfield 11, 3) := by decide +kernel
theorem d_Li_workInOne_41 : decode b_Li_workInOne 41 = .ok (.iload_n 1, 1) := by decide +kernel
theorem d_Li_workInOne_42 : decode b_Li_workInOne 42 = .ok (.aaload, 1) := by decide +kernel
theorem d_Li_workInOne_43 : decode b_Li_workInOne 43 = .ok (.getfield 184, 3) := by decide +kernel
theorem d_Li_workInOne_46 : decode b_Li_workInOne 46 = .ok (.aload_n 2, 1) := by decide +kernel
theorem d_Li_workInOne_47 : decode b_Li_workInOne 47 = .ok (.getfield 154, 3) := by decide +kernel
theorem d_Li_workInOne_50 : decode b_Li_workInOne 50 = .ok (.aaload, 1) := by decide +kernel
theorem d_Li_workInOne_51 : decode b_Li_workInOne 51 = .ok (.getfield 196, 3) := by decide +kernel
theorem d_Li_workInOne_54 : decode b_Li_workInOne 54 = .ok (.if_icmp .le 5, 3) := by decide +kernel
theorem d_Li_workInOne_57 : decode b_Li_workInOne 57 = .ok (.iconst 3, 1) := by decide +kernel
theorem d_Li_workInOne_58 : decode b_Li_workInOne 58 = .ok (.ireturn, 1) := by decide +kernel
theorem d_Li_workInOne_59 : decode b_Li_workInOne 59 = .ok (.aload_n 0, 1) := by decide +kernel
theorem d_Li_workInOne_60 : decode b_Li_workInOne 60 = .ok (.getfield 35, 3) := by decide +kernel
theorem d_Li_workInOne_63 : decode b_Li_workInOne 63 = .ok (.iload_n 3, 1) := by decide +kernel
theorem d_Li_workInOne_64 : decode b_Li_workInOne 64 = .ok (.iaload, 1) := by decide +kernel
theorem d_Li_workInOne_65 : decode b_Li_workInOne 65 = .ok (.aload_n 2, 1) := by decide +kernel
theorem d_Li_workInOne_66 : decode b_Li_workInOne 66 = .ok (.getfield 230, 3) := by decide +kernel
theorem d_Li_workInOne_69 : decode b_Li_workInOne 69 = .ok (.iadd, 1) := by decide +kernel
theorem d_Li_workInOne_70 : decode b_Li_workInOne 70 = .ok (.istore 5, 2) := by decide +kernel
theorem d_Li_workInOne_72 : decode b_Li_workInOne 72 = .ok (.aload_n 0, 1) := by decide +kernel
theorem d_Li_workInOne_73 : decode b_Li_workInOne 73 = .ok (.aload_n 0, 1) := by decide +kernel
theorem d_Li_workInOne_74 : decode b_Li_workInOne 74 = .ok (.getfield 24, 3) := by decide +kernel
theorem d_Li_workInOne_77 : decode b_Li_workInOne 77 = .ok (.iload_n 1, 1) := by decide +kernel
theorem d_Li_workInOne_78 : decode b_Li_workInOne 78 = .ok (.aload_n 2, 1) := by decide +kernel
theorem d_Li_workInOne_79 : decode b_Li_workInOne 79 = .ok (.getfield 159, 3) := by decide +kernel
theorem d_Li_workInOne_82 : decode b_Li_workInOne 82 = .ok (.invokevirtual 162, 3) := by decide +kernel
theorem d_Li_workInOne_85 : decode b_Li_workInOne 85 = .ok (.invokevirtual 62, 3) := by decide +kernel
theorem d_Li_workInOne_88 : decode b_Li_workInOne 88 = .ok (.i2l, 1) := by decide +kernel
theorem d_Li_workInOne_89 : decode b_Li_workInOne 89 = .ok (.aload_n 2, 1) := by decide +kernel
theorem d_Li_workInOne_90 : decode b_Li_workInOne 90 = .ok (.getfield 231, 3) := by decide +kernel
theorem d_Li_workInOne_93 : decode b_Li_workInOne 93 = .ok (.i2l, 1) := by decide +kernel
theorem d_Li_workInOne_94 : decode b_Li_workInOne 94 = .ok (.ladd, 1) := by decide +kernel
theorem d_Li_workInOne_95 : decode b_Li_workInOne 95 = .ok (.lstore 6, 2) := by decide +kernel
theorem d_Li_workInOne_97 : decode b_Li_workInOne 97 = .ok (.lload 6, 2) := by decide +kernel
theorem d_Li_workInOne_99 : decode b_Li_workInOne 99 = .ok (.iload 5, 2) := by decide +kernel
theorem d_Li_workInOne_101 : decode b_Li_workInOne 101 = .ok (.i2l, 1) := by decide +kernel
theorem d_Li_workInOne_102 : decode b_Li_workInOne 102 = .ok (.lsub, 1) := by decide +kernel
theorem d_Li_workInOne_103 : decode b_Li_workInOne 103 = .ok (.lstore 8, 2) := by decide +kernel
theorem d_Li_workInOne_105 : decode b_Li_workInOne 105 = .ok (.aload_n 2, 1) := by decide +kernel
theorem d_Li_workInOne_106 : decode b_Li_workInOne 106 = .ok (.getfield 227, 3) := by decide +kernel
theorem d_Li_workInOne_109 : decode b_Li_workInOne 109 = .ok (.lload 6, 2) := by decide +kernel
theorem d_Li_workInOne_111 : decode b_Li_workInOne 111 = .ok (.lload 8, 2) := by decide +kernel
theorem d_Li_workInOne_113 : decode b_Li_workInOne 113 = .ok (.invokestatic 234, 3) := by decide +kernel
theorem d_Li_workInOne_116 : decode b_Li_workInOne 116 = .ok (.istore 10, 2) := by decide +kernel
theorem d_Li_workInOne_118 : decode b_Li_workInOne 118 = .ok (.iload 10, 2) := by decide +kernel
theorem d_Li_workInOne_120 : decode b_Li_workInOne 120 = .ok (.ifCond .ne 27, 3) := by decide +kernel
theorem d_Li_workInOne_123 : decode b_Li_workInOne 123 = .ok (.aload_n 0, 1) := by decide +kernel
theorem d_Li_workInOne_124 : decode b_Li_workInOne 124 = .ok (.iload 5, 2) := by decide +kernel
theorem d_Li_workInOne_126 : decode b_Li_workInOne 126 = .ok (.aload_n 0, 1) := by decide +kernel
theorem d_Li_workInOne_127 : decode b_Li_workInOne 127 = .ok (.getfield 55, 3) := by decide +kernel
theorem d_Li_workInOne_130 : decode b_Li_workInOne 130 = .ok (.isub, 1) := by decide +kernel
theorem d_Li_workInOne_131 : decode b_Li_workInOne 131 = .ok (.iload 4, 2) := by decide +kernel
theorem d_Li_workInOne_133 : decode b_Li_workInOne 133 = .ok (.aload_n 2, 1) := by decide +kernel
theorem d_Li_workInOne_134 : decode b_Li_workInOne 134 = .ok (.getfield 227, 3) := by decide +kernel
theorem d_Li_workInOne_137 : decode b_Li_workInOne 137 = .ok (.lload 6, 2) := by decide +kernel
theorem d_Li_workInOne_139 : decode b_Li_workInOne 139 = .ok (.lload 8, 2) := by decide +kernel
theorem d_Li_workInOne_141 : decode b_Li_workInOne 141 = .ok (.invokestatic 238, 3) := by decide +kernel
theorem d_Li_workInOne_144 : decode b_Li_workInOne 144 = .ok (.invokevirtual 242, 3) := by decide +kernel
theorem d_Li_workInOne_147 : decode b_Li_workInOne 147 = .ok (.iload 10, 2) := by decide +kernel
theorem d_Li_workInOne_149 : decode b_Li_workInOne 149 = .ok (.ireturn, 1) := by decide +kernel
theorem d_Li_faultOfWay_0 : decode b_Li_faultOfWay 0 = .ok (.iload_n 0, 1) := by decide +kernel
theorem d_Li_faultOfWay_1 : decode b_Li_faultOfWay 1 = .ok (.tableswitch 107 1 3 #[27, 47, 69], 27) := by decide +kernel
theorem d_Li_faultOfWay_28 : decode b_Li_faultOfWay 28 = .ok (.lload_n 1, 1) := by decide +kernel
theorem d_Li_faultOfWay_29 : decode b_Li_faultOfWay 29 = .ok (.lconst 0, 1) := by decide +kernel
theorem d_Li_faultOfWay_30 : decode b_Li_faultOfWay 30 = .ok (.lcmp, 1) := by decide +kernel
theorem d_Li_faultOfWay_31 : decode b_Li_faultOfWay 31 = .ok (.ifCond .lt 11, 3) := by decide +kernel
theorem d_Li_faultOfWay_34 : decode b_Li_faultOfWay 34 = .ok (.lload_n 1, 1) := by decide +kernel
theorem d_Li_faultOfWay_35 : decode b_Li_faultOfWay 35 = .ok (.ldc2_w 246, 3) := by decide +kernel
theorem d_Li_faultOfWay_38 : decode b_Li_faultOfWay 38 = .ok (.lcmp, 1) := by decide +kernel
theorem d_Li_faultOfWay_39 : decode b_Li_faultOfWay 39 = .ok (.ifCond .le 7, 3) := by decide +kernel
theorem d_Li_faultOfWay_42 : decode b_Li_faultOfWay 42 = .ok (.iconst 5, 1) := by decide +kernel
theorem d_Li_faultOfWay_43 : decode b_Li_faultOfWay 43 = .ok (.goto 4, 3) := by decide +kernel
theorem d_Li_faultOfWay_46 : decode b_Li_faultOfWay 46 = .ok (.iconst 0, 1) := by decide +kernel
theorem d_Li_faultOfWay_47 : decode b_Li_faultOfWay 47 = .ok (.ireturn, 1) := by decide +kernel
theorem d_Li_faultOfWay_48 : decode b_Li_faultOfWay 48 = .ok (.lload_n 3, 1) := by decide +kernel
theorem d_Li_faultOfWay_49 : decode b_Li_faultOfWay 49 = .ok (.ldc2_w 248, 3) := by decide +kernel
theorem d_Li_faultOfWay_52 : decode b_Li_faultOfWay 52 = .ok (.lcmp, 1) := by decide +kernel
theorem d_Li_faultOfWay_53 : decode b_Li_faultOfWay 53 = .ok (.ifCond .lt 11, 3) := by decide +kernel
theorem d_Li_faultOfWay_56 : decode b_Li_faultOfWay 56 = .ok (.lload_n 3, 1) := by decide +kernel
theorem d_Li_faultOfWay_57 : decode b_Li_faultOfWay 57 = .ok (.ldc2_w 250, 3) := by decide +kernel
theorem d_Li_faultOfWay_60 : decode b_Li_faultOfWay 60 = .ok (.lcmp, 1) := by decide +kernel
theorem d_Li_faultOfWay_61 : decode b_Li_faultOfWay 61 = .ok (.ifCond .le 7, 3) := by decide +kernel
theorem d_Li_faultOfWay_64 : decode b_Li_faultOfWay 64 = .ok (.iconst 5, 1) := by decide +kernel
theorem d_Li_faultOfWay_65 : decode b_Li_faultOfWay 65 = .ok (.goto 4, 3) := by decide +kernel
theorem d_Li_faultOfWay_68 : decode b_Li_faultOfWay 68 = .ok (.iconst 0, 1) := by decide +kernel
theorem d_Li_faultOfWay_69 : decode b_Li_faultOfWay 69 = .ok (.ireturn, 1) := by decide +kernel
theorem d_Li_faultOfWay_70 : decode b_Li_faultOfWay 70 = .ok (.lload_n 3, 1) := by decide +kernel
theorem d_Li_faultOfWay_71 : decode b_Li_faultOfWay 71 = .ok (.ldc2_w 252, 3) := by decide +kernel
theorem d_Li_faultOfWay_74 : decode b_Li_faultOfWay 74 = .ok (.land, 1) := by decide +kernel
theorem d_Li_faultOfWay_75 : decode b_Li_faultOfWay 75 = .ok (.lconst 0, 1) := by decide +kernel
theorem d_Li_faultOfWay_76 : decode b_Li_faultOfWay 76 = .ok (.lcmp, 1) := by decide +kernel
theorem d_Li_faultOfWay_77 : decode b_Li_faultOfWay 77 = .ok (.ifCond .eq 5, 3) := by decide +kernel
theorem d_Li_faultOfWay_80 : decode b_Li_faultOfWay 80 = .ok (.iconst 4, 1) := by decide +kernel
theorem d_Li_faultOfWay_81 : decode b_Li_faultOfWay 81 = .ok (.ireturn, 1) := by decide +kernel
theorem d_Li_faultOfWay_82 : decode b_Li_faultOfWay 82 = .ok (.lload_n 3, 1) := by decide +kernel
theorem d_Li_faultOfWay_83 : decode b_Li_faultOfWay 83 = .ok (.iconst 2, 1) := by decide +kernel
theorem d_Li_faultOfWay_84 : decode b_Li_faultOfWay 84 = .ok (.lshr, 1) := by decide +kernel
theorem d_Li_faultOfWay_85 : decode b_Li_faultOfWay 85 = .ok (.ldc2_w 254, 3) := by decide +kernel
theorem d_Li_faultOfWay_88 : decode b_Li_faultOfWay 88 = .ok (.lcmp, 1) := by decide +kernel
theorem d_Li_faultOfWay_89 : decode b_Li_faultOfWay 89 = .ok (.ifCond .lt 13, 3) := by decide +kernel
theorem d_Li_faultOfWay_92 : decode b_Li_faultOfWay 92 = .ok (.lload_n 3, 1) := by decide +kernel
theorem d_Li_faultOfWay_93 : decode b_Li_faultOfWay 93 = .ok (.iconst 2, 1) := by decide +kernel
theorem d_Li_faultOfWay_94 : decode b_Li_faultOfWay 94 = .ok (.lshr, 1) := by decide +kernel
theorem d_Li_faultOfWay_95 : decode b_Li_faultOfWay 95 = .ok (.ldc2_w 256, 3) := by decide +kernel
theorem d_Li_faultOfWay_98 : decode b_Li_faultOfWay 98 = .ok (.lcmp, 1) := by decide +kernel
theorem d_Li_faultOfWay_99 : decode b_Li_faultOfWay 99 = .ok (.ifCond .le 7, 3) := by decide +kernel
theorem d_Li_faultOfWay_102 : decode b_Li_faultOfWay 102 = .ok (.iconst 5, 1) := by decide +kernel
theorem d_Li_faultOfWay_103 : decode b_Li_faultOfWay 103 = .ok (.goto 4, 3) := by decide +kernel
theorem d_Li_faultOfWay_106 : decode b_Li_faultOfWay 106 = .ok (.iconst 0, 1) := by decide +kernel
theorem d_Li_faultOfWay_107 : decode b_Li_faultOfWay 107 = .ok (.ireturn, 1) := by decide +kernel
theorem d_Li_faultOfWay_108 : decode b_Li_faultOfWay 108 = .ok (.iconst 0, 1) := by decide +kernel
theorem d_Li_faultOfWay_109 : decode b_Li_faultOfWay 109 = .ok (.ireturn, 1) := by decide +kernel
theorem d_Li_valueOfWay_0 : decode b_Li_valueOfWay 0 = .ok (.iload_n 0, 1) := by decide +kernel
theorem d_Li_valueOfWay_1 : decode b_Li_valueOfWay 1 = .ok (.tableswitch 42 2 4 #[27, 29, 33], 27) := by decide +kernel
theorem d_Li_valueOfWay_28 : decode b_Li_valueOfWay 28 = .ok (.lload_n 3, 1) := by decide +kernel
theorem d_Li_valueOfWay_29 : decode b_Li_valueOfWay 29 = .ok (.lreturn, 1) := by decide +kernel
theorem d_Li_valueOfWay_30 : decode b_Li_valueOfWay 30 = .ok (.lload_n 3, 1) := by decide +kernel
theorem d_Li_valueOfWay_31 : decode b_Li_valueOfWay 31 = .ok (.iconst 2, 1) := by decide +kernel
theorem d_Li_valueOfWay_32 : decode b_Li_valueOfWay 32 = .ok (.lshr, 1) := by decide +kernel
theorem d_Li_valueOfWay_33 : decode b_Li_valueOfWay 33 = .ok (.lreturn, 1) := by decide +kernel
theorem d_Li_valueOfWay_34 : decode b_Li_valueOfWay 34 = .ok (.lload_n 1, 1) := by decide +kernel
theorem d_Li_valueOfWay_35 : decode b_Li_valueOfWay 35 = .ok (.ldc2_w 258, 3) := by decide +kernel
theorem d_Li_valueOfWay_38 : decode b_Li_valueOfWay 38 = .ok (.ladd, 1) := by decide +kernel
theorem d_Li_valueOfWay_39 : decode b_Li_valueOfWay 39 = .ok (.bipush 16, 2) := by decide +kernel
theorem d_Li_valueOfWay_41 : decode b_Li_valueOfWay 41 = .ok (.lshr, 1) := by decide +kernel
theorem d_Li_valueOfWay_42 : decode b_Li_valueOfWay 42 = .ok (.lreturn, 1) := by decide +kernel
theorem d_Li_valueOfWay_43 : decode b_Li_valueOfWay 43 = .ok (.lload_n 1, 1) := by decide +kernel
theorem d_Li_valueOfWay_44 : decode b_Li_valueOfWay 44 = .ok (.lreturn, 1) := by decide +kernel
theorem d_Li_putInto_0 : decode b_Li_putInto 0 = .ok (.iconst 0, 1) := by decide +kernel
theorem d_Li_putInto_1 : decode b_Li_putInto 1 = .ok (.istore 5, 2) := by decide +kernel
theorem d_Li_putInto_3 : decode b_Li_putInto 3 = .ok (.iload 5, 2) := by decide +kernel
theorem d_Li_putInto_5 : decode b_Li_putInto 5 = .ok (.iload_n 2, 1) := by decide +kernel
theorem d_Li_putInto_6 : decode b_Li_putInto 6 = .ok (.if_icmp .ge 34, 3) := by decide +kernel
theorem d_Li_putInto_9 : decode b_Li_putInto 9 = .ok (.aload_n 0, 1) := by decide +kernel
theorem d_Li_putInto_10 : decode b_Li_putInto 10 = .ok (.getfield 38, 3) := by decide +kernel
theorem d_Li_putInto_13 : decode b_Li_putInto 13 = .ok (.iload_n 1, 1) := by decide +kernel
theorem d_Li_putInto_14 : decode b_Li_putInto 14 = .ok (.iload 5, 2) := by decide +kernel
theorem d_Li_putInto_16 : decode b_Li_putInto 16 = .ok (.iadd, 1) := by decide +kernel
theorem d_Li_putInto_17 : decode b_Li_putInto 17 = .ok (.lload_n 3, 1) := by decide +kernel
theorem d_Li_putInto_18 : decode b_Li_putInto 18 = .ok (.bipush 8, 2) := by decide +kernel
theorem d_Li_putInto_20 : decode b_Li_putInto 20 = .ok (.iload_n 2, 1) := by decide +kernel
theorem d_Li_putInto_21 : decode b_Li_putInto 21 = .ok (.iconst 1, 1) := by decide +kernel
theorem d_Li_putInto_22 : decode b_Li_putInto 22 = .ok (.isub, 1) := by decide +kernel
theorem d_Li_putInto_23 : decode b_Li_putInto 23 = .ok (.iload 5, 2) := by decide +kernel
theorem d_Li_putInto_25 : decode b_Li_putInto 25 = .ok (.isub, 1) := by decide +kernel
theorem d_Li_putInto_26 : decode b_Li_putInto 26 = .ok (.imul, 1) := by decide +kernel
theorem d_Li_putInto_27 : decode b_Li_putInto 27 = .ok (.lshr, 1) := by decide +kernel
theorem d_Li_putInto_28 : decode b_Li_putInto 28 = .ok (.l2i, 1) := by decide +kernel
theorem d_Li_putInto_29 : decode b_Li_putInto 29 = .ok (.sipush 255, 3) := by decide +kernel
theorem d_Li_putInto_32 : decode b_Li_putInto 32 = .ok (.iand, 1) := by decide +kernel
theorem d_Li_putInto_33 : decode b_Li_putInto 33 = .ok (.iastore, 1) := by decide +kernel
theorem d_Li_putInto_34 : decode b_Li_putInto 34 = .ok (.iinc 5 1, 3) := by decide +kernel
theorem d_Li_putInto_37 : decode b_Li_putInto 37 = .ok (.goto (-34), 3) := by decide +kernel
theorem d_Li_putInto_40 : decode b_Li_putInto 40 = .ok (.return_, 1) := by decide +kernel
theorem d_OL_fault_0 : decode b_OL_fault 0 = .ok (.iload_n 1, 1) := by decide +kernel
theorem d_OL_fault_1 : decode b_OL_fault 1 = .ok (.tableswitch 51 0 2 #[27, 35, 43], 27) := by decide +kernel
theorem d_OL_fault_28 : decode b_OL_fault 28 = .ok (.aload_n 0, 1) := by decide +kernel
theorem d_OL_fault_29 : decode b_OL_fault 29 = .ok (.getfield 18, 3) := by decide +kernel
theorem d_OL_fault_32 : decode b_OL_fault 32 = .ok (.getfield 160, 3) := by decide +kernel
theorem d_OL_fault_35 : decode b_OL_fault 35 = .ok (.ireturn, 1) := by decide +kernel
theorem d_OL_fault_36 : decode b_OL_fault 36 = .ok (.aload_n 0, 1) := by decide +kernel
theorem d_OL_fault_37 : decode b_OL_fault 37 = .ok (.getfield 18, 3) := by decide +kernel
theorem d_OL_fault_40 : decode b_OL_fault 40 = .ok (.getfield 163, 3) := by decide +kernel
theorem d_OL_fault_43 : decode b_OL_fault 43 = .ok (.ireturn, 1) := by decide +kernel
theorem d_OL_fault_44 : decode b_OL_fault 44 = .ok (.aload_n 0, 1) := by decide +kernel
theorem d_OL_fault_45 : decode b_OL_fault 45 = .ok (.getfield 18, 3) := by decide +kernel
theorem d_OL_fault_48 : decode b_OL_fault 48 = .ok (.getfield 166, 3) := by decide +kernel
theorem d_OL_fault_51 : decode b_OL_fault 51 = .ok (.ireturn, 1) := by decide +kernel
theorem d_OL_fault_52 : decode b_OL_fault 52 = .ok (.new 169, 3) := by decide +kernel
theorem d_OL_fault_55 : decode b_OL_fault 55 = .ok (.dup, 1) := by decide +kernel
theorem d_OL_fault_56 : decode b_OL_fault 56 = .ok (.ldc 171, 2) := by decide +kernel
theorem d_OL_fault_58 : decode b_OL_fault 58 = .ok (.invokespecial 173, 3) := by decide +kernel
theorem d_OL_fault_61 : decode b_OL_fault 61 = .ok (.athrow, 1) := by decide +kernel
theorem d_OL_image_0 : decode b_OL_image 0 = .ok (.iload_n 1, 1) := by decide +kernel
theorem d_OL_image_1 : decode b_OL_image 1 = .ok (.ifCond .lt 14, 3) := by decide +kernel
theorem d_OL_image_4 : decode b_OL_image 4 = .ok (.iload_n 1, 1) := by decide +kernel
theorem d_OL_image_5 : decode b_OL_image 5 = .ok (.aload_n 0, 1) := by decide +kernel
theorem d_OL_image_6 : decode b_OL_image 6 = .ok (.getfield 18, 3) := by decide +kernel
theorem d_OL_image_9 : decode b_OL_image 9 = .ok (.getfield 157, 3) := by decide +kernel
theorem d_OL_image_12 : decode b_OL_image 12 = .ok (.if_icmp .lt 13, 3) := by decide +kernel
theorem d_OL_image_15 : decode b_OL_image 15 = .ok (.new 169, 3) := by decide +kernel
theorem d_OL_image_18 : decode b_OL_image 18 = .ok (.dup, 1) := by decide +kernel
theorem d_OL_image_19 : decode b_OL_image 19 = .ok (.ldc 174, 2) := by decide +kernel
theorem d_OL_image_21 : decode b_OL_image 21 = .ok (.invokespecial 173, 3) := by decide +kernel
theorem d_OL_image_24 : decode b_OL_image 24 = .ok (.athrow, 1) := by decide +kernel
theorem d_OL_image_25 : decode b_OL_image 25 = .ok (.aload_n 0, 1) := by decide +kernel
theorem d_OL_image_26 : decode b_OL_image 26 = .ok (.getfield 18, 3) := by decide +kernel
theorem d_OL_image_29 : decode b_OL_image 29 = .ok (.getfield 176, 3) := by decide +kernel
theorem d_OL_image_32 : decode b_OL_image 32 = .ok (.iload_n 1, 1) := by decide +kernel
theorem d_OL_image_33 : decode b_OL_image 33 = .ok (.iaload, 1) := by decide +kernel
theorem d_OL_image_34 : decode b_OL_image 34 = .ok (.ireturn, 1) := by decide +kernel
theorem d_OL_placeOf_0 : decode b_OL_placeOf 0 = .ok (.aload_n 0, 1) := by decide +kernel
theorem d_OL_placeOf_1 : decode b_OL_placeOf 1 = .ok (.iload_n 1, 1) := by decide +kernel
theorem d_OL_placeOf_2 : decode b_OL_placeOf 2 = .ok (.invokevirtual 45, 3) := by decide +kernel
theorem d_OL_placeOf_5 : decode b_OL_placeOf 5 = .ok (.iload_n 2, 1) := by decide +kernel
theorem d_OL_placeOf_6 : decode b_OL_placeOf 6 = .ok (.invokevirtual 72, 3) := by decide +kernel
theorem d_OL_placeOf_9 : decode b_OL_placeOf 9 = .ok (.ifnonnull 13, 3) := by decide +kernel
theorem d_OL_placeOf_12 : decode b_OL_placeOf 12 = .ok (.new 55, 3) := by decide +kernel
theorem d_OL_placeOf_15 : decode b_OL_placeOf 15 = .ok (.dup, 1) := by decide +kernel
theorem d_OL_placeOf_16 : decode b_OL_placeOf 16 = .ok (.ldc 179, 2) := by decide +kernel
theorem d_OL_placeOf_18 : decode b_OL_placeOf 18 = .ok (.invokespecial 59, 3) := by decide +kernel
theorem d_OL_placeOf_21 : decode b_OL_placeOf 21 = .ok (.athrow, 1) := by decide +kernel
theorem d_OL_placeOf_22 : decode b_OL_placeOf 22 = .ok (.aload_n 0, 1) := by decide +kernel
theorem d_OL_placeOf_23 : decode b_OL_placeOf 23 = .ok (.getfield 18, 3) := by decide +kernel
theorem d_OL_placeOf_26 : decode b_OL_placeOf 26 = .ok (.iload_n 1, 1) := by decide +kernel
theorem d_OL_placeOf_27 : decode b_OL_placeOf 27 = .ok (.iload_n 2, 1) := by decide +kernel
theorem d_OL_placeOf_28 : decode b_OL_placeOf 28 = .ok (.invokestatic 181, 3) := by decide +kernel
theorem d_OL_placeOf_31 : decode b_OL_placeOf 31 = .ok (.invokevirtual 184, 3) := by decide +kernel
theorem d_OL_placeOf_34 : decode b_OL_placeOf 34 = .ok (.ireturn, 1) := by decide +kernel
theorem d_Li_placeInImage_0 : decode b_Li_placeInImage 0 = .ok (.aload_n 0, 1) := by decide +kernel
theorem d_Li_placeInImage_1 : decode b_Li_placeInImage 1 = .ok (.getfield 51, 3) := by decide +kernel
theorem d_Li_placeInImage_4 : decode b_Li_placeInImage 4 = .ok (.ifCond .eq 26, 3) := by decide +kernel
theorem d_Li_placeInImage_7 : decode b_Li_placeInImage 7 = .ok (.aload_n 0, 1) := by decide +kernel
theorem d_Li_placeInImage_8 : decode b_Li_placeInImage 8 = .ok (.getfield 28, 3) := by decide +kernel
theorem d_Li_placeInImage_11 : decode b_Li_placeInImage 11 = .ok (.iload_n 1, 1) := by decide +kernel
theorem d_Li_placeInImage_12 : decode b_Li_placeInImage 12 = .ok (.baload, 1) := by decide +kernel
theorem d_Li_placeInImage_13 : decode b_Li_placeInImage 13 = .ok (.ifCond .eq 17, 3) := by decide +kernel
theorem d_Li_placeInImage_16 : decode b_Li_placeInImage 16 = .ok (.aload_n 0, 1) := by decide +kernel
theorem d_Li_placeInImage_17 : decode b_Li_placeInImage 17 = .ok (.getfield 35, 3) := by decide +kernel
theorem d_Li_placeInImage_20 : decode b_Li_placeInImage 20 = .ok (.iload_n 1, 1) := by decide +kernel
theorem d_Li_placeInImage_21 : decode b_Li_placeInImage 21 = .ok (.iaload, 1) := by decide +kernel
theorem d_Li_placeInImage_22 : decode b_Li_placeInImage 22 = .ok (.aload_n 0, 1) := by decide +kernel
theorem d_Li_placeInImage_23 : decode b_Li_placeInImage 23 = .ok (.getfield 55, 3) := by decide +kernel
theorem d_Li_placeInImage_26 : decode b_Li_placeInImage 26 = .ok (.isub, 1) := by decide +kernel
theorem d_Li_placeInImage_27 : decode b_Li_placeInImage 27 = .ok (.goto 4, 3) := by decide +kernel
theorem d_Li_placeInImage_30 : decode b_Li_placeInImage 30 = .ok (.iconst (-1), 1) := by decide +kernel
theorem d_Li_placeInImage_31 : decode b_Li_placeInImage 31 = .ok (.ireturn, 1) := by decide +kernel
theorem d_OL_write_0 : decode b_OL_write 0 = .ok (.aload_n 0, 1) := by decide +kernel
theorem d_OL_write_1 : decode b_OL_write 1 = .ok (.getfield 25, 3) := by decide +kernel
theorem d_OL_write_4 : decode b_OL_write 4 = .ok (.aload_n 0, 1) := by decide +kernel
theorem d_OL_write_5 : decode b_OL_write 5 = .ok (.iload_n 1, 1) := by decide +kernel
theorem d_OL_write_6 : decode b_OL_write 6 = .ok (.invokevirtual 45, 3) := by decide +kernel
theorem d_OL_write_9 : decode b_OL_write 9 = .ok (.invokevirtual 191, 3) := by decide +kernel
theorem d_OL_write_12 : decode b_OL_write 12 = .ok (.aload_n 0, 1) := by decide +kernel
theorem d_OL_write_13 : decode b_OL_write 13 = .ok (.getfield 25, 3) := by decide +kernel
theorem d_OL_write_16 : decode b_OL_write 16 = .ok (.getfield 195, 3) := by decide +kernel
theorem d_OL_write_19 : decode b_OL_write 19 = .ok (.ireturn, 1) := by decide +kernel
theorem d_Oc_store_0 : decode b_Oc_store 0 = .ok (.aload_n 0, 1) := by decide +kernel
theorem d_Oc_store_1 : decode b_Oc_store 1 = .ok (.iconst 0, 1) := by decide +kernel
theorem d_Oc_store_2 : decode b_Oc_store 2 = .ok (.putfield 15, 3) := by decide +kernel
theorem d_Oc_store_5 : decode b_Oc_store 5 = .ok (.aload_n 0, 1) := by decide +kernel
theorem d_Oc_store_6 : decode b_Oc_store 6 = .ok (.sipush 20290, 3) := by decide +kernel
theorem d_Oc_store_9 : decode b_Oc_store 9 = .ok (.iconst 2, 1) := by decide +kernel
theorem d_Oc_store_10 : decode b_Oc_store 10 = .ok (.invokevirtual 19, 3) := by decide +kernel
theorem d_Oc_store_13 : decode b_Oc_store 13 = .ok (.aload_n 0, 1) := by decide +kernel
theorem d_Oc_store_14 : decode b_Oc_store 14 = .ok (.aload_n 1, 1) := by decide +kernel
theorem d_Oc_store_15 : decode b_Oc_store 15 = .ok (.getfield 23, 3) := by decide +kernel
theorem d_Oc_store_18 : decode b_Oc_store 18 = .ok (.iconst 1, 1) := by decide +kernel
theorem d_Oc_store_19 : decode b_Oc_store 19 = .ok (.invokevirtual 19, 3) := by decide +kernel
theorem d_Oc_store_22 : decode b_Oc_store 22 = .ok (.aload_n 0, 1) := by decide +kernel
theorem d_Oc_store_23 : decode b_Oc_store 23 = .ok (.aload_n 1, 1) := by decide +kernel
theorem d_Oc_store_24 : decode b_Oc_store 24 = .ok (.getfield 28, 3) := by decide +kernel
theorem d_Oc_store_27 : decode b_Oc_store 27 = .ok (.iconst 1, 1) := by decide +kernel
theorem d_Oc_store_28 : decode b_Oc_store 28 = .ok (.invokevirtual 19, 3) := by decide +kernel
theorem d_Oc_store_31 : decode b_Oc_store 31 = .ok (.aload_n 0, 1) := by decide +kernel
theorem d_Oc_store_32 : decode b_Oc_store 32 = .ok (.aload_n 1, 1) := by decide +kernel
theorem d_Oc_store_33 : decode b_Oc_store 33 = .ok (.getfield 31, 3) := by decide +kernel
theorem d_Oc_store_36 : decode b_Oc_store 36 = .ok (.iconst 1, 1) := by decide +kernel
theorem d_Oc_store_37 : decode b_Oc_store 37 = .ok (.invokevirtual 19, 3) := by decide +kernel
theorem d_Oc_store_40 : decode b_Oc_store 40 = .ok (.iconst 0, 1) := by decide +kernel
theorem d_Oc_store_41 : decode b_Oc_store 41 = .ok (.istore_n 2, 1) := by decide +kernel
theorem d_Oc_store_42 : decode b_Oc_store 42 = .ok (.iload_n 2, 1) := by decide +kernel
theorem d_Oc_store_43 : decode b_Oc_store 43 = .ok (.aload_n 1, 1) := by decide +kernel
theorem d_Oc_store_44 : decode b_Oc_store 44 = .ok (.getfield 23, 3) := by decide +kernel
theorem d_Oc_store_47 : decode b_Oc_store 47 = .ok (.if_icmp .ge 19, 3) := by decide +kernel
theorem d_Oc_store_50 : decode b_Oc_store 50 = .ok (.aload_n 0, 1) := by decide +kernel
theorem d_Oc_store_51 : decode b_Oc_store 51 = .ok (.aload_n 1, 1) := by decide +kernel
theorem d_Oc_store_52 : decode b_Oc_store 52 = .ok (.getfield 34, 3) := by decide +kernel
theorem d_Oc_store_55 : decode b_Oc_store 55 = .ok (.iload_n 2, 1) := by decide +kernel
theorem d_Oc_store_56 : decode b_Oc_store 56 = .ok (.aaload, 1) := by decide +kernel
theorem d_Oc_store_57 : decode b_Oc_store 57 = .ok (.invokevirtual 38, 3) := by decide +kernel
theorem d_Oc_store_60 : decode b_Oc_store 60 = .ok (.iinc 2 1, 3) := by decide +kernel
theorem d_Oc_store_63 : decode b_Oc_store 63 = .ok (.goto (-21), 3) := by decide +kernel
theorem d_Oc_store_66 : decode b_Oc_store 66 = .ok (.iconst 0, 1) := by decide +kernel
theorem d_Oc_store_67 : decode b_Oc_store 67 = .ok (.istore_n 2, 1) := by decide +kernel
theorem d_Oc_store_68 : decode b_Oc_store 68 = .ok (.iload_n 2, 1) := by decide +kernel
theorem d_Oc_store_69 : decode b_Oc_store 69 = .ok (.aload_n 1, 1) := by decide +kernel
theorem d_Oc_store_70 : decode b_Oc_store 70 = .ok (.getfield 28, 3) := by decide +kernel
theorem d_Oc_store_73 : decode b_Oc_store 73 = .ok (.if_icmp .ge 19, 3) := by decide +kernel
theorem d_Oc_store_76 : decode b_Oc_store 76 = .ok (.aload_n 0, 1) := by decide +kernel
theorem d_Oc_store_77 : decode b_Oc_store 77 = .ok (.aload_n 1, 1) := by decide +kernel
theorem d_Oc_store_78 : decode b_Oc_store 78 = .ok (.getfield 42, 3) := by decide +kernel
theorem d_Oc_store_81 : decode b_Oc_store 81 = .ok (.iload_n 2, 1) := by decide +kernel
theorem d_Oc_store_82 : decode b_Oc_store 82 = .ok (.aaload, 1) := by decide +kernel
theorem d_Oc_store_83 : decode b_Oc_store 83 = .ok (.invokevirtual 46, 3) := by decide +kernel
theorem d_Oc_store_86 : decode b_Oc_store 86 = .ok (.iinc 2 1, 3) := by decide +kernel
theorem d_Oc_store_89 : decode b_Oc_store 89 = .ok (.goto (-21), 3) := by decide +kernel
theorem d_Oc_store_92 : decode b_Oc_store 92 = .ok (.iconst 0, 1) := by decide +kernel
theorem d_Oc_store_93 : decode b_Oc_store 93 = .ok (.istore_n 2, 1) := by decide +kernel
theorem d_Oc_store_94 : decode b_Oc_store 94 = .ok (.iload_n 2, 1) := by decide +kernel
theorem d_Oc_store_95 : decode b_Oc_store 95 = .ok (.aload_n 1, 1) := by decide +kernel
theorem d_Oc_store_96 : decode b_Oc_store 96 = .ok (.getfield 31, 3) := by decide +kernel
theorem d_Oc_store_99 : decode b_Oc_store 99 = .ok (.if_icmp .ge 19, 3) := by decide +kernel
theorem d_Oc_store_102 : decode b_Oc_store 102 = .ok (.aload_n 0, 1) := by decide +kernel
theorem d_Oc_store_103 : decode b_Oc_store 103 = .ok (.aload_n 1, 1) := by decide +kernel
theorem d_Oc_store_104 : decode b_Oc_store 104 = .ok (.getfield 50, 3) := by decide +kernel
theorem d_Oc_store_107 : decode b_Oc_store 107 = .ok (.iload_n 2, 1) := by decide +kernel
theorem d_Oc_store_108 : decode b_Oc_store 108 = .ok (.aaload, 1) := by decide +kernel
theorem d_Oc_store_109 : decode b_Oc_store 109 = .ok (.invokevirtual 54, 3) := by decide +kernel
theorem d_Oc_store_112 : decode b_Oc_store 112 = .ok (.iinc 2 1, 3) := by decide +kernel
theorem d_Oc_store_115 : decode b_Oc_store 115 = .ok (.goto (-21), 3) := by decide +kernel
theorem d_Oc_store_118 : decode b_Oc_store 118 = .ok (.aload_n 0, 1) := by decide +kernel
theorem d_Oc_store_119 : decode b_Oc_store 119 = .ok (.aload_n 0, 1) := by decide +kernel
theorem d_Oc_store_120 : decode b_Oc_store 120 = .ok (.getfield 9, 3) := by decide +kernel
theorem d_Oc_store_123 : decode b_Oc_store 123 = .ok (.aload_n 0, 1) := by decide +kernel
theorem d_Oc_store_124 : decode b_Oc_store 124 = .ok (.getfield 15, 3) := by decide +kernel
theorem d_Oc_store_127 : decode b_Oc_store 127 = .ok (.invokestatic 58, 3) := by decide +kernel
theorem d_Oc_store_130 : decode b_Oc_store 130 = .ok (.iconst 2, 1) := by decide +kernel
theorem d_Oc_store_131 : decode b_Oc_store 131 = .ok (.invokevirtual 19, 3) := by decide +kernel
theorem d_Oc_store_134 : decode b_Oc_store 134 = .ok (.return_, 1) := by decide +kernel
theorem d_Oc_put_0 : decode b_Oc_put 0 = .ok (.iload_n 2, 1) := by decide +kernel
theorem d_Oc_put_1 : decode b_Oc_put 1 = .ok (.iconst 1, 1) := by decide +kernel
theorem d_Oc_put_2 : decode b_Oc_put 2 = .ok (.isub, 1) := by decide +kernel
theorem d_Oc_put_3 : decode b_Oc_put 3 = .ok (.istore_n 3, 1) := by decide +kernel
theorem d_Oc_put_4 : decode b_Oc_put 4 = .ok (.iload_n 3, 1) := by decide +kernel
theorem d_Oc_put_5 : decode b_Oc_put 5 = .ok (.ifCond .lt 50, 3) := by decide +kernel
theorem d_Oc_put_8 : decode b_Oc_put 8 = .ok (.aload_n 0, 1) := by decide +kernel
theorem d_Oc_put_9 : decode b_Oc_put 9 = .ok (.getfield 15, 3) := by decide +kernel
theorem d_Oc_put_12 : decode b_Oc_put 12 = .ok (.aload_n 0, 1) := by decide +kernel
theorem d_Oc_put_13 : decode b_Oc_put 13 = .ok (.getfield 9, 3) := by decide +kernel
theorem d_Oc_put_16 : decode b_Oc_put 16 = .ok (.arraylength, 1) := by decide +kernel
theorem d_Oc_put_17 : decode b_Oc_put 17 = .ok (.if_icmp .ge 38, 3) := by decide +kernel
theorem d_Oc_put_20 : decode b_Oc_put 20 = .ok (.aload_n 0, 1) := by decide +kernel
theorem d_Oc_put_21 : decode b_Oc_put 21 = .ok (.getfield 9, 3) := by decide +kernel
theorem d_Oc_put_24 : decode b_Oc_put 24 = .ok (.aload_n 0, 1) := by decide +kernel
theorem d_Oc_put_25 : decode b_Oc_put 25 = .ok (.getfield 15, 3) := by decide +kernel
theorem d_Oc_put_28 : decode b_Oc_put 28 = .ok (.iload_n 1, 1) := by decide +kernel
theorem d_Oc_put_29 : decode b_Oc_put 29 = .ok (.bipush 8, 2) := by decide +kernel
theorem d_Oc_put_31 : decode b_Oc_put 31 = .ok (.iload_n 3, 1) := by decide +kernel
theorem d_Oc_put_32 : decode b_Oc_put 32 = .ok (.imul, 1) := by decide +kernel
theorem d_Oc_put_33 : decode b_Oc_put 33 = .ok (.iushr, 1) := by decide +kernel
theorem d_Oc_put_34 : decode b_Oc_put 34 = .ok (.sipush 255, 3) := by decide +kernel
theorem d_Oc_put_37 : decode b_Oc_put 37 = .ok (.iand, 1) := by decide +kernel
theorem d_Oc_put_38 : decode b_Oc_put 38 = .ok (.iastore, 1) := by decide +kernel
theorem d_Oc_put_39 : decode b_Oc_put 39 = .ok (.aload_n 0, 1) := by decide +kernel
theorem d_Oc_put_40 : decode b_Oc_put 40 = .ok (.dup, 1) := by decide +kernel
theorem d_Oc_put_41 : decode b_Oc_put 41 = .ok (.getfield 15, 3) := by decide +kernel
theorem d_Oc_put_44 : decode b_Oc_put 44 = .ok (.iconst 1, 1) := by decide +kernel
theorem d_Oc_put_45 : decode b_Oc_put 45 = .ok (.iadd, 1) := by decide +kernel
theorem d_Oc_put_46 : decode b_Oc_put 46 = .ok (.putfield 15, 3) := by decide +kernel
theorem d_Oc_put_49 : decode b_Oc_put 49 = .ok (.iinc 3 (-1), 3) := by decide +kernel
theorem d_Oc_put_52 : decode b_Oc_put 52 = .ok (.goto (-48), 3) := by decide +kernel
theorem d_Oc_put_55 : decode b_Oc_put 55 = .ok (.return_, 1) := by decide +kernel
theorem d_Oc_putSection_0 : decode b_Oc_putSection 0 = .ok (.aload_n 0, 1) := by decide +kernel
theorem d_Oc_putSection_1 : decode b_Oc_putSection 1 = .ok (.aload_n 1, 1) := by decide +kernel
theorem d_Oc_putSection_2 : decode b_Oc_putSection 2 = .ok (.getfield 62, 3) := by decide +kernel
theorem d_Oc_putSection_5 : decode b_Oc_putSection 5 = .ok (.iconst 1, 1) := by decide +kernel
theorem d_Oc_putSection_6 : decode b_Oc_putSection 6 = .ok (.invokevirtual 19, 3) := by decide +kernel
theorem d_Oc_putSection_9 : decode b_Oc_putSection 9 = .ok (.aload_n 0, 1) := by decide +kernel
theorem d_Oc_putSection_10 : decode b_Oc_putSection 10 = .ok (.aload_n 1, 1) := by decide +kernel
theorem d_Oc_putSection_11 : decode b_Oc_putSection 11 = .ok (.getfield 67, 3) := by decide +kernel
theorem d_Oc_putSection_14 : decode b_Oc_putSection 14 = .ok (.iconst 1, 1) := by decide +kernel
theorem d_Oc_putSection_15 : decode b_Oc_putSection 15 = .ok (.invokevirtual 19, 3) := by decide +kernel
theorem d_Oc_putSection_18 : decode b_Oc_putSection 18 = .ok (.aload_n 0, 1) := by decide +kernel
theorem d_Oc_putSection_19 : decode b_Oc_putSection 19 = .ok (.aload_n 1, 1) := by decide +kernel
theorem d_Oc_putSection_20 : decode b_Oc_putSection 20 = .ok (.getfield 70, 3) := by decide +kernel
theorem d_Oc_putSection_23 : decode b_Oc_putSection 23 = .ok (.iconst 2, 1) := by decide +kernel
theorem d_Oc_putSection_24 : decode b_Oc_putSection 24 = .ok (.invokevirtual 19, 3) := by decide +kernel
theorem d_Oc_putSection_27 : decode b_Oc_putSection 27 = .ok (.iconst 0, 1) := by decide +kernel
theorem d_Oc_putSection_28 : decode b_Oc_putSection 28 = .ok (.istore_n 2, 1) := by decide +kernel
theorem d_Oc_putSection_29 : decode b_Oc_putSection 29 = .ok (.iload_n 2, 1) := by decide +kernel
theorem d_Oc_putSection_30 : decode b_Oc_putSection 30 = .ok (.aload_n 1, 1) := by decide +kernel
theorem d_Oc_putSection_31 : decode b_Oc_putSection 31 = .ok (.getfield 71, 3) := by decide +kernel
theorem d_Oc_putSection_34 : decode b_Oc_putSection 34 = .ok (.arraylength, 1) := by decide +kernel
theorem d_Oc_putSection_35 : decode b_Oc_putSection 35 = .ok (.if_icmp .ge 20, 3) := by decide +kernel
theorem d_Oc_putSection_38 : decode b_Oc_putSection 38 = .ok (.aload_n 0, 1) := by decide +kernel
theorem d_Oc_putSection_39 : decode b_Oc_putSection 39 = .ok (.aload_n 1, 1) := by decide +kernel
theorem d_Oc_putSection_40 : decode b_Oc_putSection 40 = .ok (.getfield 71, 3) := by decide +kernel
theorem d_Oc_putSection_43 : decode b_Oc_putSection 43 = .ok (.iload_n 2, 1) := by decide +kernel
theorem d_Oc_putSection_44 : decode b_Oc_putSection 44 = .ok (.iaload, 1) := by decide +kernel
theorem d_Oc_putSection_45 : decode b_Oc_putSection 45 = .ok (.iconst 1, 1) := by decide +kernel
theorem d_Oc_putSection_46 : decode b_Oc_putSection 46 = .ok (.invokevirtual 19, 3) := by decide +kernel
theorem d_Oc_putSection_49 : decode b_Oc_putSection 49 = .ok (.iinc 2 1, 3) := by decide +kernel
theorem d_Oc_putSection_52 : decode b_Oc_putSection 52 = .ok (.goto (-23), 3) := by decide +kernel
theorem d_Oc_putSection_55 : decode b_Oc_putSection 55 = .ok (.return_, 1) := by decide +kernel
theorem d_Oc_putName_0 : decode b_Oc_putName 0 = .ok (.aload_n 0, 1) := by decide +kernel
theorem d_Oc_putName_1 : decode b_Oc_putName 1 = .ok (.aload_n 1, 1) := by decide +kernel
theorem d_Oc_putName_2 : decode b_Oc_putName 2 = .ok (.getfield 74, 3) := by decide +kernel
theorem d_Oc_putName_5 : decode b_Oc_putName 5 = .ok (.iconst 4, 1) := by decide +kernel
theorem d_Oc_putName_6 : decode b_Oc_putName 6 = .ok (.invokevirtual 19, 3) := by decide +kernel
theorem d_Oc_putName_9 : decode b_Oc_putName 9 = .ok (.aload_n 0, 1) := by decide +kernel
theorem d_Oc_putName_10 : decode b_Oc_putName 10 = .ok (.aload_n 1, 1) := by decide +kernel
theorem d_Oc_putName_11 : decode b_Oc_putName 11 = .ok (.getfield 79, 3) := by decide +kernel
theorem d_Oc_putName_14 : decode b_Oc_putName 14 = .ok (.iconst 1, 1) := by decide +kernel
theorem d_Oc_putName_15 : decode b_Oc_putName 15 = .ok (.invokevirtual 19, 3) := by decide +kernel
theorem d_Oc_putName_18 : decode b_Oc_putName 18 = .ok (.aload_n 0, 1) := by decide +kernel
theorem d_Oc_putName_19 : decode b_Oc_putName 19 = .ok (.aload_n 1, 1) := by decide +kernel
theorem d_Oc_putName_20 : decode b_Oc_putName 20 = .ok (.getfield 82, 3) := by decide +kernel
theorem d_Oc_putName_23 : decode b_Oc_putName 23 = .ok (.iconst 1, 1) := by decide +kernel
theorem d_Oc_putName_24 : decode b_Oc_putName 24 = .ok (.invokevirtual 19, 3) := by decide +kernel
theorem d_Oc_putName_27 : decode b_Oc_putName 27 = .ok (.aload_n 0, 1) := by decide +kernel
theorem d_Oc_putName_28 : decode b_Oc_putName 28 = .ok (.aload_n 1, 1) := by decide +kernel
theorem d_Oc_putName_29 : decode b_Oc_putName 29 = .ok (.getfield 85, 3) := by decide +kernel
theorem d_Oc_putName_32 : decode b_Oc_putName 32 = .ok (.iconst 2, 1) := by decide +kernel
theorem d_Oc_putName_33 : decode b_Oc_putName 33 = .ok (.invokevirtual 19, 3) := by decide +kernel
theorem d_Oc_putName_36 : decode b_Oc_putName 36 = .ok (.return_, 1) := by decide +kernel
theorem d_Oc_putReference_0 : decode b_Oc_putReference 0 = .ok (.aload_n 0, 1) := by decide +kernel
theorem d_Oc_putReference_1 : decode b_Oc_putReference 1 = .ok (.aload_n 1, 1) := by decide +kernel
theorem d_Oc_putReference_2 : decode b_Oc_putReference 2 = .ok (.getfield 88, 3) := by decide +kernel
theorem d_Oc_putReference_5 : decode b_Oc_putReference 5 = .ok (.iconst 1, 1) := by decide +kernel
theorem d_Oc_putReference_6 : decode b_Oc_putReference 6 = .ok (.invokevirtual 19, 3) := by decide +kernel
theorem d_Oc_putReference_9 : decode b_Oc_putReference 9 = .ok (.aload_n 0, 1) := by decide +kernel
theorem d_Oc_putReference_10 : decode b_Oc_putReference 10 = .ok (.aload_n 1, 1) := by decide +kernel
theorem d_Oc_putReference_11 : decode b_Oc_putReference 11 = .ok (.getfield 91, 3) := by decide +kernel
theorem d_Oc_putReference_14 : decode b_Oc_putReference 14 = .ok (.iconst 2, 1) := by decide +kernel
theorem d_Oc_putReference_15 : decode b_Oc_putReference 15 = .ok (.invokevirtual 19, 3) := by decide +kernel
theorem d_Oc_putReference_18 : decode b_Oc_putReference 18 = .ok (.aload_n 0, 1) := by decide +kernel
theorem d_Oc_putReference_19 : decode b_Oc_putReference 19 = .ok (.aload_n 1, 1) := by decide +kernel
theorem d_Oc_putReference_20 : decode b_Oc_putReference 20 = .ok (.getfield 92, 3) := by decide +kernel
theorem d_Oc_putReference_23 : decode b_Oc_putReference 23 = .ok (.iconst 1, 1) := by decide +kernel
theorem d_Oc_putReference_24 : decode b_Oc_putReference 24 = .ok (.invokevirtual 19, 3) := by decide +kernel
theorem d_Oc_putReference_27 : decode b_Oc_putReference 27 = .ok (.aload_n 0, 1) := by decide +kernel
theorem d_Oc_putReference_28 : decode b_Oc_putReference 28 = .ok (.aload_n 1, 1) := by decide +kernel
theorem d_Oc_putReference_29 : decode b_Oc_putReference 29 = .ok (.getfield 95, 3) := by decide +kernel
theorem d_Oc_putReference_32 : decode b_Oc_putReference 32 = .ok (.iconst 1, 1) := by decide +kernel
theorem d_Oc_putReference_33 : decode b_Oc_putReference 33 = .ok (.invokevirtual 19, 3) := by decide +kernel
theorem d_Oc_putReference_36 : decode b_Oc_putReference 36 = .ok (.aload_n 0, 1) := by decide +kernel
theorem d_Oc_putReference_37 : decode b_Oc_putReference 37 = .ok (.aload_n 1, 1) := by decide +kernel
theorem d_Oc_putReference_38 : decode b_Oc_putReference 38 = .ok (.getfield 98, 3) := by decide +kernel
theorem d_Oc_putReference_41 : decode b_Oc_putReference 41 = .ok (.iconst 4, 1) := by decide +kernel
theorem d_Oc_putReference_42 : decode b_Oc_putReference 42 = .ok (.invokevirtual 19, 3) := by decide +kernel
theorem d_Oc_putReference_45 : decode b_Oc_putReference 45 = .ok (.return_, 1) := by decide +kernel
theorem d_Oc_sumOf_0 : decode b_Oc_sumOf 0 = .ok (.iconst 0, 1) := by decide +kernel
theorem d_Oc_sumOf_1 : decode b_Oc_sumOf 1 = .ok (.istore_n 2, 1) := by decide +kernel
theorem d_Oc_sumOf_2 : decode b_Oc_sumOf 2 = .ok (.iconst 0, 1) := by decide +kernel
theorem d_Oc_sumOf_3 : decode b_Oc_sumOf 3 = .ok (.istore_n 3, 1) := by decide +kernel
theorem d_Oc_sumOf_4 : decode b_Oc_sumOf 4 = .ok (.iload_n 3, 1) := by decide +kernel
theorem d_Oc_sumOf_5 : decode b_Oc_sumOf 5 = .ok (.iload_n 1, 1) := by decide +kernel
theorem d_Oc_sumOf_6 : decode b_Oc_sumOf 6 = .ok (.if_icmp .ge 19, 3) := by decide +kernel
theorem d_Oc_sumOf_9 : decode b_Oc_sumOf 9 = .ok (.iload_n 2, 1) := by decide +kernel
theorem d_Oc_sumOf_10 : decode b_Oc_sumOf 10 = .ok (.aload_n 0, 1) := by decide +kernel
theorem d_Oc_sumOf_11 : decode b_Oc_sumOf 11 = .ok (.iload_n 3, 1) := by decide +kernel
theorem d_Oc_sumOf_12 : decode b_Oc_sumOf 12 = .ok (.iaload, 1) := by decide +kernel
theorem d_Oc_sumOf_13 : decode b_Oc_sumOf 13 = .ok (.iload_n 3, 1) := by decide +kernel
theorem d_Oc_sumOf_14 : decode b_Oc_sumOf 14 = .ok (.iconst 1, 1) := by decide +kernel
theorem d_Oc_sumOf_15 : decode b_Oc_sumOf 15 = .ok (.iadd, 1) := by decide +kernel
theorem d_Oc_sumOf_16 : decode b_Oc_sumOf 16 = .ok (.imul, 1) := by decide +kernel
theorem d_Oc_sumOf_17 : decode b_Oc_sumOf 17 = .ok (.iadd, 1) := by decide +kernel
theorem d_Oc_sumOf_18 : decode b_Oc_sumOf 18 = .ok (.istore_n 2, 1) := by decide +kernel
theorem d_Oc_sumOf_19 : decode b_Oc_sumOf 19 = .ok (.iinc 3 1, 3) := by decide +kernel
theorem d_Oc_sumOf_22 : decode b_Oc_sumOf 22 = .ok (.goto (-18), 3) := by decide +kernel
theorem d_Oc_sumOf_25 : decode b_Oc_sumOf 25 = .ok (.iload_n 2, 1) := by decide +kernel
theorem d_Oc_sumOf_26 : decode b_Oc_sumOf 26 = .ok (.ldc 101, 2) := by decide +kernel
theorem d_Oc_sumOf_28 : decode b_Oc_sumOf 28 = .ok (.iand, 1) := by decide +kernel
theorem d_Oc_sumOf_29 : decode b_Oc_sumOf 29 = .ok (.ireturn, 1) := by decide +kernel
theorem d_OL_written_0 : decode b_OL_written 0 = .ok (.iload_n 1, 1) := by decide +kernel
theorem d_OL_written_1 : decode b_OL_written 1 = .ok (.ifCond .lt 14, 3) := by decide +kernel
theorem d_OL_written_4 : decode b_OL_written 4 = .ok (.iload_n 1, 1) := by decide +kernel
theorem d_OL_written_5 : decode b_OL_written 5 = .ok (.aload_n 0, 1) := by decide +kernel
theorem d_OL_written_6 : decode b_OL_written 6 = .ok (.getfield 25, 3) := by decide +kernel
theorem d_OL_written_9 : decode b_OL_written 9 = .ok (.getfield 195, 3) := by decide +kernel
theorem d_OL_written_12 : decode b_OL_written 12 = .ok (.if_icmp .lt 13, 3) := by decide +kernel
theorem d_OL_written_15 : decode b_OL_written 15 = .ok (.new 169, 3) := by decide +kernel
theorem d_OL_written_18 : decode b_OL_written 18 = .ok (.dup, 1) := by decide +kernel
theorem d_OL_written_19 : decode b_OL_written 19 = .ok (.ldc 196, 2) := by decide +kernel
theorem d_OL_written_21 : decode b_OL_written 21 = .ok (.invokespecial 173, 3) := by decide +kernel
theorem d_OL_written_24 : decode b_OL_written 24 = .ok (.athrow, 1) := by decide +kernel
theorem d_OL_written_25 : decode b_OL_written 25 = .ok (.aload_n 0, 1) := by decide +kernel
theorem d_OL_written_26 : decode b_OL_written 26 = .ok (.getfield 25, 3) := by decide +kernel
theorem d_OL_written_29 : decode b_OL_written 29 = .ok (.getfield 198, 3) := by decide +kernel
theorem d_OL_written_32 : decode b_OL_written 32 = .ok (.iload_n 1, 1) := by decide +kernel
theorem d_OL_written_33 : decode b_OL_written 33 = .ok (.iaload, 1) := by decide +kernel
theorem d_OL_written_34 : decode b_OL_written 34 = .ok (.ireturn, 1) := by decide +kernel
theorem d_OL_alter_0 : decode b_OL_alter 0 = .ok (.iload_n 1, 1) := by decide +kernel
theorem d_OL_alter_1 : decode b_OL_alter 1 = .ok (.ifCond .lt 14, 3) := by decide +kernel
theorem d_OL_alter_4 : decode b_OL_alter 4 = .ok (.iload_n 1, 1) := by decide +kernel
theorem d_OL_alter_5 : decode b_OL_alter 5 = .ok (.aload_n 0, 1) := by decide +kernel
theorem d_OL_alter_6 : decode b_OL_alter 6 = .ok (.getfield 25, 3) := by decide +kernel
theorem d_OL_alter_9 : decode b_OL_alter 9 = .ok (.getfield 195, 3) := by decide +kernel
theorem d_OL_alter_12 : decode b_OL_alter 12 = .ok (.if_icmp .lt 13, 3) := by decide +kernel
theorem d_OL_alter_15 : decode b_OL_alter 15 = .ok (.new 169, 3) := by decide +kernel
theorem d_OL_alter_18 : decode b_OL_alter 18 = .ok (.dup, 1) := by decide +kernel
theorem d_OL_alter_19 : decode b_OL_alter 19 = .ok (.ldc 196, 2) := by decide +kernel
theorem d_OL_alter_21 : decode b_OL_alter 21 = .ok (.invokespecial 173, 3) := by decide +kernel
theorem d_OL_alter_24 : decode b_OL_alter 24 = .ok (.athrow, 1) := by decide +kernel
theorem d_OL_alter_25 : decode b_OL_alter 25 = .ok (.iload_n 2, 1) := by decide +kernel
theorem d_OL_alter_26 : decode b_OL_alter 26 = .ok (.ifCond .lt 10, 3) := by decide +kernel
theorem d_OL_alter_29 : decode b_OL_alter 29 = .ok (.iload_n 2, 1) := by decide +kernel
theorem d_OL_alter_30 : decode b_OL_alter 30 = .ok (.sipush 255, 3) := by decide +kernel
theorem d_OL_alter_33 : decode b_OL_alter 33 = .ok (.if_icmp .le 13, 3) := by decide +kernel
theorem d_OL_alter_36 : decode b_OL_alter 36 = .ok (.new 55, 3) := by decide +kernel
theorem d_OL_alter_39 : decode b_OL_alter 39 = .ok (.dup, 1) := by decide +kernel
theorem d_OL_alter_40 : decode b_OL_alter 40 = .ok (.ldc 201, 2) := by decide +kernel
theorem d_OL_alter_42 : decode b_OL_alter 42 = .ok (.invokespecial 59, 3) := by decide +kernel
theorem d_OL_alter_45 : decode b_OL_alter 45 = .ok (.athrow, 1) := by decide +kernel
theorem d_OL_alter_46 : decode b_OL_alter 46 = .ok (.aload_n 0, 1) := by decide +kernel
theorem d_OL_alter_47 : decode b_OL_alter 47 = .ok (.getfield 25, 3) := by decide +kernel
theorem d_OL_alter_50 : decode b_OL_alter 50 = .ok (.getfield 198, 3) := by decide +kernel
theorem d_OL_alter_53 : decode b_OL_alter 53 = .ok (.iload_n 1, 1) := by decide +kernel
theorem d_OL_alter_54 : decode b_OL_alter 54 = .ok (.iaload, 1) := by decide +kernel
theorem d_OL_alter_55 : decode b_OL_alter 55 = .ok (.istore_n 3, 1) := by decide +kernel
theorem d_OL_alter_56 : decode b_OL_alter 56 = .ok (.aload_n 0, 1) := by decide +kernel
theorem d_OL_alter_57 : decode b_OL_alter 57 = .ok (.getfield 25, 3) := by decide +kernel
theorem d_OL_alter_60 : decode b_OL_alter 60 = .ok (.getfield 198, 3) := by decide +kernel
theorem d_OL_alter_63 : decode b_OL_alter 63 = .ok (.iload_n 1, 1) := by decide +kernel
theorem d_OL_alter_64 : decode b_OL_alter 64 = .ok (.iload_n 2, 1) := by decide +kernel
theorem d_OL_alter_65 : decode b_OL_alter 65 = .ok (.iastore, 1) := by decide +kernel
theorem d_OL_alter_66 : decode b_OL_alter 66 = .ok (.iload_n 3, 1) := by decide +kernel
theorem d_OL_alter_67 : decode b_OL_alter 67 = .ok (.ireturn, 1) := by decide +kernel
theorem d_OL_read_0 : decode b_OL_read 0 = .ok (.iload_n 1, 1) := by decide +kernel
theorem d_OL_read_1 : decode b_OL_read 1 = .ok (.ifCond .lt 14, 3) := by decide +kernel
theorem d_OL_read_4 : decode b_OL_read 4 = .ok (.iload_n 1, 1) := by decide +kernel
theorem d_OL_read_5 : decode b_OL_read 5 = .ok (.aload_n 0, 1) := by decide +kernel
theorem d_OL_read_6 : decode b_OL_read 6 = .ok (.getfield 25, 3) := by decide +kernel
theorem d_OL_read_9 : decode b_OL_read 9 = .ok (.getfield 195, 3) := by decide +kernel
theorem d_OL_read_12 : decode b_OL_read 12 = .ok (.if_icmp .le 13, 3) := by decide +kernel
theorem d_OL_read_15 : decode b_OL_read 15 = .ok (.new 55, 3) := by decide +kernel
theorem d_OL_read_18 : decode b_OL_read 18 = .ok (.dup, 1) := by decide +kernel
theorem d_OL_read_19 : decode b_OL_read 19 = .ok (.ldc 203, 2) := by decide +kernel
theorem d_OL_read_21 : decode b_OL_read 21 = .ok (.invokespecial 59, 3) := by decide +kernel
theorem d_OL_read_24 : decode b_OL_read 24 = .ok (.athrow, 1) := by decide +kernel
theorem d_OL_read_25 : decode b_OL_read 25 = .ok (.new 205, 3) := by decide +kernel
theorem d_OL_read_28 : decode b_OL_read 28 = .ok (.dup, 1) := by decide +kernel
theorem d_OL_read_29 : decode b_OL_read 29 = .ok (.aload_n 0, 1) := by decide +kernel
theorem d_OL_read_30 : decode b_OL_read 30 = .ok (.getfield 25, 3) := by decide +kernel
theorem d_OL_read_33 : decode b_OL_read 33 = .ok (.getfield 198, 3) := by decide +kernel
theorem d_OL_read_36 : decode b_OL_read 36 = .ok (.aload_n 0, 1) := by decide +kernel
theorem d_OL_read_37 : decode b_OL_read 37 = .ok (.getfield 25, 3) := by decide +kernel
theorem d_OL_read_40 : decode b_OL_read 40 = .ok (.getfield 195, 3) := by decide +kernel
theorem d_OL_read_43 : decode b_OL_read 43 = .ok (.iload_n 1, 1) := by decide +kernel
theorem d_OL_read_44 : decode b_OL_read 44 = .ok (.isub, 1) := by decide +kernel
theorem d_OL_read_45 : decode b_OL_read 45 = .ok (.invokespecial 207, 3) := by decide +kernel
theorem d_OL_read_48 : decode b_OL_read 48 = .ok (.invokevirtual 210, 3) := by decide +kernel
theorem d_OL_read_51 : decode b_OL_read 51 = .ok (.astore_n 2, 1) := by decide +kernel
theorem d_OL_read_52 : decode b_OL_read 52 = .ok (.aload_n 2, 1) := by decide +kernel
theorem d_OL_read_53 : decode b_OL_read 53 = .ok (.ifnonnull 13, 3) := by decide +kernel
theorem d_OL_read_56 : decode b_OL_read 56 = .ok (.new 55, 3) := by decide +kernel
theorem d_OL_read_59 : decode b_OL_read 59 = .ok (.dup, 1) := by decide +kernel
theorem d_OL_read_60 : decode b_OL_read 60 = .ok (.ldc 214, 2) := by decide +kernel
theorem d_OL_read_62 : decode b_OL_read 62 = .ok (.invokespecial 59, 3) := by decide +kernel
theorem d_OL_read_65 : decode b_OL_read 65 = .ok (.athrow, 1) := by decide +kernel
theorem d_OL_read_66 : decode b_OL_read 66 = .ok (.aload_n 0, 1) := by decide +kernel
theorem d_OL_read_67 : decode b_OL_read 67 = .ok (.getfield 29, 3) := by decide +kernel
theorem d_OL_read_70 : decode b_OL_read 70 = .ok (.bipush 12, 2) := by decide +kernel
theorem d_OL_read_72 : decode b_OL_read 72 = .ok (.if_icmp .lt 13, 3) := by decide +kernel
theorem d_OL_read_75 : decode b_OL_read 75 = .ok (.new 33, 3) := by decide +kernel
theorem d_OL_read_78 : decode b_OL_read 78 = .ok (.dup, 1) := by decide +kernel
theorem d_OL_read_79 : decode b_OL_read 79 = .ok (.ldc 35, 2) := by decide +kernel
theorem d_OL_read_81 : decode b_OL_read 81 = .ok (.invokespecial 37, 3) := by decide +kernel
theorem d_OL_read_84 : decode b_OL_read 84 = .ok (.athrow, 1) := by decide +kernel
theorem d_OL_read_85 : decode b_OL_read 85 = .ok (.aload_n 0, 1) := by decide +kernel
theorem d_OL_read_86 : decode b_OL_read 86 = .ok (.aload_n 2, 1) := by decide +kernel
theorem d_OL_read_87 : decode b_OL_read 87 = .ok (.invokevirtual 41, 3) := by decide +kernel
theorem d_OL_read_90 : decode b_OL_read 90 = .ok (.ireturn, 1) := by decide +kernel
theorem d_Re_init_0 : decode b_Re_init 0 = .ok (.aload_n 0, 1) := by decide +kernel
theorem d_Re_init_1 : decode b_Re_init 1 = .ok (.invokespecial 3, 3) := by decide +kernel
theorem d_Re_init_4 : decode b_Re_init 4 = .ok (.aload_n 0, 1) := by decide +kernel
theorem d_Re_init_5 : decode b_Re_init 5 = .ok (.aload_n 1, 1) := by decide +kernel
theorem d_Re_init_6 : decode b_Re_init 6 = .ok (.putfield 9, 3) := by decide +kernel
theorem d_Re_init_9 : decode b_Re_init 9 = .ok (.aload_n 0, 1) := by decide +kernel
theorem d_Re_init_10 : decode b_Re_init 10 = .ok (.iload_n 2, 1) := by decide +kernel
theorem d_Re_init_11 : decode b_Re_init 11 = .ok (.putfield 15, 3) := by decide +kernel
theorem d_Re_init_14 : decode b_Re_init 14 = .ok (.return_, 1) := by decide +kernel
theorem d_Re_unitOrNull_0 : decode b_Re_unitOrNull 0 = .ok (.aload_n 0, 1) := by decide +kernel
theorem d_Re_unitOrNull_1 : decode b_Re_unitOrNull 1 = .ok (.getfield 15, 3) := by decide +kernel
theorem d_Re_unitOrNull_4 : decode b_Re_unitOrNull 4 = .ok (.bipush 7, 2) := by decide +kernel
theorem d_Re_unitOrNull_6 : decode b_Re_unitOrNull 6 = .ok (.if_icmp .lt 14, 3) := by decide +kernel
theorem d_Re_unitOrNull_9 : decode b_Re_unitOrNull 9 = .ok (.aload_n 0, 1) := by decide +kernel
theorem d_Re_unitOrNull_10 : decode b_Re_unitOrNull 10 = .ok (.iconst 2, 1) := by decide +kernel
theorem d_Re_unitOrNull_11 : decode b_Re_unitOrNull 11 = .ok (.invokevirtual 19, 3) := by decide +kernel
theorem d_Re_unitOrNull_14 : decode b_Re_unitOrNull 14 = .ok (.sipush 20290, 3) := by decide +kernel
theorem d_Re_unitOrNull_17 : decode b_Re_unitOrNull 17 = .ok (.if_icmp .eq 5, 3) := by decide +kernel
theorem d_Re_unitOrNull_20 : decode b_Re_unitOrNull 20 = .ok (.aconst_null, 1) := by decide +kernel
theorem d_Re_unitOrNull_21 : decode b_Re_unitOrNull 21 = .ok (.areturn, 1) := by decide +kernel
theorem d_Re_unitOrNull_22 : decode b_Re_unitOrNull 22 = .ok (.aload_n 0, 1) := by decide +kernel
theorem d_Re_unitOrNull_23 : decode b_Re_unitOrNull 23 = .ok (.iconst 1, 1) := by decide +kernel
theorem d_Re_unitOrNull_24 : decode b_Re_unitOrNull 24 = .ok (.invokevirtual 19, 3) := by decide +kernel
theorem d_Re_unitOrNull_27 : decode b_Re_unitOrNull 27 = .ok (.istore_n 1, 1) := by decide +kernel
theorem d_Re_unitOrNull_28 : decode b_Re_unitOrNull 28 = .ok (.aload_n 0, 1) := by decide +kernel
theorem d_Re_unitOrNull_29 : decode b_Re_unitOrNull 29 = .ok (.iconst 1, 1) := by decide +kernel
theorem d_Re_unitOrNull_30 : decode b_Re_unitOrNull 30 = .ok (.invokevirtual 19, 3) := by decide +kernel
theorem d_Re_unitOrNull_33 : decode b_Re_unitOrNull 33 = .ok (.istore_n 2, 1) := by decide +kernel
theorem d_Re_unitOrNull_34 : decode b_Re_unitOrNull 34 = .ok (.aload_n 0, 1) := by decide +kernel
theorem d_Re_unitOrNull_35 : decode b_Re_unitOrNull 35 = .ok (.iconst 1, 1) := by decide +kernel
theorem d_Re_unitOrNull_36 : decode b_Re_unitOrNull 36 = .ok (.invokevirtual 19, 3) := by decide +kernel
theorem d_Re_unitOrNull_39 : decode b_Re_unitOrNull 39 = .ok (.istore_n 3, 1) := by decide +kernel
theorem d_Re_unitOrNull_40 : decode b_Re_unitOrNull 40 = .ok (.iload_n 1, 1) := by decide +kernel
theorem d_Re_unitOrNull_41 : decode b_Re_unitOrNull 41 = .ok (.bipush 8, 2) := by decide +kernel
theorem d_Re_unitOrNull_43 : decode b_Re_unitOrNull 43 = .ok (.if_icmp .gt 15, 3) := by decide +kernel
theorem d_Re_unitOrNull_46 : decode b_Re_unitOrNull 46 = .ok (.iload_n 2, 1) := by decide +kernel
theorem d_Re_unitOrNull_47 : decode b_Re_unitOrNull 47 = .ok (.bipush 12, 2) := by decide +kernel
theorem d_Re_unitOrNull_49 : decode b_Re_unitOrNull 49 = .ok (.if_icmp .gt 9, 3) := by decide +kernel
theorem d_Re_unitOrNull_52 : decode b_Re_unitOrNull 52 = .ok (.iload_n 3, 1) := by decide +kernel
theorem d_Re_unitOrNull_53 : decode b_Re_unitOrNull 53 = .ok (.bipush 16, 2) := by decide +kernel
theorem d_Re_unitOrNull_55 : decode b_Re_unitOrNull 55 = .ok (.if_icmp .le 5, 3) := by decide +kernel
theorem d_Re_unitOrNull_58 : decode b_Re_unitOrNull 58 = .ok (.aconst_null, 1) := by decide +kernel
theorem d_Re_unitOrNull_59 : decode b_Re_unitOrNull 59 = .ok (.areturn, 1) := by decide +kernel
theorem d_Re_unitOrNull_60 : decode b_Re_unitOrNull 60 = .ok (.aload_n 0, 1) := by decide +kernel
theorem d_Re_unitOrNull_61 : decode b_Re_unitOrNull 61 = .ok (.invokevirtual 23, 3) := by decide +kernel
theorem d_Re_unitOrNull_64 : decode b_Re_unitOrNull 64 = .ok (.ifCond .ne 5, 3) := by decide +kernel
theorem d_Re_unitOrNull_67 : decode b_Re_unitOrNull 67 = .ok (.aconst_null, 1) := by decide +kernel
theorem d_Re_unitOrNull_68 : decode b_Re_unitOrNull 68 = .ok (.areturn, 1) := by decide +kernel
theorem d_Re_unitOrNull_69 : decode b_Re_unitOrNull 69 = .ok (.new 27, 3) := by decide +kernel
theorem d_Re_unitOrNull_72 : decode b_Re_unitOrNull 72 = .ok (.dup, 1) := by decide +kernel
theorem d_Re_unitOrNull_73 : decode b_Re_unitOrNull 73 = .ok (.invokespecial 29, 3) := by decide +kernel
theorem d_Re_unitOrNull_76 : decode b_Re_unitOrNull 76 = .ok (.astore 4, 2) := by decide +kernel
theorem d_Re_unitOrNull_78 : decode b_Re_unitOrNull 78 = .ok (.aload_n 0, 1) := by decide +kernel
theorem d_Re_unitOrNull_79 : decode b_Re_unitOrNull 79 = .ok (.aload 4, 2) := by decide +kernel
theorem d_Re_unitOrNull_81 : decode b_Re_unitOrNull 81 = .ok (.iload_n 1, 1) := by decide +kernel
theorem d_Re_unitOrNull_82 : decode b_Re_unitOrNull 82 = .ok (.invokevirtual 30, 3) := by decide +kernel
theorem d_Re_unitOrNull_85 : decode b_Re_unitOrNull 85 = .ok (.ifCond .eq 27, 3) := by decide +kernel
theorem d_Re_unitOrNull_88 : decode b_Re_unitOrNull 88 = .ok (.aload_n 0, 1) := by decide +kernel
theorem d_Re_unitOrNull_89 : decode b_Re_unitOrNull 89 = .ok (.aload 4, 2) := by decide +kernel
theorem d_Re_unitOrNull_91 : decode b_Re_unitOrNull 91 = .ok (.iload_n 2, 1) := by decide +kernel
theorem d_Re_unitOrNull_92 : decode b_Re_unitOrNull 92 = .ok (.invokevirtual 34, 3) := by decide +kernel
theorem d_Re_unitOrNull_95 : decode b_Re_unitOrNull 95 = .ok (.ifCond .eq 17, 3) := by decide +kernel
theorem d_Re_unitOrNull_98 : decode b_Re_unitOrNull 98 = .ok (.aload_n 0, 1) := by decide +kernel
theorem d_Re_unitOrNull_99 : decode b_Re_unitOrNull 99 = .ok (.aload 4, 2) := by decide +kernel
theorem d_Re_unitOrNull_101 : decode b_Re_unitOrNull 101 = .ok (.iload_n 3, 1) := by decide +kernel
theorem d_Re_unitOrNull_102 : decode b_Re_unitOrNull 102 = .ok (.invokevirtual 37, 3) := by decide +kernel
theorem d_Re_unitOrNull_105 : decode b_Re_unitOrNull 105 = .ok (.ifCond .eq 7, 3) := by decide +kernel
theorem d_Re_unitOrNull_108 : decode b_Re_unitOrNull 108 = .ok (.iconst 1, 1) := by decide +kernel
theorem d_Re_unitOrNull_109 : decode b_Re_unitOrNull 109 = .ok (.goto 4, 3) := by decide +kernel
theorem d_Re_unitOrNull_112 : decode b_Re_unitOrNull 112 = .ok (.iconst 0, 1) := by decide +kernel
theorem d_Re_unitOrNull_113 : decode b_Re_unitOrNull 113 = .ok (.istore 5, 2) := by decide +kernel
theorem d_Re_unitOrNull_115 : decode b_Re_unitOrNull 115 = .ok (.iload 5, 2) := by decide +kernel
theorem d_Re_unitOrNull_117 : decode b_Re_unitOrNull 117 = .ok (.ifCond .eq 21, 3) := by decide +kernel
theorem d_Re_unitOrNull_120 : decode b_Re_unitOrNull 120 = .ok (.aload_n 0, 1) := by decide +kernel
theorem d_Re_unitOrNull_121 : decode b_Re_unitOrNull 121 = .ok (.getfield 40, 3) := by decide +kernel
theorem d_Re_unitOrNull_124 : decode b_Re_unitOrNull 124 = .ok (.aload_n 0, 1) := by decide +kernel
theorem d_Re_unitOrNull_125 : decode b_Re_unitOrNull 125 = .ok (.getfield 15, 3) := by decide +kernel
theorem d_Re_unitOrNull_128 : decode b_Re_unitOrNull 128 = .ok (.iconst 2, 1) := by decide +kernel
theorem d_Re_unitOrNull_129 : decode b_Re_unitOrNull 129 = .ok (.isub, 1) := by decide +kernel
theorem d_Re_unitOrNull_130 : decode b_Re_unitOrNull 130 = .ok (.if_icmp .ne 8, 3) := by decide +kernel
theorem d_Re_unitOrNull_133 : decode b_Re_unitOrNull 133 = .ok (.aload 4, 2) := by decide +kernel
theorem d_Re_unitOrNull_135 : decode b_Re_unitOrNull 135 = .ok (.goto 4, 3) := by decide +kernel
theorem d_Re_unitOrNull_138 : decode b_Re_unitOrNull 138 = .ok (.aconst_null, 1) := by decide +kernel
theorem d_Re_unitOrNull_139 : decode b_Re_unitOrNull 139 = .ok (.areturn, 1) := by decide +kernel
theorem d_Re_take_0 : decode b_Re_take 0 = .ok (.iload_n 1, 1) := by decide +kernel
theorem d_Re_take_1 : decode b_Re_take 1 = .ok (.aload_n 0, 1) := by decide +kernel
theorem d_Re_take_2 : decode b_Re_take 2 = .ok (.getfield 15, 3) := by decide +kernel
theorem d_Re_take_5 : decode b_Re_take 5 = .ok (.iconst 2, 1) := by decide +kernel
theorem d_Re_take_6 : decode b_Re_take 6 = .ok (.isub, 1) := by decide +kernel
theorem d_Re_take_7 : decode b_Re_take 7 = .ok (.aload_n 0, 1) := by decide +kernel
theorem d_Re_take_8 : decode b_Re_take 8 = .ok (.getfield 40, 3) := by decide +kernel
theorem d_Re_take_11 : decode b_Re_take 11 = .ok (.isub, 1) := by decide +kernel
theorem d_Re_take_12 : decode b_Re_take 12 = .ok (.if_icmp .le 10, 3) := by decide +kernel
theorem d_Re_take_15 : decode b_Re_take 15 = .ok (.aload_n 0, 1) := by decide +kernel
theorem d_Re_take_16 : decode b_Re_take 16 = .ok (.iconst 1, 1) := by decide +kernel
theorem d_Re_take_17 : decode b_Re_take 17 = .ok (.putfield 49, 3) := by decide +kernel
theorem d_Re_take_20 : decode b_Re_take 20 = .ok (.iconst 0, 1) := by decide +kernel
theorem d_Re_take_21 : decode b_Re_take 21 = .ok (.ireturn, 1) := by decide +kernel
theorem d_Re_take_22 : decode b_Re_take 22 = .ok (.iconst 0, 1) := by decide +kernel
theorem d_Re_take_23 : decode b_Re_take 23 = .ok (.istore_n 2, 1) := by decide +kernel
theorem d_Re_take_24 : decode b_Re_take 24 = .ok (.iconst 0, 1) := by decide +kernel
theorem d_Re_take_25 : decode b_Re_take 25 = .ok (.istore_n 3, 1) := by decide +kernel
theorem d_Re_take_26 : decode b_Re_take 26 = .ok (.iload_n 3, 1) := by decide +kernel
theorem d_Re_take_27 : decode b_Re_take 27 = .ok (.iload_n 1, 1) := by decide +kernel
theorem d_Re_take_28 : decode b_Re_take 28 = .ok (.if_icmp .ge 34, 3) := by decide +kernel
theorem d_Re_take_31 : decode b_Re_take 31 = .ok (.iload_n 2, 1) := by decide +kernel
theorem d_Re_take_32 : decode b_Re_take 32 = .ok (.bipush 8, 2) := by decide +kernel
theorem d_Re_take_34 : decode b_Re_take 34 = .ok (.ishl, 1) := by decide +kernel
theorem d_Re_take_35 : decode b_Re_take 35 = .ok (.aload_n 0, 1) := by decide +kernel
theorem d_Re_take_36 : decode b_Re_take 36 = .ok (.getfield 9, 3) := by decide +kernel
theorem d_Re_take_39 : decode b_Re_take 39 = .ok (.aload_n 0, 1) := by decide +kernel
theorem d_Re_take_40 : decode b_Re_take 40 = .ok (.getfield 40, 3) := by decide +kernel
theorem d_Re_take_43 : decode b_Re_take 43 = .ok (.iaload, 1) := by decide +kernel
theorem d_Re_take_44 : decode b_Re_take 44 = .ok (.ior, 1) := by decide +kernel
theorem d_Re_take_45 : decode b_Re_take 45 = .ok (.istore_n 2, 1) := by decide +kernel
theorem d_Re_take_46 : decode b_Re_take 46 = .ok (.aload_n 0, 1) := by decide +kernel
theorem d_Re_take_47 : decode b_Re_take 47 = .ok (.dup, 1) := by decide +kernel
theorem d_Re_take_48 : decode b_Re_take 48 = .ok (.getfield 40, 3) := by decide +kernel
theorem d_Re_take_51 : decode b_Re_take 51 = .ok (.iconst 1, 1) := by decide +kernel
theorem d_Re_take_52 : decode b_Re_take 52 = .ok (.iadd, 1) := by decide +kernel
theorem d_Re_take_53 : decode b_Re_take 53 = .ok (.putfield 40, 3) := by decide +kernel
theorem d_Re_take_56 : decode b_Re_take 56 = .ok (.iinc 3 1, 3) := by decide +kernel
theorem d_Re_take_59 : decode b_Re_take 59 = .ok (.goto (-33), 3) := by decide +kernel
theorem d_Re_take_62 : decode b_Re_take 62 = .ok (.iload_n 2, 1) := by decide +kernel
theorem d_Re_take_63 : decode b_Re_take 63 = .ok (.ireturn, 1) := by decide +kernel
theorem d_Re_sumIsRight_0 : decode b_Re_sumIsRight 0 = .ok (.aload_n 0, 1) := by decide +kernel
theorem d_Re_sumIsRight_1 : decode b_Re_sumIsRight 1 = .ok (.getfield 9, 3) := by decide +kernel
theorem d_Re_sumIsRight_4 : decode b_Re_sumIsRight 4 = .ok (.aload_n 0, 1) := by decide +kernel
theorem d_Re_sumIsRight_5 : decode b_Re_sumIsRight 5 = .ok (.getfield 15, 3) := by decide +kernel
theorem d_Re_sumIsRight_8 : decode b_Re_sumIsRight 8 = .ok (.iconst 2, 1) := by decide +kernel
theorem d_Re_sumIsRight_9 : decode b_Re_sumIsRight 9 = .ok (.isub, 1) := by decide +kernel
theorem d_Re_sumIsRight_10 : decode b_Re_sumIsRight 10 = .ok (.iaload, 1) := by decide +kernel
theorem d_Re_sumIsRight_11 : decode b_Re_sumIsRight 11 = .ok (.sipush 256, 3) := by decide +kernel
theorem d_Re_sumIsRight_14 : decode b_Re_sumIsRight 14 = .ok (.imul, 1) := by decide +kernel
theorem d_Re_sumIsRight_15 : decode b_Re_sumIsRight 15 = .ok (.aload_n 0, 1) := by decide +kernel
theorem d_Re_sumIsRight_16 : decode b_Re_sumIsRight 16 = .ok (.getfield 9, 3) := by decide +kernel
theorem d_Re_sumIsRight_19 : decode b_Re_sumIsRight 19 = .ok (.aload_n 0, 1) := by decide +kernel
theorem d_Re_sumIsRight_20 : decode b_Re_sumIsRight 20 = .ok (.getfield 15, 3) := by decide +kernel
theorem d_Re_sumIsRight_23 : decode b_Re_sumIsRight 23 = .ok (.iconst 1, 1) := by decide +kernel
theorem d_Re_sumIsRight_24 : decode b_Re_sumIsRight 24 = .ok (.isub, 1) := by decide +kernel
theorem d_Re_sumIsRight_25 : decode b_Re_sumIsRight 25 = .ok (.iaload, 1) := by decide +kernel
theorem d_Re_sumIsRight_26 : decode b_Re_sumIsRight 26 = .ok (.iadd, 1) := by decide +kernel
theorem d_Re_sumIsRight_27 : decode b_Re_sumIsRight 27 = .ok (.istore_n 1, 1) := by decide +kernel
theorem d_Re_sumIsRight_28 : decode b_Re_sumIsRight 28 = .ok (.aload_n 0, 1) := by decide +kernel
theorem d_Re_sumIsRight_29 : decode b_Re_sumIsRight 29 = .ok (.getfield 9, 3) := by decide +kernel
theorem d_Re_sumIsRight_32 : decode b_Re_sumIsRight 32 = .ok (.aload_n 0, 1) := by decide +kernel
theorem d_Re_sumIsRight_33 : decode b_Re_sumIsRight 33 = .ok (.getfield 15, 3) := by decide +kernel
theorem d_Re_sumIsRight_36 : decode b_Re_sumIsRight 36 = .ok (.iconst 2, 1) := by decide +kernel
theorem d_Re_sumIsRight_37 : decode b_Re_sumIsRight 37 = .ok (.isub, 1) := by decide +kernel
theorem d_Re_sumIsRight_38 : decode b_Re_sumIsRight 38 = .ok (.invokestatic 43, 3) := by decide +kernel
theorem d_Re_sumIsRight_41 : decode b_Re_sumIsRight 41 = .ok (.iload_n 1, 1) := by decide +kernel
theorem d_Re_sumIsRight_42 : decode b_Re_sumIsRight 42 = .ok (.if_icmp .ne 7, 3) := by decide +kernel
theorem d_Re_sumIsRight_45 : decode b_Re_sumIsRight 45 = .ok (.iconst 1, 1) := by decide +kernel
theorem d_Re_sumIsRight_46 : decode b_Re_sumIsRight 46 = .ok (.goto 4, 3) := by decide +kernel
theorem d_Re_sumIsRight_49 : decode b_Re_sumIsRight 49 = .ok (.iconst 0, 1) := by decide +kernel
theorem d_Re_sumIsRight_50 : decode b_Re_sumIsRight 50 = .ok (.ireturn, 1) := by decide +kernel
theorem d_Re_takeSections_0 : decode b_Re_takeSections 0 = .ok (.iconst 0, 1) := by decide +kernel
theorem d_Re_takeSections_1 : decode b_Re_takeSections 1 = .ok (.istore_n 3, 1) := by decide +kernel
theorem d_Re_takeSections_2 : decode b_Re_takeSections 2 = .ok (.iload_n 3, 1) := by decide +kernel
theorem d_Re_takeSections_3 : decode b_Re_takeSections 3 = .ok (.iload_n 2, 1) := by decide +kernel
theorem d_Re_takeSections_4 : decode b_Re_takeSections 4 = .ok (.if_icmp .ge 106, 3) := by decide +kernel
theorem d_Re_takeSections_7 : decode b_Re_takeSections 7 = .ok (.aload_n 0, 1) := by decide +kernel
theorem d_Re_takeSections_8 : decode b_Re_takeSections 8 = .ok (.iconst 1, 1) := by decide +kernel
theorem d_Re_takeSections_9 : decode b_Re_takeSections 9 = .ok (.invokevirtual 19, 3) := by decide +kernel
theorem d_Re_takeSections_12 : decode b_Re_takeSections 12 = .ok (.istore 4, 2) := by decide +kernel
theorem d_Re_takeSections_14 : decode b_Re_takeSections 14 = .ok (.aload_n 0, 1) := by decide +kernel
theorem d_Re_takeSections_15 : decode b_Re_takeSections 15 = .ok (.iconst 1, 1) := by decide +kernel
theorem d_Re_takeSections_16 : decode b_Re_takeSections 16 = .ok (.invokevirtual 19, 3) := by decide +kernel
theorem d_Re_takeSections_19 : decode b_Re_takeSections 19 = .ok (.istore 5, 2) := by decide +kernel
theorem d_Re_takeSections_21 : decode b_Re_takeSections 21 = .ok (.aload_n 0, 1) := by decide +kernel
theorem d_Re_takeSections_22 : decode b_Re_takeSections 22 = .ok (.iconst 2, 1) := by decide +kernel
theorem d_Re_takeSections_23 : decode b_Re_takeSections 23 = .ok (.invokevirtual 19, 3) := by decide +kernel
theorem d_Re_takeSections_26 : decode b_Re_takeSections 26 = .ok (.istore 6, 2) := by decide +kernel
theorem d_Re_takeSections_28 : decode b_Re_takeSections 28 = .ok (.aload_n 0, 1) := by decide +kernel
theorem d_Re_takeSections_29 : decode b_Re_takeSections 29 = .ok (.getfield 49, 3) := by decide +kernel
theorem d_Re_takeSections_32 : decode b_Re_takeSections 32 = .ok (.ifCond .ne 15, 3) := by decide +kernel
theorem d_Re_takeSections_35 : decode b_Re_takeSections 35 = .ok (.iload 4, 2) := by decide +kernel
theorem d_Re_takeSections_37 : decode b_Re_takeSections 37 = .ok (.iload 5, 2) := by decide +kernel
theorem d_Re_takeSections_39 : decode b_Re_takeSections 39 = .ok (.iload 6, 2) := by decide +kernel
theorem d_Re_takeSections_41 : decode b_Re_takeSections 41 = .ok (.invokestatic 53, 3) := by decide +kernel
theorem d_Re_takeSections_44 : decode b_Re_takeSections 44 = .ok (.ifCond .ne 5, 3) := by decide +kernel
theorem d_Re_takeSections_47 : decode b_Re_takeSections 47 = .ok (.iconst 0, 1) := by decide +kernel
theorem d_Re_takeSections_48 : decode b_Re_takeSections 48 = .ok (.ireturn, 1) := by decide +kernel
theorem d_Re_takeSections_49 : decode b_Re_takeSections 49 = .ok (.new 54, 3) := by decide +kernel
theorem d_Re_takeSections_52 : decode b_Re_takeSections 52 = .ok (.dup, 1) := by decide +kernel
theorem d_Re_takeSections_53 : decode b_Re_takeSections 53 = .ok (.iload 4, 2) := by decide +kernel
theorem d_Re_takeSections_55 : decode b_Re_takeSections 55 = .ok (.iload 5, 2) := by decide +kernel
theorem d_Re_takeSections_57 : decode b_Re_takeSections 57 = .ok (.iload 6, 2) := by decide +kernel
theorem d_Re_takeSections_59 : decode b_Re_takeSections 59 = .ok (.invokespecial 59, 3) := by decide +kernel
theorem d_Re_takeSections_62 : decode b_Re_takeSections 62 = .ok (.astore 7, 2) := by decide +kernel
theorem d_Re_takeSections_64 : decode b_Re_takeSections 64 = .ok (.iconst 0, 1) := by decide +kernel
theorem d_Re_takeSections_65 : decode b_Re_takeSections 65 = .ok (.istore 8, 2) := by decide +kernel
theorem d_Re_takeSections_67 : decode b_Re_takeSections 67 = .ok (.iload 8, 2) := by decide +kernel
theorem d_Re_takeSections_69 : decode b_Re_takeSections 69 = .ok (.aload 7, 2) := by decide +kernel
theorem d_Re_takeSections_71 : decode b_Re_takeSections 71 = .ok (.getfield 62, 3) := by decide +kernel
theorem d_Re_takeSections_74 : decode b_Re_takeSections 74 = .ok (.arraylength, 1) := by decide +kernel
theorem d_Re_takeSections_75 : decode b_Re_takeSections 75 = .ok (.if_icmp .ge 22, 3) := by decide +kernel
theorem d_Re_takeSections_78 : decode b_Re_takeSections 78 = .ok (.aload 7, 2) := by decide +kernel
theorem d_Re_takeSections_80 : decode b_Re_takeSections 80 = .ok (.getfield 62, 3) := by decide +kernel
theorem d_Re_takeSections_83 : decode b_Re_takeSections 83 = .ok (.iload 8, 2) := by decide +kernel
theorem d_Re_takeSections_85 : decode b_Re_takeSections 85 = .ok (.aload_n 0, 1) := by decide +kernel
theorem d_Re_takeSections_86 : decode b_Re_takeSections 86 = .ok (.iconst 1, 1) := by decide +kernel
theorem d_Re_takeSections_87 : decode b_Re_takeSections 87 = .ok (.invokevirtual 19, 3) := by decide +kernel
theorem d_Re_takeSections_90 : decode b_Re_takeSections 90 = .ok (.iastore, 1) := by decide +kernel
theorem d_Re_takeSections_91 : decode b_Re_takeSections 91 = .ok (.iinc 8 1, 3) := by decide +kernel
theorem d_Re_takeSections_94 : decode b_Re_takeSections 94 = .ok (.goto (-27), 3) := by decide +kernel
theorem d_Re_takeSections_97 : decode b_Re_takeSections 97 = .ok (.aload_n 1, 1) := by decide +kernel
theorem d_Re_takeSections_98 : decode b_Re_takeSections 98 = .ok (.aload 7, 2) := by decide +kernel
theorem d_Re_takeSections_100 : decode b_Re_takeSections 100 = .ok (.invokevirtual 65, 3) := by decide +kernel
theorem d_Re_takeSections_103 : decode b_Re_takeSections 103 = .ok (.pop, 1) := by decide +kernel
theorem d_Re_takeSections_104 : decode b_Re_takeSections 104 = .ok (.iinc 3 1, 3) := by decide +kernel
theorem d_Re_takeSections_107 : decode b_Re_takeSections 107 = .ok (.goto (-105), 3) := by decide +kernel
theorem d_Re_takeSections_110 : decode b_Re_takeSections 110 = .ok (.aload_n 0, 1) := by decide +kernel
theorem d_Re_takeSections_111 : decode b_Re_takeSections 111 = .ok (.getfield 49, 3) := by decide +kernel
theorem d_Re_takeSections_114 : decode b_Re_takeSections 114 = .ok (.ifCond .ne 7, 3) := by decide +kernel
theorem d_Re_takeSections_117 : decode b_Re_takeSections 117 = .ok (.iconst 1, 1) := by decide +kernel
theorem d_Re_takeSections_118 : decode b_Re_takeSections 118 = .ok (.goto 4, 3) := by decide +kernel
theorem d_Re_takeSections_121 : decode b_Re_takeSections 121 = .ok (.iconst 0, 1) := by decide +kernel
theorem d_Re_takeSections_122 : decode b_Re_takeSections 122 = .ok (.ireturn, 1) := by decide +kernel
theorem d_Re_takeNames_0 : decode b_Re_takeNames 0 = .ok (.iconst 0, 1) := by decide +kernel
theorem d_Re_takeNames_1 : decode b_Re_takeNames 1 = .ok (.istore_n 3, 1) := by decide +kernel
theorem d_Re_takeNames_2 : decode b_Re_takeNames 2 = .ok (.iload_n 3, 1) := by decide +kernel
theorem d_Re_takeNames_3 : decode b_Re_takeNames 3 = .ok (.iload_n 2, 1) := by decide +kernel
theorem d_Re_takeNames_4 : decode b_Re_takeNames 4 = .ok (.if_icmp .ge 81, 3) := by decide +kernel
theorem d_Re_takeNames_7 : decode b_Re_takeNames 7 = .ok (.aload_n 0, 1) := by decide +kernel
theorem d_Re_takeNames_8 : decode b_Re_takeNames 8 = .ok (.iconst 4, 1) := by decide +kernel
theorem d_Re_takeNames_9 : decode b_Re_takeNames 9 = .ok (.invokevirtual 19, 3) := by decide +kernel
theorem d_Re_takeNames_12 : decode b_Re_takeNames 12 = .ok (.istore 4, 2) := by decide +kernel
theorem d_Re_takeNames_14 : decode b_Re_takeNames 14 = .ok (.aload_n 0, 1) := by decide +kernel
theorem d_Re_takeNames_15 : decode b_Re_takeNames 15 = .ok (.iconst 1, 1) := by decide +kernel
theorem d_Re_takeNames_16 : decode b_Re_takeNames 16 = .ok (.invokevirtual 19, 3) := by decide +kernel
theorem d_Re_takeNames_19 : decode b_Re_takeNames 19 = .ok (.istore 5, 2) := by decide +kernel
theorem d_Re_takeNames_21 : decode b_Re_takeNames 21 = .ok (.aload_n 0, 1) := by decide +kernel
theorem d_Re_takeNames_22 : decode b_Re_takeNames 22 = .ok (.iconst 1, 1) := by decide +kernel
theorem d_Re_takeNames_23 : decode b_Re_takeNames 23 = .ok (.invokevirtual 19, 3) := by decide +kernel
theorem d_Re_takeNames_26 : decode b_Re_takeNames 26 = .ok (.istore 6, 2) := by decide +kernel
theorem d_Re_takeNames_28 : decode b_Re_takeNames 28 = .ok (.aload_n 0, 1) := by decide +kernel
theorem d_Re_takeNames_29 : decode b_Re_takeNames 29 = .ok (.iconst 2, 1) := by decide +kernel
theorem d_Re_takeNames_30 : decode b_Re_takeNames 30 = .ok (.invokevirtual 19, 3) := by decide +kernel
theorem d_Re_takeNames_33 : decode b_Re_takeNames 33 = .ok (.istore 7, 2) := by decide +kernel
theorem d_Re_takeNames_35 : decode b_Re_takeNames 35 = .ok (.aload_n 0, 1) := by decide +kernel
theorem d_Re_takeNames_36 : decode b_Re_takeNames 36 = .ok (.getfield 49, 3) := by decide +kernel
theorem d_Re_takeNames_39 : decode b_Re_takeNames 39 = .ok (.ifCond .ne 18, 3) := by decide +kernel
theorem d_Re_takeNames_42 : decode b_Re_takeNames 42 = .ok (.aload_n 1, 1) := by decide +kernel
theorem d_Re_takeNames_43 : decode b_Re_takeNames 43 = .ok (.iload 4, 2) := by decide +kernel
theorem d_Re_takeNames_45 : decode b_Re_takeNames 45 = .ok (.iload 5, 2) := by decide +kernel
theorem d_Re_takeNames_47 : decode b_Re_takeNames 47 = .ok (.iload 6, 2) := by decide +kernel
theorem d_Re_takeNames_49 : decode b_Re_takeNames 49 = .ok (.iload 7, 2) := by decide +kernel
theorem d_Re_takeNames_51 : decode b_Re_takeNames 51 = .ok (.invokevirtual 69, 3) := by decide +kernel
theorem d_Re_takeNames_54 : decode b_Re_takeNames 54 = .ok (.ifCond .ne 5, 3) := by decide +kernel
theorem d_Re_takeNames_57 : decode b_Re_takeNames 57 = .ok (.iconst 0, 1) := by decide +kernel
theorem d_Re_takeNames_58 : decode b_Re_takeNames 58 = .ok (.ireturn, 1) := by decide +kernel
theorem d_Re_takeNames_59 : decode b_Re_takeNames 59 = .ok (.aload_n 1, 1) := by decide +kernel
theorem d_Re_takeNames_60 : decode b_Re_takeNames 60 = .ok (.new 73, 3) := by decide +kernel
theorem d_Re_takeNames_63 : decode b_Re_takeNames 63 = .ok (.dup, 1) := by decide +kernel
theorem d_Re_takeNames_64 : decode b_Re_takeNames 64 = .ok (.iload 4, 2) := by decide +kernel
theorem d_Re_takeNames_66 : decode b_Re_takeNames 66 = .ok (.iload 5, 2) := by decide +kernel
theorem d_Re_takeNames_68 : decode b_Re_takeNames 68 = .ok (.iload 6, 2) := by decide +kernel
theorem d_Re_takeNames_70 : decode b_Re_takeNames 70 = .ok (.iload 7, 2) := by decide +kernel
theorem d_Re_takeNames_72 : decode b_Re_takeNames 72 = .ok (.invokespecial 75, 3) := by decide +kernel
theorem d_Re_takeNames_75 : decode b_Re_takeNames 75 = .ok (.invokevirtual 78, 3) := by decide +kernel
theorem d_Re_takeNames_78 : decode b_Re_takeNames 78 = .ok (.pop, 1) := by decide +kernel
theorem d_Re_takeNames_79 : decode b_Re_takeNames 79 = .ok (.iinc 3 1, 3) := by decide +kernel
theorem d_Re_takeNames_82 : decode b_Re_takeNames 82 = .ok (.goto (-80), 3) := by decide +kernel
theorem d_Re_takeNames_85 : decode b_Re_takeNames 85 = .ok (.iconst 1, 1) := by decide +kernel
theorem d_Re_takeNames_86 : decode b_Re_takeNames 86 = .ok (.ireturn, 1) := by decide +kernel
theorem d_Re_takeReferences_0 : decode b_Re_takeReferences 0 = .ok (.iconst 0, 1) := by decide +kernel
theorem d_Re_takeReferences_1 : decode b_Re_takeReferences 1 = .ok (.istore_n 3, 1) := by decide +kernel
theorem d_Re_takeReferences_2 : decode b_Re_takeReferences 2 = .ok (.iload_n 3, 1) := by decide +kernel
theorem d_Re_takeReferences_3 : decode b_Re_takeReferences 3 = .ok (.iload_n 2, 1) := by decide +kernel
theorem d_Re_takeReferences_4 : decode b_Re_takeReferences 4 = .ok (.if_icmp .ge 90, 3) := by decide +kernel
theorem d_Re_takeReferences_7 : decode b_Re_takeReferences 7 = .ok (.aload_n 0, 1) := by decide +kernel
theorem d_Re_takeReferences_8 : decode b_Re_takeReferences 8 = .ok (.iconst 1, 1) := by decide +kernel
theorem d_Re_takeReferences_9 : decode b_Re_takeReferences 9 = .ok (.invokevirtual 19, 3) := by decide +kernel
theorem d_Re_takeReferences_12 : decode b_Re_takeReferences 12 = .ok (.istore 4, 2) := by decide +kernel
theorem d_Re_takeReferences_14 : decode b_Re_takeReferences 14 = .ok (.aload_n 0, 1) := by decide +kernel
theorem d_Re_takeReferences_15 : decode b_Re_takeReferences 15 = .ok (.iconst 2, 1) := by decide +kernel
theorem d_Re_takeReferences_16 : decode b_Re_takeReferences 16 = .ok (.invokevirtual 19, 3) := by decide +kernel
theorem d_Re_takeReferences_19 : decode b_Re_takeReferences 19 = .ok (.istore 5, 2) := by decide +kernel
theorem d_Re_takeReferences_21 : decode b_Re_takeReferences 21 = .ok (.aload_n 0, 1) := by decide +kernel
theorem d_Re_takeReferences_22 : decode b_Re_takeReferences 22 = .ok (.iconst 1, 1) := by decide +kernel
theorem d_Re_takeReferences_23 : decode b_Re_takeReferences 23 = .ok (.invokevirtual 19, 3) := by decide +kernel
theorem d_Re_takeReferences_26 : decode b_Re_takeReferences 26 = .ok (.istore 6, 2) := by decide +kernel
theorem d_Re_takeReferences_28 : decode b_Re_takeReferences 28 = .ok (.aload_n 0, 1) := by decide +kernel
theorem d_Re_takeReferences_29 : decode b_Re_takeReferences 29 = .ok (.iconst 1, 1) := by decide +kernel
theorem d_Re_takeReferences_30 : decode b_Re_takeReferences 30 = .ok (.invokevirtual 19, 3) := by decide +kernel
theorem d_Re_takeReferences_33 : decode b_Re_takeReferences 33 = .ok (.istore 7, 2) := by decide +kernel
theorem d_Re_takeReferences_35 : decode b_Re_takeReferences 35 = .ok (.aload_n 0, 1) := by decide +kernel
theorem d_Re_takeReferences_36 : decode b_Re_takeReferences 36 = .ok (.iconst 4, 1) := by decide +kernel
theorem d_Re_takeReferences_37 : decode b_Re_takeReferences 37 = .ok (.invokevirtual 19, 3) := by decide +kernel
theorem d_Re_takeReferences_40 : decode b_Re_takeReferences 40 = .ok (.istore 8, 2) := by decide +kernel
theorem d_Re_takeReferences_42 : decode b_Re_takeReferences 42 = .ok (.aload_n 0, 1) := by decide +kernel
theorem d_Re_takeReferences_43 : decode b_Re_takeReferences 43 = .ok (.getfield 49, 3) := by decide +kernel
theorem d_Re_takeReferences_46 : decode b_Re_takeReferences 46 = .ok (.ifCond .ne 18, 3) := by decide +kernel
theorem d_Re_takeReferences_49 : decode b_Re_takeReferences 49 = .ok (.aload_n 1, 1) := by decide +kernel
theorem d_Re_takeReferences_50 : decode b_Re_takeReferences 50 = .ok (.iload 4, 2) := by decide +kernel
theorem d_Re_takeReferences_52 : decode b_Re_takeReferences 52 = .ok (.iload 5, 2) := by decide +kernel
theorem d_Re_takeReferences_54 : decode b_Re_takeReferences 54 = .ok (.iload 6, 2) := by decide +kernel
theorem d_Re_takeReferences_56 : decode b_Re_takeReferences 56 = .ok (.iload 7, 2) := by decide +kernel
theorem d_Re_takeReferences_58 : decode b_Re_takeReferences 58 = .ok (.invokevirtual 82, 3) := by decide +kernel
theorem d_Re_takeReferences_61 : decode b_Re_takeReferences 61 = .ok (.ifCond .ne 5, 3) := by decide +kernel
theorem d_Re_takeReferences_64 : decode b_Re_takeReferences 64 = .ok (.iconst 0, 1) := by decide +kernel
theorem d_Re_takeReferences_65 : decode b_Re_takeReferences 65 = .ok (.ireturn, 1) := by decide +kernel
theorem d_Re_takeReferences_66 : decode b_Re_takeReferences 66 = .ok (.aload_n 1, 1) := by decide +kernel
theorem d_Re_takeReferences_67 : decode b_Re_takeReferences 67 = .ok (.new 85, 3) := by decide +kernel
theorem d_Re_takeReferences_70 : decode b_Re_takeReferences 70 = .ok (.dup, 1) := by decide +kernel
theorem d_Re_takeReferences_71 : decode b_Re_takeReferences 71 = .ok (.iload 4, 2) := by decide +kernel
theorem d_Re_takeReferences_73 : decode b_Re_takeReferences 73 = .ok (.iload 5, 2) := by decide +kernel
theorem d_Re_takeReferences_75 : decode b_Re_takeReferences 75 = .ok (.iload 6, 2) := by decide +kernel
theorem d_Re_takeReferences_77 : decode b_Re_takeReferences 77 = .ok (.iload 7, 2) := by decide +kernel
theorem d_Re_takeReferences_79 : decode b_Re_takeReferences 79 = .ok (.iload 8, 2) := by decide +kernel
theorem d_Re_takeReferences_81 : decode b_Re_takeReferences 81 = .ok (.invokespecial 87, 3) := by decide +kernel
theorem d_Re_takeReferences_84 : decode b_Re_takeReferences 84 = .ok (.invokevirtual 90, 3) := by decide +kernel
theorem d_Re_takeReferences_87 : decode b_Re_takeReferences 87 = .ok (.pop, 1) := by decide +kernel
theorem d_Re_takeReferences_88 : decode b_Re_takeReferences 88 = .ok (.iinc 3 1, 3) := by decide +kernel
theorem d_Re_takeReferences_91 : decode b_Re_takeReferences 91 = .ok (.goto (-89), 3) := by decide +kernel
theorem d_Re_takeReferences_94 : decode b_Re_takeReferences 94 = .ok (.iconst 1, 1) := by decide +kernel
theorem d_Re_takeReferences_95 : decode b_Re_takeReferences 95 = .ok (.ireturn, 1) := by decide +kernel
