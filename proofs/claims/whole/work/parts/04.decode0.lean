theorem dX1_init_0 : decode cX1_init 0 = .ok (.aload_n 0, 1) := by decide +kernel
theorem dX1_init_1 : decode cX1_init 1 = .ok (.invokespecial 3, 3) := by decide +kernel
theorem dX1_init_4 : decode cX1_init 4 = .ok (.aload_n 0, 1) := by decide +kernel
theorem dX1_init_5 : decode cX1_init 5 = .ok (.bipush 8, 2) := by decide +kernel
theorem dX1_init_7 : decode cX1_init 7 = .ok (.newarray .long, 2) := by decide +kernel
theorem dX1_init_9 : decode cX1_init 9 = .ok (.putfield 9, 3) := by decide +kernel
theorem dX1_init_12 : decode cX1_init 12 = .ok (.aload_n 0, 1) := by decide +kernel
theorem dX1_init_13 : decode cX1_init 13 = .ok (.bipush 20, 2) := by decide +kernel
theorem dX1_init_15 : decode cX1_init 15 = .ok (.anewarray 15, 3) := by decide +kernel
theorem dX1_init_18 : decode cX1_init 18 = .ok (.putfield 17, 3) := by decide +kernel
theorem dX1_init_21 : decode cX1_init 21 = .ok (.return_, 1) := by decide +kernel
theorem dX1_classOf_0 : decode cX1_classOf 0 = .ok (.iload_n 1, 1) := by decide +kernel
theorem dX1_classOf_1 : decode cX1_classOf 1 = .ok (.iconst 1, 1) := by decide +kernel
theorem dX1_classOf_2 : decode cX1_classOf 2 = .ok (.if_icmp .lt 23, 3) := by decide +kernel
theorem dX1_classOf_5 : decode cX1_classOf 5 = .ok (.iload_n 1, 1) := by decide +kernel
theorem dX1_classOf_6 : decode cX1_classOf 6 = .ok (.aload_n 0, 1) := by decide +kernel
theorem dX1_classOf_7 : decode cX1_classOf 7 = .ok (.getfield 17, 3) := by decide +kernel
theorem dX1_classOf_10 : decode cX1_classOf 10 = .ok (.arraylength, 1) := by decide +kernel
theorem dX1_classOf_11 : decode cX1_classOf 11 = .ok (.if_icmp .gt 14, 3) := by decide +kernel
theorem dX1_classOf_14 : decode cX1_classOf 14 = .ok (.aload_n 0, 1) := by decide +kernel
theorem dX1_classOf_15 : decode cX1_classOf 15 = .ok (.getfield 17, 3) := by decide +kernel
theorem dX1_classOf_18 : decode cX1_classOf 18 = .ok (.iload_n 1, 1) := by decide +kernel
theorem dX1_classOf_19 : decode cX1_classOf 19 = .ok (.iconst 1, 1) := by decide +kernel
theorem dX1_classOf_20 : decode cX1_classOf 20 = .ok (.isub, 1) := by decide +kernel
theorem dX1_classOf_21 : decode cX1_classOf 21 = .ok (.aaload, 1) := by decide +kernel
theorem dX1_classOf_22 : decode cX1_classOf 22 = .ok (.goto 4, 3) := by decide +kernel
theorem dX1_classOf_25 : decode cX1_classOf 25 = .ok (.aconst_null, 1) := by decide +kernel
theorem dX1_classOf_26 : decode cX1_classOf 26 = .ok (.areturn, 1) := by decide +kernel
theorem dX1_load_0 : decode cX1_load 0 = .ok (.iload_n 1, 1) := by decide +kernel
theorem dX1_load_1 : decode cX1_load 1 = .ok (.iconst 1, 1) := by decide +kernel
theorem dX1_load_2 : decode cX1_load 2 = .ok (.if_icmp .lt 21, 3) := by decide +kernel
theorem dX1_load_5 : decode cX1_load 5 = .ok (.iload_n 1, 1) := by decide +kernel
theorem dX1_load_6 : decode cX1_load 6 = .ok (.aload_n 0, 1) := by decide +kernel
theorem dX1_load_7 : decode cX1_load 7 = .ok (.getfield 17, 3) := by decide +kernel
theorem dX1_load_10 : decode cX1_load 10 = .ok (.arraylength, 1) := by decide +kernel
theorem dX1_load_11 : decode cX1_load 11 = .ok (.if_icmp .gt 12, 3) := by decide +kernel
theorem dX1_load_14 : decode cX1_load 14 = .ok (.aload_n 0, 1) := by decide +kernel
theorem dX1_load_15 : decode cX1_load 15 = .ok (.getfield 17, 3) := by decide +kernel
theorem dX1_load_18 : decode cX1_load 18 = .ok (.iload_n 1, 1) := by decide +kernel
theorem dX1_load_19 : decode cX1_load 19 = .ok (.iconst 1, 1) := by decide +kernel
theorem dX1_load_20 : decode cX1_load 20 = .ok (.isub, 1) := by decide +kernel
theorem dX1_load_21 : decode cX1_load 21 = .ok (.aload_n 2, 1) := by decide +kernel
theorem dX1_load_22 : decode cX1_load 22 = .ok (.aastore, 1) := by decide +kernel
theorem dX1_load_23 : decode cX1_load 23 = .ok (.return_, 1) := by decide +kernel
theorem dX2_init_0 : decode cX2_init 0 = .ok (.aload_n 0, 1) := by decide +kernel
theorem dX2_init_1 : decode cX2_init 1 = .ok (.invokespecial 1, 3) := by decide +kernel
theorem dX2_init_4 : decode cX2_init 4 = .ok (.aload_n 0, 1) := by decide +kernel
theorem dX2_init_5 : decode cX2_init 5 = .ok (.iload_n 1, 1) := by decide +kernel
theorem dX2_init_6 : decode cX2_init 6 = .ok (.putfield 7, 3) := by decide +kernel
theorem dX2_init_9 : decode cX2_init 9 = .ok (.aload_n 0, 1) := by decide +kernel
theorem dX2_init_10 : decode cX2_init 10 = .ok (.aload_n 2, 1) := by decide +kernel
theorem dX2_init_11 : decode cX2_init 11 = .ok (.putfield 13, 3) := by decide +kernel
theorem dX2_init_14 : decode cX2_init 14 = .ok (.aload_n 0, 1) := by decide +kernel
theorem dX2_init_15 : decode cX2_init 15 = .ok (.aload_n 3, 1) := by decide +kernel
theorem dX2_init_16 : decode cX2_init 16 = .ok (.putfield 17, 3) := by decide +kernel
theorem dX2_init_19 : decode cX2_init 19 = .ok (.aload_n 0, 1) := by decide +kernel
theorem dX2_init_20 : decode cX2_init 20 = .ok (.aload 4, 2) := by decide +kernel
theorem dX2_init_22 : decode cX2_init 22 = .ok (.putfield 20, 3) := by decide +kernel
theorem dX2_init_25 : decode cX2_init 25 = .ok (.return_, 1) := by decide +kernel
theorem dX4_init_0 : decode cX4_init 0 = .ok (.aload_n 0, 1) := by decide +kernel
theorem dX4_init_1 : decode cX4_init 1 = .ok (.invokespecial 3, 3) := by decide +kernel
theorem dX4_init_4 : decode cX4_init 4 = .ok (.aload_n 0, 1) := by decide +kernel
theorem dX4_init_5 : decode cX4_init 5 = .ok (.bipush 8, 2) := by decide +kernel
theorem dX4_init_7 : decode cX4_init 7 = .ok (.newarray .long, 2) := by decide +kernel
theorem dX4_init_9 : decode cX4_init 9 = .ok (.putfield 9, 3) := by decide +kernel
theorem dX4_init_12 : decode cX4_init 12 = .ok (.aload_n 0, 1) := by decide +kernel
theorem dX4_init_13 : decode cX4_init 13 = .ok (.iconst (-1), 1) := by decide +kernel
theorem dX4_init_14 : decode cX4_init 14 = .ok (.putfield 15, 3) := by decide +kernel
theorem dX4_init_17 : decode cX4_init 17 = .ok (.aload_n 0, 1) := by decide +kernel
theorem dX4_init_18 : decode cX4_init 18 = .ok (.iload_n 1, 1) := by decide +kernel
theorem dX4_init_19 : decode cX4_init 19 = .ok (.putfield 19, 3) := by decide +kernel
theorem dX4_init_22 : decode cX4_init 22 = .ok (.return_, 1) := by decide +kernel
theorem dX4_becomeAnew_0 : decode cX4_becomeAnew 0 = .ok (.iconst 0, 1) := by decide +kernel
theorem dX4_becomeAnew_1 : decode cX4_becomeAnew 1 = .ok (.istore_n 3, 1) := by decide +kernel
theorem dX4_becomeAnew_2 : decode cX4_becomeAnew 2 = .ok (.iload_n 3, 1) := by decide +kernel
theorem dX4_becomeAnew_3 : decode cX4_becomeAnew 3 = .ok (.aload_n 0, 1) := by decide +kernel
theorem dX4_becomeAnew_4 : decode cX4_becomeAnew 4 = .ok (.getfield 9, 3) := by decide +kernel
theorem dX4_becomeAnew_7 : decode cX4_becomeAnew 7 = .ok (.arraylength, 1) := by decide +kernel
theorem dX4_becomeAnew_8 : decode cX4_becomeAnew 8 = .ok (.if_icmp .ge 30, 3) := by decide +kernel
theorem dX4_becomeAnew_11 : decode cX4_becomeAnew 11 = .ok (.aload_n 0, 1) := by decide +kernel
theorem dX4_becomeAnew_12 : decode cX4_becomeAnew 12 = .ok (.getfield 9, 3) := by decide +kernel
theorem dX4_becomeAnew_15 : decode cX4_becomeAnew 15 = .ok (.iload_n 3, 1) := by decide +kernel
theorem dX4_becomeAnew_16 : decode cX4_becomeAnew 16 = .ok (.iload_n 3, 1) := by decide +kernel
theorem dX4_becomeAnew_17 : decode cX4_becomeAnew 17 = .ok (.iload_n 2, 1) := by decide +kernel
theorem dX4_becomeAnew_18 : decode cX4_becomeAnew 18 = .ok (.if_icmp .ge 12, 3) := by decide +kernel
theorem dX4_becomeAnew_21 : decode cX4_becomeAnew 21 = .ok (.aload_n 0, 1) := by decide +kernel
theorem dX4_becomeAnew_22 : decode cX4_becomeAnew 22 = .ok (.getfield 9, 3) := by decide +kernel
theorem dX4_becomeAnew_25 : decode cX4_becomeAnew 25 = .ok (.iload_n 3, 1) := by decide +kernel
theorem dX4_becomeAnew_26 : decode cX4_becomeAnew 26 = .ok (.laload, 1) := by decide +kernel
theorem dX4_becomeAnew_27 : decode cX4_becomeAnew 27 = .ok (.goto 4, 3) := by decide +kernel
theorem dX4_becomeAnew_30 : decode cX4_becomeAnew 30 = .ok (.lconst 0, 1) := by decide +kernel
theorem dX4_becomeAnew_31 : decode cX4_becomeAnew 31 = .ok (.lastore, 1) := by decide +kernel
theorem dX4_becomeAnew_32 : decode cX4_becomeAnew 32 = .ok (.iinc 3 1, 3) := by decide +kernel
theorem dX4_becomeAnew_35 : decode cX4_becomeAnew 35 = .ok (.goto (-33), 3) := by decide +kernel
theorem dX4_becomeAnew_38 : decode cX4_becomeAnew 38 = .ok (.aload_n 0, 1) := by decide +kernel
theorem dX4_becomeAnew_39 : decode cX4_becomeAnew 39 = .ok (.iload_n 1, 1) := by decide +kernel
theorem dX4_becomeAnew_40 : decode cX4_becomeAnew 40 = .ok (.putfield 19, 3) := by decide +kernel
theorem dX4_becomeAnew_43 : decode cX4_becomeAnew 43 = .ok (.aload_n 0, 1) := by decide +kernel
theorem dX4_becomeAnew_44 : decode cX4_becomeAnew 44 = .ok (.iconst (-1), 1) := by decide +kernel
theorem dX4_becomeAnew_45 : decode cX4_becomeAnew 45 = .ok (.putfield 15, 3) := by decide +kernel
theorem dX4_becomeAnew_48 : decode cX4_becomeAnew 48 = .ok (.aload_n 0, 1) := by decide +kernel
theorem dX4_becomeAnew_49 : decode cX4_becomeAnew 49 = .ok (.iconst 0, 1) := by decide +kernel
theorem dX4_becomeAnew_50 : decode cX4_becomeAnew 50 = .ok (.putfield 22, 3) := by decide +kernel
theorem dX4_becomeAnew_53 : decode cX4_becomeAnew 53 = .ok (.return_, 1) := by decide +kernel
theorem dX5_init_0 : decode cX5_init 0 = .ok (.aload_n 0, 1) := by decide +kernel
theorem dX5_init_1 : decode cX5_init 1 = .ok (.invokespecial 3, 3) := by decide +kernel
theorem dX5_init_4 : decode cX5_init 4 = .ok (.aload_n 0, 1) := by decide +kernel
theorem dX5_init_5 : decode cX5_init 5 = .ok (.bipush 16, 2) := by decide +kernel
theorem dX5_init_7 : decode cX5_init 7 = .ok (.newarray .long, 2) := by decide +kernel
theorem dX5_init_9 : decode cX5_init 9 = .ok (.putfield 9, 3) := by decide +kernel
theorem dX5_init_12 : decode cX5_init 12 = .ok (.aload_n 0, 1) := by decide +kernel
theorem dX5_init_13 : decode cX5_init 13 = .ok (.bipush 8, 2) := by decide +kernel
theorem dX5_init_15 : decode cX5_init 15 = .ok (.newarray .long, 2) := by decide +kernel
theorem dX5_init_17 : decode cX5_init 17 = .ok (.putfield 15, 3) := by decide +kernel
theorem dX5_init_20 : decode cX5_init 20 = .ok (.aload_n 0, 1) := by decide +kernel
theorem dX5_init_21 : decode cX5_init 21 = .ok (.bipush 8, 2) := by decide +kernel
theorem dX5_init_23 : decode cX5_init 23 = .ok (.newarray .long, 2) := by decide +kernel
theorem dX5_init_25 : decode cX5_init 25 = .ok (.putfield 18, 3) := by decide +kernel
theorem dX5_init_28 : decode cX5_init 28 = .ok (.aload_n 0, 1) := by decide +kernel
theorem dX5_init_29 : decode cX5_init 29 = .ok (.iconst 0, 1) := by decide +kernel
theorem dX5_init_30 : decode cX5_init 30 = .ok (.newarray .byte, 2) := by decide +kernel
theorem dX5_init_32 : decode cX5_init 32 = .ok (.putfield 21, 3) := by decide +kernel
theorem dX5_init_35 : decode cX5_init 35 = .ok (.aload_n 0, 1) := by decide +kernel
theorem dX5_init_36 : decode cX5_init 36 = .ok (.aload_n 0, 1) := by decide +kernel
theorem dX5_init_37 : decode cX5_init 37 = .ok (.getfield 15, 3) := by decide +kernel
theorem dX5_init_40 : decode cX5_init 40 = .ok (.putfield 25, 3) := by decide +kernel
theorem dX5_init_43 : decode cX5_init 43 = .ok (.aload_n 0, 1) := by decide +kernel
theorem dX5_init_44 : decode cX5_init 44 = .ok (.aload_n 0, 1) := by decide +kernel
theorem dX5_init_45 : decode cX5_init 45 = .ok (.getfield 18, 3) := by decide +kernel
theorem dX5_init_48 : decode cX5_init 48 = .ok (.putfield 28, 3) := by decide +kernel
theorem dX5_init_51 : decode cX5_init 51 = .ok (.return_, 1) := by decide +kernel
theorem dX5_goOnCopies_0 : decode cX5_goOnCopies 0 = .ok (.aload_n 2, 1) := by decide +kernel
theorem dX5_goOnCopies_1 : decode cX5_goOnCopies 1 = .ok (.aload_n 0, 1) := by decide +kernel
theorem dX5_goOnCopies_2 : decode cX5_goOnCopies 2 = .ok (.getfield 15, 3) := by decide +kernel
theorem dX5_goOnCopies_5 : decode cX5_goOnCopies 5 = .ok (.invokestatic 31, 3) := by decide +kernel
theorem dX5_goOnCopies_8 : decode cX5_goOnCopies 8 = .ok (.aload_n 3, 1) := by decide +kernel
theorem dX5_goOnCopies_9 : decode cX5_goOnCopies 9 = .ok (.aload_n 0, 1) := by decide +kernel
theorem dX5_goOnCopies_10 : decode cX5_goOnCopies 10 = .ok (.getfield 18, 3) := by decide +kernel
theorem dX5_goOnCopies_13 : decode cX5_goOnCopies 13 = .ok (.invokestatic 31, 3) := by decide +kernel
theorem dX5_goOnCopies_16 : decode cX5_goOnCopies 16 = .ok (.aload_n 0, 1) := by decide +kernel
theorem dX5_goOnCopies_17 : decode cX5_goOnCopies 17 = .ok (.aload_n 1, 1) := by decide +kernel
theorem dX5_goOnCopies_18 : decode cX5_goOnCopies 18 = .ok (.aload_n 0, 1) := by decide +kernel
theorem dX5_goOnCopies_19 : decode cX5_goOnCopies 19 = .ok (.getfield 15, 3) := by decide +kernel
theorem dX5_goOnCopies_22 : decode cX5_goOnCopies 22 = .ok (.aload_n 0, 1) := by decide +kernel
theorem dX5_goOnCopies_23 : decode cX5_goOnCopies 23 = .ok (.getfield 18, 3) := by decide +kernel
theorem dX5_goOnCopies_26 : decode cX5_goOnCopies 26 = .ok (.iload 4, 2) := by decide +kernel
theorem dX5_goOnCopies_28 : decode cX5_goOnCopies 28 = .ok (.invokevirtual 35, 3) := by decide +kernel
theorem dX5_goOnCopies_31 : decode cX5_goOnCopies 31 = .ok (.ireturn, 1) := by decide +kernel
theorem dX5_go_0 : decode cX5_go 0 = .ok (.aload_n 0, 1) := by decide +kernel
theorem dX5_go_1 : decode cX5_go 1 = .ok (.aload_n 1, 1) := by decide +kernel
theorem dX5_go_2 : decode cX5_go 2 = .ok (.putfield 21, 3) := by decide +kernel
theorem dX5_go_5 : decode cX5_go 5 = .ok (.aload_n 0, 1) := by decide +kernel
theorem dX5_go_6 : decode cX5_go 6 = .ok (.aload_n 2, 1) := by decide +kernel
theorem dX5_go_7 : decode cX5_go 7 = .ok (.putfield 25, 3) := by decide +kernel
theorem dX5_go_10 : decode cX5_go 10 = .ok (.aload_n 0, 1) := by decide +kernel
theorem dX5_go_11 : decode cX5_go 11 = .ok (.aload_n 3, 1) := by decide +kernel
theorem dX5_go_12 : decode cX5_go 12 = .ok (.putfield 28, 3) := by decide +kernel
theorem dX5_go_15 : decode cX5_go 15 = .ok (.aload_n 0, 1) := by decide +kernel
theorem dX5_go_16 : decode cX5_go 16 = .ok (.iconst 0, 1) := by decide +kernel
theorem dX5_go_17 : decode cX5_go 17 = .ok (.putfield 39, 3) := by decide +kernel
theorem dX5_go_20 : decode cX5_go 20 = .ok (.aload_n 0, 1) := by decide +kernel
theorem dX5_go_21 : decode cX5_go 21 = .ok (.iconst 0, 1) := by decide +kernel
theorem dX5_go_22 : decode cX5_go 22 = .ok (.putfield 43, 3) := by decide +kernel
theorem dX5_go_25 : decode cX5_go 25 = .ok (.aload_n 0, 1) := by decide +kernel
theorem dX5_go_26 : decode cX5_go 26 = .ok (.iconst 0, 1) := by decide +kernel
theorem dX5_go_27 : decode cX5_go 27 = .ok (.putfield 46, 3) := by decide +kernel
theorem dX5_go_30 : decode cX5_go 30 = .ok (.aload_n 0, 1) := by decide +kernel
theorem dX5_go_31 : decode cX5_go 31 = .ok (.iconst (-1), 1) := by decide +kernel
theorem dX5_go_32 : decode cX5_go 32 = .ok (.putfield 49, 3) := by decide +kernel
theorem dX5_go_35 : decode cX5_go 35 = .ok (.iconst 0, 1) := by decide +kernel
theorem dX5_go_36 : decode cX5_go 36 = .ok (.istore 5, 2) := by decide +kernel
theorem dX5_go_38 : decode cX5_go 38 = .ok (.iconst 0, 1) := by decide +kernel
theorem dX5_go_39 : decode cX5_go 39 = .ok (.istore 6, 2) := by decide +kernel
theorem dX5_go_41 : decode cX5_go 41 = .ok (.iload 5, 2) := by decide +kernel
theorem dX5_go_43 : decode cX5_go 43 = .ok (.ifCond .ne 34, 3) := by decide +kernel
theorem dX5_go_46 : decode cX5_go 46 = .ok (.aload_n 0, 1) := by decide +kernel
theorem dX5_go_47 : decode cX5_go 47 = .ok (.getfield 43, 3) := by decide +kernel
theorem dX5_go_50 : decode cX5_go 50 = .ok (.aload_n 0, 1) := by decide +kernel
theorem dX5_go_51 : decode cX5_go 51 = .ok (.getfield 21, 3) := by decide +kernel
theorem dX5_go_54 : decode cX5_go 54 = .ok (.arraylength, 1) := by decide +kernel
theorem dX5_go_55 : decode cX5_go 55 = .ok (.if_icmp .ge 22, 3) := by decide +kernel
theorem dX5_go_58 : decode cX5_go 58 = .ok (.iload 6, 2) := by decide +kernel
theorem dX5_go_60 : decode cX5_go 60 = .ok (.iload 4, 2) := by decide +kernel
theorem dX5_go_62 : decode cX5_go 62 = .ok (.if_icmp .ge 15, 3) := by decide +kernel
theorem dX5_go_65 : decode cX5_go 65 = .ok (.iinc 6 1, 3) := by decide +kernel
theorem dX5_go_68 : decode cX5_go 68 = .ok (.aload_n 0, 1) := by decide +kernel
theorem dX5_go_69 : decode cX5_go 69 = .ok (.invokevirtual 52, 3) := by decide +kernel
theorem dX5_go_72 : decode cX5_go 72 = .ok (.istore 5, 2) := by decide +kernel
theorem dX5_go_74 : decode cX5_go 74 = .ok (.goto (-33), 3) := by decide +kernel
theorem dX5_go_77 : decode cX5_go 77 = .ok (.aload_n 0, 1) := by decide +kernel
theorem dX5_go_78 : decode cX5_go 78 = .ok (.iload 6, 2) := by decide +kernel
theorem dX5_go_80 : decode cX5_go 80 = .ok (.putfield 56, 3) := by decide +kernel
theorem dX5_go_83 : decode cX5_go 83 = .ok (.iload 5, 2) := by decide +kernel
theorem dX5_go_85 : decode cX5_go 85 = .ok (.ifCond .ne 20, 3) := by decide +kernel
theorem dX5_go_88 : decode cX5_go 88 = .ok (.aload_n 0, 1) := by decide +kernel
theorem dX5_go_89 : decode cX5_go 89 = .ok (.getfield 43, 3) := by decide +kernel
theorem dX5_go_92 : decode cX5_go 92 = .ok (.aload_n 0, 1) := by decide +kernel
theorem dX5_go_93 : decode cX5_go 93 = .ok (.getfield 21, 3) := by decide +kernel
theorem dX5_go_96 : decode cX5_go 96 = .ok (.arraylength, 1) := by decide +kernel
theorem dX5_go_97 : decode cX5_go 97 = .ok (.if_icmp .ge 8, 3) := by decide +kernel
theorem dX5_go_100 : decode cX5_go 100 = .ok (.bipush 7, 2) := by decide +kernel
theorem dX5_go_102 : decode cX5_go 102 = .ok (.goto 5, 3) := by decide +kernel
theorem dX5_go_105 : decode cX5_go 105 = .ok (.iload 5, 2) := by decide +kernel
theorem dX5_go_107 : decode cX5_go 107 = .ok (.ireturn, 1) := by decide +kernel
theorem dX5_step_0 : decode cX5_step 0 = .ok (.aload_n 0, 1) := by decide +kernel
theorem dX5_step_1 : decode cX5_step 1 = .ok (.getfield 21, 3) := by decide +kernel
theorem dX5_step_4 : decode cX5_step 4 = .ok (.aload_n 0, 1) := by decide +kernel
theorem dX5_step_5 : decode cX5_step 5 = .ok (.getfield 43, 3) := by decide +kernel
theorem dX5_step_8 : decode cX5_step 8 = .ok (.invokestatic 59, 3) := by decide +kernel
theorem dX5_step_11 : decode cX5_step 11 = .ok (.istore_n 1, 1) := by decide +kernel
theorem dX5_step_12 : decode cX5_step 12 = .ok (.iload_n 1, 1) := by decide +kernel
theorem dX5_step_13 : decode cX5_step 13 = .ok (.ifCond .lt 11, 3) := by decide +kernel
theorem dX5_step_16 : decode cX5_step 16 = .ok (.iload_n 1, 1) := by decide +kernel
theorem dX5_step_17 : decode cX5_step 17 = .ok (.getstatic 63, 3) := by decide +kernel
theorem dX5_step_20 : decode cX5_step 20 = .ok (.arraylength, 1) := by decide +kernel
theorem dX5_step_21 : decode cX5_step 21 = .ok (.if_icmp .lt 5, 3) := by decide +kernel
theorem dX5_step_24 : decode cX5_step 24 = .ok (.iconst 1, 1) := by decide +kernel
theorem dX5_step_25 : decode cX5_step 25 = .ok (.ireturn, 1) := by decide +kernel
theorem dX5_step_26 : decode cX5_step 26 = .ok (.getstatic 63, 3) := by decide +kernel
theorem dX5_step_29 : decode cX5_step 29 = .ok (.iload_n 1, 1) := by decide +kernel
theorem dX5_step_30 : decode cX5_step 30 = .ok (.aaload, 1) := by decide +kernel
theorem dX5_step_31 : decode cX5_step 31 = .ok (.astore_n 2, 1) := by decide +kernel
theorem dX5_step_32 : decode cX5_step 32 = .ok (.aload_n 0, 1) := by decide +kernel
theorem dX5_step_33 : decode cX5_step 33 = .ok (.getfield 43, 3) := by decide +kernel
theorem dX5_step_36 : decode cX5_step 36 = .ok (.aload_n 2, 1) := by decide +kernel
theorem dX5_step_37 : decode cX5_step 37 = .ok (.getfield 67, 3) := by decide +kernel
theorem dX5_step_40 : decode cX5_step 40 = .ok (.ifCond .eq 7, 3) := by decide +kernel
theorem dX5_step_43 : decode cX5_step 43 = .ok (.iconst 2, 1) := by decide +kernel
theorem dX5_step_44 : decode cX5_step 44 = .ok (.goto 4, 3) := by decide +kernel
theorem dX5_step_47 : decode cX5_step 47 = .ok (.iconst 1, 1) := by decide +kernel
theorem dX5_step_48 : decode cX5_step 48 = .ok (.iadd, 1) := by decide +kernel
theorem dX5_step_49 : decode cX5_step 49 = .ok (.istore_n 3, 1) := by decide +kernel
theorem dX5_step_50 : decode cX5_step 50 = .ok (.iload_n 3, 1) := by decide +kernel
theorem dX5_step_51 : decode cX5_step 51 = .ok (.aload_n 0, 1) := by decide +kernel
theorem dX5_step_52 : decode cX5_step 52 = .ok (.getfield 21, 3) := by decide +kernel
theorem dX5_step_55 : decode cX5_step 55 = .ok (.arraylength, 1) := by decide +kernel
theorem dX5_step_56 : decode cX5_step 56 = .ok (.if_icmp .le 5, 3) := by decide +kernel
theorem dX5_step_59 : decode cX5_step 59 = .ok (.iconst 1, 1) := by decide +kernel
theorem dX5_step_60 : decode cX5_step 60 = .ok (.ireturn, 1) := by decide +kernel
theorem dX5_step_61 : decode cX5_step 61 = .ok (.aload_n 0, 1) := by decide +kernel
theorem dX5_step_62 : decode cX5_step 62 = .ok (.getfield 21, 3) := by decide +kernel
theorem dX5_step_65 : decode cX5_step 65 = .ok (.aload_n 0, 1) := by decide +kernel
theorem dX5_step_66 : decode cX5_step 66 = .ok (.getfield 43, 3) := by decide +kernel
theorem dX5_step_69 : decode cX5_step 69 = .ok (.iconst 1, 1) := by decide +kernel
theorem dX5_step_70 : decode cX5_step 70 = .ok (.iadd, 1) := by decide +kernel
theorem dX5_step_71 : decode cX5_step 71 = .ok (.invokestatic 59, 3) := by decide +kernel
theorem dX5_step_74 : decode cX5_step 74 = .ok (.istore 4, 2) := by decide +kernel
theorem dX5_step_76 : decode cX5_step 76 = .ok (.aload_n 2, 1) := by decide +kernel
theorem dX5_step_77 : decode cX5_step 77 = .ok (.getfield 73, 3) := by decide +kernel
theorem dX5_step_80 : decode cX5_step 80 = .ok (.ifCond .eq 12, 3) := by decide +kernel
theorem dX5_step_83 : decode cX5_step 83 = .ok (.iload 4, 2) := by decide +kernel
theorem dX5_step_85 : decode cX5_step 85 = .ok (.bipush 8, 2) := by decide +kernel
theorem dX5_step_87 : decode cX5_step 87 = .ok (.if_icmp .lt 5, 3) := by decide +kernel
theorem dX5_step_90 : decode cX5_step 90 = .ok (.iconst 2, 1) := by decide +kernel
theorem dX5_step_91 : decode cX5_step 91 = .ok (.ireturn, 1) := by decide +kernel
theorem dX5_step_92 : decode cX5_step 92 = .ok (.aload_n 0, 1) := by decide +kernel
theorem dX5_step_93 : decode cX5_step 93 = .ok (.getfield 39, 3) := by decide +kernel
theorem dX5_step_96 : decode cX5_step 96 = .ok (.aload_n 2, 1) := by decide +kernel
theorem dX5_step_97 : decode cX5_step 97 = .ok (.getfield 76, 3) := by decide +kernel
theorem dX5_step_100 : decode cX5_step 100 = .ok (.if_icmp .lt 22, 3) := by decide +kernel
theorem dX5_step_103 : decode cX5_step 103 = .ok (.aload_n 0, 1) := by decide +kernel
theorem dX5_step_104 : decode cX5_step 104 = .ok (.getfield 39, 3) := by decide +kernel
theorem dX5_step_107 : decode cX5_step 107 = .ok (.aload_n 2, 1) := by decide +kernel
theorem dX5_step_108 : decode cX5_step 108 = .ok (.getfield 76, 3) := by decide +kernel
theorem dX5_step_111 : decode cX5_step 111 = .ok (.isub, 1) := by decide +kernel
theorem dX5_step_112 : decode cX5_step 112 = .ok (.aload_n 2, 1) := by decide +kernel
theorem dX5_step_113 : decode cX5_step 113 = .ok (.getfield 79, 3) := by decide +kernel
theorem dX5_step_116 : decode cX5_step 116 = .ok (.iadd, 1) := by decide +kernel
theorem dX5_step_117 : decode cX5_step 117 = .ok (.bipush 16, 2) := by decide +kernel
theorem dX5_step_119 : decode cX5_step 119 = .ok (.if_icmp .le 5, 3) := by decide +kernel
theorem dX5_step_122 : decode cX5_step 122 = .ok (.iconst 3, 1) := by decide +kernel
theorem dX5_step_123 : decode cX5_step 123 = .ok (.ireturn, 1) := by decide +kernel
theorem dX5_step_124 : decode cX5_step 124 = .ok (.aload_n 0, 1) := by decide +kernel
theorem dX5_step_125 : decode cX5_step 125 = .ok (.iload_n 3, 1) := by decide +kernel
theorem dX5_step_126 : decode cX5_step 126 = .ok (.putfield 43, 3) := by decide +kernel
theorem dX5_step_129 : decode cX5_step 129 = .ok (.aload_n 0, 1) := by decide +kernel
theorem dX5_step_130 : decode cX5_step 130 = .ok (.aload_n 2, 1) := by decide +kernel
theorem dX5_step_131 : decode cX5_step 131 = .ok (.iload 4, 2) := by decide +kernel
theorem dX5_step_133 : decode cX5_step 133 = .ok (.invokevirtual 82, 3) := by decide +kernel
theorem dX5_step_136 : decode cX5_step 136 = .ok (.ireturn, 1) := by decide +kernel
theorem dX5_doIt_0 : decode cX5_doIt 0 = .ok (.getstatic 86, 3) := by decide +kernel
theorem dX5_doIt_3 : decode cX5_doIt 3 = .ok (.aload_n 1, 1) := by decide +kernel
theorem dX5_doIt_4 : decode cX5_doIt 4 = .ok (.invokevirtual 92, 3) := by decide +kernel
theorem dX5_doIt_7 : decode cX5_doIt 7 = .ok (.iaload, 1) := by decide +kernel
theorem dX5_doIt_8 : decode cX5_doIt 8 = .ok (.tableswitch 261 1 12 #[64, 72, 85, 99, 112, 126, 144, 156, 181, 218, 225, 253], 64) := by decide +kernel
theorem dX5_doIt_72 : decode cX5_doIt 72 = .ok (.aload_n 0, 1) := by decide +kernel
theorem dX5_doIt_73 : decode cX5_doIt 73 = .ok (.iload_n 2, 1) := by decide +kernel
theorem dX5_doIt_74 : decode cX5_doIt 74 = .ok (.i2b, 1) := by decide +kernel
theorem dX5_doIt_75 : decode cX5_doIt 75 = .ok (.i2l, 1) := by decide +kernel
theorem dX5_doIt_76 : decode cX5_doIt 76 = .ok (.invokevirtual 95, 3) := by decide +kernel
theorem dX5_doIt_79 : decode cX5_doIt 79 = .ok (.ireturn, 1) := by decide +kernel
theorem dX5_doIt_80 : decode cX5_doIt 80 = .ok (.aload_n 0, 1) := by decide +kernel
theorem dX5_doIt_81 : decode cX5_doIt 81 = .ok (.aload_n 0, 1) := by decide +kernel
theorem dX5_doIt_82 : decode cX5_doIt 82 = .ok (.getfield 28, 3) := by decide +kernel
theorem dX5_doIt_85 : decode cX5_doIt 85 = .ok (.iload_n 2, 1) := by decide +kernel
theorem dX5_doIt_86 : decode cX5_doIt 86 = .ok (.invokestatic 99, 3) := by decide +kernel
theorem dX5_doIt_89 : decode cX5_doIt 89 = .ok (.invokevirtual 95, 3) := by decide +kernel
theorem dX5_doIt_92 : decode cX5_doIt 92 = .ok (.ireturn, 1) := by decide +kernel
theorem dX5_doIt_93 : decode cX5_doIt 93 = .ok (.aload_n 0, 1) := by decide +kernel
theorem dX5_doIt_94 : decode cX5_doIt 94 = .ok (.getfield 28, 3) := by decide +kernel
theorem dX5_doIt_97 : decode cX5_doIt 97 = .ok (.iload_n 2, 1) := by decide +kernel
theorem dX5_doIt_98 : decode cX5_doIt 98 = .ok (.aload_n 0, 1) := by decide +kernel
theorem dX5_doIt_99 : decode cX5_doIt 99 = .ok (.invokevirtual 103, 3) := by decide +kernel
theorem dX5_doIt_102 : decode cX5_doIt 102 = .ok (.invokestatic 107, 3) := by decide +kernel
theorem dX5_doIt_105 : decode cX5_doIt 105 = .ok (.iconst 0, 1) := by decide +kernel
theorem dX5_doIt_106 : decode cX5_doIt 106 = .ok (.ireturn, 1) := by decide +kernel
theorem dX5_doIt_107 : decode cX5_doIt 107 = .ok (.aload_n 0, 1) := by decide +kernel
theorem dX5_doIt_108 : decode cX5_doIt 108 = .ok (.aload_n 0, 1) := by decide +kernel
theorem dX5_doIt_109 : decode cX5_doIt 109 = .ok (.getfield 25, 3) := by decide +kernel
theorem dX5_doIt_112 : decode cX5_doIt 112 = .ok (.iload_n 2, 1) := by decide +kernel
theorem dX5_doIt_113 : decode cX5_doIt 113 = .ok (.invokestatic 99, 3) := by decide +kernel
theorem dX5_doIt_116 : decode cX5_doIt 116 = .ok (.invokevirtual 95, 3) := by decide +kernel
theorem dX5_doIt_119 : decode cX5_doIt 119 = .ok (.ireturn, 1) := by decide +kernel
theorem dX5_doIt_120 : decode cX5_doIt 120 = .ok (.aload_n 0, 1) := by decide +kernel
theorem dX5_doIt_121 : decode cX5_doIt 121 = .ok (.getfield 25, 3) := by decide +kernel
theorem dX5_doIt_124 : decode cX5_doIt 124 = .ok (.iload_n 2, 1) := by decide +kernel
theorem dX5_doIt_125 : decode cX5_doIt 125 = .ok (.aload_n 0, 1) := by decide +kernel
theorem dX5_doIt_126 : decode cX5_doIt 126 = .ok (.invokevirtual 103, 3) := by decide +kernel
theorem dX5_doIt_129 : decode cX5_doIt 129 = .ok (.invokestatic 107, 3) := by decide +kernel
theorem dX5_doIt_132 : decode cX5_doIt 132 = .ok (.iconst 0, 1) := by decide +kernel
theorem dX5_doIt_133 : decode cX5_doIt 133 = .ok (.ireturn, 1) := by decide +kernel
theorem dX5_doIt_134 : decode cX5_doIt 134 = .ok (.aload_n 0, 1) := by decide +kernel
theorem dX5_doIt_135 : decode cX5_doIt 135 = .ok (.aload_n 0, 1) := by decide +kernel
theorem dX5_doIt_136 : decode cX5_doIt 136 = .ok (.getfield 9, 3) := by decide +kernel
theorem dX5_doIt_139 : decode cX5_doIt 139 = .ok (.aload_n 0, 1) := by decide +kernel
theorem dX5_doIt_140 : decode cX5_doIt 140 = .ok (.getfield 39, 3) := by decide +kernel
theorem dX5_doIt_143 : decode cX5_doIt 143 = .ok (.iconst 1, 1) := by decide +kernel
theorem dX5_doIt_144 : decode cX5_doIt 144 = .ok (.isub, 1) := by decide +kernel
theorem dX5_doIt_145 : decode cX5_doIt 145 = .ok (.invokestatic 99, 3) := by decide +kernel
theorem dX5_doIt_148 : decode cX5_doIt 148 = .ok (.invokevirtual 95, 3) := by decide +kernel
theorem dX5_doIt_151 : decode cX5_doIt 151 = .ok (.ireturn, 1) := by decide +kernel
theorem dX5_doIt_152 : decode cX5_doIt 152 = .ok (.aload_n 0, 1) := by decide +kernel
theorem dX5_doIt_153 : decode cX5_doIt 153 = .ok (.aload_n 0, 1) := by decide +kernel
theorem dX5_doIt_154 : decode cX5_doIt 154 = .ok (.getfield 43, 3) := by decide +kernel
theorem dX5_doIt_157 : decode cX5_doIt 157 = .ok (.iload_n 2, 1) := by decide +kernel
theorem dX5_doIt_158 : decode cX5_doIt 158 = .ok (.i2b, 1) := by decide +kernel
theorem dX5_doIt_159 : decode cX5_doIt 159 = .ok (.iadd, 1) := by decide +kernel
theorem dX5_doIt_160 : decode cX5_doIt 160 = .ok (.invokevirtual 111, 3) := by decide +kernel
theorem dX5_doIt_163 : decode cX5_doIt 163 = .ok (.ireturn, 1) := by decide +kernel
theorem dX5_doIt_164 : decode cX5_doIt 164 = .ok (.aload_n 0, 1) := by decide +kernel
theorem dX5_doIt_165 : decode cX5_doIt 165 = .ok (.invokevirtual 103, 3) := by decide +kernel
theorem dX5_doIt_168 : decode cX5_doIt 168 = .ok (.lconst 0, 1) := by decide +kernel
theorem dX5_doIt_169 : decode cX5_doIt 169 = .ok (.lcmp, 1) := by decide +kernel
theorem dX5_doIt_170 : decode cX5_doIt 170 = .ok (.ifCond .ne 17, 3) := by decide +kernel
theorem dX5_doIt_173 : decode cX5_doIt 173 = .ok (.aload_n 0, 1) := by decide +kernel
theorem dX5_doIt_174 : decode cX5_doIt 174 = .ok (.aload_n 0, 1) := by decide +kernel
theorem dX5_doIt_175 : decode cX5_doIt 175 = .ok (.getfield 43, 3) := by decide +kernel
theorem dX5_doIt_178 : decode cX5_doIt 178 = .ok (.iload_n 2, 1) := by decide +kernel
theorem dX5_doIt_179 : decode cX5_doIt 179 = .ok (.i2b, 1) := by decide +kernel
theorem dX5_doIt_180 : decode cX5_doIt 180 = .ok (.iadd, 1) := by decide +kernel
theorem dX5_doIt_181 : decode cX5_doIt 181 = .ok (.invokevirtual 111, 3) := by decide +kernel
theorem dX5_doIt_184 : decode cX5_doIt 184 = .ok (.goto 4, 3) := by decide +kernel
theorem dX5_doIt_187 : decode cX5_doIt 187 = .ok (.iconst 0, 1) := by decide +kernel
theorem dX5_doIt_188 : decode cX5_doIt 188 = .ok (.ireturn, 1) := by decide +kernel
theorem dX5_doIt_189 : decode cX5_doIt 189 = .ok (.aload_n 0, 1) := by decide +kernel
theorem dX5_doIt_190 : decode cX5_doIt 190 = .ok (.invokevirtual 103, 3) := by decide +kernel
theorem dX5_doIt_193 : decode cX5_doIt 193 = .ok (.lstore_n 3, 1) := by decide +kernel
theorem dX5_doIt_194 : decode cX5_doIt 194 = .ok (.lload_n 3, 1) := by decide +kernel
theorem dX5_doIt_195 : decode cX5_doIt 195 = .ok (.lconst 0, 1) := by decide +kernel
theorem dX5_doIt_196 : decode cX5_doIt 196 = .ok (.lcmp, 1) := by decide +kernel
theorem dX5_doIt_197 : decode cX5_doIt 197 = .ok (.ifCond .lt 27, 3) := by decide +kernel
theorem dX5_doIt_200 : decode cX5_doIt 200 = .ok (.lload_n 3, 1) := by decide +kernel
theorem dX5_doIt_201 : decode cX5_doIt 201 = .ok (.ldc2_w 115, 3) := by decide +kernel
theorem dX5_doIt_204 : decode cX5_doIt 204 = .ok (.lcmp, 1) := by decide +kernel
theorem dX5_doIt_205 : decode cX5_doIt 205 = .ok (.ifCond .ge 19, 3) := by decide +kernel
theorem dX5_doIt_208 : decode cX5_doIt 208 = .ok (.aload_n 0, 1) := by decide +kernel
theorem dX5_doIt_209 : decode cX5_doIt 209 = .ok (.aload_n 0, 1) := by decide +kernel
theorem dX5_doIt_210 : decode cX5_doIt 210 = .ok (.getfield 28, 3) := by decide +kernel
theorem dX5_doIt_213 : decode cX5_doIt 213 = .ok (.lload_n 3, 1) := by decide +kernel
theorem dX5_doIt_214 : decode cX5_doIt 214 = .ok (.l2i, 1) := by decide +kernel
theorem dX5_doIt_215 : decode cX5_doIt 215 = .ok (.invokestatic 99, 3) := by decide +kernel
theorem dX5_doIt_218 : decode cX5_doIt 218 = .ok (.invokevirtual 95, 3) := by decide +kernel
theorem dX5_doIt_221 : decode cX5_doIt 221 = .ok (.goto 4, 3) := by decide +kernel
theorem dX5_doIt_224 : decode cX5_doIt 224 = .ok (.iconst 2, 1) := by decide +kernel
theorem dX5_doIt_225 : decode cX5_doIt 225 = .ok (.ireturn, 1) := by decide +kernel
theorem dX5_doIt_226 : decode cX5_doIt 226 = .ok (.aload_n 0, 1) := by decide +kernel
theorem dX5_doIt_227 : decode cX5_doIt 227 = .ok (.iload_n 2, 1) := by decide +kernel
theorem dX5_doIt_228 : decode cX5_doIt 228 = .ok (.putfield 49, 3) := by decide +kernel
theorem dX5_doIt_231 : decode cX5_doIt 231 = .ok (.iconst 0, 1) := by decide +kernel
theorem dX5_doIt_232 : decode cX5_doIt 232 = .ok (.ireturn, 1) := by decide +kernel
theorem dX5_doIt_233 : decode cX5_doIt 233 = .ok (.aload_n 0, 1) := by decide +kernel
theorem dX5_doIt_234 : decode cX5_doIt 234 = .ok (.getfield 49, 3) := by decide +kernel
theorem dX5_doIt_237 : decode cX5_doIt 237 = .ok (.iconst (-1), 1) := by decide +kernel
theorem dX5_doIt_238 : decode cX5_doIt 238 = .ok (.if_icmp .ne 7, 3) := by decide +kernel
theorem dX5_doIt_241 : decode cX5_doIt 241 = .ok (.iconst 5, 1) := by decide +kernel
theorem dX5_doIt_242 : decode cX5_doIt 242 = .ok (.goto 18, 3) := by decide +kernel
theorem dX5_doIt_245 : decode cX5_doIt 245 = .ok (.aload_n 0, 1) := by decide +kernel
theorem dX5_doIt_246 : decode cX5_doIt 246 = .ok (.aload_n 0, 1) := by decide +kernel
theorem dX5_doIt_247 : decode cX5_doIt 247 = .ok (.getfield 25, 3) := by decide +kernel
theorem dX5_doIt_250 : decode cX5_doIt 250 = .ok (.aload_n 0, 1) := by decide +kernel
theorem dX5_doIt_251 : decode cX5_doIt 251 = .ok (.getfield 49, 3) := by decide +kernel
theorem dX5_doIt_254 : decode cX5_doIt 254 = .ok (.invokestatic 99, 3) := by decide +kernel
theorem dX5_doIt_257 : decode cX5_doIt 257 = .ok (.invokevirtual 95, 3) := by decide +kernel
theorem dX5_doIt_260 : decode cX5_doIt 260 = .ok (.ireturn, 1) := by decide +kernel
theorem dX5_doIt_261 : decode cX5_doIt 261 = .ok (.aload_n 0, 1) := by decide +kernel
theorem dX5_doIt_262 : decode cX5_doIt 262 = .ok (.iload_n 2, 1) := by decide +kernel
theorem dX5_doIt_263 : decode cX5_doIt 263 = .ok (.putfield 46, 3) := by decide +kernel
theorem dX5_doIt_266 : decode cX5_doIt 266 = .ok (.bipush 6, 2) := by decide +kernel
theorem dX5_doIt_268 : decode cX5_doIt 268 = .ok (.ireturn, 1) := by decide +kernel
theorem dX5_doIt_269 : decode cX5_doIt 269 = .ok (.aload_n 0, 1) := by decide +kernel
theorem dX5_doIt_270 : decode cX5_doIt 270 = .ok (.invokevirtual 103, 3) := by decide +kernel
theorem dX5_doIt_273 : decode cX5_doIt 273 = .ok (.lstore 5, 2) := by decide +kernel
theorem dX5_doIt_275 : decode cX5_doIt 275 = .ok (.aload_n 0, 1) := by decide +kernel
theorem dX5_doIt_276 : decode cX5_doIt 276 = .ok (.invokevirtual 103, 3) := by decide +kernel
theorem dX5_doIt_279 : decode cX5_doIt 279 = .ok (.lstore 7, 2) := by decide +kernel
theorem dX5_doIt_281 : decode cX5_doIt 281 = .ok (.lload 5, 2) := by decide +kernel
theorem dX5_doIt_283 : decode cX5_doIt 283 = .ok (.lconst 0, 1) := by decide +kernel
theorem dX5_doIt_284 : decode cX5_doIt 284 = .ok (.lcmp, 1) := by decide +kernel
theorem dX5_doIt_285 : decode cX5_doIt 285 = .ok (.ifCond .ne 14, 3) := by decide +kernel
theorem dX5_doIt_288 : decode cX5_doIt 288 = .ok (.aload_n 1, 1) := by decide +kernel
theorem dX5_doIt_289 : decode cX5_doIt 289 = .ok (.invokestatic 117, 3) := by decide +kernel
theorem dX5_doIt_292 : decode cX5_doIt 292 = .ok (.ifCond .eq 7, 3) := by decide +kernel
theorem dX5_doIt_295 : decode cX5_doIt 295 = .ok (.iconst 4, 1) := by decide +kernel
theorem dX5_doIt_296 : decode cX5_doIt 296 = .ok (.goto 15, 3) := by decide +kernel
theorem dX5_doIt_299 : decode cX5_doIt 299 = .ok (.aload_n 0, 1) := by decide +kernel
theorem dX5_doIt_300 : decode cX5_doIt 300 = .ok (.aload_n 1, 1) := by decide +kernel
theorem dX5_doIt_301 : decode cX5_doIt 301 = .ok (.lload 7, 2) := by decide +kernel
theorem dX5_doIt_303 : decode cX5_doIt 303 = .ok (.lload 5, 2) := by decide +kernel
theorem dX5_doIt_305 : decode cX5_doIt 305 = .ok (.invokestatic 121, 3) := by decide +kernel
theorem dX5_doIt_308 : decode cX5_doIt 308 = .ok (.invokevirtual 95, 3) := by decide +kernel
theorem dX5_doIt_311 : decode cX5_doIt 311 = .ok (.ireturn, 1) := by decide +kernel
theorem dX5_divides_0 : decode cX5_divides 0 = .ok (.aload_n 0, 1) := by decide +kernel
theorem dX5_divides_1 : decode cX5_divides 1 = .ok (.getstatic 125, 3) := by decide +kernel
theorem dX5_divides_4 : decode cX5_divides 4 = .ok (.if_acmp .eq 10, 3) := by decide +kernel
theorem dX5_divides_7 : decode cX5_divides 7 = .ok (.aload_n 0, 1) := by decide +kernel
theorem dX5_divides_8 : decode cX5_divides 8 = .ok (.getstatic 129, 3) := by decide +kernel
theorem dX5_divides_11 : decode cX5_divides 11 = .ok (.if_acmp .ne 7, 3) := by decide +kernel
theorem dX5_divides_14 : decode cX5_divides 14 = .ok (.iconst 1, 1) := by decide +kernel
theorem dX5_divides_15 : decode cX5_divides 15 = .ok (.goto 4, 3) := by decide +kernel
theorem dX5_divides_18 : decode cX5_divides 18 = .ok (.iconst 0, 1) := by decide +kernel
theorem dX5_divides_19 : decode cX5_divides 19 = .ok (.ireturn, 1) := by decide +kernel
theorem dX5_reckoned_0 : decode cX5_reckoned 0 = .ok (.getstatic 86, 3) := by decide +kernel
theorem dX5_reckoned_3 : decode cX5_reckoned 3 = .ok (.aload_n 0, 1) := by decide +kernel
theorem dX5_reckoned_4 : decode cX5_reckoned 4 = .ok (.invokevirtual 92, 3) := by decide +kernel
theorem dX5_reckoned_7 : decode cX5_reckoned 7 = .ok (.iaload, 1) := by decide +kernel
theorem dX5_reckoned_8 : decode cX5_reckoned 8 = .ok (.tableswitch 92 13 18 #[40, 44, 48, 52, 66, 80], 40) := by decide +kernel
theorem dX5_reckoned_48 : decode cX5_reckoned 48 = .ok (.lload_n 1, 1) := by decide +kernel
theorem dX5_reckoned_49 : decode cX5_reckoned 49 = .ok (.lload_n 3, 1) := by decide +kernel
theorem dX5_reckoned_50 : decode cX5_reckoned 50 = .ok (.ladd, 1) := by decide +kernel
theorem dX5_reckoned_51 : decode cX5_reckoned 51 = .ok (.lreturn, 1) := by decide +kernel
theorem dX5_reckoned_52 : decode cX5_reckoned 52 = .ok (.lload_n 1, 1) := by decide +kernel
theorem dX5_reckoned_53 : decode cX5_reckoned 53 = .ok (.lload_n 3, 1) := by decide +kernel
theorem dX5_reckoned_54 : decode cX5_reckoned 54 = .ok (.lsub, 1) := by decide +kernel
theorem dX5_reckoned_55 : decode cX5_reckoned 55 = .ok (.lreturn, 1) := by decide +kernel
theorem dX5_reckoned_56 : decode cX5_reckoned 56 = .ok (.lload_n 1, 1) := by decide +kernel
theorem dX5_reckoned_57 : decode cX5_reckoned 57 = .ok (.lload_n 3, 1) := by decide +kernel
theorem dX5_reckoned_58 : decode cX5_reckoned 58 = .ok (.lmul, 1) := by decide +kernel
theorem dX5_reckoned_59 : decode cX5_reckoned 59 = .ok (.lreturn, 1) := by decide +kernel
theorem dX5_reckoned_60 : decode cX5_reckoned 60 = .ok (.lload_n 3, 1) := by decide +kernel
theorem dX5_reckoned_61 : decode cX5_reckoned 61 = .ok (.lconst 0, 1) := by decide +kernel
theorem dX5_reckoned_62 : decode cX5_reckoned 62 = .ok (.lcmp, 1) := by decide +kernel
theorem dX5_reckoned_63 : decode cX5_reckoned 63 = .ok (.ifCond .ne 7, 3) := by decide +kernel
theorem dX5_reckoned_66 : decode cX5_reckoned 66 = .ok (.lconst 0, 1) := by decide +kernel
theorem dX5_reckoned_67 : decode cX5_reckoned 67 = .ok (.goto 6, 3) := by decide +kernel
theorem dX5_reckoned_70 : decode cX5_reckoned 70 = .ok (.lload_n 1, 1) := by decide +kernel
theorem dX5_reckoned_71 : decode cX5_reckoned 71 = .ok (.lload_n 3, 1) := by decide +kernel
theorem dX5_reckoned_72 : decode cX5_reckoned 72 = .ok (.ldiv, 1) := by decide +kernel
theorem dX5_reckoned_73 : decode cX5_reckoned 73 = .ok (.lreturn, 1) := by decide +kernel
theorem dX5_reckoned_74 : decode cX5_reckoned 74 = .ok (.lload_n 3, 1) := by decide +kernel
theorem dX5_reckoned_75 : decode cX5_reckoned 75 = .ok (.lconst 0, 1) := by decide +kernel
theorem dX5_reckoned_76 : decode cX5_reckoned 76 = .ok (.lcmp, 1) := by decide +kernel
theorem dX5_reckoned_77 : decode cX5_reckoned 77 = .ok (.ifCond .ne 7, 3) := by decide +kernel
theorem dX5_reckoned_80 : decode cX5_reckoned 80 = .ok (.lconst 0, 1) := by decide +kernel
theorem dX5_reckoned_81 : decode cX5_reckoned 81 = .ok (.goto 6, 3) := by decide +kernel
theorem dX5_reckoned_84 : decode cX5_reckoned 84 = .ok (.lload_n 1, 1) := by decide +kernel
theorem dX5_reckoned_85 : decode cX5_reckoned 85 = .ok (.lload_n 3, 1) := by decide +kernel
theorem dX5_reckoned_86 : decode cX5_reckoned 86 = .ok (.lrem, 1) := by decide +kernel
theorem dX5_reckoned_87 : decode cX5_reckoned 87 = .ok (.lreturn, 1) := by decide +kernel
theorem dX5_reckoned_88 : decode cX5_reckoned 88 = .ok (.lload_n 1, 1) := by decide +kernel
theorem dX5_reckoned_89 : decode cX5_reckoned 89 = .ok (.lload_n 3, 1) := by decide +kernel
theorem dX5_reckoned_90 : decode cX5_reckoned 90 = .ok (.lcmp, 1) := by decide +kernel
theorem dX5_reckoned_91 : decode cX5_reckoned 91 = .ok (.ifCond .ge 7, 3) := by decide +kernel
theorem dX5_reckoned_94 : decode cX5_reckoned 94 = .ok (.lconst 1, 1) := by decide +kernel
theorem dX5_reckoned_95 : decode cX5_reckoned 95 = .ok (.goto 4, 3) := by decide +kernel
theorem dX5_reckoned_98 : decode cX5_reckoned 98 = .ok (.lconst 0, 1) := by decide +kernel
theorem dX5_reckoned_99 : decode cX5_reckoned 99 = .ok (.lreturn, 1) := by decide +kernel
theorem dX5_reckoned_100 : decode cX5_reckoned 100 = .ok (.lload_n 1, 1) := by decide +kernel
theorem dX5_reckoned_101 : decode cX5_reckoned 101 = .ok (.lload_n 3, 1) := by decide +kernel
theorem dX5_reckoned_102 : decode cX5_reckoned 102 = .ok (.lcmp, 1) := by decide +kernel
theorem dX5_reckoned_103 : decode cX5_reckoned 103 = .ok (.ifCond .ne 7, 3) := by decide +kernel
theorem dX5_reckoned_106 : decode cX5_reckoned 106 = .ok (.lconst 1, 1) := by decide +kernel
theorem dX5_reckoned_107 : decode cX5_reckoned 107 = .ok (.goto 4, 3) := by decide +kernel
theorem dX5_reckoned_110 : decode cX5_reckoned 110 = .ok (.lconst 0, 1) := by decide +kernel
theorem dX5_reckoned_111 : decode cX5_reckoned 111 = .ok (.lreturn, 1) := by decide +kernel
theorem dX5_goOnAt_0 : decode cX5_goOnAt 0 = .ok (.iload_n 1, 1) := by decide +kernel
theorem dX5_goOnAt_1 : decode cX5_goOnAt 1 = .ok (.ifCond .lt 12, 3) := by decide +kernel
theorem dX5_goOnAt_4 : decode cX5_goOnAt 4 = .ok (.iload_n 1, 1) := by decide +kernel
theorem dX5_goOnAt_5 : decode cX5_goOnAt 5 = .ok (.aload_n 0, 1) := by decide +kernel
theorem dX5_goOnAt_6 : decode cX5_goOnAt 6 = .ok (.getfield 21, 3) := by decide +kernel
theorem dX5_goOnAt_9 : decode cX5_goOnAt 9 = .ok (.arraylength, 1) := by decide +kernel
theorem dX5_goOnAt_10 : decode cX5_goOnAt 10 = .ok (.if_icmp .le 5, 3) := by decide +kernel
theorem dX5_goOnAt_13 : decode cX5_goOnAt 13 = .ok (.iconst 1, 1) := by decide +kernel
theorem dX5_goOnAt_14 : decode cX5_goOnAt 14 = .ok (.ireturn, 1) := by decide +kernel
theorem dX5_goOnAt_15 : decode cX5_goOnAt 15 = .ok (.aload_n 0, 1) := by decide +kernel
theorem dX5_goOnAt_16 : decode cX5_goOnAt 16 = .ok (.iload_n 1, 1) := by decide +kernel
theorem dX5_goOnAt_17 : decode cX5_goOnAt 17 = .ok (.putfield 43, 3) := by decide +kernel
theorem dX5_goOnAt_20 : decode cX5_goOnAt 20 = .ok (.iconst 0, 1) := by decide +kernel
theorem dX5_goOnAt_21 : decode cX5_goOnAt 21 = .ok (.ireturn, 1) := by decide +kernel
theorem dX5_lay_0 : decode cX5_lay 0 = .ok (.aload_n 0, 1) := by decide +kernel
theorem dX5_lay_1 : decode cX5_lay 1 = .ok (.getfield 39, 3) := by decide +kernel
theorem dX5_lay_4 : decode cX5_lay 4 = .ok (.ifCond .lt 35, 3) := by decide +kernel
theorem dX5_lay_7 : decode cX5_lay 7 = .ok (.aload_n 0, 1) := by decide +kernel
theorem dX5_lay_8 : decode cX5_lay 8 = .ok (.getfield 39, 3) := by decide +kernel
theorem dX5_lay_11 : decode cX5_lay 11 = .ok (.aload_n 0, 1) := by decide +kernel
theorem dX5_lay_12 : decode cX5_lay 12 = .ok (.getfield 9, 3) := by decide +kernel
theorem dX5_lay_15 : decode cX5_lay 15 = .ok (.arraylength, 1) := by decide +kernel
theorem dX5_lay_16 : decode cX5_lay 16 = .ok (.if_icmp .ge 23, 3) := by decide +kernel
theorem dX5_lay_19 : decode cX5_lay 19 = .ok (.aload_n 0, 1) := by decide +kernel
theorem dX5_lay_20 : decode cX5_lay 20 = .ok (.getfield 9, 3) := by decide +kernel
theorem dX5_lay_23 : decode cX5_lay 23 = .ok (.aload_n 0, 1) := by decide +kernel
theorem dX5_lay_24 : decode cX5_lay 24 = .ok (.getfield 39, 3) := by decide +kernel
theorem dX5_lay_27 : decode cX5_lay 27 = .ok (.lload_n 1, 1) := by decide +kernel
theorem dX5_lay_28 : decode cX5_lay 28 = .ok (.lastore, 1) := by decide +kernel
theorem dX5_lay_29 : decode cX5_lay 29 = .ok (.aload_n 0, 1) := by decide +kernel
theorem dX5_lay_30 : decode cX5_lay 30 = .ok (.dup, 1) := by decide +kernel
theorem dX5_lay_31 : decode cX5_lay 31 = .ok (.getfield 39, 3) := by decide +kernel
theorem dX5_lay_34 : decode cX5_lay 34 = .ok (.iconst 1, 1) := by decide +kernel
theorem dX5_lay_35 : decode cX5_lay 35 = .ok (.iadd, 1) := by decide +kernel
theorem dX5_lay_36 : decode cX5_lay 36 = .ok (.putfield 39, 3) := by decide +kernel
theorem dX5_lay_39 : decode cX5_lay 39 = .ok (.iconst 0, 1) := by decide +kernel
theorem dX5_lay_40 : decode cX5_lay 40 = .ok (.ireturn, 1) := by decide +kernel
theorem dX5_take_0 : decode cX5_take 0 = .ok (.aload_n 0, 1) := by decide +kernel
theorem dX5_take_1 : decode cX5_take 1 = .ok (.getfield 39, 3) := by decide +kernel
theorem dX5_take_4 : decode cX5_take 4 = .ok (.ifCond .le 15, 3) := by decide +kernel
theorem dX5_take_7 : decode cX5_take 7 = .ok (.aload_n 0, 1) := by decide +kernel
theorem dX5_take_8 : decode cX5_take 8 = .ok (.getfield 39, 3) := by decide +kernel
theorem dX5_take_11 : decode cX5_take 11 = .ok (.aload_n 0, 1) := by decide +kernel
theorem dX5_take_12 : decode cX5_take 12 = .ok (.getfield 9, 3) := by decide +kernel
theorem dX5_take_15 : decode cX5_take 15 = .ok (.arraylength, 1) := by decide +kernel
theorem dX5_take_16 : decode cX5_take 16 = .ok (.if_icmp .le 5, 3) := by decide +kernel
theorem dX5_take_19 : decode cX5_take 19 = .ok (.lconst 0, 1) := by decide +kernel
theorem dX5_take_20 : decode cX5_take 20 = .ok (.lreturn, 1) := by decide +kernel
theorem dX5_take_21 : decode cX5_take 21 = .ok (.aload_n 0, 1) := by decide +kernel
theorem dX5_take_22 : decode cX5_take 22 = .ok (.dup, 1) := by decide +kernel
theorem dX5_take_23 : decode cX5_take 23 = .ok (.getfield 39, 3) := by decide +kernel
theorem dX5_take_26 : decode cX5_take 26 = .ok (.iconst 1, 1) := by decide +kernel
theorem dX5_take_27 : decode cX5_take 27 = .ok (.isub, 1) := by decide +kernel
theorem dX5_take_28 : decode cX5_take 28 = .ok (.putfield 39, 3) := by decide +kernel
theorem dX5_take_31 : decode cX5_take 31 = .ok (.aload_n 0, 1) := by decide +kernel
theorem dX5_take_32 : decode cX5_take 32 = .ok (.getfield 9, 3) := by decide +kernel
theorem dX5_take_35 : decode cX5_take 35 = .ok (.aload_n 0, 1) := by decide +kernel
theorem dX5_take_36 : decode cX5_take 36 = .ok (.getfield 39, 3) := by decide +kernel
theorem dX5_take_39 : decode cX5_take 39 = .ok (.laload, 1) := by decide +kernel
theorem dX5_take_40 : decode cX5_take 40 = .ok (.lreturn, 1) := by decide +kernel
theorem dX6_init_0 : decode cX6_init 0 = .ok (.aload_n 0, 1) := by decide +kernel
theorem dX6_init_1 : decode cX6_init 1 = .ok (.invokespecial 1, 3) := by decide +kernel
theorem dX6_init_4 : decode cX6_init 4 = .ok (.aload_n 0, 1) := by decide +kernel
theorem dX6_init_5 : decode cX6_init 5 = .ok (.iconst 0, 1) := by decide +kernel
theorem dX6_init_6 : decode cX6_init 6 = .ok (.iload_n 1, 1) := by decide +kernel
theorem dX6_init_7 : decode cX6_init 7 = .ok (.ldc 9, 2) := by decide +kernel
theorem dX6_init_9 : decode cX6_init 9 = .ok (.invokestatic 10, 3) := by decide +kernel
theorem dX6_init_12 : decode cX6_init 12 = .ok (.invokestatic 16, 3) := by decide +kernel
theorem dX6_init_15 : decode cX6_init 15 = .ok (.putfield 19, 3) := by decide +kernel
theorem dX6_init_18 : decode cX6_init 18 = .ok (.aload_n 0, 1) := by decide +kernel
theorem dX6_init_19 : decode cX6_init 19 = .ok (.bipush 8, 2) := by decide +kernel
theorem dX6_init_21 : decode cX6_init 21 = .ok (.anewarray 23, 3) := by decide +kernel
theorem dX6_init_24 : decode cX6_init 24 = .ok (.putfield 25, 3) := by decide +kernel
theorem dX6_init_27 : decode cX6_init 27 = .ok (.iconst 0, 1) := by decide +kernel
theorem dX6_init_28 : decode cX6_init 28 = .ok (.istore_n 2, 1) := by decide +kernel
theorem dX6_init_29 : decode cX6_init 29 = .ok (.iload_n 2, 1) := by decide +kernel
theorem dX6_init_30 : decode cX6_init 30 = .ok (.aload_n 0, 1) := by decide +kernel
theorem dX6_init_31 : decode cX6_init 31 = .ok (.getfield 25, 3) := by decide +kernel
theorem dX6_init_34 : decode cX6_init 34 = .ok (.arraylength, 1) := by decide +kernel
theorem dX6_init_35 : decode cX6_init 35 = .ok (.if_icmp .ge 22, 3) := by decide +kernel
theorem dX6_init_38 : decode cX6_init 38 = .ok (.aload_n 0, 1) := by decide +kernel
theorem dX6_init_39 : decode cX6_init 39 = .ok (.getfield 25, 3) := by decide +kernel
theorem dX6_init_42 : decode cX6_init 42 = .ok (.iload_n 2, 1) := by decide +kernel
theorem dX6_init_43 : decode cX6_init 43 = .ok (.new 23, 3) := by decide +kernel
theorem dX6_init_46 : decode cX6_init 46 = .ok (.dup, 1) := by decide +kernel
theorem dX6_init_47 : decode cX6_init 47 = .ok (.invokespecial 29, 3) := by decide +kernel
theorem dX6_init_50 : decode cX6_init 50 = .ok (.aastore, 1) := by decide +kernel
theorem dX6_init_51 : decode cX6_init 51 = .ok (.iinc 2 1, 3) := by decide +kernel
theorem dX6_init_54 : decode cX6_init 54 = .ok (.goto (-25), 3) := by decide +kernel
theorem dX6_init_57 : decode cX6_init 57 = .ok (.aload_n 0, 1) := by decide +kernel
theorem dX6_init_58 : decode cX6_init 58 = .ok (.bipush 20, 2) := by decide +kernel
theorem dX6_init_60 : decode cX6_init 60 = .ok (.anewarray 30, 3) := by decide +kernel
theorem dX6_init_63 : decode cX6_init 63 = .ok (.putfield 32, 3) := by decide +kernel
theorem dX6_init_66 : decode cX6_init 66 = .ok (.aload_n 0, 1) := by decide +kernel
theorem dX6_init_67 : decode cX6_init 67 = .ok (.new 36, 3) := by decide +kernel
theorem dX6_init_70 : decode cX6_init 70 = .ok (.dup, 1) := by decide +kernel
theorem dX6_init_71 : decode cX6_init 71 = .ok (.invokespecial 38, 3) := by decide +kernel
theorem dX6_init_74 : decode cX6_init 74 = .ok (.putfield 39, 3) := by decide +kernel
theorem dX6_init_77 : decode cX6_init 77 = .ok (.aload_n 0, 1) := by decide +kernel
theorem dX6_init_78 : decode cX6_init 78 = .ok (.bipush 120, 2) := by decide +kernel
theorem dX6_init_80 : decode cX6_init 80 = .ok (.newarray .byte, 2) := by decide +kernel
theorem dX6_init_82 : decode cX6_init 82 = .ok (.putfield 43, 3) := by decide +kernel
theorem dX6_init_85 : decode cX6_init 85 = .ok (.return_, 1) := by decide +kernel
theorem dX6_file_0 : decode cX6_file 0 = .ok (.iload_n 3, 1) := by decide +kernel
theorem dX6_file_1 : decode cX6_file 1 = .ok (.iconst 1, 1) := by decide +kernel
theorem dX6_file_2 : decode cX6_file 2 = .ok (.if_icmp .lt 9, 3) := by decide +kernel
theorem dX6_file_5 : decode cX6_file 5 = .ok (.iload_n 3, 1) := by decide +kernel
theorem dX6_file_6 : decode cX6_file 6 = .ok (.bipush 8, 2) := by decide +kernel
theorem dX6_file_8 : decode cX6_file 8 = .ok (.if_icmp .le 10, 3) := by decide +kernel
theorem dX6_file_11 : decode cX6_file 11 = .ok (.aload_n 0, 1) := by decide +kernel
theorem dX6_file_12 : decode cX6_file 12 = .ok (.bipush (-2), 2) := by decide +kernel
theorem dX6_file_14 : decode cX6_file 14 = .ok (.invokevirtual 47, 3) := by decide +kernel
theorem dX6_file_17 : decode cX6_file 17 = .ok (.ireturn, 1) := by decide +kernel
theorem dX6_file_18 : decode cX6_file 18 = .ok (.aload_n 0, 1) := by decide +kernel
theorem dX6_file_19 : decode cX6_file 19 = .ok (.getfield 51, 3) := by decide +kernel
theorem dX6_file_22 : decode cX6_file 22 = .ok (.iload_n 3, 1) := by decide +kernel
theorem dX6_file_23 : decode cX6_file 23 = .ok (.iadd, 1) := by decide +kernel
theorem dX6_file_24 : decode cX6_file 24 = .ok (.aload_n 0, 1) := by decide +kernel
theorem dX6_file_25 : decode cX6_file 25 = .ok (.getfield 43, 3) := by decide +kernel
theorem dX6_file_28 : decode cX6_file 28 = .ok (.arraylength, 1) := by decide +kernel
theorem dX6_file_29 : decode cX6_file 29 = .ok (.if_icmp .le 10, 3) := by decide +kernel
theorem dX6_file_32 : decode cX6_file 32 = .ok (.aload_n 0, 1) := by decide +kernel
theorem dX6_file_33 : decode cX6_file 33 = .ok (.bipush (-4), 2) := by decide +kernel
theorem dX6_file_35 : decode cX6_file 35 = .ok (.invokevirtual 47, 3) := by decide +kernel
theorem dX6_file_38 : decode cX6_file 38 = .ok (.ireturn, 1) := by decide +kernel
theorem dX6_file_39 : decode cX6_file 39 = .ok (.iload_n 3, 1) := by decide +kernel
theorem dX6_file_40 : decode cX6_file 40 = .ok (.iconst 1, 1) := by decide +kernel
theorem dX6_file_41 : decode cX6_file 41 = .ok (.isub, 1) := by decide +kernel
theorem dX6_file_42 : decode cX6_file 42 = .ok (.istore 4, 2) := by decide +kernel
theorem dX6_file_44 : decode cX6_file 44 = .ok (.iload 4, 2) := by decide +kernel
theorem dX6_file_46 : decode cX6_file 46 = .ok (.ifCond .lt 22, 3) := by decide +kernel
theorem dX6_file_49 : decode cX6_file 49 = .ok (.aload_n 0, 1) := by decide +kernel
theorem dX6_file_50 : decode cX6_file 50 = .ok (.lload_n 1, 1) := by decide +kernel
theorem dX6_file_51 : decode cX6_file 51 = .ok (.bipush 8, 2) := by decide +kernel
theorem dX6_file_53 : decode cX6_file 53 = .ok (.iload 4, 2) := by decide +kernel
theorem dX6_file_55 : decode cX6_file 55 = .ok (.imul, 1) := by decide +kernel
theorem dX6_file_56 : decode cX6_file 56 = .ok (.lshr, 1) := by decide +kernel
theorem dX6_file_57 : decode cX6_file 57 = .ok (.l2i, 1) := by decide +kernel
theorem dX6_file_58 : decode cX6_file 58 = .ok (.i2b, 1) := by decide +kernel
theorem dX6_file_59 : decode cX6_file 59 = .ok (.invokevirtual 54, 3) := by decide +kernel
theorem dX6_file_62 : decode cX6_file 62 = .ok (.iinc 4 (-1), 3) := by decide +kernel
theorem dX6_file_65 : decode cX6_file 65 = .ok (.goto (-21), 3) := by decide +kernel
theorem dX6_file_68 : decode cX6_file 68 = .ok (.aload_n 0, 1) := by decide +kernel
theorem dX6_file_69 : decode cX6_file 69 = .ok (.getfield 51, 3) := by decide +kernel
theorem dX6_file_72 : decode cX6_file 72 = .ok (.ireturn, 1) := by decide +kernel
theorem dX6_runnable_0 : decode cX6_runnable 0 = .ok (.aload_n 0, 1) := by decide +kernel
theorem dX6_runnable_1 : decode cX6_runnable 1 = .ok (.iload_n 1, 1) := by decide +kernel
theorem dX6_runnable_2 : decode cX6_runnable 2 = .ok (.invokevirtual 58, 3) := by decide +kernel
theorem dX6_runnable_5 : decode cX6_runnable 5 = .ok (.astore_n 2, 1) := by decide +kernel
theorem dX6_runnable_6 : decode cX6_runnable 6 = .ok (.iload_n 1, 1) := by decide +kernel
theorem dX6_runnable_7 : decode cX6_runnable 7 = .ok (.ifCond .eq 13, 3) := by decide +kernel
theorem dX6_runnable_10 : decode cX6_runnable 10 = .ok (.aload_n 2, 1) := by decide +kernel
theorem dX6_runnable_11 : decode cX6_runnable 11 = .ok (.ifnonnull 9, 3) := by decide +kernel
theorem dX6_runnable_14 : decode cX6_runnable 14 = .ok (.aload_n 0, 1) := by decide +kernel
theorem dX6_runnable_15 : decode cX6_runnable 15 = .ok (.iconst (-1), 1) := by decide +kernel
theorem dX6_runnable_16 : decode cX6_runnable 16 = .ok (.invokevirtual 47, 3) := by decide +kernel
theorem dX6_runnable_19 : decode cX6_runnable 19 = .ok (.ireturn, 1) := by decide +kernel
theorem dX6_runnable_20 : decode cX6_runnable 20 = .ok (.aload_n 0, 1) := by decide +kernel
theorem dX6_runnable_21 : decode cX6_runnable 21 = .ok (.getfield 43, 3) := by decide +kernel
theorem dX6_runnable_24 : decode cX6_runnable 24 = .ok (.aload_n 0, 1) := by decide +kernel
theorem dX6_runnable_25 : decode cX6_runnable 25 = .ok (.getfield 51, 3) := by decide +kernel
theorem dX6_runnable_28 : decode cX6_runnable 28 = .ok (.invokestatic 62, 3) := by decide +kernel
theorem dX6_runnable_31 : decode cX6_runnable 31 = .ok (.ifCond .ne 15, 3) := by decide +kernel
theorem dX6_runnable_34 : decode cX6_runnable 34 = .ok (.aload_n 0, 1) := by decide +kernel
theorem dX6_runnable_35 : decode cX6_runnable 35 = .ok (.iconst 0, 1) := by decide +kernel
theorem dX6_runnable_36 : decode cX6_runnable 36 = .ok (.putfield 51, 3) := by decide +kernel
theorem dX6_runnable_39 : decode cX6_runnable 39 = .ok (.aload_n 0, 1) := by decide +kernel
theorem dX6_runnable_40 : decode cX6_runnable 40 = .ok (.bipush (-2), 2) := by decide +kernel
theorem dX6_runnable_42 : decode cX6_runnable 42 = .ok (.invokevirtual 47, 3) := by decide +kernel
theorem dX6_runnable_45 : decode cX6_runnable 45 = .ok (.ireturn, 1) := by decide +kernel
theorem dX6_runnable_46 : decode cX6_runnable 46 = .ok (.aload_n 2, 1) := by decide +kernel
theorem dX6_runnable_47 : decode cX6_runnable 47 = .ok (.ifnonnull 8, 3) := by decide +kernel
theorem dX6_runnable_50 : decode cX6_runnable 50 = .ok (.aload_n 0, 1) := by decide +kernel
theorem dX6_runnable_51 : decode cX6_runnable 51 = .ok (.invokevirtual 66, 3) := by decide +kernel
theorem dX6_runnable_54 : decode cX6_runnable 54 = .ok (.ireturn, 1) := by decide +kernel
theorem dX6_runnable_55 : decode cX6_runnable 55 = .ok (.aload_n 0, 1) := by decide +kernel
theorem dX6_runnable_56 : decode cX6_runnable 56 = .ok (.iload_n 1, 1) := by decide +kernel
theorem dX6_runnable_57 : decode cX6_runnable 57 = .ok (.aload_n 2, 1) := by decide +kernel
theorem dX6_runnable_58 : decode cX6_runnable 58 = .ok (.getfield 70, 3) := by decide +kernel
theorem dX6_runnable_61 : decode cX6_runnable 61 = .ok (.invokevirtual 73, 3) := by decide +kernel
theorem dX6_runnable_64 : decode cX6_runnable 64 = .ok (.ireturn, 1) := by decide +kernel
theorem dX6_make_0 : decode cX6_make 0 = .ok (.aload_n 0, 1) := by decide +kernel
theorem dX6_make_1 : decode cX6_make 1 = .ok (.iload_n 1, 1) := by decide +kernel
theorem dX6_make_2 : decode cX6_make 2 = .ok (.invokevirtual 76, 3) := by decide +kernel
theorem dX6_make_5 : decode cX6_make 5 = .ok (.astore_n 3, 1) := by decide +kernel
theorem dX6_make_6 : decode cX6_make 6 = .ok (.aload_n 0, 1) := by decide +kernel
theorem dX6_make_7 : decode cX6_make 7 = .ok (.iload_n 2, 1) := by decide +kernel
theorem dX6_make_8 : decode cX6_make 8 = .ok (.invokevirtual 58, 3) := by decide +kernel
theorem dX6_make_11 : decode cX6_make 11 = .ok (.astore 4, 2) := by decide +kernel
theorem dX6_make_13 : decode cX6_make 13 = .ok (.aload_n 3, 1) := by decide +kernel
theorem dX6_make_14 : decode cX6_make 14 = .ok (.ifnull 8, 3) := by decide +kernel
theorem dX6_make_17 : decode cX6_make 17 = .ok (.aload 4, 2) := by decide +kernel
theorem dX6_make_19 : decode cX6_make 19 = .ok (.ifnonnull 9, 3) := by decide +kernel
theorem dX6_make_22 : decode cX6_make 22 = .ok (.aload_n 0, 1) := by decide +kernel
theorem dX6_make_23 : decode cX6_make 23 = .ok (.iconst (-1), 1) := by decide +kernel
theorem dX6_make_24 : decode cX6_make 24 = .ok (.invokevirtual 47, 3) := by decide +kernel
theorem dX6_make_27 : decode cX6_make 27 = .ok (.ireturn, 1) := by decide +kernel
theorem dX6_make_28 : decode cX6_make 28 = .ok (.aload_n 3, 1) := by decide +kernel
theorem dX6_make_29 : decode cX6_make 29 = .ok (.getfield 80, 3) := by decide +kernel
theorem dX6_make_32 : decode cX6_make 32 = .ok (.ifCond .ne 11, 3) := by decide +kernel
theorem dX6_make_35 : decode cX6_make 35 = .ok (.aload_n 3, 1) := by decide +kernel
theorem dX6_make_36 : decode cX6_make 36 = .ok (.iload_n 2, 1) := by decide +kernel
theorem dX6_make_37 : decode cX6_make 37 = .ok (.invokevirtual 84, 3) := by decide +kernel
theorem dX6_make_40 : decode cX6_make 40 = .ok (.ifnull 10, 3) := by decide +kernel
theorem dX6_make_43 : decode cX6_make 43 = .ok (.aload_n 0, 1) := by decide +kernel
theorem dX6_make_44 : decode cX6_make 44 = .ok (.bipush (-3), 2) := by decide +kernel
theorem dX6_make_46 : decode cX6_make 46 = .ok (.invokevirtual 47, 3) := by decide +kernel
theorem dX6_make_49 : decode cX6_make 49 = .ok (.ireturn, 1) := by decide +kernel
theorem dX6_make_50 : decode cX6_make 50 = .ok (.aload_n 3, 1) := by decide +kernel
theorem dX6_make_51 : decode cX6_make 51 = .ok (.iload_n 2, 1) := by decide +kernel
theorem dX6_make_52 : decode cX6_make 52 = .ok (.new 88, 3) := by decide +kernel
theorem dX6_make_55 : decode cX6_make 55 = .ok (.dup, 1) := by decide +kernel
theorem dX6_make_56 : decode cX6_make 56 = .ok (.aload 4, 2) := by decide +kernel
theorem dX6_make_58 : decode cX6_make 58 = .ok (.getfield 70, 3) := by decide +kernel
theorem dX6_make_61 : decode cX6_make 61 = .ok (.invokespecial 90, 3) := by decide +kernel
theorem dX6_make_64 : decode cX6_make 64 = .ok (.invokevirtual 93, 3) := by decide +kernel
theorem dX6_make_67 : decode cX6_make 67 = .ok (.iconst 1, 1) := by decide +kernel
theorem dX6_make_68 : decode cX6_make 68 = .ok (.ireturn, 1) := by decide +kernel
theorem dX6_power_0 : decode cX6_power 0 = .ok (.aload_n 0, 1) := by decide +kernel
theorem dX6_power_1 : decode cX6_power 1 = .ok (.iload_n 1, 1) := by decide +kernel
theorem dX6_power_2 : decode cX6_power 2 = .ok (.invokevirtual 76, 3) := by decide +kernel
theorem dX6_power_5 : decode cX6_power 5 = .ok (.astore_n 2, 1) := by decide +kernel
theorem dX6_power_6 : decode cX6_power 6 = .ok (.aload_n 2, 1) := by decide +kernel
theorem dX6_power_7 : decode cX6_power 7 = .ok (.ifnonnull 9, 3) := by decide +kernel
theorem dX6_power_10 : decode cX6_power 10 = .ok (.aload_n 0, 1) := by decide +kernel
theorem dX6_power_11 : decode cX6_power 11 = .ok (.iconst (-1), 1) := by decide +kernel
theorem dX6_power_12 : decode cX6_power 12 = .ok (.invokevirtual 47, 3) := by decide +kernel
theorem dX6_power_15 : decode cX6_power 15 = .ok (.ireturn, 1) := by decide +kernel
theorem dX6_power_16 : decode cX6_power 16 = .ok (.aload_n 2, 1) := by decide +kernel
theorem dX6_power_17 : decode cX6_power 17 = .ok (.getfield 80, 3) := by decide +kernel
theorem dX6_power_20 : decode cX6_power 20 = .ok (.ifCond .eq 10, 3) := by decide +kernel
theorem dX6_power_23 : decode cX6_power 23 = .ok (.aload_n 0, 1) := by decide +kernel
theorem dX6_power_24 : decode cX6_power 24 = .ok (.bipush (-3), 2) := by decide +kernel
theorem dX6_power_26 : decode cX6_power 26 = .ok (.invokevirtual 47, 3) := by decide +kernel
theorem dX6_power_29 : decode cX6_power 29 = .ok (.ireturn, 1) := by decide +kernel
theorem dX6_power_30 : decode cX6_power 30 = .ok (.iconst 1, 1) := by decide +kernel
theorem dX6_power_31 : decode cX6_power 31 = .ok (.istore_n 3, 1) := by decide +kernel
theorem dX6_power_32 : decode cX6_power 32 = .ok (.iload_n 3, 1) := by decide +kernel
theorem dX6_power_33 : decode cX6_power 33 = .ok (.aload_n 0, 1) := by decide +kernel
theorem dX6_power_34 : decode cX6_power 34 = .ok (.getfield 97, 3) := by decide +kernel
theorem dX6_power_37 : decode cX6_power 37 = .ok (.if_icmp .gt 28, 3) := by decide +kernel
theorem dX6_power_40 : decode cX6_power 40 = .ok (.aload_n 0, 1) := by decide +kernel
theorem dX6_power_41 : decode cX6_power 41 = .ok (.aload_n 2, 1) := by decide +kernel
theorem dX6_power_42 : decode cX6_power 42 = .ok (.iload_n 3, 1) := by decide +kernel
theorem dX6_power_43 : decode cX6_power 43 = .ok (.invokevirtual 100, 3) := by decide +kernel
theorem dX6_power_46 : decode cX6_power 46 = .ok (.istore 4, 2) := by decide +kernel
theorem dX6_power_48 : decode cX6_power 48 = .ok (.iload 4, 2) := by decide +kernel
theorem dX6_power_50 : decode cX6_power 50 = .ok (.ifCond .eq 9, 3) := by decide +kernel
theorem dX6_power_53 : decode cX6_power 53 = .ok (.bipush 10, 2) := by decide +kernel
theorem dX6_power_55 : decode cX6_power 55 = .ok (.iload 4, 2) := by decide +kernel
theorem dX6_power_57 : decode cX6_power 57 = .ok (.iadd, 1) := by decide +kernel
theorem dX6_power_58 : decode cX6_power 58 = .ok (.ireturn, 1) := by decide +kernel
theorem dX6_power_59 : decode cX6_power 59 = .ok (.iinc 3 1, 3) := by decide +kernel
theorem dX6_power_62 : decode cX6_power 62 = .ok (.goto (-30), 3) := by decide +kernel
theorem dX6_power_65 : decode cX6_power 65 = .ok (.aload_n 2, 1) := by decide +kernel
theorem dX6_power_66 : decode cX6_power 66 = .ok (.iconst 1, 1) := by decide +kernel
theorem dX6_power_67 : decode cX6_power 67 = .ok (.putfield 80, 3) := by decide +kernel
theorem dX6_power_70 : decode cX6_power 70 = .ok (.iconst 1, 1) := by decide +kernel
theorem dX6_power_71 : decode cX6_power 71 = .ok (.ireturn, 1) := by decide +kernel
theorem dX6_run_0 : decode cX6_run 0 = .ok (.aload_n 0, 1) := by decide +kernel
theorem dX6_run_1 : decode cX6_run 1 = .ok (.iload_n 1, 1) := by decide +kernel
theorem dX6_run_2 : decode cX6_run 2 = .ok (.iload_n 2, 1) := by decide +kernel
theorem dX6_run_3 : decode cX6_run 3 = .ok (.iconst 0, 1) := by decide +kernel
theorem dX6_run_4 : decode cX6_run 4 = .ok (.invokevirtual 104, 3) := by decide +kernel
theorem dX6_run_7 : decode cX6_run 7 = .ok (.ireturn, 1) := by decide +kernel
theorem dX6_beside_0 : decode cX6_beside 0 = .ok (.aload_n 0, 1) := by decide +kernel
theorem dX6_beside_1 : decode cX6_beside 1 = .ok (.iload_n 1, 1) := by decide +kernel
theorem dX6_beside_2 : decode cX6_beside 2 = .ok (.iload_n 2, 1) := by decide +kernel
theorem dX6_beside_3 : decode cX6_beside 3 = .ok (.iconst 1, 1) := by decide +kernel
theorem dX6_beside_4 : decode cX6_beside 4 = .ok (.invokevirtual 104, 3) := by decide +kernel
theorem dX6_beside_7 : decode cX6_beside 7 = .ok (.ireturn, 1) := by decide +kernel
theorem dX6_port_0 : decode cX6_port 0 = .ok (.aload_n 0, 1) := by decide +kernel
theorem dX6_port_1 : decode cX6_port 1 = .ok (.iload_n 1, 1) := by decide +kernel
theorem dX6_port_2 : decode cX6_port 2 = .ok (.invokevirtual 76, 3) := by decide +kernel
theorem dX6_port_5 : decode cX6_port 5 = .ok (.astore_n 3, 1) := by decide +kernel
theorem dX6_port_6 : decode cX6_port 6 = .ok (.aload_n 3, 1) := by decide +kernel
theorem dX6_port_7 : decode cX6_port 7 = .ok (.ifnonnull 7, 3) := by decide +kernel
theorem dX6_port_10 : decode cX6_port 10 = .ok (.lconst 0, 1) := by decide +kernel
theorem dX6_port_11 : decode cX6_port 11 = .ok (.goto 11, 3) := by decide +kernel
theorem dX6_port_14 : decode cX6_port 14 = .ok (.aload_n 3, 1) := by decide +kernel
theorem dX6_port_15 : decode cX6_port 15 = .ok (.getfield 108, 3) := by decide +kernel
theorem dX6_port_18 : decode cX6_port 18 = .ok (.iload_n 2, 1) := by decide +kernel
theorem dX6_port_19 : decode cX6_port 19 = .ok (.invokestatic 112, 3) := by decide +kernel
theorem dX6_port_22 : decode cX6_port 22 = .ok (.lreturn, 1) := by decide +kernel
theorem dX6_set_0 : decode cX6_set 0 = .ok (.aload_n 0, 1) := by decide +kernel
theorem dX6_set_1 : decode cX6_set 1 = .ok (.iload_n 1, 1) := by decide +kernel
theorem dX6_set_2 : decode cX6_set 2 = .ok (.invokevirtual 76, 3) := by decide +kernel
theorem dX6_set_5 : decode cX6_set 5 = .ok (.astore 5, 2) := by decide +kernel
theorem dX6_set_7 : decode cX6_set 7 = .ok (.aload 5, 2) := by decide +kernel
theorem dX6_set_9 : decode cX6_set 9 = .ok (.ifnull 17, 3) := by decide +kernel
theorem dX6_set_12 : decode cX6_set 12 = .ok (.iload_n 2, 1) := by decide +kernel
theorem dX6_set_13 : decode cX6_set 13 = .ok (.ifCond .lt 13, 3) := by decide +kernel
theorem dX6_set_16 : decode cX6_set 16 = .ok (.iload_n 2, 1) := by decide +kernel
theorem dX6_set_17 : decode cX6_set 17 = .ok (.aload 5, 2) := by decide +kernel
theorem dX6_set_19 : decode cX6_set 19 = .ok (.getfield 108, 3) := by decide +kernel
theorem dX6_set_22 : decode cX6_set 22 = .ok (.arraylength, 1) := by decide +kernel
theorem dX6_set_23 : decode cX6_set 23 = .ok (.if_icmp .lt 9, 3) := by decide +kernel
theorem dX6_set_26 : decode cX6_set 26 = .ok (.aload_n 0, 1) := by decide +kernel
theorem dX6_set_27 : decode cX6_set 27 = .ok (.iconst (-1), 1) := by decide +kernel
theorem dX6_set_28 : decode cX6_set 28 = .ok (.invokevirtual 47, 3) := by decide +kernel
theorem dX6_set_31 : decode cX6_set 31 = .ok (.ireturn, 1) := by decide +kernel
theorem dX6_set_32 : decode cX6_set 32 = .ok (.aload 5, 2) := by decide +kernel
theorem dX6_set_34 : decode cX6_set 34 = .ok (.getfield 108, 3) := by decide +kernel
theorem dX6_set_37 : decode cX6_set 37 = .ok (.iload_n 2, 1) := by decide +kernel
theorem dX6_set_38 : decode cX6_set 38 = .ok (.lload_n 3, 1) := by decide +kernel
theorem dX6_set_39 : decode cX6_set 39 = .ok (.invokestatic 116, 3) := by decide +kernel
theorem dX6_set_42 : decode cX6_set 42 = .ok (.iconst 1, 1) := by decide +kernel
theorem dX6_set_43 : decode cX6_set 43 = .ok (.ireturn, 1) := by decide +kernel
theorem dX6_cell_0 : decode cX6_cell 0 = .ok (.aload_n 0, 1) := by decide +kernel
theorem dX6_cell_1 : decode cX6_cell 1 = .ok (.iload_n 1, 1) := by decide +kernel
theorem dX6_cell_2 : decode cX6_cell 2 = .ok (.iload_n 2, 1) := by decide +kernel
theorem dX6_cell_3 : decode cX6_cell 3 = .ok (.invokevirtual 120, 3) := by decide +kernel
theorem dX6_cell_6 : decode cX6_cell 6 = .ok (.astore 4, 2) := by decide +kernel
theorem dX6_cell_8 : decode cX6_cell 8 = .ok (.aload 4, 2) := by decide +kernel
theorem dX6_cell_10 : decode cX6_cell 10 = .ok (.ifnonnull 7, 3) := by decide +kernel
theorem dX6_cell_13 : decode cX6_cell 13 = .ok (.lconst 0, 1) := by decide +kernel
theorem dX6_cell_14 : decode cX6_cell 14 = .ok (.goto 12, 3) := by decide +kernel
theorem dX6_cell_17 : decode cX6_cell 17 = .ok (.aload 4, 2) := by decide +kernel
theorem dX6_cell_19 : decode cX6_cell 19 = .ok (.getfield 124, 3) := by decide +kernel
theorem dX6_cell_22 : decode cX6_cell 22 = .ok (.iload_n 3, 1) := by decide +kernel
theorem dX6_cell_23 : decode cX6_cell 23 = .ok (.invokestatic 112, 3) := by decide +kernel
theorem dX6_cell_26 : decode cX6_cell 26 = .ok (.lreturn, 1) := by decide +kernel
theorem dX6_reaction_0 : decode cX6_reaction 0 = .ok (.aload_n 0, 1) := by decide +kernel
theorem dX6_reaction_1 : decode cX6_reaction 1 = .ok (.iload_n 1, 1) := by decide +kernel
theorem dX6_reaction_2 : decode cX6_reaction 2 = .ok (.invokevirtual 76, 3) := by decide +kernel
theorem dX6_reaction_5 : decode cX6_reaction 5 = .ok (.astore_n 3, 1) := by decide +kernel
theorem dX6_reaction_6 : decode cX6_reaction 6 = .ok (.aload_n 3, 1) := by decide +kernel
theorem dX6_reaction_7 : decode cX6_reaction 7 = .ok (.ifnonnull 9, 3) := by decide +kernel
theorem dX6_reaction_10 : decode cX6_reaction 10 = .ok (.aload_n 0, 1) := by decide +kernel
theorem dX6_reaction_11 : decode cX6_reaction 11 = .ok (.iconst (-1), 1) := by decide +kernel
theorem dX6_reaction_12 : decode cX6_reaction 12 = .ok (.invokevirtual 47, 3) := by decide +kernel
theorem dX6_reaction_15 : decode cX6_reaction 15 = .ok (.ireturn, 1) := by decide +kernel
theorem dX6_reaction_16 : decode cX6_reaction 16 = .ok (.iload_n 2, 1) := by decide +kernel
theorem dX6_reaction_17 : decode cX6_reaction 17 = .ok (.ifCond .lt 8, 3) := by decide +kernel
theorem dX6_reaction_20 : decode cX6_reaction 20 = .ok (.iload_n 2, 1) := by decide +kernel
theorem dX6_reaction_21 : decode cX6_reaction 21 = .ok (.iconst 2, 1) := by decide +kernel
theorem dX6_reaction_22 : decode cX6_reaction 22 = .ok (.if_icmp .le 10, 3) := by decide +kernel
theorem dX6_reaction_25 : decode cX6_reaction 25 = .ok (.aload_n 0, 1) := by decide +kernel
theorem dX6_reaction_26 : decode cX6_reaction 26 = .ok (.bipush (-2), 2) := by decide +kernel
theorem dX6_reaction_28 : decode cX6_reaction 28 = .ok (.invokevirtual 47, 3) := by decide +kernel
theorem dX6_reaction_31 : decode cX6_reaction 31 = .ok (.ireturn, 1) := by decide +kernel
theorem dX6_reaction_32 : decode cX6_reaction 32 = .ok (.aload_n 3, 1) := by decide +kernel
theorem dX6_reaction_33 : decode cX6_reaction 33 = .ok (.getfield 127, 3) := by decide +kernel
theorem dX6_reaction_36 : decode cX6_reaction 36 = .ok (.istore 4, 2) := by decide +kernel
theorem dX6_reaction_38 : decode cX6_reaction 38 = .ok (.aload_n 3, 1) := by decide +kernel
theorem dX6_reaction_39 : decode cX6_reaction 39 = .ok (.iload_n 2, 1) := by decide +kernel
theorem dX6_reaction_40 : decode cX6_reaction 40 = .ok (.putfield 127, 3) := by decide +kernel
theorem dX6_reaction_43 : decode cX6_reaction 43 = .ok (.iload 4, 2) := by decide +kernel
theorem dX6_reaction_45 : decode cX6_reaction 45 = .ok (.ireturn, 1) := by decide +kernel
theorem dX6_update_0 : decode cX6_update 0 = .ok (.aload_n 0, 1) := by decide +kernel
theorem dX6_update_1 : decode cX6_update 1 = .ok (.iload_n 1, 1) := by decide +kernel
theorem dX6_update_2 : decode cX6_update 2 = .ok (.invokevirtual 76, 3) := by decide +kernel
theorem dX6_update_5 : decode cX6_update 5 = .ok (.astore_n 3, 1) := by decide +kernel
theorem dX6_update_6 : decode cX6_update 6 = .ok (.aload_n 0, 1) := by decide +kernel
theorem dX6_update_7 : decode cX6_update 7 = .ok (.iload_n 2, 1) := by decide +kernel
theorem dX6_update_8 : decode cX6_update 8 = .ok (.invokevirtual 58, 3) := by decide +kernel
theorem dX6_update_11 : decode cX6_update 11 = .ok (.astore 4, 2) := by decide +kernel
theorem dX6_update_13 : decode cX6_update 13 = .ok (.aload_n 3, 1) := by decide +kernel
theorem dX6_update_14 : decode cX6_update 14 = .ok (.ifnull 8, 3) := by decide +kernel
theorem dX6_update_17 : decode cX6_update 17 = .ok (.aload 4, 2) := by decide +kernel
theorem dX6_update_19 : decode cX6_update 19 = .ok (.ifnonnull 9, 3) := by decide +kernel
theorem dX6_update_22 : decode cX6_update 22 = .ok (.aload_n 0, 1) := by decide +kernel
theorem dX6_update_23 : decode cX6_update 23 = .ok (.iconst (-1), 1) := by decide +kernel
theorem dX6_update_24 : decode cX6_update 24 = .ok (.invokevirtual 47, 3) := by decide +kernel
theorem dX6_update_27 : decode cX6_update 27 = .ok (.ireturn, 1) := by decide +kernel
theorem dX6_update_28 : decode cX6_update 28 = .ok (.aload_n 3, 1) := by decide +kernel
theorem dX6_update_29 : decode cX6_update 29 = .ok (.iload_n 2, 1) := by decide +kernel
theorem dX6_update_30 : decode cX6_update 30 = .ok (.invokevirtual 84, 3) := by decide +kernel
theorem dX6_update_33 : decode cX6_update 33 = .ok (.astore 5, 2) := by decide +kernel
theorem dX6_update_35 : decode cX6_update 35 = .ok (.aload 5, 2) := by decide +kernel
theorem dX6_update_37 : decode cX6_update 37 = .ok (.ifnull 16, 3) := by decide +kernel
theorem dX6_update_40 : decode cX6_update 40 = .ok (.aload 5, 2) := by decide +kernel
theorem dX6_update_42 : decode cX6_update 42 = .ok (.getfield 130, 3) := by decide +kernel
theorem dX6_update_45 : decode cX6_update 45 = .ok (.aload 4, 2) := by decide +kernel
theorem dX6_update_47 : decode cX6_update 47 = .ok (.getfield 70, 3) := by decide +kernel
theorem dX6_update_50 : decode cX6_update 50 = .ok (.if_icmp .ne 10, 3) := by decide +kernel
theorem dX6_update_53 : decode cX6_update 53 = .ok (.aload_n 0, 1) := by decide +kernel
theorem dX6_update_54 : decode cX6_update 54 = .ok (.bipush (-3), 2) := by decide +kernel
theorem dX6_update_56 : decode cX6_update 56 = .ok (.invokevirtual 47, 3) := by decide +kernel
theorem dX6_update_59 : decode cX6_update 59 = .ok (.ireturn, 1) := by decide +kernel
theorem dX6_update_60 : decode cX6_update 60 = .ok (.aload 5, 2) := by decide +kernel
theorem dX6_update_62 : decode cX6_update 62 = .ok (.aload 4, 2) := by decide +kernel
theorem dX6_update_64 : decode cX6_update 64 = .ok (.getfield 70, 3) := by decide +kernel
theorem dX6_update_67 : decode cX6_update 67 = .ok (.iconst 4, 1) := by decide +kernel
theorem dX6_update_68 : decode cX6_update 68 = .ok (.invokevirtual 133, 3) := by decide +kernel
theorem dX6_update_71 : decode cX6_update 71 = .ok (.iconst 1, 1) := by decide +kernel
theorem dX6_update_72 : decode cX6_update 72 = .ok (.ireturn, 1) := by decide +kernel
theorem dX6_reset_0 : decode cX6_reset 0 = .ok (.aload_n 0, 1) := by decide +kernel
theorem dX6_reset_1 : decode cX6_reset 1 = .ok (.iload_n 1, 1) := by decide +kernel
theorem dX6_reset_2 : decode cX6_reset 2 = .ok (.invokevirtual 76, 3) := by decide +kernel
theorem dX6_reset_5 : decode cX6_reset 5 = .ok (.astore_n 2, 1) := by decide +kernel
theorem dX6_reset_6 : decode cX6_reset 6 = .ok (.aload_n 2, 1) := by decide +kernel
theorem dX6_reset_7 : decode cX6_reset 7 = .ok (.ifnonnull 9, 3) := by decide +kernel
theorem dX6_reset_10 : decode cX6_reset 10 = .ok (.aload_n 0, 1) := by decide +kernel
theorem dX6_reset_11 : decode cX6_reset 11 = .ok (.iconst (-1), 1) := by decide +kernel
theorem dX6_reset_12 : decode cX6_reset 12 = .ok (.invokevirtual 47, 3) := by decide +kernel
theorem dX6_reset_15 : decode cX6_reset 15 = .ok (.ireturn, 1) := by decide +kernel
theorem dX6_reset_16 : decode cX6_reset 16 = .ok (.aload_n 2, 1) := by decide +kernel
theorem dX6_reset_17 : decode cX6_reset 17 = .ok (.iconst 0, 1) := by decide +kernel
theorem dX6_reset_18 : decode cX6_reset 18 = .ok (.putfield 80, 3) := by decide +kernel
theorem dX6_reset_21 : decode cX6_reset 21 = .ok (.aload_n 2, 1) := by decide +kernel
theorem dX6_reset_22 : decode cX6_reset 22 = .ok (.getfield 108, 3) := by decide +kernel
theorem dX6_reset_25 : decode cX6_reset 25 = .ok (.lconst 0, 1) := by decide +kernel
theorem dX6_reset_26 : decode cX6_reset 26 = .ok (.invokestatic 137, 3) := by decide +kernel
theorem dX6_reset_29 : decode cX6_reset 29 = .ok (.iconst 0, 1) := by decide +kernel
theorem dX6_reset_30 : decode cX6_reset 30 = .ok (.istore_n 3, 1) := by decide +kernel
theorem dX6_reset_31 : decode cX6_reset 31 = .ok (.iconst 1, 1) := by decide +kernel
theorem dX6_reset_32 : decode cX6_reset 32 = .ok (.istore 4, 2) := by decide +kernel
theorem dX6_reset_34 : decode cX6_reset 34 = .ok (.iload 4, 2) := by decide +kernel
theorem dX6_reset_36 : decode cX6_reset 36 = .ok (.aload_n 0, 1) := by decide +kernel
theorem dX6_reset_37 : decode cX6_reset 37 = .ok (.getfield 97, 3) := by decide +kernel
theorem dX6_reset_40 : decode cX6_reset 40 = .ok (.if_icmp .gt 49, 3) := by decide +kernel
theorem dX6_reset_43 : decode cX6_reset 43 = .ok (.aload_n 2, 1) := by decide +kernel
theorem dX6_reset_44 : decode cX6_reset 44 = .ok (.iload 4, 2) := by decide +kernel
theorem dX6_reset_46 : decode cX6_reset 46 = .ok (.invokevirtual 84, 3) := by decide +kernel
theorem dX6_reset_49 : decode cX6_reset 49 = .ok (.astore 5, 2) := by decide +kernel
theorem dX6_reset_51 : decode cX6_reset 51 = .ok (.aload_n 0, 1) := by decide +kernel
theorem dX6_reset_52 : decode cX6_reset 52 = .ok (.iload 4, 2) := by decide +kernel
theorem dX6_reset_54 : decode cX6_reset 54 = .ok (.invokevirtual 58, 3) := by decide +kernel
theorem dX6_reset_57 : decode cX6_reset 57 = .ok (.astore 6, 2) := by decide +kernel
theorem dX6_reset_59 : decode cX6_reset 59 = .ok (.aload 5, 2) := by decide +kernel
theorem dX6_reset_61 : decode cX6_reset 61 = .ok (.ifnull 22, 3) := by decide +kernel
theorem dX6_reset_64 : decode cX6_reset 64 = .ok (.aload 6, 2) := by decide +kernel
theorem dX6_reset_66 : decode cX6_reset 66 = .ok (.ifnull 17, 3) := by decide +kernel
theorem dX6_reset_69 : decode cX6_reset 69 = .ok (.aload 5, 2) := by decide +kernel
theorem dX6_reset_71 : decode cX6_reset 71 = .ok (.aload 6, 2) := by decide +kernel
theorem dX6_reset_73 : decode cX6_reset 73 = .ok (.getfield 70, 3) := by decide +kernel
theorem dX6_reset_76 : decode cX6_reset 76 = .ok (.iconst 0, 1) := by decide +kernel
theorem dX6_reset_77 : decode cX6_reset 77 = .ok (.invokevirtual 133, 3) := by decide +kernel
theorem dX6_reset_80 : decode cX6_reset 80 = .ok (.iinc 3 1, 3) := by decide +kernel
theorem dX6_reset_83 : decode cX6_reset 83 = .ok (.iinc 4 1, 3) := by decide +kernel
theorem dX6_reset_86 : decode cX6_reset 86 = .ok (.goto (-52), 3) := by decide +kernel
theorem dX6_reset_89 : decode cX6_reset 89 = .ok (.iload_n 3, 1) := by decide +kernel
theorem dX6_reset_90 : decode cX6_reset 90 = .ok (.ireturn, 1) := by decide +kernel
theorem dX6_fault_0 : decode cX6_fault 0 = .ok (.aload_n 0, 1) := by decide +kernel
theorem dX6_fault_1 : decode cX6_fault 1 = .ok (.iload_n 1, 1) := by decide +kernel
theorem dX6_fault_2 : decode cX6_fault 2 = .ok (.invokevirtual 76, 3) := by decide +kernel
theorem dX6_fault_5 : decode cX6_fault 5 = .ok (.astore_n 3, 1) := by decide +kernel
theorem dX6_fault_6 : decode cX6_fault 6 = .ok (.aload_n 3, 1) := by decide +kernel
theorem dX6_fault_7 : decode cX6_fault 7 = .ok (.ifnonnull 9, 3) := by decide +kernel
theorem dX6_fault_10 : decode cX6_fault 10 = .ok (.aload_n 0, 1) := by decide +kernel
theorem dX6_fault_11 : decode cX6_fault 11 = .ok (.iconst (-1), 1) := by decide +kernel
theorem dX6_fault_12 : decode cX6_fault 12 = .ok (.invokevirtual 47, 3) := by decide +kernel
theorem dX6_fault_15 : decode cX6_fault 15 = .ok (.ireturn, 1) := by decide +kernel
theorem dX6_fault_16 : decode cX6_fault 16 = .ok (.iload_n 2, 1) := by decide +kernel
theorem dX6_fault_17 : decode cX6_fault 17 = .ok (.tableswitch 77 0 5 #[39, 44, 49, 54, 59, 64], 39) := by decide +kernel
theorem dX6_fault_56 : decode cX6_fault 56 = .ok (.aload_n 3, 1) := by decide +kernel
theorem dX6_fault_57 : decode cX6_fault 57 = .ok (.getfield 143, 3) := by decide +kernel
theorem dX6_fault_60 : decode cX6_fault 60 = .ok (.ireturn, 1) := by decide +kernel
theorem dX6_fault_61 : decode cX6_fault 61 = .ok (.aload_n 3, 1) := by decide +kernel
theorem dX6_fault_62 : decode cX6_fault 62 = .ok (.getfield 146, 3) := by decide +kernel
theorem dX6_fault_65 : decode cX6_fault 65 = .ok (.ireturn, 1) := by decide +kernel
theorem dX6_fault_66 : decode cX6_fault 66 = .ok (.aload_n 3, 1) := by decide +kernel
theorem dX6_fault_67 : decode cX6_fault 67 = .ok (.getfield 149, 3) := by decide +kernel
theorem dX6_fault_70 : decode cX6_fault 70 = .ok (.ireturn, 1) := by decide +kernel
theorem dX6_fault_71 : decode cX6_fault 71 = .ok (.aload_n 3, 1) := by decide +kernel
theorem dX6_fault_72 : decode cX6_fault 72 = .ok (.getfield 152, 3) := by decide +kernel
theorem dX6_fault_75 : decode cX6_fault 75 = .ok (.ireturn, 1) := by decide +kernel
theorem dX6_fault_76 : decode cX6_fault 76 = .ok (.aload_n 3, 1) := by decide +kernel
theorem dX6_fault_77 : decode cX6_fault 77 = .ok (.getfield 155, 3) := by decide +kernel
theorem dX6_fault_80 : decode cX6_fault 80 = .ok (.ireturn, 1) := by decide +kernel
theorem dX6_fault_81 : decode cX6_fault 81 = .ok (.aload_n 3, 1) := by decide +kernel
theorem dX6_fault_82 : decode cX6_fault 82 = .ok (.getfield 80, 3) := by decide +kernel
theorem dX6_fault_85 : decode cX6_fault 85 = .ok (.ifCond .eq 7, 3) := by decide +kernel
theorem dX6_fault_88 : decode cX6_fault 88 = .ok (.iconst 1, 1) := by decide +kernel
theorem dX6_fault_89 : decode cX6_fault 89 = .ok (.goto 4, 3) := by decide +kernel
theorem dX6_fault_92 : decode cX6_fault 92 = .ok (.iconst 0, 1) := by decide +kernel
theorem dX6_fault_93 : decode cX6_fault 93 = .ok (.ireturn, 1) := by decide +kernel
theorem dX6_fault_94 : decode cX6_fault 94 = .ok (.aload_n 0, 1) := by decide +kernel
theorem dX6_fault_95 : decode cX6_fault 95 = .ok (.bipush (-2), 2) := by decide +kernel
theorem dX6_fault_97 : decode cX6_fault 97 = .ok (.invokevirtual 47, 3) := by decide +kernel
theorem dX6_fault_100 : decode cX6_fault 100 = .ok (.ireturn, 1) := by decide +kernel
theorem dX6_same_0 : decode cX6_same 0 = .ok (.aload_n 0, 1) := by decide +kernel
theorem dX6_same_1 : decode cX6_same 1 = .ok (.iload_n 1, 1) := by decide +kernel
theorem dX6_same_2 : decode cX6_same 2 = .ok (.iload_n 3, 1) := by decide +kernel
theorem dX6_same_3 : decode cX6_same 3 = .ok (.invokevirtual 120, 3) := by decide +kernel
theorem dX6_same_6 : decode cX6_same 6 = .ok (.astore 4, 2) := by decide +kernel
theorem dX6_same_8 : decode cX6_same 8 = .ok (.aload_n 0, 1) := by decide +kernel
theorem dX6_same_9 : decode cX6_same 9 = .ok (.iload_n 2, 1) := by decide +kernel
theorem dX6_same_10 : decode cX6_same 10 = .ok (.iload_n 3, 1) := by decide +kernel
theorem dX6_same_11 : decode cX6_same 11 = .ok (.invokevirtual 120, 3) := by decide +kernel
theorem dX6_same_14 : decode cX6_same 14 = .ok (.astore 5, 2) := by decide +kernel
theorem dX6_same_16 : decode cX6_same 16 = .ok (.aload 4, 2) := by decide +kernel
theorem dX6_same_18 : decode cX6_same 18 = .ok (.ifnull 21, 3) := by decide +kernel
theorem dX6_same_21 : decode cX6_same 21 = .ok (.aload 5, 2) := by decide +kernel
theorem dX6_same_23 : decode cX6_same 23 = .ok (.ifnull 16, 3) := by decide +kernel
theorem dX6_same_26 : decode cX6_same 26 = .ok (.aload 4, 2) := by decide +kernel
theorem dX6_same_28 : decode cX6_same 28 = .ok (.getfield 130, 3) := by decide +kernel
theorem dX6_same_31 : decode cX6_same 31 = .ok (.aload 5, 2) := by decide +kernel
theorem dX6_same_33 : decode cX6_same 33 = .ok (.getfield 130, 3) := by decide +kernel
theorem dX6_same_36 : decode cX6_same 36 = .ok (.if_icmp .eq 5, 3) := by decide +kernel
theorem dX6_same_39 : decode cX6_same 39 = .ok (.iconst 0, 1) := by decide +kernel
theorem dX6_same_40 : decode cX6_same 40 = .ok (.ireturn, 1) := by decide +kernel
theorem dX6_same_41 : decode cX6_same 41 = .ok (.iconst 0, 1) := by decide +kernel
theorem dX6_same_42 : decode cX6_same 42 = .ok (.istore 6, 2) := by decide +kernel
theorem dX6_same_44 : decode cX6_same 44 = .ok (.iload 6, 2) := by decide +kernel
theorem dX6_same_46 : decode cX6_same 46 = .ok (.bipush 8, 2) := by decide +kernel
theorem dX6_same_48 : decode cX6_same 48 = .ok (.if_icmp .ge 35, 3) := by decide +kernel
theorem dX6_same_51 : decode cX6_same 51 = .ok (.aload 4, 2) := by decide +kernel
theorem dX6_same_53 : decode cX6_same 53 = .ok (.getfield 124, 3) := by decide +kernel
theorem dX6_same_56 : decode cX6_same 56 = .ok (.iload 6, 2) := by decide +kernel
theorem dX6_same_58 : decode cX6_same 58 = .ok (.invokestatic 112, 3) := by decide +kernel
theorem dX6_same_61 : decode cX6_same 61 = .ok (.aload 5, 2) := by decide +kernel
theorem dX6_same_63 : decode cX6_same 63 = .ok (.getfield 124, 3) := by decide +kernel
theorem dX6_same_66 : decode cX6_same 66 = .ok (.iload 6, 2) := by decide +kernel
theorem dX6_same_68 : decode cX6_same 68 = .ok (.invokestatic 112, 3) := by decide +kernel
theorem dX6_same_71 : decode cX6_same 71 = .ok (.lcmp, 1) := by decide +kernel
theorem dX6_same_72 : decode cX6_same 72 = .ok (.ifCond .eq 5, 3) := by decide +kernel
theorem dX6_same_75 : decode cX6_same 75 = .ok (.iconst 0, 1) := by decide +kernel
theorem dX6_same_76 : decode cX6_same 76 = .ok (.ireturn, 1) := by decide +kernel
theorem dX6_same_77 : decode cX6_same 77 = .ok (.iinc 6 1, 3) := by decide +kernel
theorem dX6_same_80 : decode cX6_same 80 = .ok (.goto (-36), 3) := by decide +kernel
theorem dX6_same_83 : decode cX6_same 83 = .ok (.iconst 1, 1) := by decide +kernel
theorem dX6_same_84 : decode cX6_same 84 = .ok (.ireturn, 1) := by decide +kernel
theorem dX6_handle_0 : decode cX6_handle 0 = .ok (.aload_n 0, 1) := by decide +kernel
theorem dX6_handle_1 : decode cX6_handle 1 = .ok (.iload_n 1, 1) := by decide +kernel
theorem dX6_handle_2 : decode cX6_handle 2 = .ok (.iload_n 2, 1) := by decide +kernel
theorem dX6_handle_3 : decode cX6_handle 3 = .ok (.invokevirtual 120, 3) := by decide +kernel
theorem dX6_handle_6 : decode cX6_handle 6 = .ok (.astore_n 3, 1) := by decide +kernel
theorem dX6_handle_7 : decode cX6_handle 7 = .ok (.aload_n 3, 1) := by decide +kernel
theorem dX6_handle_8 : decode cX6_handle 8 = .ok (.ifnull 21, 3) := by decide +kernel
theorem dX6_handle_11 : decode cX6_handle 11 = .ok (.aload_n 3, 1) := by decide +kernel
theorem dX6_handle_12 : decode cX6_handle 12 = .ok (.getfield 158, 3) := by decide +kernel
theorem dX6_handle_15 : decode cX6_handle 15 = .ok (.iconst (-1), 1) := by decide +kernel
theorem dX6_handle_16 : decode cX6_handle 16 = .ok (.if_icmp .eq 13, 3) := by decide +kernel
theorem dX6_handle_19 : decode cX6_handle 19 = .ok (.new 161, 3) := by decide +kernel
theorem dX6_handle_22 : decode cX6_handle 22 = .ok (.dup, 1) := by decide +kernel
theorem dX6_handle_23 : decode cX6_handle 23 = .ok (.ldc 163, 2) := by decide +kernel
theorem dX6_handle_25 : decode cX6_handle 25 = .ok (.invokespecial 165, 3) := by decide +kernel
theorem dX6_handle_28 : decode cX6_handle 28 = .ok (.athrow, 1) := by decide +kernel
theorem dX6_handle_29 : decode cX6_handle 29 = .ok (.aload_n 0, 1) := by decide +kernel
theorem dX6_handle_30 : decode cX6_handle 30 = .ok (.iload_n 1, 1) := by decide +kernel
theorem dX6_handle_31 : decode cX6_handle 31 = .ok (.invokevirtual 76, 3) := by decide +kernel
theorem dX6_handle_34 : decode cX6_handle 34 = .ok (.ifnull 11, 3) := by decide +kernel
theorem dX6_handle_37 : decode cX6_handle 37 = .ok (.aload_n 0, 1) := by decide +kernel
theorem dX6_handle_38 : decode cX6_handle 38 = .ok (.iload_n 2, 1) := by decide +kernel
theorem dX6_handle_39 : decode cX6_handle 39 = .ok (.invokevirtual 58, 3) := by decide +kernel
theorem dX6_handle_42 : decode cX6_handle 42 = .ok (.ifnonnull 9, 3) := by decide +kernel
theorem dX6_handle_45 : decode cX6_handle 45 = .ok (.aload_n 0, 1) := by decide +kernel
theorem dX6_handle_46 : decode cX6_handle 46 = .ok (.iconst (-1), 1) := by decide +kernel
theorem dX6_handle_47 : decode cX6_handle 47 = .ok (.invokevirtual 47, 3) := by decide +kernel
theorem dX6_handle_50 : decode cX6_handle 50 = .ok (.ireturn, 1) := by decide +kernel
theorem dX6_handle_51 : decode cX6_handle 51 = .ok (.aload_n 0, 1) := by decide +kernel
theorem dX6_handle_52 : decode cX6_handle 52 = .ok (.bipush (-3), 2) := by decide +kernel
theorem dX6_handle_54 : decode cX6_handle 54 = .ok (.invokevirtual 47, 3) := by decide +kernel
theorem dX6_handle_57 : decode cX6_handle 57 = .ok (.ireturn, 1) := by decide +kernel
theorem dX6_octet_0 : decode cX6_octet 0 = .ok (.aload_n 0, 1) := by decide +kernel
theorem dX6_octet_1 : decode cX6_octet 1 = .ok (.iload_n 1, 1) := by decide +kernel
theorem dX6_octet_2 : decode cX6_octet 2 = .ok (.invokevirtual 58, 3) := by decide +kernel
theorem dX6_octet_5 : decode cX6_octet 5 = .ok (.astore_n 3, 1) := by decide +kernel
theorem dX6_octet_6 : decode cX6_octet 6 = .ok (.aload_n 3, 1) := by decide +kernel
theorem dX6_octet_7 : decode cX6_octet 7 = .ok (.ifnull 16, 3) := by decide +kernel
theorem dX6_octet_10 : decode cX6_octet 10 = .ok (.iload_n 2, 1) := by decide +kernel
theorem dX6_octet_11 : decode cX6_octet 11 = .ok (.ifCond .lt 12, 3) := by decide +kernel
theorem dX6_octet_14 : decode cX6_octet 14 = .ok (.iload_n 2, 1) := by decide +kernel
theorem dX6_octet_15 : decode cX6_octet 15 = .ok (.aload_n 3, 1) := by decide +kernel
theorem dX6_octet_16 : decode cX6_octet 16 = .ok (.getfield 168, 3) := by decide +kernel
theorem dX6_octet_19 : decode cX6_octet 19 = .ok (.arraylength, 1) := by decide +kernel
theorem dX6_octet_20 : decode cX6_octet 20 = .ok (.if_icmp .lt 13, 3) := by decide +kernel
theorem dX6_octet_23 : decode cX6_octet 23 = .ok (.new 171, 3) := by decide +kernel
theorem dX6_octet_26 : decode cX6_octet 26 = .ok (.dup, 1) := by decide +kernel
theorem dX6_octet_27 : decode cX6_octet 27 = .ok (.ldc 173, 2) := by decide +kernel
theorem dX6_octet_29 : decode cX6_octet 29 = .ok (.invokespecial 175, 3) := by decide +kernel
theorem dX6_octet_32 : decode cX6_octet 32 = .ok (.athrow, 1) := by decide +kernel
theorem dX6_octet_33 : decode cX6_octet 33 = .ok (.aload_n 3, 1) := by decide +kernel
theorem dX6_octet_34 : decode cX6_octet 34 = .ok (.getfield 168, 3) := by decide +kernel
theorem dX6_octet_37 : decode cX6_octet 37 = .ok (.iload_n 2, 1) := by decide +kernel
theorem dX6_octet_38 : decode cX6_octet 38 = .ok (.baload, 1) := by decide +kernel
theorem dX6_octet_39 : decode cX6_octet 39 = .ok (.ireturn, 1) := by decide +kernel
theorem dX6_divide_0 : decode cX6_divide 0 = .ok (.lload_n 3, 1) := by decide +kernel
theorem dX6_divide_1 : decode cX6_divide 1 = .ok (.lconst 0, 1) := by decide +kernel
theorem dX6_divide_2 : decode cX6_divide 2 = .ok (.lcmp, 1) := by decide +kernel
theorem dX6_divide_3 : decode cX6_divide 3 = .ok (.ifCond .ne 13, 3) := by decide +kernel
theorem dX6_divide_6 : decode cX6_divide 6 = .ok (.new 176, 3) := by decide +kernel
theorem dX6_divide_9 : decode cX6_divide 9 = .ok (.dup, 1) := by decide +kernel
theorem dX6_divide_10 : decode cX6_divide 10 = .ok (.ldc 178, 2) := by decide +kernel
theorem dX6_divide_12 : decode cX6_divide 12 = .ok (.invokespecial 180, 3) := by decide +kernel
theorem dX6_divide_15 : decode cX6_divide 15 = .ok (.athrow, 1) := by decide +kernel
theorem dX6_divide_16 : decode cX6_divide 16 = .ok (.lload_n 1, 1) := by decide +kernel
theorem dX6_divide_17 : decode cX6_divide 17 = .ok (.lload_n 3, 1) := by decide +kernel
theorem dX6_divide_18 : decode cX6_divide 18 = .ok (.ldiv, 1) := by decide +kernel
theorem dX6_divide_19 : decode cX6_divide 19 = .ok (.lreturn, 1) := by decide +kernel
theorem dX6_refused_0 : decode cX6_refused 0 = .ok (.aload_n 0, 1) := by decide +kernel
theorem dX6_refused_1 : decode cX6_refused 1 = .ok (.getfield 181, 3) := by decide +kernel
theorem dX6_refused_4 : decode cX6_refused 4 = .ok (.ireturn, 1) := by decide +kernel
theorem dX6_refuse_0 : decode cX6_refuse 0 = .ok (.aload_n 0, 1) := by decide +kernel
theorem dX6_refuse_1 : decode cX6_refuse 1 = .ok (.dup, 1) := by decide +kernel
theorem dX6_refuse_2 : decode cX6_refuse 2 = .ok (.getfield 181, 3) := by decide +kernel
theorem dX6_refuse_5 : decode cX6_refuse 5 = .ok (.iconst 1, 1) := by decide +kernel
theorem dX6_refuse_6 : decode cX6_refuse 6 = .ok (.iadd, 1) := by decide +kernel
theorem dX6_refuse_7 : decode cX6_refuse 7 = .ok (.putfield 181, 3) := by decide +kernel
theorem dX6_refuse_10 : decode cX6_refuse 10 = .ok (.iload_n 1, 1) := by decide +kernel
theorem dX6_refuse_11 : decode cX6_refuse 11 = .ok (.ireturn, 1) := by decide +kernel
theorem dX6_controllerAt_0 : decode cX6_controllerAt 0 = .ok (.iload_n 1, 1) := by decide +kernel
theorem dX6_controllerAt_1 : decode cX6_controllerAt 1 = .ok (.ifCond .lt 12, 3) := by decide +kernel
theorem dX6_controllerAt_4 : decode cX6_controllerAt 4 = .ok (.iload_n 1, 1) := by decide +kernel
theorem dX6_controllerAt_5 : decode cX6_controllerAt 5 = .ok (.aload_n 0, 1) := by decide +kernel
theorem dX6_controllerAt_6 : decode cX6_controllerAt 6 = .ok (.getfield 25, 3) := by decide +kernel
theorem dX6_controllerAt_9 : decode cX6_controllerAt 9 = .ok (.arraylength, 1) := by decide +kernel
theorem dX6_controllerAt_10 : decode cX6_controllerAt 10 = .ok (.if_icmp .lt 5, 3) := by decide +kernel
theorem dX6_controllerAt_13 : decode cX6_controllerAt 13 = .ok (.aconst_null, 1) := by decide +kernel
theorem dX6_controllerAt_14 : decode cX6_controllerAt 14 = .ok (.areturn, 1) := by decide +kernel
theorem dX6_controllerAt_15 : decode cX6_controllerAt 15 = .ok (.aload_n 0, 1) := by decide +kernel
theorem dX6_controllerAt_16 : decode cX6_controllerAt 16 = .ok (.getfield 25, 3) := by decide +kernel
theorem dX6_controllerAt_19 : decode cX6_controllerAt 19 = .ok (.iload_n 1, 1) := by decide +kernel
theorem dX6_controllerAt_20 : decode cX6_controllerAt 20 = .ok (.aaload, 1) := by decide +kernel
theorem dX6_controllerAt_21 : decode cX6_controllerAt 21 = .ok (.areturn, 1) := by decide +kernel
theorem dX6_newestOf_0 : decode cX6_newestOf 0 = .ok (.iload_n 1, 1) := by decide +kernel
theorem dX6_newestOf_1 : decode cX6_newestOf 1 = .ok (.iconst 1, 1) := by decide +kernel
theorem dX6_newestOf_2 : decode cX6_newestOf 2 = .ok (.if_icmp .lt 12, 3) := by decide +kernel
theorem dX6_newestOf_5 : decode cX6_newestOf 5 = .ok (.iload_n 1, 1) := by decide +kernel
theorem dX6_newestOf_6 : decode cX6_newestOf 6 = .ok (.aload_n 0, 1) := by decide +kernel
theorem dX6_newestOf_7 : decode cX6_newestOf 7 = .ok (.getfield 32, 3) := by decide +kernel
theorem dX6_newestOf_10 : decode cX6_newestOf 10 = .ok (.arraylength, 1) := by decide +kernel
theorem dX6_newestOf_11 : decode cX6_newestOf 11 = .ok (.if_icmp .le 5, 3) := by decide +kernel
theorem dX6_newestOf_14 : decode cX6_newestOf 14 = .ok (.aconst_null, 1) := by decide +kernel
theorem dX6_newestOf_15 : decode cX6_newestOf 15 = .ok (.areturn, 1) := by decide +kernel
theorem dX6_newestOf_16 : decode cX6_newestOf 16 = .ok (.aload_n 0, 1) := by decide +kernel
theorem dX6_newestOf_17 : decode cX6_newestOf 17 = .ok (.getfield 32, 3) := by decide +kernel
theorem dX6_newestOf_20 : decode cX6_newestOf 20 = .ok (.iload_n 1, 1) := by decide +kernel
theorem dX6_newestOf_21 : decode cX6_newestOf 21 = .ok (.iconst 1, 1) := by decide +kernel
theorem dX6_newestOf_22 : decode cX6_newestOf 22 = .ok (.isub, 1) := by decide +kernel
theorem dX6_newestOf_23 : decode cX6_newestOf 23 = .ok (.aaload, 1) := by decide +kernel
theorem dX6_newestOf_24 : decode cX6_newestOf 24 = .ok (.areturn, 1) := by decide +kernel
theorem dX6_classAt_0 : decode cX6_classAt 0 = .ok (.aload_n 0, 1) := by decide +kernel
theorem dX6_classAt_1 : decode cX6_classAt 1 = .ok (.iload_n 1, 1) := by decide +kernel
theorem dX6_classAt_2 : decode cX6_classAt 2 = .ok (.invokevirtual 76, 3) := by decide +kernel
theorem dX6_classAt_5 : decode cX6_classAt 5 = .ok (.astore_n 3, 1) := by decide +kernel
theorem dX6_classAt_6 : decode cX6_classAt 6 = .ok (.aload_n 3, 1) := by decide +kernel
theorem dX6_classAt_7 : decode cX6_classAt 7 = .ok (.ifnonnull 7, 3) := by decide +kernel
theorem dX6_classAt_10 : decode cX6_classAt 10 = .ok (.aconst_null, 1) := by decide +kernel
theorem dX6_classAt_11 : decode cX6_classAt 11 = .ok (.goto 8, 3) := by decide +kernel
theorem dX6_classAt_14 : decode cX6_classAt 14 = .ok (.aload_n 3, 1) := by decide +kernel
theorem dX6_classAt_15 : decode cX6_classAt 15 = .ok (.iload_n 2, 1) := by decide +kernel
theorem dX6_classAt_16 : decode cX6_classAt 16 = .ok (.invokevirtual 84, 3) := by decide +kernel
theorem dX6_classAt_19 : decode cX6_classAt 19 = .ok (.areturn, 1) := by decide +kernel
theorem dX6_putOctet_0 : decode cX6_putOctet 0 = .ok (.aload_n 0, 1) := by decide +kernel
theorem dX6_putOctet_1 : decode cX6_putOctet 1 = .ok (.getfield 51, 3) := by decide +kernel
theorem dX6_putOctet_4 : decode cX6_putOctet 4 = .ok (.ifCond .lt 35, 3) := by decide +kernel
theorem dX6_putOctet_7 : decode cX6_putOctet 7 = .ok (.aload_n 0, 1) := by decide +kernel
theorem dX6_putOctet_8 : decode cX6_putOctet 8 = .ok (.getfield 51, 3) := by decide +kernel
theorem dX6_putOctet_11 : decode cX6_putOctet 11 = .ok (.aload_n 0, 1) := by decide +kernel
theorem dX6_putOctet_12 : decode cX6_putOctet 12 = .ok (.getfield 43, 3) := by decide +kernel
theorem dX6_putOctet_15 : decode cX6_putOctet 15 = .ok (.arraylength, 1) := by decide +kernel
theorem dX6_putOctet_16 : decode cX6_putOctet 16 = .ok (.if_icmp .ge 23, 3) := by decide +kernel
theorem dX6_putOctet_19 : decode cX6_putOctet 19 = .ok (.aload_n 0, 1) := by decide +kernel
theorem dX6_putOctet_20 : decode cX6_putOctet 20 = .ok (.getfield 43, 3) := by decide +kernel
theorem dX6_putOctet_23 : decode cX6_putOctet 23 = .ok (.aload_n 0, 1) := by decide +kernel
theorem dX6_putOctet_24 : decode cX6_putOctet 24 = .ok (.getfield 51, 3) := by decide +kernel
theorem dX6_putOctet_27 : decode cX6_putOctet 27 = .ok (.iload_n 1, 1) := by decide +kernel
theorem dX6_putOctet_28 : decode cX6_putOctet 28 = .ok (.bastore, 1) := by decide +kernel
theorem dX6_putOctet_29 : decode cX6_putOctet 29 = .ok (.aload_n 0, 1) := by decide +kernel
theorem dX6_putOctet_30 : decode cX6_putOctet 30 = .ok (.dup, 1) := by decide +kernel
theorem dX6_putOctet_31 : decode cX6_putOctet 31 = .ok (.getfield 51, 3) := by decide +kernel
theorem dX6_putOctet_34 : decode cX6_putOctet 34 = .ok (.iconst 1, 1) := by decide +kernel
theorem dX6_putOctet_35 : decode cX6_putOctet 35 = .ok (.iadd, 1) := by decide +kernel
theorem dX6_putOctet_36 : decode cX6_putOctet 36 = .ok (.putfield 51, 3) := by decide +kernel
theorem dX6_putOctet_39 : decode cX6_putOctet 39 = .ok (.return_, 1) := by decide +kernel
theorem dX6_addRunnable_0 : decode cX6_addRunnable 0 = .ok (.aload_n 0, 1) := by decide +kernel
theorem dX6_addRunnable_1 : decode cX6_addRunnable 1 = .ok (.getfield 97, 3) := by decide +kernel
theorem dX6_addRunnable_4 : decode cX6_addRunnable 4 = .ok (.bipush 20, 2) := by decide +kernel
theorem dX6_addRunnable_6 : decode cX6_addRunnable 6 = .ok (.if_icmp .lt 10, 3) := by decide +kernel
theorem dX6_addRunnable_9 : decode cX6_addRunnable 9 = .ok (.aload_n 0, 1) := by decide +kernel
theorem dX6_addRunnable_10 : decode cX6_addRunnable 10 = .ok (.bipush (-4), 2) := by decide +kernel
theorem dX6_addRunnable_12 : decode cX6_addRunnable 12 = .ok (.invokevirtual 47, 3) := by decide +kernel
theorem dX6_addRunnable_15 : decode cX6_addRunnable 15 = .ok (.ireturn, 1) := by decide +kernel
theorem dX6_addRunnable_16 : decode cX6_addRunnable 16 = .ok (.aload_n 0, 1) := by decide +kernel
theorem dX6_addRunnable_17 : decode cX6_addRunnable 17 = .ok (.dup, 1) := by decide +kernel
theorem dX6_addRunnable_18 : decode cX6_addRunnable 18 = .ok (.getfield 97, 3) := by decide +kernel
theorem dX6_addRunnable_21 : decode cX6_addRunnable 21 = .ok (.iconst 1, 1) := by decide +kernel
theorem dX6_addRunnable_22 : decode cX6_addRunnable 22 = .ok (.iadd, 1) := by decide +kernel
theorem dX6_addRunnable_23 : decode cX6_addRunnable 23 = .ok (.putfield 97, 3) := by decide +kernel
theorem dX6_addRunnable_26 : decode cX6_addRunnable 26 = .ok (.aload_n 0, 1) := by decide +kernel
theorem dX6_addRunnable_27 : decode cX6_addRunnable 27 = .ok (.aload_n 0, 1) := by decide +kernel
theorem dX6_addRunnable_28 : decode cX6_addRunnable 28 = .ok (.getfield 97, 3) := by decide +kernel
theorem dX6_addRunnable_31 : decode cX6_addRunnable 31 = .ok (.iconst 1, 1) := by decide +kernel
theorem dX6_addRunnable_32 : decode cX6_addRunnable 32 = .ok (.invokevirtual 184, 3) := by decide +kernel
theorem dX6_addRunnable_35 : decode cX6_addRunnable 35 = .ok (.aload_n 0, 1) := by decide +kernel
theorem dX6_addRunnable_36 : decode cX6_addRunnable 36 = .ok (.getfield 97, 3) := by decide +kernel
theorem dX6_addRunnable_39 : decode cX6_addRunnable 39 = .ok (.ireturn, 1) := by decide +kernel
theorem dX6_addEdition_0 : decode cX6_addEdition 0 = .ok (.iload_n 2, 1) := by decide +kernel
theorem dX6_addEdition_1 : decode cX6_addEdition 1 = .ok (.bipush 9, 2) := by decide +kernel
theorem dX6_addEdition_3 : decode cX6_addEdition 3 = .ok (.if_icmp .lt 10, 3) := by decide +kernel
theorem dX6_addEdition_6 : decode cX6_addEdition 6 = .ok (.aload_n 0, 1) := by decide +kernel
theorem dX6_addEdition_7 : decode cX6_addEdition 7 = .ok (.bipush (-4), 2) := by decide +kernel
theorem dX6_addEdition_9 : decode cX6_addEdition 9 = .ok (.invokevirtual 47, 3) := by decide +kernel
theorem dX6_addEdition_12 : decode cX6_addEdition 12 = .ok (.ireturn, 1) := by decide +kernel
theorem dX6_addEdition_13 : decode cX6_addEdition 13 = .ok (.aload_n 0, 1) := by decide +kernel
theorem dX6_addEdition_14 : decode cX6_addEdition 14 = .ok (.iload_n 1, 1) := by decide +kernel
theorem dX6_addEdition_15 : decode cX6_addEdition 15 = .ok (.iload_n 2, 1) := by decide +kernel
theorem dX6_addEdition_16 : decode cX6_addEdition 16 = .ok (.iconst 1, 1) := by decide +kernel
theorem dX6_addEdition_17 : decode cX6_addEdition 17 = .ok (.iadd, 1) := by decide +kernel
theorem dX6_addEdition_18 : decode cX6_addEdition 18 = .ok (.invokevirtual 184, 3) := by decide +kernel
theorem dX6_addEdition_21 : decode cX6_addEdition 21 = .ok (.iload_n 2, 1) := by decide +kernel
theorem dX6_addEdition_22 : decode cX6_addEdition 22 = .ok (.iconst 1, 1) := by decide +kernel
theorem dX6_addEdition_23 : decode cX6_addEdition 23 = .ok (.iadd, 1) := by decide +kernel
theorem dX6_addEdition_24 : decode cX6_addEdition 24 = .ok (.ireturn, 1) := by decide +kernel
theorem dX6_keepEdition_0 : decode cX6_keepEdition 0 = .ok (.aload_n 0, 1) := by decide +kernel
theorem dX6_keepEdition_1 : decode cX6_keepEdition 1 = .ok (.getfield 43, 3) := by decide +kernel
theorem dX6_keepEdition_4 : decode cX6_keepEdition 4 = .ok (.iconst 0, 1) := by decide +kernel
theorem dX6_keepEdition_5 : decode cX6_keepEdition 5 = .ok (.aload_n 0, 1) := by decide +kernel
theorem dX6_keepEdition_6 : decode cX6_keepEdition 6 = .ok (.getfield 51, 3) := by decide +kernel
theorem dX6_keepEdition_9 : decode cX6_keepEdition 9 = .ok (.invokestatic 187, 3) := by decide +kernel
theorem dX6_keepEdition_12 : decode cX6_keepEdition 12 = .ok (.astore_n 3, 1) := by decide +kernel
theorem dX6_keepEdition_13 : decode cX6_keepEdition 13 = .ok (.aload_n 3, 1) := by decide +kernel
theorem dX6_keepEdition_14 : decode cX6_keepEdition 14 = .ok (.iconst 1, 1) := by decide +kernel
theorem dX6_keepEdition_15 : decode cX6_keepEdition 15 = .ok (.invokestatic 191, 3) := by decide +kernel
theorem dX6_keepEdition_18 : decode cX6_keepEdition 18 = .ok (.astore 4, 2) := by decide +kernel
theorem dX6_keepEdition_20 : decode cX6_keepEdition 20 = .ok (.aload_n 3, 1) := by decide +kernel
theorem dX6_keepEdition_21 : decode cX6_keepEdition 21 = .ok (.iconst 2, 1) := by decide +kernel
theorem dX6_keepEdition_22 : decode cX6_keepEdition 22 = .ok (.invokestatic 191, 3) := by decide +kernel
theorem dX6_keepEdition_25 : decode cX6_keepEdition 25 = .ok (.astore 5, 2) := by decide +kernel
theorem dX6_keepEdition_27 : decode cX6_keepEdition 27 = .ok (.aload 5, 2) := by decide +kernel
theorem dX6_keepEdition_29 : decode cX6_keepEdition 29 = .ok (.ifnull 38, 3) := by decide +kernel
theorem dX6_keepEdition_32 : decode cX6_keepEdition 32 = .ok (.iload_n 1, 1) := by decide +kernel
theorem dX6_keepEdition_33 : decode cX6_keepEdition 33 = .ok (.iconst 1, 1) := by decide +kernel
theorem dX6_keepEdition_34 : decode cX6_keepEdition 34 = .ok (.if_icmp .lt 33, 3) := by decide +kernel
theorem dX6_keepEdition_37 : decode cX6_keepEdition 37 = .ok (.iload_n 1, 1) := by decide +kernel
theorem dX6_keepEdition_38 : decode cX6_keepEdition 38 = .ok (.aload_n 0, 1) := by decide +kernel
theorem dX6_keepEdition_39 : decode cX6_keepEdition 39 = .ok (.getfield 32, 3) := by decide +kernel
theorem dX6_keepEdition_42 : decode cX6_keepEdition 42 = .ok (.arraylength, 1) := by decide +kernel
theorem dX6_keepEdition_43 : decode cX6_keepEdition 43 = .ok (.if_icmp .gt 24, 3) := by decide +kernel
theorem dX6_keepEdition_46 : decode cX6_keepEdition 46 = .ok (.aload_n 0, 1) := by decide +kernel
