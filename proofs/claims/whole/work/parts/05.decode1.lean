theorem dX6_keepEdition_47 : decode cX6_keepEdition 47 = .ok (.getfield 32, 3) := by decide +kernel
theorem dX6_keepEdition_50 : decode cX6_keepEdition 50 = .ok (.iload_n 1, 1) := by decide +kernel
theorem dX6_keepEdition_51 : decode cX6_keepEdition 51 = .ok (.iconst 1, 1) := by decide +kernel
theorem dX6_keepEdition_52 : decode cX6_keepEdition 52 = .ok (.isub, 1) := by decide +kernel
theorem dX6_keepEdition_53 : decode cX6_keepEdition 53 = .ok (.new 30, 3) := by decide +kernel
theorem dX6_keepEdition_56 : decode cX6_keepEdition 56 = .ok (.dup, 1) := by decide +kernel
theorem dX6_keepEdition_57 : decode cX6_keepEdition 57 = .ok (.iload_n 2, 1) := by decide +kernel
theorem dX6_keepEdition_58 : decode cX6_keepEdition 58 = .ok (.aload_n 3, 1) := by decide +kernel
theorem dX6_keepEdition_59 : decode cX6_keepEdition 59 = .ok (.aload 4, 2) := by decide +kernel
theorem dX6_keepEdition_61 : decode cX6_keepEdition 61 = .ok (.aload 5, 2) := by decide +kernel
theorem dX6_keepEdition_63 : decode cX6_keepEdition 63 = .ok (.invokespecial 195, 3) := by decide +kernel
theorem dX6_keepEdition_66 : decode cX6_keepEdition 66 = .ok (.aastore, 1) := by decide +kernel
theorem dX6_keepEdition_67 : decode cX6_keepEdition 67 = .ok (.aload_n 0, 1) := by decide +kernel
theorem dX6_keepEdition_68 : decode cX6_keepEdition 68 = .ok (.iconst 0, 1) := by decide +kernel
theorem dX6_keepEdition_69 : decode cX6_keepEdition 69 = .ok (.putfield 51, 3) := by decide +kernel
theorem dX6_keepEdition_72 : decode cX6_keepEdition 72 = .ok (.return_, 1) := by decide +kernel
theorem dX6_callStart_0 : decode cX6_callStart 0 = .ok (.aload_n 1, 1) := by decide +kernel
theorem dX6_callStart_1 : decode cX6_callStart 1 = .ok (.iload_n 2, 1) := by decide +kernel
theorem dX6_callStart_2 : decode cX6_callStart 2 = .ok (.invokevirtual 84, 3) := by decide +kernel
theorem dX6_callStart_5 : decode cX6_callStart 5 = .ok (.astore_n 3, 1) := by decide +kernel
theorem dX6_callStart_6 : decode cX6_callStart 6 = .ok (.aload_n 0, 1) := by decide +kernel
theorem dX6_callStart_7 : decode cX6_callStart 7 = .ok (.iload_n 2, 1) := by decide +kernel
theorem dX6_callStart_8 : decode cX6_callStart 8 = .ok (.invokevirtual 58, 3) := by decide +kernel
theorem dX6_callStart_11 : decode cX6_callStart 11 = .ok (.astore 4, 2) := by decide +kernel
theorem dX6_callStart_13 : decode cX6_callStart 13 = .ok (.aload_n 3, 1) := by decide +kernel
theorem dX6_callStart_14 : decode cX6_callStart 14 = .ok (.ifnull 28, 3) := by decide +kernel
theorem dX6_callStart_17 : decode cX6_callStart 17 = .ok (.aload 4, 2) := by decide +kernel
theorem dX6_callStart_19 : decode cX6_callStart 19 = .ok (.ifnull 23, 3) := by decide +kernel
theorem dX6_callStart_22 : decode cX6_callStart 22 = .ok (.aload_n 3, 1) := by decide +kernel
theorem dX6_callStart_23 : decode cX6_callStart 23 = .ok (.getfield 130, 3) := by decide +kernel
theorem dX6_callStart_26 : decode cX6_callStart 26 = .ok (.aload 4, 2) := by decide +kernel
theorem dX6_callStart_28 : decode cX6_callStart 28 = .ok (.getfield 70, 3) := by decide +kernel
theorem dX6_callStart_31 : decode cX6_callStart 31 = .ok (.if_icmp .ne 11, 3) := by decide +kernel
theorem dX6_callStart_34 : decode cX6_callStart 34 = .ok (.aload 4, 2) := by decide +kernel
theorem dX6_callStart_36 : decode cX6_callStart 36 = .ok (.getfield 198, 3) := by decide +kernel
theorem dX6_callStart_39 : decode cX6_callStart 39 = .ok (.ifnonnull 5, 3) := by decide +kernel
theorem dX6_callStart_42 : decode cX6_callStart 42 = .ok (.iconst 0, 1) := by decide +kernel
theorem dX6_callStart_43 : decode cX6_callStart 43 = .ok (.ireturn, 1) := by decide +kernel
theorem dX6_callStart_44 : decode cX6_callStart 44 = .ok (.aload_n 0, 1) := by decide +kernel
theorem dX6_callStart_45 : decode cX6_callStart 45 = .ok (.aload_n 1, 1) := by decide +kernel
theorem dX6_callStart_46 : decode cX6_callStart 46 = .ok (.aload_n 3, 1) := by decide +kernel
theorem dX6_callStart_47 : decode cX6_callStart 47 = .ok (.iload_n 2, 1) := by decide +kernel
theorem dX6_callStart_48 : decode cX6_callStart 48 = .ok (.aload 4, 2) := by decide +kernel
theorem dX6_callStart_50 : decode cX6_callStart 50 = .ok (.getfield 198, 3) := by decide +kernel
theorem dX6_callStart_53 : decode cX6_callStart 53 = .ok (.invokevirtual 201, 3) := by decide +kernel
theorem dX6_callStart_56 : decode cX6_callStart 56 = .ok (.ireturn, 1) := by decide +kernel
theorem dX6_callRun_0 : decode cX6_callRun 0 = .ok (.aload_n 0, 1) := by decide +kernel
theorem dX6_callRun_1 : decode cX6_callRun 1 = .ok (.iload_n 1, 1) := by decide +kernel
theorem dX6_callRun_2 : decode cX6_callRun 2 = .ok (.invokevirtual 76, 3) := by decide +kernel
theorem dX6_callRun_5 : decode cX6_callRun 5 = .ok (.astore 4, 2) := by decide +kernel
theorem dX6_callRun_7 : decode cX6_callRun 7 = .ok (.aload_n 0, 1) := by decide +kernel
theorem dX6_callRun_8 : decode cX6_callRun 8 = .ok (.iload_n 2, 1) := by decide +kernel
theorem dX6_callRun_9 : decode cX6_callRun 9 = .ok (.invokevirtual 58, 3) := by decide +kernel
theorem dX6_callRun_12 : decode cX6_callRun 12 = .ok (.astore 5, 2) := by decide +kernel
theorem dX6_callRun_14 : decode cX6_callRun 14 = .ok (.aload 4, 2) := by decide +kernel
theorem dX6_callRun_16 : decode cX6_callRun 16 = .ok (.ifnull 8, 3) := by decide +kernel
theorem dX6_callRun_19 : decode cX6_callRun 19 = .ok (.aload 5, 2) := by decide +kernel
theorem dX6_callRun_21 : decode cX6_callRun 21 = .ok (.ifnonnull 9, 3) := by decide +kernel
theorem dX6_callRun_24 : decode cX6_callRun 24 = .ok (.aload_n 0, 1) := by decide +kernel
theorem dX6_callRun_25 : decode cX6_callRun 25 = .ok (.iconst (-1), 1) := by decide +kernel
theorem dX6_callRun_26 : decode cX6_callRun 26 = .ok (.invokevirtual 47, 3) := by decide +kernel
theorem dX6_callRun_29 : decode cX6_callRun 29 = .ok (.ireturn, 1) := by decide +kernel
theorem dX6_callRun_30 : decode cX6_callRun 30 = .ok (.aload 4, 2) := by decide +kernel
theorem dX6_callRun_32 : decode cX6_callRun 32 = .ok (.iload_n 2, 1) := by decide +kernel
theorem dX6_callRun_33 : decode cX6_callRun 33 = .ok (.invokevirtual 84, 3) := by decide +kernel
theorem dX6_callRun_36 : decode cX6_callRun 36 = .ok (.astore 6, 2) := by decide +kernel
theorem dX6_callRun_38 : decode cX6_callRun 38 = .ok (.aload 6, 2) := by decide +kernel
theorem dX6_callRun_40 : decode cX6_callRun 40 = .ok (.ifnull 32, 3) := by decide +kernel
theorem dX6_callRun_43 : decode cX6_callRun 43 = .ok (.aload 4, 2) := by decide +kernel
theorem dX6_callRun_45 : decode cX6_callRun 45 = .ok (.getfield 80, 3) := by decide +kernel
theorem dX6_callRun_48 : decode cX6_callRun 48 = .ok (.ifCond .eq 24, 3) := by decide +kernel
theorem dX6_callRun_51 : decode cX6_callRun 51 = .ok (.aload 6, 2) := by decide +kernel
theorem dX6_callRun_53 : decode cX6_callRun 53 = .ok (.getfield 205, 3) := by decide +kernel
theorem dX6_callRun_56 : decode cX6_callRun 56 = .ok (.ifCond .ne 16, 3) := by decide +kernel
theorem dX6_callRun_59 : decode cX6_callRun 59 = .ok (.aload 6, 2) := by decide +kernel
theorem dX6_callRun_61 : decode cX6_callRun 61 = .ok (.getfield 130, 3) := by decide +kernel
theorem dX6_callRun_64 : decode cX6_callRun 64 = .ok (.aload 5, 2) := by decide +kernel
theorem dX6_callRun_66 : decode cX6_callRun 66 = .ok (.getfield 70, 3) := by decide +kernel
theorem dX6_callRun_69 : decode cX6_callRun 69 = .ok (.if_icmp .eq 10, 3) := by decide +kernel
theorem dX6_callRun_72 : decode cX6_callRun 72 = .ok (.aload_n 0, 1) := by decide +kernel
theorem dX6_callRun_73 : decode cX6_callRun 73 = .ok (.bipush (-3), 2) := by decide +kernel
theorem dX6_callRun_75 : decode cX6_callRun 75 = .ok (.invokevirtual 47, 3) := by decide +kernel
theorem dX6_callRun_78 : decode cX6_callRun 78 = .ok (.ireturn, 1) := by decide +kernel
theorem dX6_callRun_79 : decode cX6_callRun 79 = .ok (.iload_n 3, 1) := by decide +kernel
theorem dX6_callRun_80 : decode cX6_callRun 80 = .ok (.ifCond .eq 34, 3) := by decide +kernel
theorem dX6_callRun_83 : decode cX6_callRun 83 = .ok (.aload_n 0, 1) := by decide +kernel
theorem dX6_callRun_84 : decode cX6_callRun 84 = .ok (.getfield 39, 3) := by decide +kernel
theorem dX6_callRun_87 : decode cX6_callRun 87 = .ok (.aload 5, 2) := by decide +kernel
theorem dX6_callRun_89 : decode cX6_callRun 89 = .ok (.getfield 208, 3) := by decide +kernel
theorem dX6_callRun_92 : decode cX6_callRun 92 = .ok (.aload 4, 2) := by decide +kernel
theorem dX6_callRun_94 : decode cX6_callRun 94 = .ok (.getfield 108, 3) := by decide +kernel
theorem dX6_callRun_97 : decode cX6_callRun 97 = .ok (.aload 6, 2) := by decide +kernel
theorem dX6_callRun_99 : decode cX6_callRun 99 = .ok (.getfield 124, 3) := by decide +kernel
theorem dX6_callRun_102 : decode cX6_callRun 102 = .ok (.aload_n 0, 1) := by decide +kernel
theorem dX6_callRun_103 : decode cX6_callRun 103 = .ok (.getfield 19, 3) := by decide +kernel
theorem dX6_callRun_106 : decode cX6_callRun 106 = .ok (.invokevirtual 211, 3) := by decide +kernel
theorem dX6_callRun_109 : decode cX6_callRun 109 = .ok (.istore 7, 2) := by decide +kernel
theorem dX6_callRun_111 : decode cX6_callRun 111 = .ok (.goto 31, 3) := by decide +kernel
theorem dX6_callRun_114 : decode cX6_callRun 114 = .ok (.aload_n 0, 1) := by decide +kernel
theorem dX6_callRun_115 : decode cX6_callRun 115 = .ok (.aload 4, 2) := by decide +kernel
theorem dX6_callRun_117 : decode cX6_callRun 117 = .ok (.aload 6, 2) := by decide +kernel
theorem dX6_callRun_119 : decode cX6_callRun 119 = .ok (.iload_n 2, 1) := by decide +kernel
theorem dX6_callRun_120 : decode cX6_callRun 120 = .ok (.aload 5, 2) := by decide +kernel
theorem dX6_callRun_122 : decode cX6_callRun 122 = .ok (.getfield 208, 3) := by decide +kernel
theorem dX6_callRun_125 : decode cX6_callRun 125 = .ok (.invokevirtual 201, 3) := by decide +kernel
theorem dX6_callRun_128 : decode cX6_callRun 128 = .ok (.istore 7, 2) := by decide +kernel
theorem dX6_callRun_130 : decode cX6_callRun 130 = .ok (.iload 7, 2) := by decide +kernel
theorem dX6_callRun_132 : decode cX6_callRun 132 = .ok (.ifCond .eq 10, 3) := by decide +kernel
theorem dX6_callRun_135 : decode cX6_callRun 135 = .ok (.aload 4, 2) := by decide +kernel
theorem dX6_callRun_137 : decode cX6_callRun 137 = .ok (.aload 6, 2) := by decide +kernel
theorem dX6_callRun_139 : decode cX6_callRun 139 = .ok (.invokestatic 215, 3) := by decide +kernel
theorem dX6_callRun_142 : decode cX6_callRun 142 = .ok (.iload 7, 2) := by decide +kernel
theorem dX6_callRun_144 : decode cX6_callRun 144 = .ok (.ifCond .ne 7, 3) := by decide +kernel
theorem dX6_callRun_147 : decode cX6_callRun 147 = .ok (.iconst 1, 1) := by decide +kernel
theorem dX6_callRun_148 : decode cX6_callRun 148 = .ok (.goto 8, 3) := by decide +kernel
theorem dX6_callRun_151 : decode cX6_callRun 151 = .ok (.bipush 10, 2) := by decide +kernel
theorem dX6_callRun_153 : decode cX6_callRun 153 = .ok (.iload 7, 2) := by decide +kernel
theorem dX6_callRun_155 : decode cX6_callRun 155 = .ok (.iadd, 1) := by decide +kernel
theorem dX6_callRun_156 : decode cX6_callRun 156 = .ok (.ireturn, 1) := by decide +kernel
theorem dX6_call_0 : decode cX6_call 0 = .ok (.aload_n 0, 1) := by decide +kernel
theorem dX6_call_1 : decode cX6_call 1 = .ok (.getfield 39, 3) := by decide +kernel
theorem dX6_call_4 : decode cX6_call 4 = .ok (.aload 4, 2) := by decide +kernel
theorem dX6_call_6 : decode cX6_call 6 = .ok (.aload_n 1, 1) := by decide +kernel
theorem dX6_call_7 : decode cX6_call 7 = .ok (.getfield 108, 3) := by decide +kernel
theorem dX6_call_10 : decode cX6_call 10 = .ok (.aload_n 2, 1) := by decide +kernel
theorem dX6_call_11 : decode cX6_call 11 = .ok (.getfield 124, 3) := by decide +kernel
theorem dX6_call_14 : decode cX6_call 14 = .ok (.aload_n 0, 1) := by decide +kernel
theorem dX6_call_15 : decode cX6_call 15 = .ok (.getfield 19, 3) := by decide +kernel
theorem dX6_call_18 : decode cX6_call 18 = .ok (.invokevirtual 219, 3) := by decide +kernel
theorem dX6_call_21 : decode cX6_call 21 = .ok (.istore 5, 2) := by decide +kernel
theorem dX6_call_23 : decode cX6_call 23 = .ok (.aload_n 0, 1) := by decide +kernel
theorem dX6_call_24 : decode cX6_call 24 = .ok (.getfield 39, 3) := by decide +kernel
theorem dX6_call_27 : decode cX6_call 27 = .ok (.getfield 222, 3) := by decide +kernel
theorem dX6_call_30 : decode cX6_call 30 = .ok (.iconst (-1), 1) := by decide +kernel
theorem dX6_call_31 : decode cX6_call 31 = .ok (.if_icmp .eq 14, 3) := by decide +kernel
theorem dX6_call_34 : decode cX6_call 34 = .ok (.aload_n 2, 1) := by decide +kernel
theorem dX6_call_35 : decode cX6_call 35 = .ok (.aload_n 0, 1) := by decide +kernel
theorem dX6_call_36 : decode cX6_call 36 = .ok (.getfield 39, 3) := by decide +kernel
theorem dX6_call_39 : decode cX6_call 39 = .ok (.getfield 222, 3) := by decide +kernel
theorem dX6_call_42 : decode cX6_call 42 = .ok (.putfield 158, 3) := by decide +kernel
theorem dX6_call_45 : decode cX6_call 45 = .ok (.iload 5, 2) := by decide +kernel
theorem dX6_call_47 : decode cX6_call 47 = .ok (.ifCond .eq 46, 3) := by decide +kernel
theorem dX6_call_50 : decode cX6_call 50 = .ok (.aload_n 1, 1) := by decide +kernel
theorem dX6_call_51 : decode cX6_call 51 = .ok (.iload 5, 2) := by decide +kernel
theorem dX6_call_53 : decode cX6_call 53 = .ok (.putfield 143, 3) := by decide +kernel
theorem dX6_call_56 : decode cX6_call 56 = .ok (.aload_n 1, 1) := by decide +kernel
theorem dX6_call_57 : decode cX6_call 57 = .ok (.iload_n 3, 1) := by decide +kernel
theorem dX6_call_58 : decode cX6_call 58 = .ok (.putfield 146, 3) := by decide +kernel
theorem dX6_call_61 : decode cX6_call 61 = .ok (.aload_n 1, 1) := by decide +kernel
theorem dX6_call_62 : decode cX6_call 62 = .ok (.aload_n 0, 1) := by decide +kernel
theorem dX6_call_63 : decode cX6_call 63 = .ok (.getfield 39, 3) := by decide +kernel
theorem dX6_call_66 : decode cX6_call 66 = .ok (.getfield 223, 3) := by decide +kernel
theorem dX6_call_69 : decode cX6_call 69 = .ok (.putfield 149, 3) := by decide +kernel
theorem dX6_call_72 : decode cX6_call 72 = .ok (.aload_n 1, 1) := by decide +kernel
theorem dX6_call_73 : decode cX6_call 73 = .ok (.aload_n 0, 1) := by decide +kernel
theorem dX6_call_74 : decode cX6_call 74 = .ok (.getfield 39, 3) := by decide +kernel
theorem dX6_call_77 : decode cX6_call 77 = .ok (.getfield 226, 3) := by decide +kernel
theorem dX6_call_80 : decode cX6_call 80 = .ok (.putfield 152, 3) := by decide +kernel
theorem dX6_call_83 : decode cX6_call 83 = .ok (.aload_n 1, 1) := by decide +kernel
theorem dX6_call_84 : decode cX6_call 84 = .ok (.dup, 1) := by decide +kernel
theorem dX6_call_85 : decode cX6_call 85 = .ok (.getfield 155, 3) := by decide +kernel
theorem dX6_call_88 : decode cX6_call 88 = .ok (.iconst 1, 1) := by decide +kernel
theorem dX6_call_89 : decode cX6_call 89 = .ok (.iadd, 1) := by decide +kernel
theorem dX6_call_90 : decode cX6_call 90 = .ok (.putfield 155, 3) := by decide +kernel
theorem dX6_call_93 : decode cX6_call 93 = .ok (.iload 5, 2) := by decide +kernel
theorem dX6_call_95 : decode cX6_call 95 = .ok (.ireturn, 1) := by decide +kernel
theorem dX6_react_0 : decode cX6_react 0 = .ok (.aload_n 0, 1) := by decide +kernel
theorem dX6_react_1 : decode cX6_react 1 = .ok (.getfield 127, 3) := by decide +kernel
theorem dX6_react_4 : decode cX6_react 4 = .ok (.iconst 1, 1) := by decide +kernel
theorem dX6_react_5 : decode cX6_react 5 = .ok (.if_icmp .ne 8, 3) := by decide +kernel
theorem dX6_react_8 : decode cX6_react 8 = .ok (.aload_n 1, 1) := by decide +kernel
theorem dX6_react_9 : decode cX6_react 9 = .ok (.iconst 1, 1) := by decide +kernel
theorem dX6_react_10 : decode cX6_react 10 = .ok (.putfield 205, 3) := by decide +kernel
theorem dX6_react_13 : decode cX6_react 13 = .ok (.aload_n 0, 1) := by decide +kernel
theorem dX6_react_14 : decode cX6_react 14 = .ok (.getfield 127, 3) := by decide +kernel
theorem dX6_react_17 : decode cX6_react 17 = .ok (.iconst 2, 1) := by decide +kernel
theorem dX6_react_18 : decode cX6_react 18 = .ok (.if_icmp .ne 8, 3) := by decide +kernel
theorem dX6_react_21 : decode cX6_react 21 = .ok (.aload_n 0, 1) := by decide +kernel
theorem dX6_react_22 : decode cX6_react 22 = .ok (.iconst 0, 1) := by decide +kernel
theorem dX6_react_23 : decode cX6_react 23 = .ok (.putfield 80, 3) := by decide +kernel
theorem dX6_react_26 : decode cX6_react 26 = .ok (.return_, 1) := by decide +kernel
theorem dX6_isRight_0 : decode cX6_isRight 0 = .ok (.iconst 0, 1) := by decide +kernel
theorem dX6_isRight_1 : decode cX6_isRight 1 = .ok (.istore_n 2, 1) := by decide +kernel
theorem dX6_isRight_2 : decode cX6_isRight 2 = .ok (.iconst 0, 1) := by decide +kernel
theorem dX6_isRight_3 : decode cX6_isRight 3 = .ok (.istore_n 3, 1) := by decide +kernel
theorem dX6_isRight_4 : decode cX6_isRight 4 = .ok (.iconst 0, 1) := by decide +kernel
theorem dX6_isRight_5 : decode cX6_isRight 5 = .ok (.istore 4, 2) := by decide +kernel
theorem dX6_isRight_7 : decode cX6_isRight 7 = .ok (.iload 4, 2) := by decide +kernel
theorem dX6_isRight_9 : decode cX6_isRight 9 = .ok (.iload_n 1, 1) := by decide +kernel
theorem dX6_isRight_10 : decode cX6_isRight 10 = .ok (.if_icmp .ge 73, 3) := by decide +kernel
theorem dX6_isRight_13 : decode cX6_isRight 13 = .ok (.aload_n 0, 1) := by decide +kernel
theorem dX6_isRight_14 : decode cX6_isRight 14 = .ok (.iload 4, 2) := by decide +kernel
theorem dX6_isRight_16 : decode cX6_isRight 16 = .ok (.invokestatic 229, 3) := by decide +kernel
theorem dX6_isRight_19 : decode cX6_isRight 19 = .ok (.istore 5, 2) := by decide +kernel
theorem dX6_isRight_21 : decode cX6_isRight 21 = .ok (.iload 4, 2) := by decide +kernel
theorem dX6_isRight_23 : decode cX6_isRight 23 = .ok (.iconst 2, 1) := by decide +kernel
theorem dX6_isRight_24 : decode cX6_isRight 24 = .ok (.iadd, 1) := by decide +kernel
theorem dX6_isRight_25 : decode cX6_isRight 25 = .ok (.iload_n 1, 1) := by decide +kernel
theorem dX6_isRight_26 : decode cX6_isRight 26 = .ok (.if_icmp .gt 9, 3) := by decide +kernel
theorem dX6_isRight_29 : decode cX6_isRight 29 = .ok (.iload 5, 2) := by decide +kernel
theorem dX6_isRight_31 : decode cX6_isRight 31 = .ok (.iconst 2, 1) := by decide +kernel
theorem dX6_isRight_32 : decode cX6_isRight 32 = .ok (.if_icmp .le 5, 3) := by decide +kernel
theorem dX6_isRight_35 : decode cX6_isRight 35 = .ok (.iconst 0, 1) := by decide +kernel
theorem dX6_isRight_36 : decode cX6_isRight 36 = .ok (.ireturn, 1) := by decide +kernel
theorem dX6_isRight_37 : decode cX6_isRight 37 = .ok (.iload_n 2, 1) := by decide +kernel
theorem dX6_isRight_38 : decode cX6_isRight 38 = .ok (.iload 5, 2) := by decide +kernel
theorem dX6_isRight_40 : decode cX6_isRight 40 = .ok (.iconst 1, 1) := by decide +kernel
theorem dX6_isRight_41 : decode cX6_isRight 41 = .ok (.if_icmp .ne 7, 3) := by decide +kernel
theorem dX6_isRight_44 : decode cX6_isRight 44 = .ok (.iconst 1, 1) := by decide +kernel
theorem dX6_isRight_45 : decode cX6_isRight 45 = .ok (.goto 4, 3) := by decide +kernel
theorem dX6_isRight_48 : decode cX6_isRight 48 = .ok (.iconst 0, 1) := by decide +kernel
theorem dX6_isRight_49 : decode cX6_isRight 49 = .ok (.iadd, 1) := by decide +kernel
theorem dX6_isRight_50 : decode cX6_isRight 50 = .ok (.istore_n 2, 1) := by decide +kernel
theorem dX6_isRight_51 : decode cX6_isRight 51 = .ok (.iload_n 3, 1) := by decide +kernel
theorem dX6_isRight_52 : decode cX6_isRight 52 = .ok (.iload 5, 2) := by decide +kernel
theorem dX6_isRight_54 : decode cX6_isRight 54 = .ok (.iconst 2, 1) := by decide +kernel
theorem dX6_isRight_55 : decode cX6_isRight 55 = .ok (.if_icmp .ne 7, 3) := by decide +kernel
theorem dX6_isRight_58 : decode cX6_isRight 58 = .ok (.iconst 1, 1) := by decide +kernel
theorem dX6_isRight_59 : decode cX6_isRight 59 = .ok (.goto 4, 3) := by decide +kernel
theorem dX6_isRight_62 : decode cX6_isRight 62 = .ok (.iconst 0, 1) := by decide +kernel
theorem dX6_isRight_63 : decode cX6_isRight 63 = .ok (.iadd, 1) := by decide +kernel
theorem dX6_isRight_64 : decode cX6_isRight 64 = .ok (.istore_n 3, 1) := by decide +kernel
theorem dX6_isRight_65 : decode cX6_isRight 65 = .ok (.iload 4, 2) := by decide +kernel
theorem dX6_isRight_67 : decode cX6_isRight 67 = .ok (.iconst 2, 1) := by decide +kernel
theorem dX6_isRight_68 : decode cX6_isRight 68 = .ok (.aload_n 0, 1) := by decide +kernel
theorem dX6_isRight_69 : decode cX6_isRight 69 = .ok (.iload 4, 2) := by decide +kernel
theorem dX6_isRight_71 : decode cX6_isRight 71 = .ok (.iconst 1, 1) := by decide +kernel
theorem dX6_isRight_72 : decode cX6_isRight 72 = .ok (.iadd, 1) := by decide +kernel
theorem dX6_isRight_73 : decode cX6_isRight 73 = .ok (.invokestatic 229, 3) := by decide +kernel
theorem dX6_isRight_76 : decode cX6_isRight 76 = .ok (.iadd, 1) := by decide +kernel
theorem dX6_isRight_77 : decode cX6_isRight 77 = .ok (.iadd, 1) := by decide +kernel
theorem dX6_isRight_78 : decode cX6_isRight 78 = .ok (.istore 4, 2) := by decide +kernel
theorem dX6_isRight_80 : decode cX6_isRight 80 = .ok (.goto (-73), 3) := by decide +kernel
theorem dX6_isRight_83 : decode cX6_isRight 83 = .ok (.iload 4, 2) := by decide +kernel
theorem dX6_isRight_85 : decode cX6_isRight 85 = .ok (.iload_n 1, 1) := by decide +kernel
theorem dX6_isRight_86 : decode cX6_isRight 86 = .ok (.if_icmp .ne 17, 3) := by decide +kernel
theorem dX6_isRight_89 : decode cX6_isRight 89 = .ok (.iload_n 3, 1) := by decide +kernel
theorem dX6_isRight_90 : decode cX6_isRight 90 = .ok (.iconst 1, 1) := by decide +kernel
theorem dX6_isRight_91 : decode cX6_isRight 91 = .ok (.if_icmp .ne 12, 3) := by decide +kernel
theorem dX6_isRight_94 : decode cX6_isRight 94 = .ok (.iload_n 2, 1) := by decide +kernel
theorem dX6_isRight_95 : decode cX6_isRight 95 = .ok (.iconst 1, 1) := by decide +kernel
theorem dX6_isRight_96 : decode cX6_isRight 96 = .ok (.if_icmp .gt 7, 3) := by decide +kernel
theorem dX6_isRight_99 : decode cX6_isRight 99 = .ok (.iconst 1, 1) := by decide +kernel
theorem dX6_isRight_100 : decode cX6_isRight 100 = .ok (.goto 4, 3) := by decide +kernel
theorem dX6_isRight_103 : decode cX6_isRight 103 = .ok (.iconst 0, 1) := by decide +kernel
theorem dX6_isRight_104 : decode cX6_isRight 104 = .ok (.ireturn, 1) := by decide +kernel
theorem dX6_codeOf_0 : decode cX6_codeOf 0 = .ok (.iconst 0, 1) := by decide +kernel
theorem dX6_codeOf_1 : decode cX6_codeOf 1 = .ok (.istore_n 2, 1) := by decide +kernel
theorem dX6_codeOf_2 : decode cX6_codeOf 2 = .ok (.iload_n 2, 1) := by decide +kernel
theorem dX6_codeOf_3 : decode cX6_codeOf 3 = .ok (.aload_n 0, 1) := by decide +kernel
theorem dX6_codeOf_4 : decode cX6_codeOf 4 = .ok (.arraylength, 1) := by decide +kernel
theorem dX6_codeOf_5 : decode cX6_codeOf 5 = .ok (.if_icmp .ge 38, 3) := by decide +kernel
theorem dX6_codeOf_8 : decode cX6_codeOf 8 = .ok (.aload_n 0, 1) := by decide +kernel
theorem dX6_codeOf_9 : decode cX6_codeOf 9 = .ok (.iload_n 2, 1) := by decide +kernel
theorem dX6_codeOf_10 : decode cX6_codeOf 10 = .ok (.iconst 1, 1) := by decide +kernel
theorem dX6_codeOf_11 : decode cX6_codeOf 11 = .ok (.iadd, 1) := by decide +kernel
theorem dX6_codeOf_12 : decode cX6_codeOf 12 = .ok (.invokestatic 229, 3) := by decide +kernel
theorem dX6_codeOf_15 : decode cX6_codeOf 15 = .ok (.istore_n 3, 1) := by decide +kernel
theorem dX6_codeOf_16 : decode cX6_codeOf 16 = .ok (.aload_n 0, 1) := by decide +kernel
theorem dX6_codeOf_17 : decode cX6_codeOf 17 = .ok (.iload_n 2, 1) := by decide +kernel
theorem dX6_codeOf_18 : decode cX6_codeOf 18 = .ok (.invokestatic 229, 3) := by decide +kernel
theorem dX6_codeOf_21 : decode cX6_codeOf 21 = .ok (.iload_n 1, 1) := by decide +kernel
theorem dX6_codeOf_22 : decode cX6_codeOf 22 = .ok (.if_icmp .ne 12, 3) := by decide +kernel
theorem dX6_codeOf_25 : decode cX6_codeOf 25 = .ok (.aload_n 0, 1) := by decide +kernel
theorem dX6_codeOf_26 : decode cX6_codeOf 26 = .ok (.iload_n 2, 1) := by decide +kernel
theorem dX6_codeOf_27 : decode cX6_codeOf 27 = .ok (.iconst 2, 1) := by decide +kernel
theorem dX6_codeOf_28 : decode cX6_codeOf 28 = .ok (.iadd, 1) := by decide +kernel
theorem dX6_codeOf_29 : decode cX6_codeOf 29 = .ok (.iload_n 3, 1) := by decide +kernel
theorem dX6_codeOf_30 : decode cX6_codeOf 30 = .ok (.invokestatic 187, 3) := by decide +kernel
theorem dX6_codeOf_33 : decode cX6_codeOf 33 = .ok (.areturn, 1) := by decide +kernel
theorem dX6_codeOf_34 : decode cX6_codeOf 34 = .ok (.iload_n 2, 1) := by decide +kernel
theorem dX6_codeOf_35 : decode cX6_codeOf 35 = .ok (.iconst 2, 1) := by decide +kernel
theorem dX6_codeOf_36 : decode cX6_codeOf 36 = .ok (.iload_n 3, 1) := by decide +kernel
theorem dX6_codeOf_37 : decode cX6_codeOf 37 = .ok (.iadd, 1) := by decide +kernel
theorem dX6_codeOf_38 : decode cX6_codeOf 38 = .ok (.iadd, 1) := by decide +kernel
theorem dX6_codeOf_39 : decode cX6_codeOf 39 = .ok (.istore_n 2, 1) := by decide +kernel
theorem dX6_codeOf_40 : decode cX6_codeOf 40 = .ok (.goto (-38), 3) := by decide +kernel
theorem dX6_codeOf_43 : decode cX6_codeOf 43 = .ok (.aconst_null, 1) := by decide +kernel
theorem dX6_codeOf_44 : decode cX6_codeOf 44 = .ok (.areturn, 1) := by decide +kernel
theorem dX6_copyOf_0 : decode cX6_copyOf 0 = .ok (.iload_n 1, 1) := by decide +kernel
theorem dX6_copyOf_1 : decode cX6_copyOf 1 = .ok (.ifCond .lt 21, 3) := by decide +kernel
theorem dX6_copyOf_4 : decode cX6_copyOf 4 = .ok (.iload_n 2, 1) := by decide +kernel
theorem dX6_copyOf_5 : decode cX6_copyOf 5 = .ok (.ifCond .lt 17, 3) := by decide +kernel
theorem dX6_copyOf_8 : decode cX6_copyOf 8 = .ok (.iload_n 1, 1) := by decide +kernel
theorem dX6_copyOf_9 : decode cX6_copyOf 9 = .ok (.aload_n 0, 1) := by decide +kernel
theorem dX6_copyOf_10 : decode cX6_copyOf 10 = .ok (.arraylength, 1) := by decide +kernel
theorem dX6_copyOf_11 : decode cX6_copyOf 11 = .ok (.if_icmp .gt 11, 3) := by decide +kernel
theorem dX6_copyOf_14 : decode cX6_copyOf 14 = .ok (.iload_n 2, 1) := by decide +kernel
theorem dX6_copyOf_15 : decode cX6_copyOf 15 = .ok (.aload_n 0, 1) := by decide +kernel
theorem dX6_copyOf_16 : decode cX6_copyOf 16 = .ok (.arraylength, 1) := by decide +kernel
theorem dX6_copyOf_17 : decode cX6_copyOf 17 = .ok (.iload_n 1, 1) := by decide +kernel
theorem dX6_copyOf_18 : decode cX6_copyOf 18 = .ok (.isub, 1) := by decide +kernel
theorem dX6_copyOf_19 : decode cX6_copyOf 19 = .ok (.if_icmp .le 7, 3) := by decide +kernel
theorem dX6_copyOf_22 : decode cX6_copyOf 22 = .ok (.iconst 0, 1) := by decide +kernel
theorem dX6_copyOf_23 : decode cX6_copyOf 23 = .ok (.newarray .byte, 2) := by decide +kernel
theorem dX6_copyOf_25 : decode cX6_copyOf 25 = .ok (.areturn, 1) := by decide +kernel
theorem dX6_copyOf_26 : decode cX6_copyOf 26 = .ok (.aload_n 0, 1) := by decide +kernel
theorem dX6_copyOf_27 : decode cX6_copyOf 27 = .ok (.iload_n 1, 1) := by decide +kernel
theorem dX6_copyOf_28 : decode cX6_copyOf 28 = .ok (.iload_n 1, 1) := by decide +kernel
theorem dX6_copyOf_29 : decode cX6_copyOf 29 = .ok (.iload_n 2, 1) := by decide +kernel
theorem dX6_copyOf_30 : decode cX6_copyOf 30 = .ok (.iadd, 1) := by decide +kernel
theorem dX6_copyOf_31 : decode cX6_copyOf 31 = .ok (.invokestatic 233, 3) := by decide +kernel
theorem dX6_copyOf_34 : decode cX6_copyOf 34 = .ok (.areturn, 1) := by decide +kernel
theorem dX6_octetAt_0 : decode cX6_octetAt 0 = .ok (.iload_n 1, 1) := by decide +kernel
theorem dX6_octetAt_1 : decode cX6_octetAt 1 = .ok (.ifCond .lt 19, 3) := by decide +kernel
theorem dX6_octetAt_4 : decode cX6_octetAt 4 = .ok (.iload_n 1, 1) := by decide +kernel
theorem dX6_octetAt_5 : decode cX6_octetAt 5 = .ok (.aload_n 0, 1) := by decide +kernel
theorem dX6_octetAt_6 : decode cX6_octetAt 6 = .ok (.arraylength, 1) := by decide +kernel
theorem dX6_octetAt_7 : decode cX6_octetAt 7 = .ok (.if_icmp .ge 13, 3) := by decide +kernel
theorem dX6_octetAt_10 : decode cX6_octetAt 10 = .ok (.aload_n 0, 1) := by decide +kernel
theorem dX6_octetAt_11 : decode cX6_octetAt 11 = .ok (.iload_n 1, 1) := by decide +kernel
theorem dX6_octetAt_12 : decode cX6_octetAt 12 = .ok (.baload, 1) := by decide +kernel
theorem dX6_octetAt_13 : decode cX6_octetAt 13 = .ok (.sipush 255, 3) := by decide +kernel
theorem dX6_octetAt_16 : decode cX6_octetAt 16 = .ok (.iand, 1) := by decide +kernel
theorem dX6_octetAt_17 : decode cX6_octetAt 17 = .ok (.goto 4, 3) := by decide +kernel
theorem dX6_octetAt_20 : decode cX6_octetAt 20 = .ok (.iconst 0, 1) := by decide +kernel
theorem dX6_octetAt_21 : decode cX6_octetAt 21 = .ok (.ireturn, 1) := by decide +kernel
theorem dX6_numberAt_0 : decode cX6_numberAt 0 = .ok (.iload_n 1, 1) := by decide +kernel
theorem dX6_numberAt_1 : decode cX6_numberAt 1 = .ok (.ifCond .lt 15, 3) := by decide +kernel
theorem dX6_numberAt_4 : decode cX6_numberAt 4 = .ok (.iload_n 1, 1) := by decide +kernel
theorem dX6_numberAt_5 : decode cX6_numberAt 5 = .ok (.aload_n 0, 1) := by decide +kernel
theorem dX6_numberAt_6 : decode cX6_numberAt 6 = .ok (.arraylength, 1) := by decide +kernel
theorem dX6_numberAt_7 : decode cX6_numberAt 7 = .ok (.if_icmp .ge 9, 3) := by decide +kernel
theorem dX6_numberAt_10 : decode cX6_numberAt 10 = .ok (.aload_n 0, 1) := by decide +kernel
theorem dX6_numberAt_11 : decode cX6_numberAt 11 = .ok (.iload_n 1, 1) := by decide +kernel
theorem dX6_numberAt_12 : decode cX6_numberAt 12 = .ok (.laload, 1) := by decide +kernel
theorem dX6_numberAt_13 : decode cX6_numberAt 13 = .ok (.goto 4, 3) := by decide +kernel
theorem dX6_numberAt_16 : decode cX6_numberAt 16 = .ok (.lconst 0, 1) := by decide +kernel
theorem dX6_numberAt_17 : decode cX6_numberAt 17 = .ok (.lreturn, 1) := by decide +kernel
theorem dX6_putNumber_0 : decode cX6_putNumber 0 = .ok (.iload_n 1, 1) := by decide +kernel
theorem dX6_putNumber_1 : decode cX6_putNumber 1 = .ok (.ifCond .lt 13, 3) := by decide +kernel
theorem dX6_putNumber_4 : decode cX6_putNumber 4 = .ok (.iload_n 1, 1) := by decide +kernel
theorem dX6_putNumber_5 : decode cX6_putNumber 5 = .ok (.aload_n 0, 1) := by decide +kernel
theorem dX6_putNumber_6 : decode cX6_putNumber 6 = .ok (.arraylength, 1) := by decide +kernel
theorem dX6_putNumber_7 : decode cX6_putNumber 7 = .ok (.if_icmp .ge 7, 3) := by decide +kernel
theorem dX6_putNumber_10 : decode cX6_putNumber 10 = .ok (.aload_n 0, 1) := by decide +kernel
theorem dX6_putNumber_11 : decode cX6_putNumber 11 = .ok (.iload_n 1, 1) := by decide +kernel
theorem dX6_putNumber_12 : decode cX6_putNumber 12 = .ok (.lload_n 2, 1) := by decide +kernel
theorem dX6_putNumber_13 : decode cX6_putNumber 13 = .ok (.lastore, 1) := by decide +kernel
theorem dX6_putNumber_14 : decode cX6_putNumber 14 = .ok (.return_, 1) := by decide +kernel
theorem dX6_copyNumbers_0 : decode cX6_copyNumbers 0 = .ok (.iconst 0, 1) := by decide +kernel
theorem dX6_copyNumbers_1 : decode cX6_copyNumbers 1 = .ok (.istore_n 2, 1) := by decide +kernel
theorem dX6_copyNumbers_2 : decode cX6_copyNumbers 2 = .ok (.iload_n 2, 1) := by decide +kernel
theorem dX6_copyNumbers_3 : decode cX6_copyNumbers 3 = .ok (.aload_n 0, 1) := by decide +kernel
theorem dX6_copyNumbers_4 : decode cX6_copyNumbers 4 = .ok (.arraylength, 1) := by decide +kernel
theorem dX6_copyNumbers_5 : decode cX6_copyNumbers 5 = .ok (.if_icmp .ge 21, 3) := by decide +kernel
theorem dX6_copyNumbers_8 : decode cX6_copyNumbers 8 = .ok (.iload_n 2, 1) := by decide +kernel
theorem dX6_copyNumbers_9 : decode cX6_copyNumbers 9 = .ok (.aload_n 1, 1) := by decide +kernel
theorem dX6_copyNumbers_10 : decode cX6_copyNumbers 10 = .ok (.arraylength, 1) := by decide +kernel
theorem dX6_copyNumbers_11 : decode cX6_copyNumbers 11 = .ok (.if_icmp .ge 15, 3) := by decide +kernel
theorem dX6_copyNumbers_14 : decode cX6_copyNumbers 14 = .ok (.aload_n 1, 1) := by decide +kernel
theorem dX6_copyNumbers_15 : decode cX6_copyNumbers 15 = .ok (.iload_n 2, 1) := by decide +kernel
theorem dX6_copyNumbers_16 : decode cX6_copyNumbers 16 = .ok (.aload_n 0, 1) := by decide +kernel
theorem dX6_copyNumbers_17 : decode cX6_copyNumbers 17 = .ok (.iload_n 2, 1) := by decide +kernel
theorem dX6_copyNumbers_18 : decode cX6_copyNumbers 18 = .ok (.laload, 1) := by decide +kernel
theorem dX6_copyNumbers_19 : decode cX6_copyNumbers 19 = .ok (.lastore, 1) := by decide +kernel
theorem dX6_copyNumbers_20 : decode cX6_copyNumbers 20 = .ok (.iinc 2 1, 3) := by decide +kernel
theorem dX6_copyNumbers_23 : decode cX6_copyNumbers 23 = .ok (.goto (-21), 3) := by decide +kernel
theorem dX6_copyNumbers_26 : decode cX6_copyNumbers 26 = .ok (.return_, 1) := by decide +kernel
theorem dX7_init_0 : decode cX7_init 0 = .ok (.aload_n 0, 1) := by decide +kernel
theorem dX7_init_1 : decode cX7_init 1 = .ok (.invokespecial 1, 3) := by decide +kernel
theorem dX7_init_4 : decode cX7_init 4 = .ok (.aload_n 0, 1) := by decide +kernel
theorem dX7_init_5 : decode cX7_init 5 = .ok (.bipush 120, 2) := by decide +kernel
theorem dX7_init_7 : decode cX7_init 7 = .ok (.newarray .byte, 2) := by decide +kernel
theorem dX7_init_9 : decode cX7_init 9 = .ok (.putfield 7, 3) := by decide +kernel
theorem dX7_init_12 : decode cX7_init 12 = .ok (.aload_n 0, 1) := by decide +kernel
theorem dX7_init_13 : decode cX7_init 13 = .ok (.bipush 21, 2) := by decide +kernel
theorem dX7_init_15 : decode cX7_init 15 = .ok (.newarray .int, 2) := by decide +kernel
theorem dX7_init_17 : decode cX7_init 17 = .ok (.putfield 13, 3) := by decide +kernel
theorem dX7_init_20 : decode cX7_init 20 = .ok (.aload_n 0, 1) := by decide +kernel
theorem dX7_init_21 : decode cX7_init 21 = .ok (.sipush 21600, 3) := by decide +kernel
theorem dX7_init_24 : decode cX7_init 24 = .ok (.newarray .byte, 2) := by decide +kernel
theorem dX7_init_26 : decode cX7_init 26 = .ok (.putfield 17, 3) := by decide +kernel
theorem dX7_init_29 : decode cX7_init 29 = .ok (.aload_n 0, 1) := by decide +kernel
theorem dX7_init_30 : decode cX7_init 30 = .ok (.sipush 180, 3) := by decide +kernel
theorem dX7_init_33 : decode cX7_init 33 = .ok (.newarray .int, 2) := by decide +kernel
theorem dX7_init_35 : decode cX7_init 35 = .ok (.putfield 20, 3) := by decide +kernel
theorem dX7_init_38 : decode cX7_init 38 = .ok (.aload_n 0, 1) := by decide +kernel
theorem dX7_init_39 : decode cX7_init 39 = .ok (.sipush 180, 3) := by decide +kernel
theorem dX7_init_42 : decode cX7_init 42 = .ok (.newarray .int, 2) := by decide +kernel
theorem dX7_init_44 : decode cX7_init 44 = .ok (.putfield 23, 3) := by decide +kernel
theorem dX7_init_47 : decode cX7_init 47 = .ok (.aload_n 0, 1) := by decide +kernel
theorem dX7_init_48 : decode cX7_init 48 = .ok (.sipush 180, 3) := by decide +kernel
theorem dX7_init_51 : decode cX7_init 51 = .ok (.newarray .int, 2) := by decide +kernel
theorem dX7_init_53 : decode cX7_init 53 = .ok (.putfield 26, 3) := by decide +kernel
theorem dX7_init_56 : decode cX7_init 56 = .ok (.aload_n 0, 1) := by decide +kernel
theorem dX7_init_57 : decode cX7_init 57 = .ok (.sipush 180, 3) := by decide +kernel
theorem dX7_init_60 : decode cX7_init 60 = .ok (.newarray .int, 2) := by decide +kernel
theorem dX7_init_62 : decode cX7_init 62 = .ok (.putfield 29, 3) := by decide +kernel
theorem dX7_init_65 : decode cX7_init 65 = .ok (.aload_n 0, 1) := by decide +kernel
theorem dX7_init_66 : decode cX7_init 66 = .ok (.sipush 180, 3) := by decide +kernel
theorem dX7_init_69 : decode cX7_init 69 = .ok (.newarray .int, 2) := by decide +kernel
theorem dX7_init_71 : decode cX7_init 71 = .ok (.putfield 32, 3) := by decide +kernel
theorem dX7_init_74 : decode cX7_init 74 = .ok (.aload_n 0, 1) := by decide +kernel
theorem dX7_init_75 : decode cX7_init 75 = .ok (.bipush 64, 2) := by decide +kernel
theorem dX7_init_77 : decode cX7_init 77 = .ok (.newarray .long, 2) := by decide +kernel
theorem dX7_init_79 : decode cX7_init 79 = .ok (.putfield 35, 3) := by decide +kernel
theorem dX7_init_82 : decode cX7_init 82 = .ok (.aload_n 0, 1) := by decide +kernel
theorem dX7_init_83 : decode cX7_init 83 = .ok (.bipush 8, 2) := by decide +kernel
theorem dX7_init_85 : decode cX7_init 85 = .ok (.newarray .boolean, 2) := by decide +kernel
theorem dX7_init_87 : decode cX7_init 87 = .ok (.putfield 39, 3) := by decide +kernel
theorem dX7_init_90 : decode cX7_init 90 = .ok (.aload_n 0, 1) := by decide +kernel
theorem dX7_init_91 : decode cX7_init 91 = .ok (.bipush 8, 2) := by decide +kernel
theorem dX7_init_93 : decode cX7_init 93 = .ok (.newarray .int, 2) := by decide +kernel
theorem dX7_init_95 : decode cX7_init 95 = .ok (.putfield 43, 3) := by decide +kernel
theorem dX7_init_98 : decode cX7_init 98 = .ok (.aload_n 0, 1) := by decide +kernel
theorem dX7_init_99 : decode cX7_init 99 = .ok (.bipush 8, 2) := by decide +kernel
theorem dX7_init_101 : decode cX7_init 101 = .ok (.newarray .int, 2) := by decide +kernel
theorem dX7_init_103 : decode cX7_init 103 = .ok (.putfield 46, 3) := by decide +kernel
theorem dX7_init_106 : decode cX7_init 106 = .ok (.aload_n 0, 1) := by decide +kernel
theorem dX7_init_107 : decode cX7_init 107 = .ok (.bipush 8, 2) := by decide +kernel
theorem dX7_init_109 : decode cX7_init 109 = .ok (.newarray .int, 2) := by decide +kernel
theorem dX7_init_111 : decode cX7_init 111 = .ok (.putfield 49, 3) := by decide +kernel
theorem dX7_init_114 : decode cX7_init 114 = .ok (.aload_n 0, 1) := by decide +kernel
theorem dX7_init_115 : decode cX7_init 115 = .ok (.bipush 8, 2) := by decide +kernel
theorem dX7_init_117 : decode cX7_init 117 = .ok (.newarray .int, 2) := by decide +kernel
theorem dX7_init_119 : decode cX7_init 119 = .ok (.putfield 52, 3) := by decide +kernel
theorem dX7_init_122 : decode cX7_init 122 = .ok (.aload_n 0, 1) := by decide +kernel
theorem dX7_init_123 : decode cX7_init 123 = .ok (.bipush 8, 2) := by decide +kernel
theorem dX7_init_125 : decode cX7_init 125 = .ok (.newarray .int, 2) := by decide +kernel
theorem dX7_init_127 : decode cX7_init 127 = .ok (.putfield 55, 3) := by decide +kernel
theorem dX7_init_130 : decode cX7_init 130 = .ok (.aload_n 0, 1) := by decide +kernel
theorem dX7_init_131 : decode cX7_init 131 = .ok (.bipush 8, 2) := by decide +kernel
theorem dX7_init_133 : decode cX7_init 133 = .ok (.newarray .int, 2) := by decide +kernel
theorem dX7_init_135 : decode cX7_init 135 = .ok (.putfield 58, 3) := by decide +kernel
theorem dX7_init_138 : decode cX7_init 138 = .ok (.aload_n 0, 1) := by decide +kernel
theorem dX7_init_139 : decode cX7_init 139 = .ok (.sipush 160, 3) := by decide +kernel
theorem dX7_init_142 : decode cX7_init 142 = .ok (.newarray .int, 2) := by decide +kernel
theorem dX7_init_144 : decode cX7_init 144 = .ok (.putfield 61, 3) := by decide +kernel
theorem dX7_init_147 : decode cX7_init 147 = .ok (.aload_n 0, 1) := by decide +kernel
theorem dX7_init_148 : decode cX7_init 148 = .ok (.sipush 1280, 3) := by decide +kernel
theorem dX7_init_151 : decode cX7_init 151 = .ok (.newarray .long, 2) := by decide +kernel
theorem dX7_init_153 : decode cX7_init 153 = .ok (.putfield 64, 3) := by decide +kernel
theorem dX7_init_156 : decode cX7_init 156 = .ok (.aload_n 0, 1) := by decide +kernel
theorem dX7_init_157 : decode cX7_init 157 = .ok (.sipush 160, 3) := by decide +kernel
theorem dX7_init_160 : decode cX7_init 160 = .ok (.newarray .boolean, 2) := by decide +kernel
theorem dX7_init_162 : decode cX7_init 162 = .ok (.putfield 67, 3) := by decide +kernel
theorem dX7_init_165 : decode cX7_init 165 = .ok (.aload_n 0, 1) := by decide +kernel
theorem dX7_init_166 : decode cX7_init 166 = .ok (.sipush 160, 3) := by decide +kernel
theorem dX7_init_169 : decode cX7_init 169 = .ok (.newarray .int, 2) := by decide +kernel
theorem dX7_init_171 : decode cX7_init 171 = .ok (.putfield 70, 3) := by decide +kernel
theorem dX7_init_174 : decode cX7_init 174 = .ok (.aload_n 0, 1) := by decide +kernel
theorem dX7_init_175 : decode cX7_init 175 = .ok (.sipush 160, 3) := by decide +kernel
theorem dX7_init_178 : decode cX7_init 178 = .ok (.newarray .int, 2) := by decide +kernel
theorem dX7_init_180 : decode cX7_init 180 = .ok (.putfield 73, 3) := by decide +kernel
theorem dX7_init_183 : decode cX7_init 183 = .ok (.aload_n 0, 1) := by decide +kernel
theorem dX7_init_184 : decode cX7_init 184 = .ok (.bipush 16, 2) := by decide +kernel
theorem dX7_init_186 : decode cX7_init 186 = .ok (.newarray .long, 2) := by decide +kernel
theorem dX7_init_188 : decode cX7_init 188 = .ok (.putfield 76, 3) := by decide +kernel
theorem dX7_init_191 : decode cX7_init 191 = .ok (.aload_n 0, 1) := by decide +kernel
theorem dX7_init_192 : decode cX7_init 192 = .ok (.bipush 8, 2) := by decide +kernel
theorem dX7_init_194 : decode cX7_init 194 = .ok (.newarray .long, 2) := by decide +kernel
theorem dX7_init_196 : decode cX7_init 196 = .ok (.putfield 79, 3) := by decide +kernel
theorem dX7_init_199 : decode cX7_init 199 = .ok (.aload_n 0, 1) := by decide +kernel
theorem dX7_init_200 : decode cX7_init 200 = .ok (.bipush 8, 2) := by decide +kernel
theorem dX7_init_202 : decode cX7_init 202 = .ok (.newarray .long, 2) := by decide +kernel
theorem dX7_init_204 : decode cX7_init 204 = .ok (.putfield 82, 3) := by decide +kernel
theorem dX7_init_207 : decode cX7_init 207 = .ok (.aload_n 0, 1) := by decide +kernel
theorem dX7_init_208 : decode cX7_init 208 = .ok (.iload_n 1, 1) := by decide +kernel
theorem dX7_init_209 : decode cX7_init 209 = .ok (.ifCond .ge 7, 3) := by decide +kernel
theorem dX7_init_212 : decode cX7_init 212 = .ok (.iconst 0, 1) := by decide +kernel
theorem dX7_init_213 : decode cX7_init 213 = .ok (.goto 15, 3) := by decide +kernel
theorem dX7_init_216 : decode cX7_init 216 = .ok (.iload_n 1, 1) := by decide +kernel
theorem dX7_init_217 : decode cX7_init 217 = .ok (.ldc 85, 2) := by decide +kernel
theorem dX7_init_219 : decode cX7_init 219 = .ok (.if_icmp .le 8, 3) := by decide +kernel
theorem dX7_init_222 : decode cX7_init 222 = .ok (.ldc 85, 2) := by decide +kernel
theorem dX7_init_224 : decode cX7_init 224 = .ok (.goto 4, 3) := by decide +kernel
theorem dX7_init_227 : decode cX7_init 227 = .ok (.iload_n 1, 1) := by decide +kernel
theorem dX7_init_228 : decode cX7_init 228 = .ok (.putfield 86, 3) := by decide +kernel
theorem dX7_init_231 : decode cX7_init 231 = .ok (.iconst 0, 1) := by decide +kernel
theorem dX7_init_232 : decode cX7_init 232 = .ok (.istore_n 2, 1) := by decide +kernel
theorem dX7_init_233 : decode cX7_init 233 = .ok (.iload_n 2, 1) := by decide +kernel
theorem dX7_init_234 : decode cX7_init 234 = .ok (.sipush 160, 3) := by decide +kernel
theorem dX7_init_237 : decode cX7_init 237 = .ok (.if_icmp .ge 16, 3) := by decide +kernel
theorem dX7_init_240 : decode cX7_init 240 = .ok (.aload_n 0, 1) := by decide +kernel
theorem dX7_init_241 : decode cX7_init 241 = .ok (.getfield 70, 3) := by decide +kernel
theorem dX7_init_244 : decode cX7_init 244 = .ok (.iload_n 2, 1) := by decide +kernel
theorem dX7_init_245 : decode cX7_init 245 = .ok (.iconst (-1), 1) := by decide +kernel
theorem dX7_init_246 : decode cX7_init 246 = .ok (.iastore, 1) := by decide +kernel
theorem dX7_init_247 : decode cX7_init 247 = .ok (.iinc 2 1, 3) := by decide +kernel
theorem dX7_init_250 : decode cX7_init 250 = .ok (.goto (-17), 3) := by decide +kernel
theorem dX7_init_253 : decode cX7_init 253 = .ok (.return_, 1) := by decide +kernel
theorem dX7_thrown_0 : decode cX7_thrown 0 = .ok (.aload_n 0, 1) := by decide +kernel
theorem dX7_thrown_1 : decode cX7_thrown 1 = .ok (.getfield 90, 3) := by decide +kernel
theorem dX7_thrown_4 : decode cX7_thrown 4 = .ok (.ireturn, 1) := by decide +kernel
theorem dX7_refuse_0 : decode cX7_refuse 0 = .ok (.aload_n 0, 1) := by decide +kernel
theorem dX7_refuse_1 : decode cX7_refuse 1 = .ok (.dup, 1) := by decide +kernel
theorem dX7_refuse_2 : decode cX7_refuse 2 = .ok (.getfield 93, 3) := by decide +kernel
theorem dX7_refuse_5 : decode cX7_refuse 5 = .ok (.iconst 1, 1) := by decide +kernel
theorem dX7_refuse_6 : decode cX7_refuse 6 = .ok (.iadd, 1) := by decide +kernel
theorem dX7_refuse_7 : decode cX7_refuse 7 = .ok (.putfield 93, 3) := by decide +kernel
theorem dX7_refuse_10 : decode cX7_refuse 10 = .ok (.iload_n 1, 1) := by decide +kernel
theorem dX7_refuse_11 : decode cX7_refuse 11 = .ok (.ireturn, 1) := by decide +kernel
theorem dX7_in_0 : decode cX7_in 0 = .ok (.iload_n 0, 1) := by decide +kernel
theorem dX7_in_1 : decode cX7_in 1 = .ok (.iload_n 1, 1) := by decide +kernel
theorem dX7_in_2 : decode cX7_in 2 = .ok (.if_icmp .lt 12, 3) := by decide +kernel
theorem dX7_in_5 : decode cX7_in 5 = .ok (.iload_n 0, 1) := by decide +kernel
theorem dX7_in_6 : decode cX7_in 6 = .ok (.iload_n 2, 1) := by decide +kernel
theorem dX7_in_7 : decode cX7_in 7 = .ok (.if_icmp .gt 7, 3) := by decide +kernel
theorem dX7_in_10 : decode cX7_in 10 = .ok (.iconst 1, 1) := by decide +kernel
theorem dX7_in_11 : decode cX7_in 11 = .ok (.goto 4, 3) := by decide +kernel
theorem dX7_in_14 : decode cX7_in 14 = .ok (.iconst 0, 1) := by decide +kernel
theorem dX7_in_15 : decode cX7_in 15 = .ok (.ireturn, 1) := by decide +kernel
theorem dX7_file_0 : decode cX7_file 0 = .ok (.aload_n 0, 1) := by decide +kernel
theorem dX7_file_1 : decode cX7_file 1 = .ok (.iconst 0, 1) := by decide +kernel
theorem dX7_file_2 : decode cX7_file 2 = .ok (.putfield 90, 3) := by decide +kernel
theorem dX7_file_5 : decode cX7_file 5 = .ok (.iload_n 3, 1) := by decide +kernel
theorem dX7_file_6 : decode cX7_file 6 = .ok (.iconst 1, 1) := by decide +kernel
theorem dX7_file_7 : decode cX7_file 7 = .ok (.bipush 8, 2) := by decide +kernel
theorem dX7_file_9 : decode cX7_file 9 = .ok (.invokestatic 96, 3) := by decide +kernel
theorem dX7_file_12 : decode cX7_file 12 = .ok (.ifCond .ne 10, 3) := by decide +kernel
theorem dX7_file_15 : decode cX7_file 15 = .ok (.aload_n 0, 1) := by decide +kernel
theorem dX7_file_16 : decode cX7_file 16 = .ok (.bipush (-2), 2) := by decide +kernel
theorem dX7_file_18 : decode cX7_file 18 = .ok (.invokevirtual 100, 3) := by decide +kernel
theorem dX7_file_21 : decode cX7_file 21 = .ok (.ireturn, 1) := by decide +kernel
theorem dX7_file_22 : decode cX7_file 22 = .ok (.aload_n 0, 1) := by decide +kernel
theorem dX7_file_23 : decode cX7_file 23 = .ok (.getfield 104, 3) := by decide +kernel
theorem dX7_file_26 : decode cX7_file 26 = .ok (.iload_n 3, 1) := by decide +kernel
theorem dX7_file_27 : decode cX7_file 27 = .ok (.iadd, 1) := by decide +kernel
theorem dX7_file_28 : decode cX7_file 28 = .ok (.bipush 120, 2) := by decide +kernel
theorem dX7_file_30 : decode cX7_file 30 = .ok (.if_icmp .le 10, 3) := by decide +kernel
theorem dX7_file_33 : decode cX7_file 33 = .ok (.aload_n 0, 1) := by decide +kernel
theorem dX7_file_34 : decode cX7_file 34 = .ok (.bipush (-4), 2) := by decide +kernel
theorem dX7_file_36 : decode cX7_file 36 = .ok (.invokevirtual 100, 3) := by decide +kernel
theorem dX7_file_39 : decode cX7_file 39 = .ok (.ireturn, 1) := by decide +kernel
theorem dX7_file_40 : decode cX7_file 40 = .ok (.iload_n 3, 1) := by decide +kernel
theorem dX7_file_41 : decode cX7_file 41 = .ok (.iconst 1, 1) := by decide +kernel
theorem dX7_file_42 : decode cX7_file 42 = .ok (.isub, 1) := by decide +kernel
theorem dX7_file_43 : decode cX7_file 43 = .ok (.istore 4, 2) := by decide +kernel
theorem dX7_file_45 : decode cX7_file 45 = .ok (.iload 4, 2) := by decide +kernel
theorem dX7_file_47 : decode cX7_file 47 = .ok (.ifCond .lt 37, 3) := by decide +kernel
theorem dX7_file_50 : decode cX7_file 50 = .ok (.aload_n 0, 1) := by decide +kernel
theorem dX7_file_51 : decode cX7_file 51 = .ok (.getfield 7, 3) := by decide +kernel
theorem dX7_file_54 : decode cX7_file 54 = .ok (.aload_n 0, 1) := by decide +kernel
theorem dX7_file_55 : decode cX7_file 55 = .ok (.getfield 104, 3) := by decide +kernel
theorem dX7_file_58 : decode cX7_file 58 = .ok (.lload_n 1, 1) := by decide +kernel
theorem dX7_file_59 : decode cX7_file 59 = .ok (.bipush 8, 2) := by decide +kernel
theorem dX7_file_61 : decode cX7_file 61 = .ok (.iload 4, 2) := by decide +kernel
theorem dX7_file_63 : decode cX7_file 63 = .ok (.imul, 1) := by decide +kernel
theorem dX7_file_64 : decode cX7_file 64 = .ok (.lshr, 1) := by decide +kernel
theorem dX7_file_65 : decode cX7_file 65 = .ok (.l2i, 1) := by decide +kernel
theorem dX7_file_66 : decode cX7_file 66 = .ok (.i2b, 1) := by decide +kernel
theorem dX7_file_67 : decode cX7_file 67 = .ok (.bastore, 1) := by decide +kernel
theorem dX7_file_68 : decode cX7_file 68 = .ok (.aload_n 0, 1) := by decide +kernel
theorem dX7_file_69 : decode cX7_file 69 = .ok (.dup, 1) := by decide +kernel
theorem dX7_file_70 : decode cX7_file 70 = .ok (.getfield 104, 3) := by decide +kernel
theorem dX7_file_73 : decode cX7_file 73 = .ok (.iconst 1, 1) := by decide +kernel
theorem dX7_file_74 : decode cX7_file 74 = .ok (.iadd, 1) := by decide +kernel
theorem dX7_file_75 : decode cX7_file 75 = .ok (.putfield 104, 3) := by decide +kernel
theorem dX7_file_78 : decode cX7_file 78 = .ok (.iinc 4 (-1), 3) := by decide +kernel
theorem dX7_file_81 : decode cX7_file 81 = .ok (.goto (-36), 3) := by decide +kernel
theorem dX7_file_84 : decode cX7_file 84 = .ok (.aload_n 0, 1) := by decide +kernel
theorem dX7_file_85 : decode cX7_file 85 = .ok (.getfield 104, 3) := by decide +kernel
theorem dX7_file_88 : decode cX7_file 88 = .ok (.ireturn, 1) := by decide +kernel
theorem dX7_cutUp_0 : decode cX7_cutUp 0 = .ok (.iconst 0, 1) := by decide +kernel
theorem dX7_cutUp_1 : decode cX7_cutUp 1 = .ok (.istore_n 2, 1) := by decide +kernel
theorem dX7_cutUp_2 : decode cX7_cutUp 2 = .ok (.iconst 0, 1) := by decide +kernel
theorem dX7_cutUp_3 : decode cX7_cutUp 3 = .ok (.istore_n 3, 1) := by decide +kernel
theorem dX7_cutUp_4 : decode cX7_cutUp 4 = .ok (.iconst 0, 1) := by decide +kernel
theorem dX7_cutUp_5 : decode cX7_cutUp 5 = .ok (.istore 4, 2) := by decide +kernel
theorem dX7_cutUp_7 : decode cX7_cutUp 7 = .ok (.iload_n 2, 1) := by decide +kernel
theorem dX7_cutUp_8 : decode cX7_cutUp 8 = .ok (.aload_n 0, 1) := by decide +kernel
theorem dX7_cutUp_9 : decode cX7_cutUp 9 = .ok (.getfield 104, 3) := by decide +kernel
theorem dX7_cutUp_12 : decode cX7_cutUp 12 = .ok (.if_icmp .ge 127, 3) := by decide +kernel
theorem dX7_cutUp_15 : decode cX7_cutUp 15 = .ok (.iload_n 2, 1) := by decide +kernel
theorem dX7_cutUp_16 : decode cX7_cutUp 16 = .ok (.iconst 1, 1) := by decide +kernel
theorem dX7_cutUp_17 : decode cX7_cutUp 17 = .ok (.iadd, 1) := by decide +kernel
theorem dX7_cutUp_18 : decode cX7_cutUp 18 = .ok (.aload_n 0, 1) := by decide +kernel
theorem dX7_cutUp_19 : decode cX7_cutUp 19 = .ok (.getfield 104, 3) := by decide +kernel
theorem dX7_cutUp_22 : decode cX7_cutUp 22 = .ok (.if_icmp .lt 5, 3) := by decide +kernel
theorem dX7_cutUp_25 : decode cX7_cutUp 25 = .ok (.iconst 0, 1) := by decide +kernel
theorem dX7_cutUp_26 : decode cX7_cutUp 26 = .ok (.ireturn, 1) := by decide +kernel
theorem dX7_cutUp_27 : decode cX7_cutUp 27 = .ok (.aload_n 0, 1) := by decide +kernel
theorem dX7_cutUp_28 : decode cX7_cutUp 28 = .ok (.getfield 7, 3) := by decide +kernel
theorem dX7_cutUp_31 : decode cX7_cutUp 31 = .ok (.iload_n 2, 1) := by decide +kernel
theorem dX7_cutUp_32 : decode cX7_cutUp 32 = .ok (.baload, 1) := by decide +kernel
theorem dX7_cutUp_33 : decode cX7_cutUp 33 = .ok (.istore 5, 2) := by decide +kernel
theorem dX7_cutUp_35 : decode cX7_cutUp 35 = .ok (.aload_n 0, 1) := by decide +kernel
theorem dX7_cutUp_36 : decode cX7_cutUp 36 = .ok (.getfield 7, 3) := by decide +kernel
theorem dX7_cutUp_39 : decode cX7_cutUp 39 = .ok (.iload_n 2, 1) := by decide +kernel
theorem dX7_cutUp_40 : decode cX7_cutUp 40 = .ok (.iconst 1, 1) := by decide +kernel
theorem dX7_cutUp_41 : decode cX7_cutUp 41 = .ok (.iadd, 1) := by decide +kernel
theorem dX7_cutUp_42 : decode cX7_cutUp 42 = .ok (.baload, 1) := by decide +kernel
theorem dX7_cutUp_43 : decode cX7_cutUp 43 = .ok (.sipush 255, 3) := by decide +kernel
theorem dX7_cutUp_46 : decode cX7_cutUp 46 = .ok (.iand, 1) := by decide +kernel
theorem dX7_cutUp_47 : decode cX7_cutUp 47 = .ok (.istore 6, 2) := by decide +kernel
theorem dX7_cutUp_49 : decode cX7_cutUp 49 = .ok (.iload 5, 2) := by decide +kernel
theorem dX7_cutUp_51 : decode cX7_cutUp 51 = .ok (.iconst 0, 1) := by decide +kernel
theorem dX7_cutUp_52 : decode cX7_cutUp 52 = .ok (.iconst 2, 1) := by decide +kernel
theorem dX7_cutUp_53 : decode cX7_cutUp 53 = .ok (.invokestatic 96, 3) := by decide +kernel
theorem dX7_cutUp_56 : decode cX7_cutUp 56 = .ok (.ifCond .eq 16, 3) := by decide +kernel
theorem dX7_cutUp_59 : decode cX7_cutUp 59 = .ok (.iload_n 2, 1) := by decide +kernel
theorem dX7_cutUp_60 : decode cX7_cutUp 60 = .ok (.iconst 2, 1) := by decide +kernel
theorem dX7_cutUp_61 : decode cX7_cutUp 61 = .ok (.iadd, 1) := by decide +kernel
theorem dX7_cutUp_62 : decode cX7_cutUp 62 = .ok (.iload 6, 2) := by decide +kernel
theorem dX7_cutUp_64 : decode cX7_cutUp 64 = .ok (.iadd, 1) := by decide +kernel
theorem dX7_cutUp_65 : decode cX7_cutUp 65 = .ok (.aload_n 0, 1) := by decide +kernel
theorem dX7_cutUp_66 : decode cX7_cutUp 66 = .ok (.getfield 104, 3) := by decide +kernel
theorem dX7_cutUp_69 : decode cX7_cutUp 69 = .ok (.if_icmp .le 5, 3) := by decide +kernel
theorem dX7_cutUp_72 : decode cX7_cutUp 72 = .ok (.iconst 0, 1) := by decide +kernel
theorem dX7_cutUp_73 : decode cX7_cutUp 73 = .ok (.ireturn, 1) := by decide +kernel
theorem dX7_cutUp_74 : decode cX7_cutUp 74 = .ok (.iload 5, 2) := by decide +kernel
theorem dX7_cutUp_76 : decode cX7_cutUp 76 = .ok (.iconst 1, 1) := by decide +kernel
theorem dX7_cutUp_77 : decode cX7_cutUp 77 = .ok (.if_icmp .ne 26, 3) := by decide +kernel
theorem dX7_cutUp_80 : decode cX7_cutUp 80 = .ok (.iinc 3 1, 3) := by decide +kernel
theorem dX7_cutUp_83 : decode cX7_cutUp 83 = .ok (.aload_n 0, 1) := by decide +kernel
theorem dX7_cutUp_84 : decode cX7_cutUp 84 = .ok (.getfield 23, 3) := by decide +kernel
theorem dX7_cutUp_87 : decode cX7_cutUp 87 = .ok (.iload_n 1, 1) := by decide +kernel
theorem dX7_cutUp_88 : decode cX7_cutUp 88 = .ok (.iload_n 2, 1) := by decide +kernel
theorem dX7_cutUp_89 : decode cX7_cutUp 89 = .ok (.iconst 2, 1) := by decide +kernel
theorem dX7_cutUp_90 : decode cX7_cutUp 90 = .ok (.iadd, 1) := by decide +kernel
theorem dX7_cutUp_91 : decode cX7_cutUp 91 = .ok (.iastore, 1) := by decide +kernel
theorem dX7_cutUp_92 : decode cX7_cutUp 92 = .ok (.aload_n 0, 1) := by decide +kernel
theorem dX7_cutUp_93 : decode cX7_cutUp 93 = .ok (.getfield 26, 3) := by decide +kernel
theorem dX7_cutUp_96 : decode cX7_cutUp 96 = .ok (.iload_n 1, 1) := by decide +kernel
theorem dX7_cutUp_97 : decode cX7_cutUp 97 = .ok (.iload 6, 2) := by decide +kernel
theorem dX7_cutUp_99 : decode cX7_cutUp 99 = .ok (.iastore, 1) := by decide +kernel
theorem dX7_cutUp_100 : decode cX7_cutUp 100 = .ok (.goto 29, 3) := by decide +kernel
theorem dX7_cutUp_103 : decode cX7_cutUp 103 = .ok (.iload 5, 2) := by decide +kernel
theorem dX7_cutUp_105 : decode cX7_cutUp 105 = .ok (.iconst 2, 1) := by decide +kernel
theorem dX7_cutUp_106 : decode cX7_cutUp 106 = .ok (.if_icmp .ne 23, 3) := by decide +kernel
theorem dX7_cutUp_109 : decode cX7_cutUp 109 = .ok (.iinc 4 1, 3) := by decide +kernel
theorem dX7_cutUp_112 : decode cX7_cutUp 112 = .ok (.aload_n 0, 1) := by decide +kernel
theorem dX7_cutUp_113 : decode cX7_cutUp 113 = .ok (.getfield 29, 3) := by decide +kernel
theorem dX7_cutUp_116 : decode cX7_cutUp 116 = .ok (.iload_n 1, 1) := by decide +kernel
theorem dX7_cutUp_117 : decode cX7_cutUp 117 = .ok (.iload_n 2, 1) := by decide +kernel
theorem dX7_cutUp_118 : decode cX7_cutUp 118 = .ok (.iconst 2, 1) := by decide +kernel
theorem dX7_cutUp_119 : decode cX7_cutUp 119 = .ok (.iadd, 1) := by decide +kernel
theorem dX7_cutUp_120 : decode cX7_cutUp 120 = .ok (.iastore, 1) := by decide +kernel
theorem dX7_cutUp_121 : decode cX7_cutUp 121 = .ok (.aload_n 0, 1) := by decide +kernel
theorem dX7_cutUp_122 : decode cX7_cutUp 122 = .ok (.getfield 32, 3) := by decide +kernel
theorem dX7_cutUp_125 : decode cX7_cutUp 125 = .ok (.iload_n 1, 1) := by decide +kernel
theorem dX7_cutUp_126 : decode cX7_cutUp 126 = .ok (.iload 6, 2) := by decide +kernel
theorem dX7_cutUp_128 : decode cX7_cutUp 128 = .ok (.iastore, 1) := by decide +kernel
theorem dX7_cutUp_129 : decode cX7_cutUp 129 = .ok (.iload_n 2, 1) := by decide +kernel
theorem dX7_cutUp_130 : decode cX7_cutUp 130 = .ok (.iconst 2, 1) := by decide +kernel
theorem dX7_cutUp_131 : decode cX7_cutUp 131 = .ok (.iload 6, 2) := by decide +kernel
theorem dX7_cutUp_133 : decode cX7_cutUp 133 = .ok (.iadd, 1) := by decide +kernel
theorem dX7_cutUp_134 : decode cX7_cutUp 134 = .ok (.iadd, 1) := by decide +kernel
theorem dX7_cutUp_135 : decode cX7_cutUp 135 = .ok (.istore_n 2, 1) := by decide +kernel
theorem dX7_cutUp_136 : decode cX7_cutUp 136 = .ok (.goto (-129), 3) := by decide +kernel
theorem dX7_cutUp_139 : decode cX7_cutUp 139 = .ok (.iload_n 3, 1) := by decide +kernel
theorem dX7_cutUp_140 : decode cX7_cutUp 140 = .ok (.ifCond .ne 10, 3) := by decide +kernel
theorem dX7_cutUp_143 : decode cX7_cutUp 143 = .ok (.aload_n 0, 1) := by decide +kernel
theorem dX7_cutUp_144 : decode cX7_cutUp 144 = .ok (.getfield 23, 3) := by decide +kernel
theorem dX7_cutUp_147 : decode cX7_cutUp 147 = .ok (.iload_n 1, 1) := by decide +kernel
theorem dX7_cutUp_148 : decode cX7_cutUp 148 = .ok (.iconst (-1), 1) := by decide +kernel
theorem dX7_cutUp_149 : decode cX7_cutUp 149 = .ok (.iastore, 1) := by decide +kernel
theorem dX7_cutUp_150 : decode cX7_cutUp 150 = .ok (.iload 4, 2) := by decide +kernel
theorem dX7_cutUp_152 : decode cX7_cutUp 152 = .ok (.iconst 1, 1) := by decide +kernel
theorem dX7_cutUp_153 : decode cX7_cutUp 153 = .ok (.if_icmp .ne 12, 3) := by decide +kernel
theorem dX7_cutUp_156 : decode cX7_cutUp 156 = .ok (.iload_n 3, 1) := by decide +kernel
theorem dX7_cutUp_157 : decode cX7_cutUp 157 = .ok (.iconst 2, 1) := by decide +kernel
theorem dX7_cutUp_158 : decode cX7_cutUp 158 = .ok (.if_icmp .ge 7, 3) := by decide +kernel
theorem dX7_cutUp_161 : decode cX7_cutUp 161 = .ok (.iconst 1, 1) := by decide +kernel
theorem dX7_cutUp_162 : decode cX7_cutUp 162 = .ok (.goto 4, 3) := by decide +kernel
theorem dX7_cutUp_165 : decode cX7_cutUp 165 = .ok (.iconst 0, 1) := by decide +kernel
theorem dX7_cutUp_166 : decode cX7_cutUp 166 = .ok (.ireturn, 1) := by decide +kernel
theorem dX7_place_0 : decode cX7_place 0 = .ok (.bipush 9, 2) := by decide +kernel
theorem dX7_place_2 : decode cX7_place 2 = .ok (.iload_n 0, 1) := by decide +kernel
theorem dX7_place_3 : decode cX7_place 3 = .ok (.iconst 1, 1) := by decide +kernel
theorem dX7_place_4 : decode cX7_place 4 = .ok (.isub, 1) := by decide +kernel
theorem dX7_place_5 : decode cX7_place 5 = .ok (.imul, 1) := by decide +kernel
theorem dX7_place_6 : decode cX7_place 6 = .ok (.iload_n 1, 1) := by decide +kernel
theorem dX7_place_7 : decode cX7_place 7 = .ok (.iadd, 1) := by decide +kernel
theorem dX7_place_8 : decode cX7_place 8 = .ok (.iconst 1, 1) := by decide +kernel
theorem dX7_place_9 : decode cX7_place 9 = .ok (.isub, 1) := by decide +kernel
theorem dX7_place_10 : decode cX7_place 10 = .ok (.ireturn, 1) := by decide +kernel
theorem dX7_runnable_0 : decode cX7_runnable 0 = .ok (.aload_n 0, 1) := by decide +kernel
theorem dX7_runnable_1 : decode cX7_runnable 1 = .ok (.iconst 0, 1) := by decide +kernel
theorem dX7_runnable_2 : decode cX7_runnable 2 = .ok (.putfield 90, 3) := by decide +kernel
theorem dX7_runnable_5 : decode cX7_runnable 5 = .ok (.iload_n 1, 1) := by decide +kernel
theorem dX7_runnable_6 : decode cX7_runnable 6 = .ok (.iconst 0, 1) := by decide +kernel
theorem dX7_runnable_7 : decode cX7_runnable 7 = .ok (.aload_n 0, 1) := by decide +kernel
theorem dX7_runnable_8 : decode cX7_runnable 8 = .ok (.getfield 107, 3) := by decide +kernel
theorem dX7_runnable_11 : decode cX7_runnable 11 = .ok (.invokestatic 96, 3) := by decide +kernel
theorem dX7_runnable_14 : decode cX7_runnable 14 = .ok (.ifCond .ne 9, 3) := by decide +kernel
theorem dX7_runnable_17 : decode cX7_runnable 17 = .ok (.aload_n 0, 1) := by decide +kernel
theorem dX7_runnable_18 : decode cX7_runnable 18 = .ok (.iconst (-1), 1) := by decide +kernel
theorem dX7_runnable_19 : decode cX7_runnable 19 = .ok (.invokevirtual 100, 3) := by decide +kernel
theorem dX7_runnable_22 : decode cX7_runnable 22 = .ok (.ireturn, 1) := by decide +kernel
theorem dX7_runnable_23 : decode cX7_runnable 23 = .ok (.iload_n 1, 1) := by decide +kernel
theorem dX7_runnable_24 : decode cX7_runnable 24 = .ok (.ifCond .ne 20, 3) := by decide +kernel
theorem dX7_runnable_27 : decode cX7_runnable 27 = .ok (.aload_n 0, 1) := by decide +kernel
theorem dX7_runnable_28 : decode cX7_runnable 28 = .ok (.getfield 107, 3) := by decide +kernel
theorem dX7_runnable_31 : decode cX7_runnable 31 = .ok (.bipush 20, 2) := by decide +kernel
theorem dX7_runnable_33 : decode cX7_runnable 33 = .ok (.if_icmp .ne 7, 3) := by decide +kernel
theorem dX7_runnable_36 : decode cX7_runnable 36 = .ok (.iconst 1, 1) := by decide +kernel
theorem dX7_runnable_37 : decode cX7_runnable 37 = .ok (.goto 23, 3) := by decide +kernel
theorem dX7_runnable_40 : decode cX7_runnable 40 = .ok (.iconst 0, 1) := by decide +kernel
theorem dX7_runnable_41 : decode cX7_runnable 41 = .ok (.goto 19, 3) := by decide +kernel
theorem dX7_runnable_44 : decode cX7_runnable 44 = .ok (.aload_n 0, 1) := by decide +kernel
theorem dX7_runnable_45 : decode cX7_runnable 45 = .ok (.getfield 13, 3) := by decide +kernel
theorem dX7_runnable_48 : decode cX7_runnable 48 = .ok (.iload_n 1, 1) := by decide +kernel
theorem dX7_runnable_49 : decode cX7_runnable 49 = .ok (.iaload, 1) := by decide +kernel
theorem dX7_runnable_50 : decode cX7_runnable 50 = .ok (.bipush 9, 2) := by decide +kernel
theorem dX7_runnable_52 : decode cX7_runnable 52 = .ok (.if_icmp .ne 7, 3) := by decide +kernel
theorem dX7_runnable_55 : decode cX7_runnable 55 = .ok (.iconst 1, 1) := by decide +kernel
theorem dX7_runnable_56 : decode cX7_runnable 56 = .ok (.goto 4, 3) := by decide +kernel
theorem dX7_runnable_59 : decode cX7_runnable 59 = .ok (.iconst 0, 1) := by decide +kernel
theorem dX7_runnable_60 : decode cX7_runnable 60 = .ok (.istore_n 2, 1) := by decide +kernel
theorem dX7_runnable_61 : decode cX7_runnable 61 = .ok (.iload_n 1, 1) := by decide +kernel
theorem dX7_runnable_62 : decode cX7_runnable 62 = .ok (.ifCond .ne 12, 3) := by decide +kernel
theorem dX7_runnable_65 : decode cX7_runnable 65 = .ok (.aload_n 0, 1) := by decide +kernel
theorem dX7_runnable_66 : decode cX7_runnable 66 = .ok (.getfield 107, 3) := by decide +kernel
theorem dX7_runnable_69 : decode cX7_runnable 69 = .ok (.iconst 1, 1) := by decide +kernel
theorem dX7_runnable_70 : decode cX7_runnable 70 = .ok (.iadd, 1) := by decide +kernel
theorem dX7_runnable_71 : decode cX7_runnable 71 = .ok (.goto 4, 3) := by decide +kernel
theorem dX7_runnable_74 : decode cX7_runnable 74 = .ok (.iload_n 1, 1) := by decide +kernel
theorem dX7_runnable_75 : decode cX7_runnable 75 = .ok (.istore_n 3, 1) := by decide +kernel
theorem dX7_runnable_76 : decode cX7_runnable 76 = .ok (.iload_n 1, 1) := by decide +kernel
theorem dX7_runnable_77 : decode cX7_runnable 77 = .ok (.ifCond .ne 7, 3) := by decide +kernel
theorem dX7_runnable_80 : decode cX7_runnable 80 = .ok (.iconst 1, 1) := by decide +kernel
theorem dX7_runnable_81 : decode cX7_runnable 81 = .ok (.goto 11, 3) := by decide +kernel
theorem dX7_runnable_84 : decode cX7_runnable 84 = .ok (.aload_n 0, 1) := by decide +kernel
theorem dX7_runnable_85 : decode cX7_runnable 85 = .ok (.getfield 13, 3) := by decide +kernel
theorem dX7_runnable_88 : decode cX7_runnable 88 = .ok (.iload_n 1, 1) := by decide +kernel
theorem dX7_runnable_89 : decode cX7_runnable 89 = .ok (.iaload, 1) := by decide +kernel
theorem dX7_runnable_90 : decode cX7_runnable 90 = .ok (.iconst 1, 1) := by decide +kernel
theorem dX7_runnable_91 : decode cX7_runnable 91 = .ok (.iadd, 1) := by decide +kernel
theorem dX7_runnable_92 : decode cX7_runnable 92 = .ok (.istore 4, 2) := by decide +kernel
theorem dX7_runnable_94 : decode cX7_runnable 94 = .ok (.iload_n 2, 1) := by decide +kernel
theorem dX7_runnable_95 : decode cX7_runnable 95 = .ok (.ifCond .eq 24, 3) := by decide +kernel
theorem dX7_runnable_98 : decode cX7_runnable 98 = .ok (.aload_n 0, 1) := by decide +kernel
theorem dX7_runnable_99 : decode cX7_runnable 99 = .ok (.invokevirtual 110, 3) := by decide +kernel
theorem dX7_runnable_102 : decode cX7_runnable 102 = .ok (.ifCond .eq 12, 3) := by decide +kernel
theorem dX7_runnable_105 : decode cX7_runnable 105 = .ok (.aload_n 0, 1) := by decide +kernel
theorem dX7_runnable_106 : decode cX7_runnable 106 = .ok (.bipush (-4), 2) := by decide +kernel
theorem dX7_runnable_108 : decode cX7_runnable 108 = .ok (.invokevirtual 100, 3) := by decide +kernel
theorem dX7_runnable_111 : decode cX7_runnable 111 = .ok (.goto 7, 3) := by decide +kernel
theorem dX7_runnable_114 : decode cX7_runnable 114 = .ok (.aload_n 0, 1) := by decide +kernel
theorem dX7_runnable_115 : decode cX7_runnable 115 = .ok (.invokevirtual 114, 3) := by decide +kernel
theorem dX7_runnable_118 : decode cX7_runnable 118 = .ok (.ireturn, 1) := by decide +kernel
theorem dX7_runnable_119 : decode cX7_runnable 119 = .ok (.iload_n 3, 1) := by decide +kernel
theorem dX7_runnable_120 : decode cX7_runnable 120 = .ok (.iload 4, 2) := by decide +kernel
theorem dX7_runnable_122 : decode cX7_runnable 122 = .ok (.invokestatic 118, 3) := by decide +kernel
theorem dX7_runnable_125 : decode cX7_runnable 125 = .ok (.istore 5, 2) := by decide +kernel
theorem dX7_runnable_127 : decode cX7_runnable 127 = .ok (.aload_n 0, 1) := by decide +kernel
theorem dX7_runnable_128 : decode cX7_runnable 128 = .ok (.iload 5, 2) := by decide +kernel
theorem dX7_runnable_130 : decode cX7_runnable 130 = .ok (.invokevirtual 122, 3) := by decide +kernel
theorem dX7_runnable_133 : decode cX7_runnable 133 = .ok (.ifCond .ne 8, 3) := by decide +kernel
theorem dX7_runnable_136 : decode cX7_runnable 136 = .ok (.aload_n 0, 1) := by decide +kernel
theorem dX7_runnable_137 : decode cX7_runnable 137 = .ok (.invokevirtual 114, 3) := by decide +kernel
theorem dX7_runnable_140 : decode cX7_runnable 140 = .ok (.ireturn, 1) := by decide +kernel
theorem dX7_runnable_141 : decode cX7_runnable 141 = .ok (.iconst 0, 1) := by decide +kernel
theorem dX7_runnable_142 : decode cX7_runnable 142 = .ok (.istore 6, 2) := by decide +kernel
theorem dX7_runnable_144 : decode cX7_runnable 144 = .ok (.iload 6, 2) := by decide +kernel
theorem dX7_runnable_146 : decode cX7_runnable 146 = .ok (.aload_n 0, 1) := by decide +kernel
theorem dX7_runnable_147 : decode cX7_runnable 147 = .ok (.getfield 104, 3) := by decide +kernel
theorem dX7_runnable_150 : decode cX7_runnable 150 = .ok (.if_icmp .ge 29, 3) := by decide +kernel
theorem dX7_runnable_153 : decode cX7_runnable 153 = .ok (.aload_n 0, 1) := by decide +kernel
theorem dX7_runnable_154 : decode cX7_runnable 154 = .ok (.getfield 17, 3) := by decide +kernel
theorem dX7_runnable_157 : decode cX7_runnable 157 = .ok (.bipush 120, 2) := by decide +kernel
theorem dX7_runnable_159 : decode cX7_runnable 159 = .ok (.iload 5, 2) := by decide +kernel
theorem dX7_runnable_161 : decode cX7_runnable 161 = .ok (.imul, 1) := by decide +kernel
theorem dX7_runnable_162 : decode cX7_runnable 162 = .ok (.iload 6, 2) := by decide +kernel
theorem dX7_runnable_164 : decode cX7_runnable 164 = .ok (.iadd, 1) := by decide +kernel
theorem dX7_runnable_165 : decode cX7_runnable 165 = .ok (.aload_n 0, 1) := by decide +kernel
theorem dX7_runnable_166 : decode cX7_runnable 166 = .ok (.getfield 7, 3) := by decide +kernel
theorem dX7_runnable_169 : decode cX7_runnable 169 = .ok (.iload 6, 2) := by decide +kernel
theorem dX7_runnable_171 : decode cX7_runnable 171 = .ok (.baload, 1) := by decide +kernel
theorem dX7_runnable_172 : decode cX7_runnable 172 = .ok (.bastore, 1) := by decide +kernel
theorem dX7_runnable_173 : decode cX7_runnable 173 = .ok (.iinc 6 1, 3) := by decide +kernel
theorem dX7_runnable_176 : decode cX7_runnable 176 = .ok (.goto (-32), 3) := by decide +kernel
theorem dX7_runnable_179 : decode cX7_runnable 179 = .ok (.aload_n 0, 1) := by decide +kernel
theorem dX7_runnable_180 : decode cX7_runnable 180 = .ok (.getfield 20, 3) := by decide +kernel
theorem dX7_runnable_183 : decode cX7_runnable 183 = .ok (.iload 5, 2) := by decide +kernel
theorem dX7_runnable_185 : decode cX7_runnable 185 = .ok (.aload_n 0, 1) := by decide +kernel
theorem dX7_runnable_186 : decode cX7_runnable 186 = .ok (.getfield 104, 3) := by decide +kernel
theorem dX7_runnable_189 : decode cX7_runnable 189 = .ok (.iastore, 1) := by decide +kernel
theorem dX7_runnable_190 : decode cX7_runnable 190 = .ok (.aload_n 0, 1) := by decide +kernel
theorem dX7_runnable_191 : decode cX7_runnable 191 = .ok (.iconst 0, 1) := by decide +kernel
theorem dX7_runnable_192 : decode cX7_runnable 192 = .ok (.putfield 104, 3) := by decide +kernel
theorem dX7_runnable_195 : decode cX7_runnable 195 = .ok (.aload_n 0, 1) := by decide +kernel
theorem dX7_runnable_196 : decode cX7_runnable 196 = .ok (.getfield 13, 3) := by decide +kernel
theorem dX7_runnable_199 : decode cX7_runnable 199 = .ok (.iload_n 3, 1) := by decide +kernel
theorem dX7_runnable_200 : decode cX7_runnable 200 = .ok (.iload 4, 2) := by decide +kernel
theorem dX7_runnable_202 : decode cX7_runnable 202 = .ok (.iastore, 1) := by decide +kernel
theorem dX7_runnable_203 : decode cX7_runnable 203 = .ok (.aload_n 0, 1) := by decide +kernel
theorem dX7_runnable_204 : decode cX7_runnable 204 = .ok (.iload_n 3, 1) := by decide +kernel
theorem dX7_runnable_205 : decode cX7_runnable 205 = .ok (.aload_n 0, 1) := by decide +kernel
theorem dX7_runnable_206 : decode cX7_runnable 206 = .ok (.getfield 107, 3) := by decide +kernel
theorem dX7_runnable_209 : decode cX7_runnable 209 = .ok (.if_icmp .le 7, 3) := by decide +kernel
theorem dX7_runnable_212 : decode cX7_runnable 212 = .ok (.iload_n 3, 1) := by decide +kernel
theorem dX7_runnable_213 : decode cX7_runnable 213 = .ok (.goto 7, 3) := by decide +kernel
theorem dX7_runnable_216 : decode cX7_runnable 216 = .ok (.aload_n 0, 1) := by decide +kernel
theorem dX7_runnable_217 : decode cX7_runnable 217 = .ok (.getfield 107, 3) := by decide +kernel
theorem dX7_runnable_220 : decode cX7_runnable 220 = .ok (.putfield 107, 3) := by decide +kernel
theorem dX7_runnable_223 : decode cX7_runnable 223 = .ok (.iload_n 1, 1) := by decide +kernel
theorem dX7_runnable_224 : decode cX7_runnable 224 = .ok (.ifCond .ne 7, 3) := by decide +kernel
theorem dX7_runnable_227 : decode cX7_runnable 227 = .ok (.iload_n 3, 1) := by decide +kernel
theorem dX7_runnable_228 : decode cX7_runnable 228 = .ok (.goto 5, 3) := by decide +kernel
theorem dX7_runnable_231 : decode cX7_runnable 231 = .ok (.iload 4, 2) := by decide +kernel
theorem dX7_runnable_233 : decode cX7_runnable 233 = .ok (.ireturn, 1) := by decide +kernel
theorem dX7_empties_0 : decode cX7_empties 0 = .ok (.aload_n 0, 1) := by decide +kernel
theorem dX7_empties_1 : decode cX7_empties 1 = .ok (.iconst 0, 1) := by decide +kernel
theorem dX7_empties_2 : decode cX7_empties 2 = .ok (.putfield 104, 3) := by decide +kernel
theorem dX7_empties_5 : decode cX7_empties 5 = .ok (.aload_n 0, 1) := by decide +kernel
theorem dX7_empties_6 : decode cX7_empties 6 = .ok (.bipush (-2), 2) := by decide +kernel
theorem dX7_empties_8 : decode cX7_empties 8 = .ok (.invokevirtual 100, 3) := by decide +kernel
theorem dX7_empties_11 : decode cX7_empties 11 = .ok (.ireturn, 1) := by decide +kernel
theorem dX7_isRight_0 : decode cX7_isRight 0 = .ok (.iconst 0, 1) := by decide +kernel
theorem dX7_isRight_1 : decode cX7_isRight 1 = .ok (.istore_n 1, 1) := by decide +kernel
theorem dX7_isRight_2 : decode cX7_isRight 2 = .ok (.iconst 0, 1) := by decide +kernel
theorem dX7_isRight_3 : decode cX7_isRight 3 = .ok (.istore_n 2, 1) := by decide +kernel
theorem dX7_isRight_4 : decode cX7_isRight 4 = .ok (.iconst 0, 1) := by decide +kernel
theorem dX7_isRight_5 : decode cX7_isRight 5 = .ok (.istore_n 3, 1) := by decide +kernel
theorem dX7_isRight_6 : decode cX7_isRight 6 = .ok (.iconst 1, 1) := by decide +kernel
theorem dX7_isRight_7 : decode cX7_isRight 7 = .ok (.istore 4, 2) := by decide +kernel
theorem dX7_isRight_9 : decode cX7_isRight 9 = .ok (.iload 4, 2) := by decide +kernel
theorem dX7_isRight_11 : decode cX7_isRight 11 = .ok (.ifCond .eq 129, 3) := by decide +kernel
theorem dX7_isRight_14 : decode cX7_isRight 14 = .ok (.iload_n 1, 1) := by decide +kernel
theorem dX7_isRight_15 : decode cX7_isRight 15 = .ok (.aload_n 0, 1) := by decide +kernel
theorem dX7_isRight_16 : decode cX7_isRight 16 = .ok (.getfield 104, 3) := by decide +kernel
theorem dX7_isRight_19 : decode cX7_isRight 19 = .ok (.if_icmp .ge 121, 3) := by decide +kernel
theorem dX7_isRight_22 : decode cX7_isRight 22 = .ok (.iload_n 1, 1) := by decide +kernel
theorem dX7_isRight_23 : decode cX7_isRight 23 = .ok (.iconst 1, 1) := by decide +kernel
theorem dX7_isRight_24 : decode cX7_isRight 24 = .ok (.iadd, 1) := by decide +kernel
theorem dX7_isRight_25 : decode cX7_isRight 25 = .ok (.aload_n 0, 1) := by decide +kernel
theorem dX7_isRight_26 : decode cX7_isRight 26 = .ok (.getfield 104, 3) := by decide +kernel
theorem dX7_isRight_29 : decode cX7_isRight 29 = .ok (.if_icmp .ge 44, 3) := by decide +kernel
theorem dX7_isRight_32 : decode cX7_isRight 32 = .ok (.aload_n 0, 1) := by decide +kernel
theorem dX7_isRight_33 : decode cX7_isRight 33 = .ok (.getfield 7, 3) := by decide +kernel
theorem dX7_isRight_36 : decode cX7_isRight 36 = .ok (.iload_n 1, 1) := by decide +kernel
theorem dX7_isRight_37 : decode cX7_isRight 37 = .ok (.baload, 1) := by decide +kernel
theorem dX7_isRight_38 : decode cX7_isRight 38 = .ok (.iconst 0, 1) := by decide +kernel
theorem dX7_isRight_39 : decode cX7_isRight 39 = .ok (.iconst 2, 1) := by decide +kernel
theorem dX7_isRight_40 : decode cX7_isRight 40 = .ok (.invokestatic 96, 3) := by decide +kernel
theorem dX7_isRight_43 : decode cX7_isRight 43 = .ok (.ifCond .eq 30, 3) := by decide +kernel
theorem dX7_isRight_46 : decode cX7_isRight 46 = .ok (.iload_n 1, 1) := by decide +kernel
theorem dX7_isRight_47 : decode cX7_isRight 47 = .ok (.iconst 2, 1) := by decide +kernel
theorem dX7_isRight_48 : decode cX7_isRight 48 = .ok (.iadd, 1) := by decide +kernel
theorem dX7_isRight_49 : decode cX7_isRight 49 = .ok (.aload_n 0, 1) := by decide +kernel
theorem dX7_isRight_50 : decode cX7_isRight 50 = .ok (.getfield 7, 3) := by decide +kernel
theorem dX7_isRight_53 : decode cX7_isRight 53 = .ok (.iload_n 1, 1) := by decide +kernel
theorem dX7_isRight_54 : decode cX7_isRight 54 = .ok (.iconst 1, 1) := by decide +kernel
theorem dX7_isRight_55 : decode cX7_isRight 55 = .ok (.iadd, 1) := by decide +kernel
theorem dX7_isRight_56 : decode cX7_isRight 56 = .ok (.baload, 1) := by decide +kernel
theorem dX7_isRight_57 : decode cX7_isRight 57 = .ok (.sipush 255, 3) := by decide +kernel
theorem dX7_isRight_60 : decode cX7_isRight 60 = .ok (.iand, 1) := by decide +kernel
theorem dX7_isRight_61 : decode cX7_isRight 61 = .ok (.iadd, 1) := by decide +kernel
theorem dX7_isRight_62 : decode cX7_isRight 62 = .ok (.aload_n 0, 1) := by decide +kernel
theorem dX7_isRight_63 : decode cX7_isRight 63 = .ok (.getfield 104, 3) := by decide +kernel
theorem dX7_isRight_66 : decode cX7_isRight 66 = .ok (.if_icmp .gt 7, 3) := by decide +kernel
theorem dX7_isRight_69 : decode cX7_isRight 69 = .ok (.iconst 1, 1) := by decide +kernel
theorem dX7_isRight_70 : decode cX7_isRight 70 = .ok (.goto 4, 3) := by decide +kernel
theorem dX7_isRight_73 : decode cX7_isRight 73 = .ok (.iconst 0, 1) := by decide +kernel
theorem dX7_isRight_74 : decode cX7_isRight 74 = .ok (.istore 4, 2) := by decide +kernel
theorem dX7_isRight_76 : decode cX7_isRight 76 = .ok (.iload 4, 2) := by decide +kernel
theorem dX7_isRight_78 : decode cX7_isRight 78 = .ok (.ifCond .ne 6, 3) := by decide +kernel
theorem dX7_isRight_81 : decode cX7_isRight 81 = .ok (.goto (-72), 3) := by decide +kernel
theorem dX7_isRight_84 : decode cX7_isRight 84 = .ok (.iload_n 2, 1) := by decide +kernel
theorem dX7_isRight_85 : decode cX7_isRight 85 = .ok (.aload_n 0, 1) := by decide +kernel
theorem dX7_isRight_86 : decode cX7_isRight 86 = .ok (.getfield 7, 3) := by decide +kernel
theorem dX7_isRight_89 : decode cX7_isRight 89 = .ok (.iload_n 1, 1) := by decide +kernel
theorem dX7_isRight_90 : decode cX7_isRight 90 = .ok (.baload, 1) := by decide +kernel
theorem dX7_isRight_91 : decode cX7_isRight 91 = .ok (.iconst 1, 1) := by decide +kernel
theorem dX7_isRight_92 : decode cX7_isRight 92 = .ok (.if_icmp .ne 7, 3) := by decide +kernel
theorem dX7_isRight_95 : decode cX7_isRight 95 = .ok (.iconst 1, 1) := by decide +kernel
theorem dX7_isRight_96 : decode cX7_isRight 96 = .ok (.goto 4, 3) := by decide +kernel
theorem dX7_isRight_99 : decode cX7_isRight 99 = .ok (.iconst 0, 1) := by decide +kernel
theorem dX7_isRight_100 : decode cX7_isRight 100 = .ok (.iadd, 1) := by decide +kernel
theorem dX7_isRight_101 : decode cX7_isRight 101 = .ok (.istore_n 2, 1) := by decide +kernel
theorem dX7_isRight_102 : decode cX7_isRight 102 = .ok (.iload_n 3, 1) := by decide +kernel
theorem dX7_isRight_103 : decode cX7_isRight 103 = .ok (.aload_n 0, 1) := by decide +kernel
theorem dX7_isRight_104 : decode cX7_isRight 104 = .ok (.getfield 7, 3) := by decide +kernel
theorem dX7_isRight_107 : decode cX7_isRight 107 = .ok (.iload_n 1, 1) := by decide +kernel
theorem dX7_isRight_108 : decode cX7_isRight 108 = .ok (.baload, 1) := by decide +kernel
theorem dX7_isRight_109 : decode cX7_isRight 109 = .ok (.iconst 2, 1) := by decide +kernel
theorem dX7_isRight_110 : decode cX7_isRight 110 = .ok (.if_icmp .ne 7, 3) := by decide +kernel
theorem dX7_isRight_113 : decode cX7_isRight 113 = .ok (.iconst 1, 1) := by decide +kernel
theorem dX7_isRight_114 : decode cX7_isRight 114 = .ok (.goto 4, 3) := by decide +kernel
theorem dX7_isRight_117 : decode cX7_isRight 117 = .ok (.iconst 0, 1) := by decide +kernel
theorem dX7_isRight_118 : decode cX7_isRight 118 = .ok (.iadd, 1) := by decide +kernel
theorem dX7_isRight_119 : decode cX7_isRight 119 = .ok (.istore_n 3, 1) := by decide +kernel
theorem dX7_isRight_120 : decode cX7_isRight 120 = .ok (.iload_n 1, 1) := by decide +kernel
theorem dX7_isRight_121 : decode cX7_isRight 121 = .ok (.iconst 2, 1) := by decide +kernel
theorem dX7_isRight_122 : decode cX7_isRight 122 = .ok (.aload_n 0, 1) := by decide +kernel
theorem dX7_isRight_123 : decode cX7_isRight 123 = .ok (.getfield 7, 3) := by decide +kernel
theorem dX7_isRight_126 : decode cX7_isRight 126 = .ok (.iload_n 1, 1) := by decide +kernel
theorem dX7_isRight_127 : decode cX7_isRight 127 = .ok (.iconst 1, 1) := by decide +kernel
theorem dX7_isRight_128 : decode cX7_isRight 128 = .ok (.iadd, 1) := by decide +kernel
theorem dX7_isRight_129 : decode cX7_isRight 129 = .ok (.baload, 1) := by decide +kernel
theorem dX7_isRight_130 : decode cX7_isRight 130 = .ok (.sipush 255, 3) := by decide +kernel
theorem dX7_isRight_133 : decode cX7_isRight 133 = .ok (.iand, 1) := by decide +kernel
theorem dX7_isRight_134 : decode cX7_isRight 134 = .ok (.iadd, 1) := by decide +kernel
theorem dX7_isRight_135 : decode cX7_isRight 135 = .ok (.iadd, 1) := by decide +kernel
theorem dX7_isRight_136 : decode cX7_isRight 136 = .ok (.istore_n 1, 1) := by decide +kernel
theorem dX7_isRight_137 : decode cX7_isRight 137 = .ok (.goto (-128), 3) := by decide +kernel
theorem dX7_isRight_140 : decode cX7_isRight 140 = .ok (.iload 4, 2) := by decide +kernel
theorem dX7_isRight_142 : decode cX7_isRight 142 = .ok (.ifCond .eq 17, 3) := by decide +kernel
theorem dX7_isRight_145 : decode cX7_isRight 145 = .ok (.iload_n 3, 1) := by decide +kernel
theorem dX7_isRight_146 : decode cX7_isRight 146 = .ok (.iconst 1, 1) := by decide +kernel
theorem dX7_isRight_147 : decode cX7_isRight 147 = .ok (.if_icmp .ne 12, 3) := by decide +kernel
theorem dX7_isRight_150 : decode cX7_isRight 150 = .ok (.iload_n 2, 1) := by decide +kernel
theorem dX7_isRight_151 : decode cX7_isRight 151 = .ok (.iconst 2, 1) := by decide +kernel
theorem dX7_isRight_152 : decode cX7_isRight 152 = .ok (.if_icmp .ge 7, 3) := by decide +kernel
theorem dX7_isRight_155 : decode cX7_isRight 155 = .ok (.iconst 1, 1) := by decide +kernel
theorem dX7_isRight_156 : decode cX7_isRight 156 = .ok (.goto 4, 3) := by decide +kernel
theorem dX7_isRight_159 : decode cX7_isRight 159 = .ok (.iconst 0, 1) := by decide +kernel
theorem dX7_isRight_160 : decode cX7_isRight 160 = .ok (.ireturn, 1) := by decide +kernel
theorem dX7_isController_0 : decode cX7_isController 0 = .ok (.iload_n 1, 1) := by decide +kernel
theorem dX7_isController_1 : decode cX7_isController 1 = .ok (.iconst 0, 1) := by decide +kernel
theorem dX7_isController_2 : decode cX7_isController 2 = .ok (.bipush 7, 2) := by decide +kernel
theorem dX7_isController_4 : decode cX7_isController 4 = .ok (.invokestatic 96, 3) := by decide +kernel
theorem dX7_isController_7 : decode cX7_isController 7 = .ok (.ireturn, 1) := by decide +kernel
theorem dX7_isRunnable_0 : decode cX7_isRunnable 0 = .ok (.iload_n 1, 1) := by decide +kernel
theorem dX7_isRunnable_1 : decode cX7_isRunnable 1 = .ok (.iconst 1, 1) := by decide +kernel
theorem dX7_isRunnable_2 : decode cX7_isRunnable 2 = .ok (.aload_n 0, 1) := by decide +kernel
theorem dX7_isRunnable_3 : decode cX7_isRunnable 3 = .ok (.getfield 107, 3) := by decide +kernel
theorem dX7_isRunnable_6 : decode cX7_isRunnable 6 = .ok (.invokestatic 96, 3) := by decide +kernel
theorem dX7_isRunnable_9 : decode cX7_isRunnable 9 = .ok (.ireturn, 1) := by decide +kernel
theorem dX7_at_0 : decode cX7_at 0 = .ok (.bipush 20, 2) := by decide +kernel
theorem dX7_at_2 : decode cX7_at 2 = .ok (.iload_n 0, 1) := by decide +kernel
theorem dX7_at_3 : decode cX7_at 3 = .ok (.imul, 1) := by decide +kernel
theorem dX7_at_4 : decode cX7_at 4 = .ok (.iload_n 1, 1) := by decide +kernel
theorem dX7_at_5 : decode cX7_at 5 = .ok (.iadd, 1) := by decide +kernel
theorem dX7_at_6 : decode cX7_at 6 = .ok (.iconst 1, 1) := by decide +kernel
theorem dX7_at_7 : decode cX7_at 7 = .ok (.isub, 1) := by decide +kernel
theorem dX7_at_8 : decode cX7_at 8 = .ok (.ireturn, 1) := by decide +kernel
theorem dX7_hasClass_0 : decode cX7_hasClass 0 = .ok (.aload_n 0, 1) := by decide +kernel
theorem dX7_hasClass_1 : decode cX7_hasClass 1 = .ok (.iload_n 1, 1) := by decide +kernel
theorem dX7_hasClass_2 : decode cX7_hasClass 2 = .ok (.invokevirtual 126, 3) := by decide +kernel
theorem dX7_hasClass_5 : decode cX7_hasClass 5 = .ok (.ifCond .eq 28, 3) := by decide +kernel
theorem dX7_hasClass_8 : decode cX7_hasClass 8 = .ok (.aload_n 0, 1) := by decide +kernel
theorem dX7_hasClass_9 : decode cX7_hasClass 9 = .ok (.iload_n 2, 1) := by decide +kernel
theorem dX7_hasClass_10 : decode cX7_hasClass 10 = .ok (.invokevirtual 129, 3) := by decide +kernel
theorem dX7_hasClass_13 : decode cX7_hasClass 13 = .ok (.ifCond .eq 20, 3) := by decide +kernel
theorem dX7_hasClass_16 : decode cX7_hasClass 16 = .ok (.aload_n 0, 1) := by decide +kernel
theorem dX7_hasClass_17 : decode cX7_hasClass 17 = .ok (.getfield 61, 3) := by decide +kernel
theorem dX7_hasClass_20 : decode cX7_hasClass 20 = .ok (.iload_n 1, 1) := by decide +kernel
theorem dX7_hasClass_21 : decode cX7_hasClass 21 = .ok (.iload_n 2, 1) := by decide +kernel
theorem dX7_hasClass_22 : decode cX7_hasClass 22 = .ok (.invokestatic 132, 3) := by decide +kernel
theorem dX7_hasClass_25 : decode cX7_hasClass 25 = .ok (.iaload, 1) := by decide +kernel
theorem dX7_hasClass_26 : decode cX7_hasClass 26 = .ok (.ifCond .le 7, 3) := by decide +kernel
theorem dX7_hasClass_29 : decode cX7_hasClass 29 = .ok (.iconst 1, 1) := by decide +kernel
theorem dX7_hasClass_30 : decode cX7_hasClass 30 = .ok (.goto 4, 3) := by decide +kernel
theorem dX7_hasClass_33 : decode cX7_hasClass 33 = .ok (.iconst 0, 1) := by decide +kernel
theorem dX7_hasClass_34 : decode cX7_hasClass 34 = .ok (.ireturn, 1) := by decide +kernel
theorem dX7_renew_0 : decode cX7_renew 0 = .ok (.aload_n 0, 1) := by decide +kernel
theorem dX7_renew_1 : decode cX7_renew 1 = .ok (.getfield 61, 3) := by decide +kernel
theorem dX7_renew_4 : decode cX7_renew 4 = .ok (.iload_n 1, 1) := by decide +kernel
theorem dX7_renew_5 : decode cX7_renew 5 = .ok (.aload_n 0, 1) := by decide +kernel
theorem dX7_renew_6 : decode cX7_renew 6 = .ok (.getfield 13, 3) := by decide +kernel
theorem dX7_renew_9 : decode cX7_renew 9 = .ok (.iload_n 2, 1) := by decide +kernel
theorem dX7_renew_10 : decode cX7_renew 10 = .ok (.iaload, 1) := by decide +kernel
theorem dX7_renew_11 : decode cX7_renew 11 = .ok (.iastore, 1) := by decide +kernel
theorem dX7_renew_12 : decode cX7_renew 12 = .ok (.iload_n 3, 1) := by decide +kernel
theorem dX7_renew_13 : decode cX7_renew 13 = .ok (.istore 4, 2) := by decide +kernel
theorem dX7_renew_15 : decode cX7_renew 15 = .ok (.iload 4, 2) := by decide +kernel
theorem dX7_renew_17 : decode cX7_renew 17 = .ok (.bipush 8, 2) := by decide +kernel
theorem dX7_renew_19 : decode cX7_renew 19 = .ok (.if_icmp .ge 22, 3) := by decide +kernel
theorem dX7_renew_22 : decode cX7_renew 22 = .ok (.aload_n 0, 1) := by decide +kernel
theorem dX7_renew_23 : decode cX7_renew 23 = .ok (.getfield 64, 3) := by decide +kernel
theorem dX7_renew_26 : decode cX7_renew 26 = .ok (.bipush 8, 2) := by decide +kernel
theorem dX7_renew_28 : decode cX7_renew 28 = .ok (.iload_n 1, 1) := by decide +kernel
theorem dX7_renew_29 : decode cX7_renew 29 = .ok (.imul, 1) := by decide +kernel
theorem dX7_renew_30 : decode cX7_renew 30 = .ok (.iload 4, 2) := by decide +kernel
theorem dX7_renew_32 : decode cX7_renew 32 = .ok (.iadd, 1) := by decide +kernel
theorem dX7_renew_33 : decode cX7_renew 33 = .ok (.lconst 0, 1) := by decide +kernel
theorem dX7_renew_34 : decode cX7_renew 34 = .ok (.lastore, 1) := by decide +kernel
theorem dX7_renew_35 : decode cX7_renew 35 = .ok (.iinc 4 1, 3) := by decide +kernel
theorem dX7_renew_38 : decode cX7_renew 38 = .ok (.goto (-23), 3) := by decide +kernel
theorem dX7_renew_41 : decode cX7_renew 41 = .ok (.aload_n 0, 1) := by decide +kernel
theorem dX7_renew_42 : decode cX7_renew 42 = .ok (.getfield 67, 3) := by decide +kernel
theorem dX7_renew_45 : decode cX7_renew 45 = .ok (.iload_n 1, 1) := by decide +kernel
theorem dX7_renew_46 : decode cX7_renew 46 = .ok (.iconst 0, 1) := by decide +kernel
theorem dX7_renew_47 : decode cX7_renew 47 = .ok (.bastore, 1) := by decide +kernel
theorem dX7_renew_48 : decode cX7_renew 48 = .ok (.aload_n 0, 1) := by decide +kernel
theorem dX7_renew_49 : decode cX7_renew 49 = .ok (.getfield 70, 3) := by decide +kernel
theorem dX7_renew_52 : decode cX7_renew 52 = .ok (.iload_n 1, 1) := by decide +kernel
theorem dX7_renew_53 : decode cX7_renew 53 = .ok (.iconst (-1), 1) := by decide +kernel
theorem dX7_renew_54 : decode cX7_renew 54 = .ok (.iastore, 1) := by decide +kernel
theorem dX7_renew_55 : decode cX7_renew 55 = .ok (.return_, 1) := by decide +kernel
theorem dX7_make_0 : decode cX7_make 0 = .ok (.aload_n 0, 1) := by decide +kernel
theorem dX7_make_1 : decode cX7_make 1 = .ok (.iconst 0, 1) := by decide +kernel
theorem dX7_make_2 : decode cX7_make 2 = .ok (.putfield 90, 3) := by decide +kernel
theorem dX7_make_5 : decode cX7_make 5 = .ok (.aload_n 0, 1) := by decide +kernel
theorem dX7_make_6 : decode cX7_make 6 = .ok (.iload_n 1, 1) := by decide +kernel
theorem dX7_make_7 : decode cX7_make 7 = .ok (.invokevirtual 126, 3) := by decide +kernel
theorem dX7_make_10 : decode cX7_make 10 = .ok (.ifCond .eq 11, 3) := by decide +kernel
theorem dX7_make_13 : decode cX7_make 13 = .ok (.aload_n 0, 1) := by decide +kernel
theorem dX7_make_14 : decode cX7_make 14 = .ok (.iload_n 2, 1) := by decide +kernel
theorem dX7_make_15 : decode cX7_make 15 = .ok (.invokevirtual 129, 3) := by decide +kernel
theorem dX7_make_18 : decode cX7_make 18 = .ok (.ifCond .ne 9, 3) := by decide +kernel
theorem dX7_make_21 : decode cX7_make 21 = .ok (.aload_n 0, 1) := by decide +kernel
theorem dX7_make_22 : decode cX7_make 22 = .ok (.iconst (-1), 1) := by decide +kernel
theorem dX7_make_23 : decode cX7_make 23 = .ok (.invokevirtual 100, 3) := by decide +kernel
theorem dX7_make_26 : decode cX7_make 26 = .ok (.ireturn, 1) := by decide +kernel
theorem dX7_make_27 : decode cX7_make 27 = .ok (.iload_n 1, 1) := by decide +kernel
theorem dX7_make_28 : decode cX7_make 28 = .ok (.iload_n 2, 1) := by decide +kernel
theorem dX7_make_29 : decode cX7_make 29 = .ok (.invokestatic 132, 3) := by decide +kernel
theorem dX7_make_32 : decode cX7_make 32 = .ok (.istore_n 3, 1) := by decide +kernel
theorem dX7_make_33 : decode cX7_make 33 = .ok (.aload_n 0, 1) := by decide +kernel
theorem dX7_make_34 : decode cX7_make 34 = .ok (.getfield 39, 3) := by decide +kernel
theorem dX7_make_37 : decode cX7_make 37 = .ok (.iload_n 1, 1) := by decide +kernel
theorem dX7_make_38 : decode cX7_make 38 = .ok (.baload, 1) := by decide +kernel
theorem dX7_make_39 : decode cX7_make 39 = .ok (.ifCond .ne 12, 3) := by decide +kernel
theorem dX7_make_42 : decode cX7_make 42 = .ok (.aload_n 0, 1) := by decide +kernel
theorem dX7_make_43 : decode cX7_make 43 = .ok (.getfield 61, 3) := by decide +kernel
theorem dX7_make_46 : decode cX7_make 46 = .ok (.iload_n 3, 1) := by decide +kernel
theorem dX7_make_47 : decode cX7_make 47 = .ok (.iaload, 1) := by decide +kernel
theorem dX7_make_48 : decode cX7_make 48 = .ok (.ifCond .le 10, 3) := by decide +kernel
theorem dX7_make_51 : decode cX7_make 51 = .ok (.aload_n 0, 1) := by decide +kernel
theorem dX7_make_52 : decode cX7_make 52 = .ok (.bipush (-3), 2) := by decide +kernel
theorem dX7_make_54 : decode cX7_make 54 = .ok (.invokevirtual 100, 3) := by decide +kernel
theorem dX7_make_57 : decode cX7_make 57 = .ok (.ireturn, 1) := by decide +kernel
theorem dX7_make_58 : decode cX7_make 58 = .ok (.aload_n 0, 1) := by decide +kernel
theorem dX7_make_59 : decode cX7_make 59 = .ok (.iload_n 3, 1) := by decide +kernel
theorem dX7_make_60 : decode cX7_make 60 = .ok (.iload_n 2, 1) := by decide +kernel
theorem dX7_make_61 : decode cX7_make 61 = .ok (.iconst 0, 1) := by decide +kernel
theorem dX7_make_62 : decode cX7_make 62 = .ok (.invokevirtual 135, 3) := by decide +kernel
theorem dX7_make_65 : decode cX7_make 65 = .ok (.iconst 1, 1) := by decide +kernel
theorem dX7_make_66 : decode cX7_make 66 = .ok (.ireturn, 1) := by decide +kernel
theorem dX7_lay_0 : decode cX7_lay 0 = .ok (.aload_n 0, 1) := by decide +kernel
theorem dX7_lay_1 : decode cX7_lay 1 = .ok (.getfield 76, 3) := by decide +kernel
theorem dX7_lay_4 : decode cX7_lay 4 = .ok (.aload_n 0, 1) := by decide +kernel
theorem dX7_lay_5 : decode cX7_lay 5 = .ok (.getfield 139, 3) := by decide +kernel
theorem dX7_lay_8 : decode cX7_lay 8 = .ok (.lload_n 1, 1) := by decide +kernel
theorem dX7_lay_9 : decode cX7_lay 9 = .ok (.lastore, 1) := by decide +kernel
theorem dX7_lay_10 : decode cX7_lay 10 = .ok (.aload_n 0, 1) := by decide +kernel
theorem dX7_lay_11 : decode cX7_lay 11 = .ok (.dup, 1) := by decide +kernel
theorem dX7_lay_12 : decode cX7_lay 12 = .ok (.getfield 139, 3) := by decide +kernel
theorem dX7_lay_15 : decode cX7_lay 15 = .ok (.iconst 1, 1) := by decide +kernel
theorem dX7_lay_16 : decode cX7_lay 16 = .ok (.iadd, 1) := by decide +kernel
theorem dX7_lay_17 : decode cX7_lay 17 = .ok (.putfield 139, 3) := by decide +kernel
theorem dX7_lay_20 : decode cX7_lay 20 = .ok (.return_, 1) := by decide +kernel
theorem dX7_take_0 : decode cX7_take 0 = .ok (.aload_n 0, 1) := by decide +kernel
theorem dX7_take_1 : decode cX7_take 1 = .ok (.dup, 1) := by decide +kernel
theorem dX7_take_2 : decode cX7_take 2 = .ok (.getfield 139, 3) := by decide +kernel
theorem dX7_take_5 : decode cX7_take 5 = .ok (.iconst 1, 1) := by decide +kernel
theorem dX7_take_6 : decode cX7_take 6 = .ok (.isub, 1) := by decide +kernel
theorem dX7_take_7 : decode cX7_take 7 = .ok (.putfield 139, 3) := by decide +kernel
theorem dX7_take_10 : decode cX7_take 10 = .ok (.aload_n 0, 1) := by decide +kernel
theorem dX7_take_11 : decode cX7_take 11 = .ok (.getfield 76, 3) := by decide +kernel
theorem dX7_take_14 : decode cX7_take 14 = .ok (.aload_n 0, 1) := by decide +kernel
theorem dX7_take_15 : decode cX7_take 15 = .ok (.getfield 139, 3) := by decide +kernel
theorem dX7_take_18 : decode cX7_take 18 = .ok (.laload, 1) := by decide +kernel
theorem dX7_take_19 : decode cX7_take 19 = .ok (.lreturn, 1) := by decide +kernel
theorem dX7_call_0 : decode cX7_call 0 = .ok (.aload_n 0, 1) := by decide +kernel
theorem dX7_call_1 : decode cX7_call 1 = .ok (.dup, 1) := by decide +kernel
theorem dX7_call_2 : decode cX7_call 2 = .ok (.getfield 142, 3) := by decide +kernel
theorem dX7_call_5 : decode cX7_call 5 = .ok (.iconst 1, 1) := by decide +kernel
theorem dX7_call_6 : decode cX7_call 6 = .ok (.iadd, 1) := by decide +kernel
theorem dX7_call_7 : decode cX7_call 7 = .ok (.putfield 142, 3) := by decide +kernel
theorem dX7_call_10 : decode cX7_call 10 = .ok (.aload_n 0, 1) := by decide +kernel
theorem dX7_call_11 : decode cX7_call 11 = .ok (.iconst 0, 1) := by decide +kernel
theorem dX7_call_12 : decode cX7_call 12 = .ok (.putfield 139, 3) := by decide +kernel
theorem dX7_call_15 : decode cX7_call 15 = .ok (.aload_n 0, 1) := by decide +kernel
theorem dX7_call_16 : decode cX7_call 16 = .ok (.iconst 0, 1) := by decide +kernel
theorem dX7_call_17 : decode cX7_call 17 = .ok (.putfield 145, 3) := by decide +kernel
theorem dX7_call_20 : decode cX7_call 20 = .ok (.aload_n 0, 1) := by decide +kernel
theorem dX7_call_21 : decode cX7_call 21 = .ok (.iconst 0, 1) := by decide +kernel
theorem dX7_call_22 : decode cX7_call 22 = .ok (.putfield 148, 3) := by decide +kernel
theorem dX7_call_25 : decode cX7_call 25 = .ok (.iload_n 1, 1) := by decide +kernel
theorem dX7_call_26 : decode cX7_call 26 = .ok (.iload_n 2, 1) := by decide +kernel
theorem dX7_call_27 : decode cX7_call 27 = .ok (.invokestatic 132, 3) := by decide +kernel
theorem dX7_call_30 : decode cX7_call 30 = .ok (.istore 5, 2) := by decide +kernel
theorem dX7_call_32 : decode cX7_call 32 = .ok (.bipush 120, 2) := by decide +kernel
theorem dX7_call_34 : decode cX7_call 34 = .ok (.iload_n 2, 1) := by decide +kernel
theorem dX7_call_35 : decode cX7_call 35 = .ok (.aload_n 0, 1) := by decide +kernel
theorem dX7_call_36 : decode cX7_call 36 = .ok (.getfield 61, 3) := by decide +kernel
theorem dX7_call_39 : decode cX7_call 39 = .ok (.iload 5, 2) := by decide +kernel
theorem dX7_call_41 : decode cX7_call 41 = .ok (.iaload, 1) := by decide +kernel
theorem dX7_call_42 : decode cX7_call 42 = .ok (.invokestatic 118, 3) := by decide +kernel
theorem dX7_call_45 : decode cX7_call 45 = .ok (.imul, 1) := by decide +kernel
theorem dX7_call_46 : decode cX7_call 46 = .ok (.iload_n 3, 1) := by decide +kernel
theorem dX7_call_47 : decode cX7_call 47 = .ok (.iadd, 1) := by decide +kernel
theorem dX7_call_48 : decode cX7_call 48 = .ok (.istore 6, 2) := by decide +kernel
theorem dX7_call_50 : decode cX7_call 50 = .ok (.iconst 0, 1) := by decide +kernel
theorem dX7_call_51 : decode cX7_call 51 = .ok (.istore 7, 2) := by decide +kernel
theorem dX7_call_53 : decode cX7_call 53 = .ok (.iload 7, 2) := by decide +kernel
theorem dX7_call_55 : decode cX7_call 55 = .ok (.iload 4, 2) := by decide +kernel
theorem dX7_call_57 : decode cX7_call 57 = .ok (.if_icmp .eq 445, 3) := by decide +kernel
theorem dX7_call_60 : decode cX7_call 60 = .ok (.aload_n 0, 1) := by decide +kernel
theorem dX7_call_61 : decode cX7_call 61 = .ok (.getfield 145, 3) := by decide +kernel
theorem dX7_call_64 : decode cX7_call 64 = .ok (.aload_n 0, 1) := by decide +kernel
theorem dX7_call_65 : decode cX7_call 65 = .ok (.getfield 86, 3) := by decide +kernel
theorem dX7_call_68 : decode cX7_call 68 = .ok (.if_icmp .ne 6, 3) := by decide +kernel
theorem dX7_call_71 : decode cX7_call 71 = .ok (.bipush 7, 2) := by decide +kernel
theorem dX7_call_73 : decode cX7_call 73 = .ok (.ireturn, 1) := by decide +kernel
theorem dX7_call_74 : decode cX7_call 74 = .ok (.aload_n 0, 1) := by decide +kernel
theorem dX7_call_75 : decode cX7_call 75 = .ok (.dup, 1) := by decide +kernel
theorem dX7_call_76 : decode cX7_call 76 = .ok (.getfield 145, 3) := by decide +kernel
theorem dX7_call_79 : decode cX7_call 79 = .ok (.iconst 1, 1) := by decide +kernel
theorem dX7_call_80 : decode cX7_call 80 = .ok (.iadd, 1) := by decide +kernel
theorem dX7_call_81 : decode cX7_call 81 = .ok (.putfield 145, 3) := by decide +kernel
theorem dX7_call_84 : decode cX7_call 84 = .ok (.aload_n 0, 1) := by decide +kernel
theorem dX7_call_85 : decode cX7_call 85 = .ok (.getfield 17, 3) := by decide +kernel
theorem dX7_call_88 : decode cX7_call 88 = .ok (.iload 6, 2) := by decide +kernel
theorem dX7_call_90 : decode cX7_call 90 = .ok (.iload 7, 2) := by decide +kernel
theorem dX7_call_92 : decode cX7_call 92 = .ok (.iadd, 1) := by decide +kernel
theorem dX7_call_93 : decode cX7_call 93 = .ok (.baload, 1) := by decide +kernel
theorem dX7_call_94 : decode cX7_call 94 = .ok (.istore 8, 2) := by decide +kernel
theorem dX7_call_96 : decode cX7_call 96 = .ok (.iload 8, 2) := by decide +kernel
theorem dX7_call_98 : decode cX7_call 98 = .ok (.iconst 0, 1) := by decide +kernel
theorem dX7_call_99 : decode cX7_call 99 = .ok (.iconst 4, 1) := by decide +kernel
theorem dX7_call_100 : decode cX7_call 100 = .ok (.invokestatic 96, 3) := by decide +kernel
theorem dX7_call_103 : decode cX7_call 103 = .ok (.ifCond .ne 31, 3) := by decide +kernel
theorem dX7_call_106 : decode cX7_call 106 = .ok (.iload 8, 2) := by decide +kernel
theorem dX7_call_108 : decode cX7_call 108 = .ok (.bipush 13, 2) := by decide +kernel
theorem dX7_call_110 : decode cX7_call 110 = .ok (.if_icmp .eq 24, 3) := by decide +kernel
theorem dX7_call_113 : decode cX7_call 113 = .ok (.iload 8, 2) := by decide +kernel
theorem dX7_call_115 : decode cX7_call 115 = .ok (.bipush 14, 2) := by decide +kernel
theorem dX7_call_117 : decode cX7_call 117 = .ok (.if_icmp .eq 17, 3) := by decide +kernel
theorem dX7_call_120 : decode cX7_call 120 = .ok (.iload 8, 2) := by decide +kernel
theorem dX7_call_122 : decode cX7_call 122 = .ok (.bipush 16, 2) := by decide +kernel
theorem dX7_call_124 : decode cX7_call 124 = .ok (.if_icmp .eq 10, 3) := by decide +kernel
theorem dX7_call_127 : decode cX7_call 127 = .ok (.iload 8, 2) := by decide +kernel
theorem dX7_call_129 : decode cX7_call 129 = .ok (.bipush 18, 2) := by decide +kernel
theorem dX7_call_131 : decode cX7_call 131 = .ok (.if_icmp .ne 7, 3) := by decide +kernel
theorem dX7_call_134 : decode cX7_call 134 = .ok (.iconst 1, 1) := by decide +kernel
theorem dX7_call_135 : decode cX7_call 135 = .ok (.goto 4, 3) := by decide +kernel
theorem dX7_call_138 : decode cX7_call 138 = .ok (.iconst 0, 1) := by decide +kernel
theorem dX7_call_139 : decode cX7_call 139 = .ok (.istore 9, 2) := by decide +kernel
theorem dX7_call_141 : decode cX7_call 141 = .ok (.iload 8, 2) := by decide +kernel
theorem dX7_call_143 : decode cX7_call 143 = .ok (.iconst 0, 1) := by decide +kernel
theorem dX7_call_144 : decode cX7_call 144 = .ok (.bipush 18, 2) := by decide +kernel
theorem dX7_call_146 : decode cX7_call 146 = .ok (.invokestatic 96, 3) := by decide +kernel
theorem dX7_call_149 : decode cX7_call 149 = .ok (.ifCond .eq 17, 3) := by decide +kernel
theorem dX7_call_152 : decode cX7_call 152 = .ok (.iload 9, 2) := by decide +kernel
theorem dX7_call_154 : decode cX7_call 154 = .ok (.ifCond .eq 14, 3) := by decide +kernel
theorem dX7_call_157 : decode cX7_call 157 = .ok (.iload 7, 2) := by decide +kernel
theorem dX7_call_159 : decode cX7_call 159 = .ok (.iconst 1, 1) := by decide +kernel
theorem dX7_call_160 : decode cX7_call 160 = .ok (.iadd, 1) := by decide +kernel
theorem dX7_call_161 : decode cX7_call 161 = .ok (.iload 4, 2) := by decide +kernel
theorem dX7_call_163 : decode cX7_call 163 = .ok (.if_icmp .lt 5, 3) := by decide +kernel
theorem dX7_call_166 : decode cX7_call 166 = .ok (.iconst 1, 1) := by decide +kernel
theorem dX7_call_167 : decode cX7_call 167 = .ok (.ireturn, 1) := by decide +kernel
theorem dX7_call_168 : decode cX7_call 168 = .ok (.iload 9, 2) := by decide +kernel
theorem dX7_call_170 : decode cX7_call 170 = .ok (.ifCond .eq 18, 3) := by decide +kernel
theorem dX7_call_173 : decode cX7_call 173 = .ok (.aload_n 0, 1) := by decide +kernel
theorem dX7_call_174 : decode cX7_call 174 = .ok (.getfield 17, 3) := by decide +kernel
theorem dX7_call_177 : decode cX7_call 177 = .ok (.iload 6, 2) := by decide +kernel
theorem dX7_call_179 : decode cX7_call 179 = .ok (.iload 7, 2) := by decide +kernel
theorem dX7_call_181 : decode cX7_call 181 = .ok (.iadd, 1) := by decide +kernel
theorem dX7_call_182 : decode cX7_call 182 = .ok (.iconst 1, 1) := by decide +kernel
theorem dX7_call_183 : decode cX7_call 183 = .ok (.iadd, 1) := by decide +kernel
theorem dX7_call_184 : decode cX7_call 184 = .ok (.baload, 1) := by decide +kernel
theorem dX7_call_185 : decode cX7_call 185 = .ok (.goto 4, 3) := by decide +kernel
theorem dX7_call_188 : decode cX7_call 188 = .ok (.iconst 0, 1) := by decide +kernel
theorem dX7_call_189 : decode cX7_call 189 = .ok (.istore 10, 2) := by decide +kernel
theorem dX7_call_191 : decode cX7_call 191 = .ok (.iload 7, 2) := by decide +kernel
theorem dX7_call_193 : decode cX7_call 193 = .ok (.iload 9, 2) := by decide +kernel
theorem dX7_call_195 : decode cX7_call 195 = .ok (.ifCond .eq 7, 3) := by decide +kernel
theorem dX7_call_198 : decode cX7_call 198 = .ok (.iconst 2, 1) := by decide +kernel
theorem dX7_call_199 : decode cX7_call 199 = .ok (.goto 4, 3) := by decide +kernel
theorem dX7_call_202 : decode cX7_call 202 = .ok (.iconst 1, 1) := by decide +kernel
theorem dX7_call_203 : decode cX7_call 203 = .ok (.iadd, 1) := by decide +kernel
theorem dX7_call_204 : decode cX7_call 204 = .ok (.istore 11, 2) := by decide +kernel
theorem dX7_call_206 : decode cX7_call 206 = .ok (.iload 8, 2) := by decide +kernel
theorem dX7_call_208 : decode cX7_call 208 = .ok (.iconst 1, 1) := by decide +kernel
theorem dX7_call_209 : decode cX7_call 209 = .ok (.iconst 4, 1) := by decide +kernel
theorem dX7_call_210 : decode cX7_call 210 = .ok (.invokestatic 96, 3) := by decide +kernel
theorem dX7_call_213 : decode cX7_call 213 = .ok (.ifCond .ne 10, 3) := by decide +kernel
theorem dX7_call_216 : decode cX7_call 216 = .ok (.iload 8, 2) := by decide +kernel
theorem dX7_call_218 : decode cX7_call 218 = .ok (.bipush 16, 2) := by decide +kernel
theorem dX7_call_220 : decode cX7_call 220 = .ok (.if_icmp .ne 7, 3) := by decide +kernel
theorem dX7_call_223 : decode cX7_call 223 = .ok (.iconst 1, 1) := by decide +kernel
theorem dX7_call_224 : decode cX7_call 224 = .ok (.goto 4, 3) := by decide +kernel
theorem dX7_call_227 : decode cX7_call 227 = .ok (.iconst 0, 1) := by decide +kernel
theorem dX7_call_228 : decode cX7_call 228 = .ok (.istore 12, 2) := by decide +kernel
theorem dX7_call_230 : decode cX7_call 230 = .ok (.iload 12, 2) := by decide +kernel
theorem dX7_call_232 : decode cX7_call 232 = .ok (.ifCond .eq 16, 3) := by decide +kernel
theorem dX7_call_235 : decode cX7_call 235 = .ok (.iload 10, 2) := by decide +kernel
theorem dX7_call_237 : decode cX7_call 237 = .ok (.iconst 0, 1) := by decide +kernel
theorem dX7_call_238 : decode cX7_call 238 = .ok (.bipush 7, 2) := by decide +kernel
theorem dX7_call_240 : decode cX7_call 240 = .ok (.invokestatic 96, 3) := by decide +kernel
theorem dX7_call_243 : decode cX7_call 243 = .ok (.ifCond .ne 5, 3) := by decide +kernel
theorem dX7_call_246 : decode cX7_call 246 = .ok (.iconst 2, 1) := by decide +kernel
theorem dX7_call_247 : decode cX7_call 247 = .ok (.ireturn, 1) := by decide +kernel
theorem dX7_call_248 : decode cX7_call 248 = .ok (.iload 8, 2) := by decide +kernel
theorem dX7_call_250 : decode cX7_call 250 = .ok (.iconst 2, 1) := by decide +kernel
theorem dX7_call_251 : decode cX7_call 251 = .ok (.if_icmp .eq 30, 3) := by decide +kernel
theorem dX7_call_254 : decode cX7_call 254 = .ok (.iload 8, 2) := by decide +kernel
theorem dX7_call_256 : decode cX7_call 256 = .ok (.iconst 4, 1) := by decide +kernel
theorem dX7_call_257 : decode cX7_call 257 = .ok (.if_icmp .eq 24, 3) := by decide +kernel
theorem dX7_call_260 : decode cX7_call 260 = .ok (.iload 8, 2) := by decide +kernel
theorem dX7_call_262 : decode cX7_call 262 = .ok (.bipush 12, 2) := by decide +kernel
theorem dX7_call_264 : decode cX7_call 264 = .ok (.if_icmp .eq 17, 3) := by decide +kernel
theorem dX7_call_267 : decode cX7_call 267 = .ok (.iload 8, 2) := by decide +kernel
theorem dX7_call_269 : decode cX7_call 269 = .ok (.bipush 14, 2) := by decide +kernel
theorem dX7_call_271 : decode cX7_call 271 = .ok (.if_icmp .eq 10, 3) := by decide +kernel
theorem dX7_call_274 : decode cX7_call 274 = .ok (.iload 8, 2) := by decide +kernel
theorem dX7_call_276 : decode cX7_call 276 = .ok (.bipush 15, 2) := by decide +kernel
theorem dX7_call_278 : decode cX7_call 278 = .ok (.if_icmp .ne 7, 3) := by decide +kernel
theorem dX7_call_281 : decode cX7_call 281 = .ok (.iconst 1, 1) := by decide +kernel
theorem dX7_call_282 : decode cX7_call 282 = .ok (.goto 19, 3) := by decide +kernel
theorem dX7_call_285 : decode cX7_call 285 = .ok (.iload 8, 2) := by decide +kernel
theorem dX7_call_287 : decode cX7_call 287 = .ok (.iconst 5, 1) := by decide +kernel
theorem dX7_call_288 : decode cX7_call 288 = .ok (.bipush 11, 2) := by decide +kernel
theorem dX7_call_290 : decode cX7_call 290 = .ok (.invokestatic 96, 3) := by decide +kernel
theorem dX7_call_293 : decode cX7_call 293 = .ok (.ifCond .eq 7, 3) := by decide +kernel
theorem dX7_call_296 : decode cX7_call 296 = .ok (.iconst 2, 1) := by decide +kernel
theorem dX7_call_297 : decode cX7_call 297 = .ok (.goto 4, 3) := by decide +kernel
theorem dX7_call_300 : decode cX7_call 300 = .ok (.iconst 0, 1) := by decide +kernel
theorem dX7_call_301 : decode cX7_call 301 = .ok (.istore 13, 2) := by decide +kernel
theorem dX7_call_303 : decode cX7_call 303 = .ok (.iload 8, 2) := by decide +kernel
theorem dX7_call_305 : decode cX7_call 305 = .ok (.ifCond .eq 29, 3) := by decide +kernel
theorem dX7_call_308 : decode cX7_call 308 = .ok (.iload 8, 2) := by decide +kernel
theorem dX7_call_310 : decode cX7_call 310 = .ok (.iconst 1, 1) := by decide +kernel
theorem dX7_call_311 : decode cX7_call 311 = .ok (.if_icmp .eq 23, 3) := by decide +kernel
theorem dX7_call_314 : decode cX7_call 314 = .ok (.iload 8, 2) := by decide +kernel
theorem dX7_call_316 : decode cX7_call 316 = .ok (.iconst 3, 1) := by decide +kernel
theorem dX7_call_317 : decode cX7_call 317 = .ok (.if_icmp .eq 17, 3) := by decide +kernel
theorem dX7_call_320 : decode cX7_call 320 = .ok (.iload 8, 2) := by decide +kernel
theorem dX7_call_322 : decode cX7_call 322 = .ok (.bipush 12, 2) := by decide +kernel
