theorem dX10_init_0 : decode cX10_init 0 = .ok (.aload_n 0, 1) := by decide +kernel
theorem dX10_init_1 : decode cX10_init 1 = .ok (.invokespecial 1, 3) := by decide +kernel
theorem dX10_init_4 : decode cX10_init 4 = .ok (.aload_n 0, 1) := by decide +kernel
theorem dX10_init_5 : decode cX10_init 5 = .ok (.new 7, 3) := by decide +kernel
theorem dX10_init_8 : decode cX10_init 8 = .ok (.dup, 1) := by decide +kernel
theorem dX10_init_9 : decode cX10_init 9 = .ok (.bipush 100, 2) := by decide +kernel
theorem dX10_init_11 : decode cX10_init 11 = .ok (.invokespecial 11, 3) := by decide +kernel
theorem dX10_init_14 : decode cX10_init 14 = .ok (.putfield 14, 3) := by decide +kernel
theorem dX10_init_17 : decode cX10_init 17 = .ok (.aload_n 0, 1) := by decide +kernel
theorem dX10_init_18 : decode cX10_init 18 = .ok (.new 7, 3) := by decide +kernel
theorem dX10_init_21 : decode cX10_init 21 = .ok (.dup, 1) := by decide +kernel
theorem dX10_init_22 : decode cX10_init 22 = .ok (.bipush 46, 2) := by decide +kernel
theorem dX10_init_24 : decode cX10_init 24 = .ok (.invokespecial 11, 3) := by decide +kernel
theorem dX10_init_27 : decode cX10_init 27 = .ok (.putfield 18, 3) := by decide +kernel
theorem dX10_init_30 : decode cX10_init 30 = .ok (.aload_n 0, 1) := by decide +kernel
theorem dX10_init_31 : decode cX10_init 31 = .ok (.new 21, 3) := by decide +kernel
theorem dX10_init_34 : decode cX10_init 34 = .ok (.dup, 1) := by decide +kernel
theorem dX10_init_35 : decode cX10_init 35 = .ok (.invokespecial 23, 3) := by decide +kernel
theorem dX10_init_38 : decode cX10_init 38 = .ok (.putfield 24, 3) := by decide +kernel
theorem dX10_init_41 : decode cX10_init 41 = .ok (.aload_n 0, 1) := by decide +kernel
theorem dX10_init_42 : decode cX10_init 42 = .ok (.new 28, 3) := by decide +kernel
theorem dX10_init_45 : decode cX10_init 45 = .ok (.dup, 1) := by decide +kernel
theorem dX10_init_46 : decode cX10_init 46 = .ok (.invokespecial 30, 3) := by decide +kernel
theorem dX10_init_49 : decode cX10_init 49 = .ok (.putfield 31, 3) := by decide +kernel
theorem dX10_init_52 : decode cX10_init 52 = .ok (.aload_n 0, 1) := by decide +kernel
theorem dX10_init_53 : decode cX10_init 53 = .ok (.new 28, 3) := by decide +kernel
theorem dX10_init_56 : decode cX10_init 56 = .ok (.dup, 1) := by decide +kernel
theorem dX10_init_57 : decode cX10_init 57 = .ok (.invokespecial 30, 3) := by decide +kernel
theorem dX10_init_60 : decode cX10_init 60 = .ok (.putfield 35, 3) := by decide +kernel
theorem dX10_init_63 : decode cX10_init 63 = .ok (.aload_n 0, 1) := by decide +kernel
theorem dX10_init_64 : decode cX10_init 64 = .ok (.new 38, 3) := by decide +kernel
theorem dX10_init_67 : decode cX10_init 67 = .ok (.dup, 1) := by decide +kernel
theorem dX10_init_68 : decode cX10_init 68 = .ok (.invokespecial 40, 3) := by decide +kernel
theorem dX10_init_71 : decode cX10_init 71 = .ok (.putfield 41, 3) := by decide +kernel
theorem dX10_init_74 : decode cX10_init 74 = .ok (.aload_n 0, 1) := by decide +kernel
theorem dX10_init_75 : decode cX10_init 75 = .ok (.new 38, 3) := by decide +kernel
theorem dX10_init_78 : decode cX10_init 78 = .ok (.dup, 1) := by decide +kernel
theorem dX10_init_79 : decode cX10_init 79 = .ok (.invokespecial 40, 3) := by decide +kernel
theorem dX10_init_82 : decode cX10_init 82 = .ok (.putfield 45, 3) := by decide +kernel
theorem dX10_init_85 : decode cX10_init 85 = .ok (.aload_n 0, 1) := by decide +kernel
theorem dX10_init_86 : decode cX10_init 86 = .ok (.new 38, 3) := by decide +kernel
theorem dX10_init_89 : decode cX10_init 89 = .ok (.dup, 1) := by decide +kernel
theorem dX10_init_90 : decode cX10_init 90 = .ok (.invokespecial 40, 3) := by decide +kernel
theorem dX10_init_93 : decode cX10_init 93 = .ok (.putfield 48, 3) := by decide +kernel
theorem dX10_init_96 : decode cX10_init 96 = .ok (.aload_n 0, 1) := by decide +kernel
theorem dX10_init_97 : decode cX10_init 97 = .ok (.sipush 512, 3) := by decide +kernel
theorem dX10_init_100 : decode cX10_init 100 = .ok (.anewarray 51, 3) := by decide +kernel
theorem dX10_init_103 : decode cX10_init 103 = .ok (.putfield 53, 3) := by decide +kernel
theorem dX10_init_106 : decode cX10_init 106 = .ok (.aload_n 0, 1) := by decide +kernel
theorem dX10_init_107 : decode cX10_init 107 = .ok (.new 57, 3) := by decide +kernel
theorem dX10_init_110 : decode cX10_init 110 = .ok (.dup, 1) := by decide +kernel
theorem dX10_init_111 : decode cX10_init 111 = .ok (.invokespecial 59, 3) := by decide +kernel
theorem dX10_init_114 : decode cX10_init 114 = .ok (.putfield 60, 3) := by decide +kernel
theorem dX10_init_117 : decode cX10_init 117 = .ok (.aload_n 0, 1) := by decide +kernel
theorem dX10_init_118 : decode cX10_init 118 = .ok (.new 64, 3) := by decide +kernel
theorem dX10_init_121 : decode cX10_init 121 = .ok (.dup, 1) := by decide +kernel
theorem dX10_init_122 : decode cX10_init 122 = .ok (.invokespecial 66, 3) := by decide +kernel
theorem dX10_init_125 : decode cX10_init 125 = .ok (.putfield 67, 3) := by decide +kernel
theorem dX10_init_128 : decode cX10_init 128 = .ok (.aload_n 0, 1) := by decide +kernel
theorem dX10_init_129 : decode cX10_init 129 = .ok (.new 71, 3) := by decide +kernel
theorem dX10_init_132 : decode cX10_init 132 = .ok (.dup, 1) := by decide +kernel
theorem dX10_init_133 : decode cX10_init 133 = .ok (.invokespecial 73, 3) := by decide +kernel
theorem dX10_init_136 : decode cX10_init 136 = .ok (.putfield 74, 3) := by decide +kernel
theorem dX10_init_139 : decode cX10_init 139 = .ok (.aload_n 0, 1) := by decide +kernel
theorem dX10_init_140 : decode cX10_init 140 = .ok (.new 71, 3) := by decide +kernel
theorem dX10_init_143 : decode cX10_init 143 = .ok (.dup, 1) := by decide +kernel
theorem dX10_init_144 : decode cX10_init 144 = .ok (.invokespecial 73, 3) := by decide +kernel
theorem dX10_init_147 : decode cX10_init 147 = .ok (.putfield 78, 3) := by decide +kernel
theorem dX10_init_150 : decode cX10_init 150 = .ok (.aload_n 0, 1) := by decide +kernel
theorem dX10_init_151 : decode cX10_init 151 = .ok (.iconst (-1), 1) := by decide +kernel
theorem dX10_init_152 : decode cX10_init 152 = .ok (.putfield 81, 3) := by decide +kernel
theorem dX10_init_155 : decode cX10_init 155 = .ok (.return_, 1) := by decide +kernel
theorem dX10_clear_0 : decode cX10_clear 0 = .ok (.aload_n 0, 1) := by decide +kernel
theorem dX10_clear_1 : decode cX10_clear 1 = .ok (.getfield 41, 3) := by decide +kernel
theorem dX10_clear_4 : decode cX10_clear 4 = .ok (.getfield 85, 3) := by decide +kernel
theorem dX10_clear_7 : decode cX10_clear 7 = .ok (.istore_n 1, 1) := by decide +kernel
theorem dX10_clear_8 : decode cX10_clear 8 = .ok (.aload_n 0, 1) := by decide +kernel
theorem dX10_clear_9 : decode cX10_clear 9 = .ok (.getfield 41, 3) := by decide +kernel
theorem dX10_clear_12 : decode cX10_clear 12 = .ok (.invokevirtual 88, 3) := by decide +kernel
theorem dX10_clear_15 : decode cX10_clear 15 = .ok (.aload_n 0, 1) := by decide +kernel
theorem dX10_clear_16 : decode cX10_clear 16 = .ok (.getfield 60, 3) := by decide +kernel
theorem dX10_clear_19 : decode cX10_clear 19 = .ok (.invokevirtual 91, 3) := by decide +kernel
theorem dX10_clear_22 : decode cX10_clear 22 = .ok (.iload_n 1, 1) := by decide +kernel
theorem dX10_clear_23 : decode cX10_clear 23 = .ok (.ireturn, 1) := by decide +kernel
theorem dX10_append_0 : decode cX10_append 0 = .ok (.iload_n 1, 1) := by decide +kernel
theorem dX10_append_1 : decode cX10_append 1 = .ok (.bipush 32, 2) := by decide +kernel
theorem dX10_append_3 : decode cX10_append 3 = .ok (.if_icmp .lt 9, 3) := by decide +kernel
theorem dX10_append_6 : decode cX10_append 6 = .ok (.iload_n 1, 1) := by decide +kernel
theorem dX10_append_7 : decode cX10_append 7 = .ok (.bipush 126, 2) := by decide +kernel
theorem dX10_append_9 : decode cX10_append 9 = .ok (.if_icmp .le 11, 3) := by decide +kernel
theorem dX10_append_12 : decode cX10_append 12 = .ok (.new 94, 3) := by decide +kernel
theorem dX10_append_15 : decode cX10_append 15 = .ok (.dup, 1) := by decide +kernel
theorem dX10_append_16 : decode cX10_append 16 = .ok (.invokespecial 96, 3) := by decide +kernel
theorem dX10_append_19 : decode cX10_append 19 = .ok (.athrow, 1) := by decide +kernel
theorem dX10_append_20 : decode cX10_append 20 = .ok (.aload_n 0, 1) := by decide +kernel
theorem dX10_append_21 : decode cX10_append 21 = .ok (.getfield 14, 3) := by decide +kernel
theorem dX10_append_24 : decode cX10_append 24 = .ok (.invokevirtual 97, 3) := by decide +kernel
theorem dX10_append_27 : decode cX10_append 27 = .ok (.bipush 100, 2) := by decide +kernel
theorem dX10_append_29 : decode cX10_append 29 = .ok (.if_icmp .lt 11, 3) := by decide +kernel
theorem dX10_append_32 : decode cX10_append 32 = .ok (.new 101, 3) := by decide +kernel
theorem dX10_append_35 : decode cX10_append 35 = .ok (.dup, 1) := by decide +kernel
theorem dX10_append_36 : decode cX10_append 36 = .ok (.invokespecial 103, 3) := by decide +kernel
theorem dX10_append_39 : decode cX10_append 39 = .ok (.athrow, 1) := by decide +kernel
theorem dX10_append_40 : decode cX10_append 40 = .ok (.aload_n 0, 1) := by decide +kernel
theorem dX10_append_41 : decode cX10_append 41 = .ok (.getfield 14, 3) := by decide +kernel
theorem dX10_append_44 : decode cX10_append 44 = .ok (.iload_n 1, 1) := by decide +kernel
theorem dX10_append_45 : decode cX10_append 45 = .ok (.invokevirtual 104, 3) := by decide +kernel
theorem dX10_append_48 : decode cX10_append 48 = .ok (.aload_n 0, 1) := by decide +kernel
theorem dX10_append_49 : decode cX10_append 49 = .ok (.getfield 14, 3) := by decide +kernel
theorem dX10_append_52 : decode cX10_append 52 = .ok (.invokevirtual 97, 3) := by decide +kernel
theorem dX10_append_55 : decode cX10_append 55 = .ok (.ireturn, 1) := by decide +kernel
theorem dX10_addRule_0 : decode cX10_addRule 0 = .ok (.iload_n 1, 1) := by decide +kernel
theorem dX10_addRule_1 : decode cX10_addRule 1 = .ok (.invokestatic 108, 3) := by decide +kernel
theorem dX10_addRule_4 : decode cX10_addRule 4 = .ok (.ifCond .eq 17, 3) := by decide +kernel
theorem dX10_addRule_7 : decode cX10_addRule 7 = .ok (.iload_n 2, 1) := by decide +kernel
theorem dX10_addRule_8 : decode cX10_addRule 8 = .ok (.invokestatic 112, 3) := by decide +kernel
theorem dX10_addRule_11 : decode cX10_addRule 11 = .ok (.ifCond .eq 10, 3) := by decide +kernel
theorem dX10_addRule_14 : decode cX10_addRule 14 = .ok (.iload_n 3, 1) := by decide +kernel
theorem dX10_addRule_15 : decode cX10_addRule 15 = .ok (.invokestatic 115, 3) := by decide +kernel
theorem dX10_addRule_18 : decode cX10_addRule 18 = .ok (.ifCond .ne 11, 3) := by decide +kernel
theorem dX10_addRule_21 : decode cX10_addRule 21 = .ok (.new 118, 3) := by decide +kernel
theorem dX10_addRule_24 : decode cX10_addRule 24 = .ok (.dup, 1) := by decide +kernel
theorem dX10_addRule_25 : decode cX10_addRule 25 = .ok (.invokespecial 120, 3) := by decide +kernel
theorem dX10_addRule_28 : decode cX10_addRule 28 = .ok (.athrow, 1) := by decide +kernel
theorem dX10_addRule_29 : decode cX10_addRule 29 = .ok (.aload_n 0, 1) := by decide +kernel
theorem dX10_addRule_30 : decode cX10_addRule 30 = .ok (.getfield 14, 3) := by decide +kernel
theorem dX10_addRule_33 : decode cX10_addRule 33 = .ok (.invokevirtual 121, 3) := by decide +kernel
theorem dX10_addRule_36 : decode cX10_addRule 36 = .ok (.astore 4, 2) := by decide +kernel
theorem dX10_addRule_38 : decode cX10_addRule 38 = .ok (.aload_n 0, 1) := by decide +kernel
theorem dX10_addRule_39 : decode cX10_addRule 39 = .ok (.getfield 14, 3) := by decide +kernel
theorem dX10_addRule_42 : decode cX10_addRule 42 = .ok (.invokevirtual 125, 3) := by decide +kernel
theorem dX10_addRule_45 : decode cX10_addRule 45 = .ok (.aload_n 0, 1) := by decide +kernel
theorem dX10_addRule_46 : decode cX10_addRule 46 = .ok (.aload 4, 2) := by decide +kernel
theorem dX10_addRule_48 : decode cX10_addRule 48 = .ok (.invokestatic 128, 3) := by decide +kernel
theorem dX10_addRule_51 : decode cX10_addRule 51 = .ok (.invokevirtual 132, 3) := by decide +kernel
theorem dX10_addRule_54 : decode cX10_addRule 54 = .ok (.aload_n 0, 1) := by decide +kernel
theorem dX10_addRule_55 : decode cX10_addRule 55 = .ok (.getfield 41, 3) := by decide +kernel
theorem dX10_addRule_58 : decode cX10_addRule 58 = .ok (.getfield 85, 3) := by decide +kernel
theorem dX10_addRule_61 : decode cX10_addRule 61 = .ok (.bipush 24, 2) := by decide +kernel
theorem dX10_addRule_63 : decode cX10_addRule 63 = .ok (.if_icmp .lt 11, 3) := by decide +kernel
theorem dX10_addRule_66 : decode cX10_addRule 66 = .ok (.new 135, 3) := by decide +kernel
theorem dX10_addRule_69 : decode cX10_addRule 69 = .ok (.dup, 1) := by decide +kernel
theorem dX10_addRule_70 : decode cX10_addRule 70 = .ok (.invokespecial 137, 3) := by decide +kernel
theorem dX10_addRule_73 : decode cX10_addRule 73 = .ok (.athrow, 1) := by decide +kernel
theorem dX10_addRule_74 : decode cX10_addRule 74 = .ok (.aload_n 0, 1) := by decide +kernel
theorem dX10_addRule_75 : decode cX10_addRule 75 = .ok (.new 51, 3) := by decide +kernel
theorem dX10_addRule_78 : decode cX10_addRule 78 = .ok (.dup, 1) := by decide +kernel
theorem dX10_addRule_79 : decode cX10_addRule 79 = .ok (.aload_n 0, 1) := by decide +kernel
theorem dX10_addRule_80 : decode cX10_addRule 80 = .ok (.getfield 41, 3) := by decide +kernel
theorem dX10_addRule_83 : decode cX10_addRule 83 = .ok (.getfield 138, 3) := by decide +kernel
theorem dX10_addRule_86 : decode cX10_addRule 86 = .ok (.iconst 0, 1) := by decide +kernel
theorem dX10_addRule_87 : decode cX10_addRule 87 = .ok (.iload_n 1, 1) := by decide +kernel
theorem dX10_addRule_88 : decode cX10_addRule 88 = .ok (.iload_n 2, 1) := by decide +kernel
theorem dX10_addRule_89 : decode cX10_addRule 89 = .ok (.iload_n 3, 1) := by decide +kernel
theorem dX10_addRule_90 : decode cX10_addRule 90 = .ok (.aload 4, 2) := by decide +kernel
theorem dX10_addRule_92 : decode cX10_addRule 92 = .ok (.invokespecial 142, 3) := by decide +kernel
theorem dX10_addRule_95 : decode cX10_addRule 95 = .ok (.invokevirtual 145, 3) := by decide +kernel
theorem dX10_addRule_98 : decode cX10_addRule 98 = .ok (.aload_n 0, 1) := by decide +kernel
theorem dX10_addRule_99 : decode cX10_addRule 99 = .ok (.getfield 41, 3) := by decide +kernel
theorem dX10_addRule_102 : decode cX10_addRule 102 = .ok (.getfield 85, 3) := by decide +kernel
theorem dX10_addRule_105 : decode cX10_addRule 105 = .ok (.iconst 1, 1) := by decide +kernel
theorem dX10_addRule_106 : decode cX10_addRule 106 = .ok (.isub, 1) := by decide +kernel
theorem dX10_addRule_107 : decode cX10_addRule 107 = .ok (.ireturn, 1) := by decide +kernel
theorem dX10_removeRule_0 : decode cX10_removeRule 0 = .ok (.aload_n 0, 1) := by decide +kernel
theorem dX10_removeRule_1 : decode cX10_removeRule 1 = .ok (.iload_n 1, 1) := by decide +kernel
theorem dX10_removeRule_2 : decode cX10_removeRule 2 = .ok (.invokevirtual 149, 3) := by decide +kernel
theorem dX10_removeRule_5 : decode cX10_removeRule 5 = .ok (.aload_n 0, 1) := by decide +kernel
theorem dX10_removeRule_6 : decode cX10_removeRule 6 = .ok (.new 51, 3) := by decide +kernel
theorem dX10_removeRule_9 : decode cX10_removeRule 9 = .ok (.dup, 1) := by decide +kernel
theorem dX10_removeRule_10 : decode cX10_removeRule 10 = .ok (.aload_n 0, 1) := by decide +kernel
theorem dX10_removeRule_11 : decode cX10_removeRule 11 = .ok (.getfield 41, 3) := by decide +kernel
theorem dX10_removeRule_14 : decode cX10_removeRule 14 = .ok (.getfield 138, 3) := by decide +kernel
theorem dX10_removeRule_17 : decode cX10_removeRule 17 = .ok (.iconst 1, 1) := by decide +kernel
theorem dX10_removeRule_18 : decode cX10_removeRule 18 = .ok (.iload_n 1, 1) := by decide +kernel
theorem dX10_removeRule_19 : decode cX10_removeRule 19 = .ok (.iconst 0, 1) := by decide +kernel
theorem dX10_removeRule_20 : decode cX10_removeRule 20 = .ok (.iconst 0, 1) := by decide +kernel
theorem dX10_removeRule_21 : decode cX10_removeRule 21 = .ok (.aconst_null, 1) := by decide +kernel
theorem dX10_removeRule_22 : decode cX10_removeRule 22 = .ok (.invokespecial 142, 3) := by decide +kernel
theorem dX10_removeRule_25 : decode cX10_removeRule 25 = .ok (.invokevirtual 145, 3) := by decide +kernel
theorem dX10_removeRule_28 : decode cX10_removeRule 28 = .ok (.aload_n 0, 1) := by decide +kernel
theorem dX10_removeRule_29 : decode cX10_removeRule 29 = .ok (.getfield 41, 3) := by decide +kernel
theorem dX10_removeRule_32 : decode cX10_removeRule 32 = .ok (.getfield 85, 3) := by decide +kernel
theorem dX10_removeRule_35 : decode cX10_removeRule 35 = .ok (.ireturn, 1) := by decide +kernel
theorem dX10_setPriority_0 : decode cX10_setPriority 0 = .ok (.aload_n 0, 1) := by decide +kernel
theorem dX10_setPriority_1 : decode cX10_setPriority 1 = .ok (.iload_n 1, 1) := by decide +kernel
theorem dX10_setPriority_2 : decode cX10_setPriority 2 = .ok (.invokevirtual 149, 3) := by decide +kernel
theorem dX10_setPriority_5 : decode cX10_setPriority 5 = .ok (.iload_n 2, 1) := by decide +kernel
theorem dX10_setPriority_6 : decode cX10_setPriority 6 = .ok (.invokestatic 112, 3) := by decide +kernel
theorem dX10_setPriority_9 : decode cX10_setPriority 9 = .ok (.invokestatic 152, 3) := by decide +kernel
theorem dX10_setPriority_12 : decode cX10_setPriority 12 = .ok (.aload_n 0, 1) := by decide +kernel
theorem dX10_setPriority_13 : decode cX10_setPriority 13 = .ok (.getfield 41, 3) := by decide +kernel
theorem dX10_setPriority_16 : decode cX10_setPriority 16 = .ok (.getfield 156, 3) := by decide +kernel
theorem dX10_setPriority_19 : decode cX10_setPriority 19 = .ok (.iload_n 1, 1) := by decide +kernel
theorem dX10_setPriority_20 : decode cX10_setPriority 20 = .ok (.iaload, 1) := by decide +kernel
theorem dX10_setPriority_21 : decode cX10_setPriority 21 = .ok (.istore_n 3, 1) := by decide +kernel
theorem dX10_setPriority_22 : decode cX10_setPriority 22 = .ok (.aload_n 0, 1) := by decide +kernel
theorem dX10_setPriority_23 : decode cX10_setPriority 23 = .ok (.new 51, 3) := by decide +kernel
theorem dX10_setPriority_26 : decode cX10_setPriority 26 = .ok (.dup, 1) := by decide +kernel
theorem dX10_setPriority_27 : decode cX10_setPriority 27 = .ok (.aload_n 0, 1) := by decide +kernel
theorem dX10_setPriority_28 : decode cX10_setPriority 28 = .ok (.getfield 41, 3) := by decide +kernel
theorem dX10_setPriority_31 : decode cX10_setPriority 31 = .ok (.getfield 138, 3) := by decide +kernel
theorem dX10_setPriority_34 : decode cX10_setPriority 34 = .ok (.iconst 2, 1) := by decide +kernel
theorem dX10_setPriority_35 : decode cX10_setPriority 35 = .ok (.iload_n 1, 1) := by decide +kernel
theorem dX10_setPriority_36 : decode cX10_setPriority 36 = .ok (.iload_n 2, 1) := by decide +kernel
theorem dX10_setPriority_37 : decode cX10_setPriority 37 = .ok (.iconst 0, 1) := by decide +kernel
theorem dX10_setPriority_38 : decode cX10_setPriority 38 = .ok (.aconst_null, 1) := by decide +kernel
theorem dX10_setPriority_39 : decode cX10_setPriority 39 = .ok (.invokespecial 142, 3) := by decide +kernel
theorem dX10_setPriority_42 : decode cX10_setPriority 42 = .ok (.invokevirtual 145, 3) := by decide +kernel
theorem dX10_setPriority_45 : decode cX10_setPriority 45 = .ok (.iload_n 3, 1) := by decide +kernel
theorem dX10_setPriority_46 : decode cX10_setPriority 46 = .ok (.ireturn, 1) := by decide +kernel
theorem dX10_setContext_0 : decode cX10_setContext 0 = .ok (.aload_n 0, 1) := by decide +kernel
theorem dX10_setContext_1 : decode cX10_setContext 1 = .ok (.iload_n 1, 1) := by decide +kernel
theorem dX10_setContext_2 : decode cX10_setContext 2 = .ok (.invokevirtual 149, 3) := by decide +kernel
theorem dX10_setContext_5 : decode cX10_setContext 5 = .ok (.iload_n 2, 1) := by decide +kernel
theorem dX10_setContext_6 : decode cX10_setContext 6 = .ok (.invokestatic 115, 3) := by decide +kernel
theorem dX10_setContext_9 : decode cX10_setContext 9 = .ok (.invokestatic 152, 3) := by decide +kernel
theorem dX10_setContext_12 : decode cX10_setContext 12 = .ok (.aload_n 0, 1) := by decide +kernel
theorem dX10_setContext_13 : decode cX10_setContext 13 = .ok (.getfield 41, 3) := by decide +kernel
theorem dX10_setContext_16 : decode cX10_setContext 16 = .ok (.getfield 160, 3) := by decide +kernel
theorem dX10_setContext_19 : decode cX10_setContext 19 = .ok (.iload_n 1, 1) := by decide +kernel
theorem dX10_setContext_20 : decode cX10_setContext 20 = .ok (.iaload, 1) := by decide +kernel
theorem dX10_setContext_21 : decode cX10_setContext 21 = .ok (.istore_n 3, 1) := by decide +kernel
theorem dX10_setContext_22 : decode cX10_setContext 22 = .ok (.aload_n 0, 1) := by decide +kernel
theorem dX10_setContext_23 : decode cX10_setContext 23 = .ok (.new 51, 3) := by decide +kernel
theorem dX10_setContext_26 : decode cX10_setContext 26 = .ok (.dup, 1) := by decide +kernel
theorem dX10_setContext_27 : decode cX10_setContext 27 = .ok (.aload_n 0, 1) := by decide +kernel
theorem dX10_setContext_28 : decode cX10_setContext 28 = .ok (.getfield 41, 3) := by decide +kernel
theorem dX10_setContext_31 : decode cX10_setContext 31 = .ok (.getfield 138, 3) := by decide +kernel
theorem dX10_setContext_34 : decode cX10_setContext 34 = .ok (.iconst 3, 1) := by decide +kernel
theorem dX10_setContext_35 : decode cX10_setContext 35 = .ok (.iload_n 1, 1) := by decide +kernel
theorem dX10_setContext_36 : decode cX10_setContext 36 = .ok (.iload_n 2, 1) := by decide +kernel
theorem dX10_setContext_37 : decode cX10_setContext 37 = .ok (.iconst 0, 1) := by decide +kernel
theorem dX10_setContext_38 : decode cX10_setContext 38 = .ok (.aconst_null, 1) := by decide +kernel
theorem dX10_setContext_39 : decode cX10_setContext 39 = .ok (.invokespecial 142, 3) := by decide +kernel
theorem dX10_setContext_42 : decode cX10_setContext 42 = .ok (.invokevirtual 145, 3) := by decide +kernel
theorem dX10_setContext_45 : decode cX10_setContext 45 = .ok (.iload_n 3, 1) := by decide +kernel
theorem dX10_setContext_46 : decode cX10_setContext 46 = .ok (.ireturn, 1) := by decide +kernel
theorem dX10_setMode_0 : decode cX10_setMode 0 = .ok (.iload_n 1, 1) := by decide +kernel
theorem dX10_setMode_1 : decode cX10_setMode 1 = .ok (.ifCond .eq 8, 3) := by decide +kernel
theorem dX10_setMode_4 : decode cX10_setMode 4 = .ok (.iload_n 1, 1) := by decide +kernel
theorem dX10_setMode_5 : decode cX10_setMode 5 = .ok (.iconst 1, 1) := by decide +kernel
theorem dX10_setMode_6 : decode cX10_setMode 6 = .ok (.if_icmp .ne 7, 3) := by decide +kernel
theorem dX10_setMode_9 : decode cX10_setMode 9 = .ok (.iconst 1, 1) := by decide +kernel
theorem dX10_setMode_10 : decode cX10_setMode 10 = .ok (.goto 4, 3) := by decide +kernel
theorem dX10_setMode_13 : decode cX10_setMode 13 = .ok (.iconst 0, 1) := by decide +kernel
theorem dX10_setMode_14 : decode cX10_setMode 14 = .ok (.invokestatic 152, 3) := by decide +kernel
theorem dX10_setMode_17 : decode cX10_setMode 17 = .ok (.aload_n 0, 1) := by decide +kernel
theorem dX10_setMode_18 : decode cX10_setMode 18 = .ok (.getfield 41, 3) := by decide +kernel
theorem dX10_setMode_21 : decode cX10_setMode 21 = .ok (.getfield 163, 3) := by decide +kernel
theorem dX10_setMode_24 : decode cX10_setMode 24 = .ok (.istore_n 2, 1) := by decide +kernel
theorem dX10_setMode_25 : decode cX10_setMode 25 = .ok (.aload_n 0, 1) := by decide +kernel
theorem dX10_setMode_26 : decode cX10_setMode 26 = .ok (.new 51, 3) := by decide +kernel
theorem dX10_setMode_29 : decode cX10_setMode 29 = .ok (.dup, 1) := by decide +kernel
theorem dX10_setMode_30 : decode cX10_setMode 30 = .ok (.aload_n 0, 1) := by decide +kernel
theorem dX10_setMode_31 : decode cX10_setMode 31 = .ok (.getfield 41, 3) := by decide +kernel
theorem dX10_setMode_34 : decode cX10_setMode 34 = .ok (.getfield 138, 3) := by decide +kernel
theorem dX10_setMode_37 : decode cX10_setMode 37 = .ok (.iconst 4, 1) := by decide +kernel
theorem dX10_setMode_38 : decode cX10_setMode 38 = .ok (.iload_n 1, 1) := by decide +kernel
theorem dX10_setMode_39 : decode cX10_setMode 39 = .ok (.iconst 0, 1) := by decide +kernel
theorem dX10_setMode_40 : decode cX10_setMode 40 = .ok (.iconst 0, 1) := by decide +kernel
theorem dX10_setMode_41 : decode cX10_setMode 41 = .ok (.aconst_null, 1) := by decide +kernel
theorem dX10_setMode_42 : decode cX10_setMode 42 = .ok (.invokespecial 142, 3) := by decide +kernel
theorem dX10_setMode_45 : decode cX10_setMode 45 = .ok (.invokevirtual 145, 3) := by decide +kernel
theorem dX10_setMode_48 : decode cX10_setMode 48 = .ok (.iload_n 2, 1) := by decide +kernel
theorem dX10_setMode_49 : decode cX10_setMode 49 = .ok (.ireturn, 1) := by decide +kernel
theorem dX10_setThreshold_0 : decode cX10_setThreshold 0 = .ok (.iload_n 1, 1) := by decide +kernel
theorem dX10_setThreshold_1 : decode cX10_setThreshold 1 = .ok (.iconst 1, 1) := by decide +kernel
theorem dX10_setThreshold_2 : decode cX10_setThreshold 2 = .ok (.if_icmp .lt 13, 3) := by decide +kernel
theorem dX10_setThreshold_5 : decode cX10_setThreshold 5 = .ok (.iload_n 1, 1) := by decide +kernel
theorem dX10_setThreshold_6 : decode cX10_setThreshold 6 = .ok (.bipush 9, 2) := by decide +kernel
theorem dX10_setThreshold_8 : decode cX10_setThreshold 8 = .ok (.if_icmp .gt 7, 3) := by decide +kernel
theorem dX10_setThreshold_11 : decode cX10_setThreshold 11 = .ok (.iconst 1, 1) := by decide +kernel
theorem dX10_setThreshold_12 : decode cX10_setThreshold 12 = .ok (.goto 4, 3) := by decide +kernel
theorem dX10_setThreshold_15 : decode cX10_setThreshold 15 = .ok (.iconst 0, 1) := by decide +kernel
theorem dX10_setThreshold_16 : decode cX10_setThreshold 16 = .ok (.invokestatic 152, 3) := by decide +kernel
theorem dX10_setThreshold_19 : decode cX10_setThreshold 19 = .ok (.aload_n 0, 1) := by decide +kernel
theorem dX10_setThreshold_20 : decode cX10_setThreshold 20 = .ok (.getfield 41, 3) := by decide +kernel
theorem dX10_setThreshold_23 : decode cX10_setThreshold 23 = .ok (.getfield 166, 3) := by decide +kernel
theorem dX10_setThreshold_26 : decode cX10_setThreshold 26 = .ok (.istore_n 2, 1) := by decide +kernel
theorem dX10_setThreshold_27 : decode cX10_setThreshold 27 = .ok (.aload_n 0, 1) := by decide +kernel
theorem dX10_setThreshold_28 : decode cX10_setThreshold 28 = .ok (.new 51, 3) := by decide +kernel
theorem dX10_setThreshold_31 : decode cX10_setThreshold 31 = .ok (.dup, 1) := by decide +kernel
theorem dX10_setThreshold_32 : decode cX10_setThreshold 32 = .ok (.aload_n 0, 1) := by decide +kernel
theorem dX10_setThreshold_33 : decode cX10_setThreshold 33 = .ok (.getfield 41, 3) := by decide +kernel
theorem dX10_setThreshold_36 : decode cX10_setThreshold 36 = .ok (.getfield 138, 3) := by decide +kernel
theorem dX10_setThreshold_39 : decode cX10_setThreshold 39 = .ok (.iconst 5, 1) := by decide +kernel
theorem dX10_setThreshold_40 : decode cX10_setThreshold 40 = .ok (.iload_n 1, 1) := by decide +kernel
theorem dX10_setThreshold_41 : decode cX10_setThreshold 41 = .ok (.iconst 0, 1) := by decide +kernel
theorem dX10_setThreshold_42 : decode cX10_setThreshold 42 = .ok (.iconst 0, 1) := by decide +kernel
theorem dX10_setThreshold_43 : decode cX10_setThreshold 43 = .ok (.aconst_null, 1) := by decide +kernel
theorem dX10_setThreshold_44 : decode cX10_setThreshold 44 = .ok (.invokespecial 142, 3) := by decide +kernel
theorem dX10_setThreshold_47 : decode cX10_setThreshold 47 = .ok (.invokevirtual 145, 3) := by decide +kernel
theorem dX10_setThreshold_50 : decode cX10_setThreshold 50 = .ok (.iload_n 2, 1) := by decide +kernel
theorem dX10_setThreshold_51 : decode cX10_setThreshold 51 = .ok (.ireturn, 1) := by decide +kernel
theorem dX10_rule_0 : decode cX10_rule 0 = .ok (.aload_n 0, 1) := by decide +kernel
theorem dX10_rule_1 : decode cX10_rule 1 = .ok (.iload_n 1, 1) := by decide +kernel
theorem dX10_rule_2 : decode cX10_rule 2 = .ok (.invokevirtual 149, 3) := by decide +kernel
theorem dX10_rule_5 : decode cX10_rule 5 = .ok (.iload_n 2, 1) := by decide +kernel
theorem dX10_rule_6 : decode cX10_rule 6 = .ok (.tableswitch 103 0 5 #[38, 48, 58, 68, 81, 94], 38) := by decide +kernel
theorem dX10_rule_44 : decode cX10_rule 44 = .ok (.aload_n 0, 1) := by decide +kernel
theorem dX10_rule_45 : decode cX10_rule 45 = .ok (.getfield 41, 3) := by decide +kernel
theorem dX10_rule_48 : decode cX10_rule 48 = .ok (.getfield 169, 3) := by decide +kernel
theorem dX10_rule_51 : decode cX10_rule 51 = .ok (.iload_n 1, 1) := by decide +kernel
theorem dX10_rule_52 : decode cX10_rule 52 = .ok (.iaload, 1) := by decide +kernel
theorem dX10_rule_53 : decode cX10_rule 53 = .ok (.ireturn, 1) := by decide +kernel
theorem dX10_rule_54 : decode cX10_rule 54 = .ok (.aload_n 0, 1) := by decide +kernel
theorem dX10_rule_55 : decode cX10_rule 55 = .ok (.getfield 41, 3) := by decide +kernel
theorem dX10_rule_58 : decode cX10_rule 58 = .ok (.getfield 156, 3) := by decide +kernel
theorem dX10_rule_61 : decode cX10_rule 61 = .ok (.iload_n 1, 1) := by decide +kernel
theorem dX10_rule_62 : decode cX10_rule 62 = .ok (.iaload, 1) := by decide +kernel
theorem dX10_rule_63 : decode cX10_rule 63 = .ok (.ireturn, 1) := by decide +kernel
theorem dX10_rule_64 : decode cX10_rule 64 = .ok (.aload_n 0, 1) := by decide +kernel
theorem dX10_rule_65 : decode cX10_rule 65 = .ok (.getfield 41, 3) := by decide +kernel
theorem dX10_rule_68 : decode cX10_rule 68 = .ok (.getfield 160, 3) := by decide +kernel
theorem dX10_rule_71 : decode cX10_rule 71 = .ok (.iload_n 1, 1) := by decide +kernel
theorem dX10_rule_72 : decode cX10_rule 72 = .ok (.iaload, 1) := by decide +kernel
theorem dX10_rule_73 : decode cX10_rule 73 = .ok (.ireturn, 1) := by decide +kernel
theorem dX10_rule_74 : decode cX10_rule 74 = .ok (.aload_n 0, 1) := by decide +kernel
theorem dX10_rule_75 : decode cX10_rule 75 = .ok (.getfield 41, 3) := by decide +kernel
theorem dX10_rule_78 : decode cX10_rule 78 = .ok (.getfield 172, 3) := by decide +kernel
theorem dX10_rule_81 : decode cX10_rule 81 = .ok (.iload_n 1, 1) := by decide +kernel
theorem dX10_rule_82 : decode cX10_rule 82 = .ok (.laload, 1) := by decide +kernel
theorem dX10_rule_83 : decode cX10_rule 83 = .ok (.invokestatic 176, 3) := by decide +kernel
theorem dX10_rule_86 : decode cX10_rule 86 = .ok (.ireturn, 1) := by decide +kernel
theorem dX10_rule_87 : decode cX10_rule 87 = .ok (.aload_n 0, 1) := by decide +kernel
theorem dX10_rule_88 : decode cX10_rule 88 = .ok (.getfield 41, 3) := by decide +kernel
theorem dX10_rule_91 : decode cX10_rule 91 = .ok (.getfield 182, 3) := by decide +kernel
theorem dX10_rule_94 : decode cX10_rule 94 = .ok (.iload_n 1, 1) := by decide +kernel
theorem dX10_rule_95 : decode cX10_rule 95 = .ok (.laload, 1) := by decide +kernel
theorem dX10_rule_96 : decode cX10_rule 96 = .ok (.invokestatic 176, 3) := by decide +kernel
theorem dX10_rule_99 : decode cX10_rule 99 = .ok (.ireturn, 1) := by decide +kernel
theorem dX10_rule_100 : decode cX10_rule 100 = .ok (.aload_n 0, 1) := by decide +kernel
theorem dX10_rule_101 : decode cX10_rule 101 = .ok (.getfield 41, 3) := by decide +kernel
theorem dX10_rule_104 : decode cX10_rule 104 = .ok (.iload_n 1, 1) := by decide +kernel
theorem dX10_rule_105 : decode cX10_rule 105 = .ok (.invokevirtual 185, 3) := by decide +kernel
theorem dX10_rule_108 : decode cX10_rule 108 = .ok (.ireturn, 1) := by decide +kernel
theorem dX10_rule_109 : decode cX10_rule 109 = .ok (.new 94, 3) := by decide +kernel
theorem dX10_rule_112 : decode cX10_rule 112 = .ok (.dup, 1) := by decide +kernel
theorem dX10_rule_113 : decode cX10_rule 113 = .ok (.invokespecial 96, 3) := by decide +kernel
theorem dX10_rule_116 : decode cX10_rule 116 = .ok (.athrow, 1) := by decide +kernel
theorem dX10_letter_0 : decode cX10_letter 0 = .ok (.aload_n 0, 1) := by decide +kernel
theorem dX10_letter_1 : decode cX10_letter 1 = .ok (.iload_n 1, 1) := by decide +kernel
theorem dX10_letter_2 : decode cX10_letter 2 = .ok (.invokevirtual 149, 3) := by decide +kernel
theorem dX10_letter_5 : decode cX10_letter 5 = .ok (.aload_n 0, 1) := by decide +kernel
theorem dX10_letter_6 : decode cX10_letter 6 = .ok (.getfield 41, 3) := by decide +kernel
theorem dX10_letter_9 : decode cX10_letter 9 = .ok (.iload_n 1, 1) := by decide +kernel
theorem dX10_letter_10 : decode cX10_letter 10 = .ok (.iload_n 2, 1) := by decide +kernel
theorem dX10_letter_11 : decode cX10_letter 11 = .ok (.invokevirtual 189, 3) := by decide +kernel
theorem dX10_letter_14 : decode cX10_letter 14 = .ok (.lstore 4, 2) := by decide +kernel
theorem dX10_letter_16 : decode cX10_letter 16 = .ok (.iload_n 3, 1) := by decide +kernel
theorem dX10_letter_17 : decode cX10_letter 17 = .ok (.ifCond .lt 12, 3) := by decide +kernel
theorem dX10_letter_20 : decode cX10_letter 20 = .ok (.iload_n 3, 1) := by decide +kernel
theorem dX10_letter_21 : decode cX10_letter 21 = .ok (.lload 4, 2) := by decide +kernel
theorem dX10_letter_23 : decode cX10_letter 23 = .ok (.invokestatic 176, 3) := by decide +kernel
theorem dX10_letter_26 : decode cX10_letter 26 = .ok (.if_icmp .lt 11, 3) := by decide +kernel
theorem dX10_letter_29 : decode cX10_letter 29 = .ok (.new 193, 3) := by decide +kernel
theorem dX10_letter_32 : decode cX10_letter 32 = .ok (.dup, 1) := by decide +kernel
theorem dX10_letter_33 : decode cX10_letter 33 = .ok (.invokespecial 195, 3) := by decide +kernel
theorem dX10_letter_36 : decode cX10_letter 36 = .ok (.athrow, 1) := by decide +kernel
theorem dX10_letter_37 : decode cX10_letter 37 = .ok (.lload 4, 2) := by decide +kernel
theorem dX10_letter_39 : decode cX10_letter 39 = .ok (.iload_n 3, 1) := by decide +kernel
theorem dX10_letter_40 : decode cX10_letter 40 = .ok (.invokestatic 196, 3) := by decide +kernel
theorem dX10_letter_43 : decode cX10_letter 43 = .ok (.ireturn, 1) := by decide +kernel
theorem dX10_count_0 : decode cX10_count 0 = .ok (.iload_n 1, 1) := by decide +kernel
theorem dX10_count_1 : decode cX10_count 1 = .ok (.tableswitch 111 0 7 #[47, 55, 63, 71, 79, 87, 95, 103], 47) := by decide +kernel
theorem dX10_count_48 : decode cX10_count 48 = .ok (.aload_n 0, 1) := by decide +kernel
theorem dX10_count_49 : decode cX10_count 49 = .ok (.getfield 41, 3) := by decide +kernel
theorem dX10_count_52 : decode cX10_count 52 = .ok (.getfield 85, 3) := by decide +kernel
theorem dX10_count_55 : decode cX10_count 55 = .ok (.ireturn, 1) := by decide +kernel
theorem dX10_count_56 : decode cX10_count 56 = .ok (.aload_n 0, 1) := by decide +kernel
theorem dX10_count_57 : decode cX10_count 57 = .ok (.getfield 41, 3) := by decide +kernel
theorem dX10_count_60 : decode cX10_count 60 = .ok (.getfield 200, 3) := by decide +kernel
theorem dX10_count_63 : decode cX10_count 63 = .ok (.ireturn, 1) := by decide +kernel
theorem dX10_count_64 : decode cX10_count 64 = .ok (.aload_n 0, 1) := by decide +kernel
theorem dX10_count_65 : decode cX10_count 65 = .ok (.getfield 41, 3) := by decide +kernel
theorem dX10_count_68 : decode cX10_count 68 = .ok (.getfield 163, 3) := by decide +kernel
theorem dX10_count_71 : decode cX10_count 71 = .ok (.ireturn, 1) := by decide +kernel
theorem dX10_count_72 : decode cX10_count 72 = .ok (.aload_n 0, 1) := by decide +kernel
theorem dX10_count_73 : decode cX10_count 73 = .ok (.getfield 41, 3) := by decide +kernel
theorem dX10_count_76 : decode cX10_count 76 = .ok (.getfield 166, 3) := by decide +kernel
theorem dX10_count_79 : decode cX10_count 79 = .ok (.ireturn, 1) := by decide +kernel
theorem dX10_count_80 : decode cX10_count 80 = .ok (.aload_n 0, 1) := by decide +kernel
theorem dX10_count_81 : decode cX10_count 81 = .ok (.getfield 41, 3) := by decide +kernel
theorem dX10_count_84 : decode cX10_count 84 = .ok (.invokevirtual 203, 3) := by decide +kernel
theorem dX10_count_87 : decode cX10_count 87 = .ok (.ireturn, 1) := by decide +kernel
theorem dX10_count_88 : decode cX10_count 88 = .ok (.aload_n 0, 1) := by decide +kernel
theorem dX10_count_89 : decode cX10_count 89 = .ok (.getfield 14, 3) := by decide +kernel
theorem dX10_count_92 : decode cX10_count 92 = .ok (.invokevirtual 97, 3) := by decide +kernel
theorem dX10_count_95 : decode cX10_count 95 = .ok (.ireturn, 1) := by decide +kernel
theorem dX10_count_96 : decode cX10_count 96 = .ok (.aload_n 0, 1) := by decide +kernel
theorem dX10_count_97 : decode cX10_count 97 = .ok (.getfield 60, 3) := by decide +kernel
theorem dX10_count_100 : decode cX10_count 100 = .ok (.getfield 206, 3) := by decide +kernel
theorem dX10_count_103 : decode cX10_count 103 = .ok (.ireturn, 1) := by decide +kernel
theorem dX10_count_104 : decode cX10_count 104 = .ok (.aload_n 0, 1) := by decide +kernel
theorem dX10_count_105 : decode cX10_count 105 = .ok (.getfield 41, 3) := by decide +kernel
theorem dX10_count_108 : decode cX10_count 108 = .ok (.getfield 208, 3) := by decide +kernel
theorem dX10_count_111 : decode cX10_count 111 = .ok (.ireturn, 1) := by decide +kernel
theorem dX10_count_112 : decode cX10_count 112 = .ok (.new 94, 3) := by decide +kernel
theorem dX10_count_115 : decode cX10_count 115 = .ok (.dup, 1) := by decide +kernel
theorem dX10_count_116 : decode cX10_count 116 = .ok (.invokespecial 96, 3) := by decide +kernel
theorem dX10_count_119 : decode cX10_count 119 = .ok (.athrow, 1) := by decide +kernel
theorem dX10_collision_0 : decode cX10_collision 0 = .ok (.aload_n 0, 1) := by decide +kernel
theorem dX10_collision_1 : decode cX10_collision 1 = .ok (.getfield 41, 3) := by decide +kernel
theorem dX10_collision_4 : decode cX10_collision 4 = .ok (.iload_n 1, 1) := by decide +kernel
theorem dX10_collision_5 : decode cX10_collision 5 = .ok (.iload_n 2, 1) := by decide +kernel
theorem dX10_collision_6 : decode cX10_collision 6 = .ok (.invokevirtual 211, 3) := by decide +kernel
theorem dX10_collision_9 : decode cX10_collision 9 = .ok (.istore_n 3, 1) := by decide +kernel
theorem dX10_collision_10 : decode cX10_collision 10 = .ok (.iload_n 3, 1) := by decide +kernel
theorem dX10_collision_11 : decode cX10_collision 11 = .ok (.ifCond .ge 11, 3) := by decide +kernel
theorem dX10_collision_14 : decode cX10_collision 14 = .ok (.new 193, 3) := by decide +kernel
theorem dX10_collision_17 : decode cX10_collision 17 = .ok (.dup, 1) := by decide +kernel
theorem dX10_collision_18 : decode cX10_collision 18 = .ok (.invokespecial 195, 3) := by decide +kernel
theorem dX10_collision_21 : decode cX10_collision 21 = .ok (.athrow, 1) := by decide +kernel
theorem dX10_collision_22 : decode cX10_collision 22 = .ok (.iload_n 3, 1) := by decide +kernel
theorem dX10_collision_23 : decode cX10_collision 23 = .ok (.ireturn, 1) := by decide +kernel
theorem dX10_order_0 : decode cX10_order 0 = .ok (.iconst 0, 1) := by decide +kernel
theorem dX10_order_1 : decode cX10_order 1 = .ok (.istore_n 2, 1) := by decide +kernel
theorem dX10_order_2 : decode cX10_order 2 = .ok (.iload_n 2, 1) := by decide +kernel
theorem dX10_order_3 : decode cX10_order 3 = .ok (.aload_n 0, 1) := by decide +kernel
theorem dX10_order_4 : decode cX10_order 4 = .ok (.getfield 41, 3) := by decide +kernel
theorem dX10_order_7 : decode cX10_order 7 = .ok (.getfield 85, 3) := by decide +kernel
theorem dX10_order_10 : decode cX10_order 10 = .ok (.if_icmp .ge 23, 3) := by decide +kernel
theorem dX10_order_13 : decode cX10_order 13 = .ok (.aload_n 0, 1) := by decide +kernel
theorem dX10_order_14 : decode cX10_order 14 = .ok (.getfield 41, 3) := by decide +kernel
theorem dX10_order_17 : decode cX10_order 17 = .ok (.iload_n 2, 1) := by decide +kernel
theorem dX10_order_18 : decode cX10_order 18 = .ok (.invokevirtual 185, 3) := by decide +kernel
theorem dX10_order_21 : decode cX10_order 21 = .ok (.iload_n 1, 1) := by decide +kernel
theorem dX10_order_22 : decode cX10_order 22 = .ok (.if_icmp .ne 5, 3) := by decide +kernel
theorem dX10_order_25 : decode cX10_order 25 = .ok (.iload_n 2, 1) := by decide +kernel
theorem dX10_order_26 : decode cX10_order 26 = .ok (.ireturn, 1) := by decide +kernel
theorem dX10_order_27 : decode cX10_order 27 = .ok (.iinc 2 1, 3) := by decide +kernel
theorem dX10_order_30 : decode cX10_order 30 = .ok (.goto (-28), 3) := by decide +kernel
theorem dX10_order_33 : decode cX10_order 33 = .ok (.new 193, 3) := by decide +kernel
theorem dX10_order_36 : decode cX10_order 36 = .ok (.dup, 1) := by decide +kernel
theorem dX10_order_37 : decode cX10_order 37 = .ok (.invokespecial 195, 3) := by decide +kernel
theorem dX10_order_40 : decode cX10_order 40 = .ok (.athrow, 1) := by decide +kernel
theorem dX10_shadow_0 : decode cX10_shadow 0 = .ok (.aload_n 0, 1) := by decide +kernel
theorem dX10_shadow_1 : decode cX10_shadow 1 = .ok (.iload_n 1, 1) := by decide +kernel
theorem dX10_shadow_2 : decode cX10_shadow 2 = .ok (.invokevirtual 149, 3) := by decide +kernel
theorem dX10_shadow_5 : decode cX10_shadow 5 = .ok (.iconst (-1), 1) := by decide +kernel
theorem dX10_shadow_6 : decode cX10_shadow 6 = .ok (.istore_n 3, 1) := by decide +kernel
theorem dX10_shadow_7 : decode cX10_shadow 7 = .ok (.iconst 0, 1) := by decide +kernel
theorem dX10_shadow_8 : decode cX10_shadow 8 = .ok (.istore 4, 2) := by decide +kernel
theorem dX10_shadow_10 : decode cX10_shadow 10 = .ok (.iload 4, 2) := by decide +kernel
theorem dX10_shadow_12 : decode cX10_shadow 12 = .ok (.aload_n 0, 1) := by decide +kernel
theorem dX10_shadow_13 : decode cX10_shadow 13 = .ok (.getfield 41, 3) := by decide +kernel
theorem dX10_shadow_16 : decode cX10_shadow 16 = .ok (.getfield 85, 3) := by decide +kernel
theorem dX10_shadow_19 : decode cX10_shadow 19 = .ok (.if_icmp .ge 43, 3) := by decide +kernel
theorem dX10_shadow_22 : decode cX10_shadow 22 = .ok (.aload_n 0, 1) := by decide +kernel
theorem dX10_shadow_23 : decode cX10_shadow 23 = .ok (.getfield 41, 3) := by decide +kernel
theorem dX10_shadow_26 : decode cX10_shadow 26 = .ok (.iload_n 1, 1) := by decide +kernel
theorem dX10_shadow_27 : decode cX10_shadow 27 = .ok (.iload 4, 2) := by decide +kernel
theorem dX10_shadow_29 : decode cX10_shadow 29 = .ok (.iload_n 2, 1) := by decide +kernel
theorem dX10_shadow_30 : decode cX10_shadow 30 = .ok (.invokevirtual 215, 3) := by decide +kernel
theorem dX10_shadow_33 : decode cX10_shadow 33 = .ok (.ifCond .eq 23, 3) := by decide +kernel
theorem dX10_shadow_36 : decode cX10_shadow 36 = .ok (.iload_n 3, 1) := by decide +kernel
theorem dX10_shadow_37 : decode cX10_shadow 37 = .ok (.ifCond .lt 16, 3) := by decide +kernel
theorem dX10_shadow_40 : decode cX10_shadow 40 = .ok (.aload_n 0, 1) := by decide +kernel
theorem dX10_shadow_41 : decode cX10_shadow 41 = .ok (.getfield 41, 3) := by decide +kernel
theorem dX10_shadow_44 : decode cX10_shadow 44 = .ok (.iload 4, 2) := by decide +kernel
theorem dX10_shadow_46 : decode cX10_shadow 46 = .ok (.iload_n 3, 1) := by decide +kernel
theorem dX10_shadow_47 : decode cX10_shadow 47 = .ok (.invokevirtual 219, 3) := by decide +kernel
theorem dX10_shadow_50 : decode cX10_shadow 50 = .ok (.ifCond .eq 6, 3) := by decide +kernel
theorem dX10_shadow_53 : decode cX10_shadow 53 = .ok (.iload 4, 2) := by decide +kernel
theorem dX10_shadow_55 : decode cX10_shadow 55 = .ok (.istore_n 3, 1) := by decide +kernel
theorem dX10_shadow_56 : decode cX10_shadow 56 = .ok (.iinc 4 1, 3) := by decide +kernel
theorem dX10_shadow_59 : decode cX10_shadow 59 = .ok (.goto (-49), 3) := by decide +kernel
theorem dX10_shadow_62 : decode cX10_shadow 62 = .ok (.iload_n 3, 1) := by decide +kernel
theorem dX10_shadow_63 : decode cX10_shadow 63 = .ok (.ireturn, 1) := by decide +kernel
theorem dX10_letterCount_0 : decode cX10_letterCount 0 = .ok (.iload_n 1, 1) := by decide +kernel
theorem dX10_letterCount_1 : decode cX10_letterCount 1 = .ok (.invokestatic 223, 3) := by decide +kernel
theorem dX10_letterCount_4 : decode cX10_letterCount 4 = .ok (.invokestatic 152, 3) := by decide +kernel
theorem dX10_letterCount_7 : decode cX10_letterCount 7 = .ok (.iconst 0, 1) := by decide +kernel
theorem dX10_letterCount_8 : decode cX10_letterCount 8 = .ok (.istore_n 3, 1) := by decide +kernel
theorem dX10_letterCount_9 : decode cX10_letterCount 9 = .ok (.iconst 0, 1) := by decide +kernel
theorem dX10_letterCount_10 : decode cX10_letterCount 10 = .ok (.istore 4, 2) := by decide +kernel
theorem dX10_letterCount_12 : decode cX10_letterCount 12 = .ok (.iload 4, 2) := by decide +kernel
theorem dX10_letterCount_14 : decode cX10_letterCount 14 = .ok (.aload_n 0, 1) := by decide +kernel
theorem dX10_letterCount_15 : decode cX10_letterCount 15 = .ok (.getfield 41, 3) := by decide +kernel
theorem dX10_letterCount_18 : decode cX10_letterCount 18 = .ok (.getfield 85, 3) := by decide +kernel
theorem dX10_letterCount_21 : decode cX10_letterCount 21 = .ok (.if_icmp .ge 26, 3) := by decide +kernel
theorem dX10_letterCount_24 : decode cX10_letterCount 24 = .ok (.iload_n 3, 1) := by decide +kernel
theorem dX10_letterCount_25 : decode cX10_letterCount 25 = .ok (.aload_n 0, 1) := by decide +kernel
theorem dX10_letterCount_26 : decode cX10_letterCount 26 = .ok (.getfield 41, 3) := by decide +kernel
theorem dX10_letterCount_29 : decode cX10_letterCount 29 = .ok (.iload 4, 2) := by decide +kernel
theorem dX10_letterCount_31 : decode cX10_letterCount 31 = .ok (.iload_n 2, 1) := by decide +kernel
theorem dX10_letterCount_32 : decode cX10_letterCount 32 = .ok (.invokevirtual 189, 3) := by decide +kernel
theorem dX10_letterCount_35 : decode cX10_letterCount 35 = .ok (.iload_n 1, 1) := by decide +kernel
theorem dX10_letterCount_36 : decode cX10_letterCount 36 = .ok (.invokestatic 227, 3) := by decide +kernel
theorem dX10_letterCount_39 : decode cX10_letterCount 39 = .ok (.iadd, 1) := by decide +kernel
theorem dX10_letterCount_40 : decode cX10_letterCount 40 = .ok (.istore_n 3, 1) := by decide +kernel
theorem dX10_letterCount_41 : decode cX10_letterCount 41 = .ok (.iinc 4 1, 3) := by decide +kernel
theorem dX10_letterCount_44 : decode cX10_letterCount 44 = .ok (.goto (-32), 3) := by decide +kernel
theorem dX10_letterCount_47 : decode cX10_letterCount 47 = .ok (.iload_n 3, 1) := by decide +kernel
theorem dX10_letterCount_48 : decode cX10_letterCount 48 = .ok (.ireturn, 1) := by decide +kernel
theorem dX10_saving_0 : decode cX10_saving 0 = .ok (.iload_n 1, 1) := by decide +kernel
theorem dX10_saving_1 : decode cX10_saving 1 = .ok (.iconst (-1), 1) := by decide +kernel
theorem dX10_saving_2 : decode cX10_saving 2 = .ok (.if_icmp .eq 10, 3) := by decide +kernel
theorem dX10_saving_5 : decode cX10_saving 5 = .ok (.iload_n 1, 1) := by decide +kernel
theorem dX10_saving_6 : decode cX10_saving 6 = .ok (.invokestatic 108, 3) := by decide +kernel
theorem dX10_saving_9 : decode cX10_saving 9 = .ok (.ifCond .eq 7, 3) := by decide +kernel
theorem dX10_saving_12 : decode cX10_saving 12 = .ok (.iconst 1, 1) := by decide +kernel
theorem dX10_saving_13 : decode cX10_saving 13 = .ok (.goto 4, 3) := by decide +kernel
theorem dX10_saving_16 : decode cX10_saving 16 = .ok (.iconst 0, 1) := by decide +kernel
theorem dX10_saving_17 : decode cX10_saving 17 = .ok (.invokestatic 152, 3) := by decide +kernel
theorem dX10_saving_20 : decode cX10_saving 20 = .ok (.iconst 0, 1) := by decide +kernel
theorem dX10_saving_21 : decode cX10_saving 21 = .ok (.istore_n 2, 1) := by decide +kernel
theorem dX10_saving_22 : decode cX10_saving 22 = .ok (.iconst 0, 1) := by decide +kernel
theorem dX10_saving_23 : decode cX10_saving 23 = .ok (.istore_n 3, 1) := by decide +kernel
theorem dX10_saving_24 : decode cX10_saving 24 = .ok (.iload_n 3, 1) := by decide +kernel
theorem dX10_saving_25 : decode cX10_saving 25 = .ok (.aload_n 0, 1) := by decide +kernel
theorem dX10_saving_26 : decode cX10_saving 26 = .ok (.getfield 41, 3) := by decide +kernel
theorem dX10_saving_29 : decode cX10_saving 29 = .ok (.getfield 85, 3) := by decide +kernel
theorem dX10_saving_32 : decode cX10_saving 32 = .ok (.if_icmp .ge 38, 3) := by decide +kernel
theorem dX10_saving_35 : decode cX10_saving 35 = .ok (.iload_n 1, 1) := by decide +kernel
theorem dX10_saving_36 : decode cX10_saving 36 = .ok (.iconst (-1), 1) := by decide +kernel
theorem dX10_saving_37 : decode cX10_saving 37 = .ok (.if_icmp .eq 16, 3) := by decide +kernel
theorem dX10_saving_40 : decode cX10_saving 40 = .ok (.aload_n 0, 1) := by decide +kernel
theorem dX10_saving_41 : decode cX10_saving 41 = .ok (.getfield 41, 3) := by decide +kernel
theorem dX10_saving_44 : decode cX10_saving 44 = .ok (.getfield 169, 3) := by decide +kernel
theorem dX10_saving_47 : decode cX10_saving 47 = .ok (.iload_n 3, 1) := by decide +kernel
theorem dX10_saving_48 : decode cX10_saving 48 = .ok (.iaload, 1) := by decide +kernel
theorem dX10_saving_49 : decode cX10_saving 49 = .ok (.iload_n 1, 1) := by decide +kernel
theorem dX10_saving_50 : decode cX10_saving 50 = .ok (.if_icmp .ne 14, 3) := by decide +kernel
theorem dX10_saving_53 : decode cX10_saving 53 = .ok (.iload_n 2, 1) := by decide +kernel
theorem dX10_saving_54 : decode cX10_saving 54 = .ok (.aload_n 0, 1) := by decide +kernel
theorem dX10_saving_55 : decode cX10_saving 55 = .ok (.getfield 41, 3) := by decide +kernel
theorem dX10_saving_58 : decode cX10_saving 58 = .ok (.iload_n 3, 1) := by decide +kernel
theorem dX10_saving_59 : decode cX10_saving 59 = .ok (.invokevirtual 231, 3) := by decide +kernel
theorem dX10_saving_62 : decode cX10_saving 62 = .ok (.iadd, 1) := by decide +kernel
theorem dX10_saving_63 : decode cX10_saving 63 = .ok (.istore_n 2, 1) := by decide +kernel
theorem dX10_saving_64 : decode cX10_saving 64 = .ok (.iinc 3 1, 3) := by decide +kernel
theorem dX10_saving_67 : decode cX10_saving 67 = .ok (.goto (-43), 3) := by decide +kernel
theorem dX10_saving_70 : decode cX10_saving 70 = .ok (.iload_n 2, 1) := by decide +kernel
theorem dX10_saving_71 : decode cX10_saving 71 = .ok (.ireturn, 1) := by decide +kernel
theorem dX10_learn_0 : decode cX10_learn 0 = .ok (.aload_n 0, 1) := by decide +kernel
theorem dX10_learn_1 : decode cX10_learn 1 = .ok (.getfield 14, 3) := by decide +kernel
theorem dX10_learn_4 : decode cX10_learn 4 = .ok (.invokevirtual 121, 3) := by decide +kernel
theorem dX10_learn_7 : decode cX10_learn 7 = .ok (.astore_n 1, 1) := by decide +kernel
theorem dX10_learn_8 : decode cX10_learn 8 = .ok (.aload_n 0, 1) := by decide +kernel
theorem dX10_learn_9 : decode cX10_learn 9 = .ok (.getfield 14, 3) := by decide +kernel
theorem dX10_learn_12 : decode cX10_learn 12 = .ok (.invokevirtual 125, 3) := by decide +kernel
theorem dX10_learn_15 : decode cX10_learn 15 = .ok (.aload_n 0, 1) := by decide +kernel
theorem dX10_learn_16 : decode cX10_learn 16 = .ok (.aload_n 0, 1) := by decide +kernel
theorem dX10_learn_17 : decode cX10_learn 17 = .ok (.getfield 24, 3) := by decide +kernel
theorem dX10_learn_20 : decode cX10_learn 20 = .ok (.aload_n 1, 1) := by decide +kernel
theorem dX10_learn_21 : decode cX10_learn 21 = .ok (.invokevirtual 234, 3) := by decide +kernel
theorem dX10_learn_24 : decode cX10_learn 24 = .ok (.invokevirtual 132, 3) := by decide +kernel
theorem dX10_learn_27 : decode cX10_learn 27 = .ok (.aload_n 0, 1) := by decide +kernel
theorem dX10_learn_28 : decode cX10_learn 28 = .ok (.getfield 41, 3) := by decide +kernel
theorem dX10_learn_31 : decode cX10_learn 31 = .ok (.getfield 85, 3) := by decide +kernel
theorem dX10_learn_34 : decode cX10_learn 34 = .ok (.istore_n 2, 1) := by decide +kernel
theorem dX10_learn_35 : decode cX10_learn 35 = .ok (.aload_n 0, 1) := by decide +kernel
theorem dX10_learn_36 : decode cX10_learn 36 = .ok (.new 51, 3) := by decide +kernel
theorem dX10_learn_39 : decode cX10_learn 39 = .ok (.dup, 1) := by decide +kernel
theorem dX10_learn_40 : decode cX10_learn 40 = .ok (.aload_n 0, 1) := by decide +kernel
theorem dX10_learn_41 : decode cX10_learn 41 = .ok (.getfield 41, 3) := by decide +kernel
theorem dX10_learn_44 : decode cX10_learn 44 = .ok (.getfield 138, 3) := by decide +kernel
theorem dX10_learn_47 : decode cX10_learn 47 = .ok (.bipush 6, 2) := by decide +kernel
theorem dX10_learn_49 : decode cX10_learn 49 = .ok (.iconst 0, 1) := by decide +kernel
theorem dX10_learn_50 : decode cX10_learn 50 = .ok (.iconst 0, 1) := by decide +kernel
theorem dX10_learn_51 : decode cX10_learn 51 = .ok (.iconst 0, 1) := by decide +kernel
theorem dX10_learn_52 : decode cX10_learn 52 = .ok (.aload_n 1, 1) := by decide +kernel
theorem dX10_learn_53 : decode cX10_learn 53 = .ok (.invokespecial 142, 3) := by decide +kernel
theorem dX10_learn_56 : decode cX10_learn 56 = .ok (.invokevirtual 145, 3) := by decide +kernel
theorem dX10_learn_59 : decode cX10_learn 59 = .ok (.aload_n 0, 1) := by decide +kernel
theorem dX10_learn_60 : decode cX10_learn 60 = .ok (.getfield 41, 3) := by decide +kernel
theorem dX10_learn_63 : decode cX10_learn 63 = .ok (.getfield 85, 3) := by decide +kernel
theorem dX10_learn_66 : decode cX10_learn 66 = .ok (.iload_n 2, 1) := by decide +kernel
theorem dX10_learn_67 : decode cX10_learn 67 = .ok (.isub, 1) := by decide +kernel
theorem dX10_learn_68 : decode cX10_learn 68 = .ok (.ireturn, 1) := by decide +kernel
theorem dX10_pair_0 : decode cX10_pair 0 = .ok (.iload_n 1, 1) := by decide +kernel
theorem dX10_pair_1 : decode cX10_pair 1 = .ok (.ifCond .lt 14, 3) := by decide +kernel
theorem dX10_pair_4 : decode cX10_pair 4 = .ok (.iload_n 1, 1) := by decide +kernel
theorem dX10_pair_5 : decode cX10_pair 5 = .ok (.aload_n 0, 1) := by decide +kernel
theorem dX10_pair_6 : decode cX10_pair 6 = .ok (.getfield 41, 3) := by decide +kernel
theorem dX10_pair_9 : decode cX10_pair 9 = .ok (.getfield 200, 3) := by decide +kernel
theorem dX10_pair_12 : decode cX10_pair 12 = .ok (.if_icmp .lt 11, 3) := by decide +kernel
theorem dX10_pair_15 : decode cX10_pair 15 = .ok (.new 118, 3) := by decide +kernel
theorem dX10_pair_18 : decode cX10_pair 18 = .ok (.dup, 1) := by decide +kernel
theorem dX10_pair_19 : decode cX10_pair 19 = .ok (.invokespecial 120, 3) := by decide +kernel
theorem dX10_pair_22 : decode cX10_pair 22 = .ok (.athrow, 1) := by decide +kernel
theorem dX10_pair_23 : decode cX10_pair 23 = .ok (.iload_n 2, 1) := by decide +kernel
theorem dX10_pair_24 : decode cX10_pair 24 = .ok (.tableswitch 94 0 3 #[32, 42, 55, 68], 32) := by decide +kernel
theorem dX10_pair_56 : decode cX10_pair 56 = .ok (.aload_n 0, 1) := by decide +kernel
theorem dX10_pair_57 : decode cX10_pair 57 = .ok (.getfield 41, 3) := by decide +kernel
theorem dX10_pair_60 : decode cX10_pair 60 = .ok (.getfield 237, 3) := by decide +kernel
theorem dX10_pair_63 : decode cX10_pair 63 = .ok (.iload_n 1, 1) := by decide +kernel
theorem dX10_pair_64 : decode cX10_pair 64 = .ok (.iaload, 1) := by decide +kernel
theorem dX10_pair_65 : decode cX10_pair 65 = .ok (.ireturn, 1) := by decide +kernel
theorem dX10_pair_66 : decode cX10_pair 66 = .ok (.aload_n 0, 1) := by decide +kernel
theorem dX10_pair_67 : decode cX10_pair 67 = .ok (.getfield 41, 3) := by decide +kernel
theorem dX10_pair_70 : decode cX10_pair 70 = .ok (.getfield 240, 3) := by decide +kernel
theorem dX10_pair_73 : decode cX10_pair 73 = .ok (.iload_n 1, 1) := by decide +kernel
theorem dX10_pair_74 : decode cX10_pair 74 = .ok (.laload, 1) := by decide +kernel
theorem dX10_pair_75 : decode cX10_pair 75 = .ok (.invokestatic 176, 3) := by decide +kernel
theorem dX10_pair_78 : decode cX10_pair 78 = .ok (.ireturn, 1) := by decide +kernel
theorem dX10_pair_79 : decode cX10_pair 79 = .ok (.aload_n 0, 1) := by decide +kernel
theorem dX10_pair_80 : decode cX10_pair 80 = .ok (.getfield 41, 3) := by decide +kernel
theorem dX10_pair_83 : decode cX10_pair 83 = .ok (.getfield 243, 3) := by decide +kernel
theorem dX10_pair_86 : decode cX10_pair 86 = .ok (.iload_n 1, 1) := by decide +kernel
theorem dX10_pair_87 : decode cX10_pair 87 = .ok (.laload, 1) := by decide +kernel
theorem dX10_pair_88 : decode cX10_pair 88 = .ok (.invokestatic 176, 3) := by decide +kernel
theorem dX10_pair_91 : decode cX10_pair 91 = .ok (.ireturn, 1) := by decide +kernel
theorem dX10_pair_92 : decode cX10_pair 92 = .ok (.aload_n 0, 1) := by decide +kernel
theorem dX10_pair_93 : decode cX10_pair 93 = .ok (.getfield 41, 3) := by decide +kernel
theorem dX10_pair_96 : decode cX10_pair 96 = .ok (.aload_n 0, 1) := by decide +kernel
theorem dX10_pair_97 : decode cX10_pair 97 = .ok (.getfield 41, 3) := by decide +kernel
theorem dX10_pair_100 : decode cX10_pair 100 = .ok (.getfield 240, 3) := by decide +kernel
theorem dX10_pair_103 : decode cX10_pair 103 = .ok (.iload_n 1, 1) := by decide +kernel
theorem dX10_pair_104 : decode cX10_pair 104 = .ok (.laload, 1) := by decide +kernel
theorem dX10_pair_105 : decode cX10_pair 105 = .ok (.aload_n 0, 1) := by decide +kernel
theorem dX10_pair_106 : decode cX10_pair 106 = .ok (.getfield 41, 3) := by decide +kernel
theorem dX10_pair_109 : decode cX10_pair 109 = .ok (.getfield 243, 3) := by decide +kernel
theorem dX10_pair_112 : decode cX10_pair 112 = .ok (.iload_n 1, 1) := by decide +kernel
theorem dX10_pair_113 : decode cX10_pair 113 = .ok (.laload, 1) := by decide +kernel
theorem dX10_pair_114 : decode cX10_pair 114 = .ok (.invokevirtual 246, 3) := by decide +kernel
theorem dX10_pair_117 : decode cX10_pair 117 = .ok (.ireturn, 1) := by decide +kernel
theorem dX10_pair_118 : decode cX10_pair 118 = .ok (.new 94, 3) := by decide +kernel
theorem dX10_pair_121 : decode cX10_pair 121 = .ok (.dup, 1) := by decide +kernel
theorem dX10_pair_122 : decode cX10_pair 122 = .ok (.invokespecial 96, 3) := by decide +kernel
theorem dX10_pair_125 : decode cX10_pair 125 = .ok (.athrow, 1) := by decide +kernel
theorem dX10_abbreviate_0 : decode cX10_abbreviate 0 = .ok (.aload_n 0, 1) := by decide +kernel
theorem dX10_abbreviate_1 : decode cX10_abbreviate 1 = .ok (.aload_n 0, 1) := by decide +kernel
theorem dX10_abbreviate_2 : decode cX10_abbreviate 2 = .ok (.getfield 24, 3) := by decide +kernel
theorem dX10_abbreviate_5 : decode cX10_abbreviate 5 = .ok (.aload_n 0, 1) := by decide +kernel
theorem dX10_abbreviate_6 : decode cX10_abbreviate 6 = .ok (.getfield 14, 3) := by decide +kernel
theorem dX10_abbreviate_9 : decode cX10_abbreviate 9 = .ok (.iconst 0, 1) := by decide +kernel
theorem dX10_abbreviate_10 : decode cX10_abbreviate 10 = .ok (.invokevirtual 250, 3) := by decide +kernel
theorem dX10_abbreviate_13 : decode cX10_abbreviate 13 = .ok (.iconst 1, 1) := by decide +kernel
theorem dX10_abbreviate_14 : decode cX10_abbreviate 14 = .ok (.invokevirtual 254, 3) := by decide +kernel
theorem dX10_abbreviate_17 : decode cX10_abbreviate 17 = .ok (.ireturn, 1) := by decide +kernel
theorem dX10_expand_0 : decode cX10_expand 0 = .ok (.aload_n 0, 1) := by decide +kernel
theorem dX10_expand_1 : decode cX10_expand 1 = .ok (.aload_n 0, 1) := by decide +kernel
theorem dX10_expand_2 : decode cX10_expand 2 = .ok (.getfield 24, 3) := by decide +kernel
theorem dX10_expand_5 : decode cX10_expand 5 = .ok (.aload_n 0, 1) := by decide +kernel
theorem dX10_expand_6 : decode cX10_expand 6 = .ok (.getfield 14, 3) := by decide +kernel
theorem dX10_expand_9 : decode cX10_expand 9 = .ok (.iconst 1, 1) := by decide +kernel
theorem dX10_expand_10 : decode cX10_expand 10 = .ok (.invokevirtual 250, 3) := by decide +kernel
theorem dX10_expand_13 : decode cX10_expand 13 = .ok (.iconst 0, 1) := by decide +kernel
theorem dX10_expand_14 : decode cX10_expand 14 = .ok (.invokevirtual 254, 3) := by decide +kernel
theorem dX10_expand_17 : decode cX10_expand 17 = .ok (.ireturn, 1) := by decide +kernel
theorem dX10_errorPosition_0 : decode cX10_errorPosition 0 = .ok (.aload_n 0, 1) := by decide +kernel
theorem dX10_errorPosition_1 : decode cX10_errorPosition 1 = .ok (.getfield 81, 3) := by decide +kernel
theorem dX10_errorPosition_4 : decode cX10_errorPosition 4 = .ok (.ifCond .ge 11, 3) := by decide +kernel
theorem dX10_errorPosition_7 : decode cX10_errorPosition 7 = .ok (.new 193, 3) := by decide +kernel
theorem dX10_errorPosition_10 : decode cX10_errorPosition 10 = .ok (.dup, 1) := by decide +kernel
theorem dX10_errorPosition_11 : decode cX10_errorPosition 11 = .ok (.invokespecial 195, 3) := by decide +kernel
theorem dX10_errorPosition_14 : decode cX10_errorPosition 14 = .ok (.athrow, 1) := by decide +kernel
theorem dX10_errorPosition_15 : decode cX10_errorPosition 15 = .ok (.aload_n 0, 1) := by decide +kernel
theorem dX10_errorPosition_16 : decode cX10_errorPosition 16 = .ok (.getfield 81, 3) := by decide +kernel
theorem dX10_errorPosition_19 : decode cX10_errorPosition 19 = .ok (.ireturn, 1) := by decide +kernel
theorem dX10_output_0 : decode cX10_output 0 = .ok (.aload_n 0, 1) := by decide +kernel
theorem dX10_output_1 : decode cX10_output 1 = .ok (.invokevirtual 257, 3) := by decide +kernel
theorem dX10_output_4 : decode cX10_output 4 = .ok (.iload_n 1, 1) := by decide +kernel
theorem dX10_output_5 : decode cX10_output 5 = .ok (.ifCond .lt 17, 3) := by decide +kernel
theorem dX10_output_8 : decode cX10_output 8 = .ok (.iload_n 1, 1) := by decide +kernel
theorem dX10_output_9 : decode cX10_output 9 = .ok (.aload_n 0, 1) := by decide +kernel
theorem dX10_output_10 : decode cX10_output 10 = .ok (.getfield 67, 3) := by decide +kernel
theorem dX10_output_13 : decode cX10_output 13 = .ok (.getfield 260, 3) := by decide +kernel
theorem dX10_output_16 : decode cX10_output 16 = .ok (.invokevirtual 97, 3) := by decide +kernel
theorem dX10_output_19 : decode cX10_output 19 = .ok (.if_icmp .lt 11, 3) := by decide +kernel
theorem dX10_output_22 : decode cX10_output 22 = .ok (.new 118, 3) := by decide +kernel
theorem dX10_output_25 : decode cX10_output 25 = .ok (.dup, 1) := by decide +kernel
theorem dX10_output_26 : decode cX10_output 26 = .ok (.invokespecial 120, 3) := by decide +kernel
theorem dX10_output_29 : decode cX10_output 29 = .ok (.athrow, 1) := by decide +kernel
theorem dX10_output_30 : decode cX10_output 30 = .ok (.aload_n 0, 1) := by decide +kernel
theorem dX10_output_31 : decode cX10_output 31 = .ok (.getfield 67, 3) := by decide +kernel
theorem dX10_output_34 : decode cX10_output 34 = .ok (.getfield 260, 3) := by decide +kernel
theorem dX10_output_37 : decode cX10_output 37 = .ok (.iload_n 1, 1) := by decide +kernel
theorem dX10_output_38 : decode cX10_output 38 = .ok (.invokevirtual 263, 3) := by decide +kernel
theorem dX10_output_41 : decode cX10_output 41 = .ok (.ireturn, 1) := by decide +kernel
theorem dX10_takeBack_0 : decode cX10_takeBack 0 = .ok (.aload_n 0, 1) := by decide +kernel
theorem dX10_takeBack_1 : decode cX10_takeBack 1 = .ok (.invokevirtual 257, 3) := by decide +kernel
theorem dX10_takeBack_4 : decode cX10_takeBack 4 = .ok (.aload_n 0, 1) := by decide +kernel
theorem dX10_takeBack_5 : decode cX10_takeBack 5 = .ok (.getfield 67, 3) := by decide +kernel
theorem dX10_takeBack_8 : decode cX10_takeBack 8 = .ok (.getfield 260, 3) := by decide +kernel
theorem dX10_takeBack_11 : decode cX10_takeBack 11 = .ok (.invokevirtual 97, 3) := by decide +kernel
theorem dX10_takeBack_14 : decode cX10_takeBack 14 = .ok (.bipush 100, 2) := by decide +kernel
theorem dX10_takeBack_16 : decode cX10_takeBack 16 = .ok (.if_icmp .le 11, 3) := by decide +kernel
theorem dX10_takeBack_19 : decode cX10_takeBack 19 = .ok (.new 101, 3) := by decide +kernel
theorem dX10_takeBack_22 : decode cX10_takeBack 22 = .ok (.dup, 1) := by decide +kernel
theorem dX10_takeBack_23 : decode cX10_takeBack 23 = .ok (.invokespecial 103, 3) := by decide +kernel
theorem dX10_takeBack_26 : decode cX10_takeBack 26 = .ok (.athrow, 1) := by decide +kernel
theorem dX10_takeBack_27 : decode cX10_takeBack 27 = .ok (.aload_n 0, 1) := by decide +kernel
theorem dX10_takeBack_28 : decode cX10_takeBack 28 = .ok (.getfield 14, 3) := by decide +kernel
theorem dX10_takeBack_31 : decode cX10_takeBack 31 = .ok (.invokevirtual 125, 3) := by decide +kernel
theorem dX10_takeBack_34 : decode cX10_takeBack 34 = .ok (.aload_n 0, 1) := by decide +kernel
theorem dX10_takeBack_35 : decode cX10_takeBack 35 = .ok (.getfield 14, 3) := by decide +kernel
theorem dX10_takeBack_38 : decode cX10_takeBack 38 = .ok (.aload_n 0, 1) := by decide +kernel
theorem dX10_takeBack_39 : decode cX10_takeBack 39 = .ok (.getfield 67, 3) := by decide +kernel
theorem dX10_takeBack_42 : decode cX10_takeBack 42 = .ok (.getfield 260, 3) := by decide +kernel
theorem dX10_takeBack_45 : decode cX10_takeBack 45 = .ok (.iconst 0, 1) := by decide +kernel
theorem dX10_takeBack_46 : decode cX10_takeBack 46 = .ok (.aload_n 0, 1) := by decide +kernel
theorem dX10_takeBack_47 : decode cX10_takeBack 47 = .ok (.getfield 67, 3) := by decide +kernel
theorem dX10_takeBack_50 : decode cX10_takeBack 50 = .ok (.getfield 260, 3) := by decide +kernel
theorem dX10_takeBack_53 : decode cX10_takeBack 53 = .ok (.invokevirtual 97, 3) := by decide +kernel
theorem dX10_takeBack_56 : decode cX10_takeBack 56 = .ok (.invokevirtual 267, 3) := by decide +kernel
theorem dX10_takeBack_59 : decode cX10_takeBack 59 = .ok (.aload_n 0, 1) := by decide +kernel
theorem dX10_takeBack_60 : decode cX10_takeBack 60 = .ok (.getfield 14, 3) := by decide +kernel
theorem dX10_takeBack_63 : decode cX10_takeBack 63 = .ok (.invokevirtual 97, 3) := by decide +kernel
theorem dX10_takeBack_66 : decode cX10_takeBack 66 = .ok (.ireturn, 1) := by decide +kernel
theorem dX10_word_0 : decode cX10_word 0 = .ok (.aload_n 0, 1) := by decide +kernel
theorem dX10_word_1 : decode cX10_word 1 = .ok (.invokevirtual 257, 3) := by decide +kernel
theorem dX10_word_4 : decode cX10_word 4 = .ok (.iload_n 1, 1) := by decide +kernel
theorem dX10_word_5 : decode cX10_word 5 = .ok (.ifCond .lt 14, 3) := by decide +kernel
theorem dX10_word_8 : decode cX10_word 8 = .ok (.iload_n 1, 1) := by decide +kernel
theorem dX10_word_9 : decode cX10_word 9 = .ok (.aload_n 0, 1) := by decide +kernel
theorem dX10_word_10 : decode cX10_word 10 = .ok (.getfield 67, 3) := by decide +kernel
theorem dX10_word_13 : decode cX10_word 13 = .ok (.getfield 271, 3) := by decide +kernel
theorem dX10_word_16 : decode cX10_word 16 = .ok (.if_icmp .lt 11, 3) := by decide +kernel
theorem dX10_word_19 : decode cX10_word 19 = .ok (.new 118, 3) := by decide +kernel
theorem dX10_word_22 : decode cX10_word 22 = .ok (.dup, 1) := by decide +kernel
theorem dX10_word_23 : decode cX10_word 23 = .ok (.invokespecial 120, 3) := by decide +kernel
theorem dX10_word_26 : decode cX10_word 26 = .ok (.athrow, 1) := by decide +kernel
theorem dX10_word_27 : decode cX10_word 27 = .ok (.iload_n 2, 1) := by decide +kernel
theorem dX10_word_28 : decode cX10_word 28 = .ok (.tableswitch 100 0 5 #[40, 50, 60, 70, 80, 90], 40) := by decide +kernel
theorem dX10_word_68 : decode cX10_word 68 = .ok (.aload_n 0, 1) := by decide +kernel
theorem dX10_word_69 : decode cX10_word 69 = .ok (.getfield 67, 3) := by decide +kernel
theorem dX10_word_72 : decode cX10_word 72 = .ok (.getfield 274, 3) := by decide +kernel
theorem dX10_word_75 : decode cX10_word 75 = .ok (.iload_n 1, 1) := by decide +kernel
theorem dX10_word_76 : decode cX10_word 76 = .ok (.iaload, 1) := by decide +kernel
theorem dX10_word_77 : decode cX10_word 77 = .ok (.ireturn, 1) := by decide +kernel
theorem dX10_word_78 : decode cX10_word 78 = .ok (.aload_n 0, 1) := by decide +kernel
theorem dX10_word_79 : decode cX10_word 79 = .ok (.getfield 67, 3) := by decide +kernel
theorem dX10_word_82 : decode cX10_word 82 = .ok (.getfield 277, 3) := by decide +kernel
theorem dX10_word_85 : decode cX10_word 85 = .ok (.iload_n 1, 1) := by decide +kernel
theorem dX10_word_86 : decode cX10_word 86 = .ok (.iaload, 1) := by decide +kernel
theorem dX10_word_87 : decode cX10_word 87 = .ok (.ireturn, 1) := by decide +kernel
theorem dX10_word_88 : decode cX10_word 88 = .ok (.aload_n 0, 1) := by decide +kernel
theorem dX10_word_89 : decode cX10_word 89 = .ok (.getfield 67, 3) := by decide +kernel
theorem dX10_word_92 : decode cX10_word 92 = .ok (.getfield 280, 3) := by decide +kernel
theorem dX10_word_95 : decode cX10_word 95 = .ok (.iload_n 1, 1) := by decide +kernel
theorem dX10_word_96 : decode cX10_word 96 = .ok (.iaload, 1) := by decide +kernel
theorem dX10_word_97 : decode cX10_word 97 = .ok (.ireturn, 1) := by decide +kernel
theorem dX10_word_98 : decode cX10_word 98 = .ok (.aload_n 0, 1) := by decide +kernel
theorem dX10_word_99 : decode cX10_word 99 = .ok (.getfield 67, 3) := by decide +kernel
theorem dX10_word_102 : decode cX10_word 102 = .ok (.getfield 283, 3) := by decide +kernel
theorem dX10_word_105 : decode cX10_word 105 = .ok (.iload_n 1, 1) := by decide +kernel
theorem dX10_word_106 : decode cX10_word 106 = .ok (.iaload, 1) := by decide +kernel
theorem dX10_word_107 : decode cX10_word 107 = .ok (.ireturn, 1) := by decide +kernel
theorem dX10_word_108 : decode cX10_word 108 = .ok (.aload_n 0, 1) := by decide +kernel
theorem dX10_word_109 : decode cX10_word 109 = .ok (.getfield 67, 3) := by decide +kernel
theorem dX10_word_112 : decode cX10_word 112 = .ok (.getfield 286, 3) := by decide +kernel
theorem dX10_word_115 : decode cX10_word 115 = .ok (.iload_n 1, 1) := by decide +kernel
theorem dX10_word_116 : decode cX10_word 116 = .ok (.iaload, 1) := by decide +kernel
theorem dX10_word_117 : decode cX10_word 117 = .ok (.ireturn, 1) := by decide +kernel
theorem dX10_word_118 : decode cX10_word 118 = .ok (.aload_n 0, 1) := by decide +kernel
theorem dX10_word_119 : decode cX10_word 119 = .ok (.getfield 67, 3) := by decide +kernel
theorem dX10_word_122 : decode cX10_word 122 = .ok (.getfield 289, 3) := by decide +kernel
theorem dX10_word_125 : decode cX10_word 125 = .ok (.iload_n 1, 1) := by decide +kernel
theorem dX10_word_126 : decode cX10_word 126 = .ok (.iaload, 1) := by decide +kernel
theorem dX10_word_127 : decode cX10_word 127 = .ok (.ireturn, 1) := by decide +kernel
theorem dX10_word_128 : decode cX10_word 128 = .ok (.new 94, 3) := by decide +kernel
theorem dX10_word_131 : decode cX10_word 131 = .ok (.dup, 1) := by decide +kernel
theorem dX10_word_132 : decode cX10_word 132 = .ok (.invokespecial 96, 3) := by decide +kernel
theorem dX10_word_135 : decode cX10_word 135 = .ok (.athrow, 1) := by decide +kernel
theorem dX10_result_0 : decode cX10_result 0 = .ok (.aload_n 0, 1) := by decide +kernel
theorem dX10_result_1 : decode cX10_result 1 = .ok (.invokevirtual 257, 3) := by decide +kernel
theorem dX10_result_4 : decode cX10_result 4 = .ok (.iload_n 1, 1) := by decide +kernel
theorem dX10_result_5 : decode cX10_result 5 = .ok (.tableswitch 98 0 5 #[39, 47, 58, 66, 74, 82], 39) := by decide +kernel
theorem dX10_result_44 : decode cX10_result 44 = .ok (.aload_n 0, 1) := by decide +kernel
theorem dX10_result_45 : decode cX10_result 45 = .ok (.getfield 67, 3) := by decide +kernel
theorem dX10_result_48 : decode cX10_result 48 = .ok (.getfield 271, 3) := by decide +kernel
theorem dX10_result_51 : decode cX10_result 51 = .ok (.ireturn, 1) := by decide +kernel
theorem dX10_result_52 : decode cX10_result 52 = .ok (.aload_n 0, 1) := by decide +kernel
theorem dX10_result_53 : decode cX10_result 53 = .ok (.getfield 67, 3) := by decide +kernel
theorem dX10_result_56 : decode cX10_result 56 = .ok (.getfield 260, 3) := by decide +kernel
theorem dX10_result_59 : decode cX10_result 59 = .ok (.invokevirtual 97, 3) := by decide +kernel
theorem dX10_result_62 : decode cX10_result 62 = .ok (.ireturn, 1) := by decide +kernel
theorem dX10_result_63 : decode cX10_result 63 = .ok (.aload_n 0, 1) := by decide +kernel
theorem dX10_result_64 : decode cX10_result 64 = .ok (.getfield 67, 3) := by decide +kernel
theorem dX10_result_67 : decode cX10_result 67 = .ok (.getfield 292, 3) := by decide +kernel
theorem dX10_result_70 : decode cX10_result 70 = .ok (.ireturn, 1) := by decide +kernel
theorem dX10_result_71 : decode cX10_result 71 = .ok (.aload_n 0, 1) := by decide +kernel
theorem dX10_result_72 : decode cX10_result 72 = .ok (.getfield 67, 3) := by decide +kernel
theorem dX10_result_75 : decode cX10_result 75 = .ok (.getfield 295, 3) := by decide +kernel
theorem dX10_result_78 : decode cX10_result 78 = .ok (.ireturn, 1) := by decide +kernel
theorem dX10_result_79 : decode cX10_result 79 = .ok (.aload_n 0, 1) := by decide +kernel
theorem dX10_result_80 : decode cX10_result 80 = .ok (.getfield 67, 3) := by decide +kernel
theorem dX10_result_83 : decode cX10_result 83 = .ok (.getfield 298, 3) := by decide +kernel
theorem dX10_result_86 : decode cX10_result 86 = .ok (.ireturn, 1) := by decide +kernel
theorem dX10_result_87 : decode cX10_result 87 = .ok (.aload_n 0, 1) := by decide +kernel
theorem dX10_result_88 : decode cX10_result 88 = .ok (.getfield 67, 3) := by decide +kernel
theorem dX10_result_91 : decode cX10_result 91 = .ok (.getfield 301, 3) := by decide +kernel
theorem dX10_result_94 : decode cX10_result 94 = .ok (.ifCond .eq 7, 3) := by decide +kernel
theorem dX10_result_97 : decode cX10_result 97 = .ok (.iconst 1, 1) := by decide +kernel
theorem dX10_result_98 : decode cX10_result 98 = .ok (.goto 4, 3) := by decide +kernel
theorem dX10_result_101 : decode cX10_result 101 = .ok (.iconst 0, 1) := by decide +kernel
theorem dX10_result_102 : decode cX10_result 102 = .ok (.ireturn, 1) := by decide +kernel
theorem dX10_result_103 : decode cX10_result 103 = .ok (.new 94, 3) := by decide +kernel
theorem dX10_result_106 : decode cX10_result 106 = .ok (.dup, 1) := by decide +kernel
theorem dX10_result_107 : decode cX10_result 107 = .ok (.invokespecial 96, 3) := by decide +kernel
theorem dX10_result_110 : decode cX10_result 110 = .ok (.athrow, 1) := by decide +kernel
theorem dX10_firstLost_0 : decode cX10_firstLost 0 = .ok (.aload_n 0, 1) := by decide +kernel
theorem dX10_firstLost_1 : decode cX10_firstLost 1 = .ok (.aload_n 0, 1) := by decide +kernel
theorem dX10_firstLost_2 : decode cX10_firstLost 2 = .ok (.getfield 24, 3) := by decide +kernel
theorem dX10_firstLost_5 : decode cX10_firstLost 5 = .ok (.aload_n 0, 1) := by decide +kernel
theorem dX10_firstLost_6 : decode cX10_firstLost 6 = .ok (.getfield 14, 3) := by decide +kernel
theorem dX10_firstLost_9 : decode cX10_firstLost 9 = .ok (.iconst 0, 1) := by decide +kernel
theorem dX10_firstLost_10 : decode cX10_firstLost 10 = .ok (.invokevirtual 250, 3) := by decide +kernel
theorem dX10_firstLost_13 : decode cX10_firstLost 13 = .ok (.invokevirtual 132, 3) := by decide +kernel
theorem dX10_firstLost_16 : decode cX10_firstLost 16 = .ok (.iconst 0, 1) := by decide +kernel
theorem dX10_firstLost_17 : decode cX10_firstLost 17 = .ok (.istore_n 1, 1) := by decide +kernel
theorem dX10_firstLost_18 : decode cX10_firstLost 18 = .ok (.iconst 0, 1) := by decide +kernel
theorem dX10_firstLost_19 : decode cX10_firstLost 19 = .ok (.istore_n 2, 1) := by decide +kernel
theorem dX10_firstLost_20 : decode cX10_firstLost 20 = .ok (.iconst 0, 1) := by decide +kernel
theorem dX10_firstLost_21 : decode cX10_firstLost 21 = .ok (.istore_n 3, 1) := by decide +kernel
theorem dX10_firstLost_22 : decode cX10_firstLost 22 = .ok (.iload_n 3, 1) := by decide +kernel
theorem dX10_firstLost_23 : decode cX10_firstLost 23 = .ok (.bipush 50, 2) := by decide +kernel
theorem dX10_firstLost_25 : decode cX10_firstLost 25 = .ok (.if_icmp .ge 74, 3) := by decide +kernel
theorem dX10_firstLost_28 : decode cX10_firstLost 28 = .ok (.iload_n 2, 1) := by decide +kernel
theorem dX10_firstLost_29 : decode cX10_firstLost 29 = .ok (.aload_n 0, 1) := by decide +kernel
theorem dX10_firstLost_30 : decode cX10_firstLost 30 = .ok (.getfield 14, 3) := by decide +kernel
theorem dX10_firstLost_33 : decode cX10_firstLost 33 = .ok (.invokevirtual 97, 3) := by decide +kernel
theorem dX10_firstLost_36 : decode cX10_firstLost 36 = .ok (.if_icmp .ge 63, 3) := by decide +kernel
theorem dX10_firstLost_39 : decode cX10_firstLost 39 = .ok (.aload_n 0, 1) := by decide +kernel
theorem dX10_firstLost_40 : decode cX10_firstLost 40 = .ok (.getfield 14, 3) := by decide +kernel
theorem dX10_firstLost_43 : decode cX10_firstLost 43 = .ok (.iload_n 2, 1) := by decide +kernel
theorem dX10_firstLost_44 : decode cX10_firstLost 44 = .ok (.invokevirtual 305, 3) := by decide +kernel
theorem dX10_firstLost_47 : decode cX10_firstLost 47 = .ok (.istore 4, 2) := by decide +kernel
theorem dX10_firstLost_49 : decode cX10_firstLost 49 = .ok (.aload_n 0, 1) := by decide +kernel
theorem dX10_firstLost_50 : decode cX10_firstLost 50 = .ok (.getfield 18, 3) := by decide +kernel
theorem dX10_firstLost_53 : decode cX10_firstLost 53 = .ok (.invokevirtual 125, 3) := by decide +kernel
theorem dX10_firstLost_56 : decode cX10_firstLost 56 = .ok (.aload_n 0, 1) := by decide +kernel
theorem dX10_firstLost_57 : decode cX10_firstLost 57 = .ok (.getfield 18, 3) := by decide +kernel
theorem dX10_firstLost_60 : decode cX10_firstLost 60 = .ok (.aload_n 0, 1) := by decide +kernel
theorem dX10_firstLost_61 : decode cX10_firstLost 61 = .ok (.getfield 14, 3) := by decide +kernel
theorem dX10_firstLost_64 : decode cX10_firstLost 64 = .ok (.iload_n 2, 1) := by decide +kernel
theorem dX10_firstLost_65 : decode cX10_firstLost 65 = .ok (.iload 4, 2) := by decide +kernel
theorem dX10_firstLost_67 : decode cX10_firstLost 67 = .ok (.invokevirtual 267, 3) := by decide +kernel
theorem dX10_firstLost_70 : decode cX10_firstLost 70 = .ok (.aload_n 0, 1) := by decide +kernel
theorem dX10_firstLost_71 : decode cX10_firstLost 71 = .ok (.iload_n 1, 1) := by decide +kernel
theorem dX10_firstLost_72 : decode cX10_firstLost 72 = .ok (.invokevirtual 308, 3) := by decide +kernel
theorem dX10_firstLost_75 : decode cX10_firstLost 75 = .ok (.ifCond .ne 5, 3) := by decide +kernel
theorem dX10_firstLost_78 : decode cX10_firstLost 78 = .ok (.iload_n 3, 1) := by decide +kernel
theorem dX10_firstLost_79 : decode cX10_firstLost 79 = .ok (.ireturn, 1) := by decide +kernel
theorem dX10_firstLost_80 : decode cX10_firstLost 80 = .ok (.aload_n 0, 1) := by decide +kernel
theorem dX10_firstLost_81 : decode cX10_firstLost 81 = .ok (.getfield 18, 3) := by decide +kernel
theorem dX10_firstLost_84 : decode cX10_firstLost 84 = .ok (.invokestatic 311, 3) := by decide +kernel
theorem dX10_firstLost_87 : decode cX10_firstLost 87 = .ok (.istore_n 1, 1) := by decide +kernel
theorem dX10_firstLost_88 : decode cX10_firstLost 88 = .ok (.iload 4, 2) := by decide +kernel
theorem dX10_firstLost_90 : decode cX10_firstLost 90 = .ok (.iconst 1, 1) := by decide +kernel
theorem dX10_firstLost_91 : decode cX10_firstLost 91 = .ok (.iadd, 1) := by decide +kernel
theorem dX10_firstLost_92 : decode cX10_firstLost 92 = .ok (.istore_n 2, 1) := by decide +kernel
theorem dX10_firstLost_93 : decode cX10_firstLost 93 = .ok (.iinc 3 1, 3) := by decide +kernel
theorem dX10_firstLost_96 : decode cX10_firstLost 96 = .ok (.goto (-74), 3) := by decide +kernel
theorem dX10_firstLost_99 : decode cX10_firstLost 99 = .ok (.iconst (-1), 1) := by decide +kernel
theorem dX10_firstLost_100 : decode cX10_firstLost 100 = .ok (.ireturn, 1) := by decide +kernel
theorem dX10_share_0 : decode cX10_share 0 = .ok (.aload_n 0, 1) := by decide +kernel
theorem dX10_share_1 : decode cX10_share 1 = .ok (.invokevirtual 257, 3) := by decide +kernel
theorem dX10_share_4 : decode cX10_share 4 = .ok (.aload_n 0, 1) := by decide +kernel
theorem dX10_share_5 : decode cX10_share 5 = .ok (.getfield 67, 3) := by decide +kernel
theorem dX10_share_8 : decode cX10_share 8 = .ok (.getfield 260, 3) := by decide +kernel
theorem dX10_share_11 : decode cX10_share 11 = .ok (.invokevirtual 97, 3) := by decide +kernel
theorem dX10_share_14 : decode cX10_share 14 = .ok (.i2d, 1) := by decide +kernel
theorem dX10_share_15 : decode cX10_share 15 = .ok (.dstore_n 1, 1) := by decide +kernel
theorem dX10_share_16 : decode cX10_share 16 = .ok (.aload_n 0, 1) := by decide +kernel
theorem dX10_share_17 : decode cX10_share 17 = .ok (.getfield 67, 3) := by decide +kernel
theorem dX10_share_20 : decode cX10_share 20 = .ok (.getfield 292, 3) := by decide +kernel
theorem dX10_share_23 : decode cX10_share 23 = .ok (.i2d, 1) := by decide +kernel
theorem dX10_share_24 : decode cX10_share 24 = .ok (.dstore_n 3, 1) := by decide +kernel
theorem dX10_share_25 : decode cX10_share 25 = .ok (.dload_n 3, 1) := by decide +kernel
theorem dX10_share_26 : decode cX10_share 26 = .ok (.dconst 0, 1) := by decide +kernel
theorem dX10_share_27 : decode cX10_share 27 = .ok (.dcmp .l, 1) := by decide +kernel
theorem dX10_share_28 : decode cX10_share 28 = .ok (.ifCond .le 9, 3) := by decide +kernel
theorem dX10_share_31 : decode cX10_share 31 = .ok (.dload_n 1, 1) := by decide +kernel
theorem dX10_share_32 : decode cX10_share 32 = .ok (.dload_n 3, 1) := by decide +kernel
theorem dX10_share_33 : decode cX10_share 33 = .ok (.ddiv, 1) := by decide +kernel
theorem dX10_share_34 : decode cX10_share 34 = .ok (.goto 4, 3) := by decide +kernel
theorem dX10_share_37 : decode cX10_share 37 = .ok (.dconst 0, 1) := by decide +kernel
theorem dX10_share_38 : decode cX10_share 38 = .ok (.dreturn, 1) := by decide +kernel
theorem dX10_meanPriority_0 : decode cX10_meanPriority 0 = .ok (.aload_n 0, 1) := by decide +kernel
theorem dX10_meanPriority_1 : decode cX10_meanPriority 1 = .ok (.invokevirtual 257, 3) := by decide +kernel
theorem dX10_meanPriority_4 : decode cX10_meanPriority 4 = .ok (.aload_n 0, 1) := by decide +kernel
theorem dX10_meanPriority_5 : decode cX10_meanPriority 5 = .ok (.getfield 67, 3) := by decide +kernel
theorem dX10_meanPriority_8 : decode cX10_meanPriority 8 = .ok (.getfield 295, 3) := by decide +kernel
theorem dX10_meanPriority_11 : decode cX10_meanPriority 11 = .ok (.ifCond .gt 11, 3) := by decide +kernel
theorem dX10_meanPriority_14 : decode cX10_meanPriority 14 = .ok (.new 314, 3) := by decide +kernel
theorem dX10_meanPriority_17 : decode cX10_meanPriority 17 = .ok (.dup, 1) := by decide +kernel
theorem dX10_meanPriority_18 : decode cX10_meanPriority 18 = .ok (.invokespecial 316, 3) := by decide +kernel
theorem dX10_meanPriority_21 : decode cX10_meanPriority 21 = .ok (.athrow, 1) := by decide +kernel
theorem dX10_meanPriority_22 : decode cX10_meanPriority 22 = .ok (.aload_n 0, 1) := by decide +kernel
theorem dX10_meanPriority_23 : decode cX10_meanPriority 23 = .ok (.getfield 67, 3) := by decide +kernel
theorem dX10_meanPriority_26 : decode cX10_meanPriority 26 = .ok (.getfield 317, 3) := by decide +kernel
theorem dX10_meanPriority_29 : decode cX10_meanPriority 29 = .ok (.i2f, 1) := by decide +kernel
theorem dX10_meanPriority_30 : decode cX10_meanPriority 30 = .ok (.aload_n 0, 1) := by decide +kernel
theorem dX10_meanPriority_31 : decode cX10_meanPriority 31 = .ok (.getfield 67, 3) := by decide +kernel
theorem dX10_meanPriority_34 : decode cX10_meanPriority 34 = .ok (.getfield 295, 3) := by decide +kernel
theorem dX10_meanPriority_37 : decode cX10_meanPriority 37 = .ok (.i2f, 1) := by decide +kernel
theorem dX10_meanPriority_38 : decode cX10_meanPriority 38 = .ok (.fdiv, 1) := by decide +kernel
theorem dX10_meanPriority_39 : decode cX10_meanPriority 39 = .ok (.freturn, 1) := by decide +kernel
theorem dX10_storeLengths_0 : decode cX10_storeLengths 0 = .ok (.iload_n 1, 1) := by decide +kernel
theorem dX10_storeLengths_1 : decode cX10_storeLengths 1 = .ok (.invokestatic 320, 3) := by decide +kernel
theorem dX10_storeLengths_4 : decode cX10_storeLengths 4 = .ok (.aload_n 0, 1) := by decide +kernel
theorem dX10_storeLengths_5 : decode cX10_storeLengths 5 = .ok (.invokevirtual 257, 3) := by decide +kernel
theorem dX10_storeLengths_8 : decode cX10_storeLengths 8 = .ok (.aload_n 0, 1) := by decide +kernel
theorem dX10_storeLengths_9 : decode cX10_storeLengths 9 = .ok (.iload_n 1, 1) := by decide +kernel
theorem dX10_storeLengths_10 : decode cX10_storeLengths 10 = .ok (.invokevirtual 323, 3) := by decide +kernel
theorem dX10_storeLengths_13 : decode cX10_storeLengths 13 = .ok (.aload_n 0, 1) := by decide +kernel
theorem dX10_storeLengths_14 : decode cX10_storeLengths 14 = .ok (.getfield 67, 3) := by decide +kernel
theorem dX10_storeLengths_17 : decode cX10_storeLengths 17 = .ok (.iload_n 2, 1) := by decide +kernel
theorem dX10_storeLengths_18 : decode cX10_storeLengths 18 = .ok (.invokevirtual 327, 3) := by decide +kernel
theorem dX10_storeLengths_21 : decode cX10_storeLengths 21 = .ok (.aload_n 0, 1) := by decide +kernel
theorem dX10_storeLengths_22 : decode cX10_storeLengths 22 = .ok (.getfield 67, 3) := by decide +kernel
theorem dX10_storeLengths_25 : decode cX10_storeLengths 25 = .ok (.getfield 271, 3) := by decide +kernel
theorem dX10_storeLengths_28 : decode cX10_storeLengths 28 = .ok (.ireturn, 1) := by decide +kernel
theorem dX10_copyLengths_0 : decode cX10_copyLengths 0 = .ok (.iload_n 1, 1) := by decide +kernel
theorem dX10_copyLengths_1 : decode cX10_copyLengths 1 = .ok (.invokestatic 320, 3) := by decide +kernel
theorem dX10_copyLengths_4 : decode cX10_copyLengths 4 = .ok (.aload_n 0, 1) := by decide +kernel
theorem dX10_copyLengths_5 : decode cX10_copyLengths 5 = .ok (.iload_n 1, 1) := by decide +kernel
theorem dX10_copyLengths_6 : decode cX10_copyLengths 6 = .ok (.invokevirtual 323, 3) := by decide +kernel
theorem dX10_copyLengths_9 : decode cX10_copyLengths 9 = .ok (.astore_n 3, 1) := by decide +kernel
theorem dX10_copyLengths_10 : decode cX10_copyLengths 10 = .ok (.aload_n 0, 1) := by decide +kernel
theorem dX10_copyLengths_11 : decode cX10_copyLengths 11 = .ok (.iconst 1, 1) := by decide +kernel
theorem dX10_copyLengths_12 : decode cX10_copyLengths 12 = .ok (.iload_n 1, 1) := by decide +kernel
theorem dX10_copyLengths_13 : decode cX10_copyLengths 13 = .ok (.isub, 1) := by decide +kernel
theorem dX10_copyLengths_14 : decode cX10_copyLengths 14 = .ok (.invokevirtual 323, 3) := by decide +kernel
theorem dX10_copyLengths_17 : decode cX10_copyLengths 17 = .ok (.astore 4, 2) := by decide +kernel
theorem dX10_copyLengths_19 : decode cX10_copyLengths 19 = .ok (.aload_n 3, 1) := by decide +kernel
theorem dX10_copyLengths_20 : decode cX10_copyLengths 20 = .ok (.getfield 331, 3) := by decide +kernel
theorem dX10_copyLengths_23 : decode cX10_copyLengths 23 = .ok (.ifCond .eq 11, 3) := by decide +kernel
theorem dX10_copyLengths_26 : decode cX10_copyLengths 26 = .ok (.aload 4, 2) := by decide +kernel
theorem dX10_copyLengths_28 : decode cX10_copyLengths 28 = .ok (.getfield 331, 3) := by decide +kernel
theorem dX10_copyLengths_31 : decode cX10_copyLengths 31 = .ok (.ifCond .ne 11, 3) := by decide +kernel
theorem dX10_copyLengths_34 : decode cX10_copyLengths 34 = .ok (.new 193, 3) := by decide +kernel
theorem dX10_copyLengths_37 : decode cX10_copyLengths 37 = .ok (.dup, 1) := by decide +kernel
theorem dX10_copyLengths_38 : decode cX10_copyLengths 38 = .ok (.invokespecial 195, 3) := by decide +kernel
theorem dX10_copyLengths_41 : decode cX10_copyLengths 41 = .ok (.athrow, 1) := by decide +kernel
theorem dX10_copyLengths_42 : decode cX10_copyLengths 42 = .ok (.aload_n 3, 1) := by decide +kernel
theorem dX10_copyLengths_43 : decode cX10_copyLengths 43 = .ok (.getfield 334, 3) := by decide +kernel
theorem dX10_copyLengths_46 : decode cX10_copyLengths 46 = .ok (.aload 4, 2) := by decide +kernel
theorem dX10_copyLengths_48 : decode cX10_copyLengths 48 = .ok (.getfield 334, 3) := by decide +kernel
theorem dX10_copyLengths_51 : decode cX10_copyLengths 51 = .ok (.if_icmp .eq 11, 3) := by decide +kernel
theorem dX10_copyLengths_54 : decode cX10_copyLengths 54 = .ok (.new 101, 3) := by decide +kernel
theorem dX10_copyLengths_57 : decode cX10_copyLengths 57 = .ok (.dup, 1) := by decide +kernel
theorem dX10_copyLengths_58 : decode cX10_copyLengths 58 = .ok (.invokespecial 103, 3) := by decide +kernel
theorem dX10_copyLengths_61 : decode cX10_copyLengths 61 = .ok (.athrow, 1) := by decide +kernel
theorem dX10_copyLengths_62 : decode cX10_copyLengths 62 = .ok (.iload_n 2, 1) := by decide +kernel
theorem dX10_copyLengths_63 : decode cX10_copyLengths 63 = .ok (.ifCond .lt 24, 3) := by decide +kernel
theorem dX10_copyLengths_66 : decode cX10_copyLengths 66 = .ok (.iload_n 2, 1) := by decide +kernel
theorem dX10_copyLengths_67 : decode cX10_copyLengths 67 = .ok (.aload_n 3, 1) := by decide +kernel
theorem dX10_copyLengths_68 : decode cX10_copyLengths 68 = .ok (.getfield 337, 3) := by decide +kernel
theorem dX10_copyLengths_71 : decode cX10_copyLengths 71 = .ok (.if_icmp .gt 16, 3) := by decide +kernel
theorem dX10_copyLengths_74 : decode cX10_copyLengths 74 = .ok (.iload_n 2, 1) := by decide +kernel
theorem dX10_copyLengths_75 : decode cX10_copyLengths 75 = .ok (.aload 4, 2) := by decide +kernel
theorem dX10_copyLengths_77 : decode cX10_copyLengths 77 = .ok (.getfield 337, 3) := by decide +kernel
theorem dX10_copyLengths_80 : decode cX10_copyLengths 80 = .ok (.if_icmp .gt 7, 3) := by decide +kernel
theorem dX10_copyLengths_83 : decode cX10_copyLengths 83 = .ok (.iconst 1, 1) := by decide +kernel
theorem dX10_copyLengths_84 : decode cX10_copyLengths 84 = .ok (.goto 4, 3) := by decide +kernel
theorem dX10_copyLengths_87 : decode cX10_copyLengths 87 = .ok (.iconst 0, 1) := by decide +kernel
theorem dX10_copyLengths_88 : decode cX10_copyLengths 88 = .ok (.invokestatic 152, 3) := by decide +kernel
theorem dX10_copyLengths_91 : decode cX10_copyLengths 91 = .ok (.aload 4, 2) := by decide +kernel
theorem dX10_copyLengths_93 : decode cX10_copyLengths 93 = .ok (.aload_n 3, 1) := by decide +kernel
theorem dX10_copyLengths_94 : decode cX10_copyLengths 94 = .ok (.iload_n 2, 1) := by decide +kernel
theorem dX10_copyLengths_95 : decode cX10_copyLengths 95 = .ok (.invokevirtual 338, 3) := by decide +kernel
theorem dX10_copyLengths_98 : decode cX10_copyLengths 98 = .ok (.ireturn, 1) := by decide +kernel
theorem dX10_storedBits_0 : decode cX10_storedBits 0 = .ok (.iload_n 1, 1) := by decide +kernel
theorem dX10_storedBits_1 : decode cX10_storedBits 1 = .ok (.invokestatic 320, 3) := by decide +kernel
theorem dX10_storedBits_4 : decode cX10_storedBits 4 = .ok (.aload_n 0, 1) := by decide +kernel
theorem dX10_storedBits_5 : decode cX10_storedBits 5 = .ok (.iload_n 1, 1) := by decide +kernel
theorem dX10_storedBits_6 : decode cX10_storedBits 6 = .ok (.invokevirtual 323, 3) := by decide +kernel
theorem dX10_storedBits_9 : decode cX10_storedBits 9 = .ok (.astore_n 3, 1) := by decide +kernel
theorem dX10_storedBits_10 : decode cX10_storedBits 10 = .ok (.aload_n 3, 1) := by decide +kernel
theorem dX10_storedBits_11 : decode cX10_storedBits 11 = .ok (.getfield 331, 3) := by decide +kernel
theorem dX10_storedBits_14 : decode cX10_storedBits 14 = .ok (.ifCond .eq 15, 3) := by decide +kernel
theorem dX10_storedBits_17 : decode cX10_storedBits 17 = .ok (.iload_n 2, 1) := by decide +kernel
theorem dX10_storedBits_18 : decode cX10_storedBits 18 = .ok (.ifCond .lt 11, 3) := by decide +kernel
theorem dX10_storedBits_21 : decode cX10_storedBits 21 = .ok (.iload_n 2, 1) := by decide +kernel
theorem dX10_storedBits_22 : decode cX10_storedBits 22 = .ok (.aload_n 3, 1) := by decide +kernel
theorem dX10_storedBits_23 : decode cX10_storedBits 23 = .ok (.getfield 337, 3) := by decide +kernel
theorem dX10_storedBits_26 : decode cX10_storedBits 26 = .ok (.if_icmp .lt 11, 3) := by decide +kernel
theorem dX10_storedBits_29 : decode cX10_storedBits 29 = .ok (.new 193, 3) := by decide +kernel
theorem dX10_storedBits_32 : decode cX10_storedBits 32 = .ok (.dup, 1) := by decide +kernel
theorem dX10_storedBits_33 : decode cX10_storedBits 33 = .ok (.invokespecial 195, 3) := by decide +kernel
theorem dX10_storedBits_36 : decode cX10_storedBits 36 = .ok (.athrow, 1) := by decide +kernel
theorem dX10_storedBits_37 : decode cX10_storedBits 37 = .ok (.aload_n 3, 1) := by decide +kernel
theorem dX10_storedBits_38 : decode cX10_storedBits 38 = .ok (.iload_n 2, 1) := by decide +kernel
theorem dX10_storedBits_39 : decode cX10_storedBits 39 = .ok (.invokevirtual 342, 3) := by decide +kernel
theorem dX10_storedBits_42 : decode cX10_storedBits 42 = .ok (.invokestatic 346, 3) := by decide +kernel
theorem dX10_storedBits_45 : decode cX10_storedBits 45 = .ok (.ireturn, 1) := by decide +kernel
theorem dX10_undo_0 : decode cX10_undo 0 = .ok (.aload_n 0, 1) := by decide +kernel
theorem dX10_undo_1 : decode cX10_undo 1 = .ok (.getfield 60, 3) := by decide +kernel
theorem dX10_undo_4 : decode cX10_undo 4 = .ok (.getfield 206, 3) := by decide +kernel
theorem dX10_undo_7 : decode cX10_undo 7 = .ok (.ifCond .gt 11, 3) := by decide +kernel
theorem dX10_undo_10 : decode cX10_undo 10 = .ok (.new 135, 3) := by decide +kernel
theorem dX10_undo_13 : decode cX10_undo 13 = .ok (.dup, 1) := by decide +kernel
theorem dX10_undo_14 : decode cX10_undo 14 = .ok (.invokespecial 137, 3) := by decide +kernel
theorem dX10_undo_17 : decode cX10_undo 17 = .ok (.athrow, 1) := by decide +kernel
theorem dX10_undo_18 : decode cX10_undo 18 = .ok (.aload_n 0, 1) := by decide +kernel
theorem dX10_undo_19 : decode cX10_undo 19 = .ok (.getfield 60, 3) := by decide +kernel
theorem dX10_undo_22 : decode cX10_undo 22 = .ok (.aload_n 0, 1) := by decide +kernel
theorem dX10_undo_23 : decode cX10_undo 23 = .ok (.getfield 41, 3) := by decide +kernel
theorem dX10_undo_26 : decode cX10_undo 26 = .ok (.invokevirtual 350, 3) := by decide +kernel
theorem dX10_undo_29 : decode cX10_undo 29 = .ok (.aload_n 0, 1) := by decide +kernel
theorem dX10_undo_30 : decode cX10_undo 30 = .ok (.getfield 60, 3) := by decide +kernel
theorem dX10_undo_33 : decode cX10_undo 33 = .ok (.getfield 206, 3) := by decide +kernel
theorem dX10_undo_36 : decode cX10_undo 36 = .ok (.ireturn, 1) := by decide +kernel
theorem dX10_isReplayed_0 : decode cX10_isReplayed 0 = .ok (.aload_n 0, 1) := by decide +kernel
theorem dX10_isReplayed_1 : decode cX10_isReplayed 1 = .ok (.invokevirtual 354, 3) := by decide +kernel
theorem dX10_isReplayed_4 : decode cX10_isReplayed 4 = .ok (.istore_n 1, 1) := by decide +kernel
theorem dX10_isReplayed_5 : decode cX10_isReplayed 5 = .ok (.aload_n 0, 1) := by decide +kernel
theorem dX10_isReplayed_6 : decode cX10_isReplayed 6 = .ok (.getfield 48, 3) := by decide +kernel
theorem dX10_isReplayed_9 : decode cX10_isReplayed 9 = .ok (.invokevirtual 88, 3) := by decide +kernel
theorem dX10_isReplayed_12 : decode cX10_isReplayed 12 = .ok (.iconst 0, 1) := by decide +kernel
theorem dX10_isReplayed_13 : decode cX10_isReplayed 13 = .ok (.istore_n 2, 1) := by decide +kernel
theorem dX10_isReplayed_14 : decode cX10_isReplayed 14 = .ok (.iload_n 2, 1) := by decide +kernel
theorem dX10_isReplayed_15 : decode cX10_isReplayed 15 = .ok (.iload_n 1, 1) := by decide +kernel
theorem dX10_isReplayed_16 : decode cX10_isReplayed 16 = .ok (.if_icmp .ge 28, 3) := by decide +kernel
theorem dX10_isReplayed_19 : decode cX10_isReplayed 19 = .ok (.aload_n 0, 1) := by decide +kernel
theorem dX10_isReplayed_20 : decode cX10_isReplayed 20 = .ok (.getfield 53, 3) := by decide +kernel
theorem dX10_isReplayed_23 : decode cX10_isReplayed 23 = .ok (.iload_n 2, 1) := by decide +kernel
theorem dX10_isReplayed_24 : decode cX10_isReplayed 24 = .ok (.aaload, 1) := by decide +kernel
theorem dX10_isReplayed_25 : decode cX10_isReplayed 25 = .ok (.astore_n 3, 1) := by decide +kernel
theorem dX10_isReplayed_26 : decode cX10_isReplayed 26 = .ok (.aload_n 3, 1) := by decide +kernel
theorem dX10_isReplayed_27 : decode cX10_isReplayed 27 = .ok (.ifnull 11, 3) := by decide +kernel
theorem dX10_isReplayed_30 : decode cX10_isReplayed 30 = .ok (.aload_n 3, 1) := by decide +kernel
theorem dX10_isReplayed_31 : decode cX10_isReplayed 31 = .ok (.aload_n 0, 1) := by decide +kernel
theorem dX10_isReplayed_32 : decode cX10_isReplayed 32 = .ok (.getfield 48, 3) := by decide +kernel
theorem dX10_isReplayed_35 : decode cX10_isReplayed 35 = .ok (.invokevirtual 357, 3) := by decide +kernel
theorem dX10_isReplayed_38 : decode cX10_isReplayed 38 = .ok (.iinc 2 1, 3) := by decide +kernel
theorem dX10_isReplayed_41 : decode cX10_isReplayed 41 = .ok (.goto (-27), 3) := by decide +kernel
theorem dX10_isReplayed_44 : decode cX10_isReplayed 44 = .ok (.aload_n 0, 1) := by decide +kernel
theorem dX10_isReplayed_45 : decode cX10_isReplayed 45 = .ok (.getfield 48, 3) := by decide +kernel
theorem dX10_isReplayed_48 : decode cX10_isReplayed 48 = .ok (.aload_n 0, 1) := by decide +kernel
theorem dX10_isReplayed_49 : decode cX10_isReplayed 49 = .ok (.getfield 41, 3) := by decide +kernel
theorem dX10_isReplayed_52 : decode cX10_isReplayed 52 = .ok (.invokevirtual 360, 3) := by decide +kernel
theorem dX10_isReplayed_55 : decode cX10_isReplayed 55 = .ok (.ireturn, 1) := by decide +kernel
theorem dX10_snapshot_0 : decode cX10_snapshot 0 = .ok (.aload_n 0, 1) := by decide +kernel
theorem dX10_snapshot_1 : decode cX10_snapshot 1 = .ok (.getfield 45, 3) := by decide +kernel
theorem dX10_snapshot_4 : decode cX10_snapshot 4 = .ok (.aload_n 0, 1) := by decide +kernel
theorem dX10_snapshot_5 : decode cX10_snapshot 5 = .ok (.getfield 41, 3) := by decide +kernel
theorem dX10_snapshot_8 : decode cX10_snapshot 8 = .ok (.invokevirtual 364, 3) := by decide +kernel
theorem dX10_snapshot_11 : decode cX10_snapshot 11 = .ok (.aload_n 0, 1) := by decide +kernel
theorem dX10_snapshot_12 : decode cX10_snapshot 12 = .ok (.iconst 1, 1) := by decide +kernel
theorem dX10_snapshot_13 : decode cX10_snapshot 13 = .ok (.putfield 367, 3) := by decide +kernel
theorem dX10_snapshot_16 : decode cX10_snapshot 16 = .ok (.aload_n 0, 1) := by decide +kernel
theorem dX10_snapshot_17 : decode cX10_snapshot 17 = .ok (.getfield 41, 3) := by decide +kernel
theorem dX10_snapshot_20 : decode cX10_snapshot 20 = .ok (.getfield 85, 3) := by decide +kernel
theorem dX10_snapshot_23 : decode cX10_snapshot 23 = .ok (.ireturn, 1) := by decide +kernel
theorem dX10_restore_0 : decode cX10_restore 0 = .ok (.aload_n 0, 1) := by decide +kernel
theorem dX10_restore_1 : decode cX10_restore 1 = .ok (.getfield 367, 3) := by decide +kernel
theorem dX10_restore_4 : decode cX10_restore 4 = .ok (.ifCond .ne 11, 3) := by decide +kernel
theorem dX10_restore_7 : decode cX10_restore 7 = .ok (.new 135, 3) := by decide +kernel
theorem dX10_restore_10 : decode cX10_restore 10 = .ok (.dup, 1) := by decide +kernel
theorem dX10_restore_11 : decode cX10_restore 11 = .ok (.invokespecial 137, 3) := by decide +kernel
theorem dX10_restore_14 : decode cX10_restore 14 = .ok (.athrow, 1) := by decide +kernel
theorem dX10_restore_15 : decode cX10_restore 15 = .ok (.aload_n 0, 1) := by decide +kernel
theorem dX10_restore_16 : decode cX10_restore 16 = .ok (.getfield 41, 3) := by decide +kernel
theorem dX10_restore_19 : decode cX10_restore 19 = .ok (.aload_n 0, 1) := by decide +kernel
theorem dX10_restore_20 : decode cX10_restore 20 = .ok (.getfield 45, 3) := by decide +kernel
theorem dX10_restore_23 : decode cX10_restore 23 = .ok (.invokevirtual 364, 3) := by decide +kernel
theorem dX10_restore_26 : decode cX10_restore 26 = .ok (.aload_n 0, 1) := by decide +kernel
theorem dX10_restore_27 : decode cX10_restore 27 = .ok (.getfield 60, 3) := by decide +kernel
theorem dX10_restore_30 : decode cX10_restore 30 = .ok (.invokevirtual 91, 3) := by decide +kernel
theorem dX10_restore_33 : decode cX10_restore 33 = .ok (.aload_n 0, 1) := by decide +kernel
theorem dX10_restore_34 : decode cX10_restore 34 = .ok (.getfield 41, 3) := by decide +kernel
theorem dX10_restore_37 : decode cX10_restore 37 = .ok (.getfield 85, 3) := by decide +kernel
theorem dX10_restore_40 : decode cX10_restore 40 = .ok (.ireturn, 1) := by decide +kernel
theorem dX10_requireRule_0 : decode cX10_requireRule 0 = .ok (.iload_n 1, 1) := by decide +kernel
theorem dX10_requireRule_1 : decode cX10_requireRule 1 = .ok (.ifCond .lt 14, 3) := by decide +kernel
theorem dX10_requireRule_4 : decode cX10_requireRule 4 = .ok (.iload_n 1, 1) := by decide +kernel
theorem dX10_requireRule_5 : decode cX10_requireRule 5 = .ok (.aload_n 0, 1) := by decide +kernel
theorem dX10_requireRule_6 : decode cX10_requireRule 6 = .ok (.getfield 41, 3) := by decide +kernel
theorem dX10_requireRule_9 : decode cX10_requireRule 9 = .ok (.getfield 85, 3) := by decide +kernel
theorem dX10_requireRule_12 : decode cX10_requireRule 12 = .ok (.if_icmp .lt 11, 3) := by decide +kernel
theorem dX10_requireRule_15 : decode cX10_requireRule 15 = .ok (.new 118, 3) := by decide +kernel
theorem dX10_requireRule_18 : decode cX10_requireRule 18 = .ok (.dup, 1) := by decide +kernel
theorem dX10_requireRule_19 : decode cX10_requireRule 19 = .ok (.invokespecial 120, 3) := by decide +kernel
theorem dX10_requireRule_22 : decode cX10_requireRule 22 = .ok (.athrow, 1) := by decide +kernel
theorem dX10_requireRule_23 : decode cX10_requireRule 23 = .ok (.return_, 1) := by decide +kernel
theorem dX10_requireArgument_0 : decode cX10_requireArgument 0 = .ok (.iload_n 0, 1) := by decide +kernel
theorem dX10_requireArgument_1 : decode cX10_requireArgument 1 = .ok (.ifCond .ne 11, 3) := by decide +kernel
theorem dX10_requireArgument_4 : decode cX10_requireArgument 4 = .ok (.new 94, 3) := by decide +kernel
theorem dX10_requireArgument_7 : decode cX10_requireArgument 7 = .ok (.dup, 1) := by decide +kernel
theorem dX10_requireArgument_8 : decode cX10_requireArgument 8 = .ok (.invokespecial 96, 3) := by decide +kernel
theorem dX10_requireArgument_11 : decode cX10_requireArgument 11 = .ok (.athrow, 1) := by decide +kernel
theorem dX10_requireArgument_12 : decode cX10_requireArgument 12 = .ok (.return_, 1) := by decide +kernel
theorem dX10_requireRight_0 : decode cX10_requireRight 0 = .ok (.iload_n 1, 1) := by decide +kernel
theorem dX10_requireRight_1 : decode cX10_requireRight 1 = .ok (.ifCond .lt 16, 3) := by decide +kernel
theorem dX10_requireRight_4 : decode cX10_requireRight 4 = .ok (.aload_n 0, 1) := by decide +kernel
theorem dX10_requireRight_5 : decode cX10_requireRight 5 = .ok (.iload_n 1, 1) := by decide +kernel
theorem dX10_requireRight_6 : decode cX10_requireRight 6 = .ok (.putfield 81, 3) := by decide +kernel
theorem dX10_requireRight_9 : decode cX10_requireRight 9 = .ok (.new 94, 3) := by decide +kernel
theorem dX10_requireRight_12 : decode cX10_requireRight 12 = .ok (.dup, 1) := by decide +kernel
theorem dX10_requireRight_13 : decode cX10_requireRight 13 = .ok (.invokespecial 96, 3) := by decide +kernel
theorem dX10_requireRight_16 : decode cX10_requireRight 16 = .ok (.athrow, 1) := by decide +kernel
theorem dX10_requireRight_17 : decode cX10_requireRight 17 = .ok (.return_, 1) := by decide +kernel
theorem dX10_requireResult_0 : decode cX10_requireResult 0 = .ok (.aload_n 0, 1) := by decide +kernel
theorem dX10_requireResult_1 : decode cX10_requireResult 1 = .ok (.getfield 67, 3) := by decide +kernel
theorem dX10_requireResult_4 : decode cX10_requireResult 4 = .ok (.getfield 370, 3) := by decide +kernel
theorem dX10_requireResult_7 : decode cX10_requireResult 7 = .ok (.ifCond .ne 11, 3) := by decide +kernel
theorem dX10_requireResult_10 : decode cX10_requireResult 10 = .ok (.new 135, 3) := by decide +kernel
theorem dX10_requireResult_13 : decode cX10_requireResult 13 = .ok (.dup, 1) := by decide +kernel
theorem dX10_requireResult_14 : decode cX10_requireResult 14 = .ok (.invokespecial 137, 3) := by decide +kernel
theorem dX10_requireResult_17 : decode cX10_requireResult 17 = .ok (.athrow, 1) := by decide +kernel
theorem dX10_requireResult_18 : decode cX10_requireResult 18 = .ok (.return_, 1) := by decide +kernel
theorem dX10_requireRow_0 : decode cX10_requireRow 0 = .ok (.iload_n 0, 1) := by decide +kernel
theorem dX10_requireRow_1 : decode cX10_requireRow 1 = .ok (.ifCond .eq 16, 3) := by decide +kernel
theorem dX10_requireRow_4 : decode cX10_requireRow 4 = .ok (.iload_n 0, 1) := by decide +kernel
theorem dX10_requireRow_5 : decode cX10_requireRow 5 = .ok (.iconst 1, 1) := by decide +kernel
theorem dX10_requireRow_6 : decode cX10_requireRow 6 = .ok (.if_icmp .eq 11, 3) := by decide +kernel
theorem dX10_requireRow_9 : decode cX10_requireRow 9 = .ok (.new 118, 3) := by decide +kernel
theorem dX10_requireRow_12 : decode cX10_requireRow 12 = .ok (.dup, 1) := by decide +kernel
theorem dX10_requireRow_13 : decode cX10_requireRow 13 = .ok (.invokespecial 120, 3) := by decide +kernel
theorem dX10_requireRow_16 : decode cX10_requireRow 16 = .ok (.athrow, 1) := by decide +kernel
theorem dX10_requireRow_17 : decode cX10_requireRow 17 = .ok (.return_, 1) := by decide +kernel
theorem dX10_rowOf_0 : decode cX10_rowOf 0 = .ok (.iload_n 1, 1) := by decide +kernel
theorem dX10_rowOf_1 : decode cX10_rowOf 1 = .ok (.ifCond .ne 10, 3) := by decide +kernel
theorem dX10_rowOf_4 : decode cX10_rowOf 4 = .ok (.aload_n 0, 1) := by decide +kernel
theorem dX10_rowOf_5 : decode cX10_rowOf 5 = .ok (.getfield 74, 3) := by decide +kernel
theorem dX10_rowOf_8 : decode cX10_rowOf 8 = .ok (.goto 7, 3) := by decide +kernel
theorem dX10_rowOf_11 : decode cX10_rowOf 11 = .ok (.aload_n 0, 1) := by decide +kernel
theorem dX10_rowOf_12 : decode cX10_rowOf 12 = .ok (.getfield 78, 3) := by decide +kernel
theorem dX10_rowOf_15 : decode cX10_rowOf 15 = .ok (.areturn, 1) := by decide +kernel
theorem dX10_carryOut_0 : decode cX10_carryOut 0 = .ok (.aload_n 0, 1) := by decide +kernel
theorem dX10_carryOut_1 : decode cX10_carryOut 1 = .ok (.getfield 60, 3) := by decide +kernel
theorem dX10_carryOut_4 : decode cX10_carryOut 4 = .ok (.aload_n 0, 1) := by decide +kernel
theorem dX10_carryOut_5 : decode cX10_carryOut 5 = .ok (.getfield 41, 3) := by decide +kernel
theorem dX10_carryOut_8 : decode cX10_carryOut 8 = .ok (.invokevirtual 373, 3) := by decide +kernel
theorem dX10_carryOut_11 : decode cX10_carryOut 11 = .ok (.aload_n 1, 1) := by decide +kernel
theorem dX10_carryOut_12 : decode cX10_carryOut 12 = .ok (.aload_n 0, 1) := by decide +kernel
theorem dX10_carryOut_13 : decode cX10_carryOut 13 = .ok (.getfield 41, 3) := by decide +kernel
theorem dX10_carryOut_16 : decode cX10_carryOut 16 = .ok (.invokevirtual 357, 3) := by decide +kernel
theorem dX10_carryOut_19 : decode cX10_carryOut 19 = .ok (.aload_n 0, 1) := by decide +kernel
theorem dX10_carryOut_20 : decode cX10_carryOut 20 = .ok (.getfield 41, 3) := by decide +kernel
theorem dX10_carryOut_23 : decode cX10_carryOut 23 = .ok (.aload_n 1, 1) := by decide +kernel
theorem dX10_carryOut_24 : decode cX10_carryOut 24 = .ok (.invokevirtual 376, 3) := by decide +kernel
theorem dX10_carryOut_27 : decode cX10_carryOut 27 = .ok (.return_, 1) := by decide +kernel
theorem dX10_orderCommands_0 : decode cX10_orderCommands 0 = .ok (.aload_n 0, 1) := by decide +kernel
theorem dX10_orderCommands_1 : decode cX10_orderCommands 1 = .ok (.getfield 41, 3) := by decide +kernel
theorem dX10_orderCommands_4 : decode cX10_orderCommands 4 = .ok (.getfield 208, 3) := by decide +kernel
theorem dX10_orderCommands_7 : decode cX10_orderCommands 7 = .ok (.aload_n 0, 1) := by decide +kernel
theorem dX10_orderCommands_8 : decode cX10_orderCommands 8 = .ok (.getfield 53, 3) := by decide +kernel
theorem dX10_orderCommands_11 : decode cX10_orderCommands 11 = .ok (.arraylength, 1) := by decide +kernel
theorem dX10_orderCommands_12 : decode cX10_orderCommands 12 = .ok (.invokestatic 379, 3) := by decide +kernel
theorem dX10_orderCommands_15 : decode cX10_orderCommands 15 = .ok (.istore_n 1, 1) := by decide +kernel
theorem dX10_orderCommands_16 : decode cX10_orderCommands 16 = .ok (.aload_n 0, 1) := by decide +kernel
theorem dX10_orderCommands_17 : decode cX10_orderCommands 17 = .ok (.getfield 41, 3) := by decide +kernel
theorem dX10_orderCommands_20 : decode cX10_orderCommands 20 = .ok (.getfield 138, 3) := by decide +kernel
theorem dX10_orderCommands_23 : decode cX10_orderCommands 23 = .ok (.astore_n 2, 1) := by decide +kernel
theorem dX10_orderCommands_24 : decode cX10_orderCommands 24 = .ok (.iload_n 1, 1) := by decide +kernel
theorem dX10_orderCommands_25 : decode cX10_orderCommands 25 = .ok (.iconst 1, 1) := by decide +kernel
theorem dX10_orderCommands_26 : decode cX10_orderCommands 26 = .ok (.isub, 1) := by decide +kernel
theorem dX10_orderCommands_27 : decode cX10_orderCommands 27 = .ok (.istore_n 3, 1) := by decide +kernel
theorem dX10_orderCommands_28 : decode cX10_orderCommands 28 = .ok (.iload_n 3, 1) := by decide +kernel
theorem dX10_orderCommands_29 : decode cX10_orderCommands 29 = .ok (.ifCond .lt 25, 3) := by decide +kernel
theorem dX10_orderCommands_32 : decode cX10_orderCommands 32 = .ok (.aload_n 2, 1) := by decide +kernel
theorem dX10_orderCommands_33 : decode cX10_orderCommands 33 = .ok (.ifnull 21, 3) := by decide +kernel
theorem dX10_orderCommands_36 : decode cX10_orderCommands 36 = .ok (.aload_n 0, 1) := by decide +kernel
theorem dX10_orderCommands_37 : decode cX10_orderCommands 37 = .ok (.getfield 53, 3) := by decide +kernel
theorem dX10_orderCommands_40 : decode cX10_orderCommands 40 = .ok (.iload_n 3, 1) := by decide +kernel
theorem dX10_orderCommands_41 : decode cX10_orderCommands 41 = .ok (.aload_n 2, 1) := by decide +kernel
theorem dX10_orderCommands_42 : decode cX10_orderCommands 42 = .ok (.aastore, 1) := by decide +kernel
theorem dX10_orderCommands_43 : decode cX10_orderCommands 43 = .ok (.aload_n 2, 1) := by decide +kernel
theorem dX10_orderCommands_44 : decode cX10_orderCommands 44 = .ok (.getfield 385, 3) := by decide +kernel
theorem dX10_orderCommands_47 : decode cX10_orderCommands 47 = .ok (.astore_n 2, 1) := by decide +kernel
theorem dX10_orderCommands_48 : decode cX10_orderCommands 48 = .ok (.iinc 3 (-1), 3) := by decide +kernel
theorem dX10_orderCommands_51 : decode cX10_orderCommands 51 = .ok (.goto (-23), 3) := by decide +kernel
theorem dX10_orderCommands_54 : decode cX10_orderCommands 54 = .ok (.iload_n 1, 1) := by decide +kernel
theorem dX10_orderCommands_55 : decode cX10_orderCommands 55 = .ok (.ireturn, 1) := by decide +kernel
theorem dX10_convert_0 : decode cX10_convert 0 = .ok (.iload_n 1, 1) := by decide +kernel
theorem dX10_convert_1 : decode cX10_convert 1 = .ok (.ifCond .lt 10, 3) := by decide +kernel
theorem dX10_convert_4 : decode cX10_convert 4 = .ok (.aload_n 0, 1) := by decide +kernel
theorem dX10_convert_5 : decode cX10_convert 5 = .ok (.getfield 14, 3) := by decide +kernel
theorem dX10_convert_8 : decode cX10_convert 8 = .ok (.invokevirtual 125, 3) := by decide +kernel
theorem dX10_convert_11 : decode cX10_convert 11 = .ok (.aload_n 0, 1) := by decide +kernel
theorem dX10_convert_12 : decode cX10_convert 12 = .ok (.iload_n 1, 1) := by decide +kernel
theorem dX10_convert_13 : decode cX10_convert 13 = .ok (.invokevirtual 132, 3) := by decide +kernel
theorem dX10_convert_16 : decode cX10_convert 16 = .ok (.aload_n 0, 1) := by decide +kernel
theorem dX10_convert_17 : decode cX10_convert 17 = .ok (.getfield 67, 3) := by decide +kernel
theorem dX10_convert_20 : decode cX10_convert 20 = .ok (.aload_n 0, 1) := by decide +kernel
theorem dX10_convert_21 : decode cX10_convert 21 = .ok (.getfield 14, 3) := by decide +kernel
theorem dX10_convert_24 : decode cX10_convert 24 = .ok (.invokevirtual 97, 3) := by decide +kernel
theorem dX10_convert_27 : decode cX10_convert 27 = .ok (.iload_n 2, 1) := by decide +kernel
theorem dX10_convert_28 : decode cX10_convert 28 = .ok (.invokevirtual 388, 3) := by decide +kernel
theorem dX10_convert_31 : decode cX10_convert 31 = .ok (.iconst 0, 1) := by decide +kernel
theorem dX10_convert_32 : decode cX10_convert 32 = .ok (.istore_n 3, 1) := by decide +kernel
theorem dX10_convert_33 : decode cX10_convert 33 = .ok (.iconst 0, 1) := by decide +kernel
theorem dX10_convert_34 : decode cX10_convert 34 = .ok (.istore 4, 2) := by decide +kernel
theorem dX10_convert_36 : decode cX10_convert 36 = .ok (.iconst 0, 1) := by decide +kernel
theorem dX10_convert_37 : decode cX10_convert 37 = .ok (.istore 5, 2) := by decide +kernel
theorem dX10_convert_39 : decode cX10_convert 39 = .ok (.iload 5, 2) := by decide +kernel
theorem dX10_convert_41 : decode cX10_convert 41 = .ok (.bipush 50, 2) := by decide +kernel
theorem dX10_convert_43 : decode cX10_convert 43 = .ok (.if_icmp .ge 199, 3) := by decide +kernel
theorem dX10_convert_46 : decode cX10_convert 46 = .ok (.iload 4, 2) := by decide +kernel
theorem dX10_convert_48 : decode cX10_convert 48 = .ok (.aload_n 0, 1) := by decide +kernel
theorem dX10_convert_49 : decode cX10_convert 49 = .ok (.getfield 14, 3) := by decide +kernel
theorem dX10_convert_52 : decode cX10_convert 52 = .ok (.invokevirtual 97, 3) := by decide +kernel
theorem dX10_convert_55 : decode cX10_convert 55 = .ok (.if_icmp .ge 187, 3) := by decide +kernel
theorem dX10_convert_58 : decode cX10_convert 58 = .ok (.aload_n 0, 1) := by decide +kernel
theorem dX10_convert_59 : decode cX10_convert 59 = .ok (.getfield 14, 3) := by decide +kernel
theorem dX10_convert_62 : decode cX10_convert 62 = .ok (.iload 4, 2) := by decide +kernel
theorem dX10_convert_64 : decode cX10_convert 64 = .ok (.invokevirtual 263, 3) := by decide +kernel
theorem dX10_convert_67 : decode cX10_convert 67 = .ok (.bipush 39, 2) := by decide +kernel
theorem dX10_convert_69 : decode cX10_convert 69 = .ok (.if_icmp .ne 7, 3) := by decide +kernel
theorem dX10_convert_72 : decode cX10_convert 72 = .ok (.iconst 1, 1) := by decide +kernel
theorem dX10_convert_73 : decode cX10_convert 73 = .ok (.goto 4, 3) := by decide +kernel
theorem dX10_convert_76 : decode cX10_convert 76 = .ok (.iconst 0, 1) := by decide +kernel
theorem dX10_convert_77 : decode cX10_convert 77 = .ok (.istore 6, 2) := by decide +kernel
theorem dX10_convert_79 : decode cX10_convert 79 = .ok (.iload 6, 2) := by decide +kernel
theorem dX10_convert_81 : decode cX10_convert 81 = .ok (.ifCond .eq 10, 3) := by decide +kernel
theorem dX10_convert_84 : decode cX10_convert 84 = .ok (.iload 4, 2) := by decide +kernel
theorem dX10_convert_86 : decode cX10_convert 86 = .ok (.iconst 1, 1) := by decide +kernel
theorem dX10_convert_87 : decode cX10_convert 87 = .ok (.iadd, 1) := by decide +kernel
theorem dX10_convert_88 : decode cX10_convert 88 = .ok (.goto 5, 3) := by decide +kernel
theorem dX10_convert_91 : decode cX10_convert 91 = .ok (.iload 4, 2) := by decide +kernel
theorem dX10_convert_93 : decode cX10_convert 93 = .ok (.istore 7, 2) := by decide +kernel
theorem dX10_convert_95 : decode cX10_convert 95 = .ok (.aload_n 0, 1) := by decide +kernel
theorem dX10_convert_96 : decode cX10_convert 96 = .ok (.getfield 14, 3) := by decide +kernel
theorem dX10_convert_99 : decode cX10_convert 99 = .ok (.iload 7, 2) := by decide +kernel
theorem dX10_convert_101 : decode cX10_convert 101 = .ok (.invokevirtual 305, 3) := by decide +kernel
theorem dX10_convert_104 : decode cX10_convert 104 = .ok (.istore 8, 2) := by decide +kernel
theorem dX10_convert_106 : decode cX10_convert 106 = .ok (.aload_n 0, 1) := by decide +kernel
theorem dX10_convert_107 : decode cX10_convert 107 = .ok (.getfield 18, 3) := by decide +kernel
theorem dX10_convert_110 : decode cX10_convert 110 = .ok (.invokevirtual 125, 3) := by decide +kernel
theorem dX10_convert_113 : decode cX10_convert 113 = .ok (.aload_n 0, 1) := by decide +kernel
theorem dX10_convert_114 : decode cX10_convert 114 = .ok (.getfield 18, 3) := by decide +kernel
theorem dX10_convert_117 : decode cX10_convert 117 = .ok (.aload_n 0, 1) := by decide +kernel
theorem dX10_convert_118 : decode cX10_convert 118 = .ok (.getfield 14, 3) := by decide +kernel
theorem dX10_convert_121 : decode cX10_convert 121 = .ok (.iload 7, 2) := by decide +kernel
theorem dX10_convert_123 : decode cX10_convert 123 = .ok (.iload 8, 2) := by decide +kernel
theorem dX10_convert_125 : decode cX10_convert 125 = .ok (.invokevirtual 267, 3) := by decide +kernel
theorem dX10_convert_128 : decode cX10_convert 128 = .ok (.iload_n 2, 1) := by decide +kernel
theorem dX10_convert_129 : decode cX10_convert 129 = .ok (.ifCond .eq 22, 3) := by decide +kernel
theorem dX10_convert_132 : decode cX10_convert 132 = .ok (.aload_n 0, 1) := by decide +kernel
theorem dX10_convert_133 : decode cX10_convert 133 = .ok (.getfield 31, 3) := by decide +kernel
theorem dX10_convert_136 : decode cX10_convert 136 = .ok (.aload_n 0, 1) := by decide +kernel
theorem dX10_convert_137 : decode cX10_convert 137 = .ok (.getfield 41, 3) := by decide +kernel
theorem dX10_convert_140 : decode cX10_convert 140 = .ok (.aload_n 0, 1) := by decide +kernel
theorem dX10_convert_141 : decode cX10_convert 141 = .ok (.getfield 18, 3) := by decide +kernel
theorem dX10_convert_144 : decode cX10_convert 144 = .ok (.iload_n 3, 1) := by decide +kernel
theorem dX10_convert_145 : decode cX10_convert 145 = .ok (.invokevirtual 392, 3) := by decide +kernel
theorem dX10_convert_148 : decode cX10_convert 148 = .ok (.goto 38, 3) := by decide +kernel
theorem dX10_convert_151 : decode cX10_convert 151 = .ok (.iload 6, 2) := by decide +kernel
theorem dX10_convert_153 : decode cX10_convert 153 = .ok (.ifCond .eq 17, 3) := by decide +kernel
theorem dX10_convert_156 : decode cX10_convert 156 = .ok (.aload_n 0, 1) := by decide +kernel
theorem dX10_convert_157 : decode cX10_convert 157 = .ok (.getfield 31, 3) := by decide +kernel
theorem dX10_convert_160 : decode cX10_convert 160 = .ok (.aload_n 0, 1) := by decide +kernel
theorem dX10_convert_161 : decode cX10_convert 161 = .ok (.getfield 18, 3) := by decide +kernel
theorem dX10_convert_164 : decode cX10_convert 164 = .ok (.invokevirtual 396, 3) := by decide +kernel
theorem dX10_convert_167 : decode cX10_convert 167 = .ok (.goto 19, 3) := by decide +kernel
theorem dX10_convert_170 : decode cX10_convert 170 = .ok (.aload_n 0, 1) := by decide +kernel
theorem dX10_convert_171 : decode cX10_convert 171 = .ok (.getfield 31, 3) := by decide +kernel
theorem dX10_convert_174 : decode cX10_convert 174 = .ok (.aload_n 0, 1) := by decide +kernel
theorem dX10_convert_175 : decode cX10_convert 175 = .ok (.getfield 41, 3) := by decide +kernel
theorem dX10_convert_178 : decode cX10_convert 178 = .ok (.aload_n 0, 1) := by decide +kernel
theorem dX10_convert_179 : decode cX10_convert 179 = .ok (.getfield 18, 3) := by decide +kernel
theorem dX10_convert_182 : decode cX10_convert 182 = .ok (.iload_n 3, 1) := by decide +kernel
theorem dX10_convert_183 : decode cX10_convert 183 = .ok (.invokevirtual 400, 3) := by decide +kernel
theorem dX10_convert_186 : decode cX10_convert 186 = .ok (.aload_n 0, 1) := by decide +kernel
theorem dX10_convert_187 : decode cX10_convert 187 = .ok (.getfield 67, 3) := by decide +kernel
theorem dX10_convert_190 : decode cX10_convert 190 = .ok (.aload_n 0, 1) := by decide +kernel
theorem dX10_convert_191 : decode cX10_convert 191 = .ok (.getfield 31, 3) := by decide +kernel
theorem dX10_convert_194 : decode cX10_convert 194 = .ok (.aload_n 0, 1) := by decide +kernel
theorem dX10_convert_195 : decode cX10_convert 195 = .ok (.getfield 18, 3) := by decide +kernel
theorem dX10_convert_198 : decode cX10_convert 198 = .ok (.invokevirtual 97, 3) := by decide +kernel
theorem dX10_convert_201 : decode cX10_convert 201 = .ok (.aload_n 0, 1) := by decide +kernel
theorem dX10_convert_202 : decode cX10_convert 202 = .ok (.getfield 41, 3) := by decide +kernel
theorem dX10_convert_205 : decode cX10_convert 205 = .ok (.invokevirtual 403, 3) := by decide +kernel
theorem dX10_convert_208 : decode cX10_convert 208 = .ok (.iload_n 2, 1) := by decide +kernel
theorem dX10_convert_209 : decode cX10_convert 209 = .ok (.ifCond .eq 10, 3) := by decide +kernel
theorem dX10_convert_212 : decode cX10_convert 212 = .ok (.aload_n 0, 1) := by decide +kernel
theorem dX10_convert_213 : decode cX10_convert 213 = .ok (.getfield 18, 3) := by decide +kernel
theorem dX10_convert_216 : decode cX10_convert 216 = .ok (.goto 10, 3) := by decide +kernel
theorem dX10_convert_219 : decode cX10_convert 219 = .ok (.aload_n 0, 1) := by decide +kernel
theorem dX10_convert_220 : decode cX10_convert 220 = .ok (.getfield 31, 3) := by decide +kernel
theorem dX10_convert_223 : decode cX10_convert 223 = .ok (.getfield 407, 3) := by decide +kernel
theorem dX10_convert_226 : decode cX10_convert 226 = .ok (.invokestatic 311, 3) := by decide +kernel
theorem dX10_convert_229 : decode cX10_convert 229 = .ok (.istore_n 3, 1) := by decide +kernel
theorem dX10_convert_230 : decode cX10_convert 230 = .ok (.iload 8, 2) := by decide +kernel
theorem dX10_convert_232 : decode cX10_convert 232 = .ok (.iconst 1, 1) := by decide +kernel
theorem dX10_convert_233 : decode cX10_convert 233 = .ok (.iadd, 1) := by decide +kernel
theorem dX10_convert_234 : decode cX10_convert 234 = .ok (.istore 4, 2) := by decide +kernel
theorem dX10_convert_236 : decode cX10_convert 236 = .ok (.iinc 5 1, 3) := by decide +kernel
theorem dX10_convert_239 : decode cX10_convert 239 = .ok (.goto (-200), 3) := by decide +kernel
theorem dX10_convert_242 : decode cX10_convert 242 = .ok (.aload_n 0, 1) := by decide +kernel
theorem dX10_convert_243 : decode cX10_convert 243 = .ok (.getfield 14, 3) := by decide +kernel
theorem dX10_convert_246 : decode cX10_convert 246 = .ok (.invokevirtual 125, 3) := by decide +kernel
theorem dX10_convert_249 : decode cX10_convert 249 = .ok (.aload_n 0, 1) := by decide +kernel
theorem dX10_convert_250 : decode cX10_convert 250 = .ok (.getfield 67, 3) := by decide +kernel
theorem dX10_convert_253 : decode cX10_convert 253 = .ok (.getfield 260, 3) := by decide +kernel
theorem dX10_convert_256 : decode cX10_convert 256 = .ok (.invokevirtual 97, 3) := by decide +kernel
theorem dX10_convert_259 : decode cX10_convert 259 = .ok (.ireturn, 1) := by decide +kernel
theorem dX10_isRestored_0 : decode cX10_isRestored 0 = .ok (.aload_n 0, 1) := by decide +kernel
theorem dX10_isRestored_1 : decode cX10_isRestored 1 = .ok (.getfield 31, 3) := by decide +kernel
theorem dX10_isRestored_4 : decode cX10_isRestored 4 = .ok (.aload_n 0, 1) := by decide +kernel
theorem dX10_isRestored_5 : decode cX10_isRestored 5 = .ok (.getfield 41, 3) := by decide +kernel
theorem dX10_isRestored_8 : decode cX10_isRestored 8 = .ok (.aload_n 0, 1) := by decide +kernel
theorem dX10_isRestored_9 : decode cX10_isRestored 9 = .ok (.getfield 18, 3) := by decide +kernel
theorem dX10_isRestored_12 : decode cX10_isRestored 12 = .ok (.iload_n 1, 1) := by decide +kernel
theorem dX10_isRestored_13 : decode cX10_isRestored 13 = .ok (.invokevirtual 392, 3) := by decide +kernel
theorem dX10_isRestored_16 : decode cX10_isRestored 16 = .ok (.aload_n 0, 1) := by decide +kernel
theorem dX10_isRestored_17 : decode cX10_isRestored 17 = .ok (.getfield 31, 3) := by decide +kernel
theorem dX10_isRestored_20 : decode cX10_isRestored 20 = .ok (.getfield 410, 3) := by decide +kernel
theorem dX10_isRestored_23 : decode cX10_isRestored 23 = .ok (.ifCond .eq 5, 3) := by decide +kernel
theorem dX10_isRestored_26 : decode cX10_isRestored 26 = .ok (.iconst 1, 1) := by decide +kernel
theorem dX10_isRestored_27 : decode cX10_isRestored 27 = .ok (.ireturn, 1) := by decide +kernel
theorem dX10_isRestored_28 : decode cX10_isRestored 28 = .ok (.aload_n 0, 1) := by decide +kernel
theorem dX10_isRestored_29 : decode cX10_isRestored 29 = .ok (.getfield 35, 3) := by decide +kernel
theorem dX10_isRestored_32 : decode cX10_isRestored 32 = .ok (.aload_n 0, 1) := by decide +kernel
theorem dX10_isRestored_33 : decode cX10_isRestored 33 = .ok (.getfield 41, 3) := by decide +kernel
theorem dX10_isRestored_36 : decode cX10_isRestored 36 = .ok (.aload_n 0, 1) := by decide +kernel
theorem dX10_isRestored_37 : decode cX10_isRestored 37 = .ok (.getfield 31, 3) := by decide +kernel
theorem dX10_isRestored_40 : decode cX10_isRestored 40 = .ok (.getfield 407, 3) := by decide +kernel
theorem dX10_isRestored_43 : decode cX10_isRestored 43 = .ok (.iload_n 1, 1) := by decide +kernel
theorem dX10_isRestored_44 : decode cX10_isRestored 44 = .ok (.invokevirtual 400, 3) := by decide +kernel
theorem dX10_isRestored_47 : decode cX10_isRestored 47 = .ok (.aload_n 0, 1) := by decide +kernel
theorem dX10_isRestored_48 : decode cX10_isRestored 48 = .ok (.getfield 35, 3) := by decide +kernel
theorem dX10_isRestored_51 : decode cX10_isRestored 51 = .ok (.getfield 407, 3) := by decide +kernel
theorem dX10_isRestored_54 : decode cX10_isRestored 54 = .ok (.aload_n 0, 1) := by decide +kernel
theorem dX10_isRestored_55 : decode cX10_isRestored 55 = .ok (.getfield 18, 3) := by decide +kernel
theorem dX10_isRestored_58 : decode cX10_isRestored 58 = .ok (.invokevirtual 413, 3) := by decide +kernel
theorem dX10_isRestored_61 : decode cX10_isRestored 61 = .ok (.ireturn, 1) := by decide +kernel
theorem dX10_isKind_0 : decode cX10_isKind 0 = .ok (.iload_n 0, 1) := by decide +kernel
theorem dX10_isKind_1 : decode cX10_isKind 1 = .ok (.ifCond .lt 12, 3) := by decide +kernel
theorem dX10_isKind_4 : decode cX10_isKind 4 = .ok (.iload_n 0, 1) := by decide +kernel
theorem dX10_isKind_5 : decode cX10_isKind 5 = .ok (.iconst 2, 1) := by decide +kernel
theorem dX10_isKind_6 : decode cX10_isKind 6 = .ok (.if_icmp .gt 7, 3) := by decide +kernel
theorem dX10_isKind_9 : decode cX10_isKind 9 = .ok (.iconst 1, 1) := by decide +kernel
theorem dX10_isKind_10 : decode cX10_isKind 10 = .ok (.goto 4, 3) := by decide +kernel
theorem dX10_isKind_13 : decode cX10_isKind 13 = .ok (.iconst 0, 1) := by decide +kernel
theorem dX10_isKind_14 : decode cX10_isKind 14 = .ok (.ireturn, 1) := by decide +kernel
theorem dX10_isPriority_0 : decode cX10_isPriority 0 = .ok (.iload_n 0, 1) := by decide +kernel
theorem dX10_isPriority_1 : decode cX10_isPriority 1 = .ok (.ifCond .lt 13, 3) := by decide +kernel
theorem dX10_isPriority_4 : decode cX10_isPriority 4 = .ok (.iload_n 0, 1) := by decide +kernel
theorem dX10_isPriority_5 : decode cX10_isPriority 5 = .ok (.bipush 99, 2) := by decide +kernel
theorem dX10_isPriority_7 : decode cX10_isPriority 7 = .ok (.if_icmp .gt 7, 3) := by decide +kernel
theorem dX10_isPriority_10 : decode cX10_isPriority 10 = .ok (.iconst 1, 1) := by decide +kernel
theorem dX10_isPriority_11 : decode cX10_isPriority 11 = .ok (.goto 4, 3) := by decide +kernel
theorem dX10_isPriority_14 : decode cX10_isPriority 14 = .ok (.iconst 0, 1) := by decide +kernel
theorem dX10_isPriority_15 : decode cX10_isPriority 15 = .ok (.ireturn, 1) := by decide +kernel
theorem dX10_isContext_0 : decode cX10_isContext 0 = .ok (.iload_n 0, 1) := by decide +kernel
theorem dX10_isContext_1 : decode cX10_isContext 1 = .ok (.ifCond .lt 15, 3) := by decide +kernel
theorem dX10_isContext_4 : decode cX10_isContext 4 = .ok (.iload_n 0, 1) := by decide +kernel
theorem dX10_isContext_5 : decode cX10_isContext 5 = .ok (.getstatic 416, 3) := by decide +kernel
theorem dX10_isContext_8 : decode cX10_isContext 8 = .ok (.arraylength, 1) := by decide +kernel
theorem dX10_isContext_9 : decode cX10_isContext 9 = .ok (.if_icmp .ge 7, 3) := by decide +kernel
theorem dX10_isContext_12 : decode cX10_isContext 12 = .ok (.iconst 1, 1) := by decide +kernel
theorem dX10_isContext_13 : decode cX10_isContext 13 = .ok (.goto 4, 3) := by decide +kernel
theorem dX10_isContext_16 : decode cX10_isContext 16 = .ok (.iconst 0, 1) := by decide +kernel
theorem dX10_isContext_17 : decode cX10_isContext 17 = .ok (.ireturn, 1) := by decide +kernel
theorem dX10_isLetter_0 : decode cX10_isLetter 0 = .ok (.iload_n 0, 1) := by decide +kernel
theorem dX10_isLetter_1 : decode cX10_isLetter 1 = .ok (.bipush 97, 2) := by decide +kernel
theorem dX10_isLetter_3 : decode cX10_isLetter 3 = .ok (.if_icmp .lt 13, 3) := by decide +kernel
theorem dX10_isLetter_6 : decode cX10_isLetter 6 = .ok (.iload_n 0, 1) := by decide +kernel
theorem dX10_isLetter_7 : decode cX10_isLetter 7 = .ok (.bipush 122, 2) := by decide +kernel
theorem dX10_isLetter_9 : decode cX10_isLetter 9 = .ok (.if_icmp .gt 7, 3) := by decide +kernel
theorem dX10_isLetter_12 : decode cX10_isLetter 12 = .ok (.iconst 1, 1) := by decide +kernel
theorem dX10_isLetter_13 : decode cX10_isLetter 13 = .ok (.goto 4, 3) := by decide +kernel
theorem dX10_isLetter_16 : decode cX10_isLetter 16 = .ok (.iconst 0, 1) := by decide +kernel
theorem dX10_isLetter_17 : decode cX10_isLetter 17 = .ok (.ireturn, 1) := by decide +kernel
theorem dX10_isVowel_0 : decode cX10_isVowel 0 = .ok (.iload_n 0, 1) := by decide +kernel
theorem dX10_isVowel_1 : decode cX10_isVowel 1 = .ok (.bipush 97, 2) := by decide +kernel
theorem dX10_isVowel_3 : decode cX10_isVowel 3 = .ok (.if_icmp .eq 27, 3) := by decide +kernel
theorem dX10_isVowel_6 : decode cX10_isVowel 6 = .ok (.iload_n 0, 1) := by decide +kernel
theorem dX10_isVowel_7 : decode cX10_isVowel 7 = .ok (.bipush 101, 2) := by decide +kernel
theorem dX10_isVowel_9 : decode cX10_isVowel 9 = .ok (.if_icmp .eq 21, 3) := by decide +kernel
theorem dX10_isVowel_12 : decode cX10_isVowel 12 = .ok (.iload_n 0, 1) := by decide +kernel
theorem dX10_isVowel_13 : decode cX10_isVowel 13 = .ok (.bipush 105, 2) := by decide +kernel
theorem dX10_isVowel_15 : decode cX10_isVowel 15 = .ok (.if_icmp .eq 15, 3) := by decide +kernel
theorem dX10_isVowel_18 : decode cX10_isVowel 18 = .ok (.iload_n 0, 1) := by decide +kernel
theorem dX10_isVowel_19 : decode cX10_isVowel 19 = .ok (.bipush 111, 2) := by decide +kernel
theorem dX10_isVowel_21 : decode cX10_isVowel 21 = .ok (.if_icmp .eq 9, 3) := by decide +kernel
theorem dX10_isVowel_24 : decode cX10_isVowel 24 = .ok (.iload_n 0, 1) := by decide +kernel
theorem dX10_isVowel_25 : decode cX10_isVowel 25 = .ok (.bipush 117, 2) := by decide +kernel
theorem dX10_isVowel_27 : decode cX10_isVowel 27 = .ok (.if_icmp .ne 7, 3) := by decide +kernel
theorem dX10_isVowel_30 : decode cX10_isVowel 30 = .ok (.iconst 1, 1) := by decide +kernel
theorem dX10_isVowel_31 : decode cX10_isVowel 31 = .ok (.goto 4, 3) := by decide +kernel
theorem dX10_isVowel_34 : decode cX10_isVowel 34 = .ok (.iconst 0, 1) := by decide +kernel
theorem dX10_isVowel_35 : decode cX10_isVowel 35 = .ok (.ireturn, 1) := by decide +kernel
theorem dX10_areForms_0 : decode cX10_areForms 0 = .ok (.iload_n 0, 1) := by decide +kernel
theorem dX10_areForms_1 : decode cX10_areForms 1 = .ok (.iconst 1, 1) := by decide +kernel
theorem dX10_areForms_2 : decode cX10_areForms 2 = .ok (.if_icmp .lt 24, 3) := by decide +kernel
theorem dX10_areForms_5 : decode cX10_areForms 5 = .ok (.iload_n 0, 1) := by decide +kernel
theorem dX10_areForms_6 : decode cX10_areForms 6 = .ok (.bipush 6, 2) := by decide +kernel
theorem dX10_areForms_8 : decode cX10_areForms 8 = .ok (.if_icmp .gt 18, 3) := by decide +kernel
theorem dX10_areForms_11 : decode cX10_areForms 11 = .ok (.iload_n 1, 1) := by decide +kernel
theorem dX10_areForms_12 : decode cX10_areForms 12 = .ok (.bipush 12, 2) := by decide +kernel
theorem dX10_areForms_14 : decode cX10_areForms 14 = .ok (.if_icmp .gt 12, 3) := by decide +kernel
theorem dX10_areForms_17 : decode cX10_areForms 17 = .ok (.iload_n 1, 1) := by decide +kernel
theorem dX10_areForms_18 : decode cX10_areForms 18 = .ok (.iload_n 0, 1) := by decide +kernel
theorem dX10_areForms_19 : decode cX10_areForms 19 = .ok (.if_icmp .le 7, 3) := by decide +kernel
theorem dX10_areForms_22 : decode cX10_areForms 22 = .ok (.iconst 1, 1) := by decide +kernel
theorem dX10_areForms_23 : decode cX10_areForms 23 = .ok (.goto 4, 3) := by decide +kernel
theorem dX10_areForms_26 : decode cX10_areForms 26 = .ok (.iconst 0, 1) := by decide +kernel
theorem dX10_areForms_27 : decode cX10_areForms 27 = .ok (.ireturn, 1) := by decide +kernel
theorem dX10_placeBehind_0 : decode cX10_placeBehind 0 = .ok (.aload_n 0, 1) := by decide +kernel
theorem dX10_placeBehind_1 : decode cX10_placeBehind 1 = .ok (.aload_n 0, 1) := by decide +kernel
theorem dX10_placeBehind_2 : decode cX10_placeBehind 2 = .ok (.invokevirtual 97, 3) := by decide +kernel
theorem dX10_placeBehind_5 : decode cX10_placeBehind 5 = .ok (.iconst 1, 1) := by decide +kernel
theorem dX10_placeBehind_6 : decode cX10_placeBehind 6 = .ok (.isub, 1) := by decide +kernel
theorem dX10_placeBehind_7 : decode cX10_placeBehind 7 = .ok (.invokevirtual 263, 3) := by decide +kernel
theorem dX10_placeBehind_10 : decode cX10_placeBehind 10 = .ok (.invokestatic 419, 3) := by decide +kernel
theorem dX10_placeBehind_13 : decode cX10_placeBehind 13 = .ok (.ifCond .eq 7, 3) := by decide +kernel
theorem dX10_placeBehind_16 : decode cX10_placeBehind 16 = .ok (.iconst 1, 1) := by decide +kernel
theorem dX10_placeBehind_17 : decode cX10_placeBehind 17 = .ok (.goto 4, 3) := by decide +kernel
theorem dX10_placeBehind_20 : decode cX10_placeBehind 20 = .ok (.iconst 2, 1) := by decide +kernel
theorem dX10_placeBehind_21 : decode cX10_placeBehind 21 = .ok (.ireturn, 1) := by decide +kernel
theorem dX10_bitsOf_0 : decode cX10_bitsOf 0 = .ok (.fload_n 0, 1) := by decide +kernel
theorem dX10_bitsOf_1 : decode cX10_bitsOf 1 = .ok (.fconst 0, 1) := by decide +kernel
theorem dX10_bitsOf_2 : decode cX10_bitsOf 2 = .ok (.fcmp .g, 1) := by decide +kernel
theorem dX10_bitsOf_3 : decode cX10_bitsOf 3 = .ok (.ifCond .gt 5, 3) := by decide +kernel
theorem dX10_bitsOf_6 : decode cX10_bitsOf 6 = .ok (.iconst 0, 1) := by decide +kernel
theorem dX10_bitsOf_7 : decode cX10_bitsOf 7 = .ok (.ireturn, 1) := by decide +kernel
theorem dX10_bitsOf_8 : decode cX10_bitsOf 8 = .ok (.fload_n 0, 1) := by decide +kernel
theorem dX10_bitsOf_9 : decode cX10_bitsOf 9 = .ok (.fstore_n 1, 1) := by decide +kernel
theorem dX10_bitsOf_10 : decode cX10_bitsOf 10 = .ok (.bipush 127, 2) := by decide +kernel
theorem dX10_bitsOf_12 : decode cX10_bitsOf 12 = .ok (.istore_n 2, 1) := by decide +kernel
theorem dX10_bitsOf_13 : decode cX10_bitsOf 13 = .ok (.iconst 0, 1) := by decide +kernel
theorem dX10_bitsOf_14 : decode cX10_bitsOf 14 = .ok (.istore_n 3, 1) := by decide +kernel
theorem dX10_bitsOf_15 : decode cX10_bitsOf 15 = .ok (.iload_n 3, 1) := by decide +kernel
theorem dX10_bitsOf_16 : decode cX10_bitsOf 16 = .ok (.sipush 128, 3) := by decide +kernel
theorem dX10_bitsOf_19 : decode cX10_bitsOf 19 = .ok (.if_icmp .ge 22, 3) := by decide +kernel
theorem dX10_bitsOf_22 : decode cX10_bitsOf 22 = .ok (.fload_n 1, 1) := by decide +kernel
theorem dX10_bitsOf_23 : decode cX10_bitsOf 23 = .ok (.fconst 2, 1) := by decide +kernel
theorem dX10_bitsOf_24 : decode cX10_bitsOf 24 = .ok (.fcmp .l, 1) := by decide +kernel
theorem dX10_bitsOf_25 : decode cX10_bitsOf 25 = .ok (.ifCond .lt 16, 3) := by decide +kernel
theorem dX10_bitsOf_28 : decode cX10_bitsOf 28 = .ok (.fload_n 1, 1) := by decide +kernel
theorem dX10_bitsOf_29 : decode cX10_bitsOf 29 = .ok (.fconst 2, 1) := by decide +kernel
theorem dX10_bitsOf_30 : decode cX10_bitsOf 30 = .ok (.fdiv, 1) := by decide +kernel
theorem dX10_bitsOf_31 : decode cX10_bitsOf 31 = .ok (.fstore_n 1, 1) := by decide +kernel
theorem dX10_bitsOf_32 : decode cX10_bitsOf 32 = .ok (.iinc 2 1, 3) := by decide +kernel
theorem dX10_bitsOf_35 : decode cX10_bitsOf 35 = .ok (.iinc 3 1, 3) := by decide +kernel
theorem dX10_bitsOf_38 : decode cX10_bitsOf 38 = .ok (.goto (-23), 3) := by decide +kernel
theorem dX10_bitsOf_41 : decode cX10_bitsOf 41 = .ok (.iconst 0, 1) := by decide +kernel
theorem dX10_bitsOf_42 : decode cX10_bitsOf 42 = .ok (.istore_n 3, 1) := by decide +kernel
theorem dX10_bitsOf_43 : decode cX10_bitsOf 43 = .ok (.iload_n 3, 1) := by decide +kernel
theorem dX10_bitsOf_44 : decode cX10_bitsOf 44 = .ok (.bipush 126, 2) := by decide +kernel
theorem dX10_bitsOf_46 : decode cX10_bitsOf 46 = .ok (.if_icmp .ge 22, 3) := by decide +kernel
theorem dX10_bitsOf_49 : decode cX10_bitsOf 49 = .ok (.fload_n 1, 1) := by decide +kernel
theorem dX10_bitsOf_50 : decode cX10_bitsOf 50 = .ok (.fconst 1, 1) := by decide +kernel
theorem dX10_bitsOf_51 : decode cX10_bitsOf 51 = .ok (.fcmp .g, 1) := by decide +kernel
theorem dX10_bitsOf_52 : decode cX10_bitsOf 52 = .ok (.ifCond .ge 16, 3) := by decide +kernel
theorem dX10_bitsOf_55 : decode cX10_bitsOf 55 = .ok (.fload_n 1, 1) := by decide +kernel
theorem dX10_bitsOf_56 : decode cX10_bitsOf 56 = .ok (.fconst 2, 1) := by decide +kernel
theorem dX10_bitsOf_57 : decode cX10_bitsOf 57 = .ok (.fmul, 1) := by decide +kernel
theorem dX10_bitsOf_58 : decode cX10_bitsOf 58 = .ok (.fstore_n 1, 1) := by decide +kernel
theorem dX10_bitsOf_59 : decode cX10_bitsOf 59 = .ok (.iinc 2 (-1), 3) := by decide +kernel
theorem dX10_bitsOf_62 : decode cX10_bitsOf 62 = .ok (.iinc 3 1, 3) := by decide +kernel
theorem dX10_bitsOf_65 : decode cX10_bitsOf 65 = .ok (.goto (-22), 3) := by decide +kernel
theorem dX10_bitsOf_68 : decode cX10_bitsOf 68 = .ok (.iload_n 2, 1) := by decide +kernel
theorem dX10_bitsOf_69 : decode cX10_bitsOf 69 = .ok (.bipush 23, 2) := by decide +kernel
theorem dX10_bitsOf_71 : decode cX10_bitsOf 71 = .ok (.ishl, 1) := by decide +kernel
theorem dX10_bitsOf_72 : decode cX10_bitsOf 72 = .ok (.fload_n 1, 1) := by decide +kernel
theorem dX10_bitsOf_73 : decode cX10_bitsOf 73 = .ok (.fconst 1, 1) := by decide +kernel
theorem dX10_bitsOf_74 : decode cX10_bitsOf 74 = .ok (.fsub, 1) := by decide +kernel
theorem dX10_bitsOf_75 : decode cX10_bitsOf 75 = .ok (.ldc_w 422, 3) := by decide +kernel
theorem dX10_bitsOf_78 : decode cX10_bitsOf 78 = .ok (.fmul, 1) := by decide +kernel
theorem dX10_bitsOf_79 : decode cX10_bitsOf 79 = .ok (.f2i, 1) := by decide +kernel
theorem dX10_bitsOf_80 : decode cX10_bitsOf 80 = .ok (.ior, 1) := by decide +kernel
theorem dX10_bitsOf_81 : decode cX10_bitsOf 81 = .ok (.ireturn, 1) := by decide +kernel
