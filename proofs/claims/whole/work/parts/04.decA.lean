theorem dX0_init_0 : decode cX0_init 0 = .ok (.aload_n 0, 1) := by decide +kernel
theorem dX0_init_1 : decode cX0_init 1 = .ok (.invokespecial 3, 3) := by decide +kernel
theorem dX0_init_4 : decode cX0_init 4 = .ok (.aload_n 0, 1) := by decide +kernel
theorem dX0_init_5 : decode cX0_init 5 = .ok (.bipush 24, 2) := by decide +kernel
theorem dX0_init_7 : decode cX0_init 7 = .ok (.newarray .int, 2) := by decide +kernel
theorem dX0_init_9 : decode cX0_init 9 = .ok (.putfield 9, 3) := by decide +kernel
theorem dX0_init_12 : decode cX0_init 12 = .ok (.aload_n 0, 1) := by decide +kernel
theorem dX0_init_13 : decode cX0_init 13 = .ok (.bipush 24, 2) := by decide +kernel
theorem dX0_init_15 : decode cX0_init 15 = .ok (.newarray .int, 2) := by decide +kernel
theorem dX0_init_17 : decode cX0_init 17 = .ok (.putfield 15, 3) := by decide +kernel
theorem dX0_init_20 : decode cX0_init 20 = .ok (.aload_n 0, 1) := by decide +kernel
theorem dX0_init_21 : decode cX0_init 21 = .ok (.bipush 24, 2) := by decide +kernel
theorem dX0_init_23 : decode cX0_init 23 = .ok (.newarray .int, 2) := by decide +kernel
theorem dX0_init_25 : decode cX0_init 25 = .ok (.putfield 18, 3) := by decide +kernel
theorem dX0_init_28 : decode cX0_init 28 = .ok (.aload_n 0, 1) := by decide +kernel
theorem dX0_init_29 : decode cX0_init 29 = .ok (.bipush 24, 2) := by decide +kernel
theorem dX0_init_31 : decode cX0_init 31 = .ok (.newarray .long, 2) := by decide +kernel
theorem dX0_init_33 : decode cX0_init 33 = .ok (.putfield 21, 3) := by decide +kernel
theorem dX0_init_36 : decode cX0_init 36 = .ok (.aload_n 0, 1) := by decide +kernel
theorem dX0_init_37 : decode cX0_init 37 = .ok (.bipush 24, 2) := by decide +kernel
theorem dX0_init_39 : decode cX0_init 39 = .ok (.newarray .long, 2) := by decide +kernel
theorem dX0_init_41 : decode cX0_init 41 = .ok (.putfield 25, 3) := by decide +kernel
theorem dX0_init_44 : decode cX0_init 44 = .ok (.aload_n 0, 1) := by decide +kernel
theorem dX0_init_45 : decode cX0_init 45 = .ok (.bipush 30, 2) := by decide +kernel
theorem dX0_init_47 : decode cX0_init 47 = .ok (.newarray .int, 2) := by decide +kernel
theorem dX0_init_49 : decode cX0_init 49 = .ok (.putfield 28, 3) := by decide +kernel
theorem dX0_init_52 : decode cX0_init 52 = .ok (.aload_n 0, 1) := by decide +kernel
theorem dX0_init_53 : decode cX0_init 53 = .ok (.bipush 30, 2) := by decide +kernel
theorem dX0_init_55 : decode cX0_init 55 = .ok (.newarray .long, 2) := by decide +kernel
theorem dX0_init_57 : decode cX0_init 57 = .ok (.putfield 31, 3) := by decide +kernel
theorem dX0_init_60 : decode cX0_init 60 = .ok (.aload_n 0, 1) := by decide +kernel
theorem dX0_init_61 : decode cX0_init 61 = .ok (.bipush 30, 2) := by decide +kernel
theorem dX0_init_63 : decode cX0_init 63 = .ok (.newarray .long, 2) := by decide +kernel
theorem dX0_init_65 : decode cX0_init 65 = .ok (.putfield 34, 3) := by decide +kernel
theorem dX0_init_68 : decode cX0_init 68 = .ok (.aload_n 0, 1) := by decide +kernel
theorem dX0_init_69 : decode cX0_init 69 = .ok (.iconst 1, 1) := by decide +kernel
theorem dX0_init_70 : decode cX0_init 70 = .ok (.putfield 37, 3) := by decide +kernel
theorem dX0_init_73 : decode cX0_init 73 = .ok (.aload_n 0, 1) := by decide +kernel
theorem dX0_init_74 : decode cX0_init 74 = .ok (.iconst 2, 1) := by decide +kernel
theorem dX0_init_75 : decode cX0_init 75 = .ok (.putfield 41, 3) := by decide +kernel
theorem dX0_init_78 : decode cX0_init 78 = .ok (.return_, 1) := by decide +kernel
theorem dX0_startAgain_0 : decode cX0_startAgain 0 = .ok (.aload_n 0, 1) := by decide +kernel
theorem dX0_startAgain_1 : decode cX0_startAgain 1 = .ok (.iconst 0, 1) := by decide +kernel
theorem dX0_startAgain_2 : decode cX0_startAgain 2 = .ok (.putfield 44, 3) := by decide +kernel
theorem dX0_startAgain_5 : decode cX0_startAgain 5 = .ok (.aload_n 0, 1) := by decide +kernel
theorem dX0_startAgain_6 : decode cX0_startAgain 6 = .ok (.iconst 0, 1) := by decide +kernel
theorem dX0_startAgain_7 : decode cX0_startAgain 7 = .ok (.putfield 47, 3) := by decide +kernel
theorem dX0_startAgain_10 : decode cX0_startAgain 10 = .ok (.aload_n 0, 1) := by decide +kernel
theorem dX0_startAgain_11 : decode cX0_startAgain 11 = .ok (.iconst 1, 1) := by decide +kernel
theorem dX0_startAgain_12 : decode cX0_startAgain 12 = .ok (.putfield 37, 3) := by decide +kernel
theorem dX0_startAgain_15 : decode cX0_startAgain 15 = .ok (.aload_n 0, 1) := by decide +kernel
theorem dX0_startAgain_16 : decode cX0_startAgain 16 = .ok (.iconst 2, 1) := by decide +kernel
theorem dX0_startAgain_17 : decode cX0_startAgain 17 = .ok (.putfield 41, 3) := by decide +kernel
theorem dX0_startAgain_20 : decode cX0_startAgain 20 = .ok (.aload_n 0, 1) := by decide +kernel
theorem dX0_startAgain_21 : decode cX0_startAgain 21 = .ok (.aconst_null, 1) := by decide +kernel
theorem dX0_startAgain_22 : decode cX0_startAgain 22 = .ok (.putfield 50, 3) := by decide +kernel
theorem dX0_startAgain_25 : decode cX0_startAgain 25 = .ok (.aload_n 0, 1) := by decide +kernel
theorem dX0_startAgain_26 : decode cX0_startAgain 26 = .ok (.iconst 0, 1) := by decide +kernel
theorem dX0_startAgain_27 : decode cX0_startAgain 27 = .ok (.putfield 54, 3) := by decide +kernel
theorem dX0_startAgain_30 : decode cX0_startAgain 30 = .ok (.return_, 1) := by decide +kernel
theorem dX0_note_0 : decode cX0_note 0 = .ok (.aload_n 0, 1) := by decide +kernel
theorem dX0_note_1 : decode cX0_note 1 = .ok (.getfield 54, 3) := by decide +kernel
theorem dX0_note_4 : decode cX0_note 4 = .ok (.sipush 512, 3) := by decide +kernel
theorem dX0_note_7 : decode cX0_note 7 = .ok (.if_icmp .ge 18, 3) := by decide +kernel
theorem dX0_note_10 : decode cX0_note 10 = .ok (.aload_n 0, 1) := by decide +kernel
theorem dX0_note_11 : decode cX0_note 11 = .ok (.aload_n 1, 1) := by decide +kernel
theorem dX0_note_12 : decode cX0_note 12 = .ok (.putfield 50, 3) := by decide +kernel
theorem dX0_note_15 : decode cX0_note 15 = .ok (.aload_n 0, 1) := by decide +kernel
theorem dX0_note_16 : decode cX0_note 16 = .ok (.dup, 1) := by decide +kernel
theorem dX0_note_17 : decode cX0_note 17 = .ok (.getfield 54, 3) := by decide +kernel
theorem dX0_note_20 : decode cX0_note 20 = .ok (.iconst 1, 1) := by decide +kernel
theorem dX0_note_21 : decode cX0_note 21 = .ok (.iadd, 1) := by decide +kernel
theorem dX0_note_22 : decode cX0_note 22 = .ok (.putfield 54, 3) := by decide +kernel
theorem dX0_note_25 : decode cX0_note 25 = .ok (.return_, 1) := by decide +kernel
theorem dX0_copyFrom_0 : decode cX0_copyFrom 0 = .ok (.aload_n 1, 1) := by decide +kernel
theorem dX0_copyFrom_1 : decode cX0_copyFrom 1 = .ok (.getfield 9, 3) := by decide +kernel
theorem dX0_copyFrom_4 : decode cX0_copyFrom 4 = .ok (.iconst 0, 1) := by decide +kernel
theorem dX0_copyFrom_5 : decode cX0_copyFrom 5 = .ok (.aload_n 0, 1) := by decide +kernel
theorem dX0_copyFrom_6 : decode cX0_copyFrom 6 = .ok (.getfield 9, 3) := by decide +kernel
theorem dX0_copyFrom_9 : decode cX0_copyFrom 9 = .ok (.iconst 0, 1) := by decide +kernel
theorem dX0_copyFrom_10 : decode cX0_copyFrom 10 = .ok (.bipush 24, 2) := by decide +kernel
theorem dX0_copyFrom_12 : decode cX0_copyFrom 12 = .ok (.invokestatic 57, 3) := by decide +kernel
theorem dX0_copyFrom_15 : decode cX0_copyFrom 15 = .ok (.aload_n 1, 1) := by decide +kernel
theorem dX0_copyFrom_16 : decode cX0_copyFrom 16 = .ok (.getfield 15, 3) := by decide +kernel
theorem dX0_copyFrom_19 : decode cX0_copyFrom 19 = .ok (.iconst 0, 1) := by decide +kernel
theorem dX0_copyFrom_20 : decode cX0_copyFrom 20 = .ok (.aload_n 0, 1) := by decide +kernel
theorem dX0_copyFrom_21 : decode cX0_copyFrom 21 = .ok (.getfield 15, 3) := by decide +kernel
theorem dX0_copyFrom_24 : decode cX0_copyFrom 24 = .ok (.iconst 0, 1) := by decide +kernel
theorem dX0_copyFrom_25 : decode cX0_copyFrom 25 = .ok (.bipush 24, 2) := by decide +kernel
theorem dX0_copyFrom_27 : decode cX0_copyFrom 27 = .ok (.invokestatic 57, 3) := by decide +kernel
theorem dX0_copyFrom_30 : decode cX0_copyFrom 30 = .ok (.aload_n 1, 1) := by decide +kernel
theorem dX0_copyFrom_31 : decode cX0_copyFrom 31 = .ok (.getfield 18, 3) := by decide +kernel
theorem dX0_copyFrom_34 : decode cX0_copyFrom 34 = .ok (.iconst 0, 1) := by decide +kernel
theorem dX0_copyFrom_35 : decode cX0_copyFrom 35 = .ok (.aload_n 0, 1) := by decide +kernel
theorem dX0_copyFrom_36 : decode cX0_copyFrom 36 = .ok (.getfield 18, 3) := by decide +kernel
theorem dX0_copyFrom_39 : decode cX0_copyFrom 39 = .ok (.iconst 0, 1) := by decide +kernel
theorem dX0_copyFrom_40 : decode cX0_copyFrom 40 = .ok (.bipush 24, 2) := by decide +kernel
theorem dX0_copyFrom_42 : decode cX0_copyFrom 42 = .ok (.invokestatic 57, 3) := by decide +kernel
theorem dX0_copyFrom_45 : decode cX0_copyFrom 45 = .ok (.aload_n 1, 1) := by decide +kernel
theorem dX0_copyFrom_46 : decode cX0_copyFrom 46 = .ok (.getfield 21, 3) := by decide +kernel
theorem dX0_copyFrom_49 : decode cX0_copyFrom 49 = .ok (.iconst 0, 1) := by decide +kernel
theorem dX0_copyFrom_50 : decode cX0_copyFrom 50 = .ok (.aload_n 0, 1) := by decide +kernel
theorem dX0_copyFrom_51 : decode cX0_copyFrom 51 = .ok (.getfield 21, 3) := by decide +kernel
theorem dX0_copyFrom_54 : decode cX0_copyFrom 54 = .ok (.iconst 0, 1) := by decide +kernel
theorem dX0_copyFrom_55 : decode cX0_copyFrom 55 = .ok (.bipush 24, 2) := by decide +kernel
theorem dX0_copyFrom_57 : decode cX0_copyFrom 57 = .ok (.invokestatic 57, 3) := by decide +kernel
theorem dX0_copyFrom_60 : decode cX0_copyFrom 60 = .ok (.aload_n 1, 1) := by decide +kernel
theorem dX0_copyFrom_61 : decode cX0_copyFrom 61 = .ok (.getfield 25, 3) := by decide +kernel
theorem dX0_copyFrom_64 : decode cX0_copyFrom 64 = .ok (.iconst 0, 1) := by decide +kernel
theorem dX0_copyFrom_65 : decode cX0_copyFrom 65 = .ok (.aload_n 0, 1) := by decide +kernel
theorem dX0_copyFrom_66 : decode cX0_copyFrom 66 = .ok (.getfield 25, 3) := by decide +kernel
theorem dX0_copyFrom_69 : decode cX0_copyFrom 69 = .ok (.iconst 0, 1) := by decide +kernel
theorem dX0_copyFrom_70 : decode cX0_copyFrom 70 = .ok (.bipush 24, 2) := by decide +kernel
theorem dX0_copyFrom_72 : decode cX0_copyFrom 72 = .ok (.invokestatic 57, 3) := by decide +kernel
theorem dX0_copyFrom_75 : decode cX0_copyFrom 75 = .ok (.aload_n 0, 1) := by decide +kernel
theorem dX0_copyFrom_76 : decode cX0_copyFrom 76 = .ok (.aload_n 1, 1) := by decide +kernel
theorem dX0_copyFrom_77 : decode cX0_copyFrom 77 = .ok (.getfield 44, 3) := by decide +kernel
theorem dX0_copyFrom_80 : decode cX0_copyFrom 80 = .ok (.putfield 44, 3) := by decide +kernel
theorem dX0_copyFrom_83 : decode cX0_copyFrom 83 = .ok (.aload_n 1, 1) := by decide +kernel
theorem dX0_copyFrom_84 : decode cX0_copyFrom 84 = .ok (.getfield 28, 3) := by decide +kernel
theorem dX0_copyFrom_87 : decode cX0_copyFrom 87 = .ok (.iconst 0, 1) := by decide +kernel
theorem dX0_copyFrom_88 : decode cX0_copyFrom 88 = .ok (.aload_n 0, 1) := by decide +kernel
theorem dX0_copyFrom_89 : decode cX0_copyFrom 89 = .ok (.getfield 28, 3) := by decide +kernel
theorem dX0_copyFrom_92 : decode cX0_copyFrom 92 = .ok (.iconst 0, 1) := by decide +kernel
theorem dX0_copyFrom_93 : decode cX0_copyFrom 93 = .ok (.bipush 30, 2) := by decide +kernel
theorem dX0_copyFrom_95 : decode cX0_copyFrom 95 = .ok (.invokestatic 57, 3) := by decide +kernel
theorem dX0_copyFrom_98 : decode cX0_copyFrom 98 = .ok (.aload_n 1, 1) := by decide +kernel
theorem dX0_copyFrom_99 : decode cX0_copyFrom 99 = .ok (.getfield 31, 3) := by decide +kernel
theorem dX0_copyFrom_102 : decode cX0_copyFrom 102 = .ok (.iconst 0, 1) := by decide +kernel
theorem dX0_copyFrom_103 : decode cX0_copyFrom 103 = .ok (.aload_n 0, 1) := by decide +kernel
theorem dX0_copyFrom_104 : decode cX0_copyFrom 104 = .ok (.getfield 31, 3) := by decide +kernel
theorem dX0_copyFrom_107 : decode cX0_copyFrom 107 = .ok (.iconst 0, 1) := by decide +kernel
theorem dX0_copyFrom_108 : decode cX0_copyFrom 108 = .ok (.bipush 30, 2) := by decide +kernel
theorem dX0_copyFrom_110 : decode cX0_copyFrom 110 = .ok (.invokestatic 57, 3) := by decide +kernel
theorem dX0_copyFrom_113 : decode cX0_copyFrom 113 = .ok (.aload_n 1, 1) := by decide +kernel
theorem dX0_copyFrom_114 : decode cX0_copyFrom 114 = .ok (.getfield 34, 3) := by decide +kernel
theorem dX0_copyFrom_117 : decode cX0_copyFrom 117 = .ok (.iconst 0, 1) := by decide +kernel
theorem dX0_copyFrom_118 : decode cX0_copyFrom 118 = .ok (.aload_n 0, 1) := by decide +kernel
theorem dX0_copyFrom_119 : decode cX0_copyFrom 119 = .ok (.getfield 34, 3) := by decide +kernel
theorem dX0_copyFrom_122 : decode cX0_copyFrom 122 = .ok (.iconst 0, 1) := by decide +kernel
theorem dX0_copyFrom_123 : decode cX0_copyFrom 123 = .ok (.bipush 30, 2) := by decide +kernel
theorem dX0_copyFrom_125 : decode cX0_copyFrom 125 = .ok (.invokestatic 57, 3) := by decide +kernel
theorem dX0_copyFrom_128 : decode cX0_copyFrom 128 = .ok (.aload_n 0, 1) := by decide +kernel
theorem dX0_copyFrom_129 : decode cX0_copyFrom 129 = .ok (.aload_n 1, 1) := by decide +kernel
theorem dX0_copyFrom_130 : decode cX0_copyFrom 130 = .ok (.getfield 47, 3) := by decide +kernel
theorem dX0_copyFrom_133 : decode cX0_copyFrom 133 = .ok (.putfield 47, 3) := by decide +kernel
theorem dX0_copyFrom_136 : decode cX0_copyFrom 136 = .ok (.aload_n 0, 1) := by decide +kernel
theorem dX0_copyFrom_137 : decode cX0_copyFrom 137 = .ok (.aload_n 1, 1) := by decide +kernel
theorem dX0_copyFrom_138 : decode cX0_copyFrom 138 = .ok (.getfield 37, 3) := by decide +kernel
theorem dX0_copyFrom_141 : decode cX0_copyFrom 141 = .ok (.putfield 37, 3) := by decide +kernel
theorem dX0_copyFrom_144 : decode cX0_copyFrom 144 = .ok (.aload_n 0, 1) := by decide +kernel
theorem dX0_copyFrom_145 : decode cX0_copyFrom 145 = .ok (.aload_n 1, 1) := by decide +kernel
theorem dX0_copyFrom_146 : decode cX0_copyFrom 146 = .ok (.getfield 41, 3) := by decide +kernel
theorem dX0_copyFrom_149 : decode cX0_copyFrom 149 = .ok (.putfield 41, 3) := by decide +kernel
theorem dX0_copyFrom_152 : decode cX0_copyFrom 152 = .ok (.aload_n 0, 1) := by decide +kernel
theorem dX0_copyFrom_153 : decode cX0_copyFrom 153 = .ok (.aload_n 1, 1) := by decide +kernel
theorem dX0_copyFrom_154 : decode cX0_copyFrom 154 = .ok (.getfield 50, 3) := by decide +kernel
theorem dX0_copyFrom_157 : decode cX0_copyFrom 157 = .ok (.putfield 50, 3) := by decide +kernel
theorem dX0_copyFrom_160 : decode cX0_copyFrom 160 = .ok (.aload_n 0, 1) := by decide +kernel
theorem dX0_copyFrom_161 : decode cX0_copyFrom 161 = .ok (.aload_n 1, 1) := by decide +kernel
theorem dX0_copyFrom_162 : decode cX0_copyFrom 162 = .ok (.getfield 54, 3) := by decide +kernel
theorem dX0_copyFrom_165 : decode cX0_copyFrom 165 = .ok (.putfield 54, 3) := by decide +kernel
theorem dX0_copyFrom_168 : decode cX0_copyFrom 168 = .ok (.return_, 1) := by decide +kernel
theorem dX0_sameAs_0 : decode cX0_sameAs 0 = .ok (.aload_n 0, 1) := by decide +kernel
theorem dX0_sameAs_1 : decode cX0_sameAs 1 = .ok (.getfield 44, 3) := by decide +kernel
theorem dX0_sameAs_4 : decode cX0_sameAs 4 = .ok (.aload_n 1, 1) := by decide +kernel
theorem dX0_sameAs_5 : decode cX0_sameAs 5 = .ok (.getfield 44, 3) := by decide +kernel
theorem dX0_sameAs_8 : decode cX0_sameAs 8 = .ok (.if_icmp .ne 36, 3) := by decide +kernel
theorem dX0_sameAs_11 : decode cX0_sameAs 11 = .ok (.aload_n 0, 1) := by decide +kernel
theorem dX0_sameAs_12 : decode cX0_sameAs 12 = .ok (.getfield 47, 3) := by decide +kernel
theorem dX0_sameAs_15 : decode cX0_sameAs 15 = .ok (.aload_n 1, 1) := by decide +kernel
theorem dX0_sameAs_16 : decode cX0_sameAs 16 = .ok (.getfield 47, 3) := by decide +kernel
theorem dX0_sameAs_19 : decode cX0_sameAs 19 = .ok (.if_icmp .ne 25, 3) := by decide +kernel
theorem dX0_sameAs_22 : decode cX0_sameAs 22 = .ok (.aload_n 0, 1) := by decide +kernel
theorem dX0_sameAs_23 : decode cX0_sameAs 23 = .ok (.getfield 37, 3) := by decide +kernel
theorem dX0_sameAs_26 : decode cX0_sameAs 26 = .ok (.aload_n 1, 1) := by decide +kernel
theorem dX0_sameAs_27 : decode cX0_sameAs 27 = .ok (.getfield 37, 3) := by decide +kernel
theorem dX0_sameAs_30 : decode cX0_sameAs 30 = .ok (.if_icmp .ne 14, 3) := by decide +kernel
theorem dX0_sameAs_33 : decode cX0_sameAs 33 = .ok (.aload_n 0, 1) := by decide +kernel
theorem dX0_sameAs_34 : decode cX0_sameAs 34 = .ok (.getfield 41, 3) := by decide +kernel
theorem dX0_sameAs_37 : decode cX0_sameAs 37 = .ok (.aload_n 1, 1) := by decide +kernel
theorem dX0_sameAs_38 : decode cX0_sameAs 38 = .ok (.getfield 41, 3) := by decide +kernel
theorem dX0_sameAs_41 : decode cX0_sameAs 41 = .ok (.if_icmp .eq 5, 3) := by decide +kernel
theorem dX0_sameAs_44 : decode cX0_sameAs 44 = .ok (.iconst 0, 1) := by decide +kernel
theorem dX0_sameAs_45 : decode cX0_sameAs 45 = .ok (.ireturn, 1) := by decide +kernel
theorem dX0_sameAs_46 : decode cX0_sameAs 46 = .ok (.iconst 0, 1) := by decide +kernel
theorem dX0_sameAs_47 : decode cX0_sameAs 47 = .ok (.istore_n 2, 1) := by decide +kernel
theorem dX0_sameAs_48 : decode cX0_sameAs 48 = .ok (.iload_n 2, 1) := by decide +kernel
theorem dX0_sameAs_49 : decode cX0_sameAs 49 = .ok (.aload_n 0, 1) := by decide +kernel
theorem dX0_sameAs_50 : decode cX0_sameAs 50 = .ok (.getfield 44, 3) := by decide +kernel
theorem dX0_sameAs_53 : decode cX0_sameAs 53 = .ok (.if_icmp .ge 20, 3) := by decide +kernel
theorem dX0_sameAs_56 : decode cX0_sameAs 56 = .ok (.aload_n 0, 1) := by decide +kernel
theorem dX0_sameAs_57 : decode cX0_sameAs 57 = .ok (.aload_n 1, 1) := by decide +kernel
theorem dX0_sameAs_58 : decode cX0_sameAs 58 = .ok (.iload_n 2, 1) := by decide +kernel
theorem dX0_sameAs_59 : decode cX0_sameAs 59 = .ok (.invokevirtual 63, 3) := by decide +kernel
theorem dX0_sameAs_62 : decode cX0_sameAs 62 = .ok (.ifCond .ne 5, 3) := by decide +kernel
theorem dX0_sameAs_65 : decode cX0_sameAs 65 = .ok (.iconst 0, 1) := by decide +kernel
theorem dX0_sameAs_66 : decode cX0_sameAs 66 = .ok (.ireturn, 1) := by decide +kernel
theorem dX0_sameAs_67 : decode cX0_sameAs 67 = .ok (.iinc 2 1, 3) := by decide +kernel
theorem dX0_sameAs_70 : decode cX0_sameAs 70 = .ok (.goto (-22), 3) := by decide +kernel
theorem dX0_sameAs_73 : decode cX0_sameAs 73 = .ok (.iconst 0, 1) := by decide +kernel
theorem dX0_sameAs_74 : decode cX0_sameAs 74 = .ok (.istore_n 2, 1) := by decide +kernel
theorem dX0_sameAs_75 : decode cX0_sameAs 75 = .ok (.iload_n 2, 1) := by decide +kernel
theorem dX0_sameAs_76 : decode cX0_sameAs 76 = .ok (.aload_n 0, 1) := by decide +kernel
theorem dX0_sameAs_77 : decode cX0_sameAs 77 = .ok (.getfield 47, 3) := by decide +kernel
theorem dX0_sameAs_80 : decode cX0_sameAs 80 = .ok (.if_icmp .ge 20, 3) := by decide +kernel
theorem dX0_sameAs_83 : decode cX0_sameAs 83 = .ok (.aload_n 0, 1) := by decide +kernel
theorem dX0_sameAs_84 : decode cX0_sameAs 84 = .ok (.aload_n 1, 1) := by decide +kernel
theorem dX0_sameAs_85 : decode cX0_sameAs 85 = .ok (.iload_n 2, 1) := by decide +kernel
theorem dX0_sameAs_86 : decode cX0_sameAs 86 = .ok (.invokevirtual 67, 3) := by decide +kernel
theorem dX0_sameAs_89 : decode cX0_sameAs 89 = .ok (.ifCond .ne 5, 3) := by decide +kernel
theorem dX0_sameAs_92 : decode cX0_sameAs 92 = .ok (.iconst 0, 1) := by decide +kernel
theorem dX0_sameAs_93 : decode cX0_sameAs 93 = .ok (.ireturn, 1) := by decide +kernel
theorem dX0_sameAs_94 : decode cX0_sameAs 94 = .ok (.iinc 2 1, 3) := by decide +kernel
theorem dX0_sameAs_97 : decode cX0_sameAs 97 = .ok (.goto (-22), 3) := by decide +kernel
theorem dX0_sameAs_100 : decode cX0_sameAs 100 = .ok (.iconst 1, 1) := by decide +kernel
theorem dX0_sameAs_101 : decode cX0_sameAs 101 = .ok (.ireturn, 1) := by decide +kernel
theorem dX0_hasSameRule_0 : decode cX0_hasSameRule 0 = .ok (.aload_n 0, 1) := by decide +kernel
theorem dX0_hasSameRule_1 : decode cX0_hasSameRule 1 = .ok (.getfield 9, 3) := by decide +kernel
theorem dX0_hasSameRule_4 : decode cX0_hasSameRule 4 = .ok (.iload_n 2, 1) := by decide +kernel
theorem dX0_hasSameRule_5 : decode cX0_hasSameRule 5 = .ok (.iaload, 1) := by decide +kernel
theorem dX0_hasSameRule_6 : decode cX0_hasSameRule 6 = .ok (.aload_n 1, 1) := by decide +kernel
theorem dX0_hasSameRule_7 : decode cX0_hasSameRule 7 = .ok (.getfield 9, 3) := by decide +kernel
theorem dX0_hasSameRule_10 : decode cX0_hasSameRule 10 = .ok (.iload_n 2, 1) := by decide +kernel
theorem dX0_hasSameRule_11 : decode cX0_hasSameRule 11 = .ok (.iaload, 1) := by decide +kernel
theorem dX0_hasSameRule_12 : decode cX0_hasSameRule 12 = .ok (.if_icmp .ne 69, 3) := by decide +kernel
theorem dX0_hasSameRule_15 : decode cX0_hasSameRule 15 = .ok (.aload_n 0, 1) := by decide +kernel
theorem dX0_hasSameRule_16 : decode cX0_hasSameRule 16 = .ok (.getfield 15, 3) := by decide +kernel
theorem dX0_hasSameRule_19 : decode cX0_hasSameRule 19 = .ok (.iload_n 2, 1) := by decide +kernel
theorem dX0_hasSameRule_20 : decode cX0_hasSameRule 20 = .ok (.iaload, 1) := by decide +kernel
theorem dX0_hasSameRule_21 : decode cX0_hasSameRule 21 = .ok (.aload_n 1, 1) := by decide +kernel
theorem dX0_hasSameRule_22 : decode cX0_hasSameRule 22 = .ok (.getfield 15, 3) := by decide +kernel
theorem dX0_hasSameRule_25 : decode cX0_hasSameRule 25 = .ok (.iload_n 2, 1) := by decide +kernel
theorem dX0_hasSameRule_26 : decode cX0_hasSameRule 26 = .ok (.iaload, 1) := by decide +kernel
theorem dX0_hasSameRule_27 : decode cX0_hasSameRule 27 = .ok (.if_icmp .ne 54, 3) := by decide +kernel
theorem dX0_hasSameRule_30 : decode cX0_hasSameRule 30 = .ok (.aload_n 0, 1) := by decide +kernel
theorem dX0_hasSameRule_31 : decode cX0_hasSameRule 31 = .ok (.getfield 18, 3) := by decide +kernel
theorem dX0_hasSameRule_34 : decode cX0_hasSameRule 34 = .ok (.iload_n 2, 1) := by decide +kernel
theorem dX0_hasSameRule_35 : decode cX0_hasSameRule 35 = .ok (.iaload, 1) := by decide +kernel
theorem dX0_hasSameRule_36 : decode cX0_hasSameRule 36 = .ok (.aload_n 1, 1) := by decide +kernel
theorem dX0_hasSameRule_37 : decode cX0_hasSameRule 37 = .ok (.getfield 18, 3) := by decide +kernel
theorem dX0_hasSameRule_40 : decode cX0_hasSameRule 40 = .ok (.iload_n 2, 1) := by decide +kernel
theorem dX0_hasSameRule_41 : decode cX0_hasSameRule 41 = .ok (.iaload, 1) := by decide +kernel
theorem dX0_hasSameRule_42 : decode cX0_hasSameRule 42 = .ok (.if_icmp .ne 39, 3) := by decide +kernel
theorem dX0_hasSameRule_45 : decode cX0_hasSameRule 45 = .ok (.aload_n 0, 1) := by decide +kernel
theorem dX0_hasSameRule_46 : decode cX0_hasSameRule 46 = .ok (.getfield 21, 3) := by decide +kernel
theorem dX0_hasSameRule_49 : decode cX0_hasSameRule 49 = .ok (.iload_n 2, 1) := by decide +kernel
theorem dX0_hasSameRule_50 : decode cX0_hasSameRule 50 = .ok (.laload, 1) := by decide +kernel
theorem dX0_hasSameRule_51 : decode cX0_hasSameRule 51 = .ok (.aload_n 1, 1) := by decide +kernel
theorem dX0_hasSameRule_52 : decode cX0_hasSameRule 52 = .ok (.getfield 21, 3) := by decide +kernel
theorem dX0_hasSameRule_55 : decode cX0_hasSameRule 55 = .ok (.iload_n 2, 1) := by decide +kernel
theorem dX0_hasSameRule_56 : decode cX0_hasSameRule 56 = .ok (.laload, 1) := by decide +kernel
theorem dX0_hasSameRule_57 : decode cX0_hasSameRule 57 = .ok (.lcmp, 1) := by decide +kernel
theorem dX0_hasSameRule_58 : decode cX0_hasSameRule 58 = .ok (.ifCond .ne 23, 3) := by decide +kernel
theorem dX0_hasSameRule_61 : decode cX0_hasSameRule 61 = .ok (.aload_n 0, 1) := by decide +kernel
theorem dX0_hasSameRule_62 : decode cX0_hasSameRule 62 = .ok (.getfield 25, 3) := by decide +kernel
theorem dX0_hasSameRule_65 : decode cX0_hasSameRule 65 = .ok (.iload_n 2, 1) := by decide +kernel
theorem dX0_hasSameRule_66 : decode cX0_hasSameRule 66 = .ok (.laload, 1) := by decide +kernel
theorem dX0_hasSameRule_67 : decode cX0_hasSameRule 67 = .ok (.aload_n 1, 1) := by decide +kernel
theorem dX0_hasSameRule_68 : decode cX0_hasSameRule 68 = .ok (.getfield 25, 3) := by decide +kernel
theorem dX0_hasSameRule_71 : decode cX0_hasSameRule 71 = .ok (.iload_n 2, 1) := by decide +kernel
theorem dX0_hasSameRule_72 : decode cX0_hasSameRule 72 = .ok (.laload, 1) := by decide +kernel
theorem dX0_hasSameRule_73 : decode cX0_hasSameRule 73 = .ok (.lcmp, 1) := by decide +kernel
theorem dX0_hasSameRule_74 : decode cX0_hasSameRule 74 = .ok (.ifCond .ne 7, 3) := by decide +kernel
theorem dX0_hasSameRule_77 : decode cX0_hasSameRule 77 = .ok (.iconst 1, 1) := by decide +kernel
theorem dX0_hasSameRule_78 : decode cX0_hasSameRule 78 = .ok (.goto 4, 3) := by decide +kernel
theorem dX0_hasSameRule_81 : decode cX0_hasSameRule 81 = .ok (.iconst 0, 1) := by decide +kernel
theorem dX0_hasSameRule_82 : decode cX0_hasSameRule 82 = .ok (.ireturn, 1) := by decide +kernel
theorem dX0_hasSamePair_0 : decode cX0_hasSamePair 0 = .ok (.aload_n 0, 1) := by decide +kernel
theorem dX0_hasSamePair_1 : decode cX0_hasSamePair 1 = .ok (.getfield 28, 3) := by decide +kernel
theorem dX0_hasSamePair_4 : decode cX0_hasSamePair 4 = .ok (.iload_n 2, 1) := by decide +kernel
theorem dX0_hasSamePair_5 : decode cX0_hasSamePair 5 = .ok (.iaload, 1) := by decide +kernel
theorem dX0_hasSamePair_6 : decode cX0_hasSamePair 6 = .ok (.aload_n 1, 1) := by decide +kernel
theorem dX0_hasSamePair_7 : decode cX0_hasSamePair 7 = .ok (.getfield 28, 3) := by decide +kernel
theorem dX0_hasSamePair_10 : decode cX0_hasSamePair 10 = .ok (.iload_n 2, 1) := by decide +kernel
theorem dX0_hasSamePair_11 : decode cX0_hasSamePair 11 = .ok (.iaload, 1) := by decide +kernel
theorem dX0_hasSamePair_12 : decode cX0_hasSamePair 12 = .ok (.if_icmp .ne 39, 3) := by decide +kernel
theorem dX0_hasSamePair_15 : decode cX0_hasSamePair 15 = .ok (.aload_n 0, 1) := by decide +kernel
theorem dX0_hasSamePair_16 : decode cX0_hasSamePair 16 = .ok (.getfield 31, 3) := by decide +kernel
theorem dX0_hasSamePair_19 : decode cX0_hasSamePair 19 = .ok (.iload_n 2, 1) := by decide +kernel
theorem dX0_hasSamePair_20 : decode cX0_hasSamePair 20 = .ok (.laload, 1) := by decide +kernel
theorem dX0_hasSamePair_21 : decode cX0_hasSamePair 21 = .ok (.aload_n 1, 1) := by decide +kernel
theorem dX0_hasSamePair_22 : decode cX0_hasSamePair 22 = .ok (.getfield 31, 3) := by decide +kernel
theorem dX0_hasSamePair_25 : decode cX0_hasSamePair 25 = .ok (.iload_n 2, 1) := by decide +kernel
theorem dX0_hasSamePair_26 : decode cX0_hasSamePair 26 = .ok (.laload, 1) := by decide +kernel
theorem dX0_hasSamePair_27 : decode cX0_hasSamePair 27 = .ok (.lcmp, 1) := by decide +kernel
theorem dX0_hasSamePair_28 : decode cX0_hasSamePair 28 = .ok (.ifCond .ne 23, 3) := by decide +kernel
theorem dX0_hasSamePair_31 : decode cX0_hasSamePair 31 = .ok (.aload_n 0, 1) := by decide +kernel
theorem dX0_hasSamePair_32 : decode cX0_hasSamePair 32 = .ok (.getfield 34, 3) := by decide +kernel
theorem dX0_hasSamePair_35 : decode cX0_hasSamePair 35 = .ok (.iload_n 2, 1) := by decide +kernel
theorem dX0_hasSamePair_36 : decode cX0_hasSamePair 36 = .ok (.laload, 1) := by decide +kernel
theorem dX0_hasSamePair_37 : decode cX0_hasSamePair 37 = .ok (.aload_n 1, 1) := by decide +kernel
theorem dX0_hasSamePair_38 : decode cX0_hasSamePair 38 = .ok (.getfield 34, 3) := by decide +kernel
theorem dX0_hasSamePair_41 : decode cX0_hasSamePair 41 = .ok (.iload_n 2, 1) := by decide +kernel
theorem dX0_hasSamePair_42 : decode cX0_hasSamePair 42 = .ok (.laload, 1) := by decide +kernel
theorem dX0_hasSamePair_43 : decode cX0_hasSamePair 43 = .ok (.lcmp, 1) := by decide +kernel
theorem dX0_hasSamePair_44 : decode cX0_hasSamePair 44 = .ok (.ifCond .ne 7, 3) := by decide +kernel
theorem dX0_hasSamePair_47 : decode cX0_hasSamePair 47 = .ok (.iconst 1, 1) := by decide +kernel
theorem dX0_hasSamePair_48 : decode cX0_hasSamePair 48 = .ok (.goto 4, 3) := by decide +kernel
theorem dX0_hasSamePair_51 : decode cX0_hasSamePair 51 = .ok (.iconst 0, 1) := by decide +kernel
theorem dX0_hasSamePair_52 : decode cX0_hasSamePair 52 = .ok (.ireturn, 1) := by decide +kernel
theorem dX0_insertRule_0 : decode cX0_insertRule 0 = .ok (.aload_n 0, 1) := by decide +kernel
theorem dX0_insertRule_1 : decode cX0_insertRule 1 = .ok (.getfield 44, 3) := by decide +kernel
theorem dX0_insertRule_4 : decode cX0_insertRule 4 = .ok (.bipush 24, 2) := by decide +kernel
theorem dX0_insertRule_6 : decode cX0_insertRule 6 = .ok (.if_icmp .ge 65, 3) := by decide +kernel
theorem dX0_insertRule_9 : decode cX0_insertRule 9 = .ok (.aload_n 0, 1) := by decide +kernel
theorem dX0_insertRule_10 : decode cX0_insertRule 10 = .ok (.getfield 9, 3) := by decide +kernel
theorem dX0_insertRule_13 : decode cX0_insertRule 13 = .ok (.aload_n 0, 1) := by decide +kernel
theorem dX0_insertRule_14 : decode cX0_insertRule 14 = .ok (.getfield 44, 3) := by decide +kernel
theorem dX0_insertRule_17 : decode cX0_insertRule 17 = .ok (.iload_n 1, 1) := by decide +kernel
theorem dX0_insertRule_18 : decode cX0_insertRule 18 = .ok (.iastore, 1) := by decide +kernel
theorem dX0_insertRule_19 : decode cX0_insertRule 19 = .ok (.aload_n 0, 1) := by decide +kernel
theorem dX0_insertRule_20 : decode cX0_insertRule 20 = .ok (.getfield 15, 3) := by decide +kernel
theorem dX0_insertRule_23 : decode cX0_insertRule 23 = .ok (.aload_n 0, 1) := by decide +kernel
theorem dX0_insertRule_24 : decode cX0_insertRule 24 = .ok (.getfield 44, 3) := by decide +kernel
theorem dX0_insertRule_27 : decode cX0_insertRule 27 = .ok (.iload_n 2, 1) := by decide +kernel
theorem dX0_insertRule_28 : decode cX0_insertRule 28 = .ok (.iastore, 1) := by decide +kernel
theorem dX0_insertRule_29 : decode cX0_insertRule 29 = .ok (.aload_n 0, 1) := by decide +kernel
theorem dX0_insertRule_30 : decode cX0_insertRule 30 = .ok (.getfield 18, 3) := by decide +kernel
theorem dX0_insertRule_33 : decode cX0_insertRule 33 = .ok (.aload_n 0, 1) := by decide +kernel
theorem dX0_insertRule_34 : decode cX0_insertRule 34 = .ok (.getfield 44, 3) := by decide +kernel
theorem dX0_insertRule_37 : decode cX0_insertRule 37 = .ok (.iload_n 3, 1) := by decide +kernel
theorem dX0_insertRule_38 : decode cX0_insertRule 38 = .ok (.iastore, 1) := by decide +kernel
theorem dX0_insertRule_39 : decode cX0_insertRule 39 = .ok (.aload_n 0, 1) := by decide +kernel
theorem dX0_insertRule_40 : decode cX0_insertRule 40 = .ok (.getfield 21, 3) := by decide +kernel
theorem dX0_insertRule_43 : decode cX0_insertRule 43 = .ok (.aload_n 0, 1) := by decide +kernel
theorem dX0_insertRule_44 : decode cX0_insertRule 44 = .ok (.getfield 44, 3) := by decide +kernel
theorem dX0_insertRule_47 : decode cX0_insertRule 47 = .ok (.lload 4, 2) := by decide +kernel
theorem dX0_insertRule_49 : decode cX0_insertRule 49 = .ok (.lastore, 1) := by decide +kernel
theorem dX0_insertRule_50 : decode cX0_insertRule 50 = .ok (.aload_n 0, 1) := by decide +kernel
theorem dX0_insertRule_51 : decode cX0_insertRule 51 = .ok (.getfield 25, 3) := by decide +kernel
theorem dX0_insertRule_54 : decode cX0_insertRule 54 = .ok (.aload_n 0, 1) := by decide +kernel
theorem dX0_insertRule_55 : decode cX0_insertRule 55 = .ok (.getfield 44, 3) := by decide +kernel
theorem dX0_insertRule_58 : decode cX0_insertRule 58 = .ok (.lload 6, 2) := by decide +kernel
theorem dX0_insertRule_60 : decode cX0_insertRule 60 = .ok (.lastore, 1) := by decide +kernel
theorem dX0_insertRule_61 : decode cX0_insertRule 61 = .ok (.aload_n 0, 1) := by decide +kernel
theorem dX0_insertRule_62 : decode cX0_insertRule 62 = .ok (.dup, 1) := by decide +kernel
theorem dX0_insertRule_63 : decode cX0_insertRule 63 = .ok (.getfield 44, 3) := by decide +kernel
theorem dX0_insertRule_66 : decode cX0_insertRule 66 = .ok (.iconst 1, 1) := by decide +kernel
theorem dX0_insertRule_67 : decode cX0_insertRule 67 = .ok (.iadd, 1) := by decide +kernel
theorem dX0_insertRule_68 : decode cX0_insertRule 68 = .ok (.putfield 44, 3) := by decide +kernel
theorem dX0_insertRule_71 : decode cX0_insertRule 71 = .ok (.return_, 1) := by decide +kernel
theorem dX0_insertText_0 : decode cX0_insertText 0 = .ok (.aload 4, 2) := by decide +kernel
theorem dX0_insertText_2 : decode cX0_insertText 2 = .ok (.iconst 0, 1) := by decide +kernel
theorem dX0_insertText_3 : decode cX0_insertText 3 = .ok (.invokevirtual 70, 3) := by decide +kernel
theorem dX0_insertText_6 : decode cX0_insertText 6 = .ok (.istore 5, 2) := by decide +kernel
theorem dX0_insertText_8 : decode cX0_insertText 8 = .ok (.aload 4, 2) := by decide +kernel
theorem dX0_insertText_10 : decode cX0_insertText 10 = .ok (.iconst 0, 1) := by decide +kernel
theorem dX0_insertText_11 : decode cX0_insertText 11 = .ok (.iload 5, 2) := by decide +kernel
theorem dX0_insertText_13 : decode cX0_insertText 13 = .ok (.invokestatic 76, 3) := by decide +kernel
theorem dX0_insertText_16 : decode cX0_insertText 16 = .ok (.lstore 6, 2) := by decide +kernel
theorem dX0_insertText_18 : decode cX0_insertText 18 = .ok (.aload 4, 2) := by decide +kernel
theorem dX0_insertText_20 : decode cX0_insertText 20 = .ok (.iload 5, 2) := by decide +kernel
theorem dX0_insertText_22 : decode cX0_insertText 22 = .ok (.iconst 1, 1) := by decide +kernel
theorem dX0_insertText_23 : decode cX0_insertText 23 = .ok (.iadd, 1) := by decide +kernel
theorem dX0_insertText_24 : decode cX0_insertText 24 = .ok (.aload 4, 2) := by decide +kernel
theorem dX0_insertText_26 : decode cX0_insertText 26 = .ok (.invokevirtual 82, 3) := by decide +kernel
theorem dX0_insertText_29 : decode cX0_insertText 29 = .ok (.invokestatic 76, 3) := by decide +kernel
theorem dX0_insertText_32 : decode cX0_insertText 32 = .ok (.lstore 8, 2) := by decide +kernel
theorem dX0_insertText_34 : decode cX0_insertText 34 = .ok (.aload_n 0, 1) := by decide +kernel
theorem dX0_insertText_35 : decode cX0_insertText 35 = .ok (.iload_n 1, 1) := by decide +kernel
theorem dX0_insertText_36 : decode cX0_insertText 36 = .ok (.iload_n 2, 1) := by decide +kernel
theorem dX0_insertText_37 : decode cX0_insertText 37 = .ok (.iload_n 3, 1) := by decide +kernel
theorem dX0_insertText_38 : decode cX0_insertText 38 = .ok (.lload 6, 2) := by decide +kernel
theorem dX0_insertText_40 : decode cX0_insertText 40 = .ok (.lload 8, 2) := by decide +kernel
theorem dX0_insertText_42 : decode cX0_insertText 42 = .ok (.invokevirtual 86, 3) := by decide +kernel
theorem dX0_insertText_45 : decode cX0_insertText 45 = .ok (.return_, 1) := by decide +kernel
theorem dX0_dropRule_0 : decode cX0_dropRule 0 = .ok (.iload_n 1, 1) := by decide +kernel
theorem dX0_dropRule_1 : decode cX0_dropRule 1 = .ok (.ifCond .lt 11, 3) := by decide +kernel
theorem dX0_dropRule_4 : decode cX0_dropRule 4 = .ok (.iload_n 1, 1) := by decide +kernel
theorem dX0_dropRule_5 : decode cX0_dropRule 5 = .ok (.aload_n 0, 1) := by decide +kernel
theorem dX0_dropRule_6 : decode cX0_dropRule 6 = .ok (.getfield 44, 3) := by decide +kernel
theorem dX0_dropRule_9 : decode cX0_dropRule 9 = .ok (.if_icmp .lt 4, 3) := by decide +kernel
theorem dX0_dropRule_12 : decode cX0_dropRule 12 = .ok (.return_, 1) := by decide +kernel
theorem dX0_dropRule_13 : decode cX0_dropRule 13 = .ok (.aload_n 0, 1) := by decide +kernel
theorem dX0_dropRule_14 : decode cX0_dropRule 14 = .ok (.dup, 1) := by decide +kernel
theorem dX0_dropRule_15 : decode cX0_dropRule 15 = .ok (.getfield 44, 3) := by decide +kernel
theorem dX0_dropRule_18 : decode cX0_dropRule 18 = .ok (.iconst 1, 1) := by decide +kernel
theorem dX0_dropRule_19 : decode cX0_dropRule 19 = .ok (.isub, 1) := by decide +kernel
theorem dX0_dropRule_20 : decode cX0_dropRule 20 = .ok (.putfield 44, 3) := by decide +kernel
theorem dX0_dropRule_23 : decode cX0_dropRule 23 = .ok (.iload_n 1, 1) := by decide +kernel
theorem dX0_dropRule_24 : decode cX0_dropRule 24 = .ok (.istore_n 2, 1) := by decide +kernel
theorem dX0_dropRule_25 : decode cX0_dropRule 25 = .ok (.iload_n 2, 1) := by decide +kernel
theorem dX0_dropRule_26 : decode cX0_dropRule 26 = .ok (.aload_n 0, 1) := by decide +kernel
theorem dX0_dropRule_27 : decode cX0_dropRule 27 = .ok (.getfield 44, 3) := by decide +kernel
theorem dX0_dropRule_30 : decode cX0_dropRule 30 = .ok (.if_icmp .ge 79, 3) := by decide +kernel
theorem dX0_dropRule_33 : decode cX0_dropRule 33 = .ok (.aload_n 0, 1) := by decide +kernel
theorem dX0_dropRule_34 : decode cX0_dropRule 34 = .ok (.getfield 9, 3) := by decide +kernel
theorem dX0_dropRule_37 : decode cX0_dropRule 37 = .ok (.iload_n 2, 1) := by decide +kernel
theorem dX0_dropRule_38 : decode cX0_dropRule 38 = .ok (.aload_n 0, 1) := by decide +kernel
theorem dX0_dropRule_39 : decode cX0_dropRule 39 = .ok (.getfield 9, 3) := by decide +kernel
theorem dX0_dropRule_42 : decode cX0_dropRule 42 = .ok (.iload_n 2, 1) := by decide +kernel
theorem dX0_dropRule_43 : decode cX0_dropRule 43 = .ok (.iconst 1, 1) := by decide +kernel
theorem dX0_dropRule_44 : decode cX0_dropRule 44 = .ok (.iadd, 1) := by decide +kernel
theorem dX0_dropRule_45 : decode cX0_dropRule 45 = .ok (.iaload, 1) := by decide +kernel
theorem dX0_dropRule_46 : decode cX0_dropRule 46 = .ok (.iastore, 1) := by decide +kernel
theorem dX0_dropRule_47 : decode cX0_dropRule 47 = .ok (.aload_n 0, 1) := by decide +kernel
theorem dX0_dropRule_48 : decode cX0_dropRule 48 = .ok (.getfield 15, 3) := by decide +kernel
theorem dX0_dropRule_51 : decode cX0_dropRule 51 = .ok (.iload_n 2, 1) := by decide +kernel
theorem dX0_dropRule_52 : decode cX0_dropRule 52 = .ok (.aload_n 0, 1) := by decide +kernel
theorem dX0_dropRule_53 : decode cX0_dropRule 53 = .ok (.getfield 15, 3) := by decide +kernel
theorem dX0_dropRule_56 : decode cX0_dropRule 56 = .ok (.iload_n 2, 1) := by decide +kernel
theorem dX0_dropRule_57 : decode cX0_dropRule 57 = .ok (.iconst 1, 1) := by decide +kernel
theorem dX0_dropRule_58 : decode cX0_dropRule 58 = .ok (.iadd, 1) := by decide +kernel
theorem dX0_dropRule_59 : decode cX0_dropRule 59 = .ok (.iaload, 1) := by decide +kernel
theorem dX0_dropRule_60 : decode cX0_dropRule 60 = .ok (.iastore, 1) := by decide +kernel
theorem dX0_dropRule_61 : decode cX0_dropRule 61 = .ok (.aload_n 0, 1) := by decide +kernel
theorem dX0_dropRule_62 : decode cX0_dropRule 62 = .ok (.getfield 18, 3) := by decide +kernel
theorem dX0_dropRule_65 : decode cX0_dropRule 65 = .ok (.iload_n 2, 1) := by decide +kernel
theorem dX0_dropRule_66 : decode cX0_dropRule 66 = .ok (.aload_n 0, 1) := by decide +kernel
theorem dX0_dropRule_67 : decode cX0_dropRule 67 = .ok (.getfield 18, 3) := by decide +kernel
theorem dX0_dropRule_70 : decode cX0_dropRule 70 = .ok (.iload_n 2, 1) := by decide +kernel
theorem dX0_dropRule_71 : decode cX0_dropRule 71 = .ok (.iconst 1, 1) := by decide +kernel
theorem dX0_dropRule_72 : decode cX0_dropRule 72 = .ok (.iadd, 1) := by decide +kernel
theorem dX0_dropRule_73 : decode cX0_dropRule 73 = .ok (.iaload, 1) := by decide +kernel
theorem dX0_dropRule_74 : decode cX0_dropRule 74 = .ok (.iastore, 1) := by decide +kernel
theorem dX0_dropRule_75 : decode cX0_dropRule 75 = .ok (.aload_n 0, 1) := by decide +kernel
theorem dX0_dropRule_76 : decode cX0_dropRule 76 = .ok (.getfield 21, 3) := by decide +kernel
theorem dX0_dropRule_79 : decode cX0_dropRule 79 = .ok (.iload_n 2, 1) := by decide +kernel
theorem dX0_dropRule_80 : decode cX0_dropRule 80 = .ok (.aload_n 0, 1) := by decide +kernel
theorem dX0_dropRule_81 : decode cX0_dropRule 81 = .ok (.getfield 21, 3) := by decide +kernel
theorem dX0_dropRule_84 : decode cX0_dropRule 84 = .ok (.iload_n 2, 1) := by decide +kernel
theorem dX0_dropRule_85 : decode cX0_dropRule 85 = .ok (.iconst 1, 1) := by decide +kernel
theorem dX0_dropRule_86 : decode cX0_dropRule 86 = .ok (.iadd, 1) := by decide +kernel
theorem dX0_dropRule_87 : decode cX0_dropRule 87 = .ok (.laload, 1) := by decide +kernel
theorem dX0_dropRule_88 : decode cX0_dropRule 88 = .ok (.lastore, 1) := by decide +kernel
theorem dX0_dropRule_89 : decode cX0_dropRule 89 = .ok (.aload_n 0, 1) := by decide +kernel
theorem dX0_dropRule_90 : decode cX0_dropRule 90 = .ok (.getfield 25, 3) := by decide +kernel
theorem dX0_dropRule_93 : decode cX0_dropRule 93 = .ok (.iload_n 2, 1) := by decide +kernel
theorem dX0_dropRule_94 : decode cX0_dropRule 94 = .ok (.aload_n 0, 1) := by decide +kernel
theorem dX0_dropRule_95 : decode cX0_dropRule 95 = .ok (.getfield 25, 3) := by decide +kernel
theorem dX0_dropRule_98 : decode cX0_dropRule 98 = .ok (.iload_n 2, 1) := by decide +kernel
theorem dX0_dropRule_99 : decode cX0_dropRule 99 = .ok (.iconst 1, 1) := by decide +kernel
theorem dX0_dropRule_100 : decode cX0_dropRule 100 = .ok (.iadd, 1) := by decide +kernel
theorem dX0_dropRule_101 : decode cX0_dropRule 101 = .ok (.laload, 1) := by decide +kernel
theorem dX0_dropRule_102 : decode cX0_dropRule 102 = .ok (.lastore, 1) := by decide +kernel
theorem dX0_dropRule_103 : decode cX0_dropRule 103 = .ok (.iinc 2 1, 3) := by decide +kernel
theorem dX0_dropRule_106 : decode cX0_dropRule 106 = .ok (.goto (-81), 3) := by decide +kernel
theorem dX0_dropRule_109 : decode cX0_dropRule 109 = .ok (.return_, 1) := by decide +kernel
theorem dX0_changePriority_0 : decode cX0_changePriority 0 = .ok (.iload_n 1, 1) := by decide +kernel
theorem dX0_changePriority_1 : decode cX0_changePriority 1 = .ok (.ifCond .lt 18, 3) := by decide +kernel
theorem dX0_changePriority_4 : decode cX0_changePriority 4 = .ok (.iload_n 1, 1) := by decide +kernel
theorem dX0_changePriority_5 : decode cX0_changePriority 5 = .ok (.aload_n 0, 1) := by decide +kernel
theorem dX0_changePriority_6 : decode cX0_changePriority 6 = .ok (.getfield 44, 3) := by decide +kernel
theorem dX0_changePriority_9 : decode cX0_changePriority 9 = .ok (.if_icmp .ge 10, 3) := by decide +kernel
theorem dX0_changePriority_12 : decode cX0_changePriority 12 = .ok (.aload_n 0, 1) := by decide +kernel
theorem dX0_changePriority_13 : decode cX0_changePriority 13 = .ok (.getfield 15, 3) := by decide +kernel
theorem dX0_changePriority_16 : decode cX0_changePriority 16 = .ok (.iload_n 1, 1) := by decide +kernel
theorem dX0_changePriority_17 : decode cX0_changePriority 17 = .ok (.iload_n 2, 1) := by decide +kernel
theorem dX0_changePriority_18 : decode cX0_changePriority 18 = .ok (.iastore, 1) := by decide +kernel
theorem dX0_changePriority_19 : decode cX0_changePriority 19 = .ok (.return_, 1) := by decide +kernel
theorem dX0_changeContext_0 : decode cX0_changeContext 0 = .ok (.iload_n 1, 1) := by decide +kernel
theorem dX0_changeContext_1 : decode cX0_changeContext 1 = .ok (.ifCond .lt 18, 3) := by decide +kernel
theorem dX0_changeContext_4 : decode cX0_changeContext 4 = .ok (.iload_n 1, 1) := by decide +kernel
theorem dX0_changeContext_5 : decode cX0_changeContext 5 = .ok (.aload_n 0, 1) := by decide +kernel
theorem dX0_changeContext_6 : decode cX0_changeContext 6 = .ok (.getfield 44, 3) := by decide +kernel
theorem dX0_changeContext_9 : decode cX0_changeContext 9 = .ok (.if_icmp .ge 10, 3) := by decide +kernel
theorem dX0_changeContext_12 : decode cX0_changeContext 12 = .ok (.aload_n 0, 1) := by decide +kernel
theorem dX0_changeContext_13 : decode cX0_changeContext 13 = .ok (.getfield 18, 3) := by decide +kernel
theorem dX0_changeContext_16 : decode cX0_changeContext 16 = .ok (.iload_n 1, 1) := by decide +kernel
theorem dX0_changeContext_17 : decode cX0_changeContext 17 = .ok (.iload_n 2, 1) := by decide +kernel
theorem dX0_changeContext_18 : decode cX0_changeContext 18 = .ok (.iastore, 1) := by decide +kernel
theorem dX0_changeContext_19 : decode cX0_changeContext 19 = .ok (.return_, 1) := by decide +kernel
theorem dX0_formOf_0 : decode cX0_formOf 0 = .ok (.iload_n 1, 1) := by decide +kernel
theorem dX0_formOf_1 : decode cX0_formOf 1 = .ok (.ifCond .lt 11, 3) := by decide +kernel
theorem dX0_formOf_4 : decode cX0_formOf 4 = .ok (.iload_n 1, 1) := by decide +kernel
theorem dX0_formOf_5 : decode cX0_formOf 5 = .ok (.aload_n 0, 1) := by decide +kernel
theorem dX0_formOf_6 : decode cX0_formOf 6 = .ok (.getfield 44, 3) := by decide +kernel
theorem dX0_formOf_9 : decode cX0_formOf 9 = .ok (.if_icmp .lt 5, 3) := by decide +kernel
theorem dX0_formOf_12 : decode cX0_formOf 12 = .ok (.lconst 0, 1) := by decide +kernel
theorem dX0_formOf_13 : decode cX0_formOf 13 = .ok (.lreturn, 1) := by decide +kernel
theorem dX0_formOf_14 : decode cX0_formOf 14 = .ok (.iload_n 2, 1) := by decide +kernel
theorem dX0_formOf_15 : decode cX0_formOf 15 = .ok (.ifCond .eq 12, 3) := by decide +kernel
theorem dX0_formOf_18 : decode cX0_formOf 18 = .ok (.aload_n 0, 1) := by decide +kernel
theorem dX0_formOf_19 : decode cX0_formOf 19 = .ok (.getfield 25, 3) := by decide +kernel
theorem dX0_formOf_22 : decode cX0_formOf 22 = .ok (.iload_n 1, 1) := by decide +kernel
theorem dX0_formOf_23 : decode cX0_formOf 23 = .ok (.laload, 1) := by decide +kernel
theorem dX0_formOf_24 : decode cX0_formOf 24 = .ok (.goto 9, 3) := by decide +kernel
theorem dX0_formOf_27 : decode cX0_formOf 27 = .ok (.aload_n 0, 1) := by decide +kernel
theorem dX0_formOf_28 : decode cX0_formOf 28 = .ok (.getfield 21, 3) := by decide +kernel
theorem dX0_formOf_31 : decode cX0_formOf 31 = .ok (.iload_n 1, 1) := by decide +kernel
theorem dX0_formOf_32 : decode cX0_formOf 32 = .ok (.laload, 1) := by decide +kernel
theorem dX0_formOf_33 : decode cX0_formOf 33 = .ok (.lreturn, 1) := by decide +kernel
theorem dX0_isOfKind_0 : decode cX0_isOfKind 0 = .ok (.iload_n 1, 1) := by decide +kernel
theorem dX0_isOfKind_1 : decode cX0_isOfKind 1 = .ok (.ifCond .lt 25, 3) := by decide +kernel
theorem dX0_isOfKind_4 : decode cX0_isOfKind 4 = .ok (.iload_n 1, 1) := by decide +kernel
theorem dX0_isOfKind_5 : decode cX0_isOfKind 5 = .ok (.aload_n 0, 1) := by decide +kernel
theorem dX0_isOfKind_6 : decode cX0_isOfKind 6 = .ok (.getfield 44, 3) := by decide +kernel
theorem dX0_isOfKind_9 : decode cX0_isOfKind 9 = .ok (.if_icmp .ge 17, 3) := by decide +kernel
theorem dX0_isOfKind_12 : decode cX0_isOfKind 12 = .ok (.aload_n 0, 1) := by decide +kernel
theorem dX0_isOfKind_13 : decode cX0_isOfKind 13 = .ok (.getfield 9, 3) := by decide +kernel
theorem dX0_isOfKind_16 : decode cX0_isOfKind 16 = .ok (.iload_n 1, 1) := by decide +kernel
theorem dX0_isOfKind_17 : decode cX0_isOfKind 17 = .ok (.iaload, 1) := by decide +kernel
theorem dX0_isOfKind_18 : decode cX0_isOfKind 18 = .ok (.iload_n 2, 1) := by decide +kernel
theorem dX0_isOfKind_19 : decode cX0_isOfKind 19 = .ok (.if_icmp .ne 7, 3) := by decide +kernel
theorem dX0_isOfKind_22 : decode cX0_isOfKind 22 = .ok (.iconst 1, 1) := by decide +kernel
theorem dX0_isOfKind_23 : decode cX0_isOfKind 23 = .ok (.goto 4, 3) := by decide +kernel
theorem dX0_isOfKind_26 : decode cX0_isOfKind 26 = .ok (.iconst 0, 1) := by decide +kernel
theorem dX0_isOfKind_27 : decode cX0_isOfKind 27 = .ok (.ireturn, 1) := by decide +kernel
theorem dX0_priorityOf_0 : decode cX0_priorityOf 0 = .ok (.iload_n 1, 1) := by decide +kernel
theorem dX0_priorityOf_1 : decode cX0_priorityOf 1 = .ok (.ifCond .lt 20, 3) := by decide +kernel
theorem dX0_priorityOf_4 : decode cX0_priorityOf 4 = .ok (.iload_n 1, 1) := by decide +kernel
theorem dX0_priorityOf_5 : decode cX0_priorityOf 5 = .ok (.aload_n 0, 1) := by decide +kernel
theorem dX0_priorityOf_6 : decode cX0_priorityOf 6 = .ok (.getfield 44, 3) := by decide +kernel
theorem dX0_priorityOf_9 : decode cX0_priorityOf 9 = .ok (.if_icmp .ge 12, 3) := by decide +kernel
theorem dX0_priorityOf_12 : decode cX0_priorityOf 12 = .ok (.aload_n 0, 1) := by decide +kernel
theorem dX0_priorityOf_13 : decode cX0_priorityOf 13 = .ok (.getfield 15, 3) := by decide +kernel
theorem dX0_priorityOf_16 : decode cX0_priorityOf 16 = .ok (.iload_n 1, 1) := by decide +kernel
theorem dX0_priorityOf_17 : decode cX0_priorityOf 17 = .ok (.iaload, 1) := by decide +kernel
theorem dX0_priorityOf_18 : decode cX0_priorityOf 18 = .ok (.goto 4, 3) := by decide +kernel
theorem dX0_priorityOf_21 : decode cX0_priorityOf 21 = .ok (.iconst 0, 1) := by decide +kernel
theorem dX0_priorityOf_22 : decode cX0_priorityOf 22 = .ok (.ireturn, 1) := by decide +kernel
theorem dX0_placesOfRule_0 : decode cX0_placesOfRule 0 = .ok (.iload_n 1, 1) := by decide +kernel
theorem dX0_placesOfRule_1 : decode cX0_placesOfRule 1 = .ok (.ifCond .lt 20, 3) := by decide +kernel
theorem dX0_placesOfRule_4 : decode cX0_placesOfRule 4 = .ok (.iload_n 1, 1) := by decide +kernel
theorem dX0_placesOfRule_5 : decode cX0_placesOfRule 5 = .ok (.aload_n 0, 1) := by decide +kernel
theorem dX0_placesOfRule_6 : decode cX0_placesOfRule 6 = .ok (.getfield 44, 3) := by decide +kernel
theorem dX0_placesOfRule_9 : decode cX0_placesOfRule 9 = .ok (.if_icmp .ge 12, 3) := by decide +kernel
theorem dX0_placesOfRule_12 : decode cX0_placesOfRule 12 = .ok (.aload_n 0, 1) := by decide +kernel
theorem dX0_placesOfRule_13 : decode cX0_placesOfRule 13 = .ok (.getfield 18, 3) := by decide +kernel
theorem dX0_placesOfRule_16 : decode cX0_placesOfRule 16 = .ok (.iload_n 1, 1) := by decide +kernel
theorem dX0_placesOfRule_17 : decode cX0_placesOfRule 17 = .ok (.iaload, 1) := by decide +kernel
theorem dX0_placesOfRule_18 : decode cX0_placesOfRule 18 = .ok (.goto 4, 3) := by decide +kernel
theorem dX0_placesOfRule_21 : decode cX0_placesOfRule 21 = .ok (.iconst (-1), 1) := by decide +kernel
theorem dX0_placesOfRule_22 : decode cX0_placesOfRule 22 = .ok (.istore_n 2, 1) := by decide +kernel
theorem dX0_placesOfRule_23 : decode cX0_placesOfRule 23 = .ok (.iload_n 2, 1) := by decide +kernel
theorem dX0_placesOfRule_24 : decode cX0_placesOfRule 24 = .ok (.ifCond .lt 19, 3) := by decide +kernel
theorem dX0_placesOfRule_27 : decode cX0_placesOfRule 27 = .ok (.iload_n 2, 1) := by decide +kernel
theorem dX0_placesOfRule_28 : decode cX0_placesOfRule 28 = .ok (.getstatic 90, 3) := by decide +kernel
theorem dX0_placesOfRule_31 : decode cX0_placesOfRule 31 = .ok (.arraylength, 1) := by decide +kernel
theorem dX0_placesOfRule_32 : decode cX0_placesOfRule 32 = .ok (.if_icmp .ge 11, 3) := by decide +kernel
theorem dX0_placesOfRule_35 : decode cX0_placesOfRule 35 = .ok (.getstatic 90, 3) := by decide +kernel
theorem dX0_placesOfRule_38 : decode cX0_placesOfRule 38 = .ok (.iload_n 2, 1) := by decide +kernel
theorem dX0_placesOfRule_39 : decode cX0_placesOfRule 39 = .ok (.iaload, 1) := by decide +kernel
theorem dX0_placesOfRule_40 : decode cX0_placesOfRule 40 = .ok (.goto 4, 3) := by decide +kernel
theorem dX0_placesOfRule_43 : decode cX0_placesOfRule 43 = .ok (.iconst 0, 1) := by decide +kernel
theorem dX0_placesOfRule_44 : decode cX0_placesOfRule 44 = .ok (.ireturn, 1) := by decide +kernel
theorem dX0_isBetter_0 : decode cX0_isBetter 0 = .ok (.aload_n 0, 1) := by decide +kernel
theorem dX0_isBetter_1 : decode cX0_isBetter 1 = .ok (.iload_n 1, 1) := by decide +kernel
theorem dX0_isBetter_2 : decode cX0_isBetter 2 = .ok (.invokevirtual 93, 3) := by decide +kernel
theorem dX0_isBetter_5 : decode cX0_isBetter 5 = .ok (.aload_n 0, 1) := by decide +kernel
theorem dX0_isBetter_6 : decode cX0_isBetter 6 = .ok (.iload_n 2, 1) := by decide +kernel
theorem dX0_isBetter_7 : decode cX0_isBetter 7 = .ok (.invokevirtual 93, 3) := by decide +kernel
theorem dX0_isBetter_10 : decode cX0_isBetter 10 = .ok (.isub, 1) := by decide +kernel
theorem dX0_isBetter_11 : decode cX0_isBetter 11 = .ok (.istore_n 3, 1) := by decide +kernel
theorem dX0_isBetter_12 : decode cX0_isBetter 12 = .ok (.iload_n 3, 1) := by decide +kernel
theorem dX0_isBetter_13 : decode cX0_isBetter 13 = .ok (.ifCond .ne 23, 3) := by decide +kernel
theorem dX0_isBetter_16 : decode cX0_isBetter 16 = .ok (.aload_n 0, 1) := by decide +kernel
theorem dX0_isBetter_17 : decode cX0_isBetter 17 = .ok (.iload_n 1, 1) := by decide +kernel
theorem dX0_isBetter_18 : decode cX0_isBetter 18 = .ok (.iconst 1, 1) := by decide +kernel
theorem dX0_isBetter_19 : decode cX0_isBetter 19 = .ok (.invokevirtual 96, 3) := by decide +kernel
theorem dX0_isBetter_22 : decode cX0_isBetter 22 = .ok (.invokestatic 100, 3) := by decide +kernel
theorem dX0_isBetter_25 : decode cX0_isBetter 25 = .ok (.aload_n 0, 1) := by decide +kernel
theorem dX0_isBetter_26 : decode cX0_isBetter 26 = .ok (.iload_n 2, 1) := by decide +kernel
theorem dX0_isBetter_27 : decode cX0_isBetter 27 = .ok (.iconst 1, 1) := by decide +kernel
theorem dX0_isBetter_28 : decode cX0_isBetter 28 = .ok (.invokevirtual 96, 3) := by decide +kernel
theorem dX0_isBetter_31 : decode cX0_isBetter 31 = .ok (.invokestatic 100, 3) := by decide +kernel
theorem dX0_isBetter_34 : decode cX0_isBetter 34 = .ok (.isub, 1) := by decide +kernel
theorem dX0_isBetter_35 : decode cX0_isBetter 35 = .ok (.istore_n 3, 1) := by decide +kernel
theorem dX0_isBetter_36 : decode cX0_isBetter 36 = .ok (.iload_n 3, 1) := by decide +kernel
theorem dX0_isBetter_37 : decode cX0_isBetter 37 = .ok (.ifCond .ne 16, 3) := by decide +kernel
theorem dX0_isBetter_40 : decode cX0_isBetter 40 = .ok (.iload_n 1, 1) := by decide +kernel
theorem dX0_isBetter_41 : decode cX0_isBetter 41 = .ok (.iload_n 2, 1) := by decide +kernel
theorem dX0_isBetter_42 : decode cX0_isBetter 42 = .ok (.if_icmp .ge 7, 3) := by decide +kernel
theorem dX0_isBetter_45 : decode cX0_isBetter 45 = .ok (.iconst 1, 1) := by decide +kernel
theorem dX0_isBetter_46 : decode cX0_isBetter 46 = .ok (.goto 16, 3) := by decide +kernel
theorem dX0_isBetter_49 : decode cX0_isBetter 49 = .ok (.iconst 0, 1) := by decide +kernel
theorem dX0_isBetter_50 : decode cX0_isBetter 50 = .ok (.goto 12, 3) := by decide +kernel
theorem dX0_isBetter_53 : decode cX0_isBetter 53 = .ok (.iload_n 3, 1) := by decide +kernel
theorem dX0_isBetter_54 : decode cX0_isBetter 54 = .ok (.ifCond .le 7, 3) := by decide +kernel
theorem dX0_isBetter_57 : decode cX0_isBetter 57 = .ok (.iconst 1, 1) := by decide +kernel
theorem dX0_isBetter_58 : decode cX0_isBetter 58 = .ok (.goto 4, 3) := by decide +kernel
theorem dX0_isBetter_61 : decode cX0_isBetter 61 = .ok (.iconst 0, 1) := by decide +kernel
theorem dX0_isBetter_62 : decode cX0_isBetter 62 = .ok (.ireturn, 1) := by decide +kernel
theorem dX0_betterRules_0 : decode cX0_betterRules 0 = .ok (.iconst 0, 1) := by decide +kernel
theorem dX0_betterRules_1 : decode cX0_betterRules 1 = .ok (.istore_n 2, 1) := by decide +kernel
theorem dX0_betterRules_2 : decode cX0_betterRules 2 = .ok (.iconst 0, 1) := by decide +kernel
theorem dX0_betterRules_3 : decode cX0_betterRules 3 = .ok (.istore_n 3, 1) := by decide +kernel
theorem dX0_betterRules_4 : decode cX0_betterRules 4 = .ok (.iload_n 3, 1) := by decide +kernel
theorem dX0_betterRules_5 : decode cX0_betterRules 5 = .ok (.aload_n 0, 1) := by decide +kernel
theorem dX0_betterRules_6 : decode cX0_betterRules 6 = .ok (.getfield 44, 3) := by decide +kernel
theorem dX0_betterRules_9 : decode cX0_betterRules 9 = .ok (.if_icmp .ge 21, 3) := by decide +kernel
theorem dX0_betterRules_12 : decode cX0_betterRules 12 = .ok (.aload_n 0, 1) := by decide +kernel
theorem dX0_betterRules_13 : decode cX0_betterRules 13 = .ok (.iload_n 3, 1) := by decide +kernel
theorem dX0_betterRules_14 : decode cX0_betterRules 14 = .ok (.iload_n 1, 1) := by decide +kernel
theorem dX0_betterRules_15 : decode cX0_betterRules 15 = .ok (.invokevirtual 104, 3) := by decide +kernel
theorem dX0_betterRules_18 : decode cX0_betterRules 18 = .ok (.ifCond .eq 6, 3) := by decide +kernel
theorem dX0_betterRules_21 : decode cX0_betterRules 21 = .ok (.iinc 2 1, 3) := by decide +kernel
theorem dX0_betterRules_24 : decode cX0_betterRules 24 = .ok (.iinc 3 1, 3) := by decide +kernel
theorem dX0_betterRules_27 : decode cX0_betterRules 27 = .ok (.goto (-23), 3) := by decide +kernel
theorem dX0_betterRules_30 : decode cX0_betterRules 30 = .ok (.iload_n 2, 1) := by decide +kernel
theorem dX0_betterRules_31 : decode cX0_betterRules 31 = .ok (.ireturn, 1) := by decide +kernel
theorem dX0_isShadowedBy_0 : decode cX0_isShadowedBy 0 = .ok (.aload_n 0, 1) := by decide +kernel
theorem dX0_isShadowedBy_1 : decode cX0_isShadowedBy 1 = .ok (.iload_n 1, 1) := by decide +kernel
theorem dX0_isShadowedBy_2 : decode cX0_isShadowedBy 2 = .ok (.invokevirtual 108, 3) := by decide +kernel
theorem dX0_isShadowedBy_5 : decode cX0_isShadowedBy 5 = .ok (.bipush 7, 2) := by decide +kernel
theorem dX0_isShadowedBy_7 : decode cX0_isShadowedBy 7 = .ok (.aload_n 0, 1) := by decide +kernel
theorem dX0_isShadowedBy_8 : decode cX0_isShadowedBy 8 = .ok (.iload_n 2, 1) := by decide +kernel
theorem dX0_isShadowedBy_9 : decode cX0_isShadowedBy 9 = .ok (.invokevirtual 108, 3) := by decide +kernel
theorem dX0_isShadowedBy_12 : decode cX0_isShadowedBy 12 = .ok (.isub, 1) := by decide +kernel
theorem dX0_isShadowedBy_13 : decode cX0_isShadowedBy 13 = .ok (.iand, 1) := by decide +kernel
theorem dX0_isShadowedBy_14 : decode cX0_isShadowedBy 14 = .ok (.istore 4, 2) := by decide +kernel
theorem dX0_isShadowedBy_16 : decode cX0_isShadowedBy 16 = .ok (.aload_n 0, 1) := by decide +kernel
theorem dX0_isShadowedBy_17 : decode cX0_isShadowedBy 17 = .ok (.iload_n 1, 1) := by decide +kernel
theorem dX0_isShadowedBy_18 : decode cX0_isShadowedBy 18 = .ok (.iload_n 2, 1) := by decide +kernel
theorem dX0_isShadowedBy_19 : decode cX0_isShadowedBy 19 = .ok (.invokevirtual 111, 3) := by decide +kernel
theorem dX0_isShadowedBy_22 : decode cX0_isShadowedBy 22 = .ok (.ifCond .eq 37, 3) := by decide +kernel
theorem dX0_isShadowedBy_25 : decode cX0_isShadowedBy 25 = .ok (.aload_n 0, 1) := by decide +kernel
theorem dX0_isShadowedBy_26 : decode cX0_isShadowedBy 26 = .ok (.iload_n 2, 1) := by decide +kernel
theorem dX0_isShadowedBy_27 : decode cX0_isShadowedBy 27 = .ok (.iload_n 1, 1) := by decide +kernel
theorem dX0_isShadowedBy_28 : decode cX0_isShadowedBy 28 = .ok (.invokevirtual 104, 3) := by decide +kernel
theorem dX0_isShadowedBy_31 : decode cX0_isShadowedBy 31 = .ok (.ifCond .eq 28, 3) := by decide +kernel
theorem dX0_isShadowedBy_34 : decode cX0_isShadowedBy 34 = .ok (.aload_n 0, 1) := by decide +kernel
theorem dX0_isShadowedBy_35 : decode cX0_isShadowedBy 35 = .ok (.iload_n 1, 1) := by decide +kernel
theorem dX0_isShadowedBy_36 : decode cX0_isShadowedBy 36 = .ok (.iload_n 3, 1) := by decide +kernel
theorem dX0_isShadowedBy_37 : decode cX0_isShadowedBy 37 = .ok (.invokevirtual 96, 3) := by decide +kernel
theorem dX0_isShadowedBy_40 : decode cX0_isShadowedBy 40 = .ok (.aload_n 0, 1) := by decide +kernel
theorem dX0_isShadowedBy_41 : decode cX0_isShadowedBy 41 = .ok (.iload_n 2, 1) := by decide +kernel
theorem dX0_isShadowedBy_42 : decode cX0_isShadowedBy 42 = .ok (.iload_n 3, 1) := by decide +kernel
theorem dX0_isShadowedBy_43 : decode cX0_isShadowedBy 43 = .ok (.invokevirtual 96, 3) := by decide +kernel
theorem dX0_isShadowedBy_46 : decode cX0_isShadowedBy 46 = .ok (.lcmp, 1) := by decide +kernel
theorem dX0_isShadowedBy_47 : decode cX0_isShadowedBy 47 = .ok (.ifCond .ne 12, 3) := by decide +kernel
theorem dX0_isShadowedBy_50 : decode cX0_isShadowedBy 50 = .ok (.iload 4, 2) := by decide +kernel
theorem dX0_isShadowedBy_52 : decode cX0_isShadowedBy 52 = .ok (.ifCond .ne 7, 3) := by decide +kernel
theorem dX0_isShadowedBy_55 : decode cX0_isShadowedBy 55 = .ok (.iconst 1, 1) := by decide +kernel
theorem dX0_isShadowedBy_56 : decode cX0_isShadowedBy 56 = .ok (.goto 4, 3) := by decide +kernel
theorem dX0_isShadowedBy_59 : decode cX0_isShadowedBy 59 = .ok (.iconst 0, 1) := by decide +kernel
theorem dX0_isShadowedBy_60 : decode cX0_isShadowedBy 60 = .ok (.ireturn, 1) := by decide +kernel
theorem dX0_haveSameKind_0 : decode cX0_haveSameKind 0 = .ok (.iload_n 1, 1) := by decide +kernel
theorem dX0_haveSameKind_1 : decode cX0_haveSameKind 1 = .ok (.ifCond .lt 29, 3) := by decide +kernel
theorem dX0_haveSameKind_4 : decode cX0_haveSameKind 4 = .ok (.iload_n 1, 1) := by decide +kernel
theorem dX0_haveSameKind_5 : decode cX0_haveSameKind 5 = .ok (.aload_n 0, 1) := by decide +kernel
theorem dX0_haveSameKind_6 : decode cX0_haveSameKind 6 = .ok (.getfield 44, 3) := by decide +kernel
theorem dX0_haveSameKind_9 : decode cX0_haveSameKind 9 = .ok (.if_icmp .ge 21, 3) := by decide +kernel
theorem dX0_haveSameKind_12 : decode cX0_haveSameKind 12 = .ok (.aload_n 0, 1) := by decide +kernel
theorem dX0_haveSameKind_13 : decode cX0_haveSameKind 13 = .ok (.iload_n 2, 1) := by decide +kernel
theorem dX0_haveSameKind_14 : decode cX0_haveSameKind 14 = .ok (.aload_n 0, 1) := by decide +kernel
theorem dX0_haveSameKind_15 : decode cX0_haveSameKind 15 = .ok (.getfield 9, 3) := by decide +kernel
theorem dX0_haveSameKind_18 : decode cX0_haveSameKind 18 = .ok (.iload_n 1, 1) := by decide +kernel
theorem dX0_haveSameKind_19 : decode cX0_haveSameKind 19 = .ok (.iaload, 1) := by decide +kernel
theorem dX0_haveSameKind_20 : decode cX0_haveSameKind 20 = .ok (.invokevirtual 114, 3) := by decide +kernel
theorem dX0_haveSameKind_23 : decode cX0_haveSameKind 23 = .ok (.ifCond .eq 7, 3) := by decide +kernel
theorem dX0_haveSameKind_26 : decode cX0_haveSameKind 26 = .ok (.iconst 1, 1) := by decide +kernel
theorem dX0_haveSameKind_27 : decode cX0_haveSameKind 27 = .ok (.goto 4, 3) := by decide +kernel
theorem dX0_haveSameKind_30 : decode cX0_haveSameKind 30 = .ok (.iconst 0, 1) := by decide +kernel
theorem dX0_haveSameKind_31 : decode cX0_haveSameKind 31 = .ok (.ireturn, 1) := by decide +kernel
theorem dX0_collide_0 : decode cX0_collide 0 = .ok (.aload_n 0, 1) := by decide +kernel
theorem dX0_collide_1 : decode cX0_collide 1 = .ok (.iload_n 1, 1) := by decide +kernel
theorem dX0_collide_2 : decode cX0_collide 2 = .ok (.iload_n 2, 1) := by decide +kernel
theorem dX0_collide_3 : decode cX0_collide 3 = .ok (.invokevirtual 111, 3) := by decide +kernel
theorem dX0_collide_6 : decode cX0_collide 6 = .ok (.ifCond .eq 53, 3) := by decide +kernel
theorem dX0_collide_9 : decode cX0_collide 9 = .ok (.aload_n 0, 1) := by decide +kernel
theorem dX0_collide_10 : decode cX0_collide 10 = .ok (.iload_n 1, 1) := by decide +kernel
theorem dX0_collide_11 : decode cX0_collide 11 = .ok (.iconst 0, 1) := by decide +kernel
theorem dX0_collide_12 : decode cX0_collide 12 = .ok (.invokevirtual 96, 3) := by decide +kernel
theorem dX0_collide_15 : decode cX0_collide 15 = .ok (.aload_n 0, 1) := by decide +kernel
theorem dX0_collide_16 : decode cX0_collide 16 = .ok (.iload_n 2, 1) := by decide +kernel
theorem dX0_collide_17 : decode cX0_collide 17 = .ok (.iconst 0, 1) := by decide +kernel
theorem dX0_collide_18 : decode cX0_collide 18 = .ok (.invokevirtual 96, 3) := by decide +kernel
theorem dX0_collide_21 : decode cX0_collide 21 = .ok (.lcmp, 1) := by decide +kernel
theorem dX0_collide_22 : decode cX0_collide 22 = .ok (.ifCond .ne 37, 3) := by decide +kernel
theorem dX0_collide_25 : decode cX0_collide 25 = .ok (.aload_n 0, 1) := by decide +kernel
theorem dX0_collide_26 : decode cX0_collide 26 = .ok (.iload_n 1, 1) := by decide +kernel
theorem dX0_collide_27 : decode cX0_collide 27 = .ok (.iconst 1, 1) := by decide +kernel
theorem dX0_collide_28 : decode cX0_collide 28 = .ok (.invokevirtual 96, 3) := by decide +kernel
theorem dX0_collide_31 : decode cX0_collide 31 = .ok (.aload_n 0, 1) := by decide +kernel
theorem dX0_collide_32 : decode cX0_collide 32 = .ok (.iload_n 2, 1) := by decide +kernel
theorem dX0_collide_33 : decode cX0_collide 33 = .ok (.iconst 1, 1) := by decide +kernel
theorem dX0_collide_34 : decode cX0_collide 34 = .ok (.invokevirtual 96, 3) := by decide +kernel
theorem dX0_collide_37 : decode cX0_collide 37 = .ok (.lcmp, 1) := by decide +kernel
theorem dX0_collide_38 : decode cX0_collide 38 = .ok (.ifCond .eq 21, 3) := by decide +kernel
theorem dX0_collide_41 : decode cX0_collide 41 = .ok (.aload_n 0, 1) := by decide +kernel
theorem dX0_collide_42 : decode cX0_collide 42 = .ok (.iload_n 1, 1) := by decide +kernel
theorem dX0_collide_43 : decode cX0_collide 43 = .ok (.invokevirtual 108, 3) := by decide +kernel
theorem dX0_collide_46 : decode cX0_collide 46 = .ok (.aload_n 0, 1) := by decide +kernel
theorem dX0_collide_47 : decode cX0_collide 47 = .ok (.iload_n 2, 1) := by decide +kernel
theorem dX0_collide_48 : decode cX0_collide 48 = .ok (.invokevirtual 108, 3) := by decide +kernel
theorem dX0_collide_51 : decode cX0_collide 51 = .ok (.iand, 1) := by decide +kernel
theorem dX0_collide_52 : decode cX0_collide 52 = .ok (.ifCond .eq 7, 3) := by decide +kernel
theorem dX0_collide_55 : decode cX0_collide 55 = .ok (.iconst 1, 1) := by decide +kernel
theorem dX0_collide_56 : decode cX0_collide 56 = .ok (.goto 4, 3) := by decide +kernel
theorem dX0_collide_59 : decode cX0_collide 59 = .ok (.iconst 0, 1) := by decide +kernel
theorem dX0_collide_60 : decode cX0_collide 60 = .ok (.ireturn, 1) := by decide +kernel
theorem dX0_collisions_0 : decode cX0_collisions 0 = .ok (.iconst 0, 1) := by decide +kernel
theorem dX0_collisions_1 : decode cX0_collisions 1 = .ok (.istore_n 1, 1) := by decide +kernel
theorem dX0_collisions_2 : decode cX0_collisions 2 = .ok (.iconst 0, 1) := by decide +kernel
theorem dX0_collisions_3 : decode cX0_collisions 3 = .ok (.istore_n 2, 1) := by decide +kernel
theorem dX0_collisions_4 : decode cX0_collisions 4 = .ok (.iload_n 2, 1) := by decide +kernel
theorem dX0_collisions_5 : decode cX0_collisions 5 = .ok (.aload_n 0, 1) := by decide +kernel
theorem dX0_collisions_6 : decode cX0_collisions 6 = .ok (.getfield 44, 3) := by decide +kernel
theorem dX0_collisions_9 : decode cX0_collisions 9 = .ok (.if_icmp .ge 39, 3) := by decide +kernel
theorem dX0_collisions_12 : decode cX0_collisions 12 = .ok (.iload_n 2, 1) := by decide +kernel
theorem dX0_collisions_13 : decode cX0_collisions 13 = .ok (.iconst 1, 1) := by decide +kernel
theorem dX0_collisions_14 : decode cX0_collisions 14 = .ok (.iadd, 1) := by decide +kernel
theorem dX0_collisions_15 : decode cX0_collisions 15 = .ok (.istore_n 3, 1) := by decide +kernel
theorem dX0_collisions_16 : decode cX0_collisions 16 = .ok (.iload_n 3, 1) := by decide +kernel
theorem dX0_collisions_17 : decode cX0_collisions 17 = .ok (.aload_n 0, 1) := by decide +kernel
theorem dX0_collisions_18 : decode cX0_collisions 18 = .ok (.getfield 44, 3) := by decide +kernel
theorem dX0_collisions_21 : decode cX0_collisions 21 = .ok (.if_icmp .ge 21, 3) := by decide +kernel
theorem dX0_collisions_24 : decode cX0_collisions 24 = .ok (.aload_n 0, 1) := by decide +kernel
theorem dX0_collisions_25 : decode cX0_collisions 25 = .ok (.iload_n 2, 1) := by decide +kernel
theorem dX0_collisions_26 : decode cX0_collisions 26 = .ok (.iload_n 3, 1) := by decide +kernel
theorem dX0_collisions_27 : decode cX0_collisions 27 = .ok (.invokevirtual 117, 3) := by decide +kernel
theorem dX0_collisions_30 : decode cX0_collisions 30 = .ok (.ifCond .eq 6, 3) := by decide +kernel
theorem dX0_collisions_33 : decode cX0_collisions 33 = .ok (.iinc 1 1, 3) := by decide +kernel
theorem dX0_collisions_36 : decode cX0_collisions 36 = .ok (.iinc 3 1, 3) := by decide +kernel
theorem dX0_collisions_39 : decode cX0_collisions 39 = .ok (.goto (-23), 3) := by decide +kernel
theorem dX0_collisions_42 : decode cX0_collisions 42 = .ok (.iinc 2 1, 3) := by decide +kernel
theorem dX0_collisions_45 : decode cX0_collisions 45 = .ok (.goto (-41), 3) := by decide +kernel
theorem dX0_collisions_48 : decode cX0_collisions 48 = .ok (.iload_n 1, 1) := by decide +kernel
theorem dX0_collisions_49 : decode cX0_collisions 49 = .ok (.ireturn, 1) := by decide +kernel
theorem dX0_collidingRule_0 : decode cX0_collidingRule 0 = .ok (.iconst 0, 1) := by decide +kernel
theorem dX0_collidingRule_1 : decode cX0_collidingRule 1 = .ok (.istore_n 3, 1) := by decide +kernel
theorem dX0_collidingRule_2 : decode cX0_collidingRule 2 = .ok (.iconst 0, 1) := by decide +kernel
theorem dX0_collidingRule_3 : decode cX0_collidingRule 3 = .ok (.istore 4, 2) := by decide +kernel
theorem dX0_collidingRule_5 : decode cX0_collidingRule 5 = .ok (.iload 4, 2) := by decide +kernel
theorem dX0_collidingRule_7 : decode cX0_collidingRule 7 = .ok (.aload_n 0, 1) := by decide +kernel
theorem dX0_collidingRule_8 : decode cX0_collidingRule 8 = .ok (.getfield 44, 3) := by decide +kernel
theorem dX0_collidingRule_11 : decode cX0_collidingRule 11 = .ok (.if_icmp .ge 61, 3) := by decide +kernel
theorem dX0_collidingRule_14 : decode cX0_collidingRule 14 = .ok (.iload 4, 2) := by decide +kernel
theorem dX0_collidingRule_16 : decode cX0_collidingRule 16 = .ok (.iconst 1, 1) := by decide +kernel
theorem dX0_collidingRule_17 : decode cX0_collidingRule 17 = .ok (.iadd, 1) := by decide +kernel
theorem dX0_collidingRule_18 : decode cX0_collidingRule 18 = .ok (.istore 5, 2) := by decide +kernel
theorem dX0_collidingRule_20 : decode cX0_collidingRule 20 = .ok (.iload 5, 2) := by decide +kernel
theorem dX0_collidingRule_22 : decode cX0_collidingRule 22 = .ok (.aload_n 0, 1) := by decide +kernel
theorem dX0_collidingRule_23 : decode cX0_collidingRule 23 = .ok (.getfield 44, 3) := by decide +kernel
theorem dX0_collidingRule_26 : decode cX0_collidingRule 26 = .ok (.if_icmp .ge 40, 3) := by decide +kernel
theorem dX0_collidingRule_29 : decode cX0_collidingRule 29 = .ok (.aload_n 0, 1) := by decide +kernel
theorem dX0_collidingRule_30 : decode cX0_collidingRule 30 = .ok (.iload 4, 2) := by decide +kernel
theorem dX0_collidingRule_32 : decode cX0_collidingRule 32 = .ok (.iload 5, 2) := by decide +kernel
theorem dX0_collidingRule_34 : decode cX0_collidingRule 34 = .ok (.invokevirtual 117, 3) := by decide +kernel
theorem dX0_collidingRule_37 : decode cX0_collidingRule 37 = .ok (.ifCond .eq 23, 3) := by decide +kernel
theorem dX0_collidingRule_40 : decode cX0_collidingRule 40 = .ok (.iload_n 3, 1) := by decide +kernel
theorem dX0_collidingRule_41 : decode cX0_collidingRule 41 = .ok (.iload_n 1, 1) := by decide +kernel
theorem dX0_collidingRule_42 : decode cX0_collidingRule 42 = .ok (.if_icmp .ne 15, 3) := by decide +kernel
theorem dX0_collidingRule_45 : decode cX0_collidingRule 45 = .ok (.iload_n 2, 1) := by decide +kernel
theorem dX0_collidingRule_46 : decode cX0_collidingRule 46 = .ok (.ifCond .eq 8, 3) := by decide +kernel
theorem dX0_collidingRule_49 : decode cX0_collidingRule 49 = .ok (.iload 5, 2) := by decide +kernel
theorem dX0_collidingRule_51 : decode cX0_collidingRule 51 = .ok (.goto 5, 3) := by decide +kernel
theorem dX0_collidingRule_54 : decode cX0_collidingRule 54 = .ok (.iload 4, 2) := by decide +kernel
theorem dX0_collidingRule_56 : decode cX0_collidingRule 56 = .ok (.ireturn, 1) := by decide +kernel
theorem dX0_collidingRule_57 : decode cX0_collidingRule 57 = .ok (.iinc 3 1, 3) := by decide +kernel
theorem dX0_collidingRule_60 : decode cX0_collidingRule 60 = .ok (.iinc 5 1, 3) := by decide +kernel
theorem dX0_collidingRule_63 : decode cX0_collidingRule 63 = .ok (.goto (-43), 3) := by decide +kernel
theorem dX0_collidingRule_66 : decode cX0_collidingRule 66 = .ok (.iinc 4 1, 3) := by decide +kernel
theorem dX0_collidingRule_69 : decode cX0_collidingRule 69 = .ok (.goto (-64), 3) := by decide +kernel
theorem dX0_collidingRule_72 : decode cX0_collidingRule 72 = .ok (.iconst (-1), 1) := by decide +kernel
theorem dX0_collidingRule_73 : decode cX0_collidingRule 73 = .ok (.ireturn, 1) := by decide +kernel
theorem dX0_savingOf_0 : decode cX0_savingOf 0 = .ok (.aload_n 0, 1) := by decide +kernel
theorem dX0_savingOf_1 : decode cX0_savingOf 1 = .ok (.iload_n 1, 1) := by decide +kernel
theorem dX0_savingOf_2 : decode cX0_savingOf 2 = .ok (.iconst 1, 1) := by decide +kernel
theorem dX0_savingOf_3 : decode cX0_savingOf 3 = .ok (.invokevirtual 96, 3) := by decide +kernel
theorem dX0_savingOf_6 : decode cX0_savingOf 6 = .ok (.invokestatic 100, 3) := by decide +kernel
theorem dX0_savingOf_9 : decode cX0_savingOf 9 = .ok (.aload_n 0, 1) := by decide +kernel
theorem dX0_savingOf_10 : decode cX0_savingOf 10 = .ok (.iload_n 1, 1) := by decide +kernel
theorem dX0_savingOf_11 : decode cX0_savingOf 11 = .ok (.iconst 0, 1) := by decide +kernel
theorem dX0_savingOf_12 : decode cX0_savingOf 12 = .ok (.invokevirtual 96, 3) := by decide +kernel
theorem dX0_savingOf_15 : decode cX0_savingOf 15 = .ok (.invokestatic 100, 3) := by decide +kernel
theorem dX0_savingOf_18 : decode cX0_savingOf 18 = .ok (.isub, 1) := by decide +kernel
theorem dX0_savingOf_19 : decode cX0_savingOf 19 = .ok (.istore_n 2, 1) := by decide +kernel
theorem dX0_savingOf_20 : decode cX0_savingOf 20 = .ok (.aload_n 0, 1) := by decide +kernel
theorem dX0_savingOf_21 : decode cX0_savingOf 21 = .ok (.iload_n 1, 1) := by decide +kernel
theorem dX0_savingOf_22 : decode cX0_savingOf 22 = .ok (.iconst 0, 1) := by decide +kernel
theorem dX0_savingOf_23 : decode cX0_savingOf 23 = .ok (.invokevirtual 114, 3) := by decide +kernel
theorem dX0_savingOf_26 : decode cX0_savingOf 26 = .ok (.ifCond .eq 7, 3) := by decide +kernel
theorem dX0_savingOf_29 : decode cX0_savingOf 29 = .ok (.iload_n 2, 1) := by decide +kernel
theorem dX0_savingOf_30 : decode cX0_savingOf 30 = .ok (.goto 6, 3) := by decide +kernel
theorem dX0_savingOf_33 : decode cX0_savingOf 33 = .ok (.iconst 2, 1) := by decide +kernel
theorem dX0_savingOf_34 : decode cX0_savingOf 34 = .ok (.iload_n 2, 1) := by decide +kernel
theorem dX0_savingOf_35 : decode cX0_savingOf 35 = .ok (.imul, 1) := by decide +kernel
theorem dX0_savingOf_36 : decode cX0_savingOf 36 = .ok (.ireturn, 1) := by decide +kernel
theorem dX0_wordRule_0 : decode cX0_wordRule 0 = .ok (.iconst 0, 1) := by decide +kernel
theorem dX0_wordRule_1 : decode cX0_wordRule 1 = .ok (.istore 5, 2) := by decide +kernel
theorem dX0_wordRule_3 : decode cX0_wordRule 3 = .ok (.iload 5, 2) := by decide +kernel
theorem dX0_wordRule_5 : decode cX0_wordRule 5 = .ok (.aload_n 0, 1) := by decide +kernel
theorem dX0_wordRule_6 : decode cX0_wordRule 6 = .ok (.getfield 44, 3) := by decide +kernel
theorem dX0_wordRule_9 : decode cX0_wordRule 9 = .ok (.if_icmp .ge 46, 3) := by decide +kernel
theorem dX0_wordRule_12 : decode cX0_wordRule 12 = .ok (.aload_n 0, 1) := by decide +kernel
theorem dX0_wordRule_13 : decode cX0_wordRule 13 = .ok (.getfield 9, 3) := by decide +kernel
theorem dX0_wordRule_16 : decode cX0_wordRule 16 = .ok (.iload 5, 2) := by decide +kernel
theorem dX0_wordRule_18 : decode cX0_wordRule 18 = .ok (.iaload, 1) := by decide +kernel
theorem dX0_wordRule_19 : decode cX0_wordRule 19 = .ok (.ifCond .ne 30, 3) := by decide +kernel
theorem dX0_wordRule_22 : decode cX0_wordRule 22 = .ok (.aload_n 0, 1) := by decide +kernel
theorem dX0_wordRule_23 : decode cX0_wordRule 23 = .ok (.getfield 21, 3) := by decide +kernel
theorem dX0_wordRule_26 : decode cX0_wordRule 26 = .ok (.iload 5, 2) := by decide +kernel
theorem dX0_wordRule_28 : decode cX0_wordRule 28 = .ok (.laload, 1) := by decide +kernel
theorem dX0_wordRule_29 : decode cX0_wordRule 29 = .ok (.lload_n 1, 1) := by decide +kernel
theorem dX0_wordRule_30 : decode cX0_wordRule 30 = .ok (.lcmp, 1) := by decide +kernel
theorem dX0_wordRule_31 : decode cX0_wordRule 31 = .ok (.ifCond .ne 18, 3) := by decide +kernel
theorem dX0_wordRule_34 : decode cX0_wordRule 34 = .ok (.aload_n 0, 1) := by decide +kernel
theorem dX0_wordRule_35 : decode cX0_wordRule 35 = .ok (.getfield 25, 3) := by decide +kernel
theorem dX0_wordRule_38 : decode cX0_wordRule 38 = .ok (.iload 5, 2) := by decide +kernel
theorem dX0_wordRule_40 : decode cX0_wordRule 40 = .ok (.laload, 1) := by decide +kernel
theorem dX0_wordRule_41 : decode cX0_wordRule 41 = .ok (.lload_n 3, 1) := by decide +kernel
theorem dX0_wordRule_42 : decode cX0_wordRule 42 = .ok (.lcmp, 1) := by decide +kernel
theorem dX0_wordRule_43 : decode cX0_wordRule 43 = .ok (.ifCond .ne 6, 3) := by decide +kernel
theorem dX0_wordRule_46 : decode cX0_wordRule 46 = .ok (.iload 5, 2) := by decide +kernel
theorem dX0_wordRule_48 : decode cX0_wordRule 48 = .ok (.ireturn, 1) := by decide +kernel
theorem dX0_wordRule_49 : decode cX0_wordRule 49 = .ok (.iinc 5 1, 3) := by decide +kernel
theorem dX0_wordRule_52 : decode cX0_wordRule 52 = .ok (.goto (-49), 3) := by decide +kernel
theorem dX0_wordRule_55 : decode cX0_wordRule 55 = .ok (.iconst (-1), 1) := by decide +kernel
theorem dX0_wordRule_56 : decode cX0_wordRule 56 = .ok (.ireturn, 1) := by decide +kernel
theorem dX0_learnText_0 : decode cX0_learnText 0 = .ok (.iconst 0, 1) := by decide +kernel
theorem dX0_learnText_1 : decode cX0_learnText 1 = .ok (.istore_n 2, 1) := by decide +kernel
theorem dX0_learnText_2 : decode cX0_learnText 2 = .ok (.aload_n 1, 1) := by decide +kernel
theorem dX0_learnText_3 : decode cX0_learnText 3 = .ok (.invokestatic 120, 3) := by decide +kernel
theorem dX0_learnText_6 : decode cX0_learnText 6 = .ok (.iconst 1, 1) := by decide +kernel
theorem dX0_learnText_7 : decode cX0_learnText 7 = .ok (.iadd, 1) := by decide +kernel
theorem dX0_learnText_8 : decode cX0_learnText 8 = .ok (.istore_n 3, 1) := by decide +kernel
theorem dX0_learnText_9 : decode cX0_learnText 9 = .ok (.iconst 0, 1) := by decide +kernel
theorem dX0_learnText_10 : decode cX0_learnText 10 = .ok (.istore 4, 2) := by decide +kernel
theorem dX0_learnText_12 : decode cX0_learnText 12 = .ok (.iload 4, 2) := by decide +kernel
theorem dX0_learnText_14 : decode cX0_learnText 14 = .ok (.bipush 50, 2) := by decide +kernel
theorem dX0_learnText_16 : decode cX0_learnText 16 = .ok (.if_icmp .ge 73, 3) := by decide +kernel
theorem dX0_learnText_19 : decode cX0_learnText 19 = .ok (.iload_n 3, 1) := by decide +kernel
theorem dX0_learnText_20 : decode cX0_learnText 20 = .ok (.aload_n 1, 1) := by decide +kernel
theorem dX0_learnText_21 : decode cX0_learnText 21 = .ok (.invokevirtual 82, 3) := by decide +kernel
theorem dX0_learnText_24 : decode cX0_learnText 24 = .ok (.if_icmp .ge 65, 3) := by decide +kernel
theorem dX0_learnText_27 : decode cX0_learnText 27 = .ok (.aload_n 1, 1) := by decide +kernel
theorem dX0_learnText_28 : decode cX0_learnText 28 = .ok (.iload_n 2, 1) := by decide +kernel
theorem dX0_learnText_29 : decode cX0_learnText 29 = .ok (.invokevirtual 70, 3) := by decide +kernel
theorem dX0_learnText_32 : decode cX0_learnText 32 = .ok (.istore 5, 2) := by decide +kernel
theorem dX0_learnText_34 : decode cX0_learnText 34 = .ok (.aload_n 1, 1) := by decide +kernel
theorem dX0_learnText_35 : decode cX0_learnText 35 = .ok (.iload_n 3, 1) := by decide +kernel
theorem dX0_learnText_36 : decode cX0_learnText 36 = .ok (.invokevirtual 70, 3) := by decide +kernel
theorem dX0_learnText_39 : decode cX0_learnText 39 = .ok (.istore 6, 2) := by decide +kernel
theorem dX0_learnText_41 : decode cX0_learnText 41 = .ok (.iload 5, 2) := by decide +kernel
theorem dX0_learnText_43 : decode cX0_learnText 43 = .ok (.iload_n 2, 1) := by decide +kernel
theorem dX0_learnText_44 : decode cX0_learnText 44 = .ok (.isub, 1) := by decide +kernel
theorem dX0_learnText_45 : decode cX0_learnText 45 = .ok (.iload 6, 2) := by decide +kernel
theorem dX0_learnText_47 : decode cX0_learnText 47 = .ok (.iload_n 3, 1) := by decide +kernel
theorem dX0_learnText_48 : decode cX0_learnText 48 = .ok (.isub, 1) := by decide +kernel
theorem dX0_learnText_49 : decode cX0_learnText 49 = .ok (.invokestatic 124, 3) := by decide +kernel
theorem dX0_learnText_52 : decode cX0_learnText 52 = .ok (.ifCond .eq 21, 3) := by decide +kernel
theorem dX0_learnText_55 : decode cX0_learnText 55 = .ok (.aload_n 0, 1) := by decide +kernel
theorem dX0_learnText_56 : decode cX0_learnText 56 = .ok (.aload_n 1, 1) := by decide +kernel
theorem dX0_learnText_57 : decode cX0_learnText 57 = .ok (.iload_n 2, 1) := by decide +kernel
theorem dX0_learnText_58 : decode cX0_learnText 58 = .ok (.iload 5, 2) := by decide +kernel
theorem dX0_learnText_60 : decode cX0_learnText 60 = .ok (.invokestatic 76, 3) := by decide +kernel
theorem dX0_learnText_63 : decode cX0_learnText 63 = .ok (.aload_n 1, 1) := by decide +kernel
theorem dX0_learnText_64 : decode cX0_learnText 64 = .ok (.iload_n 3, 1) := by decide +kernel
theorem dX0_learnText_65 : decode cX0_learnText 65 = .ok (.iload 6, 2) := by decide +kernel
theorem dX0_learnText_67 : decode cX0_learnText 67 = .ok (.invokestatic 76, 3) := by decide +kernel
theorem dX0_learnText_70 : decode cX0_learnText 70 = .ok (.invokevirtual 127, 3) := by decide +kernel
theorem dX0_learnText_73 : decode cX0_learnText 73 = .ok (.iload 5, 2) := by decide +kernel
theorem dX0_learnText_75 : decode cX0_learnText 75 = .ok (.iconst 1, 1) := by decide +kernel
theorem dX0_learnText_76 : decode cX0_learnText 76 = .ok (.iadd, 1) := by decide +kernel
theorem dX0_learnText_77 : decode cX0_learnText 77 = .ok (.istore_n 2, 1) := by decide +kernel
theorem dX0_learnText_78 : decode cX0_learnText 78 = .ok (.iload 6, 2) := by decide +kernel
theorem dX0_learnText_80 : decode cX0_learnText 80 = .ok (.iconst 1, 1) := by decide +kernel
theorem dX0_learnText_81 : decode cX0_learnText 81 = .ok (.iadd, 1) := by decide +kernel
theorem dX0_learnText_82 : decode cX0_learnText 82 = .ok (.istore_n 3, 1) := by decide +kernel
theorem dX0_learnText_83 : decode cX0_learnText 83 = .ok (.iinc 4 1, 3) := by decide +kernel
theorem dX0_learnText_86 : decode cX0_learnText 86 = .ok (.goto (-74), 3) := by decide +kernel
theorem dX0_learnText_89 : decode cX0_learnText 89 = .ok (.return_, 1) := by decide +kernel
theorem dX0_equalsSign_0 : decode cX0_equalsSign 0 = .ok (.iconst 0, 1) := by decide +kernel
theorem dX0_equalsSign_1 : decode cX0_equalsSign 1 = .ok (.istore_n 1, 1) := by decide +kernel
theorem dX0_equalsSign_2 : decode cX0_equalsSign 2 = .ok (.iload_n 1, 1) := by decide +kernel
theorem dX0_equalsSign_3 : decode cX0_equalsSign 3 = .ok (.aload_n 0, 1) := by decide +kernel
theorem dX0_equalsSign_4 : decode cX0_equalsSign 4 = .ok (.invokevirtual 82, 3) := by decide +kernel
theorem dX0_equalsSign_7 : decode cX0_equalsSign 7 = .ok (.if_icmp .ge 19, 3) := by decide +kernel
theorem dX0_equalsSign_10 : decode cX0_equalsSign 10 = .ok (.aload_n 0, 1) := by decide +kernel
theorem dX0_equalsSign_11 : decode cX0_equalsSign 11 = .ok (.iload_n 1, 1) := by decide +kernel
theorem dX0_equalsSign_12 : decode cX0_equalsSign 12 = .ok (.invokevirtual 131, 3) := by decide +kernel
theorem dX0_equalsSign_15 : decode cX0_equalsSign 15 = .ok (.bipush 61, 2) := by decide +kernel
theorem dX0_equalsSign_17 : decode cX0_equalsSign 17 = .ok (.if_icmp .eq 9, 3) := by decide +kernel
theorem dX0_equalsSign_20 : decode cX0_equalsSign 20 = .ok (.iinc 1 1, 3) := by decide +kernel
theorem dX0_equalsSign_23 : decode cX0_equalsSign 23 = .ok (.goto (-21), 3) := by decide +kernel
theorem dX0_equalsSign_26 : decode cX0_equalsSign 26 = .ok (.iload_n 1, 1) := by decide +kernel
theorem dX0_equalsSign_27 : decode cX0_equalsSign 27 = .ok (.ireturn, 1) := by decide +kernel
theorem dX0_learnForms_0 : decode cX0_learnForms 0 = .ok (.aload_n 0, 1) := by decide +kernel
theorem dX0_learnForms_1 : decode cX0_learnForms 1 = .ok (.lload_n 1, 1) := by decide +kernel
theorem dX0_learnForms_2 : decode cX0_learnForms 2 = .ok (.lload_n 3, 1) := by decide +kernel
theorem dX0_learnForms_3 : decode cX0_learnForms 3 = .ok (.invokevirtual 135, 3) := by decide +kernel
theorem dX0_learnForms_6 : decode cX0_learnForms 6 = .ok (.istore 5, 2) := by decide +kernel
theorem dX0_learnForms_8 : decode cX0_learnForms 8 = .ok (.iload 5, 2) := by decide +kernel
theorem dX0_learnForms_10 : decode cX0_learnForms 10 = .ok (.bipush 30, 2) := by decide +kernel
theorem dX0_learnForms_12 : decode cX0_learnForms 12 = .ok (.if_icmp .lt 4, 3) := by decide +kernel
theorem dX0_learnForms_15 : decode cX0_learnForms 15 = .ok (.return_, 1) := by decide +kernel
theorem dX0_learnForms_16 : decode cX0_learnForms 16 = .ok (.iload 5, 2) := by decide +kernel
theorem dX0_learnForms_18 : decode cX0_learnForms 18 = .ok (.aload_n 0, 1) := by decide +kernel
theorem dX0_learnForms_19 : decode cX0_learnForms 19 = .ok (.getfield 47, 3) := by decide +kernel
theorem dX0_learnForms_22 : decode cX0_learnForms 22 = .ok (.if_icmp .ne 37, 3) := by decide +kernel
theorem dX0_learnForms_25 : decode cX0_learnForms 25 = .ok (.aload_n 0, 1) := by decide +kernel
theorem dX0_learnForms_26 : decode cX0_learnForms 26 = .ok (.getfield 31, 3) := by decide +kernel
theorem dX0_learnForms_29 : decode cX0_learnForms 29 = .ok (.iload 5, 2) := by decide +kernel
theorem dX0_learnForms_31 : decode cX0_learnForms 31 = .ok (.lload_n 1, 1) := by decide +kernel
theorem dX0_learnForms_32 : decode cX0_learnForms 32 = .ok (.lastore, 1) := by decide +kernel
theorem dX0_learnForms_33 : decode cX0_learnForms 33 = .ok (.aload_n 0, 1) := by decide +kernel
theorem dX0_learnForms_34 : decode cX0_learnForms 34 = .ok (.getfield 34, 3) := by decide +kernel
theorem dX0_learnForms_37 : decode cX0_learnForms 37 = .ok (.iload 5, 2) := by decide +kernel
theorem dX0_learnForms_39 : decode cX0_learnForms 39 = .ok (.lload_n 3, 1) := by decide +kernel
theorem dX0_learnForms_40 : decode cX0_learnForms 40 = .ok (.lastore, 1) := by decide +kernel
theorem dX0_learnForms_41 : decode cX0_learnForms 41 = .ok (.aload_n 0, 1) := by decide +kernel
theorem dX0_learnForms_42 : decode cX0_learnForms 42 = .ok (.getfield 28, 3) := by decide +kernel
theorem dX0_learnForms_45 : decode cX0_learnForms 45 = .ok (.iload 5, 2) := by decide +kernel
theorem dX0_learnForms_47 : decode cX0_learnForms 47 = .ok (.iconst 0, 1) := by decide +kernel
theorem dX0_learnForms_48 : decode cX0_learnForms 48 = .ok (.iastore, 1) := by decide +kernel
theorem dX0_learnForms_49 : decode cX0_learnForms 49 = .ok (.aload_n 0, 1) := by decide +kernel
theorem dX0_learnForms_50 : decode cX0_learnForms 50 = .ok (.dup, 1) := by decide +kernel
theorem dX0_learnForms_51 : decode cX0_learnForms 51 = .ok (.getfield 47, 3) := by decide +kernel
theorem dX0_learnForms_54 : decode cX0_learnForms 54 = .ok (.iconst 1, 1) := by decide +kernel
theorem dX0_learnForms_55 : decode cX0_learnForms 55 = .ok (.iadd, 1) := by decide +kernel
theorem dX0_learnForms_56 : decode cX0_learnForms 56 = .ok (.putfield 47, 3) := by decide +kernel
theorem dX0_learnForms_59 : decode cX0_learnForms 59 = .ok (.aload_n 0, 1) := by decide +kernel
theorem dX0_learnForms_60 : decode cX0_learnForms 60 = .ok (.getfield 28, 3) := by decide +kernel
theorem dX0_learnForms_63 : decode cX0_learnForms 63 = .ok (.iload 5, 2) := by decide +kernel
theorem dX0_learnForms_65 : decode cX0_learnForms 65 = .ok (.dup2, 1) := by decide +kernel
theorem dX0_learnForms_66 : decode cX0_learnForms 66 = .ok (.iaload, 1) := by decide +kernel
theorem dX0_learnForms_67 : decode cX0_learnForms 67 = .ok (.iconst 1, 1) := by decide +kernel
theorem dX0_learnForms_68 : decode cX0_learnForms 68 = .ok (.iadd, 1) := by decide +kernel
theorem dX0_learnForms_69 : decode cX0_learnForms 69 = .ok (.iastore, 1) := by decide +kernel
theorem dX0_learnForms_70 : decode cX0_learnForms 70 = .ok (.aload_n 0, 1) := by decide +kernel
theorem dX0_learnForms_71 : decode cX0_learnForms 71 = .ok (.getfield 28, 3) := by decide +kernel
theorem dX0_learnForms_74 : decode cX0_learnForms 74 = .ok (.iload 5, 2) := by decide +kernel
theorem dX0_learnForms_76 : decode cX0_learnForms 76 = .ok (.iaload, 1) := by decide +kernel
theorem dX0_learnForms_77 : decode cX0_learnForms 77 = .ok (.aload_n 0, 1) := by decide +kernel
theorem dX0_learnForms_78 : decode cX0_learnForms 78 = .ok (.getfield 41, 3) := by decide +kernel
theorem dX0_learnForms_81 : decode cX0_learnForms 81 = .ok (.if_icmp .ne 27, 3) := by decide +kernel
theorem dX0_learnForms_84 : decode cX0_learnForms 84 = .ok (.aload_n 0, 1) := by decide +kernel
theorem dX0_learnForms_85 : decode cX0_learnForms 85 = .ok (.lload_n 1, 1) := by decide +kernel
theorem dX0_learnForms_86 : decode cX0_learnForms 86 = .ok (.lload_n 3, 1) := by decide +kernel
theorem dX0_learnForms_87 : decode cX0_learnForms 87 = .ok (.invokevirtual 139, 3) := by decide +kernel
theorem dX0_learnForms_90 : decode cX0_learnForms 90 = .ok (.ifCond .ge 18, 3) := by decide +kernel
theorem dX0_learnForms_93 : decode cX0_learnForms 93 = .ok (.aload_n 0, 1) := by decide +kernel
theorem dX0_learnForms_94 : decode cX0_learnForms 94 = .ok (.iconst 0, 1) := by decide +kernel
theorem dX0_learnForms_95 : decode cX0_learnForms 95 = .ok (.bipush 10, 2) := by decide +kernel
theorem dX0_learnForms_97 : decode cX0_learnForms 97 = .ok (.aload_n 0, 1) := by decide +kernel
theorem dX0_learnForms_98 : decode cX0_learnForms 98 = .ok (.getfield 41, 3) := by decide +kernel
theorem dX0_learnForms_101 : decode cX0_learnForms 101 = .ok (.imul, 1) := by decide +kernel
theorem dX0_learnForms_102 : decode cX0_learnForms 102 = .ok (.iconst 0, 1) := by decide +kernel
theorem dX0_learnForms_103 : decode cX0_learnForms 103 = .ok (.lload_n 1, 1) := by decide +kernel
theorem dX0_learnForms_104 : decode cX0_learnForms 104 = .ok (.lload_n 3, 1) := by decide +kernel
theorem dX0_learnForms_105 : decode cX0_learnForms 105 = .ok (.invokevirtual 86, 3) := by decide +kernel
theorem dX0_learnForms_108 : decode cX0_learnForms 108 = .ok (.return_, 1) := by decide +kernel
theorem dX0_pairWith_0 : decode cX0_pairWith 0 = .ok (.iconst 0, 1) := by decide +kernel
theorem dX0_pairWith_1 : decode cX0_pairWith 1 = .ok (.istore 5, 2) := by decide +kernel
theorem dX0_pairWith_3 : decode cX0_pairWith 3 = .ok (.iload 5, 2) := by decide +kernel
theorem dX0_pairWith_5 : decode cX0_pairWith 5 = .ok (.aload_n 0, 1) := by decide +kernel
theorem dX0_pairWith_6 : decode cX0_pairWith 6 = .ok (.getfield 47, 3) := by decide +kernel
theorem dX0_pairWith_9 : decode cX0_pairWith 9 = .ok (.if_icmp .ge 36, 3) := by decide +kernel
theorem dX0_pairWith_12 : decode cX0_pairWith 12 = .ok (.aload_n 0, 1) := by decide +kernel
theorem dX0_pairWith_13 : decode cX0_pairWith 13 = .ok (.getfield 31, 3) := by decide +kernel
theorem dX0_pairWith_16 : decode cX0_pairWith 16 = .ok (.iload 5, 2) := by decide +kernel
theorem dX0_pairWith_18 : decode cX0_pairWith 18 = .ok (.laload, 1) := by decide +kernel
theorem dX0_pairWith_19 : decode cX0_pairWith 19 = .ok (.lload_n 1, 1) := by decide +kernel
theorem dX0_pairWith_20 : decode cX0_pairWith 20 = .ok (.lcmp, 1) := by decide +kernel
theorem dX0_pairWith_21 : decode cX0_pairWith 21 = .ok (.ifCond .ne 18, 3) := by decide +kernel
theorem dX0_pairWith_24 : decode cX0_pairWith 24 = .ok (.aload_n 0, 1) := by decide +kernel
theorem dX0_pairWith_25 : decode cX0_pairWith 25 = .ok (.getfield 34, 3) := by decide +kernel
theorem dX0_pairWith_28 : decode cX0_pairWith 28 = .ok (.iload 5, 2) := by decide +kernel
theorem dX0_pairWith_30 : decode cX0_pairWith 30 = .ok (.laload, 1) := by decide +kernel
theorem dX0_pairWith_31 : decode cX0_pairWith 31 = .ok (.lload_n 3, 1) := by decide +kernel
theorem dX0_pairWith_32 : decode cX0_pairWith 32 = .ok (.lcmp, 1) := by decide +kernel
theorem dX0_pairWith_33 : decode cX0_pairWith 33 = .ok (.ifCond .ne 6, 3) := by decide +kernel
theorem dX0_pairWith_36 : decode cX0_pairWith 36 = .ok (.iload 5, 2) := by decide +kernel
theorem dX0_pairWith_38 : decode cX0_pairWith 38 = .ok (.ireturn, 1) := by decide +kernel
theorem dX0_pairWith_39 : decode cX0_pairWith 39 = .ok (.iinc 5 1, 3) := by decide +kernel
theorem dX0_pairWith_42 : decode cX0_pairWith 42 = .ok (.goto (-39), 3) := by decide +kernel
theorem dX0_pairWith_45 : decode cX0_pairWith 45 = .ok (.aload_n 0, 1) := by decide +kernel
theorem dX0_pairWith_46 : decode cX0_pairWith 46 = .ok (.getfield 47, 3) := by decide +kernel
theorem dX0_pairWith_49 : decode cX0_pairWith 49 = .ok (.ireturn, 1) := by decide +kernel
theorem dX1_init_0 : decode cX1_init 0 = .ok (.aload_n 0, 1) := by decide +kernel
theorem dX1_init_1 : decode cX1_init 1 = .ok (.invokespecial 3, 3) := by decide +kernel
theorem dX1_init_4 : decode cX1_init 4 = .ok (.aload_n 0, 1) := by decide +kernel
theorem dX1_init_5 : decode cX1_init 5 = .ok (.aload_n 1, 1) := by decide +kernel
theorem dX1_init_6 : decode cX1_init 6 = .ok (.putfield 9, 3) := by decide +kernel
theorem dX1_init_9 : decode cX1_init 9 = .ok (.aload_n 0, 1) := by decide +kernel
theorem dX1_init_10 : decode cX1_init 10 = .ok (.iload_n 2, 1) := by decide +kernel
theorem dX1_init_11 : decode cX1_init 11 = .ok (.putfield 15, 3) := by decide +kernel
theorem dX1_init_14 : decode cX1_init 14 = .ok (.aload_n 0, 1) := by decide +kernel
theorem dX1_init_15 : decode cX1_init 15 = .ok (.iload_n 3, 1) := by decide +kernel
theorem dX1_init_16 : decode cX1_init 16 = .ok (.putfield 19, 3) := by decide +kernel
theorem dX1_init_19 : decode cX1_init 19 = .ok (.aload_n 0, 1) := by decide +kernel
theorem dX1_init_20 : decode cX1_init 20 = .ok (.iload 4, 2) := by decide +kernel
theorem dX1_init_22 : decode cX1_init 22 = .ok (.putfield 22, 3) := by decide +kernel
theorem dX1_init_25 : decode cX1_init 25 = .ok (.aload_n 0, 1) := by decide +kernel
theorem dX1_init_26 : decode cX1_init 26 = .ok (.iload 5, 2) := by decide +kernel
theorem dX1_init_28 : decode cX1_init 28 = .ok (.putfield 25, 3) := by decide +kernel
theorem dX1_init_31 : decode cX1_init 31 = .ok (.aload_n 0, 1) := by decide +kernel
theorem dX1_init_32 : decode cX1_init 32 = .ok (.aload 6, 2) := by decide +kernel
theorem dX1_init_34 : decode cX1_init 34 = .ok (.putfield 28, 3) := by decide +kernel
theorem dX1_init_37 : decode cX1_init 37 = .ok (.return_, 1) := by decide +kernel
theorem dX1_applyTo_0 : decode cX1_applyTo 0 = .ok (.aload_n 0, 1) := by decide +kernel
theorem dX1_applyTo_1 : decode cX1_applyTo 1 = .ok (.getfield 15, 3) := by decide +kernel
theorem dX1_applyTo_4 : decode cX1_applyTo 4 = .ok (.tableswitch 133 0 5 #[40, 70, 81, 96, 111, 122], 40) := by decide +kernel
theorem dX1_applyTo_44 : decode cX1_applyTo 44 = .ok (.aload_n 0, 1) := by decide +kernel
theorem dX1_applyTo_45 : decode cX1_applyTo 45 = .ok (.getfield 28, 3) := by decide +kernel
theorem dX1_applyTo_48 : decode cX1_applyTo 48 = .ok (.ifnull 104, 3) := by decide +kernel
theorem dX1_applyTo_51 : decode cX1_applyTo 51 = .ok (.aload_n 1, 1) := by decide +kernel
theorem dX1_applyTo_52 : decode cX1_applyTo 52 = .ok (.aload_n 0, 1) := by decide +kernel
theorem dX1_applyTo_53 : decode cX1_applyTo 53 = .ok (.getfield 19, 3) := by decide +kernel
theorem dX1_applyTo_56 : decode cX1_applyTo 56 = .ok (.aload_n 0, 1) := by decide +kernel
theorem dX1_applyTo_57 : decode cX1_applyTo 57 = .ok (.getfield 22, 3) := by decide +kernel
theorem dX1_applyTo_60 : decode cX1_applyTo 60 = .ok (.aload_n 0, 1) := by decide +kernel
theorem dX1_applyTo_61 : decode cX1_applyTo 61 = .ok (.getfield 25, 3) := by decide +kernel
theorem dX1_applyTo_64 : decode cX1_applyTo 64 = .ok (.aload_n 0, 1) := by decide +kernel
theorem dX1_applyTo_65 : decode cX1_applyTo 65 = .ok (.getfield 28, 3) := by decide +kernel
theorem dX1_applyTo_68 : decode cX1_applyTo 68 = .ok (.invokevirtual 32, 3) := by decide +kernel
theorem dX1_applyTo_71 : decode cX1_applyTo 71 = .ok (.goto 81, 3) := by decide +kernel
theorem dX1_applyTo_74 : decode cX1_applyTo 74 = .ok (.aload_n 1, 1) := by decide +kernel
theorem dX1_applyTo_75 : decode cX1_applyTo 75 = .ok (.aload_n 0, 1) := by decide +kernel
theorem dX1_applyTo_76 : decode cX1_applyTo 76 = .ok (.getfield 19, 3) := by decide +kernel
theorem dX1_applyTo_79 : decode cX1_applyTo 79 = .ok (.invokevirtual 38, 3) := by decide +kernel
theorem dX1_applyTo_82 : decode cX1_applyTo 82 = .ok (.goto 70, 3) := by decide +kernel
theorem dX1_applyTo_85 : decode cX1_applyTo 85 = .ok (.aload_n 1, 1) := by decide +kernel
theorem dX1_applyTo_86 : decode cX1_applyTo 86 = .ok (.aload_n 0, 1) := by decide +kernel
theorem dX1_applyTo_87 : decode cX1_applyTo 87 = .ok (.getfield 19, 3) := by decide +kernel
theorem dX1_applyTo_90 : decode cX1_applyTo 90 = .ok (.aload_n 0, 1) := by decide +kernel
theorem dX1_applyTo_91 : decode cX1_applyTo 91 = .ok (.getfield 22, 3) := by decide +kernel
theorem dX1_applyTo_94 : decode cX1_applyTo 94 = .ok (.invokevirtual 42, 3) := by decide +kernel
theorem dX1_applyTo_97 : decode cX1_applyTo 97 = .ok (.goto 55, 3) := by decide +kernel
theorem dX1_applyTo_100 : decode cX1_applyTo 100 = .ok (.aload_n 1, 1) := by decide +kernel
theorem dX1_applyTo_101 : decode cX1_applyTo 101 = .ok (.aload_n 0, 1) := by decide +kernel
theorem dX1_applyTo_102 : decode cX1_applyTo 102 = .ok (.getfield 19, 3) := by decide +kernel
theorem dX1_applyTo_105 : decode cX1_applyTo 105 = .ok (.aload_n 0, 1) := by decide +kernel
theorem dX1_applyTo_106 : decode cX1_applyTo 106 = .ok (.getfield 22, 3) := by decide +kernel
theorem dX1_applyTo_109 : decode cX1_applyTo 109 = .ok (.invokevirtual 46, 3) := by decide +kernel
theorem dX1_applyTo_112 : decode cX1_applyTo 112 = .ok (.goto 40, 3) := by decide +kernel
theorem dX1_applyTo_115 : decode cX1_applyTo 115 = .ok (.aload_n 1, 1) := by decide +kernel
theorem dX1_applyTo_116 : decode cX1_applyTo 116 = .ok (.aload_n 0, 1) := by decide +kernel
theorem dX1_applyTo_117 : decode cX1_applyTo 117 = .ok (.getfield 19, 3) := by decide +kernel
theorem dX1_applyTo_120 : decode cX1_applyTo 120 = .ok (.putfield 49, 3) := by decide +kernel
theorem dX1_applyTo_123 : decode cX1_applyTo 123 = .ok (.goto 29, 3) := by decide +kernel
theorem dX1_applyTo_126 : decode cX1_applyTo 126 = .ok (.aload_n 1, 1) := by decide +kernel
theorem dX1_applyTo_127 : decode cX1_applyTo 127 = .ok (.aload_n 0, 1) := by decide +kernel
theorem dX1_applyTo_128 : decode cX1_applyTo 128 = .ok (.getfield 19, 3) := by decide +kernel
theorem dX1_applyTo_131 : decode cX1_applyTo 131 = .ok (.putfield 52, 3) := by decide +kernel
theorem dX1_applyTo_134 : decode cX1_applyTo 134 = .ok (.goto 18, 3) := by decide +kernel
theorem dX1_applyTo_137 : decode cX1_applyTo 137 = .ok (.aload_n 0, 1) := by decide +kernel
theorem dX1_applyTo_138 : decode cX1_applyTo 138 = .ok (.getfield 28, 3) := by decide +kernel
theorem dX1_applyTo_141 : decode cX1_applyTo 141 = .ok (.ifnull 11, 3) := by decide +kernel
theorem dX1_applyTo_144 : decode cX1_applyTo 144 = .ok (.aload_n 1, 1) := by decide +kernel
theorem dX1_applyTo_145 : decode cX1_applyTo 145 = .ok (.aload_n 0, 1) := by decide +kernel
theorem dX1_applyTo_146 : decode cX1_applyTo 146 = .ok (.getfield 28, 3) := by decide +kernel
theorem dX1_applyTo_149 : decode cX1_applyTo 149 = .ok (.invokevirtual 55, 3) := by decide +kernel
theorem dX1_applyTo_152 : decode cX1_applyTo 152 = .ok (.return_, 1) := by decide +kernel
theorem dX2_of_0 : decode cX2_of 0 = .ok (.lconst 0, 1) := by decide +kernel
theorem dX2_of_1 : decode cX2_of 1 = .ok (.lstore_n 3, 1) := by decide +kernel
theorem dX2_of_2 : decode cX2_of 2 = .ok (.iload_n 2, 1) := by decide +kernel
theorem dX2_of_3 : decode cX2_of 3 = .ok (.iconst 1, 1) := by decide +kernel
theorem dX2_of_4 : decode cX2_of 4 = .ok (.isub, 1) := by decide +kernel
theorem dX2_of_5 : decode cX2_of 5 = .ok (.istore 5, 2) := by decide +kernel
theorem dX2_of_7 : decode cX2_of 7 = .ok (.iload 5, 2) := by decide +kernel
theorem dX2_of_9 : decode cX2_of 9 = .ok (.iload_n 1, 1) := by decide +kernel
theorem dX2_of_10 : decode cX2_of 10 = .ok (.if_icmp .lt 24, 3) := by decide +kernel
theorem dX2_of_13 : decode cX2_of 13 = .ok (.lload_n 3, 1) := by decide +kernel
theorem dX2_of_14 : decode cX2_of 14 = .ok (.iconst 5, 1) := by decide +kernel
theorem dX2_of_15 : decode cX2_of 15 = .ok (.lshl, 1) := by decide +kernel
theorem dX2_of_16 : decode cX2_of 16 = .ok (.aload_n 0, 1) := by decide +kernel
theorem dX2_of_17 : decode cX2_of 17 = .ok (.iload 5, 2) := by decide +kernel
theorem dX2_of_19 : decode cX2_of 19 = .ok (.invokevirtual 9, 3) := by decide +kernel
theorem dX2_of_22 : decode cX2_of 22 = .ok (.bipush 97, 2) := by decide +kernel
theorem dX2_of_24 : decode cX2_of 24 = .ok (.isub, 1) := by decide +kernel
theorem dX2_of_25 : decode cX2_of 25 = .ok (.i2l, 1) := by decide +kernel
theorem dX2_of_26 : decode cX2_of 26 = .ok (.lor, 1) := by decide +kernel
theorem dX2_of_27 : decode cX2_of 27 = .ok (.lstore_n 3, 1) := by decide +kernel
theorem dX2_of_28 : decode cX2_of 28 = .ok (.iinc 5 (-1), 3) := by decide +kernel
theorem dX2_of_31 : decode cX2_of 31 = .ok (.goto (-24), 3) := by decide +kernel
theorem dX2_of_34 : decode cX2_of 34 = .ok (.iload_n 2, 1) := by decide +kernel
theorem dX2_of_35 : decode cX2_of 35 = .ok (.iload_n 1, 1) := by decide +kernel
theorem dX2_of_36 : decode cX2_of 36 = .ok (.isub, 1) := by decide +kernel
theorem dX2_of_37 : decode cX2_of 37 = .ok (.i2l, 1) := by decide +kernel
theorem dX2_of_38 : decode cX2_of 38 = .ok (.bipush 60, 2) := by decide +kernel
theorem dX2_of_40 : decode cX2_of 40 = .ok (.lshl, 1) := by decide +kernel
theorem dX2_of_41 : decode cX2_of 41 = .ok (.lload_n 3, 1) := by decide +kernel
theorem dX2_of_42 : decode cX2_of 42 = .ok (.lor, 1) := by decide +kernel
theorem dX2_of_43 : decode cX2_of 43 = .ok (.lreturn, 1) := by decide +kernel
theorem dX2_lengthOf_0 : decode cX2_lengthOf 0 = .ok (.lload_n 0, 1) := by decide +kernel
theorem dX2_lengthOf_1 : decode cX2_lengthOf 1 = .ok (.bipush 60, 2) := by decide +kernel
theorem dX2_lengthOf_3 : decode cX2_lengthOf 3 = .ok (.lushr, 1) := by decide +kernel
theorem dX2_lengthOf_4 : decode cX2_lengthOf 4 = .ok (.l2i, 1) := by decide +kernel
theorem dX2_lengthOf_5 : decode cX2_lengthOf 5 = .ok (.ireturn, 1) := by decide +kernel
theorem dX2_letterAt_0 : decode cX2_letterAt 0 = .ok (.bipush 97, 2) := by decide +kernel
theorem dX2_letterAt_2 : decode cX2_letterAt 2 = .ok (.lload_n 0, 1) := by decide +kernel
theorem dX2_letterAt_3 : decode cX2_letterAt 3 = .ok (.iconst 5, 1) := by decide +kernel
theorem dX2_letterAt_4 : decode cX2_letterAt 4 = .ok (.iload_n 2, 1) := by decide +kernel
theorem dX2_letterAt_5 : decode cX2_letterAt 5 = .ok (.imul, 1) := by decide +kernel
theorem dX2_letterAt_6 : decode cX2_letterAt 6 = .ok (.lushr, 1) := by decide +kernel
theorem dX2_letterAt_7 : decode cX2_letterAt 7 = .ok (.ldc2_w 15, 3) := by decide +kernel
theorem dX2_letterAt_10 : decode cX2_letterAt 10 = .ok (.land, 1) := by decide +kernel
theorem dX2_letterAt_11 : decode cX2_letterAt 11 = .ok (.l2i, 1) := by decide +kernel
theorem dX2_letterAt_12 : decode cX2_letterAt 12 = .ok (.iadd, 1) := by decide +kernel
theorem dX2_letterAt_13 : decode cX2_letterAt 13 = .ok (.i2c, 1) := by decide +kernel
theorem dX2_letterAt_14 : decode cX2_letterAt 14 = .ok (.ireturn, 1) := by decide +kernel
theorem dX2_timesOf_0 : decode cX2_timesOf 0 = .ok (.iconst 0, 1) := by decide +kernel
theorem dX2_timesOf_1 : decode cX2_timesOf 1 = .ok (.istore_n 3, 1) := by decide +kernel
theorem dX2_timesOf_2 : decode cX2_timesOf 2 = .ok (.lload_n 0, 1) := by decide +kernel
theorem dX2_timesOf_3 : decode cX2_timesOf 3 = .ok (.invokestatic 17, 3) := by decide +kernel
theorem dX2_timesOf_6 : decode cX2_timesOf 6 = .ok (.istore 4, 2) := by decide +kernel
theorem dX2_timesOf_8 : decode cX2_timesOf 8 = .ok (.iconst 0, 1) := by decide +kernel
theorem dX2_timesOf_9 : decode cX2_timesOf 9 = .ok (.istore 5, 2) := by decide +kernel
theorem dX2_timesOf_11 : decode cX2_timesOf 11 = .ok (.iload 5, 2) := by decide +kernel
theorem dX2_timesOf_13 : decode cX2_timesOf 13 = .ok (.iload 4, 2) := by decide +kernel
theorem dX2_timesOf_15 : decode cX2_timesOf 15 = .ok (.if_icmp .ge 22, 3) := by decide +kernel
theorem dX2_timesOf_18 : decode cX2_timesOf 18 = .ok (.lload_n 0, 1) := by decide +kernel
theorem dX2_timesOf_19 : decode cX2_timesOf 19 = .ok (.iload 5, 2) := by decide +kernel
theorem dX2_timesOf_21 : decode cX2_timesOf 21 = .ok (.invokestatic 21, 3) := by decide +kernel
theorem dX2_timesOf_24 : decode cX2_timesOf 24 = .ok (.iload_n 2, 1) := by decide +kernel
theorem dX2_timesOf_25 : decode cX2_timesOf 25 = .ok (.if_icmp .ne 6, 3) := by decide +kernel
theorem dX2_timesOf_28 : decode cX2_timesOf 28 = .ok (.iinc 3 1, 3) := by decide +kernel
theorem dX2_timesOf_31 : decode cX2_timesOf 31 = .ok (.iinc 5 1, 3) := by decide +kernel
theorem dX2_timesOf_34 : decode cX2_timesOf 34 = .ok (.goto (-23), 3) := by decide +kernel
theorem dX2_timesOf_37 : decode cX2_timesOf 37 = .ok (.iload_n 3, 1) := by decide +kernel
theorem dX2_timesOf_38 : decode cX2_timesOf 38 = .ok (.ireturn, 1) := by decide +kernel
theorem dX3_init_0 : decode cX3_init 0 = .ok (.aload_n 0, 1) := by decide +kernel
theorem dX3_init_1 : decode cX3_init 1 = .ok (.invokespecial 3, 3) := by decide +kernel
theorem dX3_init_4 : decode cX3_init 4 = .ok (.aload_n 0, 1) := by decide +kernel
theorem dX3_init_5 : decode cX3_init 5 = .ok (.bipush 8, 2) := by decide +kernel
theorem dX3_init_7 : decode cX3_init 7 = .ok (.anewarray 9, 3) := by decide +kernel
theorem dX3_init_10 : decode cX3_init 10 = .ok (.putfield 11, 3) := by decide +kernel
theorem dX3_init_13 : decode cX3_init 13 = .ok (.iconst 0, 1) := by decide +kernel
theorem dX3_init_14 : decode cX3_init 14 = .ok (.istore_n 1, 1) := by decide +kernel
theorem dX3_init_15 : decode cX3_init 15 = .ok (.iload_n 1, 1) := by decide +kernel
theorem dX3_init_16 : decode cX3_init 16 = .ok (.aload_n 0, 1) := by decide +kernel
theorem dX3_init_17 : decode cX3_init 17 = .ok (.getfield 11, 3) := by decide +kernel
theorem dX3_init_20 : decode cX3_init 20 = .ok (.arraylength, 1) := by decide +kernel
theorem dX3_init_21 : decode cX3_init 21 = .ok (.if_icmp .ge 22, 3) := by decide +kernel
theorem dX3_init_24 : decode cX3_init 24 = .ok (.aload_n 0, 1) := by decide +kernel
theorem dX3_init_25 : decode cX3_init 25 = .ok (.getfield 11, 3) := by decide +kernel
theorem dX3_init_28 : decode cX3_init 28 = .ok (.iload_n 1, 1) := by decide +kernel
theorem dX3_init_29 : decode cX3_init 29 = .ok (.new 9, 3) := by decide +kernel
theorem dX3_init_32 : decode cX3_init 32 = .ok (.dup, 1) := by decide +kernel
theorem dX3_init_33 : decode cX3_init 33 = .ok (.invokespecial 17, 3) := by decide +kernel
theorem dX3_init_36 : decode cX3_init 36 = .ok (.aastore, 1) := by decide +kernel
theorem dX3_init_37 : decode cX3_init 37 = .ok (.iinc 1 1, 3) := by decide +kernel
theorem dX3_init_40 : decode cX3_init 40 = .ok (.goto (-25), 3) := by decide +kernel
theorem dX3_init_43 : decode cX3_init 43 = .ok (.return_, 1) := by decide +kernel
theorem dX3_forget_0 : decode cX3_forget 0 = .ok (.aload_n 0, 1) := by decide +kernel
theorem dX3_forget_1 : decode cX3_forget 1 = .ok (.iconst 0, 1) := by decide +kernel
theorem dX3_forget_2 : decode cX3_forget 2 = .ok (.putfield 18, 3) := by decide +kernel
theorem dX3_forget_5 : decode cX3_forget 5 = .ok (.return_, 1) := by decide +kernel
theorem dX3_keep_0 : decode cX3_keep 0 = .ok (.aload_n 0, 1) := by decide +kernel
theorem dX3_keep_1 : decode cX3_keep 1 = .ok (.getfield 18, 3) := by decide +kernel
theorem dX3_keep_4 : decode cX3_keep 4 = .ok (.aload_n 0, 1) := by decide +kernel
theorem dX3_keep_5 : decode cX3_keep 5 = .ok (.getfield 11, 3) := by decide +kernel
theorem dX3_keep_8 : decode cX3_keep 8 = .ok (.arraylength, 1) := by decide +kernel
theorem dX3_keep_9 : decode cX3_keep 9 = .ok (.if_icmp .ge 16, 3) := by decide +kernel
theorem dX3_keep_12 : decode cX3_keep 12 = .ok (.aload_n 0, 1) := by decide +kernel
theorem dX3_keep_13 : decode cX3_keep 13 = .ok (.dup, 1) := by decide +kernel
theorem dX3_keep_14 : decode cX3_keep 14 = .ok (.getfield 18, 3) := by decide +kernel
theorem dX3_keep_17 : decode cX3_keep 17 = .ok (.iconst 1, 1) := by decide +kernel
theorem dX3_keep_18 : decode cX3_keep 18 = .ok (.iadd, 1) := by decide +kernel
theorem dX3_keep_19 : decode cX3_keep 19 = .ok (.putfield 18, 3) := by decide +kernel
theorem dX3_keep_22 : decode cX3_keep 22 = .ok (.goto 7, 3) := by decide +kernel
theorem dX3_keep_25 : decode cX3_keep 25 = .ok (.aload_n 0, 1) := by decide +kernel
theorem dX3_keep_26 : decode cX3_keep 26 = .ok (.invokevirtual 22, 3) := by decide +kernel
theorem dX3_keep_29 : decode cX3_keep 29 = .ok (.aload_n 0, 1) := by decide +kernel
theorem dX3_keep_30 : decode cX3_keep 30 = .ok (.getfield 11, 3) := by decide +kernel
theorem dX3_keep_33 : decode cX3_keep 33 = .ok (.aload_n 0, 1) := by decide +kernel
theorem dX3_keep_34 : decode cX3_keep 34 = .ok (.getfield 18, 3) := by decide +kernel
theorem dX3_keep_37 : decode cX3_keep 37 = .ok (.iconst 1, 1) := by decide +kernel
theorem dX3_keep_38 : decode cX3_keep 38 = .ok (.isub, 1) := by decide +kernel
theorem dX3_keep_39 : decode cX3_keep 39 = .ok (.aaload, 1) := by decide +kernel
theorem dX3_keep_40 : decode cX3_keep 40 = .ok (.astore_n 2, 1) := by decide +kernel
theorem dX3_keep_41 : decode cX3_keep 41 = .ok (.aload_n 2, 1) := by decide +kernel
theorem dX3_keep_42 : decode cX3_keep 42 = .ok (.ifnull 8, 3) := by decide +kernel
theorem dX3_keep_45 : decode cX3_keep 45 = .ok (.aload_n 2, 1) := by decide +kernel
theorem dX3_keep_46 : decode cX3_keep 46 = .ok (.aload_n 1, 1) := by decide +kernel
theorem dX3_keep_47 : decode cX3_keep 47 = .ok (.invokevirtual 25, 3) := by decide +kernel
theorem dX3_keep_50 : decode cX3_keep 50 = .ok (.return_, 1) := by decide +kernel
theorem dX3_moveOldestToEnd_0 : decode cX3_moveOldestToEnd 0 = .ok (.aload_n 0, 1) := by decide +kernel
theorem dX3_moveOldestToEnd_1 : decode cX3_moveOldestToEnd 1 = .ok (.getfield 11, 3) := by decide +kernel
theorem dX3_moveOldestToEnd_4 : decode cX3_moveOldestToEnd 4 = .ok (.iconst 0, 1) := by decide +kernel
theorem dX3_moveOldestToEnd_5 : decode cX3_moveOldestToEnd 5 = .ok (.aaload, 1) := by decide +kernel
theorem dX3_moveOldestToEnd_6 : decode cX3_moveOldestToEnd 6 = .ok (.astore_n 1, 1) := by decide +kernel
theorem dX3_moveOldestToEnd_7 : decode cX3_moveOldestToEnd 7 = .ok (.iconst 1, 1) := by decide +kernel
theorem dX3_moveOldestToEnd_8 : decode cX3_moveOldestToEnd 8 = .ok (.istore_n 2, 1) := by decide +kernel
theorem dX3_moveOldestToEnd_9 : decode cX3_moveOldestToEnd 9 = .ok (.iload_n 2, 1) := by decide +kernel
theorem dX3_moveOldestToEnd_10 : decode cX3_moveOldestToEnd 10 = .ok (.aload_n 0, 1) := by decide +kernel
theorem dX3_moveOldestToEnd_11 : decode cX3_moveOldestToEnd 11 = .ok (.getfield 11, 3) := by decide +kernel
theorem dX3_moveOldestToEnd_14 : decode cX3_moveOldestToEnd 14 = .ok (.arraylength, 1) := by decide +kernel
theorem dX3_moveOldestToEnd_15 : decode cX3_moveOldestToEnd 15 = .ok (.if_icmp .ge 23, 3) := by decide +kernel
theorem dX3_moveOldestToEnd_18 : decode cX3_moveOldestToEnd 18 = .ok (.aload_n 0, 1) := by decide +kernel
theorem dX3_moveOldestToEnd_19 : decode cX3_moveOldestToEnd 19 = .ok (.getfield 11, 3) := by decide +kernel
theorem dX3_moveOldestToEnd_22 : decode cX3_moveOldestToEnd 22 = .ok (.iload_n 2, 1) := by decide +kernel
theorem dX3_moveOldestToEnd_23 : decode cX3_moveOldestToEnd 23 = .ok (.iconst 1, 1) := by decide +kernel
theorem dX3_moveOldestToEnd_24 : decode cX3_moveOldestToEnd 24 = .ok (.isub, 1) := by decide +kernel
theorem dX3_moveOldestToEnd_25 : decode cX3_moveOldestToEnd 25 = .ok (.aload_n 0, 1) := by decide +kernel
theorem dX3_moveOldestToEnd_26 : decode cX3_moveOldestToEnd 26 = .ok (.getfield 11, 3) := by decide +kernel
theorem dX3_moveOldestToEnd_29 : decode cX3_moveOldestToEnd 29 = .ok (.iload_n 2, 1) := by decide +kernel
theorem dX3_moveOldestToEnd_30 : decode cX3_moveOldestToEnd 30 = .ok (.aaload, 1) := by decide +kernel
theorem dX3_moveOldestToEnd_31 : decode cX3_moveOldestToEnd 31 = .ok (.aastore, 1) := by decide +kernel
theorem dX3_moveOldestToEnd_32 : decode cX3_moveOldestToEnd 32 = .ok (.iinc 2 1, 3) := by decide +kernel
theorem dX3_moveOldestToEnd_35 : decode cX3_moveOldestToEnd 35 = .ok (.goto (-26), 3) := by decide +kernel
theorem dX3_moveOldestToEnd_38 : decode cX3_moveOldestToEnd 38 = .ok (.aload_n 0, 1) := by decide +kernel
theorem dX3_moveOldestToEnd_39 : decode cX3_moveOldestToEnd 39 = .ok (.getfield 11, 3) := by decide +kernel
theorem dX3_moveOldestToEnd_42 : decode cX3_moveOldestToEnd 42 = .ok (.aload_n 0, 1) := by decide +kernel
theorem dX3_moveOldestToEnd_43 : decode cX3_moveOldestToEnd 43 = .ok (.getfield 11, 3) := by decide +kernel
theorem dX3_moveOldestToEnd_46 : decode cX3_moveOldestToEnd 46 = .ok (.arraylength, 1) := by decide +kernel
theorem dX3_moveOldestToEnd_47 : decode cX3_moveOldestToEnd 47 = .ok (.iconst 1, 1) := by decide +kernel
theorem dX3_moveOldestToEnd_48 : decode cX3_moveOldestToEnd 48 = .ok (.isub, 1) := by decide +kernel
theorem dX3_moveOldestToEnd_49 : decode cX3_moveOldestToEnd 49 = .ok (.aload_n 1, 1) := by decide +kernel
theorem dX3_moveOldestToEnd_50 : decode cX3_moveOldestToEnd 50 = .ok (.aastore, 1) := by decide +kernel
theorem dX3_moveOldestToEnd_51 : decode cX3_moveOldestToEnd 51 = .ok (.return_, 1) := by decide +kernel
theorem dX3_putBack_0 : decode cX3_putBack 0 = .ok (.aload_n 0, 1) := by decide +kernel
theorem dX3_putBack_1 : decode cX3_putBack 1 = .ok (.getfield 18, 3) := by decide +kernel
theorem dX3_putBack_4 : decode cX3_putBack 4 = .ok (.ifCond .le 32, 3) := by decide +kernel
theorem dX3_putBack_7 : decode cX3_putBack 7 = .ok (.aload_n 0, 1) := by decide +kernel
theorem dX3_putBack_8 : decode cX3_putBack 8 = .ok (.dup, 1) := by decide +kernel
theorem dX3_putBack_9 : decode cX3_putBack 9 = .ok (.getfield 18, 3) := by decide +kernel
theorem dX3_putBack_12 : decode cX3_putBack 12 = .ok (.iconst 1, 1) := by decide +kernel
theorem dX3_putBack_13 : decode cX3_putBack 13 = .ok (.isub, 1) := by decide +kernel
theorem dX3_putBack_14 : decode cX3_putBack 14 = .ok (.putfield 18, 3) := by decide +kernel
theorem dX3_putBack_17 : decode cX3_putBack 17 = .ok (.aload_n 0, 1) := by decide +kernel
theorem dX3_putBack_18 : decode cX3_putBack 18 = .ok (.getfield 11, 3) := by decide +kernel
theorem dX3_putBack_21 : decode cX3_putBack 21 = .ok (.aload_n 0, 1) := by decide +kernel
theorem dX3_putBack_22 : decode cX3_putBack 22 = .ok (.getfield 18, 3) := by decide +kernel
theorem dX3_putBack_25 : decode cX3_putBack 25 = .ok (.aaload, 1) := by decide +kernel
theorem dX3_putBack_26 : decode cX3_putBack 26 = .ok (.astore_n 2, 1) := by decide +kernel
theorem dX3_putBack_27 : decode cX3_putBack 27 = .ok (.aload_n 2, 1) := by decide +kernel
theorem dX3_putBack_28 : decode cX3_putBack 28 = .ok (.ifnull 8, 3) := by decide +kernel
theorem dX3_putBack_31 : decode cX3_putBack 31 = .ok (.aload_n 1, 1) := by decide +kernel
theorem dX3_putBack_32 : decode cX3_putBack 32 = .ok (.aload_n 2, 1) := by decide +kernel
theorem dX3_putBack_33 : decode cX3_putBack 33 = .ok (.invokevirtual 25, 3) := by decide +kernel
theorem dX3_putBack_36 : decode cX3_putBack 36 = .ok (.return_, 1) := by decide +kernel
theorem dX4_init_0 : decode cX4_init 0 = .ok (.aload_n 0, 1) := by decide +kernel
theorem dX4_init_1 : decode cX4_init 1 = .ok (.invokespecial 3, 3) := by decide +kernel
theorem dX4_init_4 : decode cX4_init 4 = .ok (.aload_n 0, 1) := by decide +kernel
theorem dX4_init_5 : decode cX4_init 5 = .ok (.new 9, 3) := by decide +kernel
theorem dX4_init_8 : decode cX4_init 8 = .ok (.dup, 1) := by decide +kernel
theorem dX4_init_9 : decode cX4_init 9 = .ok (.sipush 1200, 3) := by decide +kernel
theorem dX4_init_12 : decode cX4_init 12 = .ok (.invokespecial 11, 3) := by decide +kernel
theorem dX4_init_15 : decode cX4_init 15 = .ok (.putfield 14, 3) := by decide +kernel
theorem dX4_init_18 : decode cX4_init 18 = .ok (.aload_n 0, 1) := by decide +kernel
theorem dX4_init_19 : decode cX4_init 19 = .ok (.bipush 50, 2) := by decide +kernel
theorem dX4_init_21 : decode cX4_init 21 = .ok (.newarray .int, 2) := by decide +kernel
theorem dX4_init_23 : decode cX4_init 23 = .ok (.putfield 20, 3) := by decide +kernel
theorem dX4_init_26 : decode cX4_init 26 = .ok (.aload_n 0, 1) := by decide +kernel
theorem dX4_init_27 : decode cX4_init 27 = .ok (.bipush 50, 2) := by decide +kernel
theorem dX4_init_29 : decode cX4_init 29 = .ok (.newarray .int, 2) := by decide +kernel
theorem dX4_init_31 : decode cX4_init 31 = .ok (.putfield 24, 3) := by decide +kernel
theorem dX4_init_34 : decode cX4_init 34 = .ok (.aload_n 0, 1) := by decide +kernel
theorem dX4_init_35 : decode cX4_init 35 = .ok (.bipush 50, 2) := by decide +kernel
theorem dX4_init_37 : decode cX4_init 37 = .ok (.newarray .int, 2) := by decide +kernel
theorem dX4_init_39 : decode cX4_init 39 = .ok (.putfield 27, 3) := by decide +kernel
theorem dX4_init_42 : decode cX4_init 42 = .ok (.aload_n 0, 1) := by decide +kernel
theorem dX4_init_43 : decode cX4_init 43 = .ok (.bipush 50, 2) := by decide +kernel
theorem dX4_init_45 : decode cX4_init 45 = .ok (.newarray .int, 2) := by decide +kernel
theorem dX4_init_47 : decode cX4_init 47 = .ok (.putfield 30, 3) := by decide +kernel
theorem dX4_init_50 : decode cX4_init 50 = .ok (.aload_n 0, 1) := by decide +kernel
theorem dX4_init_51 : decode cX4_init 51 = .ok (.bipush 50, 2) := by decide +kernel
theorem dX4_init_53 : decode cX4_init 53 = .ok (.newarray .int, 2) := by decide +kernel
theorem dX4_init_55 : decode cX4_init 55 = .ok (.putfield 33, 3) := by decide +kernel
theorem dX4_init_58 : decode cX4_init 58 = .ok (.aload_n 0, 1) := by decide +kernel
theorem dX4_init_59 : decode cX4_init 59 = .ok (.bipush 50, 2) := by decide +kernel
theorem dX4_init_61 : decode cX4_init 61 = .ok (.newarray .int, 2) := by decide +kernel
theorem dX4_init_63 : decode cX4_init 63 = .ok (.putfield 36, 3) := by decide +kernel
theorem dX4_init_66 : decode cX4_init 66 = .ok (.return_, 1) := by decide +kernel
theorem dX4_begin_0 : decode cX4_begin 0 = .ok (.aload_n 0, 1) := by decide +kernel
theorem dX4_begin_1 : decode cX4_begin 1 = .ok (.getfield 14, 3) := by decide +kernel
theorem dX4_begin_4 : decode cX4_begin 4 = .ok (.invokevirtual 39, 3) := by decide +kernel
theorem dX4_begin_7 : decode cX4_begin 7 = .ok (.aload_n 0, 1) := by decide +kernel
theorem dX4_begin_8 : decode cX4_begin 8 = .ok (.iconst 0, 1) := by decide +kernel
theorem dX4_begin_9 : decode cX4_begin 9 = .ok (.putfield 42, 3) := by decide +kernel
theorem dX4_begin_12 : decode cX4_begin 12 = .ok (.aload_n 0, 1) := by decide +kernel
theorem dX4_begin_13 : decode cX4_begin 13 = .ok (.iload_n 1, 1) := by decide +kernel
theorem dX4_begin_14 : decode cX4_begin 14 = .ok (.putfield 46, 3) := by decide +kernel
theorem dX4_begin_17 : decode cX4_begin 17 = .ok (.aload_n 0, 1) := by decide +kernel
theorem dX4_begin_18 : decode cX4_begin 18 = .ok (.iconst 0, 1) := by decide +kernel
theorem dX4_begin_19 : decode cX4_begin 19 = .ok (.putfield 49, 3) := by decide +kernel
theorem dX4_begin_22 : decode cX4_begin 22 = .ok (.aload_n 0, 1) := by decide +kernel
theorem dX4_begin_23 : decode cX4_begin 23 = .ok (.iconst 0, 1) := by decide +kernel
theorem dX4_begin_24 : decode cX4_begin 24 = .ok (.putfield 52, 3) := by decide +kernel
theorem dX4_begin_27 : decode cX4_begin 27 = .ok (.aload_n 0, 1) := by decide +kernel
theorem dX4_begin_28 : decode cX4_begin 28 = .ok (.iconst 0, 1) := by decide +kernel
theorem dX4_begin_29 : decode cX4_begin 29 = .ok (.putfield 55, 3) := by decide +kernel
theorem dX4_begin_32 : decode cX4_begin 32 = .ok (.aload_n 0, 1) := by decide +kernel
theorem dX4_begin_33 : decode cX4_begin 33 = .ok (.iload_n 2, 1) := by decide +kernel
theorem dX4_begin_34 : decode cX4_begin 34 = .ok (.putfield 58, 3) := by decide +kernel
theorem dX4_begin_37 : decode cX4_begin 37 = .ok (.aload_n 0, 1) := by decide +kernel
theorem dX4_begin_38 : decode cX4_begin 38 = .ok (.iconst 1, 1) := by decide +kernel
theorem dX4_begin_39 : decode cX4_begin 39 = .ok (.putfield 62, 3) := by decide +kernel
theorem dX4_begin_42 : decode cX4_begin 42 = .ok (.return_, 1) := by decide +kernel
theorem dX4_record_0 : decode cX4_record 0 = .ok (.aload_n 0, 1) := by decide +kernel
theorem dX4_record_1 : decode cX4_record 1 = .ok (.getfield 42, 3) := by decide +kernel
theorem dX4_record_4 : decode cX4_record 4 = .ok (.bipush 50, 2) := by decide +kernel
theorem dX4_record_6 : decode cX4_record 6 = .ok (.if_icmp .lt 4, 3) := by decide +kernel
theorem dX4_record_9 : decode cX4_record 9 = .ok (.return_, 1) := by decide +kernel
theorem dX4_record_10 : decode cX4_record 10 = .ok (.aload_n 0, 1) := by decide +kernel
theorem dX4_record_11 : decode cX4_record 11 = .ok (.getfield 42, 3) := by decide +kernel
theorem dX4_record_14 : decode cX4_record 14 = .ok (.ifCond .le 12, 3) := by decide +kernel
theorem dX4_record_17 : decode cX4_record 17 = .ok (.aload_n 0, 1) := by decide +kernel
theorem dX4_record_18 : decode cX4_record 18 = .ok (.getfield 14, 3) := by decide +kernel
theorem dX4_record_21 : decode cX4_record 21 = .ok (.bipush 32, 2) := by decide +kernel
theorem dX4_record_23 : decode cX4_record 23 = .ok (.invokevirtual 65, 3) := by decide +kernel
theorem dX4_record_26 : decode cX4_record 26 = .ok (.aload_n 0, 1) := by decide +kernel
theorem dX4_record_27 : decode cX4_record 27 = .ok (.getfield 20, 3) := by decide +kernel
theorem dX4_record_30 : decode cX4_record 30 = .ok (.aload_n 0, 1) := by decide +kernel
theorem dX4_record_31 : decode cX4_record 31 = .ok (.getfield 42, 3) := by decide +kernel
theorem dX4_record_34 : decode cX4_record 34 = .ok (.aload_n 1, 1) := by decide +kernel
theorem dX4_record_35 : decode cX4_record 35 = .ok (.getfield 69, 3) := by decide +kernel
theorem dX4_record_38 : decode cX4_record 38 = .ok (.iastore, 1) := by decide +kernel
theorem dX4_record_39 : decode cX4_record 39 = .ok (.aload_n 0, 1) := by decide +kernel
theorem dX4_record_40 : decode cX4_record 40 = .ok (.getfield 24, 3) := by decide +kernel
theorem dX4_record_43 : decode cX4_record 43 = .ok (.aload_n 0, 1) := by decide +kernel
theorem dX4_record_44 : decode cX4_record 44 = .ok (.getfield 42, 3) := by decide +kernel
theorem dX4_record_47 : decode cX4_record 47 = .ok (.aload_n 1, 1) := by decide +kernel
theorem dX4_record_48 : decode cX4_record 48 = .ok (.getfield 74, 3) := by decide +kernel
theorem dX4_record_51 : decode cX4_record 51 = .ok (.iastore, 1) := by decide +kernel
theorem dX4_record_52 : decode cX4_record 52 = .ok (.aload_n 0, 1) := by decide +kernel
theorem dX4_record_53 : decode cX4_record 53 = .ok (.getfield 27, 3) := by decide +kernel
theorem dX4_record_56 : decode cX4_record 56 = .ok (.aload_n 0, 1) := by decide +kernel
theorem dX4_record_57 : decode cX4_record 57 = .ok (.getfield 42, 3) := by decide +kernel
theorem dX4_record_60 : decode cX4_record 60 = .ok (.aload_n 1, 1) := by decide +kernel
theorem dX4_record_61 : decode cX4_record 61 = .ok (.getfield 77, 3) := by decide +kernel
theorem dX4_record_64 : decode cX4_record 64 = .ok (.iastore, 1) := by decide +kernel
theorem dX4_record_65 : decode cX4_record 65 = .ok (.aload_n 0, 1) := by decide +kernel
theorem dX4_record_66 : decode cX4_record 66 = .ok (.getfield 30, 3) := by decide +kernel
theorem dX4_record_69 : decode cX4_record 69 = .ok (.aload_n 0, 1) := by decide +kernel
theorem dX4_record_70 : decode cX4_record 70 = .ok (.getfield 42, 3) := by decide +kernel
theorem dX4_record_73 : decode cX4_record 73 = .ok (.iload_n 2, 1) := by decide +kernel
theorem dX4_record_74 : decode cX4_record 74 = .ok (.iastore, 1) := by decide +kernel
theorem dX4_record_75 : decode cX4_record 75 = .ok (.aload_n 0, 1) := by decide +kernel
theorem dX4_record_76 : decode cX4_record 76 = .ok (.getfield 33, 3) := by decide +kernel
theorem dX4_record_79 : decode cX4_record 79 = .ok (.aload_n 0, 1) := by decide +kernel
theorem dX4_record_80 : decode cX4_record 80 = .ok (.getfield 42, 3) := by decide +kernel
theorem dX4_record_83 : decode cX4_record 83 = .ok (.aload_n 1, 1) := by decide +kernel
theorem dX4_record_84 : decode cX4_record 84 = .ok (.getfield 80, 3) := by decide +kernel
theorem dX4_record_87 : decode cX4_record 87 = .ok (.invokevirtual 83, 3) := by decide +kernel
theorem dX4_record_90 : decode cX4_record 90 = .ok (.iastore, 1) := by decide +kernel
theorem dX4_record_91 : decode cX4_record 91 = .ok (.aload_n 0, 1) := by decide +kernel
theorem dX4_record_92 : decode cX4_record 92 = .ok (.getfield 36, 3) := by decide +kernel
theorem dX4_record_95 : decode cX4_record 95 = .ok (.aload_n 0, 1) := by decide +kernel
theorem dX4_record_96 : decode cX4_record 96 = .ok (.getfield 42, 3) := by decide +kernel
theorem dX4_record_99 : decode cX4_record 99 = .ok (.aload_n 0, 1) := by decide +kernel
theorem dX4_record_100 : decode cX4_record 100 = .ok (.getfield 14, 3) := by decide +kernel
theorem dX4_record_103 : decode cX4_record 103 = .ok (.invokevirtual 83, 3) := by decide +kernel
theorem dX4_record_106 : decode cX4_record 106 = .ok (.iastore, 1) := by decide +kernel
theorem dX4_record_107 : decode cX4_record 107 = .ok (.aload_n 0, 1) := by decide +kernel
theorem dX4_record_108 : decode cX4_record 108 = .ok (.dup, 1) := by decide +kernel
theorem dX4_record_109 : decode cX4_record 109 = .ok (.getfield 42, 3) := by decide +kernel
theorem dX4_record_112 : decode cX4_record 112 = .ok (.iconst 1, 1) := by decide +kernel
theorem dX4_record_113 : decode cX4_record 113 = .ok (.iadd, 1) := by decide +kernel
theorem dX4_record_114 : decode cX4_record 114 = .ok (.putfield 42, 3) := by decide +kernel
theorem dX4_record_117 : decode cX4_record 117 = .ok (.aload_n 0, 1) := by decide +kernel
theorem dX4_record_118 : decode cX4_record 118 = .ok (.aload_n 1, 1) := by decide +kernel
theorem dX4_record_119 : decode cX4_record 119 = .ok (.invokevirtual 87, 3) := by decide +kernel
theorem dX4_record_122 : decode cX4_record 122 = .ok (.aload_n 0, 1) := by decide +kernel
theorem dX4_record_123 : decode cX4_record 123 = .ok (.aload_n 1, 1) := by decide +kernel
theorem dX4_record_124 : decode cX4_record 124 = .ok (.getfield 74, 3) := by decide +kernel
theorem dX4_record_127 : decode cX4_record 127 = .ok (.aload_n 3, 1) := by decide +kernel
theorem dX4_record_128 : decode cX4_record 128 = .ok (.invokevirtual 91, 3) := by decide +kernel
theorem dX4_record_131 : decode cX4_record 131 = .ok (.aload_n 0, 1) := by decide +kernel
theorem dX4_record_132 : decode cX4_record 132 = .ok (.aload_n 1, 1) := by decide +kernel
theorem dX4_record_133 : decode cX4_record 133 = .ok (.getfield 77, 3) := by decide +kernel
theorem dX4_record_136 : decode cX4_record 136 = .ok (.aload_n 3, 1) := by decide +kernel
theorem dX4_record_137 : decode cX4_record 137 = .ok (.invokevirtual 91, 3) := by decide +kernel
theorem dX4_record_140 : decode cX4_record 140 = .ok (.return_, 1) := by decide +kernel
theorem dX4_writeWord_0 : decode cX4_writeWord 0 = .ok (.aload_n 1, 1) := by decide +kernel
theorem dX4_writeWord_1 : decode cX4_writeWord 1 = .ok (.getfield 95, 3) := by decide +kernel
theorem dX4_writeWord_4 : decode cX4_writeWord 4 = .ok (.ifCond .eq 22, 3) := by decide +kernel
theorem dX4_writeWord_7 : decode cX4_writeWord 7 = .ok (.aload_n 0, 1) := by decide +kernel
theorem dX4_writeWord_8 : decode cX4_writeWord 8 = .ok (.getfield 14, 3) := by decide +kernel
theorem dX4_writeWord_11 : decode cX4_writeWord 11 = .ok (.bipush 39, 2) := by decide +kernel
theorem dX4_writeWord_13 : decode cX4_writeWord 13 = .ok (.invokevirtual 65, 3) := by decide +kernel
theorem dX4_writeWord_16 : decode cX4_writeWord 16 = .ok (.aload_n 0, 1) := by decide +kernel
theorem dX4_writeWord_17 : decode cX4_writeWord 17 = .ok (.dup, 1) := by decide +kernel
theorem dX4_writeWord_18 : decode cX4_writeWord 18 = .ok (.getfield 55, 3) := by decide +kernel
theorem dX4_writeWord_21 : decode cX4_writeWord 21 = .ok (.iconst 1, 1) := by decide +kernel
theorem dX4_writeWord_22 : decode cX4_writeWord 22 = .ok (.iadd, 1) := by decide +kernel
theorem dX4_writeWord_23 : decode cX4_writeWord 23 = .ok (.putfield 55, 3) := by decide +kernel
theorem dX4_writeWord_26 : decode cX4_writeWord 26 = .ok (.aload_n 0, 1) := by decide +kernel
theorem dX4_writeWord_27 : decode cX4_writeWord 27 = .ok (.getfield 14, 3) := by decide +kernel
theorem dX4_writeWord_30 : decode cX4_writeWord 30 = .ok (.aload_n 1, 1) := by decide +kernel
theorem dX4_writeWord_31 : decode cX4_writeWord 31 = .ok (.getfield 80, 3) := by decide +kernel
theorem dX4_writeWord_34 : decode cX4_writeWord 34 = .ok (.iconst 0, 1) := by decide +kernel
theorem dX4_writeWord_35 : decode cX4_writeWord 35 = .ok (.aload_n 1, 1) := by decide +kernel
theorem dX4_writeWord_36 : decode cX4_writeWord 36 = .ok (.getfield 80, 3) := by decide +kernel
theorem dX4_writeWord_39 : decode cX4_writeWord 39 = .ok (.invokevirtual 83, 3) := by decide +kernel
theorem dX4_writeWord_42 : decode cX4_writeWord 42 = .ok (.invokevirtual 98, 3) := by decide +kernel
theorem dX4_writeWord_45 : decode cX4_writeWord 45 = .ok (.return_, 1) := by decide +kernel
theorem dX4_countUse_0 : decode cX4_countUse 0 = .ok (.iload_n 1, 1) := by decide +kernel
theorem dX4_countUse_1 : decode cX4_countUse 1 = .ok (.ifCond .lt 27, 3) := by decide +kernel
theorem dX4_countUse_4 : decode cX4_countUse 4 = .ok (.aload_n 0, 1) := by decide +kernel
theorem dX4_countUse_5 : decode cX4_countUse 5 = .ok (.dup, 1) := by decide +kernel
theorem dX4_countUse_6 : decode cX4_countUse 6 = .ok (.getfield 49, 3) := by decide +kernel
theorem dX4_countUse_9 : decode cX4_countUse 9 = .ok (.iconst 1, 1) := by decide +kernel
theorem dX4_countUse_10 : decode cX4_countUse 10 = .ok (.iadd, 1) := by decide +kernel
theorem dX4_countUse_11 : decode cX4_countUse 11 = .ok (.putfield 49, 3) := by decide +kernel
theorem dX4_countUse_14 : decode cX4_countUse 14 = .ok (.aload_n 0, 1) := by decide +kernel
theorem dX4_countUse_15 : decode cX4_countUse 15 = .ok (.dup, 1) := by decide +kernel
theorem dX4_countUse_16 : decode cX4_countUse 16 = .ok (.getfield 52, 3) := by decide +kernel
theorem dX4_countUse_19 : decode cX4_countUse 19 = .ok (.aload_n 2, 1) := by decide +kernel
theorem dX4_countUse_20 : decode cX4_countUse 20 = .ok (.iload_n 1, 1) := by decide +kernel
theorem dX4_countUse_21 : decode cX4_countUse 21 = .ok (.invokevirtual 102, 3) := by decide +kernel
theorem dX4_countUse_24 : decode cX4_countUse 24 = .ok (.iadd, 1) := by decide +kernel
theorem dX4_countUse_25 : decode cX4_countUse 25 = .ok (.putfield 52, 3) := by decide +kernel
theorem dX4_countUse_28 : decode cX4_countUse 28 = .ok (.return_, 1) := by decide +kernel
theorem dX5_init_0 : decode cX5_init 0 = .ok (.aload_n 0, 1) := by decide +kernel
theorem dX5_init_1 : decode cX5_init 1 = .ok (.invokespecial 3, 3) := by decide +kernel
theorem dX5_init_4 : decode cX5_init 4 = .ok (.aload_n 0, 1) := by decide +kernel
theorem dX5_init_5 : decode cX5_init 5 = .ok (.bipush 50, 2) := by decide +kernel
theorem dX5_init_7 : decode cX5_init 7 = .ok (.newarray .int, 2) := by decide +kernel
theorem dX5_init_9 : decode cX5_init 9 = .ok (.putfield 9, 3) := by decide +kernel
theorem dX5_init_12 : decode cX5_init 12 = .ok (.aload_n 0, 1) := by decide +kernel
theorem dX5_init_13 : decode cX5_init 13 = .ok (.bipush 50, 2) := by decide +kernel
theorem dX5_init_15 : decode cX5_init 15 = .ok (.newarray .float, 2) := by decide +kernel
theorem dX5_init_17 : decode cX5_init 17 = .ok (.putfield 15, 3) := by decide +kernel
theorem dX5_init_20 : decode cX5_init 20 = .ok (.return_, 1) := by decide +kernel
theorem dX5_store_0 : decode cX5_store 0 = .ok (.aload_n 0, 1) := by decide +kernel
theorem dX5_store_1 : decode cX5_store 1 = .ok (.aload_n 1, 1) := by decide +kernel
theorem dX5_store_2 : decode cX5_store 2 = .ok (.getfield 19, 3) := by decide +kernel
theorem dX5_store_5 : decode cX5_store 5 = .ok (.putfield 25, 3) := by decide +kernel
theorem dX5_store_8 : decode cX5_store 8 = .ok (.aload_n 0, 1) := by decide +kernel
theorem dX5_store_9 : decode cX5_store 9 = .ok (.iload_n 2, 1) := by decide +kernel
theorem dX5_store_10 : decode cX5_store 10 = .ok (.putfield 28, 3) := by decide +kernel
theorem dX5_store_13 : decode cX5_store 13 = .ok (.aload_n 0, 1) := by decide +kernel
theorem dX5_store_14 : decode cX5_store 14 = .ok (.iconst 1, 1) := by decide +kernel
theorem dX5_store_15 : decode cX5_store 15 = .ok (.putfield 32, 3) := by decide +kernel
theorem dX5_store_18 : decode cX5_store 18 = .ok (.iconst 0, 1) := by decide +kernel
theorem dX5_store_19 : decode cX5_store 19 = .ok (.istore_n 3, 1) := by decide +kernel
theorem dX5_store_20 : decode cX5_store 20 = .ok (.iload_n 3, 1) := by decide +kernel
theorem dX5_store_21 : decode cX5_store 21 = .ok (.aload_n 0, 1) := by decide +kernel
theorem dX5_store_22 : decode cX5_store 22 = .ok (.getfield 25, 3) := by decide +kernel
theorem dX5_store_25 : decode cX5_store 25 = .ok (.if_icmp .ge 64, 3) := by decide +kernel
theorem dX5_store_28 : decode cX5_store 28 = .ok (.iload_n 2, 1) := by decide +kernel
theorem dX5_store_29 : decode cX5_store 29 = .ok (.ifCond .eq 18, 3) := by decide +kernel
theorem dX5_store_32 : decode cX5_store 32 = .ok (.aload_n 0, 1) := by decide +kernel
theorem dX5_store_33 : decode cX5_store 33 = .ok (.getfield 9, 3) := by decide +kernel
theorem dX5_store_36 : decode cX5_store 36 = .ok (.iload_n 3, 1) := by decide +kernel
theorem dX5_store_37 : decode cX5_store 37 = .ok (.aload_n 1, 1) := by decide +kernel
theorem dX5_store_38 : decode cX5_store 38 = .ok (.getfield 35, 3) := by decide +kernel
theorem dX5_store_41 : decode cX5_store 41 = .ok (.iload_n 3, 1) := by decide +kernel
theorem dX5_store_42 : decode cX5_store 42 = .ok (.iaload, 1) := by decide +kernel
theorem dX5_store_43 : decode cX5_store 43 = .ok (.iastore, 1) := by decide +kernel
theorem dX5_store_44 : decode cX5_store 44 = .ok (.goto 39, 3) := by decide +kernel
theorem dX5_store_47 : decode cX5_store 47 = .ok (.aload_n 1, 1) := by decide +kernel
theorem dX5_store_48 : decode cX5_store 48 = .ok (.getfield 38, 3) := by decide +kernel
theorem dX5_store_51 : decode cX5_store 51 = .ok (.iload_n 3, 1) := by decide +kernel
theorem dX5_store_52 : decode cX5_store 52 = .ok (.iaload, 1) := by decide +kernel
theorem dX5_store_53 : decode cX5_store 53 = .ok (.i2f, 1) := by decide +kernel
theorem dX5_store_54 : decode cX5_store 54 = .ok (.fstore 4, 2) := by decide +kernel
theorem dX5_store_56 : decode cX5_store 56 = .ok (.aload_n 0, 1) := by decide +kernel
theorem dX5_store_57 : decode cX5_store 57 = .ok (.getfield 15, 3) := by decide +kernel
theorem dX5_store_60 : decode cX5_store 60 = .ok (.iload_n 3, 1) := by decide +kernel
theorem dX5_store_61 : decode cX5_store 61 = .ok (.fload 4, 2) := by decide +kernel
theorem dX5_store_63 : decode cX5_store 63 = .ok (.fconst 0, 1) := by decide +kernel
theorem dX5_store_64 : decode cX5_store 64 = .ok (.fcmp .l, 1) := by decide +kernel
theorem dX5_store_65 : decode cX5_store 65 = .ok (.ifCond .le 16, 3) := by decide +kernel
theorem dX5_store_68 : decode cX5_store 68 = .ok (.aload_n 1, 1) := by decide +kernel
theorem dX5_store_69 : decode cX5_store 69 = .ok (.getfield 35, 3) := by decide +kernel
theorem dX5_store_72 : decode cX5_store 72 = .ok (.iload_n 3, 1) := by decide +kernel
theorem dX5_store_73 : decode cX5_store 73 = .ok (.iaload, 1) := by decide +kernel
theorem dX5_store_74 : decode cX5_store 74 = .ok (.i2f, 1) := by decide +kernel
theorem dX5_store_75 : decode cX5_store 75 = .ok (.fload 4, 2) := by decide +kernel
theorem dX5_store_77 : decode cX5_store 77 = .ok (.fdiv, 1) := by decide +kernel
theorem dX5_store_78 : decode cX5_store 78 = .ok (.goto 4, 3) := by decide +kernel
theorem dX5_store_81 : decode cX5_store 81 = .ok (.fconst 0, 1) := by decide +kernel
theorem dX5_store_82 : decode cX5_store 82 = .ok (.fastore, 1) := by decide +kernel
theorem dX5_store_83 : decode cX5_store 83 = .ok (.iinc 3 1, 3) := by decide +kernel
theorem dX5_store_86 : decode cX5_store 86 = .ok (.goto (-66), 3) := by decide +kernel
theorem dX5_store_89 : decode cX5_store 89 = .ok (.return_, 1) := by decide +kernel
theorem dX5_elementAt_0 : decode cX5_elementAt 0 = .ok (.iload_n 1, 1) := by decide +kernel
theorem dX5_elementAt_1 : decode cX5_elementAt 1 = .ok (.ifCond .lt 11, 3) := by decide +kernel
theorem dX5_elementAt_4 : decode cX5_elementAt 4 = .ok (.iload_n 1, 1) := by decide +kernel
theorem dX5_elementAt_5 : decode cX5_elementAt 5 = .ok (.aload_n 0, 1) := by decide +kernel
theorem dX5_elementAt_6 : decode cX5_elementAt 6 = .ok (.getfield 25, 3) := by decide +kernel
theorem dX5_elementAt_9 : decode cX5_elementAt 9 = .ok (.if_icmp .lt 5, 3) := by decide +kernel
theorem dX5_elementAt_12 : decode cX5_elementAt 12 = .ok (.fconst 0, 1) := by decide +kernel
theorem dX5_elementAt_13 : decode cX5_elementAt 13 = .ok (.freturn, 1) := by decide +kernel
theorem dX5_elementAt_14 : decode cX5_elementAt 14 = .ok (.aload_n 0, 1) := by decide +kernel
theorem dX5_elementAt_15 : decode cX5_elementAt 15 = .ok (.getfield 28, 3) := by decide +kernel
theorem dX5_elementAt_18 : decode cX5_elementAt 18 = .ok (.ifCond .eq 13, 3) := by decide +kernel
theorem dX5_elementAt_21 : decode cX5_elementAt 21 = .ok (.aload_n 0, 1) := by decide +kernel
theorem dX5_elementAt_22 : decode cX5_elementAt 22 = .ok (.getfield 9, 3) := by decide +kernel
theorem dX5_elementAt_25 : decode cX5_elementAt 25 = .ok (.iload_n 1, 1) := by decide +kernel
theorem dX5_elementAt_26 : decode cX5_elementAt 26 = .ok (.iaload, 1) := by decide +kernel
theorem dX5_elementAt_27 : decode cX5_elementAt 27 = .ok (.i2f, 1) := by decide +kernel
theorem dX5_elementAt_28 : decode cX5_elementAt 28 = .ok (.goto 9, 3) := by decide +kernel
theorem dX5_elementAt_31 : decode cX5_elementAt 31 = .ok (.aload_n 0, 1) := by decide +kernel
theorem dX5_elementAt_32 : decode cX5_elementAt 32 = .ok (.getfield 15, 3) := by decide +kernel
theorem dX5_elementAt_35 : decode cX5_elementAt 35 = .ok (.iload_n 1, 1) := by decide +kernel
theorem dX5_elementAt_36 : decode cX5_elementAt 36 = .ok (.faload, 1) := by decide +kernel
theorem dX5_elementAt_37 : decode cX5_elementAt 37 = .ok (.freturn, 1) := by decide +kernel
theorem dX5_takeFrom_0 : decode cX5_takeFrom 0 = .ok (.iconst 0, 1) := by decide +kernel
theorem dX5_takeFrom_1 : decode cX5_takeFrom 1 = .ok (.istore_n 3, 1) := by decide +kernel
theorem dX5_takeFrom_2 : decode cX5_takeFrom 2 = .ok (.iconst 0, 1) := by decide +kernel
theorem dX5_takeFrom_3 : decode cX5_takeFrom 3 = .ok (.istore 4, 2) := by decide +kernel
theorem dX5_takeFrom_5 : decode cX5_takeFrom 5 = .ok (.iload 4, 2) := by decide +kernel
theorem dX5_takeFrom_7 : decode cX5_takeFrom 7 = .ok (.iload_n 2, 1) := by decide +kernel
theorem dX5_takeFrom_8 : decode cX5_takeFrom 8 = .ok (.if_icmp .ge 64, 3) := by decide +kernel
theorem dX5_takeFrom_11 : decode cX5_takeFrom 11 = .ok (.iload 4, 2) := by decide +kernel
theorem dX5_takeFrom_13 : decode cX5_takeFrom 13 = .ok (.aload_n 0, 1) := by decide +kernel
theorem dX5_takeFrom_14 : decode cX5_takeFrom 14 = .ok (.getfield 25, 3) := by decide +kernel
theorem dX5_takeFrom_17 : decode cX5_takeFrom 17 = .ok (.if_icmp .ge 55, 3) := by decide +kernel
theorem dX5_takeFrom_20 : decode cX5_takeFrom 20 = .ok (.aload_n 0, 1) := by decide +kernel
theorem dX5_takeFrom_21 : decode cX5_takeFrom 21 = .ok (.iload 4, 2) := by decide +kernel
theorem dX5_takeFrom_23 : decode cX5_takeFrom 23 = .ok (.invokevirtual 41, 3) := by decide +kernel
theorem dX5_takeFrom_26 : decode cX5_takeFrom 26 = .ok (.aload_n 1, 1) := by decide +kernel
theorem dX5_takeFrom_27 : decode cX5_takeFrom 27 = .ok (.iload 4, 2) := by decide +kernel
theorem dX5_takeFrom_29 : decode cX5_takeFrom 29 = .ok (.invokevirtual 41, 3) := by decide +kernel
theorem dX5_takeFrom_32 : decode cX5_takeFrom 32 = .ok (.fcmp .l, 1) := by decide +kernel
theorem dX5_takeFrom_33 : decode cX5_takeFrom 33 = .ok (.ifCond .eq 5, 3) := by decide +kernel
theorem dX5_takeFrom_36 : decode cX5_takeFrom 36 = .ok (.iconst 1, 1) := by decide +kernel
theorem dX5_takeFrom_37 : decode cX5_takeFrom 37 = .ok (.istore_n 3, 1) := by decide +kernel
theorem dX5_takeFrom_38 : decode cX5_takeFrom 38 = .ok (.aload_n 0, 1) := by decide +kernel
theorem dX5_takeFrom_39 : decode cX5_takeFrom 39 = .ok (.getfield 9, 3) := by decide +kernel
theorem dX5_takeFrom_42 : decode cX5_takeFrom 42 = .ok (.iload 4, 2) := by decide +kernel
theorem dX5_takeFrom_44 : decode cX5_takeFrom 44 = .ok (.aload_n 1, 1) := by decide +kernel
theorem dX5_takeFrom_45 : decode cX5_takeFrom 45 = .ok (.getfield 9, 3) := by decide +kernel
theorem dX5_takeFrom_48 : decode cX5_takeFrom 48 = .ok (.iload 4, 2) := by decide +kernel
theorem dX5_takeFrom_50 : decode cX5_takeFrom 50 = .ok (.iaload, 1) := by decide +kernel
theorem dX5_takeFrom_51 : decode cX5_takeFrom 51 = .ok (.iastore, 1) := by decide +kernel
theorem dX5_takeFrom_52 : decode cX5_takeFrom 52 = .ok (.aload_n 0, 1) := by decide +kernel
theorem dX5_takeFrom_53 : decode cX5_takeFrom 53 = .ok (.getfield 15, 3) := by decide +kernel
theorem dX5_takeFrom_56 : decode cX5_takeFrom 56 = .ok (.iload 4, 2) := by decide +kernel
theorem dX5_takeFrom_58 : decode cX5_takeFrom 58 = .ok (.aload_n 1, 1) := by decide +kernel
theorem dX5_takeFrom_59 : decode cX5_takeFrom 59 = .ok (.getfield 15, 3) := by decide +kernel
theorem dX5_takeFrom_62 : decode cX5_takeFrom 62 = .ok (.iload 4, 2) := by decide +kernel
theorem dX5_takeFrom_64 : decode cX5_takeFrom 64 = .ok (.faload, 1) := by decide +kernel
theorem dX5_takeFrom_65 : decode cX5_takeFrom 65 = .ok (.fastore, 1) := by decide +kernel
theorem dX5_takeFrom_66 : decode cX5_takeFrom 66 = .ok (.iinc 4 1, 3) := by decide +kernel
theorem dX5_takeFrom_69 : decode cX5_takeFrom 69 = .ok (.goto (-64), 3) := by decide +kernel
theorem dX5_takeFrom_72 : decode cX5_takeFrom 72 = .ok (.iload_n 3, 1) := by decide +kernel
theorem dX5_takeFrom_73 : decode cX5_takeFrom 73 = .ok (.ireturn, 1) := by decide +kernel
theorem dX6_init_0 : decode cX6_init 0 = .ok (.aload_n 0, 1) := by decide +kernel
theorem dX6_init_1 : decode cX6_init 1 = .ok (.invokespecial 3, 3) := by decide +kernel
theorem dX6_init_4 : decode cX6_init 4 = .ok (.aload_n 0, 1) := by decide +kernel
theorem dX6_init_5 : decode cX6_init 5 = .ok (.new 9, 3) := by decide +kernel
theorem dX6_init_8 : decode cX6_init 8 = .ok (.dup, 1) := by decide +kernel
theorem dX6_init_9 : decode cX6_init 9 = .ok (.bipush 46, 2) := by decide +kernel
theorem dX6_init_11 : decode cX6_init 11 = .ok (.invokespecial 11, 3) := by decide +kernel
theorem dX6_init_14 : decode cX6_init 14 = .ok (.putfield 14, 3) := by decide +kernel
theorem dX6_init_17 : decode cX6_init 17 = .ok (.return_, 1) := by decide +kernel
theorem dX6_spell_0 : decode cX6_spell 0 = .ok (.aload_n 0, 1) := by decide +kernel
theorem dX6_spell_1 : decode cX6_spell 1 = .ok (.aload_n 1, 1) := by decide +kernel
theorem dX6_spell_2 : decode cX6_spell 2 = .ok (.aload_n 2, 1) := by decide +kernel
theorem dX6_spell_3 : decode cX6_spell 3 = .ok (.iload_n 3, 1) := by decide +kernel
theorem dX6_spell_4 : decode cX6_spell 4 = .ok (.iconst 0, 1) := by decide +kernel
theorem dX6_spell_5 : decode cX6_spell 5 = .ok (.iload 4, 2) := by decide +kernel
theorem dX6_spell_7 : decode cX6_spell 7 = .ok (.invokestatic 20, 3) := by decide +kernel
theorem dX6_spell_10 : decode cX6_spell 10 = .ok (.putfield 24, 3) := by decide +kernel
theorem dX6_spell_13 : decode cX6_spell 13 = .ok (.aload_n 0, 1) := by decide +kernel
theorem dX6_spell_14 : decode cX6_spell 14 = .ok (.iconst (-1), 1) := by decide +kernel
theorem dX6_spell_15 : decode cX6_spell 15 = .ok (.putfield 28, 3) := by decide +kernel
theorem dX6_spell_18 : decode cX6_spell 18 = .ok (.aload_n 0, 1) := by decide +kernel
theorem dX6_spell_19 : decode cX6_spell 19 = .ok (.getfield 24, 3) := by decide +kernel
theorem dX6_spell_22 : decode cX6_spell 22 = .ok (.ifCond .ge 37, 3) := by decide +kernel
theorem dX6_spell_25 : decode cX6_spell 25 = .ok (.aload_n 0, 1) := by decide +kernel
theorem dX6_spell_26 : decode cX6_spell 26 = .ok (.aload_n 1, 1) := by decide +kernel
theorem dX6_spell_27 : decode cX6_spell 27 = .ok (.aload_n 2, 1) := by decide +kernel
theorem dX6_spell_28 : decode cX6_spell 28 = .ok (.iload_n 3, 1) := by decide +kernel
theorem dX6_spell_29 : decode cX6_spell 29 = .ok (.iconst 1, 1) := by decide +kernel
theorem dX6_spell_30 : decode cX6_spell 30 = .ok (.iload 4, 2) := by decide +kernel
theorem dX6_spell_32 : decode cX6_spell 32 = .ok (.invokestatic 20, 3) := by decide +kernel
theorem dX6_spell_35 : decode cX6_spell 35 = .ok (.putfield 24, 3) := by decide +kernel
theorem dX6_spell_38 : decode cX6_spell 38 = .ok (.aload_n 0, 1) := by decide +kernel
theorem dX6_spell_39 : decode cX6_spell 39 = .ok (.aload_n 1, 1) := by decide +kernel
theorem dX6_spell_40 : decode cX6_spell 40 = .ok (.aload_n 2, 1) := by decide +kernel
theorem dX6_spell_41 : decode cX6_spell 41 = .ok (.iload_n 3, 1) := by decide +kernel
theorem dX6_spell_42 : decode cX6_spell 42 = .ok (.iconst 2, 1) := by decide +kernel
theorem dX6_spell_43 : decode cX6_spell 43 = .ok (.iload 4, 2) := by decide +kernel
theorem dX6_spell_45 : decode cX6_spell 45 = .ok (.invokestatic 20, 3) := by decide +kernel
theorem dX6_spell_48 : decode cX6_spell 48 = .ok (.putfield 28, 3) := by decide +kernel
theorem dX6_spell_51 : decode cX6_spell 51 = .ok (.aload_n 0, 1) := by decide +kernel
theorem dX6_spell_52 : decode cX6_spell 52 = .ok (.aload_n 1, 1) := by decide +kernel
theorem dX6_spell_53 : decode cX6_spell 53 = .ok (.aload_n 2, 1) := by decide +kernel
theorem dX6_spell_54 : decode cX6_spell 54 = .ok (.iload 4, 2) := by decide +kernel
theorem dX6_spell_56 : decode cX6_spell 56 = .ok (.invokevirtual 31, 3) := by decide +kernel
theorem dX6_spell_59 : decode cX6_spell 59 = .ok (.aload_n 0, 1) := by decide +kernel
theorem dX6_spell_60 : decode cX6_spell 60 = .ok (.aload_n 1, 1) := by decide +kernel
theorem dX6_spell_61 : decode cX6_spell 61 = .ok (.aload_n 2, 1) := by decide +kernel
theorem dX6_spell_62 : decode cX6_spell 62 = .ok (.iload 4, 2) := by decide +kernel
theorem dX6_spell_64 : decode cX6_spell 64 = .ok (.invokevirtual 35, 3) := by decide +kernel
theorem dX6_spell_67 : decode cX6_spell 67 = .ok (.return_, 1) := by decide +kernel
theorem dX6_bestRule_0 : decode cX6_bestRule 0 = .ok (.iconst (-1), 1) := by decide +kernel
theorem dX6_bestRule_1 : decode cX6_bestRule 1 = .ok (.istore 5, 2) := by decide +kernel
theorem dX6_bestRule_3 : decode cX6_bestRule 3 = .ok (.iconst 0, 1) := by decide +kernel
theorem dX6_bestRule_4 : decode cX6_bestRule 4 = .ok (.istore 6, 2) := by decide +kernel
theorem dX6_bestRule_6 : decode cX6_bestRule 6 = .ok (.iload 6, 2) := by decide +kernel
theorem dX6_bestRule_8 : decode cX6_bestRule 8 = .ok (.aload_n 0, 1) := by decide +kernel
theorem dX6_bestRule_9 : decode cX6_bestRule 9 = .ok (.getfield 38, 3) := by decide +kernel
theorem dX6_bestRule_12 : decode cX6_bestRule 12 = .ok (.if_icmp .ge 69, 3) := by decide +kernel
theorem dX6_bestRule_15 : decode cX6_bestRule 15 = .ok (.aload_n 0, 1) := by decide +kernel
theorem dX6_bestRule_16 : decode cX6_bestRule 16 = .ok (.iload 6, 2) := by decide +kernel
theorem dX6_bestRule_18 : decode cX6_bestRule 18 = .ok (.iload_n 3, 1) := by decide +kernel
theorem dX6_bestRule_19 : decode cX6_bestRule 19 = .ok (.invokevirtual 43, 3) := by decide +kernel
theorem dX6_bestRule_22 : decode cX6_bestRule 22 = .ok (.ifCond .eq 53, 3) := by decide +kernel
theorem dX6_bestRule_25 : decode cX6_bestRule 25 = .ok (.aload_n 0, 1) := by decide +kernel
theorem dX6_bestRule_26 : decode cX6_bestRule 26 = .ok (.iload 6, 2) := by decide +kernel
theorem dX6_bestRule_28 : decode cX6_bestRule 28 = .ok (.invokevirtual 47, 3) := by decide +kernel
theorem dX6_bestRule_31 : decode cX6_bestRule 31 = .ok (.iload_n 2, 1) := by decide +kernel
theorem dX6_bestRule_32 : decode cX6_bestRule 32 = .ok (.ishr, 1) := by decide +kernel
theorem dX6_bestRule_33 : decode cX6_bestRule 33 = .ok (.iconst 1, 1) := by decide +kernel
theorem dX6_bestRule_34 : decode cX6_bestRule 34 = .ok (.iand, 1) := by decide +kernel
theorem dX6_bestRule_35 : decode cX6_bestRule 35 = .ok (.iconst 1, 1) := by decide +kernel
theorem dX6_bestRule_36 : decode cX6_bestRule 36 = .ok (.if_icmp .ne 39, 3) := by decide +kernel
theorem dX6_bestRule_39 : decode cX6_bestRule 39 = .ok (.aload_n 0, 1) := by decide +kernel
theorem dX6_bestRule_40 : decode cX6_bestRule 40 = .ok (.iload 6, 2) := by decide +kernel
theorem dX6_bestRule_42 : decode cX6_bestRule 42 = .ok (.iload 4, 2) := by decide +kernel
theorem dX6_bestRule_44 : decode cX6_bestRule 44 = .ok (.invokevirtual 51, 3) := by decide +kernel
theorem dX6_bestRule_47 : decode cX6_bestRule 47 = .ok (.aload_n 1, 1) := by decide +kernel
theorem dX6_bestRule_48 : decode cX6_bestRule 48 = .ok (.iload_n 3, 1) := by decide +kernel
theorem dX6_bestRule_49 : decode cX6_bestRule 49 = .ok (.invokestatic 55, 3) := by decide +kernel
theorem dX6_bestRule_52 : decode cX6_bestRule 52 = .ok (.ifCond .eq 23, 3) := by decide +kernel
theorem dX6_bestRule_55 : decode cX6_bestRule 55 = .ok (.iload 5, 2) := by decide +kernel
theorem dX6_bestRule_57 : decode cX6_bestRule 57 = .ok (.ifCond .lt 14, 3) := by decide +kernel
theorem dX6_bestRule_60 : decode cX6_bestRule 60 = .ok (.aload_n 0, 1) := by decide +kernel
theorem dX6_bestRule_61 : decode cX6_bestRule 61 = .ok (.iload 6, 2) := by decide +kernel
theorem dX6_bestRule_63 : decode cX6_bestRule 63 = .ok (.iload 5, 2) := by decide +kernel
theorem dX6_bestRule_65 : decode cX6_bestRule 65 = .ok (.invokevirtual 59, 3) := by decide +kernel
theorem dX6_bestRule_68 : decode cX6_bestRule 68 = .ok (.ifCond .eq 7, 3) := by decide +kernel
theorem dX6_bestRule_71 : decode cX6_bestRule 71 = .ok (.iload 6, 2) := by decide +kernel
theorem dX6_bestRule_73 : decode cX6_bestRule 73 = .ok (.istore 5, 2) := by decide +kernel
theorem dX6_bestRule_75 : decode cX6_bestRule 75 = .ok (.iinc 6 1, 3) := by decide +kernel
theorem dX6_bestRule_78 : decode cX6_bestRule 78 = .ok (.goto (-72), 3) := by decide +kernel
theorem dX6_bestRule_81 : decode cX6_bestRule 81 = .ok (.iload 5, 2) := by decide +kernel
theorem dX6_bestRule_83 : decode cX6_bestRule 83 = .ok (.ireturn, 1) := by decide +kernel
theorem dX6_stands_0 : decode cX6_stands 0 = .ok (.lload_n 0, 1) := by decide +kernel
theorem dX6_stands_1 : decode cX6_stands 1 = .ok (.invokestatic 62, 3) := by decide +kernel
theorem dX6_stands_4 : decode cX6_stands 4 = .ok (.istore 4, 2) := by decide +kernel
theorem dX6_stands_6 : decode cX6_stands 6 = .ok (.aload_n 2, 1) := by decide +kernel
theorem dX6_stands_7 : decode cX6_stands 7 = .ok (.invokevirtual 68, 3) := by decide +kernel
theorem dX6_stands_10 : decode cX6_stands 10 = .ok (.iload 4, 2) := by decide +kernel
theorem dX6_stands_12 : decode cX6_stands 12 = .ok (.isub, 1) := by decide +kernel
theorem dX6_stands_13 : decode cX6_stands 13 = .ok (.istore 5, 2) := by decide +kernel
theorem dX6_stands_15 : decode cX6_stands 15 = .ok (.iload_n 3, 1) := by decide +kernel
theorem dX6_stands_16 : decode cX6_stands 16 = .ok (.ifCond .ne 11, 3) := by decide +kernel
theorem dX6_stands_19 : decode cX6_stands 19 = .ok (.iload 5, 2) := by decide +kernel
theorem dX6_stands_21 : decode cX6_stands 21 = .ok (.ifCond .eq 13, 3) := by decide +kernel
theorem dX6_stands_24 : decode cX6_stands 24 = .ok (.goto 8, 3) := by decide +kernel
theorem dX6_stands_27 : decode cX6_stands 27 = .ok (.iload 5, 2) := by decide +kernel
theorem dX6_stands_29 : decode cX6_stands 29 = .ok (.ifCond .gt 5, 3) := by decide +kernel
theorem dX6_stands_32 : decode cX6_stands 32 = .ok (.iconst 0, 1) := by decide +kernel
theorem dX6_stands_33 : decode cX6_stands 33 = .ok (.ireturn, 1) := by decide +kernel
theorem dX6_stands_34 : decode cX6_stands 34 = .ok (.iload_n 3, 1) := by decide +kernel
theorem dX6_stands_35 : decode cX6_stands 35 = .ok (.iconst 2, 1) := by decide +kernel
theorem dX6_stands_36 : decode cX6_stands 36 = .ok (.if_icmp .ne 8, 3) := by decide +kernel
theorem dX6_stands_39 : decode cX6_stands 39 = .ok (.iload 5, 2) := by decide +kernel
theorem dX6_stands_41 : decode cX6_stands 41 = .ok (.goto 4, 3) := by decide +kernel
theorem dX6_stands_44 : decode cX6_stands 44 = .ok (.iconst 0, 1) := by decide +kernel
theorem dX6_stands_45 : decode cX6_stands 45 = .ok (.istore 6, 2) := by decide +kernel
theorem dX6_stands_47 : decode cX6_stands 47 = .ok (.iconst 0, 1) := by decide +kernel
theorem dX6_stands_48 : decode cX6_stands 48 = .ok (.istore 7, 2) := by decide +kernel
theorem dX6_stands_50 : decode cX6_stands 50 = .ok (.iload 7, 2) := by decide +kernel
theorem dX6_stands_52 : decode cX6_stands 52 = .ok (.iload 4, 2) := by decide +kernel
theorem dX6_stands_54 : decode cX6_stands 54 = .ok (.if_icmp .ge 29, 3) := by decide +kernel
theorem dX6_stands_57 : decode cX6_stands 57 = .ok (.lload_n 0, 1) := by decide +kernel
theorem dX6_stands_58 : decode cX6_stands 58 = .ok (.iload 7, 2) := by decide +kernel
theorem dX6_stands_60 : decode cX6_stands 60 = .ok (.invokestatic 72, 3) := by decide +kernel
theorem dX6_stands_63 : decode cX6_stands 63 = .ok (.aload_n 2, 1) := by decide +kernel
theorem dX6_stands_64 : decode cX6_stands 64 = .ok (.iload 6, 2) := by decide +kernel
theorem dX6_stands_66 : decode cX6_stands 66 = .ok (.iload 7, 2) := by decide +kernel
theorem dX6_stands_68 : decode cX6_stands 68 = .ok (.iadd, 1) := by decide +kernel
theorem dX6_stands_69 : decode cX6_stands 69 = .ok (.invokevirtual 76, 3) := by decide +kernel
theorem dX6_stands_72 : decode cX6_stands 72 = .ok (.if_icmp .eq 5, 3) := by decide +kernel
theorem dX6_stands_75 : decode cX6_stands 75 = .ok (.iconst 0, 1) := by decide +kernel
theorem dX6_stands_76 : decode cX6_stands 76 = .ok (.ireturn, 1) := by decide +kernel
theorem dX6_stands_77 : decode cX6_stands 77 = .ok (.iinc 7 1, 3) := by decide +kernel
theorem dX6_stands_80 : decode cX6_stands 80 = .ok (.goto (-30), 3) := by decide +kernel
theorem dX6_stands_83 : decode cX6_stands 83 = .ok (.iconst 1, 1) := by decide +kernel
theorem dX6_stands_84 : decode cX6_stands 84 = .ok (.ireturn, 1) := by decide +kernel
theorem dX6_dropWorseOfTwo_0 : decode cX6_dropWorseOfTwo 0 = .ok (.aload_n 0, 1) := by decide +kernel
theorem dX6_dropWorseOfTwo_1 : decode cX6_dropWorseOfTwo 1 = .ok (.getfield 24, 3) := by decide +kernel
theorem dX6_dropWorseOfTwo_4 : decode cX6_dropWorseOfTwo 4 = .ok (.ifCond .lt 10, 3) := by decide +kernel
theorem dX6_dropWorseOfTwo_7 : decode cX6_dropWorseOfTwo 7 = .ok (.aload_n 0, 1) := by decide +kernel
theorem dX6_dropWorseOfTwo_8 : decode cX6_dropWorseOfTwo 8 = .ok (.getfield 28, 3) := by decide +kernel
theorem dX6_dropWorseOfTwo_11 : decode cX6_dropWorseOfTwo 11 = .ok (.ifCond .ge 4, 3) := by decide +kernel
theorem dX6_dropWorseOfTwo_14 : decode cX6_dropWorseOfTwo 14 = .ok (.return_, 1) := by decide +kernel
theorem dX6_dropWorseOfTwo_15 : decode cX6_dropWorseOfTwo 15 = .ok (.aload_n 1, 1) := by decide +kernel
theorem dX6_dropWorseOfTwo_16 : decode cX6_dropWorseOfTwo 16 = .ok (.aload_n 0, 1) := by decide +kernel
theorem dX6_dropWorseOfTwo_17 : decode cX6_dropWorseOfTwo 17 = .ok (.getfield 24, 3) := by decide +kernel
theorem dX6_dropWorseOfTwo_20 : decode cX6_dropWorseOfTwo 20 = .ok (.iload_n 3, 1) := by decide +kernel
theorem dX6_dropWorseOfTwo_21 : decode cX6_dropWorseOfTwo 21 = .ok (.invokevirtual 51, 3) := by decide +kernel
theorem dX6_dropWorseOfTwo_24 : decode cX6_dropWorseOfTwo 24 = .ok (.invokestatic 62, 3) := by decide +kernel
theorem dX6_dropWorseOfTwo_27 : decode cX6_dropWorseOfTwo 27 = .ok (.aload_n 1, 1) := by decide +kernel
theorem dX6_dropWorseOfTwo_28 : decode cX6_dropWorseOfTwo 28 = .ok (.aload_n 0, 1) := by decide +kernel
theorem dX6_dropWorseOfTwo_29 : decode cX6_dropWorseOfTwo 29 = .ok (.getfield 28, 3) := by decide +kernel
theorem dX6_dropWorseOfTwo_32 : decode cX6_dropWorseOfTwo 32 = .ok (.iload_n 3, 1) := by decide +kernel
theorem dX6_dropWorseOfTwo_33 : decode cX6_dropWorseOfTwo 33 = .ok (.invokevirtual 51, 3) := by decide +kernel
theorem dX6_dropWorseOfTwo_36 : decode cX6_dropWorseOfTwo 36 = .ok (.invokestatic 62, 3) := by decide +kernel
theorem dX6_dropWorseOfTwo_39 : decode cX6_dropWorseOfTwo 39 = .ok (.iadd, 1) := by decide +kernel
theorem dX6_dropWorseOfTwo_40 : decode cX6_dropWorseOfTwo 40 = .ok (.istore 4, 2) := by decide +kernel
theorem dX6_dropWorseOfTwo_42 : decode cX6_dropWorseOfTwo 42 = .ok (.iload 4, 2) := by decide +kernel
theorem dX6_dropWorseOfTwo_44 : decode cX6_dropWorseOfTwo 44 = .ok (.aload_n 2, 1) := by decide +kernel
theorem dX6_dropWorseOfTwo_45 : decode cX6_dropWorseOfTwo 45 = .ok (.invokevirtual 68, 3) := by decide +kernel
theorem dX6_dropWorseOfTwo_48 : decode cX6_dropWorseOfTwo 48 = .ok (.if_icmp .le 31, 3) := by decide +kernel
theorem dX6_dropWorseOfTwo_51 : decode cX6_dropWorseOfTwo 51 = .ok (.aload_n 1, 1) := by decide +kernel
theorem dX6_dropWorseOfTwo_52 : decode cX6_dropWorseOfTwo 52 = .ok (.aload_n 0, 1) := by decide +kernel
theorem dX6_dropWorseOfTwo_53 : decode cX6_dropWorseOfTwo 53 = .ok (.getfield 24, 3) := by decide +kernel
theorem dX6_dropWorseOfTwo_56 : decode cX6_dropWorseOfTwo 56 = .ok (.aload_n 0, 1) := by decide +kernel
theorem dX6_dropWorseOfTwo_57 : decode cX6_dropWorseOfTwo 57 = .ok (.getfield 28, 3) := by decide +kernel
theorem dX6_dropWorseOfTwo_60 : decode cX6_dropWorseOfTwo 60 = .ok (.invokevirtual 59, 3) := by decide +kernel
theorem dX6_dropWorseOfTwo_63 : decode cX6_dropWorseOfTwo 63 = .ok (.ifCond .eq 11, 3) := by decide +kernel
theorem dX6_dropWorseOfTwo_66 : decode cX6_dropWorseOfTwo 66 = .ok (.aload_n 0, 1) := by decide +kernel
theorem dX6_dropWorseOfTwo_67 : decode cX6_dropWorseOfTwo 67 = .ok (.iconst (-1), 1) := by decide +kernel
theorem dX6_dropWorseOfTwo_68 : decode cX6_dropWorseOfTwo 68 = .ok (.putfield 28, 3) := by decide +kernel
theorem dX6_dropWorseOfTwo_71 : decode cX6_dropWorseOfTwo 71 = .ok (.goto 8, 3) := by decide +kernel
theorem dX6_dropWorseOfTwo_74 : decode cX6_dropWorseOfTwo 74 = .ok (.aload_n 0, 1) := by decide +kernel
theorem dX6_dropWorseOfTwo_75 : decode cX6_dropWorseOfTwo 75 = .ok (.iconst (-1), 1) := by decide +kernel
theorem dX6_dropWorseOfTwo_76 : decode cX6_dropWorseOfTwo 76 = .ok (.putfield 24, 3) := by decide +kernel
theorem dX6_dropWorseOfTwo_79 : decode cX6_dropWorseOfTwo 79 = .ok (.return_, 1) := by decide +kernel
theorem dX6_write_0 : decode cX6_write 0 = .ok (.aload_n 1, 1) := by decide +kernel
theorem dX6_write_1 : decode cX6_write 1 = .ok (.aload_n 0, 1) := by decide +kernel
theorem dX6_write_2 : decode cX6_write 2 = .ok (.getfield 24, 3) := by decide +kernel
theorem dX6_write_5 : decode cX6_write 5 = .ok (.iload_n 3, 1) := by decide +kernel
theorem dX6_write_6 : decode cX6_write 6 = .ok (.invokevirtual 51, 3) := by decide +kernel
theorem dX6_write_9 : decode cX6_write 9 = .ok (.invokestatic 62, 3) := by decide +kernel
theorem dX6_write_12 : decode cX6_write 12 = .ok (.istore 4, 2) := by decide +kernel
theorem dX6_write_14 : decode cX6_write 14 = .ok (.aload_n 2, 1) := by decide +kernel
theorem dX6_write_15 : decode cX6_write 15 = .ok (.invokevirtual 68, 3) := by decide +kernel
theorem dX6_write_18 : decode cX6_write 18 = .ok (.aload_n 1, 1) := by decide +kernel
theorem dX6_write_19 : decode cX6_write 19 = .ok (.aload_n 0, 1) := by decide +kernel
theorem dX6_write_20 : decode cX6_write 20 = .ok (.getfield 28, 3) := by decide +kernel
theorem dX6_write_23 : decode cX6_write 23 = .ok (.iload_n 3, 1) := by decide +kernel
theorem dX6_write_24 : decode cX6_write 24 = .ok (.invokevirtual 51, 3) := by decide +kernel
theorem dX6_write_27 : decode cX6_write 27 = .ok (.invokestatic 62, 3) := by decide +kernel
theorem dX6_write_30 : decode cX6_write 30 = .ok (.isub, 1) := by decide +kernel
theorem dX6_write_31 : decode cX6_write 31 = .ok (.istore 5, 2) := by decide +kernel
theorem dX6_write_33 : decode cX6_write 33 = .ok (.aload_n 0, 1) := by decide +kernel
theorem dX6_write_34 : decode cX6_write 34 = .ok (.getfield 14, 3) := by decide +kernel
theorem dX6_write_37 : decode cX6_write 37 = .ok (.invokevirtual 80, 3) := by decide +kernel
theorem dX6_write_40 : decode cX6_write 40 = .ok (.aload_n 0, 1) := by decide +kernel
theorem dX6_write_41 : decode cX6_write 41 = .ok (.getfield 14, 3) := by decide +kernel
theorem dX6_write_44 : decode cX6_write 44 = .ok (.aload_n 1, 1) := by decide +kernel
theorem dX6_write_45 : decode cX6_write 45 = .ok (.aload_n 0, 1) := by decide +kernel
theorem dX6_write_46 : decode cX6_write 46 = .ok (.getfield 24, 3) := by decide +kernel
theorem dX6_write_49 : decode cX6_write 49 = .ok (.iload_n 3, 1) := by decide +kernel
theorem dX6_write_50 : decode cX6_write 50 = .ok (.ifCond .ne 7, 3) := by decide +kernel
theorem dX6_write_53 : decode cX6_write 53 = .ok (.iconst 1, 1) := by decide +kernel
theorem dX6_write_54 : decode cX6_write 54 = .ok (.goto 4, 3) := by decide +kernel
theorem dX6_write_57 : decode cX6_write 57 = .ok (.iconst 0, 1) := by decide +kernel
theorem dX6_write_58 : decode cX6_write 58 = .ok (.invokevirtual 51, 3) := by decide +kernel
theorem dX6_write_61 : decode cX6_write 61 = .ok (.invokevirtual 83, 3) := by decide +kernel
theorem dX6_write_64 : decode cX6_write 64 = .ok (.aload_n 0, 1) := by decide +kernel
theorem dX6_write_65 : decode cX6_write 65 = .ok (.getfield 14, 3) := by decide +kernel
theorem dX6_write_68 : decode cX6_write 68 = .ok (.aload_n 2, 1) := by decide +kernel
theorem dX6_write_69 : decode cX6_write 69 = .ok (.iload 4, 2) := by decide +kernel
theorem dX6_write_71 : decode cX6_write 71 = .ok (.iload 5, 2) := by decide +kernel
theorem dX6_write_73 : decode cX6_write 73 = .ok (.invokevirtual 87, 3) := by decide +kernel
theorem dX6_write_76 : decode cX6_write 76 = .ok (.aload_n 0, 1) := by decide +kernel
theorem dX6_write_77 : decode cX6_write 77 = .ok (.getfield 14, 3) := by decide +kernel
theorem dX6_write_80 : decode cX6_write 80 = .ok (.aload_n 1, 1) := by decide +kernel
theorem dX6_write_81 : decode cX6_write 81 = .ok (.aload_n 0, 1) := by decide +kernel
theorem dX6_write_82 : decode cX6_write 82 = .ok (.getfield 28, 3) := by decide +kernel
theorem dX6_write_85 : decode cX6_write 85 = .ok (.iload_n 3, 1) := by decide +kernel
theorem dX6_write_86 : decode cX6_write 86 = .ok (.ifCond .ne 7, 3) := by decide +kernel
theorem dX6_write_89 : decode cX6_write 89 = .ok (.iconst 1, 1) := by decide +kernel
theorem dX6_write_90 : decode cX6_write 90 = .ok (.goto 4, 3) := by decide +kernel
theorem dX6_write_93 : decode cX6_write 93 = .ok (.iconst 0, 1) := by decide +kernel
theorem dX6_write_94 : decode cX6_write 94 = .ok (.invokevirtual 51, 3) := by decide +kernel
theorem dX6_write_97 : decode cX6_write 97 = .ok (.invokevirtual 83, 3) := by decide +kernel
theorem dX6_write_100 : decode cX6_write 100 = .ok (.return_, 1) := by decide +kernel
theorem dX6_deed_0 : decode cX6_deed 0 = .ok (.aload_n 1, 1) := by decide +kernel
theorem dX6_deed_1 : decode cX6_deed 1 = .ok (.aload_n 0, 1) := by decide +kernel
theorem dX6_deed_2 : decode cX6_deed 2 = .ok (.getfield 24, 3) := by decide +kernel
theorem dX6_deed_5 : decode cX6_deed 5 = .ok (.iconst 0, 1) := by decide +kernel
theorem dX6_deed_6 : decode cX6_deed 6 = .ok (.invokevirtual 43, 3) := by decide +kernel
theorem dX6_deed_9 : decode cX6_deed 9 = .ok (.ifCond .eq 5, 3) := by decide +kernel
theorem dX6_deed_12 : decode cX6_deed 12 = .ok (.iconst 1, 1) := by decide +kernel
theorem dX6_deed_13 : decode cX6_deed 13 = .ok (.ireturn, 1) := by decide +kernel
theorem dX6_deed_14 : decode cX6_deed 14 = .ok (.aload_n 0, 1) := by decide +kernel
theorem dX6_deed_15 : decode cX6_deed 15 = .ok (.getfield 24, 3) := by decide +kernel
theorem dX6_deed_18 : decode cX6_deed 18 = .ok (.ifCond .lt 16, 3) := by decide +kernel
theorem dX6_deed_21 : decode cX6_deed 21 = .ok (.aload_n 0, 1) := by decide +kernel
theorem dX6_deed_22 : decode cX6_deed 22 = .ok (.getfield 28, 3) := by decide +kernel
theorem dX6_deed_25 : decode cX6_deed 25 = .ok (.ifCond .lt 7, 3) := by decide +kernel
theorem dX6_deed_28 : decode cX6_deed 28 = .ok (.iconst 4, 1) := by decide +kernel
theorem dX6_deed_29 : decode cX6_deed 29 = .ok (.goto 4, 3) := by decide +kernel
theorem dX6_deed_32 : decode cX6_deed 32 = .ok (.iconst 2, 1) := by decide +kernel
theorem dX6_deed_33 : decode cX6_deed 33 = .ok (.ireturn, 1) := by decide +kernel
theorem dX6_deed_34 : decode cX6_deed 34 = .ok (.aload_n 0, 1) := by decide +kernel
theorem dX6_deed_35 : decode cX6_deed 35 = .ok (.getfield 28, 3) := by decide +kernel
theorem dX6_deed_38 : decode cX6_deed 38 = .ok (.ifCond .lt 7, 3) := by decide +kernel
theorem dX6_deed_41 : decode cX6_deed 41 = .ok (.iconst 3, 1) := by decide +kernel
theorem dX6_deed_42 : decode cX6_deed 42 = .ok (.goto 4, 3) := by decide +kernel
theorem dX6_deed_45 : decode cX6_deed 45 = .ok (.iconst 0, 1) := by decide +kernel
theorem dX6_deed_46 : decode cX6_deed 46 = .ok (.ireturn, 1) := by decide +kernel
theorem dX7_init_0 : decode cX7_init 0 = .ok (.aload_n 0, 1) := by decide +kernel
theorem dX7_init_1 : decode cX7_init 1 = .ok (.invokespecial 1, 3) := by decide +kernel
theorem dX7_init_4 : decode cX7_init 4 = .ok (.aload_n 0, 1) := by decide +kernel
theorem dX7_init_5 : decode cX7_init 5 = .ok (.iload_n 1, 1) := by decide +kernel
theorem dX7_init_6 : decode cX7_init 6 = .ok (.ifCond .le 7, 3) := by decide +kernel
theorem dX7_init_9 : decode cX7_init 9 = .ok (.iload_n 1, 1) := by decide +kernel
theorem dX7_init_10 : decode cX7_init 10 = .ok (.goto 4, 3) := by decide +kernel
theorem dX7_init_13 : decode cX7_init 13 = .ok (.iconst 0, 1) := by decide +kernel
theorem dX7_init_14 : decode cX7_init 14 = .ok (.newarray .char, 2) := by decide +kernel
theorem dX7_init_16 : decode cX7_init 16 = .ok (.putfield 7, 3) := by decide +kernel
theorem dX7_init_19 : decode cX7_init 19 = .ok (.return_, 1) := by decide +kernel
theorem dX7_size_0 : decode cX7_size 0 = .ok (.aload_n 0, 1) := by decide +kernel
theorem dX7_size_1 : decode cX7_size 1 = .ok (.getfield 13, 3) := by decide +kernel
theorem dX7_size_4 : decode cX7_size 4 = .ok (.ireturn, 1) := by decide +kernel
theorem dX7_at_0 : decode cX7_at 0 = .ok (.iload_n 1, 1) := by decide +kernel
theorem dX7_at_1 : decode cX7_at 1 = .ok (.ifCond .lt 20, 3) := by decide +kernel
theorem dX7_at_4 : decode cX7_at 4 = .ok (.iload_n 1, 1) := by decide +kernel
theorem dX7_at_5 : decode cX7_at 5 = .ok (.aload_n 0, 1) := by decide +kernel
theorem dX7_at_6 : decode cX7_at 6 = .ok (.getfield 13, 3) := by decide +kernel
theorem dX7_at_9 : decode cX7_at 9 = .ok (.if_icmp .ge 12, 3) := by decide +kernel
theorem dX7_at_12 : decode cX7_at 12 = .ok (.aload_n 0, 1) := by decide +kernel
theorem dX7_at_13 : decode cX7_at 13 = .ok (.getfield 7, 3) := by decide +kernel
theorem dX7_at_16 : decode cX7_at 16 = .ok (.iload_n 1, 1) := by decide +kernel
theorem dX7_at_17 : decode cX7_at 17 = .ok (.caload, 1) := by decide +kernel
theorem dX7_at_18 : decode cX7_at 18 = .ok (.goto 4, 3) := by decide +kernel
theorem dX7_at_21 : decode cX7_at 21 = .ok (.iconst 0, 1) := by decide +kernel
theorem dX7_at_22 : decode cX7_at 22 = .ok (.ireturn, 1) := by decide +kernel
theorem dX7_add_0 : decode cX7_add 0 = .ok (.aload_n 0, 1) := by decide +kernel
theorem dX7_add_1 : decode cX7_add 1 = .ok (.getfield 13, 3) := by decide +kernel
theorem dX7_add_4 : decode cX7_add 4 = .ok (.aload_n 0, 1) := by decide +kernel
theorem dX7_add_5 : decode cX7_add 5 = .ok (.getfield 7, 3) := by decide +kernel
theorem dX7_add_8 : decode cX7_add 8 = .ok (.arraylength, 1) := by decide +kernel
theorem dX7_add_9 : decode cX7_add 9 = .ok (.if_icmp .ge 23, 3) := by decide +kernel
theorem dX7_add_12 : decode cX7_add 12 = .ok (.aload_n 0, 1) := by decide +kernel
theorem dX7_add_13 : decode cX7_add 13 = .ok (.getfield 7, 3) := by decide +kernel
theorem dX7_add_16 : decode cX7_add 16 = .ok (.aload_n 0, 1) := by decide +kernel
theorem dX7_add_17 : decode cX7_add 17 = .ok (.getfield 13, 3) := by decide +kernel
theorem dX7_add_20 : decode cX7_add 20 = .ok (.iload_n 1, 1) := by decide +kernel
theorem dX7_add_21 : decode cX7_add 21 = .ok (.castore, 1) := by decide +kernel
theorem dX7_add_22 : decode cX7_add 22 = .ok (.aload_n 0, 1) := by decide +kernel
theorem dX7_add_23 : decode cX7_add 23 = .ok (.dup, 1) := by decide +kernel
theorem dX7_add_24 : decode cX7_add 24 = .ok (.getfield 13, 3) := by decide +kernel
theorem dX7_add_27 : decode cX7_add 27 = .ok (.iconst 1, 1) := by decide +kernel
theorem dX7_add_28 : decode cX7_add 28 = .ok (.iadd, 1) := by decide +kernel
theorem dX7_add_29 : decode cX7_add 29 = .ok (.putfield 13, 3) := by decide +kernel
theorem dX7_add_32 : decode cX7_add 32 = .ok (.return_, 1) := by decide +kernel
theorem dX7_addPart_0 : decode cX7_addPart 0 = .ok (.iload_n 2, 1) := by decide +kernel
theorem dX7_addPart_1 : decode cX7_addPart 1 = .ok (.istore 4, 2) := by decide +kernel
theorem dX7_addPart_3 : decode cX7_addPart 3 = .ok (.iload 4, 2) := by decide +kernel
theorem dX7_addPart_5 : decode cX7_addPart 5 = .ok (.iload_n 3, 1) := by decide +kernel
theorem dX7_addPart_6 : decode cX7_addPart 6 = .ok (.if_icmp .ge 19, 3) := by decide +kernel
theorem dX7_addPart_9 : decode cX7_addPart 9 = .ok (.aload_n 0, 1) := by decide +kernel
theorem dX7_addPart_10 : decode cX7_addPart 10 = .ok (.aload_n 1, 1) := by decide +kernel
theorem dX7_addPart_11 : decode cX7_addPart 11 = .ok (.iload 4, 2) := by decide +kernel
theorem dX7_addPart_13 : decode cX7_addPart 13 = .ok (.invokevirtual 17, 3) := by decide +kernel
theorem dX7_addPart_16 : decode cX7_addPart 16 = .ok (.invokevirtual 21, 3) := by decide +kernel
theorem dX7_addPart_19 : decode cX7_addPart 19 = .ok (.iinc 4 1, 3) := by decide +kernel
theorem dX7_addPart_22 : decode cX7_addPart 22 = .ok (.goto (-19), 3) := by decide +kernel
theorem dX7_addPart_25 : decode cX7_addPart 25 = .ok (.return_, 1) := by decide +kernel
theorem dX7_addForm_0 : decode cX7_addForm 0 = .ok (.lload_n 1, 1) := by decide +kernel
theorem dX7_addForm_1 : decode cX7_addForm 1 = .ok (.invokestatic 25, 3) := by decide +kernel
theorem dX7_addForm_4 : decode cX7_addForm 4 = .ok (.istore_n 3, 1) := by decide +kernel
theorem dX7_addForm_5 : decode cX7_addForm 5 = .ok (.iconst 0, 1) := by decide +kernel
theorem dX7_addForm_6 : decode cX7_addForm 6 = .ok (.istore 4, 2) := by decide +kernel
theorem dX7_addForm_8 : decode cX7_addForm 8 = .ok (.iload 4, 2) := by decide +kernel
theorem dX7_addForm_10 : decode cX7_addForm 10 = .ok (.iload_n 3, 1) := by decide +kernel
theorem dX7_addForm_11 : decode cX7_addForm 11 = .ok (.if_icmp .ge 19, 3) := by decide +kernel
theorem dX7_addForm_14 : decode cX7_addForm 14 = .ok (.aload_n 0, 1) := by decide +kernel
theorem dX7_addForm_15 : decode cX7_addForm 15 = .ok (.lload_n 1, 1) := by decide +kernel
theorem dX7_addForm_16 : decode cX7_addForm 16 = .ok (.iload 4, 2) := by decide +kernel
theorem dX7_addForm_18 : decode cX7_addForm 18 = .ok (.invokestatic 31, 3) := by decide +kernel
theorem dX7_addForm_21 : decode cX7_addForm 21 = .ok (.invokevirtual 21, 3) := by decide +kernel
theorem dX7_addForm_24 : decode cX7_addForm 24 = .ok (.iinc 4 1, 3) := by decide +kernel
theorem dX7_addForm_27 : decode cX7_addForm 27 = .ok (.goto (-19), 3) := by decide +kernel
theorem dX7_addForm_30 : decode cX7_addForm 30 = .ok (.return_, 1) := by decide +kernel
theorem dX7_empty_0 : decode cX7_empty 0 = .ok (.aload_n 0, 1) := by decide +kernel
theorem dX7_empty_1 : decode cX7_empty 1 = .ok (.iconst 0, 1) := by decide +kernel
theorem dX7_empty_2 : decode cX7_empty 2 = .ok (.putfield 13, 3) := by decide +kernel
theorem dX7_empty_5 : decode cX7_empty 5 = .ok (.return_, 1) := by decide +kernel
theorem dX7_copy_0 : decode cX7_copy 0 = .ok (.new 8, 3) := by decide +kernel
theorem dX7_copy_3 : decode cX7_copy 3 = .ok (.dup, 1) := by decide +kernel
theorem dX7_copy_4 : decode cX7_copy 4 = .ok (.aload_n 0, 1) := by decide +kernel
theorem dX7_copy_5 : decode cX7_copy 5 = .ok (.getfield 13, 3) := by decide +kernel
theorem dX7_copy_8 : decode cX7_copy 8 = .ok (.invokespecial 35, 3) := by decide +kernel
theorem dX7_copy_11 : decode cX7_copy 11 = .ok (.astore_n 1, 1) := by decide +kernel
theorem dX7_copy_12 : decode cX7_copy 12 = .ok (.aload_n 1, 1) := by decide +kernel
theorem dX7_copy_13 : decode cX7_copy 13 = .ok (.aload_n 0, 1) := by decide +kernel
theorem dX7_copy_14 : decode cX7_copy 14 = .ok (.iconst 0, 1) := by decide +kernel
theorem dX7_copy_15 : decode cX7_copy 15 = .ok (.aload_n 0, 1) := by decide +kernel
theorem dX7_copy_16 : decode cX7_copy 16 = .ok (.getfield 13, 3) := by decide +kernel
theorem dX7_copy_19 : decode cX7_copy 19 = .ok (.invokevirtual 38, 3) := by decide +kernel
theorem dX7_copy_22 : decode cX7_copy 22 = .ok (.aload_n 1, 1) := by decide +kernel
theorem dX7_copy_23 : decode cX7_copy 23 = .ok (.areturn, 1) := by decide +kernel
theorem dX7_sameAs_0 : decode cX7_sameAs 0 = .ok (.aload_n 0, 1) := by decide +kernel
theorem dX7_sameAs_1 : decode cX7_sameAs 1 = .ok (.getfield 13, 3) := by decide +kernel
theorem dX7_sameAs_4 : decode cX7_sameAs 4 = .ok (.aload_n 1, 1) := by decide +kernel
theorem dX7_sameAs_5 : decode cX7_sameAs 5 = .ok (.getfield 13, 3) := by decide +kernel
theorem dX7_sameAs_8 : decode cX7_sameAs 8 = .ok (.if_icmp .eq 5, 3) := by decide +kernel
theorem dX7_sameAs_11 : decode cX7_sameAs 11 = .ok (.iconst 0, 1) := by decide +kernel
theorem dX7_sameAs_12 : decode cX7_sameAs 12 = .ok (.ireturn, 1) := by decide +kernel
theorem dX7_sameAs_13 : decode cX7_sameAs 13 = .ok (.iconst 0, 1) := by decide +kernel
theorem dX7_sameAs_14 : decode cX7_sameAs 14 = .ok (.istore_n 2, 1) := by decide +kernel
theorem dX7_sameAs_15 : decode cX7_sameAs 15 = .ok (.iload_n 2, 1) := by decide +kernel
theorem dX7_sameAs_16 : decode cX7_sameAs 16 = .ok (.aload_n 0, 1) := by decide +kernel
theorem dX7_sameAs_17 : decode cX7_sameAs 17 = .ok (.getfield 13, 3) := by decide +kernel
theorem dX7_sameAs_20 : decode cX7_sameAs 20 = .ok (.if_icmp .ge 24, 3) := by decide +kernel
theorem dX7_sameAs_23 : decode cX7_sameAs 23 = .ok (.aload_n 0, 1) := by decide +kernel
theorem dX7_sameAs_24 : decode cX7_sameAs 24 = .ok (.iload_n 2, 1) := by decide +kernel
theorem dX7_sameAs_25 : decode cX7_sameAs 25 = .ok (.invokevirtual 17, 3) := by decide +kernel
theorem dX7_sameAs_28 : decode cX7_sameAs 28 = .ok (.aload_n 1, 1) := by decide +kernel
theorem dX7_sameAs_29 : decode cX7_sameAs 29 = .ok (.iload_n 2, 1) := by decide +kernel
theorem dX7_sameAs_30 : decode cX7_sameAs 30 = .ok (.invokevirtual 17, 3) := by decide +kernel
theorem dX7_sameAs_33 : decode cX7_sameAs 33 = .ok (.if_icmp .eq 5, 3) := by decide +kernel
theorem dX7_sameAs_36 : decode cX7_sameAs 36 = .ok (.iconst 0, 1) := by decide +kernel
theorem dX7_sameAs_37 : decode cX7_sameAs 37 = .ok (.ireturn, 1) := by decide +kernel
theorem dX7_sameAs_38 : decode cX7_sameAs 38 = .ok (.iinc 2 1, 3) := by decide +kernel
theorem dX7_sameAs_41 : decode cX7_sameAs 41 = .ok (.goto (-26), 3) := by decide +kernel
theorem dX7_sameAs_44 : decode cX7_sameAs 44 = .ok (.iconst 1, 1) := by decide +kernel
theorem dX7_sameAs_45 : decode cX7_sameAs 45 = .ok (.ireturn, 1) := by decide +kernel
theorem dX7_lettersEnd_0 : decode cX7_lettersEnd 0 = .ok (.iload_n 1, 1) := by decide +kernel
theorem dX7_lettersEnd_1 : decode cX7_lettersEnd 1 = .ok (.istore_n 2, 1) := by decide +kernel
theorem dX7_lettersEnd_2 : decode cX7_lettersEnd 2 = .ok (.iload_n 2, 1) := by decide +kernel
theorem dX7_lettersEnd_3 : decode cX7_lettersEnd 3 = .ok (.aload_n 0, 1) := by decide +kernel
theorem dX7_lettersEnd_4 : decode cX7_lettersEnd 4 = .ok (.getfield 13, 3) := by decide +kernel
theorem dX7_lettersEnd_7 : decode cX7_lettersEnd 7 = .ok (.if_icmp .ge 20, 3) := by decide +kernel
theorem dX7_lettersEnd_10 : decode cX7_lettersEnd 10 = .ok (.aload_n 0, 1) := by decide +kernel
theorem dX7_lettersEnd_11 : decode cX7_lettersEnd 11 = .ok (.iload_n 2, 1) := by decide +kernel
theorem dX7_lettersEnd_12 : decode cX7_lettersEnd 12 = .ok (.invokevirtual 17, 3) := by decide +kernel
theorem dX7_lettersEnd_15 : decode cX7_lettersEnd 15 = .ok (.invokestatic 42, 3) := by decide +kernel
theorem dX7_lettersEnd_18 : decode cX7_lettersEnd 18 = .ok (.ifCond .eq 9, 3) := by decide +kernel
theorem dX7_lettersEnd_21 : decode cX7_lettersEnd 21 = .ok (.iinc 2 1, 3) := by decide +kernel
theorem dX7_lettersEnd_24 : decode cX7_lettersEnd 24 = .ok (.goto (-22), 3) := by decide +kernel
theorem dX7_lettersEnd_27 : decode cX7_lettersEnd 27 = .ok (.iload_n 2, 1) := by decide +kernel
theorem dX7_lettersEnd_28 : decode cX7_lettersEnd 28 = .ok (.ireturn, 1) := by decide +kernel
theorem dX8_init_0 : decode cX8_init 0 = .ok (.aload_n 0, 1) := by decide +kernel
theorem dX8_init_1 : decode cX8_init 1 = .ok (.invokespecial 3, 3) := by decide +kernel
theorem dX8_init_4 : decode cX8_init 4 = .ok (.return_, 1) := by decide +kernel
theorem dX8_errorInRule_0 : decode cX8_errorInRule 0 = .ok (.aload_n 0, 1) := by decide +kernel
theorem dX8_errorInRule_1 : decode cX8_errorInRule 1 = .ok (.iconst 0, 1) := by decide +kernel
theorem dX8_errorInRule_2 : decode cX8_errorInRule 2 = .ok (.invokevirtual 9, 3) := by decide +kernel
theorem dX8_errorInRule_5 : decode cX8_errorInRule 5 = .ok (.bipush 6, 2) := by decide +kernel
theorem dX8_errorInRule_7 : decode cX8_errorInRule 7 = .ok (.invokestatic 15, 3) := by decide +kernel
theorem dX8_errorInRule_10 : decode cX8_errorInRule 10 = .ok (.istore_n 1, 1) := by decide +kernel
theorem dX8_errorInRule_11 : decode cX8_errorInRule 11 = .ok (.iload_n 1, 1) := by decide +kernel
theorem dX8_errorInRule_12 : decode cX8_errorInRule 12 = .ok (.ifCond .eq 13, 3) := by decide +kernel
theorem dX8_errorInRule_15 : decode cX8_errorInRule 15 = .ok (.aload_n 0, 1) := by decide +kernel
theorem dX8_errorInRule_16 : decode cX8_errorInRule 16 = .ok (.iload_n 1, 1) := by decide +kernel
theorem dX8_errorInRule_17 : decode cX8_errorInRule 17 = .ok (.invokevirtual 21, 3) := by decide +kernel
theorem dX8_errorInRule_20 : decode cX8_errorInRule 20 = .ok (.bipush 61, 2) := by decide +kernel
theorem dX8_errorInRule_22 : decode cX8_errorInRule 22 = .ok (.if_icmp .eq 5, 3) := by decide +kernel
theorem dX8_errorInRule_25 : decode cX8_errorInRule 25 = .ok (.iload_n 1, 1) := by decide +kernel
theorem dX8_errorInRule_26 : decode cX8_errorInRule 26 = .ok (.ireturn, 1) := by decide +kernel
theorem dX8_errorInRule_27 : decode cX8_errorInRule 27 = .ok (.iload_n 1, 1) := by decide +kernel
theorem dX8_errorInRule_28 : decode cX8_errorInRule 28 = .ok (.iconst 1, 1) := by decide +kernel
theorem dX8_errorInRule_29 : decode cX8_errorInRule 29 = .ok (.iadd, 1) := by decide +kernel
theorem dX8_errorInRule_30 : decode cX8_errorInRule 30 = .ok (.istore_n 2, 1) := by decide +kernel
theorem dX8_errorInRule_31 : decode cX8_errorInRule 31 = .ok (.aload_n 0, 1) := by decide +kernel
theorem dX8_errorInRule_32 : decode cX8_errorInRule 32 = .ok (.iload_n 2, 1) := by decide +kernel
theorem dX8_errorInRule_33 : decode cX8_errorInRule 33 = .ok (.invokevirtual 9, 3) := by decide +kernel
theorem dX8_errorInRule_36 : decode cX8_errorInRule 36 = .ok (.iload_n 2, 1) := by decide +kernel
theorem dX8_errorInRule_37 : decode cX8_errorInRule 37 = .ok (.bipush 12, 2) := by decide +kernel
theorem dX8_errorInRule_39 : decode cX8_errorInRule 39 = .ok (.iadd, 1) := by decide +kernel
theorem dX8_errorInRule_40 : decode cX8_errorInRule 40 = .ok (.invokestatic 15, 3) := by decide +kernel
theorem dX8_errorInRule_43 : decode cX8_errorInRule 43 = .ok (.istore_n 3, 1) := by decide +kernel
theorem dX8_errorInRule_44 : decode cX8_errorInRule 44 = .ok (.iload_n 3, 1) := by decide +kernel
theorem dX8_errorInRule_45 : decode cX8_errorInRule 45 = .ok (.aload_n 0, 1) := by decide +kernel
theorem dX8_errorInRule_46 : decode cX8_errorInRule 46 = .ok (.invokevirtual 25, 3) := by decide +kernel
theorem dX8_errorInRule_49 : decode cX8_errorInRule 49 = .ok (.if_icmp .ge 5, 3) := by decide +kernel
theorem dX8_errorInRule_52 : decode cX8_errorInRule 52 = .ok (.iload_n 3, 1) := by decide +kernel
theorem dX8_errorInRule_53 : decode cX8_errorInRule 53 = .ok (.ireturn, 1) := by decide +kernel
theorem dX8_errorInRule_54 : decode cX8_errorInRule 54 = .ok (.iload_n 1, 1) := by decide +kernel
theorem dX8_errorInRule_55 : decode cX8_errorInRule 55 = .ok (.iload_n 3, 1) := by decide +kernel
theorem dX8_errorInRule_56 : decode cX8_errorInRule 56 = .ok (.iload_n 2, 1) := by decide +kernel
theorem dX8_errorInRule_57 : decode cX8_errorInRule 57 = .ok (.isub, 1) := by decide +kernel
theorem dX8_errorInRule_58 : decode cX8_errorInRule 58 = .ok (.invokestatic 29, 3) := by decide +kernel
theorem dX8_errorInRule_61 : decode cX8_errorInRule 61 = .ok (.ifCond .eq 7, 3) := by decide +kernel
theorem dX8_errorInRule_64 : decode cX8_errorInRule 64 = .ok (.iconst (-1), 1) := by decide +kernel
theorem dX8_errorInRule_65 : decode cX8_errorInRule 65 = .ok (.goto 7, 3) := by decide +kernel
theorem dX8_errorInRule_68 : decode cX8_errorInRule 68 = .ok (.aload_n 0, 1) := by decide +kernel
theorem dX8_errorInRule_69 : decode cX8_errorInRule 69 = .ok (.invokevirtual 25, 3) := by decide +kernel
theorem dX8_errorInRule_72 : decode cX8_errorInRule 72 = .ok (.ireturn, 1) := by decide +kernel
theorem dX8_errorInText_0 : decode cX8_errorInText 0 = .ok (.aload_n 0, 1) := by decide +kernel
theorem dX8_errorInText_1 : decode cX8_errorInText 1 = .ok (.iload_n 2, 1) := by decide +kernel
theorem dX8_errorInText_2 : decode cX8_errorInText 2 = .ok (.putfield 33, 3) := by decide +kernel
theorem dX8_errorInText_5 : decode cX8_errorInText 5 = .ok (.aload_n 0, 1) := by decide +kernel
theorem dX8_errorInText_6 : decode cX8_errorInText 6 = .ok (.iconst 0, 1) := by decide +kernel
theorem dX8_errorInText_7 : decode cX8_errorInText 7 = .ok (.putfield 39, 3) := by decide +kernel
theorem dX8_errorInText_10 : decode cX8_errorInText 10 = .ok (.aload_n 0, 1) := by decide +kernel
theorem dX8_errorInText_11 : decode cX8_errorInText 11 = .ok (.aload_n 1, 1) := by decide +kernel
theorem dX8_errorInText_12 : decode cX8_errorInText 12 = .ok (.invokevirtual 42, 3) := by decide +kernel
theorem dX8_errorInText_15 : decode cX8_errorInText 15 = .ok (.ireturn, 1) := by decide +kernel
theorem dX8_errorInPairs_0 : decode cX8_errorInPairs 0 = .ok (.aload_n 0, 1) := by decide +kernel
theorem dX8_errorInPairs_1 : decode cX8_errorInPairs 1 = .ok (.iconst 0, 1) := by decide +kernel
theorem dX8_errorInPairs_2 : decode cX8_errorInPairs 2 = .ok (.putfield 33, 3) := by decide +kernel
theorem dX8_errorInPairs_5 : decode cX8_errorInPairs 5 = .ok (.aload_n 0, 1) := by decide +kernel
theorem dX8_errorInPairs_6 : decode cX8_errorInPairs 6 = .ok (.iconst 1, 1) := by decide +kernel
theorem dX8_errorInPairs_7 : decode cX8_errorInPairs 7 = .ok (.putfield 39, 3) := by decide +kernel
theorem dX8_errorInPairs_10 : decode cX8_errorInPairs 10 = .ok (.aload_n 0, 1) := by decide +kernel
theorem dX8_errorInPairs_11 : decode cX8_errorInPairs 11 = .ok (.aload_n 1, 1) := by decide +kernel
theorem dX8_errorInPairs_12 : decode cX8_errorInPairs 12 = .ok (.invokevirtual 42, 3) := by decide +kernel
theorem dX8_errorInPairs_15 : decode cX8_errorInPairs 15 = .ok (.ireturn, 1) := by decide +kernel
theorem dX8_firstError_0 : decode cX8_firstError 0 = .ok (.aload_n 0, 1) := by decide +kernel
theorem dX8_firstError_1 : decode cX8_firstError 1 = .ok (.invokevirtual 46, 3) := by decide +kernel
theorem dX8_firstError_4 : decode cX8_firstError 4 = .ok (.aload_n 0, 1) := by decide +kernel
theorem dX8_firstError_5 : decode cX8_firstError 5 = .ok (.iconst 0, 1) := by decide +kernel
theorem dX8_firstError_6 : decode cX8_firstError 6 = .ok (.putfield 49, 3) := by decide +kernel
theorem dX8_firstError_9 : decode cX8_firstError 9 = .ok (.iconst 0, 1) := by decide +kernel
theorem dX8_firstError_10 : decode cX8_firstError 10 = .ok (.istore_n 2, 1) := by decide +kernel
theorem dX8_firstError_11 : decode cX8_firstError 11 = .ok (.iload_n 2, 1) := by decide +kernel
theorem dX8_firstError_12 : decode cX8_firstError 12 = .ok (.aload_n 1, 1) := by decide +kernel
theorem dX8_firstError_13 : decode cX8_firstError 13 = .ok (.invokevirtual 25, 3) := by decide +kernel
theorem dX8_firstError_16 : decode cX8_firstError 16 = .ok (.if_icmp .ge 23, 3) := by decide +kernel
theorem dX8_firstError_19 : decode cX8_firstError 19 = .ok (.aload_n 0, 1) := by decide +kernel
theorem dX8_firstError_20 : decode cX8_firstError 20 = .ok (.aload_n 1, 1) := by decide +kernel
theorem dX8_firstError_21 : decode cX8_firstError 21 = .ok (.iload_n 2, 1) := by decide +kernel
theorem dX8_firstError_22 : decode cX8_firstError 22 = .ok (.invokevirtual 21, 3) := by decide +kernel
theorem dX8_firstError_25 : decode cX8_firstError 25 = .ok (.invokevirtual 53, 3) := by decide +kernel
theorem dX8_firstError_28 : decode cX8_firstError 28 = .ok (.ifCond .ne 5, 3) := by decide +kernel
theorem dX8_firstError_31 : decode cX8_firstError 31 = .ok (.iload_n 2, 1) := by decide +kernel
theorem dX8_firstError_32 : decode cX8_firstError 32 = .ok (.ireturn, 1) := by decide +kernel
theorem dX8_firstError_33 : decode cX8_firstError 33 = .ok (.iinc 2 1, 3) := by decide +kernel
theorem dX8_firstError_36 : decode cX8_firstError 36 = .ok (.goto (-25), 3) := by decide +kernel
theorem dX8_firstError_39 : decode cX8_firstError 39 = .ok (.aload_n 0, 1) := by decide +kernel
theorem dX8_firstError_40 : decode cX8_firstError 40 = .ok (.getfield 57, 3) := by decide +kernel
theorem dX8_firstError_43 : decode cX8_firstError 43 = .ok (.ifCond .le 25, 3) := by decide +kernel
theorem dX8_firstError_46 : decode cX8_firstError 46 = .ok (.aload_n 0, 1) := by decide +kernel
theorem dX8_firstError_47 : decode cX8_firstError 47 = .ok (.getfield 39, 3) := by decide +kernel
theorem dX8_firstError_50 : decode cX8_firstError 50 = .ok (.ifCond .eq 14, 3) := by decide +kernel
theorem dX8_firstError_53 : decode cX8_firstError 53 = .ok (.aload_n 0, 1) := by decide +kernel
theorem dX8_firstError_54 : decode cX8_firstError 54 = .ok (.getfield 60, 3) := by decide +kernel
theorem dX8_firstError_57 : decode cX8_firstError 57 = .ok (.aload_n 0, 1) := by decide +kernel
theorem dX8_firstError_58 : decode cX8_firstError 58 = .ok (.getfield 49, 3) := by decide +kernel
theorem dX8_firstError_61 : decode cX8_firstError 61 = .ok (.if_icmp .ne 7, 3) := by decide +kernel
theorem dX8_firstError_64 : decode cX8_firstError 64 = .ok (.iconst 1, 1) := by decide +kernel
theorem dX8_firstError_65 : decode cX8_firstError 65 = .ok (.goto 4, 3) := by decide +kernel
theorem dX8_firstError_68 : decode cX8_firstError 68 = .ok (.iconst 0, 1) := by decide +kernel
theorem dX8_firstError_69 : decode cX8_firstError 69 = .ok (.istore_n 2, 1) := by decide +kernel
theorem dX8_firstError_70 : decode cX8_firstError 70 = .ok (.iload_n 2, 1) := by decide +kernel
theorem dX8_firstError_71 : decode cX8_firstError 71 = .ok (.ifCond .eq 7, 3) := by decide +kernel
theorem dX8_firstError_74 : decode cX8_firstError 74 = .ok (.iconst (-1), 1) := by decide +kernel
theorem dX8_firstError_75 : decode cX8_firstError 75 = .ok (.goto 7, 3) := by decide +kernel
theorem dX8_firstError_78 : decode cX8_firstError 78 = .ok (.aload_n 1, 1) := by decide +kernel
theorem dX8_firstError_79 : decode cX8_firstError 79 = .ok (.invokevirtual 25, 3) := by decide +kernel
theorem dX8_firstError_82 : decode cX8_firstError 82 = .ok (.ireturn, 1) := by decide +kernel
theorem dX8_startSide_0 : decode cX8_startSide 0 = .ok (.aload_n 0, 1) := by decide +kernel
theorem dX8_startSide_1 : decode cX8_startSide 1 = .ok (.iconst 1, 1) := by decide +kernel
theorem dX8_startSide_2 : decode cX8_startSide 2 = .ok (.putfield 60, 3) := by decide +kernel
theorem dX8_startSide_5 : decode cX8_startSide 5 = .ok (.aload_n 0, 1) := by decide +kernel
theorem dX8_startSide_6 : decode cX8_startSide 6 = .ok (.invokevirtual 63, 3) := by decide +kernel
theorem dX8_startSide_9 : decode cX8_startSide 9 = .ok (.return_, 1) := by decide +kernel
theorem dX8_startWord_0 : decode cX8_startWord 0 = .ok (.aload_n 0, 1) := by decide +kernel
theorem dX8_startWord_1 : decode cX8_startWord 1 = .ok (.iconst 0, 1) := by decide +kernel
theorem dX8_startWord_2 : decode cX8_startWord 2 = .ok (.putfield 57, 3) := by decide +kernel
theorem dX8_startWord_5 : decode cX8_startWord 5 = .ok (.aload_n 0, 1) := by decide +kernel
theorem dX8_startWord_6 : decode cX8_startWord 6 = .ok (.iconst 0, 1) := by decide +kernel
theorem dX8_startWord_7 : decode cX8_startWord 7 = .ok (.putfield 66, 3) := by decide +kernel
theorem dX8_startWord_10 : decode cX8_startWord 10 = .ok (.return_, 1) := by decide +kernel
theorem dX8_accepts_0 : decode cX8_accepts 0 = .ok (.iload_n 1, 1) := by decide +kernel
theorem dX8_accepts_1 : decode cX8_accepts 1 = .ok (.invokestatic 69, 3) := by decide +kernel
theorem dX8_accepts_4 : decode cX8_accepts 4 = .ok (.ifCond .eq 28, 3) := by decide +kernel
theorem dX8_accepts_7 : decode cX8_accepts 7 = .ok (.aload_n 0, 1) := by decide +kernel
theorem dX8_accepts_8 : decode cX8_accepts 8 = .ok (.dup, 1) := by decide +kernel
theorem dX8_accepts_9 : decode cX8_accepts 9 = .ok (.getfield 57, 3) := by decide +kernel
theorem dX8_accepts_12 : decode cX8_accepts 12 = .ok (.iconst 1, 1) := by decide +kernel
theorem dX8_accepts_13 : decode cX8_accepts 13 = .ok (.iadd, 1) := by decide +kernel
theorem dX8_accepts_14 : decode cX8_accepts 14 = .ok (.putfield 57, 3) := by decide +kernel
theorem dX8_accepts_17 : decode cX8_accepts 17 = .ok (.aload_n 0, 1) := by decide +kernel
theorem dX8_accepts_18 : decode cX8_accepts 18 = .ok (.getfield 57, 3) := by decide +kernel
theorem dX8_accepts_21 : decode cX8_accepts 21 = .ok (.bipush 24, 2) := by decide +kernel
theorem dX8_accepts_23 : decode cX8_accepts 23 = .ok (.if_icmp .gt 7, 3) := by decide +kernel
theorem dX8_accepts_26 : decode cX8_accepts 26 = .ok (.iconst 1, 1) := by decide +kernel
theorem dX8_accepts_27 : decode cX8_accepts 27 = .ok (.goto 4, 3) := by decide +kernel
theorem dX8_accepts_30 : decode cX8_accepts 30 = .ok (.iconst 0, 1) := by decide +kernel
theorem dX8_accepts_31 : decode cX8_accepts 31 = .ok (.ireturn, 1) := by decide +kernel
theorem dX8_accepts_32 : decode cX8_accepts 32 = .ok (.iload_n 1, 1) := by decide +kernel
theorem dX8_accepts_33 : decode cX8_accepts 33 = .ok (.bipush 39, 2) := by decide +kernel
theorem dX8_accepts_35 : decode cX8_accepts 35 = .ok (.if_icmp .ne 45, 3) := by decide +kernel
theorem dX8_accepts_38 : decode cX8_accepts 38 = .ok (.aload_n 0, 1) := by decide +kernel
theorem dX8_accepts_39 : decode cX8_accepts 39 = .ok (.getfield 57, 3) := by decide +kernel
theorem dX8_accepts_42 : decode cX8_accepts 42 = .ok (.ifCond .ne 14, 3) := by decide +kernel
theorem dX8_accepts_45 : decode cX8_accepts 45 = .ok (.aload_n 0, 1) := by decide +kernel
theorem dX8_accepts_46 : decode cX8_accepts 46 = .ok (.getfield 66, 3) := by decide +kernel
theorem dX8_accepts_49 : decode cX8_accepts 49 = .ok (.ifCond .ne 7, 3) := by decide +kernel
theorem dX8_accepts_52 : decode cX8_accepts 52 = .ok (.iconst 1, 1) := by decide +kernel
theorem dX8_accepts_53 : decode cX8_accepts 53 = .ok (.goto 4, 3) := by decide +kernel
theorem dX8_accepts_56 : decode cX8_accepts 56 = .ok (.iconst 0, 1) := by decide +kernel
theorem dX8_accepts_57 : decode cX8_accepts 57 = .ok (.istore_n 2, 1) := by decide +kernel
theorem dX8_accepts_58 : decode cX8_accepts 58 = .ok (.aload_n 0, 1) := by decide +kernel
theorem dX8_accepts_59 : decode cX8_accepts 59 = .ok (.iconst 1, 1) := by decide +kernel
theorem dX8_accepts_60 : decode cX8_accepts 60 = .ok (.putfield 66, 3) := by decide +kernel
theorem dX8_accepts_63 : decode cX8_accepts 63 = .ok (.aload_n 0, 1) := by decide +kernel
theorem dX8_accepts_64 : decode cX8_accepts 64 = .ok (.getfield 33, 3) := by decide +kernel
theorem dX8_accepts_67 : decode cX8_accepts 67 = .ok (.ifCond .eq 11, 3) := by decide +kernel
theorem dX8_accepts_70 : decode cX8_accepts 70 = .ok (.iload_n 2, 1) := by decide +kernel
theorem dX8_accepts_71 : decode cX8_accepts 71 = .ok (.ifCond .eq 7, 3) := by decide +kernel
theorem dX8_accepts_74 : decode cX8_accepts 74 = .ok (.iconst 1, 1) := by decide +kernel
theorem dX8_accepts_75 : decode cX8_accepts 75 = .ok (.goto 4, 3) := by decide +kernel
theorem dX8_accepts_78 : decode cX8_accepts 78 = .ok (.iconst 0, 1) := by decide +kernel
theorem dX8_accepts_79 : decode cX8_accepts 79 = .ok (.ireturn, 1) := by decide +kernel
theorem dX8_accepts_80 : decode cX8_accepts 80 = .ok (.aload_n 0, 1) := by decide +kernel
theorem dX8_accepts_81 : decode cX8_accepts 81 = .ok (.getfield 57, 3) := by decide +kernel
theorem dX8_accepts_84 : decode cX8_accepts 84 = .ok (.ifCond .le 15, 3) := by decide +kernel
theorem dX8_accepts_87 : decode cX8_accepts 87 = .ok (.aload_n 0, 1) := by decide +kernel
theorem dX8_accepts_88 : decode cX8_accepts 88 = .ok (.iload_n 1, 1) := by decide +kernel
theorem dX8_accepts_89 : decode cX8_accepts 89 = .ok (.invokevirtual 72, 3) := by decide +kernel
theorem dX8_accepts_92 : decode cX8_accepts 92 = .ok (.ifCond .eq 7, 3) := by decide +kernel
theorem dX8_accepts_95 : decode cX8_accepts 95 = .ok (.iconst 1, 1) := by decide +kernel
theorem dX8_accepts_96 : decode cX8_accepts 96 = .ok (.goto 4, 3) := by decide +kernel
theorem dX8_accepts_99 : decode cX8_accepts 99 = .ok (.iconst 0, 1) := by decide +kernel
theorem dX8_accepts_100 : decode cX8_accepts 100 = .ok (.ireturn, 1) := by decide +kernel
theorem dX8_acceptsEnd_0 : decode cX8_acceptsEnd 0 = .ok (.iload_n 1, 1) := by decide +kernel
theorem dX8_acceptsEnd_1 : decode cX8_acceptsEnd 1 = .ok (.bipush 32, 2) := by decide +kernel
theorem dX8_acceptsEnd_3 : decode cX8_acceptsEnd 3 = .ok (.if_icmp .ne 30, 3) := by decide +kernel
theorem dX8_acceptsEnd_6 : decode cX8_acceptsEnd 6 = .ok (.aload_n 0, 1) := by decide +kernel
theorem dX8_acceptsEnd_7 : decode cX8_acceptsEnd 7 = .ok (.getfield 60, 3) := by decide +kernel
theorem dX8_acceptsEnd_10 : decode cX8_acceptsEnd 10 = .ok (.aload_n 0, 1) := by decide +kernel
theorem dX8_acceptsEnd_11 : decode cX8_acceptsEnd 11 = .ok (.getfield 49, 3) := by decide +kernel
theorem dX8_acceptsEnd_14 : decode cX8_acceptsEnd 14 = .ok (.if_icmp .eq 19, 3) := by decide +kernel
theorem dX8_acceptsEnd_17 : decode cX8_acceptsEnd 17 = .ok (.aload_n 0, 1) := by decide +kernel
theorem dX8_acceptsEnd_18 : decode cX8_acceptsEnd 18 = .ok (.dup, 1) := by decide +kernel
theorem dX8_acceptsEnd_19 : decode cX8_acceptsEnd 19 = .ok (.getfield 60, 3) := by decide +kernel
theorem dX8_acceptsEnd_22 : decode cX8_acceptsEnd 22 = .ok (.iconst 1, 1) := by decide +kernel
theorem dX8_acceptsEnd_23 : decode cX8_acceptsEnd 23 = .ok (.iadd, 1) := by decide +kernel
theorem dX8_acceptsEnd_24 : decode cX8_acceptsEnd 24 = .ok (.putfield 60, 3) := by decide +kernel
theorem dX8_acceptsEnd_27 : decode cX8_acceptsEnd 27 = .ok (.aload_n 0, 1) := by decide +kernel
theorem dX8_acceptsEnd_28 : decode cX8_acceptsEnd 28 = .ok (.invokevirtual 63, 3) := by decide +kernel
theorem dX8_acceptsEnd_31 : decode cX8_acceptsEnd 31 = .ok (.iconst 1, 1) := by decide +kernel
theorem dX8_acceptsEnd_32 : decode cX8_acceptsEnd 32 = .ok (.ireturn, 1) := by decide +kernel
theorem dX8_acceptsEnd_33 : decode cX8_acceptsEnd 33 = .ok (.iload_n 1, 1) := by decide +kernel
theorem dX8_acceptsEnd_34 : decode cX8_acceptsEnd 34 = .ok (.bipush 61, 2) := by decide +kernel
theorem dX8_acceptsEnd_36 : decode cX8_acceptsEnd 36 = .ok (.if_icmp .ne 31, 3) := by decide +kernel
theorem dX8_acceptsEnd_39 : decode cX8_acceptsEnd 39 = .ok (.aload_n 0, 1) := by decide +kernel
theorem dX8_acceptsEnd_40 : decode cX8_acceptsEnd 40 = .ok (.getfield 39, 3) := by decide +kernel
theorem dX8_acceptsEnd_43 : decode cX8_acceptsEnd 43 = .ok (.ifCond .eq 24, 3) := by decide +kernel
theorem dX8_acceptsEnd_46 : decode cX8_acceptsEnd 46 = .ok (.aload_n 0, 1) := by decide +kernel
theorem dX8_acceptsEnd_47 : decode cX8_acceptsEnd 47 = .ok (.getfield 49, 3) := by decide +kernel
theorem dX8_acceptsEnd_50 : decode cX8_acceptsEnd 50 = .ok (.ifCond .ne 17, 3) := by decide +kernel
theorem dX8_acceptsEnd_53 : decode cX8_acceptsEnd 53 = .ok (.aload_n 0, 1) := by decide +kernel
theorem dX8_acceptsEnd_54 : decode cX8_acceptsEnd 54 = .ok (.aload_n 0, 1) := by decide +kernel
theorem dX8_acceptsEnd_55 : decode cX8_acceptsEnd 55 = .ok (.getfield 60, 3) := by decide +kernel
theorem dX8_acceptsEnd_58 : decode cX8_acceptsEnd 58 = .ok (.putfield 49, 3) := by decide +kernel
theorem dX8_acceptsEnd_61 : decode cX8_acceptsEnd 61 = .ok (.aload_n 0, 1) := by decide +kernel
theorem dX8_acceptsEnd_62 : decode cX8_acceptsEnd 62 = .ok (.invokevirtual 46, 3) := by decide +kernel
theorem dX8_acceptsEnd_65 : decode cX8_acceptsEnd 65 = .ok (.iconst 1, 1) := by decide +kernel
theorem dX8_acceptsEnd_66 : decode cX8_acceptsEnd 66 = .ok (.ireturn, 1) := by decide +kernel
theorem dX8_acceptsEnd_67 : decode cX8_acceptsEnd 67 = .ok (.iconst 0, 1) := by decide +kernel
theorem dX8_acceptsEnd_68 : decode cX8_acceptsEnd 68 = .ok (.ireturn, 1) := by decide +kernel
theorem dX9_init_0 : decode cX9_init 0 = .ok (.aload_n 0, 1) := by decide +kernel
theorem dX9_init_1 : decode cX9_init 1 = .ok (.invokespecial 3, 3) := by decide +kernel
theorem dX9_init_4 : decode cX9_init 4 = .ok (.aload_n 0, 1) := by decide +kernel
theorem dX9_init_5 : decode cX9_init 5 = .ok (.new 9, 3) := by decide +kernel
theorem dX9_init_8 : decode cX9_init 8 = .ok (.dup, 1) := by decide +kernel
theorem dX9_init_9 : decode cX9_init 9 = .ok (.invokespecial 11, 3) := by decide +kernel
theorem dX9_init_12 : decode cX9_init 12 = .ok (.putfield 12, 3) := by decide +kernel
theorem dX9_init_15 : decode cX9_init 15 = .ok (.aload_n 0, 1) := by decide +kernel
theorem dX9_init_16 : decode cX9_init 16 = .ok (.new 9, 3) := by decide +kernel
theorem dX9_init_19 : decode cX9_init 19 = .ok (.dup, 1) := by decide +kernel
theorem dX9_init_20 : decode cX9_init 20 = .ok (.invokespecial 11, 3) := by decide +kernel
theorem dX9_init_23 : decode cX9_init 23 = .ok (.putfield 18, 3) := by decide +kernel
theorem dX9_init_26 : decode cX9_init 26 = .ok (.aload_n 0, 1) := by decide +kernel
theorem dX9_init_27 : decode cX9_init 27 = .ok (.new 21, 3) := by decide +kernel
theorem dX9_init_30 : decode cX9_init 30 = .ok (.dup, 1) := by decide +kernel
theorem dX9_init_31 : decode cX9_init 31 = .ok (.bipush 46, 2) := by decide +kernel
theorem dX9_init_33 : decode cX9_init 33 = .ok (.invokespecial 23, 3) := by decide +kernel
theorem dX9_init_36 : decode cX9_init 36 = .ok (.putfield 26, 3) := by decide +kernel
theorem dX9_init_39 : decode cX9_init 39 = .ok (.return_, 1) := by decide +kernel
theorem dX9_shortenWord_0 : decode cX9_shortenWord 0 = .ok (.aload_n 0, 1) := by decide +kernel
theorem dX9_shortenWord_1 : decode cX9_shortenWord 1 = .ok (.getfield 12, 3) := by decide +kernel
theorem dX9_shortenWord_4 : decode cX9_shortenWord 4 = .ok (.aload_n 1, 1) := by decide +kernel
theorem dX9_shortenWord_5 : decode cX9_shortenWord 5 = .ok (.aload_n 2, 1) := by decide +kernel
theorem dX9_shortenWord_6 : decode cX9_shortenWord 6 = .ok (.iload_n 3, 1) := by decide +kernel
theorem dX9_shortenWord_7 : decode cX9_shortenWord 7 = .ok (.iconst 1, 1) := by decide +kernel
theorem dX9_shortenWord_8 : decode cX9_shortenWord 8 = .ok (.invokevirtual 30, 3) := by decide +kernel
theorem dX9_shortenWord_11 : decode cX9_shortenWord 11 = .ok (.aload_n 1, 1) := by decide +kernel
theorem dX9_shortenWord_12 : decode cX9_shortenWord 12 = .ok (.getfield 34, 3) := by decide +kernel
theorem dX9_shortenWord_15 : decode cX9_shortenWord 15 = .ok (.ifCond .ne 9, 3) := by decide +kernel
theorem dX9_shortenWord_18 : decode cX9_shortenWord 18 = .ok (.aload_n 0, 1) := by decide +kernel
theorem dX9_shortenWord_19 : decode cX9_shortenWord 19 = .ok (.aload_n 1, 1) := by decide +kernel
theorem dX9_shortenWord_20 : decode cX9_shortenWord 20 = .ok (.invokevirtual 40, 3) := by decide +kernel
theorem dX9_shortenWord_23 : decode cX9_shortenWord 23 = .ok (.return_, 1) := by decide +kernel
theorem dX9_shortenWord_24 : decode cX9_shortenWord 24 = .ok (.aload_n 0, 1) := by decide +kernel
theorem dX9_shortenWord_25 : decode cX9_shortenWord 25 = .ok (.getfield 18, 3) := by decide +kernel
theorem dX9_shortenWord_28 : decode cX9_shortenWord 28 = .ok (.aload_n 1, 1) := by decide +kernel
theorem dX9_shortenWord_29 : decode cX9_shortenWord 29 = .ok (.aload_n 0, 1) := by decide +kernel
theorem dX9_shortenWord_30 : decode cX9_shortenWord 30 = .ok (.getfield 12, 3) := by decide +kernel
theorem dX9_shortenWord_33 : decode cX9_shortenWord 33 = .ok (.getfield 44, 3) := by decide +kernel
theorem dX9_shortenWord_36 : decode cX9_shortenWord 36 = .ok (.iload_n 3, 1) := by decide +kernel
theorem dX9_shortenWord_37 : decode cX9_shortenWord 37 = .ok (.iconst 0, 1) := by decide +kernel
theorem dX9_shortenWord_38 : decode cX9_shortenWord 38 = .ok (.invokevirtual 30, 3) := by decide +kernel
theorem dX9_shortenWord_41 : decode cX9_shortenWord 41 = .ok (.aload_n 0, 1) := by decide +kernel
theorem dX9_shortenWord_42 : decode cX9_shortenWord 42 = .ok (.getfield 18, 3) := by decide +kernel
theorem dX9_shortenWord_45 : decode cX9_shortenWord 45 = .ok (.getfield 44, 3) := by decide +kernel
theorem dX9_shortenWord_48 : decode cX9_shortenWord 48 = .ok (.aload_n 2, 1) := by decide +kernel
theorem dX9_shortenWord_49 : decode cX9_shortenWord 49 = .ok (.invokevirtual 47, 3) := by decide +kernel
theorem dX9_shortenWord_52 : decode cX9_shortenWord 52 = .ok (.ifCond .eq 9, 3) := by decide +kernel
theorem dX9_shortenWord_55 : decode cX9_shortenWord 55 = .ok (.aload_n 0, 1) := by decide +kernel
theorem dX9_shortenWord_56 : decode cX9_shortenWord 56 = .ok (.aload_n 1, 1) := by decide +kernel
theorem dX9_shortenWord_57 : decode cX9_shortenWord 57 = .ok (.invokevirtual 40, 3) := by decide +kernel
theorem dX9_shortenWord_60 : decode cX9_shortenWord 60 = .ok (.return_, 1) := by decide +kernel
theorem dX9_shortenWord_61 : decode cX9_shortenWord 61 = .ok (.aload_n 0, 1) := by decide +kernel
theorem dX9_shortenWord_62 : decode cX9_shortenWord 62 = .ok (.getfield 18, 3) := by decide +kernel
theorem dX9_shortenWord_65 : decode cX9_shortenWord 65 = .ok (.aload_n 1, 1) := by decide +kernel
theorem dX9_shortenWord_66 : decode cX9_shortenWord 66 = .ok (.aload_n 2, 1) := by decide +kernel
theorem dX9_shortenWord_67 : decode cX9_shortenWord 67 = .ok (.iload_n 3, 1) := by decide +kernel
theorem dX9_shortenWord_68 : decode cX9_shortenWord 68 = .ok (.iconst 0, 1) := by decide +kernel
theorem dX9_shortenWord_69 : decode cX9_shortenWord 69 = .ok (.invokevirtual 30, 3) := by decide +kernel
theorem dX9_shortenWord_72 : decode cX9_shortenWord 72 = .ok (.aload_n 0, 1) := by decide +kernel
theorem dX9_shortenWord_73 : decode cX9_shortenWord 73 = .ok (.getfield 18, 3) := by decide +kernel
theorem dX9_shortenWord_76 : decode cX9_shortenWord 76 = .ok (.getfield 44, 3) := by decide +kernel
theorem dX9_shortenWord_79 : decode cX9_shortenWord 79 = .ok (.aload_n 2, 1) := by decide +kernel
theorem dX9_shortenWord_80 : decode cX9_shortenWord 80 = .ok (.invokevirtual 47, 3) := by decide +kernel
theorem dX9_shortenWord_83 : decode cX9_shortenWord 83 = .ok (.istore 4, 2) := by decide +kernel
theorem dX9_shortenWord_85 : decode cX9_shortenWord 85 = .ok (.aload_n 0, 1) := by decide +kernel
theorem dX9_shortenWord_86 : decode cX9_shortenWord 86 = .ok (.aload_n 2, 1) := by decide +kernel
theorem dX9_shortenWord_87 : decode cX9_shortenWord 87 = .ok (.iload 4, 2) := by decide +kernel
theorem dX9_shortenWord_89 : decode cX9_shortenWord 89 = .ok (.ifCond .eq 8, 3) := by decide +kernel
theorem dX9_shortenWord_92 : decode cX9_shortenWord 92 = .ok (.bipush 6, 2) := by decide +kernel
theorem dX9_shortenWord_94 : decode cX9_shortenWord 94 = .ok (.goto 4, 3) := by decide +kernel
theorem dX9_shortenWord_97 : decode cX9_shortenWord 97 = .ok (.iconst 5, 1) := by decide +kernel
theorem dX9_shortenWord_98 : decode cX9_shortenWord 98 = .ok (.invokevirtual 51, 3) := by decide +kernel
theorem dX9_shortenWord_101 : decode cX9_shortenWord 101 = .ok (.aload_n 0, 1) := by decide +kernel
theorem dX9_shortenWord_102 : decode cX9_shortenWord 102 = .ok (.iload 4, 2) := by decide +kernel
theorem dX9_shortenWord_104 : decode cX9_shortenWord 104 = .ok (.ifCond .ne 7, 3) := by decide +kernel
theorem dX9_shortenWord_107 : decode cX9_shortenWord 107 = .ok (.iconst 1, 1) := by decide +kernel
theorem dX9_shortenWord_108 : decode cX9_shortenWord 108 = .ok (.goto 4, 3) := by decide +kernel
theorem dX9_shortenWord_111 : decode cX9_shortenWord 111 = .ok (.iconst 0, 1) := by decide +kernel
theorem dX9_shortenWord_112 : decode cX9_shortenWord 112 = .ok (.putfield 55, 3) := by decide +kernel
theorem dX9_shortenWord_115 : decode cX9_shortenWord 115 = .ok (.return_, 1) := by decide +kernel
theorem dX9_lengthenWord_0 : decode cX9_lengthenWord 0 = .ok (.aload_n 0, 1) := by decide +kernel
theorem dX9_lengthenWord_1 : decode cX9_lengthenWord 1 = .ok (.getfield 12, 3) := by decide +kernel
theorem dX9_lengthenWord_4 : decode cX9_lengthenWord 4 = .ok (.aload_n 1, 1) := by decide +kernel
theorem dX9_lengthenWord_5 : decode cX9_lengthenWord 5 = .ok (.aload_n 2, 1) := by decide +kernel
theorem dX9_lengthenWord_6 : decode cX9_lengthenWord 6 = .ok (.iload_n 3, 1) := by decide +kernel
theorem dX9_lengthenWord_7 : decode cX9_lengthenWord 7 = .ok (.iconst 0, 1) := by decide +kernel
theorem dX9_lengthenWord_8 : decode cX9_lengthenWord 8 = .ok (.invokevirtual 30, 3) := by decide +kernel
theorem dX9_lengthenWord_11 : decode cX9_lengthenWord 11 = .ok (.aload_n 0, 1) := by decide +kernel
theorem dX9_lengthenWord_12 : decode cX9_lengthenWord 12 = .ok (.aload_n 1, 1) := by decide +kernel
theorem dX9_lengthenWord_13 : decode cX9_lengthenWord 13 = .ok (.invokevirtual 40, 3) := by decide +kernel
theorem dX9_lengthenWord_16 : decode cX9_lengthenWord 16 = .ok (.return_, 1) := by decide +kernel
theorem dX9_unmarkWord_0 : decode cX9_unmarkWord 0 = .ok (.aload_n 0, 1) := by decide +kernel
theorem dX9_unmarkWord_1 : decode cX9_unmarkWord 1 = .ok (.aload_n 1, 1) := by decide +kernel
theorem dX9_unmarkWord_2 : decode cX9_unmarkWord 2 = .ok (.iconst 5, 1) := by decide +kernel
theorem dX9_unmarkWord_3 : decode cX9_unmarkWord 3 = .ok (.invokevirtual 51, 3) := by decide +kernel
theorem dX9_unmarkWord_6 : decode cX9_unmarkWord 6 = .ok (.return_, 1) := by decide +kernel
theorem dX9_takeSpelled_0 : decode cX9_takeSpelled 0 = .ok (.aload_n 0, 1) := by decide +kernel
theorem dX9_takeSpelled_1 : decode cX9_takeSpelled 1 = .ok (.aload_n 0, 1) := by decide +kernel
theorem dX9_takeSpelled_2 : decode cX9_takeSpelled 2 = .ok (.getfield 12, 3) := by decide +kernel
theorem dX9_takeSpelled_5 : decode cX9_takeSpelled 5 = .ok (.getfield 44, 3) := by decide +kernel
theorem dX9_takeSpelled_8 : decode cX9_takeSpelled 8 = .ok (.aload_n 0, 1) := by decide +kernel
theorem dX9_takeSpelled_9 : decode cX9_takeSpelled 9 = .ok (.getfield 12, 3) := by decide +kernel
theorem dX9_takeSpelled_12 : decode cX9_takeSpelled 12 = .ok (.aload_n 1, 1) := by decide +kernel
theorem dX9_takeSpelled_13 : decode cX9_takeSpelled 13 = .ok (.invokevirtual 59, 3) := by decide +kernel
theorem dX9_takeSpelled_16 : decode cX9_takeSpelled 16 = .ok (.invokevirtual 51, 3) := by decide +kernel
theorem dX9_takeSpelled_19 : decode cX9_takeSpelled 19 = .ok (.aload_n 0, 1) := by decide +kernel
theorem dX9_takeSpelled_20 : decode cX9_takeSpelled 20 = .ok (.aload_n 0, 1) := by decide +kernel
theorem dX9_takeSpelled_21 : decode cX9_takeSpelled 21 = .ok (.getfield 12, 3) := by decide +kernel
theorem dX9_takeSpelled_24 : decode cX9_takeSpelled 24 = .ok (.getfield 63, 3) := by decide +kernel
theorem dX9_takeSpelled_27 : decode cX9_takeSpelled 27 = .ok (.putfield 66, 3) := by decide +kernel
theorem dX9_takeSpelled_30 : decode cX9_takeSpelled 30 = .ok (.aload_n 0, 1) := by decide +kernel
theorem dX9_takeSpelled_31 : decode cX9_takeSpelled 31 = .ok (.aload_n 0, 1) := by decide +kernel
theorem dX9_takeSpelled_32 : decode cX9_takeSpelled 32 = .ok (.getfield 12, 3) := by decide +kernel
theorem dX9_takeSpelled_35 : decode cX9_takeSpelled 35 = .ok (.getfield 67, 3) := by decide +kernel
theorem dX9_takeSpelled_38 : decode cX9_takeSpelled 38 = .ok (.putfield 70, 3) := by decide +kernel
theorem dX9_takeSpelled_41 : decode cX9_takeSpelled 41 = .ok (.return_, 1) := by decide +kernel
theorem dX9_takeWord_0 : decode cX9_takeWord 0 = .ok (.aload_n 0, 1) := by decide +kernel
theorem dX9_takeWord_1 : decode cX9_takeWord 1 = .ok (.getfield 26, 3) := by decide +kernel
theorem dX9_takeWord_4 : decode cX9_takeWord 4 = .ok (.invokevirtual 71, 3) := by decide +kernel
theorem dX9_takeWord_7 : decode cX9_takeWord 7 = .ok (.aload_n 0, 1) := by decide +kernel
theorem dX9_takeWord_8 : decode cX9_takeWord 8 = .ok (.getfield 26, 3) := by decide +kernel
theorem dX9_takeWord_11 : decode cX9_takeWord 11 = .ok (.aload_n 1, 1) := by decide +kernel
theorem dX9_takeWord_12 : decode cX9_takeWord 12 = .ok (.iconst 0, 1) := by decide +kernel
theorem dX9_takeWord_13 : decode cX9_takeWord 13 = .ok (.aload_n 1, 1) := by decide +kernel
theorem dX9_takeWord_14 : decode cX9_takeWord 14 = .ok (.invokevirtual 74, 3) := by decide +kernel
theorem dX9_takeWord_17 : decode cX9_takeWord 17 = .ok (.invokevirtual 78, 3) := by decide +kernel
theorem dX9_takeWord_20 : decode cX9_takeWord 20 = .ok (.aload_n 0, 1) := by decide +kernel
theorem dX9_takeWord_21 : decode cX9_takeWord 21 = .ok (.iconst 0, 1) := by decide +kernel
theorem dX9_takeWord_22 : decode cX9_takeWord 22 = .ok (.putfield 55, 3) := by decide +kernel
theorem dX9_takeWord_25 : decode cX9_takeWord 25 = .ok (.aload_n 0, 1) := by decide +kernel
theorem dX9_takeWord_26 : decode cX9_takeWord 26 = .ok (.iload_n 2, 1) := by decide +kernel
theorem dX9_takeWord_27 : decode cX9_takeWord 27 = .ok (.putfield 82, 3) := by decide +kernel
theorem dX9_takeWord_30 : decode cX9_takeWord 30 = .ok (.aload_n 0, 1) := by decide +kernel
theorem dX9_takeWord_31 : decode cX9_takeWord 31 = .ok (.iconst (-1), 1) := by decide +kernel
theorem dX9_takeWord_32 : decode cX9_takeWord 32 = .ok (.putfield 66, 3) := by decide +kernel
theorem dX9_takeWord_35 : decode cX9_takeWord 35 = .ok (.aload_n 0, 1) := by decide +kernel
theorem dX9_takeWord_36 : decode cX9_takeWord 36 = .ok (.iconst (-1), 1) := by decide +kernel
theorem dX9_takeWord_37 : decode cX9_takeWord 37 = .ok (.putfield 70, 3) := by decide +kernel
theorem dX9_takeWord_40 : decode cX9_takeWord 40 = .ok (.return_, 1) := by decide +kernel
