theorem dX0_init_0 : decode cX0_init 0 = .ok (.aload_n 0, 1) := by decide +kernel
theorem dX0_init_1 : decode cX0_init 1 = .ok (.invokespecial 1, 3) := by decide +kernel
theorem dX0_init_4 : decode cX0_init 4 = .ok (.aload_n 0, 1) := by decide +kernel
theorem dX0_init_5 : decode cX0_init 5 = .ok (.iconst 0, 1) := by decide +kernel
theorem dX0_init_6 : decode cX0_init 6 = .ok (.putfield 7, 3) := by decide +kernel
theorem dX0_init_9 : decode cX0_init 9 = .ok (.return_, 1) := by decide +kernel
theorem dX1_init_0 : decode cX1_init 0 = .ok (.aload_n 0, 1) := by decide +kernel
theorem dX1_init_1 : decode cX1_init 1 = .ok (.invokespecial 3, 3) := by decide +kernel
theorem dX1_init_4 : decode cX1_init 4 = .ok (.aload_n 0, 1) := by decide +kernel
theorem dX1_init_5 : decode cX1_init 5 = .ok (.iconst 0, 1) := by decide +kernel
theorem dX1_init_6 : decode cX1_init 6 = .ok (.putfield 9, 3) := by decide +kernel
theorem dX1_init_9 : decode cX1_init 9 = .ok (.aload_n 0, 1) := by decide +kernel
theorem dX1_init_10 : decode cX1_init 10 = .ok (.iconst 0, 1) := by decide +kernel
theorem dX1_init_11 : decode cX1_init 11 = .ok (.putfield 15, 3) := by decide +kernel
theorem dX1_init_14 : decode cX1_init 14 = .ok (.aload_n 0, 1) := by decide +kernel
theorem dX1_init_15 : decode cX1_init 15 = .ok (.iconst 0, 1) := by decide +kernel
theorem dX1_init_16 : decode cX1_init 16 = .ok (.putfield 18, 3) := by decide +kernel
theorem dX1_init_19 : decode cX1_init 19 = .ok (.aload_n 0, 1) := by decide +kernel
theorem dX1_init_20 : decode cX1_init 20 = .ok (.bipush 6, 2) := by decide +kernel
theorem dX1_init_22 : decode cX1_init 22 = .ok (.newarray .int, 2) := by decide +kernel
theorem dX1_init_24 : decode cX1_init 24 = .ok (.putfield 21, 3) := by decide +kernel
theorem dX1_init_27 : decode cX1_init 27 = .ok (.aload_n 0, 1) := by decide +kernel
theorem dX1_init_28 : decode cX1_init 28 = .ok (.bipush 6, 2) := by decide +kernel
theorem dX1_init_30 : decode cX1_init 30 = .ok (.newarray .int, 2) := by decide +kernel
theorem dX1_init_32 : decode cX1_init 32 = .ok (.putfield 25, 3) := by decide +kernel
theorem dX1_init_35 : decode cX1_init 35 = .ok (.aload_n 0, 1) := by decide +kernel
theorem dX1_init_36 : decode cX1_init 36 = .ok (.bipush 6, 2) := by decide +kernel
theorem dX1_init_38 : decode cX1_init 38 = .ok (.newarray .int, 2) := by decide +kernel
theorem dX1_init_40 : decode cX1_init 40 = .ok (.putfield 28, 3) := by decide +kernel
theorem dX1_init_43 : decode cX1_init 43 = .ok (.aload_n 0, 1) := by decide +kernel
theorem dX1_init_44 : decode cX1_init 44 = .ok (.bipush 6, 2) := by decide +kernel
theorem dX1_init_46 : decode cX1_init 46 = .ok (.newarray .int, 2) := by decide +kernel
theorem dX1_init_48 : decode cX1_init 48 = .ok (.putfield 31, 3) := by decide +kernel
theorem dX1_init_51 : decode cX1_init 51 = .ok (.aload_n 0, 1) := by decide +kernel
theorem dX1_init_52 : decode cX1_init 52 = .ok (.bipush 6, 2) := by decide +kernel
theorem dX1_init_54 : decode cX1_init 54 = .ok (.newarray .int, 2) := by decide +kernel
theorem dX1_init_56 : decode cX1_init 56 = .ok (.putfield 34, 3) := by decide +kernel
theorem dX1_init_59 : decode cX1_init 59 = .ok (.aload_n 0, 1) := by decide +kernel
theorem dX1_init_60 : decode cX1_init 60 = .ok (.bipush 6, 2) := by decide +kernel
theorem dX1_init_62 : decode cX1_init 62 = .ok (.newarray .int, 2) := by decide +kernel
theorem dX1_init_64 : decode cX1_init 64 = .ok (.putfield 37, 3) := by decide +kernel
theorem dX1_init_67 : decode cX1_init 67 = .ok (.aload_n 0, 1) := by decide +kernel
theorem dX1_init_68 : decode cX1_init 68 = .ok (.bipush 6, 2) := by decide +kernel
theorem dX1_init_70 : decode cX1_init 70 = .ok (.newarray .int, 2) := by decide +kernel
theorem dX1_init_72 : decode cX1_init 72 = .ok (.putfield 40, 3) := by decide +kernel
theorem dX1_init_75 : decode cX1_init 75 = .ok (.aload_n 0, 1) := by decide +kernel
theorem dX1_init_76 : decode cX1_init 76 = .ok (.bipush 30, 2) := by decide +kernel
theorem dX1_init_78 : decode cX1_init 78 = .ok (.newarray .int, 2) := by decide +kernel
theorem dX1_init_80 : decode cX1_init 80 = .ok (.putfield 43, 3) := by decide +kernel
theorem dX1_init_83 : decode cX1_init 83 = .ok (.return_, 1) := by decide +kernel
theorem dX1_plant_0 : decode cX1_plant 0 = .ok (.aload_n 0, 1) := by decide +kernel
theorem dX1_plant_1 : decode cX1_plant 1 = .ok (.aload_n 1, 1) := by decide +kernel
theorem dX1_plant_2 : decode cX1_plant 2 = .ok (.getfield 46, 3) := by decide +kernel
theorem dX1_plant_5 : decode cX1_plant 5 = .ok (.putfield 9, 3) := by decide +kernel
theorem dX1_plant_8 : decode cX1_plant 8 = .ok (.aload_n 0, 1) := by decide +kernel
theorem dX1_plant_9 : decode cX1_plant 9 = .ok (.aload_n 1, 1) := by decide +kernel
theorem dX1_plant_10 : decode cX1_plant 10 = .ok (.getfield 49, 3) := by decide +kernel
theorem dX1_plant_13 : decode cX1_plant 13 = .ok (.putfield 15, 3) := by decide +kernel
theorem dX1_plant_16 : decode cX1_plant 16 = .ok (.aload_n 0, 1) := by decide +kernel
theorem dX1_plant_17 : decode cX1_plant 17 = .ok (.iconst 0, 1) := by decide +kernel
theorem dX1_plant_18 : decode cX1_plant 18 = .ok (.putfield 18, 3) := by decide +kernel
theorem dX1_plant_21 : decode cX1_plant 21 = .ok (.iconst 1, 1) := by decide +kernel
theorem dX1_plant_22 : decode cX1_plant 22 = .ok (.istore_n 2, 1) := by decide +kernel
theorem dX1_plant_23 : decode cX1_plant 23 = .ok (.iconst 0, 1) := by decide +kernel
theorem dX1_plant_24 : decode cX1_plant 24 = .ok (.istore_n 3, 1) := by decide +kernel
theorem dX1_plant_25 : decode cX1_plant 25 = .ok (.iload_n 3, 1) := by decide +kernel
theorem dX1_plant_26 : decode cX1_plant 26 = .ok (.aload_n 0, 1) := by decide +kernel
theorem dX1_plant_27 : decode cX1_plant 27 = .ok (.getfield 9, 3) := by decide +kernel
theorem dX1_plant_30 : decode cX1_plant 30 = .ok (.if_icmp .ge 60, 3) := by decide +kernel
theorem dX1_plant_33 : decode cX1_plant 33 = .ok (.aload_n 0, 1) := by decide +kernel
theorem dX1_plant_34 : decode cX1_plant 34 = .ok (.getfield 21, 3) := by decide +kernel
theorem dX1_plant_37 : decode cX1_plant 37 = .ok (.iload_n 3, 1) := by decide +kernel
theorem dX1_plant_38 : decode cX1_plant 38 = .ok (.aload_n 1, 1) := by decide +kernel
theorem dX1_plant_39 : decode cX1_plant 39 = .ok (.iload_n 2, 1) := by decide +kernel
theorem dX1_plant_40 : decode cX1_plant 40 = .ok (.invokevirtual 50, 3) := by decide +kernel
theorem dX1_plant_43 : decode cX1_plant 43 = .ok (.iastore, 1) := by decide +kernel
theorem dX1_plant_44 : decode cX1_plant 44 = .ok (.aload_n 0, 1) := by decide +kernel
theorem dX1_plant_45 : decode cX1_plant 45 = .ok (.getfield 25, 3) := by decide +kernel
theorem dX1_plant_48 : decode cX1_plant 48 = .ok (.iload_n 3, 1) := by decide +kernel
theorem dX1_plant_49 : decode cX1_plant 49 = .ok (.aload_n 1, 1) := by decide +kernel
theorem dX1_plant_50 : decode cX1_plant 50 = .ok (.iload_n 2, 1) := by decide +kernel
theorem dX1_plant_51 : decode cX1_plant 51 = .ok (.iconst 1, 1) := by decide +kernel
theorem dX1_plant_52 : decode cX1_plant 52 = .ok (.iadd, 1) := by decide +kernel
theorem dX1_plant_53 : decode cX1_plant 53 = .ok (.invokevirtual 54, 3) := by decide +kernel
theorem dX1_plant_56 : decode cX1_plant 56 = .ok (.iastore, 1) := by decide +kernel
theorem dX1_plant_57 : decode cX1_plant 57 = .ok (.aload_n 0, 1) := by decide +kernel
theorem dX1_plant_58 : decode cX1_plant 58 = .ok (.getfield 28, 3) := by decide +kernel
theorem dX1_plant_61 : decode cX1_plant 61 = .ok (.iload_n 3, 1) := by decide +kernel
theorem dX1_plant_62 : decode cX1_plant 62 = .ok (.aload_n 1, 1) := by decide +kernel
theorem dX1_plant_63 : decode cX1_plant 63 = .ok (.iload_n 2, 1) := by decide +kernel
theorem dX1_plant_64 : decode cX1_plant 64 = .ok (.iconst 2, 1) := by decide +kernel
theorem dX1_plant_65 : decode cX1_plant 65 = .ok (.iadd, 1) := by decide +kernel
theorem dX1_plant_66 : decode cX1_plant 66 = .ok (.invokevirtual 54, 3) := by decide +kernel
theorem dX1_plant_69 : decode cX1_plant 69 = .ok (.iastore, 1) := by decide +kernel
theorem dX1_plant_70 : decode cX1_plant 70 = .ok (.aload_n 0, 1) := by decide +kernel
theorem dX1_plant_71 : decode cX1_plant 71 = .ok (.getfield 31, 3) := by decide +kernel
theorem dX1_plant_74 : decode cX1_plant 74 = .ok (.iload_n 3, 1) := by decide +kernel
theorem dX1_plant_75 : decode cX1_plant 75 = .ok (.aload_n 0, 1) := by decide +kernel
theorem dX1_plant_76 : decode cX1_plant 76 = .ok (.iload_n 3, 1) := by decide +kernel
theorem dX1_plant_77 : decode cX1_plant 77 = .ok (.invokevirtual 57, 3) := by decide +kernel
theorem dX1_plant_80 : decode cX1_plant 80 = .ok (.iastore, 1) := by decide +kernel
theorem dX1_plant_81 : decode cX1_plant 81 = .ok (.iinc 2 3, 3) := by decide +kernel
theorem dX1_plant_84 : decode cX1_plant 84 = .ok (.iinc 3 1, 3) := by decide +kernel
theorem dX1_plant_87 : decode cX1_plant 87 = .ok (.goto (-62), 3) := by decide +kernel
theorem dX1_plant_90 : decode cX1_plant 90 = .ok (.aload_n 0, 1) := by decide +kernel
theorem dX1_plant_91 : decode cX1_plant 91 = .ok (.getfield 43, 3) := by decide +kernel
theorem dX1_plant_94 : decode cX1_plant 94 = .ok (.iconst 0, 1) := by decide +kernel
theorem dX1_plant_95 : decode cX1_plant 95 = .ok (.invokestatic 60, 3) := by decide +kernel
theorem dX1_plant_98 : decode cX1_plant 98 = .ok (.iconst 0, 1) := by decide +kernel
theorem dX1_plant_99 : decode cX1_plant 99 = .ok (.istore_n 3, 1) := by decide +kernel
theorem dX1_plant_100 : decode cX1_plant 100 = .ok (.iload_n 3, 1) := by decide +kernel
theorem dX1_plant_101 : decode cX1_plant 101 = .ok (.aload_n 0, 1) := by decide +kernel
theorem dX1_plant_102 : decode cX1_plant 102 = .ok (.getfield 15, 3) := by decide +kernel
theorem dX1_plant_105 : decode cX1_plant 105 = .ok (.if_icmp .ge 55, 3) := by decide +kernel
theorem dX1_plant_108 : decode cX1_plant 108 = .ok (.aload_n 0, 1) := by decide +kernel
theorem dX1_plant_109 : decode cX1_plant 109 = .ok (.getfield 37, 3) := by decide +kernel
theorem dX1_plant_112 : decode cX1_plant 112 = .ok (.iload_n 3, 1) := by decide +kernel
theorem dX1_plant_113 : decode cX1_plant 113 = .ok (.aload_n 1, 1) := by decide +kernel
theorem dX1_plant_114 : decode cX1_plant 114 = .ok (.iload_n 2, 1) := by decide +kernel
theorem dX1_plant_115 : decode cX1_plant 115 = .ok (.iconst 1, 1) := by decide +kernel
theorem dX1_plant_116 : decode cX1_plant 116 = .ok (.iadd, 1) := by decide +kernel
theorem dX1_plant_117 : decode cX1_plant 117 = .ok (.invokevirtual 54, 3) := by decide +kernel
theorem dX1_plant_120 : decode cX1_plant 120 = .ok (.iastore, 1) := by decide +kernel
theorem dX1_plant_121 : decode cX1_plant 121 = .ok (.aload_n 0, 1) := by decide +kernel
theorem dX1_plant_122 : decode cX1_plant 122 = .ok (.getfield 40, 3) := by decide +kernel
theorem dX1_plant_125 : decode cX1_plant 125 = .ok (.iload_n 3, 1) := by decide +kernel
theorem dX1_plant_126 : decode cX1_plant 126 = .ok (.aload_n 1, 1) := by decide +kernel
theorem dX1_plant_127 : decode cX1_plant 127 = .ok (.iload_n 2, 1) := by decide +kernel
theorem dX1_plant_128 : decode cX1_plant 128 = .ok (.iconst 2, 1) := by decide +kernel
theorem dX1_plant_129 : decode cX1_plant 129 = .ok (.iadd, 1) := by decide +kernel
theorem dX1_plant_130 : decode cX1_plant 130 = .ok (.invokevirtual 66, 3) := by decide +kernel
theorem dX1_plant_133 : decode cX1_plant 133 = .ok (.iastore, 1) := by decide +kernel
theorem dX1_plant_134 : decode cX1_plant 134 = .ok (.aload_n 0, 1) := by decide +kernel
theorem dX1_plant_135 : decode cX1_plant 135 = .ok (.getfield 43, 3) := by decide +kernel
theorem dX1_plant_138 : decode cX1_plant 138 = .ok (.aload_n 0, 1) := by decide +kernel
theorem dX1_plant_139 : decode cX1_plant 139 = .ok (.getfield 40, 3) := by decide +kernel
theorem dX1_plant_142 : decode cX1_plant 142 = .ok (.iload_n 3, 1) := by decide +kernel
theorem dX1_plant_143 : decode cX1_plant 143 = .ok (.iaload, 1) := by decide +kernel
theorem dX1_plant_144 : decode cX1_plant 144 = .ok (.dup2, 1) := by decide +kernel
theorem dX1_plant_145 : decode cX1_plant 145 = .ok (.iaload, 1) := by decide +kernel
theorem dX1_plant_146 : decode cX1_plant 146 = .ok (.iconst 1, 1) := by decide +kernel
theorem dX1_plant_147 : decode cX1_plant 147 = .ok (.iload_n 3, 1) := by decide +kernel
theorem dX1_plant_148 : decode cX1_plant 148 = .ok (.ishl, 1) := by decide +kernel
theorem dX1_plant_149 : decode cX1_plant 149 = .ok (.ior, 1) := by decide +kernel
theorem dX1_plant_150 : decode cX1_plant 150 = .ok (.iastore, 1) := by decide +kernel
theorem dX1_plant_151 : decode cX1_plant 151 = .ok (.iinc 2 4, 3) := by decide +kernel
theorem dX1_plant_154 : decode cX1_plant 154 = .ok (.iinc 3 1, 3) := by decide +kernel
theorem dX1_plant_157 : decode cX1_plant 157 = .ok (.goto (-57), 3) := by decide +kernel
theorem dX1_plant_160 : decode cX1_plant 160 = .ok (.iconst 0, 1) := by decide +kernel
theorem dX1_plant_161 : decode cX1_plant 161 = .ok (.istore_n 3, 1) := by decide +kernel
theorem dX1_plant_162 : decode cX1_plant 162 = .ok (.iload_n 3, 1) := by decide +kernel
theorem dX1_plant_163 : decode cX1_plant 163 = .ok (.aload_n 0, 1) := by decide +kernel
theorem dX1_plant_164 : decode cX1_plant 164 = .ok (.getfield 9, 3) := by decide +kernel
theorem dX1_plant_167 : decode cX1_plant 167 = .ok (.if_icmp .ge 20, 3) := by decide +kernel
theorem dX1_plant_170 : decode cX1_plant 170 = .ok (.aload_n 0, 1) := by decide +kernel
theorem dX1_plant_171 : decode cX1_plant 171 = .ok (.getfield 34, 3) := by decide +kernel
theorem dX1_plant_174 : decode cX1_plant 174 = .ok (.iload_n 3, 1) := by decide +kernel
theorem dX1_plant_175 : decode cX1_plant 175 = .ok (.aload_n 0, 1) := by decide +kernel
theorem dX1_plant_176 : decode cX1_plant 176 = .ok (.iload_n 3, 1) := by decide +kernel
theorem dX1_plant_177 : decode cX1_plant 177 = .ok (.invokevirtual 69, 3) := by decide +kernel
theorem dX1_plant_180 : decode cX1_plant 180 = .ok (.iastore, 1) := by decide +kernel
theorem dX1_plant_181 : decode cX1_plant 181 = .ok (.iinc 3 1, 3) := by decide +kernel
theorem dX1_plant_184 : decode cX1_plant 184 = .ok (.goto (-22), 3) := by decide +kernel
theorem dX1_plant_187 : decode cX1_plant 187 = .ok (.return_, 1) := by decide +kernel
theorem dX1_waterWantedBy_0 : decode cX1_waterWantedBy 0 = .ok (.aload_n 0, 1) := by decide +kernel
theorem dX1_waterWantedBy_1 : decode cX1_waterWantedBy 1 = .ok (.getfield 28, 3) := by decide +kernel
theorem dX1_waterWantedBy_4 : decode cX1_waterWantedBy 4 = .ok (.iload_n 1, 1) := by decide +kernel
theorem dX1_waterWantedBy_5 : decode cX1_waterWantedBy 5 = .ok (.iaload, 1) := by decide +kernel
theorem dX1_waterWantedBy_6 : decode cX1_waterWantedBy 6 = .ok (.iconst 1, 1) := by decide +kernel
theorem dX1_waterWantedBy_7 : decode cX1_waterWantedBy 7 = .ok (.iadd, 1) := by decide +kernel
theorem dX1_waterWantedBy_8 : decode cX1_waterWantedBy 8 = .ok (.istore_n 2, 1) := by decide +kernel
theorem dX1_waterWantedBy_9 : decode cX1_waterWantedBy 9 = .ok (.aload_n 0, 1) := by decide +kernel
theorem dX1_waterWantedBy_10 : decode cX1_waterWantedBy 10 = .ok (.getfield 21, 3) := by decide +kernel
theorem dX1_waterWantedBy_13 : decode cX1_waterWantedBy 13 = .ok (.iload_n 1, 1) := by decide +kernel
theorem dX1_waterWantedBy_14 : decode cX1_waterWantedBy 14 = .ok (.iaload, 1) := by decide +kernel
theorem dX1_waterWantedBy_15 : decode cX1_waterWantedBy 15 = .ok (.lookupswitch 31 #[(1, 25), (2, 27)], 25) := by decide +kernel
theorem dX1_waterWantedBy_40 : decode cX1_waterWantedBy 40 = .ok (.iload_n 2, 1) := by decide +kernel
theorem dX1_waterWantedBy_41 : decode cX1_waterWantedBy 41 = .ok (.ireturn, 1) := by decide +kernel
theorem dX1_waterWantedBy_42 : decode cX1_waterWantedBy 42 = .ok (.iconst 2, 1) := by decide +kernel
theorem dX1_waterWantedBy_43 : decode cX1_waterWantedBy 43 = .ok (.iload_n 2, 1) := by decide +kernel
theorem dX1_waterWantedBy_44 : decode cX1_waterWantedBy 44 = .ok (.imul, 1) := by decide +kernel
theorem dX1_waterWantedBy_45 : decode cX1_waterWantedBy 45 = .ok (.ireturn, 1) := by decide +kernel
theorem dX1_waterWantedBy_46 : decode cX1_waterWantedBy 46 = .ok (.aload_n 0, 1) := by decide +kernel
theorem dX1_waterWantedBy_47 : decode cX1_waterWantedBy 47 = .ok (.getfield 28, 3) := by decide +kernel
theorem dX1_waterWantedBy_50 : decode cX1_waterWantedBy 50 = .ok (.iload_n 1, 1) := by decide +kernel
theorem dX1_waterWantedBy_51 : decode cX1_waterWantedBy 51 = .ok (.iaload, 1) := by decide +kernel
theorem dX1_waterWantedBy_52 : decode cX1_waterWantedBy 52 = .ok (.ireturn, 1) := by decide +kernel
theorem dX1_locksOpenedBy_0 : decode cX1_locksOpenedBy 0 = .ok (.iconst 1, 1) := by decide +kernel
theorem dX1_locksOpenedBy_1 : decode cX1_locksOpenedBy 1 = .ok (.aload_n 0, 1) := by decide +kernel
theorem dX1_locksOpenedBy_2 : decode cX1_locksOpenedBy 2 = .ok (.getfield 25, 3) := by decide +kernel
theorem dX1_locksOpenedBy_5 : decode cX1_locksOpenedBy 5 = .ok (.iload_n 1, 1) := by decide +kernel
theorem dX1_locksOpenedBy_6 : decode cX1_locksOpenedBy 6 = .ok (.iaload, 1) := by decide +kernel
theorem dX1_locksOpenedBy_7 : decode cX1_locksOpenedBy 7 = .ok (.ishl, 1) := by decide +kernel
theorem dX1_locksOpenedBy_8 : decode cX1_locksOpenedBy 8 = .ok (.istore_n 2, 1) := by decide +kernel
theorem dX1_locksOpenedBy_9 : decode cX1_locksOpenedBy 9 = .ok (.aload_n 0, 1) := by decide +kernel
theorem dX1_locksOpenedBy_10 : decode cX1_locksOpenedBy 10 = .ok (.getfield 21, 3) := by decide +kernel
theorem dX1_locksOpenedBy_13 : decode cX1_locksOpenedBy 13 = .ok (.iload_n 1, 1) := by decide +kernel
theorem dX1_locksOpenedBy_14 : decode cX1_locksOpenedBy 14 = .ok (.iaload, 1) := by decide +kernel
theorem dX1_locksOpenedBy_15 : decode cX1_locksOpenedBy 15 = .ok (.lookupswitch 44 #[(1, 25), (2, 41)], 25) := by decide +kernel
theorem dX1_locksOpenedBy_40 : decode cX1_locksOpenedBy 40 = .ok (.iload_n 2, 1) := by decide +kernel
theorem dX1_locksOpenedBy_41 : decode cX1_locksOpenedBy 41 = .ok (.iconst 1, 1) := by decide +kernel
theorem dX1_locksOpenedBy_42 : decode cX1_locksOpenedBy 42 = .ok (.aload_n 0, 1) := by decide +kernel
theorem dX1_locksOpenedBy_43 : decode cX1_locksOpenedBy 43 = .ok (.getfield 25, 3) := by decide +kernel
theorem dX1_locksOpenedBy_46 : decode cX1_locksOpenedBy 46 = .ok (.iload_n 1, 1) := by decide +kernel
theorem dX1_locksOpenedBy_47 : decode cX1_locksOpenedBy 47 = .ok (.iaload, 1) := by decide +kernel
theorem dX1_locksOpenedBy_48 : decode cX1_locksOpenedBy 48 = .ok (.iconst 1, 1) := by decide +kernel
theorem dX1_locksOpenedBy_49 : decode cX1_locksOpenedBy 49 = .ok (.iadd, 1) := by decide +kernel
theorem dX1_locksOpenedBy_50 : decode cX1_locksOpenedBy 50 = .ok (.bipush 6, 2) := by decide +kernel
theorem dX1_locksOpenedBy_52 : decode cX1_locksOpenedBy 52 = .ok (.irem, 1) := by decide +kernel
theorem dX1_locksOpenedBy_53 : decode cX1_locksOpenedBy 53 = .ok (.ishl, 1) := by decide +kernel
theorem dX1_locksOpenedBy_54 : decode cX1_locksOpenedBy 54 = .ok (.ior, 1) := by decide +kernel
theorem dX1_locksOpenedBy_55 : decode cX1_locksOpenedBy 55 = .ok (.ireturn, 1) := by decide +kernel
theorem dX1_locksOpenedBy_56 : decode cX1_locksOpenedBy 56 = .ok (.bipush 63, 2) := by decide +kernel
theorem dX1_locksOpenedBy_58 : decode cX1_locksOpenedBy 58 = .ok (.ireturn, 1) := by decide +kernel
theorem dX1_locksOpenedBy_59 : decode cX1_locksOpenedBy 59 = .ok (.iload_n 2, 1) := by decide +kernel
theorem dX1_locksOpenedBy_60 : decode cX1_locksOpenedBy 60 = .ok (.ireturn, 1) := by decide +kernel
theorem dX1_prisonersFitting_0 : decode cX1_prisonersFitting 0 = .ok (.aload_n 0, 1) := by decide +kernel
theorem dX1_prisonersFitting_1 : decode cX1_prisonersFitting 1 = .ok (.iload_n 1, 1) := by decide +kernel
theorem dX1_prisonersFitting_2 : decode cX1_prisonersFitting 2 = .ok (.invokevirtual 72, 3) := by decide +kernel
theorem dX1_prisonersFitting_5 : decode cX1_prisonersFitting 5 = .ok (.istore_n 2, 1) := by decide +kernel
theorem dX1_prisonersFitting_6 : decode cX1_prisonersFitting 6 = .ok (.iconst 0, 1) := by decide +kernel
theorem dX1_prisonersFitting_7 : decode cX1_prisonersFitting 7 = .ok (.istore_n 3, 1) := by decide +kernel
theorem dX1_prisonersFitting_8 : decode cX1_prisonersFitting 8 = .ok (.iconst 0, 1) := by decide +kernel
theorem dX1_prisonersFitting_9 : decode cX1_prisonersFitting 9 = .ok (.istore 4, 2) := by decide +kernel
theorem dX1_prisonersFitting_11 : decode cX1_prisonersFitting 11 = .ok (.iload 4, 2) := by decide +kernel
theorem dX1_prisonersFitting_13 : decode cX1_prisonersFitting 13 = .ok (.aload_n 0, 1) := by decide +kernel
theorem dX1_prisonersFitting_14 : decode cX1_prisonersFitting 14 = .ok (.getfield 15, 3) := by decide +kernel
theorem dX1_prisonersFitting_17 : decode cX1_prisonersFitting 17 = .ok (.if_icmp .ge 30, 3) := by decide +kernel
theorem dX1_prisonersFitting_20 : decode cX1_prisonersFitting 20 = .ok (.iload_n 2, 1) := by decide +kernel
theorem dX1_prisonersFitting_21 : decode cX1_prisonersFitting 21 = .ok (.aload_n 0, 1) := by decide +kernel
theorem dX1_prisonersFitting_22 : decode cX1_prisonersFitting 22 = .ok (.getfield 37, 3) := by decide +kernel
theorem dX1_prisonersFitting_25 : decode cX1_prisonersFitting 25 = .ok (.iload 4, 2) := by decide +kernel
theorem dX1_prisonersFitting_27 : decode cX1_prisonersFitting 27 = .ok (.iaload, 1) := by decide +kernel
theorem dX1_prisonersFitting_28 : decode cX1_prisonersFitting 28 = .ok (.invokestatic 75, 3) := by decide +kernel
theorem dX1_prisonersFitting_31 : decode cX1_prisonersFitting 31 = .ok (.ifCond .eq 10, 3) := by decide +kernel
theorem dX1_prisonersFitting_34 : decode cX1_prisonersFitting 34 = .ok (.iload_n 3, 1) := by decide +kernel
theorem dX1_prisonersFitting_35 : decode cX1_prisonersFitting 35 = .ok (.iconst 1, 1) := by decide +kernel
theorem dX1_prisonersFitting_36 : decode cX1_prisonersFitting 36 = .ok (.iload 4, 2) := by decide +kernel
theorem dX1_prisonersFitting_38 : decode cX1_prisonersFitting 38 = .ok (.ishl, 1) := by decide +kernel
theorem dX1_prisonersFitting_39 : decode cX1_prisonersFitting 39 = .ok (.ior, 1) := by decide +kernel
theorem dX1_prisonersFitting_40 : decode cX1_prisonersFitting 40 = .ok (.istore_n 3, 1) := by decide +kernel
theorem dX1_prisonersFitting_41 : decode cX1_prisonersFitting 41 = .ok (.iinc 4 1, 3) := by decide +kernel
theorem dX1_prisonersFitting_44 : decode cX1_prisonersFitting 44 = .ok (.goto (-33), 3) := by decide +kernel
theorem dX1_prisonersFitting_47 : decode cX1_prisonersFitting 47 = .ok (.iload_n 3, 1) := by decide +kernel
theorem dX1_prisonersFitting_48 : decode cX1_prisonersFitting 48 = .ok (.ireturn, 1) := by decide +kernel
theorem dX1_isPlanted_0 : decode cX1_isPlanted 0 = .ok (.aload_n 0, 1) := by decide +kernel
theorem dX1_isPlanted_1 : decode cX1_isPlanted 1 = .ok (.getfield 9, 3) := by decide +kernel
theorem dX1_isPlanted_4 : decode cX1_isPlanted 4 = .ok (.ifCond .le 7, 3) := by decide +kernel
theorem dX1_isPlanted_7 : decode cX1_isPlanted 7 = .ok (.iconst 1, 1) := by decide +kernel
theorem dX1_isPlanted_8 : decode cX1_isPlanted 8 = .ok (.goto 4, 3) := by decide +kernel
theorem dX1_isPlanted_11 : decode cX1_isPlanted 11 = .ok (.iconst 0, 1) := by decide +kernel
theorem dX1_isPlanted_12 : decode cX1_isPlanted 12 = .ok (.ireturn, 1) := by decide +kernel
theorem dX1_hasTree_0 : decode cX1_hasTree 0 = .ok (.iload_n 1, 1) := by decide +kernel
theorem dX1_hasTree_1 : decode cX1_hasTree 1 = .ok (.ifCond .lt 15, 3) := by decide +kernel
theorem dX1_hasTree_4 : decode cX1_hasTree 4 = .ok (.iload_n 1, 1) := by decide +kernel
theorem dX1_hasTree_5 : decode cX1_hasTree 5 = .ok (.aload_n 0, 1) := by decide +kernel
theorem dX1_hasTree_6 : decode cX1_hasTree 6 = .ok (.getfield 9, 3) := by decide +kernel
theorem dX1_hasTree_9 : decode cX1_hasTree 9 = .ok (.if_icmp .ge 7, 3) := by decide +kernel
theorem dX1_hasTree_12 : decode cX1_hasTree 12 = .ok (.iconst 1, 1) := by decide +kernel
theorem dX1_hasTree_13 : decode cX1_hasTree 13 = .ok (.goto 4, 3) := by decide +kernel
theorem dX1_hasTree_16 : decode cX1_hasTree 16 = .ok (.iconst 0, 1) := by decide +kernel
theorem dX1_hasTree_17 : decode cX1_hasTree 17 = .ok (.ireturn, 1) := by decide +kernel
theorem dX1_hasPrisoner_0 : decode cX1_hasPrisoner 0 = .ok (.iload_n 1, 1) := by decide +kernel
theorem dX1_hasPrisoner_1 : decode cX1_hasPrisoner 1 = .ok (.ifCond .lt 15, 3) := by decide +kernel
theorem dX1_hasPrisoner_4 : decode cX1_hasPrisoner 4 = .ok (.iload_n 1, 1) := by decide +kernel
theorem dX1_hasPrisoner_5 : decode cX1_hasPrisoner 5 = .ok (.aload_n 0, 1) := by decide +kernel
theorem dX1_hasPrisoner_6 : decode cX1_hasPrisoner 6 = .ok (.getfield 15, 3) := by decide +kernel
theorem dX1_hasPrisoner_9 : decode cX1_hasPrisoner 9 = .ok (.if_icmp .ge 7, 3) := by decide +kernel
theorem dX1_hasPrisoner_12 : decode cX1_hasPrisoner 12 = .ok (.iconst 1, 1) := by decide +kernel
theorem dX1_hasPrisoner_13 : decode cX1_hasPrisoner 13 = .ok (.goto 4, 3) := by decide +kernel
theorem dX1_hasPrisoner_16 : decode cX1_hasPrisoner 16 = .ok (.iconst 0, 1) := by decide +kernel
theorem dX1_hasPrisoner_17 : decode cX1_hasPrisoner 17 = .ok (.ireturn, 1) := by decide +kernel
theorem dX1_allPrisoners_0 : decode cX1_allPrisoners 0 = .ok (.iconst 1, 1) := by decide +kernel
theorem dX1_allPrisoners_1 : decode cX1_allPrisoners 1 = .ok (.aload_n 0, 1) := by decide +kernel
theorem dX1_allPrisoners_2 : decode cX1_allPrisoners 2 = .ok (.getfield 15, 3) := by decide +kernel
theorem dX1_allPrisoners_5 : decode cX1_allPrisoners 5 = .ok (.ishl, 1) := by decide +kernel
theorem dX1_allPrisoners_6 : decode cX1_allPrisoners 6 = .ok (.iconst 1, 1) := by decide +kernel
theorem dX1_allPrisoners_7 : decode cX1_allPrisoners 7 = .ok (.isub, 1) := by decide +kernel
theorem dX1_allPrisoners_8 : decode cX1_allPrisoners 8 = .ok (.ireturn, 1) := by decide +kernel
theorem dX2_init_0 : decode cX2_init 0 = .ok (.aload_n 0, 1) := by decide +kernel
theorem dX2_init_1 : decode cX2_init 1 = .ok (.invokespecial 3, 3) := by decide +kernel
theorem dX2_init_4 : decode cX2_init 4 = .ok (.aload_n 0, 1) := by decide +kernel
theorem dX2_init_5 : decode cX2_init 5 = .ok (.bipush 8, 2) := by decide +kernel
theorem dX2_init_7 : decode cX2_init 7 = .ok (.newarray .int, 2) := by decide +kernel
theorem dX2_init_9 : decode cX2_init 9 = .ok (.putfield 9, 3) := by decide +kernel
theorem dX2_init_12 : decode cX2_init 12 = .ok (.aload_n 0, 1) := by decide +kernel
theorem dX2_init_13 : decode cX2_init 13 = .ok (.bipush 8, 2) := by decide +kernel
theorem dX2_init_15 : decode cX2_init 15 = .ok (.newarray .int, 2) := by decide +kernel
theorem dX2_init_17 : decode cX2_init 17 = .ok (.putfield 15, 3) := by decide +kernel
theorem dX2_init_20 : decode cX2_init 20 = .ok (.aload_n 0, 1) := by decide +kernel
theorem dX2_init_21 : decode cX2_init 21 = .ok (.bipush 8, 2) := by decide +kernel
theorem dX2_init_23 : decode cX2_init 23 = .ok (.newarray .boolean, 2) := by decide +kernel
theorem dX2_init_25 : decode cX2_init 25 = .ok (.putfield 18, 3) := by decide +kernel
theorem dX2_init_28 : decode cX2_init 28 = .ok (.aload_n 0, 1) := by decide +kernel
theorem dX2_init_29 : decode cX2_init 29 = .ok (.iconst 0, 1) := by decide +kernel
theorem dX2_init_30 : decode cX2_init 30 = .ok (.putfield 22, 3) := by decide +kernel
theorem dX2_init_33 : decode cX2_init 33 = .ok (.return_, 1) := by decide +kernel
theorem dX3_init_0 : decode cX3_init 0 = .ok (.aload_n 0, 1) := by decide +kernel
theorem dX3_init_1 : decode cX3_init 1 = .ok (.invokespecial 3, 3) := by decide +kernel
theorem dX3_init_4 : decode cX3_init 4 = .ok (.aload_n 0, 1) := by decide +kernel
theorem dX3_init_5 : decode cX3_init 5 = .ok (.iconst 4, 1) := by decide +kernel
theorem dX3_init_6 : decode cX3_init 6 = .ok (.newarray .int, 2) := by decide +kernel
theorem dX3_init_8 : decode cX3_init 8 = .ok (.putfield 9, 3) := by decide +kernel
theorem dX3_init_11 : decode cX3_init 11 = .ok (.aload_n 0, 1) := by decide +kernel
theorem dX3_init_12 : decode cX3_init 12 = .ok (.aload_n 1, 1) := by decide +kernel
theorem dX3_init_13 : decode cX3_init 13 = .ok (.putfield 15, 3) := by decide +kernel
theorem dX3_init_16 : decode cX3_init 16 = .ok (.aload_n 0, 1) := by decide +kernel
theorem dX3_init_17 : decode cX3_init 17 = .ok (.aload_n 2, 1) := by decide +kernel
theorem dX3_init_18 : decode cX3_init 18 = .ok (.putfield 19, 3) := by decide +kernel
theorem dX3_init_21 : decode cX3_init 21 = .ok (.return_, 1) := by decide +kernel
theorem dX4_init_0 : decode cX4_init 0 = .ok (.aload_n 0, 1) := by decide +kernel
theorem dX4_init_1 : decode cX4_init 1 = .ok (.invokespecial 3, 3) := by decide +kernel
theorem dX4_init_4 : decode cX4_init 4 = .ok (.aload_n 0, 1) := by decide +kernel
theorem dX4_init_5 : decode cX4_init 5 = .ok (.bipush 30, 2) := by decide +kernel
theorem dX4_init_7 : decode cX4_init 7 = .ok (.newarray .int, 2) := by decide +kernel
theorem dX4_init_9 : decode cX4_init 9 = .ok (.putfield 9, 3) := by decide +kernel
theorem dX4_init_12 : decode cX4_init 12 = .ok (.aload_n 0, 1) := by decide +kernel
theorem dX4_init_13 : decode cX4_init 13 = .ok (.bipush 30, 2) := by decide +kernel
theorem dX4_init_15 : decode cX4_init 15 = .ok (.newarray .int, 2) := by decide +kernel
theorem dX4_init_17 : decode cX4_init 17 = .ok (.putfield 15, 3) := by decide +kernel
theorem dX4_init_20 : decode cX4_init 20 = .ok (.aload_n 0, 1) := by decide +kernel
theorem dX4_init_21 : decode cX4_init 21 = .ok (.bipush 30, 2) := by decide +kernel
theorem dX4_init_23 : decode cX4_init 23 = .ok (.newarray .int, 2) := by decide +kernel
theorem dX4_init_25 : decode cX4_init 25 = .ok (.putfield 18, 3) := by decide +kernel
theorem dX4_init_28 : decode cX4_init 28 = .ok (.aload_n 0, 1) := by decide +kernel
theorem dX4_init_29 : decode cX4_init 29 = .ok (.iconst 0, 1) := by decide +kernel
theorem dX4_init_30 : decode cX4_init 30 = .ok (.putfield 21, 3) := by decide +kernel
theorem dX4_init_33 : decode cX4_init 33 = .ok (.aload_n 0, 1) := by decide +kernel
theorem dX4_init_34 : decode cX4_init 34 = .ok (.iconst 0, 1) := by decide +kernel
theorem dX4_init_35 : decode cX4_init 35 = .ok (.putfield 25, 3) := by decide +kernel
theorem dX4_init_38 : decode cX4_init 38 = .ok (.aload_n 0, 1) := by decide +kernel
theorem dX4_init_39 : decode cX4_init 39 = .ok (.bipush 6, 2) := by decide +kernel
theorem dX4_init_41 : decode cX4_init 41 = .ok (.newarray .int, 2) := by decide +kernel
theorem dX4_init_43 : decode cX4_init 43 = .ok (.putfield 28, 3) := by decide +kernel
theorem dX4_init_46 : decode cX4_init 46 = .ok (.aload_n 0, 1) := by decide +kernel
theorem dX4_init_47 : decode cX4_init 47 = .ok (.bipush 6, 2) := by decide +kernel
theorem dX4_init_49 : decode cX4_init 49 = .ok (.newarray .int, 2) := by decide +kernel
theorem dX4_init_51 : decode cX4_init 51 = .ok (.putfield 31, 3) := by decide +kernel
theorem dX4_init_54 : decode cX4_init 54 = .ok (.aload_n 0, 1) := by decide +kernel
theorem dX4_init_55 : decode cX4_init 55 = .ok (.bipush 6, 2) := by decide +kernel
theorem dX4_init_57 : decode cX4_init 57 = .ok (.newarray .int, 2) := by decide +kernel
theorem dX4_init_59 : decode cX4_init 59 = .ok (.putfield 34, 3) := by decide +kernel
theorem dX4_init_62 : decode cX4_init 62 = .ok (.aload_n 0, 1) := by decide +kernel
theorem dX4_init_63 : decode cX4_init 63 = .ok (.iconst 0, 1) := by decide +kernel
theorem dX4_init_64 : decode cX4_init 64 = .ok (.putfield 37, 3) := by decide +kernel
theorem dX4_init_67 : decode cX4_init 67 = .ok (.aload_n 0, 1) := by decide +kernel
theorem dX4_init_68 : decode cX4_init 68 = .ok (.aload_n 1, 1) := by decide +kernel
theorem dX4_init_69 : decode cX4_init 69 = .ok (.putfield 40, 3) := by decide +kernel
theorem dX4_init_72 : decode cX4_init 72 = .ok (.return_, 1) := by decide +kernel
theorem dX4_prepare_0 : decode cX4_prepare 0 = .ok (.aload_n 1, 1) := by decide +kernel
theorem dX4_prepare_1 : decode cX4_prepare 1 = .ok (.getfield 44, 3) := by decide +kernel
theorem dX4_prepare_4 : decode cX4_prepare 4 = .ok (.iconst 0, 1) := by decide +kernel
theorem dX4_prepare_5 : decode cX4_prepare 5 = .ok (.aload_n 0, 1) := by decide +kernel
theorem dX4_prepare_6 : decode cX4_prepare 6 = .ok (.getfield 9, 3) := by decide +kernel
theorem dX4_prepare_9 : decode cX4_prepare 9 = .ok (.iconst 0, 1) := by decide +kernel
theorem dX4_prepare_10 : decode cX4_prepare 10 = .ok (.bipush 30, 2) := by decide +kernel
theorem dX4_prepare_12 : decode cX4_prepare 12 = .ok (.invokestatic 47, 3) := by decide +kernel
theorem dX4_prepare_15 : decode cX4_prepare 15 = .ok (.aload_n 1, 1) := by decide +kernel
theorem dX4_prepare_16 : decode cX4_prepare 16 = .ok (.getfield 53, 3) := by decide +kernel
theorem dX4_prepare_19 : decode cX4_prepare 19 = .ok (.iconst 0, 1) := by decide +kernel
theorem dX4_prepare_20 : decode cX4_prepare 20 = .ok (.aload_n 0, 1) := by decide +kernel
theorem dX4_prepare_21 : decode cX4_prepare 21 = .ok (.getfield 15, 3) := by decide +kernel
theorem dX4_prepare_24 : decode cX4_prepare 24 = .ok (.iconst 0, 1) := by decide +kernel
theorem dX4_prepare_25 : decode cX4_prepare 25 = .ok (.bipush 30, 2) := by decide +kernel
theorem dX4_prepare_27 : decode cX4_prepare 27 = .ok (.invokestatic 47, 3) := by decide +kernel
theorem dX4_prepare_30 : decode cX4_prepare 30 = .ok (.aload_n 0, 1) := by decide +kernel
theorem dX4_prepare_31 : decode cX4_prepare 31 = .ok (.getfield 18, 3) := by decide +kernel
theorem dX4_prepare_34 : decode cX4_prepare 34 = .ok (.iconst 0, 1) := by decide +kernel
theorem dX4_prepare_35 : decode cX4_prepare 35 = .ok (.invokestatic 54, 3) := by decide +kernel
theorem dX4_prepare_38 : decode cX4_prepare 38 = .ok (.iconst 0, 1) := by decide +kernel
theorem dX4_prepare_39 : decode cX4_prepare 39 = .ok (.istore_n 2, 1) := by decide +kernel
theorem dX4_prepare_40 : decode cX4_prepare 40 = .ok (.iload_n 2, 1) := by decide +kernel
theorem dX4_prepare_41 : decode cX4_prepare 41 = .ok (.aload_n 1, 1) := by decide +kernel
theorem dX4_prepare_42 : decode cX4_prepare 42 = .ok (.getfield 60, 3) := by decide +kernel
theorem dX4_prepare_45 : decode cX4_prepare 45 = .ok (.if_icmp .ge 31, 3) := by decide +kernel
theorem dX4_prepare_48 : decode cX4_prepare 48 = .ok (.aload_n 0, 1) := by decide +kernel
theorem dX4_prepare_49 : decode cX4_prepare 49 = .ok (.getfield 18, 3) := by decide +kernel
theorem dX4_prepare_52 : decode cX4_prepare 52 = .ok (.aload_n 1, 1) := by decide +kernel
theorem dX4_prepare_53 : decode cX4_prepare 53 = .ok (.getfield 63, 3) := by decide +kernel
theorem dX4_prepare_56 : decode cX4_prepare 56 = .ok (.iload_n 2, 1) := by decide +kernel
theorem dX4_prepare_57 : decode cX4_prepare 57 = .ok (.iaload, 1) := by decide +kernel
theorem dX4_prepare_58 : decode cX4_prepare 58 = .ok (.dup2, 1) := by decide +kernel
theorem dX4_prepare_59 : decode cX4_prepare 59 = .ok (.iaload, 1) := by decide +kernel
theorem dX4_prepare_60 : decode cX4_prepare 60 = .ok (.iconst 1, 1) := by decide +kernel
theorem dX4_prepare_61 : decode cX4_prepare 61 = .ok (.aload_n 1, 1) := by decide +kernel
theorem dX4_prepare_62 : decode cX4_prepare 62 = .ok (.getfield 66, 3) := by decide +kernel
theorem dX4_prepare_65 : decode cX4_prepare 65 = .ok (.iload_n 2, 1) := by decide +kernel
theorem dX4_prepare_66 : decode cX4_prepare 66 = .ok (.iaload, 1) := by decide +kernel
theorem dX4_prepare_67 : decode cX4_prepare 67 = .ok (.ishl, 1) := by decide +kernel
theorem dX4_prepare_68 : decode cX4_prepare 68 = .ok (.ior, 1) := by decide +kernel
theorem dX4_prepare_69 : decode cX4_prepare 69 = .ok (.iastore, 1) := by decide +kernel
theorem dX4_prepare_70 : decode cX4_prepare 70 = .ok (.iinc 2 1, 3) := by decide +kernel
theorem dX4_prepare_73 : decode cX4_prepare 73 = .ok (.goto (-33), 3) := by decide +kernel
theorem dX4_prepare_76 : decode cX4_prepare 76 = .ok (.aload_n 0, 1) := by decide +kernel
theorem dX4_prepare_77 : decode cX4_prepare 77 = .ok (.aload_n 1, 1) := by decide +kernel
theorem dX4_prepare_78 : decode cX4_prepare 78 = .ok (.getfield 69, 3) := by decide +kernel
theorem dX4_prepare_81 : decode cX4_prepare 81 = .ok (.putfield 21, 3) := by decide +kernel
theorem dX4_prepare_84 : decode cX4_prepare 84 = .ok (.aload_n 0, 1) := by decide +kernel
theorem dX4_prepare_85 : decode cX4_prepare 85 = .ok (.aload_n 0, 1) := by decide +kernel
theorem dX4_prepare_86 : decode cX4_prepare 86 = .ok (.getfield 40, 3) := by decide +kernel
theorem dX4_prepare_89 : decode cX4_prepare 89 = .ok (.getfield 70, 3) := by decide +kernel
theorem dX4_prepare_92 : decode cX4_prepare 92 = .ok (.putfield 25, 3) := by decide +kernel
theorem dX4_prepare_95 : decode cX4_prepare 95 = .ok (.return_, 1) := by decide +kernel
theorem dX4_pass_0 : decode cX4_pass 0 = .ok (.aload_n 0, 1) := by decide +kernel
theorem dX4_pass_1 : decode cX4_pass 1 = .ok (.invokevirtual 77, 3) := by decide +kernel
theorem dX4_pass_4 : decode cX4_pass 4 = .ok (.iconst 0, 1) := by decide +kernel
theorem dX4_pass_5 : decode cX4_pass 5 = .ok (.istore_n 2, 1) := by decide +kernel
theorem dX4_pass_6 : decode cX4_pass 6 = .ok (.iload_n 2, 1) := by decide +kernel
theorem dX4_pass_7 : decode cX4_pass 7 = .ok (.iload_n 1, 1) := by decide +kernel
theorem dX4_pass_8 : decode cX4_pass 8 = .ok (.if_icmp .gt 20, 3) := by decide +kernel
theorem dX4_pass_11 : decode cX4_pass 11 = .ok (.iload_n 2, 1) := by decide +kernel
theorem dX4_pass_12 : decode cX4_pass 12 = .ok (.bipush 30, 2) := by decide +kernel
theorem dX4_pass_14 : decode cX4_pass 14 = .ok (.if_icmp .ge 14, 3) := by decide +kernel
theorem dX4_pass_17 : decode cX4_pass 17 = .ok (.aload_n 0, 1) := by decide +kernel
theorem dX4_pass_18 : decode cX4_pass 18 = .ok (.iload_n 2, 1) := by decide +kernel
theorem dX4_pass_19 : decode cX4_pass 19 = .ok (.invokevirtual 80, 3) := by decide +kernel
theorem dX4_pass_22 : decode cX4_pass 22 = .ok (.iinc 2 1, 3) := by decide +kernel
theorem dX4_pass_25 : decode cX4_pass 25 = .ok (.goto (-19), 3) := by decide +kernel
theorem dX4_pass_28 : decode cX4_pass 28 = .ok (.return_, 1) := by decide +kernel
theorem dX4_sumOfOutDays_0 : decode cX4_sumOfOutDays 0 = .ok (.iconst 0, 1) := by decide +kernel
theorem dX4_sumOfOutDays_1 : decode cX4_sumOfOutDays 1 = .ok (.istore_n 1, 1) := by decide +kernel
theorem dX4_sumOfOutDays_2 : decode cX4_sumOfOutDays 2 = .ok (.iconst 0, 1) := by decide +kernel
theorem dX4_sumOfOutDays_3 : decode cX4_sumOfOutDays 3 = .ok (.istore_n 2, 1) := by decide +kernel
theorem dX4_sumOfOutDays_4 : decode cX4_sumOfOutDays 4 = .ok (.iload_n 2, 1) := by decide +kernel
theorem dX4_sumOfOutDays_5 : decode cX4_sumOfOutDays 5 = .ok (.aload_n 0, 1) := by decide +kernel
theorem dX4_sumOfOutDays_6 : decode cX4_sumOfOutDays 6 = .ok (.getfield 40, 3) := by decide +kernel
theorem dX4_sumOfOutDays_9 : decode cX4_sumOfOutDays 9 = .ok (.getfield 84, 3) := by decide +kernel
theorem dX4_sumOfOutDays_12 : decode cX4_sumOfOutDays 12 = .ok (.if_icmp .ge 18, 3) := by decide +kernel
theorem dX4_sumOfOutDays_15 : decode cX4_sumOfOutDays 15 = .ok (.iload_n 1, 1) := by decide +kernel
theorem dX4_sumOfOutDays_16 : decode cX4_sumOfOutDays 16 = .ok (.aload_n 0, 1) := by decide +kernel
theorem dX4_sumOfOutDays_17 : decode cX4_sumOfOutDays 17 = .ok (.getfield 31, 3) := by decide +kernel
theorem dX4_sumOfOutDays_20 : decode cX4_sumOfOutDays 20 = .ok (.iload_n 2, 1) := by decide +kernel
theorem dX4_sumOfOutDays_21 : decode cX4_sumOfOutDays 21 = .ok (.iaload, 1) := by decide +kernel
theorem dX4_sumOfOutDays_22 : decode cX4_sumOfOutDays 22 = .ok (.iadd, 1) := by decide +kernel
theorem dX4_sumOfOutDays_23 : decode cX4_sumOfOutDays 23 = .ok (.istore_n 1, 1) := by decide +kernel
theorem dX4_sumOfOutDays_24 : decode cX4_sumOfOutDays 24 = .ok (.iinc 2 1, 3) := by decide +kernel
theorem dX4_sumOfOutDays_27 : decode cX4_sumOfOutDays 27 = .ok (.goto (-23), 3) := by decide +kernel
theorem dX4_sumOfOutDays_30 : decode cX4_sumOfOutDays 30 = .ok (.iload_n 1, 1) := by decide +kernel
theorem dX4_sumOfOutDays_31 : decode cX4_sumOfOutDays 31 = .ok (.ireturn, 1) := by decide +kernel
theorem dX4_begin_0 : decode cX4_begin 0 = .ok (.aload_n 0, 1) := by decide +kernel
theorem dX4_begin_1 : decode cX4_begin 1 = .ok (.getfield 28, 3) := by decide +kernel
theorem dX4_begin_4 : decode cX4_begin 4 = .ok (.iconst 0, 1) := by decide +kernel
theorem dX4_begin_5 : decode cX4_begin 5 = .ok (.invokestatic 54, 3) := by decide +kernel
theorem dX4_begin_8 : decode cX4_begin 8 = .ok (.aload_n 0, 1) := by decide +kernel
theorem dX4_begin_9 : decode cX4_begin 9 = .ok (.getfield 31, 3) := by decide +kernel
theorem dX4_begin_12 : decode cX4_begin 12 = .ok (.bipush (-9), 2) := by decide +kernel
theorem dX4_begin_14 : decode cX4_begin 14 = .ok (.invokestatic 54, 3) := by decide +kernel
theorem dX4_begin_17 : decode cX4_begin 17 = .ok (.aload_n 0, 1) := by decide +kernel
theorem dX4_begin_18 : decode cX4_begin 18 = .ok (.getfield 34, 3) := by decide +kernel
theorem dX4_begin_21 : decode cX4_begin 21 = .ok (.bipush (-9), 2) := by decide +kernel
theorem dX4_begin_23 : decode cX4_begin 23 = .ok (.invokestatic 54, 3) := by decide +kernel
theorem dX4_begin_26 : decode cX4_begin 26 = .ok (.aload_n 0, 1) := by decide +kernel
theorem dX4_begin_27 : decode cX4_begin 27 = .ok (.aload_n 0, 1) := by decide +kernel
theorem dX4_begin_28 : decode cX4_begin 28 = .ok (.getfield 40, 3) := by decide +kernel
theorem dX4_begin_31 : decode cX4_begin 31 = .ok (.invokevirtual 91, 3) := by decide +kernel
theorem dX4_begin_34 : decode cX4_begin 34 = .ok (.putfield 37, 3) := by decide +kernel
theorem dX4_begin_37 : decode cX4_begin 37 = .ok (.return_, 1) := by decide +kernel
theorem dX4_passDay_0 : decode cX4_passDay 0 = .ok (.aload_n 0, 1) := by decide +kernel
theorem dX4_passDay_1 : decode cX4_passDay 1 = .ok (.getfield 21, 3) := by decide +kernel
theorem dX4_passDay_4 : decode cX4_passDay 4 = .ok (.iload_n 1, 1) := by decide +kernel
theorem dX4_passDay_5 : decode cX4_passDay 5 = .ok (.invokestatic 73, 3) := by decide +kernel
theorem dX4_passDay_8 : decode cX4_passDay 8 = .ok (.ifCond .ne 27, 3) := by decide +kernel
theorem dX4_passDay_11 : decode cX4_passDay 11 = .ok (.aload_n 0, 1) := by decide +kernel
theorem dX4_passDay_12 : decode cX4_passDay 12 = .ok (.getfield 9, 3) := by decide +kernel
theorem dX4_passDay_15 : decode cX4_passDay 15 = .ok (.iload_n 1, 1) := by decide +kernel
theorem dX4_passDay_16 : decode cX4_passDay 16 = .ok (.iaload, 1) := by decide +kernel
theorem dX4_passDay_17 : decode cX4_passDay 17 = .ok (.ifCond .gt 14, 3) := by decide +kernel
theorem dX4_passDay_20 : decode cX4_passDay 20 = .ok (.aload_n 0, 1) := by decide +kernel
theorem dX4_passDay_21 : decode cX4_passDay 21 = .ok (.getfield 15, 3) := by decide +kernel
theorem dX4_passDay_24 : decode cX4_passDay 24 = .ok (.iload_n 1, 1) := by decide +kernel
theorem dX4_passDay_25 : decode cX4_passDay 25 = .ok (.iaload, 1) := by decide +kernel
theorem dX4_passDay_26 : decode cX4_passDay 26 = .ok (.bipush (-9), 2) := by decide +kernel
theorem dX4_passDay_28 : decode cX4_passDay 28 = .ok (.if_icmp .eq 7, 3) := by decide +kernel
theorem dX4_passDay_31 : decode cX4_passDay 31 = .ok (.iconst 1, 1) := by decide +kernel
theorem dX4_passDay_32 : decode cX4_passDay 32 = .ok (.goto 4, 3) := by decide +kernel
theorem dX4_passDay_35 : decode cX4_passDay 35 = .ok (.iconst 0, 1) := by decide +kernel
theorem dX4_passDay_36 : decode cX4_passDay 36 = .ok (.istore_n 2, 1) := by decide +kernel
theorem dX4_passDay_37 : decode cX4_passDay 37 = .ok (.iload_n 2, 1) := by decide +kernel
theorem dX4_passDay_38 : decode cX4_passDay 38 = .ok (.ifCond .eq 19, 3) := by decide +kernel
theorem dX4_passDay_41 : decode cX4_passDay 41 = .ok (.aload_n 0, 1) := by decide +kernel
theorem dX4_passDay_42 : decode cX4_passDay 42 = .ok (.aload_n 0, 1) := by decide +kernel
theorem dX4_passDay_43 : decode cX4_passDay 43 = .ok (.getfield 9, 3) := by decide +kernel
theorem dX4_passDay_46 : decode cX4_passDay 46 = .ok (.iload_n 1, 1) := by decide +kernel
theorem dX4_passDay_47 : decode cX4_passDay 47 = .ok (.iaload, 1) := by decide +kernel
theorem dX4_passDay_48 : decode cX4_passDay 48 = .ok (.aload_n 0, 1) := by decide +kernel
theorem dX4_passDay_49 : decode cX4_passDay 49 = .ok (.getfield 15, 3) := by decide +kernel
theorem dX4_passDay_52 : decode cX4_passDay 52 = .ok (.iload_n 1, 1) := by decide +kernel
theorem dX4_passDay_53 : decode cX4_passDay 53 = .ok (.iaload, 1) := by decide +kernel
theorem dX4_passDay_54 : decode cX4_passDay 54 = .ok (.invokevirtual 95, 3) := by decide +kernel
theorem dX4_passDay_57 : decode cX4_passDay 57 = .ok (.aload_n 0, 1) := by decide +kernel
theorem dX4_passDay_58 : decode cX4_passDay 58 = .ok (.getfield 18, 3) := by decide +kernel
theorem dX4_passDay_61 : decode cX4_passDay 61 = .ok (.iload_n 1, 1) := by decide +kernel
theorem dX4_passDay_62 : decode cX4_passDay 62 = .ok (.iaload, 1) := by decide +kernel
theorem dX4_passDay_63 : decode cX4_passDay 63 = .ok (.ifCond .eq 13, 3) := by decide +kernel
theorem dX4_passDay_66 : decode cX4_passDay 66 = .ok (.aload_n 0, 1) := by decide +kernel
theorem dX4_passDay_67 : decode cX4_passDay 67 = .ok (.aload_n 0, 1) := by decide +kernel
theorem dX4_passDay_68 : decode cX4_passDay 68 = .ok (.getfield 18, 3) := by decide +kernel
theorem dX4_passDay_71 : decode cX4_passDay 71 = .ok (.iload_n 1, 1) := by decide +kernel
theorem dX4_passDay_72 : decode cX4_passDay 72 = .ok (.iaload, 1) := by decide +kernel
theorem dX4_passDay_73 : decode cX4_passDay 73 = .ok (.invokevirtual 99, 3) := by decide +kernel
theorem dX4_passDay_76 : decode cX4_passDay 76 = .ok (.iload_n 2, 1) := by decide +kernel
theorem dX4_passDay_77 : decode cX4_passDay 77 = .ok (.ifCond .eq 8, 3) := by decide +kernel
theorem dX4_passDay_80 : decode cX4_passDay 80 = .ok (.aload_n 0, 1) := by decide +kernel
theorem dX4_passDay_81 : decode cX4_passDay 81 = .ok (.iload_n 1, 1) := by decide +kernel
theorem dX4_passDay_82 : decode cX4_passDay 82 = .ok (.invokevirtual 102, 3) := by decide +kernel
theorem dX4_passDay_85 : decode cX4_passDay 85 = .ok (.aload_n 0, 1) := by decide +kernel
theorem dX4_passDay_86 : decode cX4_passDay 86 = .ok (.getfield 40, 3) := by decide +kernel
theorem dX4_passDay_89 : decode cX4_passDay 89 = .ok (.getfield 105, 3) := by decide +kernel
theorem dX4_passDay_92 : decode cX4_passDay 92 = .ok (.iload_n 1, 1) := by decide +kernel
theorem dX4_passDay_93 : decode cX4_passDay 93 = .ok (.iaload, 1) := by decide +kernel
theorem dX4_passDay_94 : decode cX4_passDay 94 = .ok (.aload_n 0, 1) := by decide +kernel
theorem dX4_passDay_95 : decode cX4_passDay 95 = .ok (.getfield 37, 3) := by decide +kernel
theorem dX4_passDay_98 : decode cX4_passDay 98 = .ok (.iand, 1) := by decide +kernel
theorem dX4_passDay_99 : decode cX4_passDay 99 = .ok (.istore_n 3, 1) := by decide +kernel
theorem dX4_passDay_100 : decode cX4_passDay 100 = .ok (.iload_n 3, 1) := by decide +kernel
theorem dX4_passDay_101 : decode cX4_passDay 101 = .ok (.ifCond .eq 9, 3) := by decide +kernel
theorem dX4_passDay_104 : decode cX4_passDay 104 = .ok (.aload_n 0, 1) := by decide +kernel
theorem dX4_passDay_105 : decode cX4_passDay 105 = .ok (.iload_n 3, 1) := by decide +kernel
theorem dX4_passDay_106 : decode cX4_passDay 106 = .ok (.iload_n 1, 1) := by decide +kernel
theorem dX4_passDay_107 : decode cX4_passDay 107 = .ok (.invokevirtual 108, 3) := by decide +kernel
theorem dX4_passDay_110 : decode cX4_passDay 110 = .ok (.return_, 1) := by decide +kernel
theorem dX4_giveWater_0 : decode cX4_giveWater 0 = .ok (.iconst 0, 1) := by decide +kernel
theorem dX4_giveWater_1 : decode cX4_giveWater 1 = .ok (.istore_n 3, 1) := by decide +kernel
theorem dX4_giveWater_2 : decode cX4_giveWater 2 = .ok (.iload_n 3, 1) := by decide +kernel
theorem dX4_giveWater_3 : decode cX4_giveWater 3 = .ok (.aload_n 0, 1) := by decide +kernel
theorem dX4_giveWater_4 : decode cX4_giveWater 4 = .ok (.getfield 40, 3) := by decide +kernel
theorem dX4_giveWater_7 : decode cX4_giveWater 7 = .ok (.getfield 111, 3) := by decide +kernel
theorem dX4_giveWater_10 : decode cX4_giveWater 10 = .ok (.if_icmp .ge 19, 3) := by decide +kernel
theorem dX4_giveWater_13 : decode cX4_giveWater 13 = .ok (.aload_n 0, 1) := by decide +kernel
theorem dX4_giveWater_14 : decode cX4_giveWater 14 = .ok (.getfield 28, 3) := by decide +kernel
theorem dX4_giveWater_17 : decode cX4_giveWater 17 = .ok (.iload_n 3, 1) := by decide +kernel
theorem dX4_giveWater_18 : decode cX4_giveWater 18 = .ok (.dup2, 1) := by decide +kernel
theorem dX4_giveWater_19 : decode cX4_giveWater 19 = .ok (.iaload, 1) := by decide +kernel
theorem dX4_giveWater_20 : decode cX4_giveWater 20 = .ok (.iload_n 1, 1) := by decide +kernel
theorem dX4_giveWater_21 : decode cX4_giveWater 21 = .ok (.iadd, 1) := by decide +kernel
theorem dX4_giveWater_22 : decode cX4_giveWater 22 = .ok (.iastore, 1) := by decide +kernel
theorem dX4_giveWater_23 : decode cX4_giveWater 23 = .ok (.iinc 3 1, 3) := by decide +kernel
theorem dX4_giveWater_26 : decode cX4_giveWater 26 = .ok (.goto (-24), 3) := by decide +kernel
theorem dX4_giveWater_29 : decode cX4_giveWater 29 = .ok (.aload_n 0, 1) := by decide +kernel
theorem dX4_giveWater_30 : decode cX4_giveWater 30 = .ok (.getfield 40, 3) := by decide +kernel
theorem dX4_giveWater_33 : decode cX4_giveWater 33 = .ok (.iload_n 2, 1) := by decide +kernel
theorem dX4_giveWater_34 : decode cX4_giveWater 34 = .ok (.invokevirtual 114, 3) := by decide +kernel
theorem dX4_giveWater_37 : decode cX4_giveWater 37 = .ok (.ifCond .eq 13, 3) := by decide +kernel
theorem dX4_giveWater_40 : decode cX4_giveWater 40 = .ok (.aload_n 0, 1) := by decide +kernel
theorem dX4_giveWater_41 : decode cX4_giveWater 41 = .ok (.getfield 28, 3) := by decide +kernel
theorem dX4_giveWater_44 : decode cX4_giveWater 44 = .ok (.iload_n 2, 1) := by decide +kernel
theorem dX4_giveWater_45 : decode cX4_giveWater 45 = .ok (.dup2, 1) := by decide +kernel
theorem dX4_giveWater_46 : decode cX4_giveWater 46 = .ok (.iaload, 1) := by decide +kernel
theorem dX4_giveWater_47 : decode cX4_giveWater 47 = .ok (.iconst 3, 1) := by decide +kernel
theorem dX4_giveWater_48 : decode cX4_giveWater 48 = .ok (.iadd, 1) := by decide +kernel
theorem dX4_giveWater_49 : decode cX4_giveWater 49 = .ok (.iastore, 1) := by decide +kernel
theorem dX4_giveWater_50 : decode cX4_giveWater 50 = .ok (.return_, 1) := by decide +kernel
theorem dX4_sendCrows_0 : decode cX4_sendCrows 0 = .ok (.iconst 0, 1) := by decide +kernel
theorem dX4_sendCrows_1 : decode cX4_sendCrows 1 = .ok (.istore_n 2, 1) := by decide +kernel
theorem dX4_sendCrows_2 : decode cX4_sendCrows 2 = .ok (.iload_n 2, 1) := by decide +kernel
theorem dX4_sendCrows_3 : decode cX4_sendCrows 3 = .ok (.aload_n 0, 1) := by decide +kernel
theorem dX4_sendCrows_4 : decode cX4_sendCrows 4 = .ok (.getfield 40, 3) := by decide +kernel
theorem dX4_sendCrows_7 : decode cX4_sendCrows 7 = .ok (.getfield 111, 3) := by decide +kernel
theorem dX4_sendCrows_10 : decode cX4_sendCrows 10 = .ok (.if_icmp .ge 32, 3) := by decide +kernel
theorem dX4_sendCrows_13 : decode cX4_sendCrows 13 = .ok (.iload_n 1, 1) := by decide +kernel
theorem dX4_sendCrows_14 : decode cX4_sendCrows 14 = .ok (.iload_n 2, 1) := by decide +kernel
theorem dX4_sendCrows_15 : decode cX4_sendCrows 15 = .ok (.invokestatic 73, 3) := by decide +kernel
theorem dX4_sendCrows_18 : decode cX4_sendCrows 18 = .ok (.ifCond .eq 18, 3) := by decide +kernel
theorem dX4_sendCrows_21 : decode cX4_sendCrows 21 = .ok (.aload_n 0, 1) := by decide +kernel
theorem dX4_sendCrows_22 : decode cX4_sendCrows 22 = .ok (.iload_n 2, 1) := by decide +kernel
theorem dX4_sendCrows_23 : decode cX4_sendCrows 23 = .ok (.invokevirtual 117, 3) := by decide +kernel
theorem dX4_sendCrows_26 : decode cX4_sendCrows 26 = .ok (.ifCond .eq 10, 3) := by decide +kernel
theorem dX4_sendCrows_29 : decode cX4_sendCrows 29 = .ok (.aload_n 0, 1) := by decide +kernel
theorem dX4_sendCrows_30 : decode cX4_sendCrows 30 = .ok (.getfield 28, 3) := by decide +kernel
theorem dX4_sendCrows_33 : decode cX4_sendCrows 33 = .ok (.iload_n 2, 1) := by decide +kernel
theorem dX4_sendCrows_34 : decode cX4_sendCrows 34 = .ok (.iconst 0, 1) := by decide +kernel
theorem dX4_sendCrows_35 : decode cX4_sendCrows 35 = .ok (.iastore, 1) := by decide +kernel
theorem dX4_sendCrows_36 : decode cX4_sendCrows 36 = .ok (.iinc 2 1, 3) := by decide +kernel
theorem dX4_sendCrows_39 : decode cX4_sendCrows 39 = .ok (.goto (-37), 3) := by decide +kernel
theorem dX4_sendCrows_42 : decode cX4_sendCrows 42 = .ok (.return_, 1) := by decide +kernel
theorem dX4_isRipe_0 : decode cX4_isRipe 0 = .ok (.aload_n 0, 1) := by decide +kernel
theorem dX4_isRipe_1 : decode cX4_isRipe 1 = .ok (.getfield 28, 3) := by decide +kernel
theorem dX4_isRipe_4 : decode cX4_isRipe 4 = .ok (.iload_n 1, 1) := by decide +kernel
theorem dX4_isRipe_5 : decode cX4_isRipe 5 = .ok (.iaload, 1) := by decide +kernel
theorem dX4_isRipe_6 : decode cX4_isRipe 6 = .ok (.aload_n 0, 1) := by decide +kernel
theorem dX4_isRipe_7 : decode cX4_isRipe 7 = .ok (.getfield 40, 3) := by decide +kernel
theorem dX4_isRipe_10 : decode cX4_isRipe 10 = .ok (.getfield 120, 3) := by decide +kernel
theorem dX4_isRipe_13 : decode cX4_isRipe 13 = .ok (.iload_n 1, 1) := by decide +kernel
theorem dX4_isRipe_14 : decode cX4_isRipe 14 = .ok (.iaload, 1) := by decide +kernel
theorem dX4_isRipe_15 : decode cX4_isRipe 15 = .ok (.if_icmp .lt 7, 3) := by decide +kernel
theorem dX4_isRipe_18 : decode cX4_isRipe 18 = .ok (.iconst 1, 1) := by decide +kernel
theorem dX4_isRipe_19 : decode cX4_isRipe 19 = .ok (.goto 4, 3) := by decide +kernel
theorem dX4_isRipe_22 : decode cX4_isRipe 22 = .ok (.iconst 0, 1) := by decide +kernel
theorem dX4_isRipe_23 : decode cX4_isRipe 23 = .ok (.ireturn, 1) := by decide +kernel
theorem dX4_turnKeys_0 : decode cX4_turnKeys 0 = .ok (.iconst 0, 1) := by decide +kernel
theorem dX4_turnKeys_1 : decode cX4_turnKeys 1 = .ok (.istore_n 2, 1) := by decide +kernel
theorem dX4_turnKeys_2 : decode cX4_turnKeys 2 = .ok (.iload_n 2, 1) := by decide +kernel
theorem dX4_turnKeys_3 : decode cX4_turnKeys 3 = .ok (.aload_n 0, 1) := by decide +kernel
theorem dX4_turnKeys_4 : decode cX4_turnKeys 4 = .ok (.getfield 40, 3) := by decide +kernel
theorem dX4_turnKeys_7 : decode cX4_turnKeys 7 = .ok (.getfield 111, 3) := by decide +kernel
theorem dX4_turnKeys_10 : decode cX4_turnKeys 10 = .ok (.if_icmp .ge 65, 3) := by decide +kernel
theorem dX4_turnKeys_13 : decode cX4_turnKeys 13 = .ok (.aload_n 0, 1) := by decide +kernel
theorem dX4_turnKeys_14 : decode cX4_turnKeys 14 = .ok (.getfield 40, 3) := by decide +kernel
theorem dX4_turnKeys_17 : decode cX4_turnKeys 17 = .ok (.getfield 123, 3) := by decide +kernel
theorem dX4_turnKeys_20 : decode cX4_turnKeys 20 = .ok (.iload_n 2, 1) := by decide +kernel
theorem dX4_turnKeys_21 : decode cX4_turnKeys 21 = .ok (.iaload, 1) := by decide +kernel
theorem dX4_turnKeys_22 : decode cX4_turnKeys 22 = .ok (.aload_n 0, 1) := by decide +kernel
theorem dX4_turnKeys_23 : decode cX4_turnKeys 23 = .ok (.getfield 37, 3) := by decide +kernel
theorem dX4_turnKeys_26 : decode cX4_turnKeys 26 = .ok (.iand, 1) := by decide +kernel
theorem dX4_turnKeys_27 : decode cX4_turnKeys 27 = .ok (.istore_n 3, 1) := by decide +kernel
theorem dX4_turnKeys_28 : decode cX4_turnKeys 28 = .ok (.iload_n 3, 1) := by decide +kernel
theorem dX4_turnKeys_29 : decode cX4_turnKeys 29 = .ok (.ifCond .eq 40, 3) := by decide +kernel
theorem dX4_turnKeys_32 : decode cX4_turnKeys 32 = .ok (.aload_n 0, 1) := by decide +kernel
theorem dX4_turnKeys_33 : decode cX4_turnKeys 33 = .ok (.iload_n 2, 1) := by decide +kernel
theorem dX4_turnKeys_34 : decode cX4_turnKeys 34 = .ok (.invokevirtual 117, 3) := by decide +kernel
theorem dX4_turnKeys_37 : decode cX4_turnKeys 37 = .ok (.ifCond .eq 32, 3) := by decide +kernel
theorem dX4_turnKeys_40 : decode cX4_turnKeys 40 = .ok (.aload_n 0, 1) := by decide +kernel
theorem dX4_turnKeys_41 : decode cX4_turnKeys 41 = .ok (.getfield 25, 3) := by decide +kernel
theorem dX4_turnKeys_44 : decode cX4_turnKeys 44 = .ok (.iload_n 2, 1) := by decide +kernel
theorem dX4_turnKeys_45 : decode cX4_turnKeys 45 = .ok (.invokestatic 73, 3) := by decide +kernel
theorem dX4_turnKeys_48 : decode cX4_turnKeys 48 = .ok (.ifCond .ne 21, 3) := by decide +kernel
theorem dX4_turnKeys_51 : decode cX4_turnKeys 51 = .ok (.aload_n 0, 1) := by decide +kernel
theorem dX4_turnKeys_52 : decode cX4_turnKeys 52 = .ok (.aload_n 0, 1) := by decide +kernel
theorem dX4_turnKeys_53 : decode cX4_turnKeys 53 = .ok (.iload_n 3, 1) := by decide +kernel
theorem dX4_turnKeys_54 : decode cX4_turnKeys 54 = .ok (.invokevirtual 126, 3) := by decide +kernel
theorem dX4_turnKeys_57 : decode cX4_turnKeys 57 = .ok (.iload_n 1, 1) := by decide +kernel
theorem dX4_turnKeys_58 : decode cX4_turnKeys 58 = .ok (.iload_n 2, 1) := by decide +kernel
theorem dX4_turnKeys_59 : decode cX4_turnKeys 59 = .ok (.invokevirtual 130, 3) := by decide +kernel
theorem dX4_turnKeys_62 : decode cX4_turnKeys 62 = .ok (.aload_n 0, 1) := by decide +kernel
theorem dX4_turnKeys_63 : decode cX4_turnKeys 63 = .ok (.getfield 28, 3) := by decide +kernel
theorem dX4_turnKeys_66 : decode cX4_turnKeys 66 = .ok (.iload_n 2, 1) := by decide +kernel
theorem dX4_turnKeys_67 : decode cX4_turnKeys 67 = .ok (.iconst 0, 1) := by decide +kernel
theorem dX4_turnKeys_68 : decode cX4_turnKeys 68 = .ok (.iastore, 1) := by decide +kernel
theorem dX4_turnKeys_69 : decode cX4_turnKeys 69 = .ok (.iinc 2 1, 3) := by decide +kernel
theorem dX4_turnKeys_72 : decode cX4_turnKeys 72 = .ok (.goto (-70), 3) := by decide +kernel
theorem dX4_turnKeys_75 : decode cX4_turnKeys 75 = .ok (.return_, 1) := by decide +kernel
theorem dX4_leastOf_0 : decode cX4_leastOf 0 = .ok (.iconst 0, 1) := by decide +kernel
theorem dX4_leastOf_1 : decode cX4_leastOf 1 = .ok (.istore_n 2, 1) := by decide +kernel
theorem dX4_leastOf_2 : decode cX4_leastOf 2 = .ok (.iload_n 2, 1) := by decide +kernel
theorem dX4_leastOf_3 : decode cX4_leastOf 3 = .ok (.iconst 5, 1) := by decide +kernel
theorem dX4_leastOf_4 : decode cX4_leastOf 4 = .ok (.if_icmp .ge 17, 3) := by decide +kernel
theorem dX4_leastOf_7 : decode cX4_leastOf 7 = .ok (.iload_n 1, 1) := by decide +kernel
theorem dX4_leastOf_8 : decode cX4_leastOf 8 = .ok (.iload_n 2, 1) := by decide +kernel
theorem dX4_leastOf_9 : decode cX4_leastOf 9 = .ok (.invokestatic 73, 3) := by decide +kernel
theorem dX4_leastOf_12 : decode cX4_leastOf 12 = .ok (.ifCond .ne 9, 3) := by decide +kernel
theorem dX4_leastOf_15 : decode cX4_leastOf 15 = .ok (.iinc 2 1, 3) := by decide +kernel
theorem dX4_leastOf_18 : decode cX4_leastOf 18 = .ok (.goto (-16), 3) := by decide +kernel
theorem dX4_leastOf_21 : decode cX4_leastOf 21 = .ok (.iload_n 2, 1) := by decide +kernel
theorem dX4_leastOf_22 : decode cX4_leastOf 22 = .ok (.ireturn, 1) := by decide +kernel
theorem dX4_endTerms_0 : decode cX4_endTerms 0 = .ok (.iconst 0, 1) := by decide +kernel
theorem dX4_endTerms_1 : decode cX4_endTerms 1 = .ok (.istore_n 3, 1) := by decide +kernel
theorem dX4_endTerms_2 : decode cX4_endTerms 2 = .ok (.iload_n 3, 1) := by decide +kernel
theorem dX4_endTerms_3 : decode cX4_endTerms 3 = .ok (.aload_n 0, 1) := by decide +kernel
theorem dX4_endTerms_4 : decode cX4_endTerms 4 = .ok (.getfield 40, 3) := by decide +kernel
theorem dX4_endTerms_7 : decode cX4_endTerms 7 = .ok (.getfield 84, 3) := by decide +kernel
theorem dX4_endTerms_10 : decode cX4_endTerms 10 = .ok (.if_icmp .ge 25, 3) := by decide +kernel
theorem dX4_endTerms_13 : decode cX4_endTerms 13 = .ok (.iload_n 1, 1) := by decide +kernel
theorem dX4_endTerms_14 : decode cX4_endTerms 14 = .ok (.iload_n 3, 1) := by decide +kernel
theorem dX4_endTerms_15 : decode cX4_endTerms 15 = .ok (.invokestatic 73, 3) := by decide +kernel
theorem dX4_endTerms_18 : decode cX4_endTerms 18 = .ok (.ifCond .eq 11, 3) := by decide +kernel
theorem dX4_endTerms_21 : decode cX4_endTerms 21 = .ok (.aload_n 0, 1) := by decide +kernel
theorem dX4_endTerms_22 : decode cX4_endTerms 22 = .ok (.iload_n 3, 1) := by decide +kernel
theorem dX4_endTerms_23 : decode cX4_endTerms 23 = .ok (.iload_n 2, 1) := by decide +kernel
theorem dX4_endTerms_24 : decode cX4_endTerms 24 = .ok (.bipush (-9), 2) := by decide +kernel
theorem dX4_endTerms_26 : decode cX4_endTerms 26 = .ok (.invokevirtual 130, 3) := by decide +kernel
theorem dX4_endTerms_29 : decode cX4_endTerms 29 = .ok (.iinc 3 1, 3) := by decide +kernel
theorem dX4_endTerms_32 : decode cX4_endTerms 32 = .ok (.goto (-30), 3) := by decide +kernel
theorem dX4_endTerms_35 : decode cX4_endTerms 35 = .ok (.return_, 1) := by decide +kernel
theorem dX4_letOut_0 : decode cX4_letOut 0 = .ok (.aload_n 0, 1) := by decide +kernel
theorem dX4_letOut_1 : decode cX4_letOut 1 = .ok (.dup, 1) := by decide +kernel
theorem dX4_letOut_2 : decode cX4_letOut 2 = .ok (.getfield 37, 3) := by decide +kernel
theorem dX4_letOut_5 : decode cX4_letOut 5 = .ok (.iconst 1, 1) := by decide +kernel
theorem dX4_letOut_6 : decode cX4_letOut 6 = .ok (.iload_n 1, 1) := by decide +kernel
theorem dX4_letOut_7 : decode cX4_letOut 7 = .ok (.ishl, 1) := by decide +kernel
theorem dX4_letOut_8 : decode cX4_letOut 8 = .ok (.iconst (-1), 1) := by decide +kernel
theorem dX4_letOut_9 : decode cX4_letOut 9 = .ok (.ixor, 1) := by decide +kernel
theorem dX4_letOut_10 : decode cX4_letOut 10 = .ok (.iand, 1) := by decide +kernel
theorem dX4_letOut_11 : decode cX4_letOut 11 = .ok (.putfield 37, 3) := by decide +kernel
theorem dX4_letOut_14 : decode cX4_letOut 14 = .ok (.aload_n 0, 1) := by decide +kernel
theorem dX4_letOut_15 : decode cX4_letOut 15 = .ok (.getfield 31, 3) := by decide +kernel
theorem dX4_letOut_18 : decode cX4_letOut 18 = .ok (.iload_n 1, 1) := by decide +kernel
theorem dX4_letOut_19 : decode cX4_letOut 19 = .ok (.iload_n 2, 1) := by decide +kernel
theorem dX4_letOut_20 : decode cX4_letOut 20 = .ok (.iastore, 1) := by decide +kernel
theorem dX4_letOut_21 : decode cX4_letOut 21 = .ok (.aload_n 0, 1) := by decide +kernel
theorem dX4_letOut_22 : decode cX4_letOut 22 = .ok (.getfield 34, 3) := by decide +kernel
theorem dX4_letOut_25 : decode cX4_letOut 25 = .ok (.iload_n 1, 1) := by decide +kernel
theorem dX4_letOut_26 : decode cX4_letOut 26 = .ok (.iload_n 3, 1) := by decide +kernel
theorem dX4_letOut_27 : decode cX4_letOut 27 = .ok (.iastore, 1) := by decide +kernel
theorem dX4_letOut_28 : decode cX4_letOut 28 = .ok (.return_, 1) := by decide +kernel
theorem dX5_init_0 : decode cX5_init 0 = .ok (.aload_n 0, 1) := by decide +kernel
theorem dX5_init_1 : decode cX5_init 1 = .ok (.invokespecial 3, 3) := by decide +kernel
theorem dX5_init_4 : decode cX5_init 4 = .ok (.aload_n 0, 1) := by decide +kernel
theorem dX5_init_5 : decode cX5_init 5 = .ok (.bipush 50, 2) := by decide +kernel
theorem dX5_init_7 : decode cX5_init 7 = .ok (.newarray .int, 2) := by decide +kernel
theorem dX5_init_9 : decode cX5_init 9 = .ok (.putfield 9, 3) := by decide +kernel
theorem dX5_init_12 : decode cX5_init 12 = .ok (.aload_n 0, 1) := by decide +kernel
theorem dX5_init_13 : decode cX5_init 13 = .ok (.iconst 0, 1) := by decide +kernel
theorem dX5_init_14 : decode cX5_init 14 = .ok (.putfield 15, 3) := by decide +kernel
theorem dX5_init_17 : decode cX5_init 17 = .ok (.aload_n 0, 1) := by decide +kernel
theorem dX5_init_18 : decode cX5_init 18 = .ok (.iconst 0, 1) := by decide +kernel
theorem dX5_init_19 : decode cX5_init 19 = .ok (.putfield 19, 3) := by decide +kernel
theorem dX5_init_22 : decode cX5_init 22 = .ok (.aload_n 0, 1) := by decide +kernel
theorem dX5_init_23 : decode cX5_init 23 = .ok (.iconst 0, 1) := by decide +kernel
theorem dX5_init_24 : decode cX5_init 24 = .ok (.putfield 23, 3) := by decide +kernel
theorem dX5_init_27 : decode cX5_init 27 = .ok (.return_, 1) := by decide +kernel
theorem dX5_renew_0 : decode cX5_renew 0 = .ok (.aload_n 0, 1) := by decide +kernel
theorem dX5_renew_1 : decode cX5_renew 1 = .ok (.getfield 9, 3) := by decide +kernel
theorem dX5_renew_4 : decode cX5_renew 4 = .ok (.iconst 0, 1) := by decide +kernel
theorem dX5_renew_5 : decode cX5_renew 5 = .ok (.invokestatic 26, 3) := by decide +kernel
theorem dX5_renew_8 : decode cX5_renew 8 = .ok (.aload_n 0, 1) := by decide +kernel
theorem dX5_renew_9 : decode cX5_renew 9 = .ok (.iconst 1, 1) := by decide +kernel
theorem dX5_renew_10 : decode cX5_renew 10 = .ok (.putfield 15, 3) := by decide +kernel
theorem dX5_renew_13 : decode cX5_renew 13 = .ok (.aload_n 0, 1) := by decide +kernel
theorem dX5_renew_14 : decode cX5_renew 14 = .ok (.iload_n 1, 1) := by decide +kernel
theorem dX5_renew_15 : decode cX5_renew 15 = .ok (.putfield 19, 3) := by decide +kernel
theorem dX5_renew_18 : decode cX5_renew 18 = .ok (.aload_n 0, 1) := by decide +kernel
theorem dX5_renew_19 : decode cX5_renew 19 = .ok (.iload_n 2, 1) := by decide +kernel
theorem dX5_renew_20 : decode cX5_renew 20 = .ok (.putfield 23, 3) := by decide +kernel
theorem dX5_renew_23 : decode cX5_renew 23 = .ok (.return_, 1) := by decide +kernel
theorem dX5_isOfOtherLane_0 : decode cX5_isOfOtherLane 0 = .ok (.aload_n 0, 1) := by decide +kernel
theorem dX5_isOfOtherLane_1 : decode cX5_isOfOtherLane 1 = .ok (.getfield 15, 3) := by decide +kernel
theorem dX5_isOfOtherLane_4 : decode cX5_isOfOtherLane 4 = .ok (.ifCond .eq 15, 3) := by decide +kernel
theorem dX5_isOfOtherLane_7 : decode cX5_isOfOtherLane 7 = .ok (.aload_n 0, 1) := by decide +kernel
theorem dX5_isOfOtherLane_8 : decode cX5_isOfOtherLane 8 = .ok (.getfield 19, 3) := by decide +kernel
theorem dX5_isOfOtherLane_11 : decode cX5_isOfOtherLane 11 = .ok (.iload_n 1, 1) := by decide +kernel
theorem dX5_isOfOtherLane_12 : decode cX5_isOfOtherLane 12 = .ok (.if_icmp .eq 7, 3) := by decide +kernel
theorem dX5_isOfOtherLane_15 : decode cX5_isOfOtherLane 15 = .ok (.iconst 1, 1) := by decide +kernel
theorem dX5_isOfOtherLane_16 : decode cX5_isOfOtherLane 16 = .ok (.goto 4, 3) := by decide +kernel
theorem dX5_isOfOtherLane_19 : decode cX5_isOfOtherLane 19 = .ok (.iconst 0, 1) := by decide +kernel
theorem dX5_isOfOtherLane_20 : decode cX5_isOfOtherLane 20 = .ok (.ireturn, 1) := by decide +kernel
theorem dX5_hasCells_0 : decode cX5_hasCells 0 = .ok (.iload_n 1, 1) := by decide +kernel
theorem dX5_hasCells_1 : decode cX5_hasCells 1 = .ok (.ifCond .lt 29, 3) := by decide +kernel
theorem dX5_hasCells_4 : decode cX5_hasCells 4 = .ok (.iload_n 1, 1) := by decide +kernel
theorem dX5_hasCells_5 : decode cX5_hasCells 5 = .ok (.aload_n 0, 1) := by decide +kernel
theorem dX5_hasCells_6 : decode cX5_hasCells 6 = .ok (.getfield 23, 3) := by decide +kernel
theorem dX5_hasCells_9 : decode cX5_hasCells 9 = .ok (.if_icmp .gt 21, 3) := by decide +kernel
theorem dX5_hasCells_12 : decode cX5_hasCells 12 = .ok (.iload_n 2, 1) := by decide +kernel
theorem dX5_hasCells_13 : decode cX5_hasCells 13 = .ok (.ifCond .lt 17, 3) := by decide +kernel
theorem dX5_hasCells_16 : decode cX5_hasCells 16 = .ok (.iload_n 2, 1) := by decide +kernel
theorem dX5_hasCells_17 : decode cX5_hasCells 17 = .ok (.aload_n 0, 1) := by decide +kernel
theorem dX5_hasCells_18 : decode cX5_hasCells 18 = .ok (.getfield 23, 3) := by decide +kernel
theorem dX5_hasCells_21 : decode cX5_hasCells 21 = .ok (.iload_n 1, 1) := by decide +kernel
theorem dX5_hasCells_22 : decode cX5_hasCells 22 = .ok (.isub, 1) := by decide +kernel
theorem dX5_hasCells_23 : decode cX5_hasCells 23 = .ok (.if_icmp .gt 7, 3) := by decide +kernel
theorem dX5_hasCells_26 : decode cX5_hasCells 26 = .ok (.iconst 1, 1) := by decide +kernel
theorem dX5_hasCells_27 : decode cX5_hasCells 27 = .ok (.goto 4, 3) := by decide +kernel
theorem dX5_hasCells_30 : decode cX5_hasCells 30 = .ok (.iconst 0, 1) := by decide +kernel
theorem dX5_hasCells_31 : decode cX5_hasCells 31 = .ok (.ireturn, 1) := by decide +kernel
theorem dX5_cutToLane_0 : decode cX5_cutToLane 0 = .ok (.aload_n 0, 1) := by decide +kernel
theorem dX5_cutToLane_1 : decode cX5_cutToLane 1 = .ok (.getfield 19, 3) := by decide +kernel
theorem dX5_cutToLane_4 : decode cX5_cutToLane 4 = .ok (.lookupswitch 34 #[(0, 28), (1, 31)], 28) := by decide +kernel
theorem dX5_cutToLane_32 : decode cX5_cutToLane 32 = .ok (.iload_n 1, 1) := by decide +kernel
theorem dX5_cutToLane_33 : decode cX5_cutToLane 33 = .ok (.i2b, 1) := by decide +kernel
theorem dX5_cutToLane_34 : decode cX5_cutToLane 34 = .ok (.ireturn, 1) := by decide +kernel
theorem dX5_cutToLane_35 : decode cX5_cutToLane 35 = .ok (.iload_n 1, 1) := by decide +kernel
theorem dX5_cutToLane_36 : decode cX5_cutToLane 36 = .ok (.i2s, 1) := by decide +kernel
theorem dX5_cutToLane_37 : decode cX5_cutToLane 37 = .ok (.ireturn, 1) := by decide +kernel
theorem dX5_cutToLane_38 : decode cX5_cutToLane 38 = .ok (.iload_n 1, 1) := by decide +kernel
theorem dX5_cutToLane_39 : decode cX5_cutToLane 39 = .ok (.ireturn, 1) := by decide +kernel
theorem dX6_init_0 : decode cX6_init 0 = .ok (.aload_n 0, 1) := by decide +kernel
theorem dX6_init_1 : decode cX6_init 1 = .ok (.invokespecial 3, 3) := by decide +kernel
theorem dX6_init_4 : decode cX6_init 4 = .ok (.aload_n 0, 1) := by decide +kernel
theorem dX6_init_5 : decode cX6_init 5 = .ok (.bipush 50, 2) := by decide +kernel
theorem dX6_init_7 : decode cX6_init 7 = .ok (.newarray .int, 2) := by decide +kernel
theorem dX6_init_9 : decode cX6_init 9 = .ok (.putfield 9, 3) := by decide +kernel
theorem dX6_init_12 : decode cX6_init 12 = .ok (.aload_n 0, 1) := by decide +kernel
theorem dX6_init_13 : decode cX6_init 13 = .ok (.iconst 0, 1) := by decide +kernel
theorem dX6_init_14 : decode cX6_init 14 = .ok (.putfield 15, 3) := by decide +kernel
theorem dX6_init_17 : decode cX6_init 17 = .ok (.aload_n 0, 1) := by decide +kernel
theorem dX6_init_18 : decode cX6_init 18 = .ok (.iconst 0, 1) := by decide +kernel
theorem dX6_init_19 : decode cX6_init 19 = .ok (.putfield 19, 3) := by decide +kernel
theorem dX6_init_22 : decode cX6_init 22 = .ok (.aload_n 0, 1) := by decide +kernel
theorem dX6_init_23 : decode cX6_init 23 = .ok (.iconst 0, 1) := by decide +kernel
theorem dX6_init_24 : decode cX6_init 24 = .ok (.putfield 22, 3) := by decide +kernel
theorem dX6_init_27 : decode cX6_init 27 = .ok (.return_, 1) := by decide +kernel
theorem dX6_take_0 : decode cX6_take 0 = .ok (.aload_n 1, 1) := by decide +kernel
theorem dX6_take_1 : decode cX6_take 1 = .ok (.getfield 25, 3) := by decide +kernel
theorem dX6_take_4 : decode cX6_take 4 = .ok (.iload_n 2, 1) := by decide +kernel
theorem dX6_take_5 : decode cX6_take 5 = .ok (.aload_n 0, 1) := by decide +kernel
theorem dX6_take_6 : decode cX6_take 6 = .ok (.getfield 9, 3) := by decide +kernel
theorem dX6_take_9 : decode cX6_take 9 = .ok (.iconst 0, 1) := by decide +kernel
theorem dX6_take_10 : decode cX6_take 10 = .ok (.iload_n 3, 1) := by decide +kernel
theorem dX6_take_11 : decode cX6_take 11 = .ok (.invokestatic 30, 3) := by decide +kernel
theorem dX6_take_14 : decode cX6_take 14 = .ok (.aload_n 0, 1) := by decide +kernel
theorem dX6_take_15 : decode cX6_take 15 = .ok (.iload_n 3, 1) := by decide +kernel
theorem dX6_take_16 : decode cX6_take 16 = .ok (.putfield 15, 3) := by decide +kernel
theorem dX6_take_19 : decode cX6_take 19 = .ok (.return_, 1) := by decide +kernel
theorem dX6_firstFault_0 : decode cX6_firstFault 0 = .ok (.aload_n 0, 1) := by decide +kernel
theorem dX6_firstFault_1 : decode cX6_firstFault 1 = .ok (.iconst 0, 1) := by decide +kernel
theorem dX6_firstFault_2 : decode cX6_firstFault 2 = .ok (.putfield 19, 3) := by decide +kernel
theorem dX6_firstFault_5 : decode cX6_firstFault 5 = .ok (.aload_n 0, 1) := by decide +kernel
theorem dX6_firstFault_6 : decode cX6_firstFault 6 = .ok (.iconst 0, 1) := by decide +kernel
theorem dX6_firstFault_7 : decode cX6_firstFault 7 = .ok (.putfield 22, 3) := by decide +kernel
theorem dX6_firstFault_10 : decode cX6_firstFault 10 = .ok (.aload_n 0, 1) := by decide +kernel
theorem dX6_firstFault_11 : decode cX6_firstFault 11 = .ok (.iconst 0, 1) := by decide +kernel
theorem dX6_firstFault_12 : decode cX6_firstFault 12 = .ok (.invokevirtual 36, 3) := by decide +kernel
theorem dX6_firstFault_15 : decode cX6_firstFault 15 = .ok (.bipush 107, 2) := by decide +kernel
theorem dX6_firstFault_17 : decode cX6_firstFault 17 = .ok (.if_icmp .eq 5, 3) := by decide +kernel
theorem dX6_firstFault_20 : decode cX6_firstFault 20 = .ok (.iconst 0, 1) := by decide +kernel
theorem dX6_firstFault_21 : decode cX6_firstFault 21 = .ok (.ireturn, 1) := by decide +kernel
theorem dX6_firstFault_22 : decode cX6_firstFault 22 = .ok (.iconst 1, 1) := by decide +kernel
theorem dX6_firstFault_23 : decode cX6_firstFault 23 = .ok (.istore_n 1, 1) := by decide +kernel
theorem dX6_firstFault_24 : decode cX6_firstFault 24 = .ok (.aload_n 0, 1) := by decide +kernel
theorem dX6_firstFault_25 : decode cX6_firstFault 25 = .ok (.getfield 19, 3) := by decide +kernel
theorem dX6_firstFault_28 : decode cX6_firstFault 28 = .ok (.bipush 6, 2) := by decide +kernel
theorem dX6_firstFault_30 : decode cX6_firstFault 30 = .ok (.if_icmp .ge 62, 3) := by decide +kernel
theorem dX6_firstFault_33 : decode cX6_firstFault 33 = .ok (.aload_n 0, 1) := by decide +kernel
theorem dX6_firstFault_34 : decode cX6_firstFault 34 = .ok (.iload_n 1, 1) := by decide +kernel
theorem dX6_firstFault_35 : decode cX6_firstFault 35 = .ok (.invokevirtual 40, 3) := by decide +kernel
theorem dX6_firstFault_38 : decode cX6_firstFault 38 = .ok (.bipush (-9), 2) := by decide +kernel
theorem dX6_firstFault_40 : decode cX6_firstFault 40 = .ok (.if_icmp .eq 52, 3) := by decide +kernel
theorem dX6_firstFault_43 : decode cX6_firstFault 43 = .ok (.aload_n 0, 1) := by decide +kernel
theorem dX6_firstFault_44 : decode cX6_firstFault 44 = .ok (.iload_n 1, 1) := by decide +kernel
theorem dX6_firstFault_45 : decode cX6_firstFault 45 = .ok (.iconst 1, 1) := by decide +kernel
theorem dX6_firstFault_46 : decode cX6_firstFault 46 = .ok (.iadd, 1) := by decide +kernel
theorem dX6_firstFault_47 : decode cX6_firstFault 47 = .ok (.iconst 0, 1) := by decide +kernel
theorem dX6_firstFault_48 : decode cX6_firstFault 48 = .ok (.iconst 5, 1) := by decide +kernel
theorem dX6_firstFault_49 : decode cX6_firstFault 49 = .ok (.invokevirtual 43, 3) := by decide +kernel
theorem dX6_firstFault_52 : decode cX6_firstFault 52 = .ok (.ifCond .ne 7, 3) := by decide +kernel
theorem dX6_firstFault_55 : decode cX6_firstFault 55 = .ok (.iload_n 1, 1) := by decide +kernel
theorem dX6_firstFault_56 : decode cX6_firstFault 56 = .ok (.iconst 1, 1) := by decide +kernel
theorem dX6_firstFault_57 : decode cX6_firstFault 57 = .ok (.iadd, 1) := by decide +kernel
theorem dX6_firstFault_58 : decode cX6_firstFault 58 = .ok (.ireturn, 1) := by decide +kernel
theorem dX6_firstFault_59 : decode cX6_firstFault 59 = .ok (.aload_n 0, 1) := by decide +kernel
theorem dX6_firstFault_60 : decode cX6_firstFault 60 = .ok (.iload_n 1, 1) := by decide +kernel
theorem dX6_firstFault_61 : decode cX6_firstFault 61 = .ok (.iconst 2, 1) := by decide +kernel
theorem dX6_firstFault_62 : decode cX6_firstFault 62 = .ok (.iadd, 1) := by decide +kernel
theorem dX6_firstFault_63 : decode cX6_firstFault 63 = .ok (.iconst 1, 1) := by decide +kernel
theorem dX6_firstFault_64 : decode cX6_firstFault 64 = .ok (.bipush 9, 2) := by decide +kernel
theorem dX6_firstFault_66 : decode cX6_firstFault 66 = .ok (.invokevirtual 43, 3) := by decide +kernel
theorem dX6_firstFault_69 : decode cX6_firstFault 69 = .ok (.ifCond .ne 7, 3) := by decide +kernel
theorem dX6_firstFault_72 : decode cX6_firstFault 72 = .ok (.iload_n 1, 1) := by decide +kernel
theorem dX6_firstFault_73 : decode cX6_firstFault 73 = .ok (.iconst 2, 1) := by decide +kernel
theorem dX6_firstFault_74 : decode cX6_firstFault 74 = .ok (.iadd, 1) := by decide +kernel
theorem dX6_firstFault_75 : decode cX6_firstFault 75 = .ok (.ireturn, 1) := by decide +kernel
theorem dX6_firstFault_76 : decode cX6_firstFault 76 = .ok (.aload_n 0, 1) := by decide +kernel
theorem dX6_firstFault_77 : decode cX6_firstFault 77 = .ok (.dup, 1) := by decide +kernel
theorem dX6_firstFault_78 : decode cX6_firstFault 78 = .ok (.getfield 19, 3) := by decide +kernel
theorem dX6_firstFault_81 : decode cX6_firstFault 81 = .ok (.iconst 1, 1) := by decide +kernel
theorem dX6_firstFault_82 : decode cX6_firstFault 82 = .ok (.iadd, 1) := by decide +kernel
theorem dX6_firstFault_83 : decode cX6_firstFault 83 = .ok (.putfield 19, 3) := by decide +kernel
theorem dX6_firstFault_86 : decode cX6_firstFault 86 = .ok (.iinc 1 3, 3) := by decide +kernel
theorem dX6_firstFault_89 : decode cX6_firstFault 89 = .ok (.goto (-65), 3) := by decide +kernel
theorem dX6_firstFault_92 : decode cX6_firstFault 92 = .ok (.aload_n 0, 1) := by decide +kernel
theorem dX6_firstFault_93 : decode cX6_firstFault 93 = .ok (.getfield 19, 3) := by decide +kernel
theorem dX6_firstFault_96 : decode cX6_firstFault 96 = .ok (.ifCond .ne 5, 3) := by decide +kernel
theorem dX6_firstFault_99 : decode cX6_firstFault 99 = .ok (.iload_n 1, 1) := by decide +kernel
theorem dX6_firstFault_100 : decode cX6_firstFault 100 = .ok (.ireturn, 1) := by decide +kernel
theorem dX6_firstFault_101 : decode cX6_firstFault 101 = .ok (.aload_n 0, 1) := by decide +kernel
theorem dX6_firstFault_102 : decode cX6_firstFault 102 = .ok (.getfield 22, 3) := by decide +kernel
theorem dX6_firstFault_105 : decode cX6_firstFault 105 = .ok (.bipush 6, 2) := by decide +kernel
theorem dX6_firstFault_107 : decode cX6_firstFault 107 = .ok (.if_icmp .ge 78, 3) := by decide +kernel
theorem dX6_firstFault_110 : decode cX6_firstFault 110 = .ok (.aload_n 0, 1) := by decide +kernel
theorem dX6_firstFault_111 : decode cX6_firstFault 111 = .ok (.iload_n 1, 1) := by decide +kernel
theorem dX6_firstFault_112 : decode cX6_firstFault 112 = .ok (.invokevirtual 36, 3) := by decide +kernel
theorem dX6_firstFault_115 : decode cX6_firstFault 115 = .ok (.bipush 59, 2) := by decide +kernel
theorem dX6_firstFault_117 : decode cX6_firstFault 117 = .ok (.if_icmp .ne 68, 3) := by decide +kernel
theorem dX6_firstFault_120 : decode cX6_firstFault 120 = .ok (.aload_n 0, 1) := by decide +kernel
theorem dX6_firstFault_121 : decode cX6_firstFault 121 = .ok (.iload_n 1, 1) := by decide +kernel
theorem dX6_firstFault_122 : decode cX6_firstFault 122 = .ok (.iconst 1, 1) := by decide +kernel
theorem dX6_firstFault_123 : decode cX6_firstFault 123 = .ok (.iadd, 1) := by decide +kernel
theorem dX6_firstFault_124 : decode cX6_firstFault 124 = .ok (.iconst 0, 1) := by decide +kernel
theorem dX6_firstFault_125 : decode cX6_firstFault 125 = .ok (.iconst 5, 1) := by decide +kernel
theorem dX6_firstFault_126 : decode cX6_firstFault 126 = .ok (.invokevirtual 43, 3) := by decide +kernel
theorem dX6_firstFault_129 : decode cX6_firstFault 129 = .ok (.ifCond .ne 7, 3) := by decide +kernel
theorem dX6_firstFault_132 : decode cX6_firstFault 132 = .ok (.iload_n 1, 1) := by decide +kernel
theorem dX6_firstFault_133 : decode cX6_firstFault 133 = .ok (.iconst 1, 1) := by decide +kernel
theorem dX6_firstFault_134 : decode cX6_firstFault 134 = .ok (.iadd, 1) := by decide +kernel
theorem dX6_firstFault_135 : decode cX6_firstFault 135 = .ok (.ireturn, 1) := by decide +kernel
theorem dX6_firstFault_136 : decode cX6_firstFault 136 = .ok (.aload_n 0, 1) := by decide +kernel
theorem dX6_firstFault_137 : decode cX6_firstFault 137 = .ok (.iload_n 1, 1) := by decide +kernel
theorem dX6_firstFault_138 : decode cX6_firstFault 138 = .ok (.iconst 2, 1) := by decide +kernel
theorem dX6_firstFault_139 : decode cX6_firstFault 139 = .ok (.iadd, 1) := by decide +kernel
theorem dX6_firstFault_140 : decode cX6_firstFault 140 = .ok (.iconst 0, 1) := by decide +kernel
theorem dX6_firstFault_141 : decode cX6_firstFault 141 = .ok (.iconst 2, 1) := by decide +kernel
theorem dX6_firstFault_142 : decode cX6_firstFault 142 = .ok (.invokevirtual 43, 3) := by decide +kernel
theorem dX6_firstFault_145 : decode cX6_firstFault 145 = .ok (.ifCond .ne 7, 3) := by decide +kernel
theorem dX6_firstFault_148 : decode cX6_firstFault 148 = .ok (.iload_n 1, 1) := by decide +kernel
theorem dX6_firstFault_149 : decode cX6_firstFault 149 = .ok (.iconst 2, 1) := by decide +kernel
theorem dX6_firstFault_150 : decode cX6_firstFault 150 = .ok (.iadd, 1) := by decide +kernel
theorem dX6_firstFault_151 : decode cX6_firstFault 151 = .ok (.ireturn, 1) := by decide +kernel
theorem dX6_firstFault_152 : decode cX6_firstFault 152 = .ok (.aload_n 0, 1) := by decide +kernel
theorem dX6_firstFault_153 : decode cX6_firstFault 153 = .ok (.iload_n 1, 1) := by decide +kernel
theorem dX6_firstFault_154 : decode cX6_firstFault 154 = .ok (.iconst 3, 1) := by decide +kernel
theorem dX6_firstFault_155 : decode cX6_firstFault 155 = .ok (.iadd, 1) := by decide +kernel
theorem dX6_firstFault_156 : decode cX6_firstFault 156 = .ok (.iconst 0, 1) := by decide +kernel
theorem dX6_firstFault_157 : decode cX6_firstFault 157 = .ok (.bipush 9, 2) := by decide +kernel
theorem dX6_firstFault_159 : decode cX6_firstFault 159 = .ok (.invokevirtual 43, 3) := by decide +kernel
theorem dX6_firstFault_162 : decode cX6_firstFault 162 = .ok (.ifCond .ne 7, 3) := by decide +kernel
theorem dX6_firstFault_165 : decode cX6_firstFault 165 = .ok (.iload_n 1, 1) := by decide +kernel
theorem dX6_firstFault_166 : decode cX6_firstFault 166 = .ok (.iconst 3, 1) := by decide +kernel
theorem dX6_firstFault_167 : decode cX6_firstFault 167 = .ok (.iadd, 1) := by decide +kernel
theorem dX6_firstFault_168 : decode cX6_firstFault 168 = .ok (.ireturn, 1) := by decide +kernel
theorem dX6_firstFault_169 : decode cX6_firstFault 169 = .ok (.aload_n 0, 1) := by decide +kernel
theorem dX6_firstFault_170 : decode cX6_firstFault 170 = .ok (.dup, 1) := by decide +kernel
theorem dX6_firstFault_171 : decode cX6_firstFault 171 = .ok (.getfield 22, 3) := by decide +kernel
theorem dX6_firstFault_174 : decode cX6_firstFault 174 = .ok (.iconst 1, 1) := by decide +kernel
theorem dX6_firstFault_175 : decode cX6_firstFault 175 = .ok (.iadd, 1) := by decide +kernel
theorem dX6_firstFault_176 : decode cX6_firstFault 176 = .ok (.putfield 22, 3) := by decide +kernel
theorem dX6_firstFault_179 : decode cX6_firstFault 179 = .ok (.iinc 1 4, 3) := by decide +kernel
theorem dX6_firstFault_182 : decode cX6_firstFault 182 = .ok (.goto (-81), 3) := by decide +kernel
theorem dX6_firstFault_185 : decode cX6_firstFault 185 = .ok (.aload_n 0, 1) := by decide +kernel
theorem dX6_firstFault_186 : decode cX6_firstFault 186 = .ok (.getfield 22, 3) := by decide +kernel
theorem dX6_firstFault_189 : decode cX6_firstFault 189 = .ok (.ifCond .eq 11, 3) := by decide +kernel
theorem dX6_firstFault_192 : decode cX6_firstFault 192 = .ok (.iload_n 1, 1) := by decide +kernel
theorem dX6_firstFault_193 : decode cX6_firstFault 193 = .ok (.aload_n 0, 1) := by decide +kernel
theorem dX6_firstFault_194 : decode cX6_firstFault 194 = .ok (.getfield 15, 3) := by decide +kernel
theorem dX6_firstFault_197 : decode cX6_firstFault 197 = .ok (.if_icmp .ge 7, 3) := by decide +kernel
theorem dX6_firstFault_200 : decode cX6_firstFault 200 = .ok (.iload_n 1, 1) := by decide +kernel
theorem dX6_firstFault_201 : decode cX6_firstFault 201 = .ok (.goto 4, 3) := by decide +kernel
theorem dX6_firstFault_204 : decode cX6_firstFault 204 = .ok (.iconst (-1), 1) := by decide +kernel
theorem dX6_firstFault_205 : decode cX6_firstFault 205 = .ok (.ireturn, 1) := by decide +kernel
theorem dX6_codeAt_0 : decode cX6_codeAt 0 = .ok (.iload_n 1, 1) := by decide +kernel
theorem dX6_codeAt_1 : decode cX6_codeAt 1 = .ok (.ifCond .lt 20, 3) := by decide +kernel
theorem dX6_codeAt_4 : decode cX6_codeAt 4 = .ok (.iload_n 1, 1) := by decide +kernel
theorem dX6_codeAt_5 : decode cX6_codeAt 5 = .ok (.aload_n 0, 1) := by decide +kernel
theorem dX6_codeAt_6 : decode cX6_codeAt 6 = .ok (.getfield 15, 3) := by decide +kernel
theorem dX6_codeAt_9 : decode cX6_codeAt 9 = .ok (.if_icmp .ge 12, 3) := by decide +kernel
theorem dX6_codeAt_12 : decode cX6_codeAt 12 = .ok (.aload_n 0, 1) := by decide +kernel
theorem dX6_codeAt_13 : decode cX6_codeAt 13 = .ok (.getfield 9, 3) := by decide +kernel
theorem dX6_codeAt_16 : decode cX6_codeAt 16 = .ok (.iload_n 1, 1) := by decide +kernel
theorem dX6_codeAt_17 : decode cX6_codeAt 17 = .ok (.iaload, 1) := by decide +kernel
theorem dX6_codeAt_18 : decode cX6_codeAt 18 = .ok (.goto 5, 3) := by decide +kernel
theorem dX6_codeAt_21 : decode cX6_codeAt 21 = .ok (.bipush (-9), 2) := by decide +kernel
theorem dX6_codeAt_23 : decode cX6_codeAt 23 = .ok (.ireturn, 1) := by decide +kernel
theorem dX6_kindAt_0 : decode cX6_kindAt 0 = .ok (.aload_n 0, 1) := by decide +kernel
theorem dX6_kindAt_1 : decode cX6_kindAt 1 = .ok (.iload_n 1, 1) := by decide +kernel
theorem dX6_kindAt_2 : decode cX6_kindAt 2 = .ok (.invokevirtual 36, 3) := by decide +kernel
theorem dX6_kindAt_5 : decode cX6_kindAt 5 = .ok (.lookupswitch 41 #[(103, 37), (111, 39), (116, 35)], 35) := by decide +kernel
theorem dX6_kindAt_40 : decode cX6_kindAt 40 = .ok (.iconst 0, 1) := by decide +kernel
theorem dX6_kindAt_41 : decode cX6_kindAt 41 = .ok (.ireturn, 1) := by decide +kernel
theorem dX6_kindAt_42 : decode cX6_kindAt 42 = .ok (.iconst 1, 1) := by decide +kernel
theorem dX6_kindAt_43 : decode cX6_kindAt 43 = .ok (.ireturn, 1) := by decide +kernel
theorem dX6_kindAt_44 : decode cX6_kindAt 44 = .ok (.iconst 2, 1) := by decide +kernel
theorem dX6_kindAt_45 : decode cX6_kindAt 45 = .ok (.ireturn, 1) := by decide +kernel
theorem dX6_kindAt_46 : decode cX6_kindAt 46 = .ok (.bipush (-9), 2) := by decide +kernel
theorem dX6_kindAt_48 : decode cX6_kindAt 48 = .ok (.ireturn, 1) := by decide +kernel
theorem dX6_digitAt_0 : decode cX6_digitAt 0 = .ok (.aload_n 0, 1) := by decide +kernel
theorem dX6_digitAt_1 : decode cX6_digitAt 1 = .ok (.iload_n 1, 1) := by decide +kernel
theorem dX6_digitAt_2 : decode cX6_digitAt 2 = .ok (.invokevirtual 36, 3) := by decide +kernel
theorem dX6_digitAt_5 : decode cX6_digitAt 5 = .ok (.bipush 48, 2) := by decide +kernel
theorem dX6_digitAt_7 : decode cX6_digitAt 7 = .ok (.isub, 1) := by decide +kernel
theorem dX6_digitAt_8 : decode cX6_digitAt 8 = .ok (.ireturn, 1) := by decide +kernel
theorem dX6_termAt_0 : decode cX6_termAt 0 = .ok (.bipush 10, 2) := by decide +kernel
theorem dX6_termAt_2 : decode cX6_termAt 2 = .ok (.aload_n 0, 1) := by decide +kernel
theorem dX6_termAt_3 : decode cX6_termAt 3 = .ok (.iload_n 1, 1) := by decide +kernel
theorem dX6_termAt_4 : decode cX6_termAt 4 = .ok (.invokevirtual 47, 3) := by decide +kernel
theorem dX6_termAt_7 : decode cX6_termAt 7 = .ok (.imul, 1) := by decide +kernel
theorem dX6_termAt_8 : decode cX6_termAt 8 = .ok (.aload_n 0, 1) := by decide +kernel
theorem dX6_termAt_9 : decode cX6_termAt 9 = .ok (.iload_n 1, 1) := by decide +kernel
theorem dX6_termAt_10 : decode cX6_termAt 10 = .ok (.iconst 1, 1) := by decide +kernel
theorem dX6_termAt_11 : decode cX6_termAt 11 = .ok (.iadd, 1) := by decide +kernel
theorem dX6_termAt_12 : decode cX6_termAt 12 = .ok (.invokevirtual 47, 3) := by decide +kernel
theorem dX6_termAt_15 : decode cX6_termAt 15 = .ok (.iadd, 1) := by decide +kernel
theorem dX6_termAt_16 : decode cX6_termAt 16 = .ok (.istore_n 2, 1) := by decide +kernel
theorem dX6_termAt_17 : decode cX6_termAt 17 = .ok (.iload_n 2, 1) := by decide +kernel
theorem dX6_termAt_18 : decode cX6_termAt 18 = .ok (.invokestatic 50, 3) := by decide +kernel
theorem dX6_termAt_21 : decode cX6_termAt 21 = .ok (.ifCond .eq 7, 3) := by decide +kernel
theorem dX6_termAt_24 : decode cX6_termAt 24 = .ok (.iload_n 2, 1) := by decide +kernel
theorem dX6_termAt_25 : decode cX6_termAt 25 = .ok (.goto 5, 3) := by decide +kernel
theorem dX6_termAt_28 : decode cX6_termAt 28 = .ok (.bipush 29, 2) := by decide +kernel
theorem dX6_termAt_30 : decode cX6_termAt 30 = .ok (.ireturn, 1) := by decide +kernel
theorem dX6_isDigit_0 : decode cX6_isDigit 0 = .ok (.iload_n 1, 1) := by decide +kernel
theorem dX6_isDigit_1 : decode cX6_isDigit 1 = .ok (.aload_n 0, 1) := by decide +kernel
theorem dX6_isDigit_2 : decode cX6_isDigit 2 = .ok (.getfield 15, 3) := by decide +kernel
theorem dX6_isDigit_5 : decode cX6_isDigit 5 = .ok (.if_icmp .ge 25, 3) := by decide +kernel
theorem dX6_isDigit_8 : decode cX6_isDigit 8 = .ok (.aload_n 0, 1) := by decide +kernel
theorem dX6_isDigit_9 : decode cX6_isDigit 9 = .ok (.iload_n 1, 1) := by decide +kernel
theorem dX6_isDigit_10 : decode cX6_isDigit 10 = .ok (.invokevirtual 47, 3) := by decide +kernel
theorem dX6_isDigit_13 : decode cX6_isDigit 13 = .ok (.iload_n 2, 1) := by decide +kernel
theorem dX6_isDigit_14 : decode cX6_isDigit 14 = .ok (.if_icmp .lt 16, 3) := by decide +kernel
theorem dX6_isDigit_17 : decode cX6_isDigit 17 = .ok (.aload_n 0, 1) := by decide +kernel
theorem dX6_isDigit_18 : decode cX6_isDigit 18 = .ok (.iload_n 1, 1) := by decide +kernel
theorem dX6_isDigit_19 : decode cX6_isDigit 19 = .ok (.invokevirtual 47, 3) := by decide +kernel
theorem dX6_isDigit_22 : decode cX6_isDigit 22 = .ok (.iload_n 3, 1) := by decide +kernel
theorem dX6_isDigit_23 : decode cX6_isDigit 23 = .ok (.if_icmp .gt 7, 3) := by decide +kernel
theorem dX6_isDigit_26 : decode cX6_isDigit 26 = .ok (.iconst 1, 1) := by decide +kernel
theorem dX6_isDigit_27 : decode cX6_isDigit 27 = .ok (.goto 4, 3) := by decide +kernel
theorem dX6_isDigit_30 : decode cX6_isDigit 30 = .ok (.iconst 0, 1) := by decide +kernel
theorem dX6_isDigit_31 : decode cX6_isDigit 31 = .ok (.ireturn, 1) := by decide +kernel
theorem dX7_init_0 : decode cX7_init 0 = .ok (.aload_n 0, 1) := by decide +kernel
theorem dX7_init_1 : decode cX7_init 1 = .ok (.invokespecial 3, 3) := by decide +kernel
theorem dX7_init_4 : decode cX7_init 4 = .ok (.aload_n 0, 1) := by decide +kernel
theorem dX7_init_5 : decode cX7_init 5 = .ok (.bipush 30, 2) := by decide +kernel
theorem dX7_init_7 : decode cX7_init 7 = .ok (.newarray .int, 2) := by decide +kernel
theorem dX7_init_9 : decode cX7_init 9 = .ok (.putfield 9, 3) := by decide +kernel
theorem dX7_init_12 : decode cX7_init 12 = .ok (.aload_n 0, 1) := by decide +kernel
theorem dX7_init_13 : decode cX7_init 13 = .ok (.bipush 30, 2) := by decide +kernel
theorem dX7_init_15 : decode cX7_init 15 = .ok (.newarray .int, 2) := by decide +kernel
theorem dX7_init_17 : decode cX7_init 17 = .ok (.putfield 15, 3) := by decide +kernel
theorem dX7_init_20 : decode cX7_init 20 = .ok (.aload_n 0, 1) := by decide +kernel
theorem dX7_init_21 : decode cX7_init 21 = .ok (.bipush 6, 2) := by decide +kernel
theorem dX7_init_23 : decode cX7_init 23 = .ok (.newarray .int, 2) := by decide +kernel
theorem dX7_init_25 : decode cX7_init 25 = .ok (.putfield 18, 3) := by decide +kernel
theorem dX7_init_28 : decode cX7_init 28 = .ok (.aload_n 0, 1) := by decide +kernel
theorem dX7_init_29 : decode cX7_init 29 = .ok (.bipush 6, 2) := by decide +kernel
theorem dX7_init_31 : decode cX7_init 31 = .ok (.newarray .int, 2) := by decide +kernel
theorem dX7_init_33 : decode cX7_init 33 = .ok (.putfield 21, 3) := by decide +kernel
theorem dX7_init_36 : decode cX7_init 36 = .ok (.aload_n 0, 1) := by decide +kernel
theorem dX7_init_37 : decode cX7_init 37 = .ok (.iconst 0, 1) := by decide +kernel
theorem dX7_init_38 : decode cX7_init 38 = .ok (.putfield 24, 3) := by decide +kernel
theorem dX7_init_41 : decode cX7_init 41 = .ok (.aload_n 0, 1) := by decide +kernel
theorem dX7_init_42 : decode cX7_init 42 = .ok (.iconst 0, 1) := by decide +kernel
theorem dX7_init_43 : decode cX7_init 43 = .ok (.putfield 28, 3) := by decide +kernel
theorem dX7_init_46 : decode cX7_init 46 = .ok (.return_, 1) := by decide +kernel
theorem dX7_clear_0 : decode cX7_clear 0 = .ok (.aload_n 0, 1) := by decide +kernel
theorem dX7_clear_1 : decode cX7_clear 1 = .ok (.getfield 9, 3) := by decide +kernel
theorem dX7_clear_4 : decode cX7_clear 4 = .ok (.iconst 0, 1) := by decide +kernel
theorem dX7_clear_5 : decode cX7_clear 5 = .ok (.invokestatic 31, 3) := by decide +kernel
theorem dX7_clear_8 : decode cX7_clear 8 = .ok (.aload_n 0, 1) := by decide +kernel
theorem dX7_clear_9 : decode cX7_clear 9 = .ok (.getfield 15, 3) := by decide +kernel
theorem dX7_clear_12 : decode cX7_clear 12 = .ok (.bipush (-9), 2) := by decide +kernel
theorem dX7_clear_14 : decode cX7_clear 14 = .ok (.invokestatic 31, 3) := by decide +kernel
theorem dX7_clear_17 : decode cX7_clear 17 = .ok (.aload_n 0, 1) := by decide +kernel
theorem dX7_clear_18 : decode cX7_clear 18 = .ok (.iconst 0, 1) := by decide +kernel
theorem dX7_clear_19 : decode cX7_clear 19 = .ok (.putfield 24, 3) := by decide +kernel
theorem dX7_clear_22 : decode cX7_clear 22 = .ok (.aload_n 0, 1) := by decide +kernel
theorem dX7_clear_23 : decode cX7_clear 23 = .ok (.iconst 0, 1) := by decide +kernel
theorem dX7_clear_24 : decode cX7_clear 24 = .ok (.putfield 28, 3) := by decide +kernel
theorem dX7_clear_27 : decode cX7_clear 27 = .ok (.return_, 1) := by decide +kernel
theorem dX7_addCrow_0 : decode cX7_addCrow 0 = .ok (.aload_n 0, 1) := by decide +kernel
theorem dX7_addCrow_1 : decode cX7_addCrow 1 = .ok (.getfield 18, 3) := by decide +kernel
theorem dX7_addCrow_4 : decode cX7_addCrow 4 = .ok (.aload_n 0, 1) := by decide +kernel
theorem dX7_addCrow_5 : decode cX7_addCrow 5 = .ok (.getfield 28, 3) := by decide +kernel
theorem dX7_addCrow_8 : decode cX7_addCrow 8 = .ok (.iload_n 1, 1) := by decide +kernel
theorem dX7_addCrow_9 : decode cX7_addCrow 9 = .ok (.iastore, 1) := by decide +kernel
theorem dX7_addCrow_10 : decode cX7_addCrow 10 = .ok (.aload_n 0, 1) := by decide +kernel
theorem dX7_addCrow_11 : decode cX7_addCrow 11 = .ok (.getfield 21, 3) := by decide +kernel
theorem dX7_addCrow_14 : decode cX7_addCrow 14 = .ok (.aload_n 0, 1) := by decide +kernel
theorem dX7_addCrow_15 : decode cX7_addCrow 15 = .ok (.getfield 28, 3) := by decide +kernel
theorem dX7_addCrow_18 : decode cX7_addCrow 18 = .ok (.iload_n 2, 1) := by decide +kernel
theorem dX7_addCrow_19 : decode cX7_addCrow 19 = .ok (.iastore, 1) := by decide +kernel
theorem dX7_addCrow_20 : decode cX7_addCrow 20 = .ok (.aload_n 0, 1) := by decide +kernel
theorem dX7_addCrow_21 : decode cX7_addCrow 21 = .ok (.dup, 1) := by decide +kernel
theorem dX7_addCrow_22 : decode cX7_addCrow 22 = .ok (.getfield 28, 3) := by decide +kernel
theorem dX7_addCrow_25 : decode cX7_addCrow 25 = .ok (.iconst 1, 1) := by decide +kernel
theorem dX7_addCrow_26 : decode cX7_addCrow 26 = .ok (.iadd, 1) := by decide +kernel
theorem dX7_addCrow_27 : decode cX7_addCrow 27 = .ok (.putfield 28, 3) := by decide +kernel
theorem dX7_addCrow_30 : decode cX7_addCrow 30 = .ok (.aload_n 0, 1) := by decide +kernel
theorem dX7_addCrow_31 : decode cX7_addCrow 31 = .ok (.getfield 28, 3) := by decide +kernel
theorem dX7_addCrow_34 : decode cX7_addCrow 34 = .ok (.iconst 1, 1) := by decide +kernel
theorem dX7_addCrow_35 : decode cX7_addCrow 35 = .ok (.isub, 1) := by decide +kernel
theorem dX7_addCrow_36 : decode cX7_addCrow 36 = .ok (.ireturn, 1) := by decide +kernel
theorem dX8_init_0 : decode cX8_init 0 = .ok (.aload_n 0, 1) := by decide +kernel
theorem dX8_init_1 : decode cX8_init 1 = .ok (.invokespecial 3, 3) := by decide +kernel
theorem dX8_init_4 : decode cX8_init 4 = .ok (.aload_n 0, 1) := by decide +kernel
theorem dX8_init_5 : decode cX8_init 5 = .ok (.iconst 4, 1) := by decide +kernel
theorem dX8_init_6 : decode cX8_init 6 = .ok (.anewarray 11, 3) := by decide +kernel
theorem dX8_init_9 : decode cX8_init 9 = .ok (.putfield 13, 3) := by decide +kernel
theorem dX8_init_12 : decode cX8_init 12 = .ok (.aload_n 0, 1) := by decide +kernel
theorem dX8_init_13 : decode cX8_init 13 = .ok (.new 17, 3) := by decide +kernel
theorem dX8_init_16 : decode cX8_init 16 = .ok (.dup, 1) := by decide +kernel
theorem dX8_init_17 : decode cX8_init 17 = .ok (.invokespecial 19, 3) := by decide +kernel
theorem dX8_init_20 : decode cX8_init 20 = .ok (.putfield 20, 3) := by decide +kernel
theorem dX8_init_23 : decode cX8_init 23 = .ok (.aload_n 0, 1) := by decide +kernel
theorem dX8_init_24 : decode cX8_init 24 = .ok (.new 24, 3) := by decide +kernel
theorem dX8_init_27 : decode cX8_init 27 = .ok (.dup, 1) := by decide +kernel
theorem dX8_init_28 : decode cX8_init 28 = .ok (.invokespecial 26, 3) := by decide +kernel
theorem dX8_init_31 : decode cX8_init 31 = .ok (.putfield 27, 3) := by decide +kernel
theorem dX8_init_34 : decode cX8_init 34 = .ok (.aload_n 0, 1) := by decide +kernel
theorem dX8_init_35 : decode cX8_init 35 = .ok (.new 31, 3) := by decide +kernel
theorem dX8_init_38 : decode cX8_init 38 = .ok (.dup, 1) := by decide +kernel
theorem dX8_init_39 : decode cX8_init 39 = .ok (.invokespecial 33, 3) := by decide +kernel
theorem dX8_init_42 : decode cX8_init 42 = .ok (.putfield 34, 3) := by decide +kernel
theorem dX8_init_45 : decode cX8_init 45 = .ok (.aload_n 0, 1) := by decide +kernel
theorem dX8_init_46 : decode cX8_init 46 = .ok (.new 38, 3) := by decide +kernel
theorem dX8_init_49 : decode cX8_init 49 = .ok (.dup, 1) := by decide +kernel
theorem dX8_init_50 : decode cX8_init 50 = .ok (.invokespecial 40, 3) := by decide +kernel
theorem dX8_init_53 : decode cX8_init 53 = .ok (.putfield 41, 3) := by decide +kernel
theorem dX8_init_56 : decode cX8_init 56 = .ok (.aload_n 0, 1) := by decide +kernel
theorem dX8_init_57 : decode cX8_init 57 = .ok (.iconst 0, 1) := by decide +kernel
theorem dX8_init_58 : decode cX8_init 58 = .ok (.putfield 45, 3) := by decide +kernel
theorem dX8_init_61 : decode cX8_init 61 = .ok (.new 49, 3) := by decide +kernel
theorem dX8_init_64 : decode cX8_init 64 = .ok (.dup, 1) := by decide +kernel
theorem dX8_init_65 : decode cX8_init 65 = .ok (.invokespecial 51, 3) := by decide +kernel
theorem dX8_init_68 : decode cX8_init 68 = .ok (.astore_n 1, 1) := by decide +kernel
theorem dX8_init_69 : decode cX8_init 69 = .ok (.new 52, 3) := by decide +kernel
theorem dX8_init_72 : decode cX8_init 72 = .ok (.dup, 1) := by decide +kernel
theorem dX8_init_73 : decode cX8_init 73 = .ok (.aload_n 1, 1) := by decide +kernel
theorem dX8_init_74 : decode cX8_init 74 = .ok (.invokespecial 54, 3) := by decide +kernel
theorem dX8_init_77 : decode cX8_init 77 = .ok (.astore_n 2, 1) := by decide +kernel
theorem dX8_init_78 : decode cX8_init 78 = .ok (.aload_n 0, 1) := by decide +kernel
theorem dX8_init_79 : decode cX8_init 79 = .ok (.aload_n 1, 1) := by decide +kernel
theorem dX8_init_80 : decode cX8_init 80 = .ok (.putfield 57, 3) := by decide +kernel
theorem dX8_init_83 : decode cX8_init 83 = .ok (.aload_n 0, 1) := by decide +kernel
theorem dX8_init_84 : decode cX8_init 84 = .ok (.aload_n 2, 1) := by decide +kernel
theorem dX8_init_85 : decode cX8_init 85 = .ok (.putfield 61, 3) := by decide +kernel
theorem dX8_init_88 : decode cX8_init 88 = .ok (.aload_n 0, 1) := by decide +kernel
theorem dX8_init_89 : decode cX8_init 89 = .ok (.new 65, 3) := by decide +kernel
theorem dX8_init_92 : decode cX8_init 92 = .ok (.dup, 1) := by decide +kernel
theorem dX8_init_93 : decode cX8_init 93 = .ok (.aload_n 1, 1) := by decide +kernel
theorem dX8_init_94 : decode cX8_init 94 = .ok (.aload_n 2, 1) := by decide +kernel
theorem dX8_init_95 : decode cX8_init 95 = .ok (.invokespecial 67, 3) := by decide +kernel
theorem dX8_init_98 : decode cX8_init 98 = .ok (.putfield 70, 3) := by decide +kernel
theorem dX8_init_101 : decode cX8_init 101 = .ok (.iconst 0, 1) := by decide +kernel
theorem dX8_init_102 : decode cX8_init 102 = .ok (.istore_n 3, 1) := by decide +kernel
theorem dX8_init_103 : decode cX8_init 103 = .ok (.iload_n 3, 1) := by decide +kernel
theorem dX8_init_104 : decode cX8_init 104 = .ok (.iconst 4, 1) := by decide +kernel
theorem dX8_init_105 : decode cX8_init 105 = .ok (.if_icmp .ge 22, 3) := by decide +kernel
theorem dX8_init_108 : decode cX8_init 108 = .ok (.aload_n 0, 1) := by decide +kernel
theorem dX8_init_109 : decode cX8_init 109 = .ok (.getfield 13, 3) := by decide +kernel
theorem dX8_init_112 : decode cX8_init 112 = .ok (.iload_n 3, 1) := by decide +kernel
theorem dX8_init_113 : decode cX8_init 113 = .ok (.new 11, 3) := by decide +kernel
theorem dX8_init_116 : decode cX8_init 116 = .ok (.dup, 1) := by decide +kernel
theorem dX8_init_117 : decode cX8_init 117 = .ok (.invokespecial 74, 3) := by decide +kernel
theorem dX8_init_120 : decode cX8_init 120 = .ok (.aastore, 1) := by decide +kernel
theorem dX8_init_121 : decode cX8_init 121 = .ok (.iinc 3 1, 3) := by decide +kernel
theorem dX8_init_124 : decode cX8_init 124 = .ok (.goto (-21), 3) := by decide +kernel
theorem dX8_init_127 : decode cX8_init 127 = .ok (.return_, 1) := by decide +kernel
theorem dX8_orchard_0 : decode cX8_orchard 0 = .ok (.aload_n 0, 1) := by decide +kernel
theorem dX8_orchard_1 : decode cX8_orchard 1 = .ok (.iconst 0, 1) := by decide +kernel
theorem dX8_orchard_2 : decode cX8_orchard 2 = .ok (.putfield 45, 3) := by decide +kernel
theorem dX8_orchard_5 : decode cX8_orchard 5 = .ok (.aload_n 0, 1) := by decide +kernel
theorem dX8_orchard_6 : decode cX8_orchard 6 = .ok (.iload_n 1, 1) := by decide +kernel
theorem dX8_orchard_7 : decode cX8_orchard 7 = .ok (.invokevirtual 75, 3) := by decide +kernel
theorem dX8_orchard_10 : decode cX8_orchard 10 = .ok (.astore 5, 2) := by decide +kernel
theorem dX8_orchard_12 : decode cX8_orchard 12 = .ok (.aload 5, 2) := by decide +kernel
theorem dX8_orchard_14 : decode cX8_orchard 14 = .ok (.ifnonnull 5, 3) := by decide +kernel
theorem dX8_orchard_17 : decode cX8_orchard 17 = .ok (.iconst (-1), 1) := by decide +kernel
theorem dX8_orchard_18 : decode cX8_orchard 18 = .ok (.ireturn, 1) := by decide +kernel
theorem dX8_orchard_19 : decode cX8_orchard 19 = .ok (.iload_n 2, 1) := by decide +kernel
theorem dX8_orchard_20 : decode cX8_orchard 20 = .ok (.invokestatic 79, 3) := by decide +kernel
theorem dX8_orchard_23 : decode cX8_orchard 23 = .ok (.ifCond .ne 6, 3) := by decide +kernel
theorem dX8_orchard_26 : decode cX8_orchard 26 = .ok (.bipush (-2), 2) := by decide +kernel
theorem dX8_orchard_28 : decode cX8_orchard 28 = .ok (.ireturn, 1) := by decide +kernel
theorem dX8_orchard_29 : decode cX8_orchard 29 = .ok (.aload 5, 2) := by decide +kernel
theorem dX8_orchard_31 : decode cX8_orchard 31 = .ok (.iload_n 2, 1) := by decide +kernel
theorem dX8_orchard_32 : decode cX8_orchard 32 = .ok (.invokevirtual 83, 3) := by decide +kernel
theorem dX8_orchard_35 : decode cX8_orchard 35 = .ok (.ifCond .eq 9, 3) := by decide +kernel
theorem dX8_orchard_38 : decode cX8_orchard 38 = .ok (.aload_n 0, 1) := by decide +kernel
theorem dX8_orchard_39 : decode cX8_orchard 39 = .ok (.iconst 2, 1) := by decide +kernel
theorem dX8_orchard_40 : decode cX8_orchard 40 = .ok (.invokevirtual 86, 3) := by decide +kernel
theorem dX8_orchard_43 : decode cX8_orchard 43 = .ok (.ireturn, 1) := by decide +kernel
theorem dX8_orchard_44 : decode cX8_orchard 44 = .ok (.aload 5, 2) := by decide +kernel
theorem dX8_orchard_46 : decode cX8_orchard 46 = .ok (.getfield 90, 3) := by decide +kernel
theorem dX8_orchard_49 : decode cX8_orchard 49 = .ok (.ifCond .ne 9, 3) := by decide +kernel
theorem dX8_orchard_52 : decode cX8_orchard 52 = .ok (.aload_n 0, 1) := by decide +kernel
theorem dX8_orchard_53 : decode cX8_orchard 53 = .ok (.iconst 1, 1) := by decide +kernel
theorem dX8_orchard_54 : decode cX8_orchard 54 = .ok (.invokevirtual 86, 3) := by decide +kernel
theorem dX8_orchard_57 : decode cX8_orchard 57 = .ok (.ireturn, 1) := by decide +kernel
theorem dX8_orchard_58 : decode cX8_orchard 58 = .ok (.iload 4, 2) := by decide +kernel
theorem dX8_orchard_60 : decode cX8_orchard 60 = .ok (.ifCond .ge 9, 3) := by decide +kernel
theorem dX8_orchard_63 : decode cX8_orchard 63 = .ok (.aload_n 0, 1) := by decide +kernel
theorem dX8_orchard_64 : decode cX8_orchard 64 = .ok (.iconst 4, 1) := by decide +kernel
theorem dX8_orchard_65 : decode cX8_orchard 65 = .ok (.invokevirtual 86, 3) := by decide +kernel
theorem dX8_orchard_68 : decode cX8_orchard 68 = .ok (.ireturn, 1) := by decide +kernel
theorem dX8_orchard_69 : decode cX8_orchard 69 = .ok (.aload 5, 2) := by decide +kernel
theorem dX8_orchard_71 : decode cX8_orchard 71 = .ok (.iload_n 3, 1) := by decide +kernel
theorem dX8_orchard_72 : decode cX8_orchard 72 = .ok (.iload 4, 2) := by decide +kernel
theorem dX8_orchard_74 : decode cX8_orchard 74 = .ok (.invokevirtual 94, 3) := by decide +kernel
theorem dX8_orchard_77 : decode cX8_orchard 77 = .ok (.ifCond .ne 9, 3) := by decide +kernel
theorem dX8_orchard_80 : decode cX8_orchard 80 = .ok (.aload_n 0, 1) := by decide +kernel
theorem dX8_orchard_81 : decode cX8_orchard 81 = .ok (.iconst 3, 1) := by decide +kernel
theorem dX8_orchard_82 : decode cX8_orchard 82 = .ok (.invokevirtual 86, 3) := by decide +kernel
theorem dX8_orchard_85 : decode cX8_orchard 85 = .ok (.ireturn, 1) := by decide +kernel
theorem dX8_orchard_86 : decode cX8_orchard 86 = .ok (.aload_n 0, 1) := by decide +kernel
theorem dX8_orchard_87 : decode cX8_orchard 87 = .ok (.getfield 20, 3) := by decide +kernel
theorem dX8_orchard_90 : decode cX8_orchard 90 = .ok (.aload 5, 2) := by decide +kernel
theorem dX8_orchard_92 : decode cX8_orchard 92 = .ok (.iload_n 3, 1) := by decide +kernel
theorem dX8_orchard_93 : decode cX8_orchard 93 = .ok (.iload 4, 2) := by decide +kernel
theorem dX8_orchard_95 : decode cX8_orchard 95 = .ok (.invokevirtual 98, 3) := by decide +kernel
theorem dX8_orchard_98 : decode cX8_orchard 98 = .ok (.aload_n 0, 1) := by decide +kernel
theorem dX8_orchard_99 : decode cX8_orchard 99 = .ok (.getfield 20, 3) := by decide +kernel
theorem dX8_orchard_102 : decode cX8_orchard 102 = .ok (.invokevirtual 102, 3) := by decide +kernel
theorem dX8_orchard_105 : decode cX8_orchard 105 = .ok (.istore 6, 2) := by decide +kernel
theorem dX8_orchard_107 : decode cX8_orchard 107 = .ok (.iload 6, 2) := by decide +kernel
theorem dX8_orchard_109 : decode cX8_orchard 109 = .ok (.iconst (-1), 1) := by decide +kernel
theorem dX8_orchard_110 : decode cX8_orchard 110 = .ok (.if_icmp .eq 9, 3) := by decide +kernel
theorem dX8_orchard_113 : decode cX8_orchard 113 = .ok (.bipush (-100), 2) := by decide +kernel
theorem dX8_orchard_115 : decode cX8_orchard 115 = .ok (.iload 6, 2) := by decide +kernel
theorem dX8_orchard_117 : decode cX8_orchard 117 = .ok (.isub, 1) := by decide +kernel
theorem dX8_orchard_118 : decode cX8_orchard 118 = .ok (.ireturn, 1) := by decide +kernel
theorem dX8_orchard_119 : decode cX8_orchard 119 = .ok (.aload_n 0, 1) := by decide +kernel
theorem dX8_orchard_120 : decode cX8_orchard 120 = .ok (.getfield 57, 3) := by decide +kernel
theorem dX8_orchard_123 : decode cX8_orchard 123 = .ok (.aload_n 0, 1) := by decide +kernel
theorem dX8_orchard_124 : decode cX8_orchard 124 = .ok (.getfield 20, 3) := by decide +kernel
theorem dX8_orchard_127 : decode cX8_orchard 127 = .ok (.invokevirtual 106, 3) := by decide +kernel
theorem dX8_orchard_130 : decode cX8_orchard 130 = .ok (.aload_n 0, 1) := by decide +kernel
theorem dX8_orchard_131 : decode cX8_orchard 131 = .ok (.getfield 27, 3) := by decide +kernel
theorem dX8_orchard_134 : decode cX8_orchard 134 = .ok (.invokevirtual 110, 3) := by decide +kernel
theorem dX8_orchard_137 : decode cX8_orchard 137 = .ok (.aload_n 0, 1) := by decide +kernel
theorem dX8_orchard_138 : decode cX8_orchard 138 = .ok (.getfield 34, 3) := by decide +kernel
theorem dX8_orchard_141 : decode cX8_orchard 141 = .ok (.iconst 0, 1) := by decide +kernel
theorem dX8_orchard_142 : decode cX8_orchard 142 = .ok (.putfield 113, 3) := by decide +kernel
theorem dX8_orchard_145 : decode cX8_orchard 145 = .ok (.aload_n 0, 1) := by decide +kernel
theorem dX8_orchard_146 : decode cX8_orchard 146 = .ok (.getfield 57, 3) := by decide +kernel
theorem dX8_orchard_149 : decode cX8_orchard 149 = .ok (.getfield 116, 3) := by decide +kernel
theorem dX8_orchard_152 : decode cX8_orchard 152 = .ok (.ireturn, 1) := by decide +kernel
theorem dX8_ofTree_0 : decode cX8_ofTree 0 = .ok (.aload_n 0, 1) := by decide +kernel
theorem dX8_ofTree_1 : decode cX8_ofTree 1 = .ok (.getfield 57, 3) := by decide +kernel
theorem dX8_ofTree_4 : decode cX8_ofTree 4 = .ok (.iload_n 1, 1) := by decide +kernel
theorem dX8_ofTree_5 : decode cX8_ofTree 5 = .ok (.invokevirtual 119, 3) := by decide +kernel
theorem dX8_ofTree_8 : decode cX8_ofTree 8 = .ok (.ifCond .ne 5, 3) := by decide +kernel
theorem dX8_ofTree_11 : decode cX8_ofTree 11 = .ok (.iconst (-1), 1) := by decide +kernel
theorem dX8_ofTree_12 : decode cX8_ofTree 12 = .ok (.ireturn, 1) := by decide +kernel
theorem dX8_ofTree_13 : decode cX8_ofTree 13 = .ok (.iload_n 2, 1) := by decide +kernel
theorem dX8_ofTree_14 : decode cX8_ofTree 14 = .ok (.tableswitch 107 0 5 #[38, 48, 58, 68, 78, 87], 38) := by decide +kernel
theorem dX8_ofTree_52 : decode cX8_ofTree 52 = .ok (.aload_n 0, 1) := by decide +kernel
theorem dX8_ofTree_53 : decode cX8_ofTree 53 = .ok (.getfield 57, 3) := by decide +kernel
theorem dX8_ofTree_56 : decode cX8_ofTree 56 = .ok (.getfield 122, 3) := by decide +kernel
theorem dX8_ofTree_59 : decode cX8_ofTree 59 = .ok (.iload_n 1, 1) := by decide +kernel
theorem dX8_ofTree_60 : decode cX8_ofTree 60 = .ok (.iaload, 1) := by decide +kernel
theorem dX8_ofTree_61 : decode cX8_ofTree 61 = .ok (.ireturn, 1) := by decide +kernel
theorem dX8_ofTree_62 : decode cX8_ofTree 62 = .ok (.aload_n 0, 1) := by decide +kernel
theorem dX8_ofTree_63 : decode cX8_ofTree 63 = .ok (.getfield 57, 3) := by decide +kernel
theorem dX8_ofTree_66 : decode cX8_ofTree 66 = .ok (.getfield 126, 3) := by decide +kernel
theorem dX8_ofTree_69 : decode cX8_ofTree 69 = .ok (.iload_n 1, 1) := by decide +kernel
theorem dX8_ofTree_70 : decode cX8_ofTree 70 = .ok (.iaload, 1) := by decide +kernel
theorem dX8_ofTree_71 : decode cX8_ofTree 71 = .ok (.ireturn, 1) := by decide +kernel
theorem dX8_ofTree_72 : decode cX8_ofTree 72 = .ok (.aload_n 0, 1) := by decide +kernel
theorem dX8_ofTree_73 : decode cX8_ofTree 73 = .ok (.getfield 57, 3) := by decide +kernel
theorem dX8_ofTree_76 : decode cX8_ofTree 76 = .ok (.getfield 129, 3) := by decide +kernel
theorem dX8_ofTree_79 : decode cX8_ofTree 79 = .ok (.iload_n 1, 1) := by decide +kernel
theorem dX8_ofTree_80 : decode cX8_ofTree 80 = .ok (.iaload, 1) := by decide +kernel
theorem dX8_ofTree_81 : decode cX8_ofTree 81 = .ok (.ireturn, 1) := by decide +kernel
theorem dX8_ofTree_82 : decode cX8_ofTree 82 = .ok (.aload_n 0, 1) := by decide +kernel
theorem dX8_ofTree_83 : decode cX8_ofTree 83 = .ok (.getfield 57, 3) := by decide +kernel
theorem dX8_ofTree_86 : decode cX8_ofTree 86 = .ok (.getfield 132, 3) := by decide +kernel
theorem dX8_ofTree_89 : decode cX8_ofTree 89 = .ok (.iload_n 1, 1) := by decide +kernel
theorem dX8_ofTree_90 : decode cX8_ofTree 90 = .ok (.iaload, 1) := by decide +kernel
theorem dX8_ofTree_91 : decode cX8_ofTree 91 = .ok (.ireturn, 1) := by decide +kernel
theorem dX8_ofTree_92 : decode cX8_ofTree 92 = .ok (.aload_n 0, 1) := by decide +kernel
theorem dX8_ofTree_93 : decode cX8_ofTree 93 = .ok (.getfield 57, 3) := by decide +kernel
theorem dX8_ofTree_96 : decode cX8_ofTree 96 = .ok (.iload_n 1, 1) := by decide +kernel
theorem dX8_ofTree_97 : decode cX8_ofTree 97 = .ok (.invokevirtual 135, 3) := by decide +kernel
theorem dX8_ofTree_100 : decode cX8_ofTree 100 = .ok (.ireturn, 1) := by decide +kernel
theorem dX8_ofTree_101 : decode cX8_ofTree 101 = .ok (.aload_n 0, 1) := by decide +kernel
theorem dX8_ofTree_102 : decode cX8_ofTree 102 = .ok (.getfield 57, 3) := by decide +kernel
theorem dX8_ofTree_105 : decode cX8_ofTree 105 = .ok (.getfield 138, 3) := by decide +kernel
theorem dX8_ofTree_108 : decode cX8_ofTree 108 = .ok (.iload_n 1, 1) := by decide +kernel
theorem dX8_ofTree_109 : decode cX8_ofTree 109 = .ok (.invokestatic 141, 3) := by decide +kernel
theorem dX8_ofTree_112 : decode cX8_ofTree 112 = .ok (.ifCond .eq 7, 3) := by decide +kernel
theorem dX8_ofTree_115 : decode cX8_ofTree 115 = .ok (.iconst 1, 1) := by decide +kernel
theorem dX8_ofTree_116 : decode cX8_ofTree 116 = .ok (.goto 4, 3) := by decide +kernel
theorem dX8_ofTree_119 : decode cX8_ofTree 119 = .ok (.iconst 0, 1) := by decide +kernel
theorem dX8_ofTree_120 : decode cX8_ofTree 120 = .ok (.ireturn, 1) := by decide +kernel
theorem dX8_ofTree_121 : decode cX8_ofTree 121 = .ok (.bipush (-2), 2) := by decide +kernel
theorem dX8_ofTree_123 : decode cX8_ofTree 123 = .ok (.ireturn, 1) := by decide +kernel
theorem dX8_ofPrisoner_0 : decode cX8_ofPrisoner 0 = .ok (.aload_n 0, 1) := by decide +kernel
theorem dX8_ofPrisoner_1 : decode cX8_ofPrisoner 1 = .ok (.getfield 57, 3) := by decide +kernel
theorem dX8_ofPrisoner_4 : decode cX8_ofPrisoner 4 = .ok (.iload_n 1, 1) := by decide +kernel
theorem dX8_ofPrisoner_5 : decode cX8_ofPrisoner 5 = .ok (.invokevirtual 144, 3) := by decide +kernel
theorem dX8_ofPrisoner_8 : decode cX8_ofPrisoner 8 = .ok (.ifCond .ne 5, 3) := by decide +kernel
theorem dX8_ofPrisoner_11 : decode cX8_ofPrisoner 11 = .ok (.iconst (-1), 1) := by decide +kernel
theorem dX8_ofPrisoner_12 : decode cX8_ofPrisoner 12 = .ok (.ireturn, 1) := by decide +kernel
theorem dX8_ofPrisoner_13 : decode cX8_ofPrisoner 13 = .ok (.iload_n 2, 1) := by decide +kernel
theorem dX8_ofPrisoner_14 : decode cX8_ofPrisoner 14 = .ok (.lookupswitch 46 #[(0, 26), (1, 36)], 26) := by decide +kernel
theorem dX8_ofPrisoner_40 : decode cX8_ofPrisoner 40 = .ok (.aload_n 0, 1) := by decide +kernel
theorem dX8_ofPrisoner_41 : decode cX8_ofPrisoner 41 = .ok (.getfield 57, 3) := by decide +kernel
theorem dX8_ofPrisoner_44 : decode cX8_ofPrisoner 44 = .ok (.getfield 147, 3) := by decide +kernel
theorem dX8_ofPrisoner_47 : decode cX8_ofPrisoner 47 = .ok (.iload_n 1, 1) := by decide +kernel
theorem dX8_ofPrisoner_48 : decode cX8_ofPrisoner 48 = .ok (.iaload, 1) := by decide +kernel
theorem dX8_ofPrisoner_49 : decode cX8_ofPrisoner 49 = .ok (.ireturn, 1) := by decide +kernel
theorem dX8_ofPrisoner_50 : decode cX8_ofPrisoner 50 = .ok (.aload_n 0, 1) := by decide +kernel
theorem dX8_ofPrisoner_51 : decode cX8_ofPrisoner 51 = .ok (.getfield 57, 3) := by decide +kernel
theorem dX8_ofPrisoner_54 : decode cX8_ofPrisoner 54 = .ok (.getfield 150, 3) := by decide +kernel
theorem dX8_ofPrisoner_57 : decode cX8_ofPrisoner 57 = .ok (.iload_n 1, 1) := by decide +kernel
theorem dX8_ofPrisoner_58 : decode cX8_ofPrisoner 58 = .ok (.iaload, 1) := by decide +kernel
theorem dX8_ofPrisoner_59 : decode cX8_ofPrisoner 59 = .ok (.ireturn, 1) := by decide +kernel
theorem dX8_ofPrisoner_60 : decode cX8_ofPrisoner 60 = .ok (.bipush (-2), 2) := by decide +kernel
theorem dX8_ofPrisoner_62 : decode cX8_ofPrisoner 62 = .ok (.ireturn, 1) := by decide +kernel
theorem dX8_rain_0 : decode cX8_rain 0 = .ok (.iload_n 1, 1) := by decide +kernel
theorem dX8_rain_1 : decode cX8_rain 1 = .ok (.invokestatic 153, 3) := by decide +kernel
theorem dX8_rain_4 : decode cX8_rain 4 = .ok (.ifCond .ne 5, 3) := by decide +kernel
theorem dX8_rain_7 : decode cX8_rain 7 = .ok (.iconst (-1), 1) := by decide +kernel
theorem dX8_rain_8 : decode cX8_rain 8 = .ok (.ireturn, 1) := by decide +kernel
theorem dX8_rain_9 : decode cX8_rain 9 = .ok (.iload_n 2, 1) := by decide +kernel
theorem dX8_rain_10 : decode cX8_rain 10 = .ok (.ifCond .lt 9, 3) := by decide +kernel
theorem dX8_rain_13 : decode cX8_rain 13 = .ok (.iload_n 2, 1) := by decide +kernel
theorem dX8_rain_14 : decode cX8_rain 14 = .ok (.bipush 9, 2) := by decide +kernel
theorem dX8_rain_16 : decode cX8_rain 16 = .ok (.if_icmp .le 6, 3) := by decide +kernel
theorem dX8_rain_19 : decode cX8_rain 19 = .ok (.bipush (-2), 2) := by decide +kernel
theorem dX8_rain_21 : decode cX8_rain 21 = .ok (.ireturn, 1) := by decide +kernel
theorem dX8_rain_22 : decode cX8_rain 22 = .ok (.aload_n 0, 1) := by decide +kernel
theorem dX8_rain_23 : decode cX8_rain 23 = .ok (.getfield 57, 3) := by decide +kernel
theorem dX8_rain_26 : decode cX8_rain 26 = .ok (.invokevirtual 156, 3) := by decide +kernel
theorem dX8_rain_29 : decode cX8_rain 29 = .ok (.ifCond .ne 6, 3) := by decide +kernel
theorem dX8_rain_32 : decode cX8_rain 32 = .ok (.bipush (-3), 2) := by decide +kernel
theorem dX8_rain_34 : decode cX8_rain 34 = .ok (.ireturn, 1) := by decide +kernel
theorem dX8_rain_35 : decode cX8_rain 35 = .ok (.aload_n 0, 1) := by decide +kernel
theorem dX8_rain_36 : decode cX8_rain 36 = .ok (.getfield 27, 3) := by decide +kernel
theorem dX8_rain_39 : decode cX8_rain 39 = .ok (.getfield 160, 3) := by decide +kernel
theorem dX8_rain_42 : decode cX8_rain 42 = .ok (.iload_n 1, 1) := by decide +kernel
theorem dX8_rain_43 : decode cX8_rain 43 = .ok (.iaload, 1) := by decide +kernel
theorem dX8_rain_44 : decode cX8_rain 44 = .ok (.istore_n 3, 1) := by decide +kernel
theorem dX8_rain_45 : decode cX8_rain 45 = .ok (.aload_n 0, 1) := by decide +kernel
theorem dX8_rain_46 : decode cX8_rain 46 = .ok (.getfield 27, 3) := by decide +kernel
theorem dX8_rain_49 : decode cX8_rain 49 = .ok (.getfield 160, 3) := by decide +kernel
theorem dX8_rain_52 : decode cX8_rain 52 = .ok (.iload_n 1, 1) := by decide +kernel
theorem dX8_rain_53 : decode cX8_rain 53 = .ok (.iload_n 2, 1) := by decide +kernel
theorem dX8_rain_54 : decode cX8_rain 54 = .ok (.iastore, 1) := by decide +kernel
theorem dX8_rain_55 : decode cX8_rain 55 = .ok (.iload_n 3, 1) := by decide +kernel
theorem dX8_rain_56 : decode cX8_rain 56 = .ok (.ireturn, 1) := by decide +kernel
theorem dX8_water_0 : decode cX8_water 0 = .ok (.iload_n 1, 1) := by decide +kernel
theorem dX8_water_1 : decode cX8_water 1 = .ok (.invokestatic 153, 3) := by decide +kernel
theorem dX8_water_4 : decode cX8_water 4 = .ok (.ifCond .eq 20, 3) := by decide +kernel
theorem dX8_water_7 : decode cX8_water 7 = .ok (.iload_n 2, 1) := by decide +kernel
theorem dX8_water_8 : decode cX8_water 8 = .ok (.bipush (-9), 2) := by decide +kernel
theorem dX8_water_10 : decode cX8_water 10 = .ok (.if_icmp .eq 16, 3) := by decide +kernel
theorem dX8_water_13 : decode cX8_water 13 = .ok (.aload_n 0, 1) := by decide +kernel
theorem dX8_water_14 : decode cX8_water 14 = .ok (.getfield 57, 3) := by decide +kernel
theorem dX8_water_17 : decode cX8_water 17 = .ok (.iload_n 2, 1) := by decide +kernel
theorem dX8_water_18 : decode cX8_water 18 = .ok (.invokevirtual 119, 3) := by decide +kernel
theorem dX8_water_21 : decode cX8_water 21 = .ok (.ifCond .ne 5, 3) := by decide +kernel
theorem dX8_water_24 : decode cX8_water 24 = .ok (.iconst (-1), 1) := by decide +kernel
theorem dX8_water_25 : decode cX8_water 25 = .ok (.ireturn, 1) := by decide +kernel
theorem dX8_water_26 : decode cX8_water 26 = .ok (.aload_n 0, 1) := by decide +kernel
theorem dX8_water_27 : decode cX8_water 27 = .ok (.getfield 57, 3) := by decide +kernel
theorem dX8_water_30 : decode cX8_water 30 = .ok (.invokevirtual 156, 3) := by decide +kernel
theorem dX8_water_33 : decode cX8_water 33 = .ok (.ifCond .ne 6, 3) := by decide +kernel
theorem dX8_water_36 : decode cX8_water 36 = .ok (.bipush (-3), 2) := by decide +kernel
theorem dX8_water_38 : decode cX8_water 38 = .ok (.ireturn, 1) := by decide +kernel
theorem dX8_water_39 : decode cX8_water 39 = .ok (.aload_n 0, 1) := by decide +kernel
theorem dX8_water_40 : decode cX8_water 40 = .ok (.getfield 27, 3) := by decide +kernel
theorem dX8_water_43 : decode cX8_water 43 = .ok (.getfield 163, 3) := by decide +kernel
theorem dX8_water_46 : decode cX8_water 46 = .ok (.iload_n 1, 1) := by decide +kernel
theorem dX8_water_47 : decode cX8_water 47 = .ok (.iaload, 1) := by decide +kernel
theorem dX8_water_48 : decode cX8_water 48 = .ok (.istore_n 3, 1) := by decide +kernel
theorem dX8_water_49 : decode cX8_water 49 = .ok (.aload_n 0, 1) := by decide +kernel
theorem dX8_water_50 : decode cX8_water 50 = .ok (.getfield 27, 3) := by decide +kernel
theorem dX8_water_53 : decode cX8_water 53 = .ok (.getfield 163, 3) := by decide +kernel
theorem dX8_water_56 : decode cX8_water 56 = .ok (.iload_n 1, 1) := by decide +kernel
theorem dX8_water_57 : decode cX8_water 57 = .ok (.iload_n 2, 1) := by decide +kernel
theorem dX8_water_58 : decode cX8_water 58 = .ok (.iastore, 1) := by decide +kernel
theorem dX8_water_59 : decode cX8_water 59 = .ok (.iload_n 3, 1) := by decide +kernel
theorem dX8_water_60 : decode cX8_water 60 = .ok (.ireturn, 1) := by decide +kernel
theorem dX8_frost_0 : decode cX8_frost 0 = .ok (.iload_n 1, 1) := by decide +kernel
theorem dX8_frost_1 : decode cX8_frost 1 = .ok (.invokestatic 153, 3) := by decide +kernel
theorem dX8_frost_4 : decode cX8_frost 4 = .ok (.ifCond .ne 5, 3) := by decide +kernel
theorem dX8_frost_7 : decode cX8_frost 7 = .ok (.iconst (-1), 1) := by decide +kernel
theorem dX8_frost_8 : decode cX8_frost 8 = .ok (.ireturn, 1) := by decide +kernel
theorem dX8_frost_9 : decode cX8_frost 9 = .ok (.aload_n 0, 1) := by decide +kernel
theorem dX8_frost_10 : decode cX8_frost 10 = .ok (.getfield 57, 3) := by decide +kernel
theorem dX8_frost_13 : decode cX8_frost 13 = .ok (.invokevirtual 156, 3) := by decide +kernel
theorem dX8_frost_16 : decode cX8_frost 16 = .ok (.ifCond .ne 6, 3) := by decide +kernel
theorem dX8_frost_19 : decode cX8_frost 19 = .ok (.bipush (-3), 2) := by decide +kernel
theorem dX8_frost_21 : decode cX8_frost 21 = .ok (.ireturn, 1) := by decide +kernel
theorem dX8_frost_22 : decode cX8_frost 22 = .ok (.aload_n 0, 1) := by decide +kernel
theorem dX8_frost_23 : decode cX8_frost 23 = .ok (.getfield 27, 3) := by decide +kernel
theorem dX8_frost_26 : decode cX8_frost 26 = .ok (.getfield 166, 3) := by decide +kernel
theorem dX8_frost_29 : decode cX8_frost 29 = .ok (.iload_n 1, 1) := by decide +kernel
theorem dX8_frost_30 : decode cX8_frost 30 = .ok (.invokestatic 141, 3) := by decide +kernel
theorem dX8_frost_33 : decode cX8_frost 33 = .ok (.iload_n 2, 1) := by decide +kernel
theorem dX8_frost_34 : decode cX8_frost 34 = .ok (.if_icmp .ne 5, 3) := by decide +kernel
theorem dX8_frost_37 : decode cX8_frost 37 = .ok (.iconst 0, 1) := by decide +kernel
theorem dX8_frost_38 : decode cX8_frost 38 = .ok (.ireturn, 1) := by decide +kernel
theorem dX8_frost_39 : decode cX8_frost 39 = .ok (.aload_n 0, 1) := by decide +kernel
theorem dX8_frost_40 : decode cX8_frost 40 = .ok (.getfield 27, 3) := by decide +kernel
theorem dX8_frost_43 : decode cX8_frost 43 = .ok (.dup, 1) := by decide +kernel
theorem dX8_frost_44 : decode cX8_frost 44 = .ok (.getfield 166, 3) := by decide +kernel
theorem dX8_frost_47 : decode cX8_frost 47 = .ok (.iconst 1, 1) := by decide +kernel
theorem dX8_frost_48 : decode cX8_frost 48 = .ok (.iload_n 1, 1) := by decide +kernel
theorem dX8_frost_49 : decode cX8_frost 49 = .ok (.ishl, 1) := by decide +kernel
theorem dX8_frost_50 : decode cX8_frost 50 = .ok (.ixor, 1) := by decide +kernel
theorem dX8_frost_51 : decode cX8_frost 51 = .ok (.putfield 166, 3) := by decide +kernel
theorem dX8_frost_54 : decode cX8_frost 54 = .ok (.iconst 1, 1) := by decide +kernel
theorem dX8_frost_55 : decode cX8_frost 55 = .ok (.ireturn, 1) := by decide +kernel
theorem dX8_crow_0 : decode cX8_crow 0 = .ok (.iload_n 1, 1) := by decide +kernel
theorem dX8_crow_1 : decode cX8_crow 1 = .ok (.invokestatic 153, 3) := by decide +kernel
theorem dX8_crow_4 : decode cX8_crow 4 = .ok (.ifCond .eq 14, 3) := by decide +kernel
theorem dX8_crow_7 : decode cX8_crow 7 = .ok (.aload_n 0, 1) := by decide +kernel
theorem dX8_crow_8 : decode cX8_crow 8 = .ok (.getfield 57, 3) := by decide +kernel
theorem dX8_crow_11 : decode cX8_crow 11 = .ok (.iload_n 2, 1) := by decide +kernel
theorem dX8_crow_12 : decode cX8_crow 12 = .ok (.invokevirtual 119, 3) := by decide +kernel
theorem dX8_crow_15 : decode cX8_crow 15 = .ok (.ifCond .ne 5, 3) := by decide +kernel
theorem dX8_crow_18 : decode cX8_crow 18 = .ok (.iconst (-1), 1) := by decide +kernel
theorem dX8_crow_19 : decode cX8_crow 19 = .ok (.ireturn, 1) := by decide +kernel
theorem dX8_crow_20 : decode cX8_crow 20 = .ok (.aload_n 0, 1) := by decide +kernel
theorem dX8_crow_21 : decode cX8_crow 21 = .ok (.getfield 27, 3) := by decide +kernel
theorem dX8_crow_24 : decode cX8_crow 24 = .ok (.getfield 169, 3) := by decide +kernel
theorem dX8_crow_27 : decode cX8_crow 27 = .ok (.bipush 6, 2) := by decide +kernel
theorem dX8_crow_29 : decode cX8_crow 29 = .ok (.if_icmp .lt 6, 3) := by decide +kernel
theorem dX8_crow_32 : decode cX8_crow 32 = .ok (.bipush (-4), 2) := by decide +kernel
theorem dX8_crow_34 : decode cX8_crow 34 = .ok (.ireturn, 1) := by decide +kernel
theorem dX8_crow_35 : decode cX8_crow 35 = .ok (.aload_n 0, 1) := by decide +kernel
theorem dX8_crow_36 : decode cX8_crow 36 = .ok (.getfield 27, 3) := by decide +kernel
theorem dX8_crow_39 : decode cX8_crow 39 = .ok (.iload_n 1, 1) := by decide +kernel
theorem dX8_crow_40 : decode cX8_crow 40 = .ok (.iload_n 2, 1) := by decide +kernel
theorem dX8_crow_41 : decode cX8_crow 41 = .ok (.invokevirtual 172, 3) := by decide +kernel
theorem dX8_crow_44 : decode cX8_crow 44 = .ok (.ireturn, 1) := by decide +kernel
theorem dX8_shoo_0 : decode cX8_shoo 0 = .ok (.iload_n 1, 1) := by decide +kernel
theorem dX8_shoo_1 : decode cX8_shoo 1 = .ok (.ifCond .lt 14, 3) := by decide +kernel
theorem dX8_shoo_4 : decode cX8_shoo 4 = .ok (.iload_n 1, 1) := by decide +kernel
theorem dX8_shoo_5 : decode cX8_shoo 5 = .ok (.aload_n 0, 1) := by decide +kernel
theorem dX8_shoo_6 : decode cX8_shoo 6 = .ok (.getfield 27, 3) := by decide +kernel
theorem dX8_shoo_9 : decode cX8_shoo 9 = .ok (.getfield 169, 3) := by decide +kernel
theorem dX8_shoo_12 : decode cX8_shoo 12 = .ok (.if_icmp .le 6, 3) := by decide +kernel
theorem dX8_shoo_15 : decode cX8_shoo 15 = .ok (.bipush (-2), 2) := by decide +kernel
theorem dX8_shoo_17 : decode cX8_shoo 17 = .ok (.ireturn, 1) := by decide +kernel
theorem dX8_shoo_18 : decode cX8_shoo 18 = .ok (.aload_n 0, 1) := by decide +kernel
theorem dX8_shoo_19 : decode cX8_shoo 19 = .ok (.getfield 27, 3) := by decide +kernel
theorem dX8_shoo_22 : decode cX8_shoo 22 = .ok (.dup, 1) := by decide +kernel
theorem dX8_shoo_23 : decode cX8_shoo 23 = .ok (.getfield 169, 3) := by decide +kernel
theorem dX8_shoo_26 : decode cX8_shoo 26 = .ok (.iload_n 1, 1) := by decide +kernel
theorem dX8_shoo_27 : decode cX8_shoo 27 = .ok (.isub, 1) := by decide +kernel
theorem dX8_shoo_28 : decode cX8_shoo 28 = .ok (.putfield 169, 3) := by decide +kernel
theorem dX8_shoo_31 : decode cX8_shoo 31 = .ok (.aload_n 0, 1) := by decide +kernel
theorem dX8_shoo_32 : decode cX8_shoo 32 = .ok (.getfield 27, 3) := by decide +kernel
theorem dX8_shoo_35 : decode cX8_shoo 35 = .ok (.getfield 169, 3) := by decide +kernel
theorem dX8_shoo_38 : decode cX8_shoo 38 = .ok (.ireturn, 1) := by decide +kernel
theorem dX8_fell_0 : decode cX8_fell 0 = .ok (.aload_n 0, 1) := by decide +kernel
theorem dX8_fell_1 : decode cX8_fell 1 = .ok (.getfield 57, 3) := by decide +kernel
theorem dX8_fell_4 : decode cX8_fell 4 = .ok (.iload_n 1, 1) := by decide +kernel
theorem dX8_fell_5 : decode cX8_fell 5 = .ok (.invokevirtual 119, 3) := by decide +kernel
theorem dX8_fell_8 : decode cX8_fell 8 = .ok (.ifCond .ne 5, 3) := by decide +kernel
theorem dX8_fell_11 : decode cX8_fell 11 = .ok (.iconst (-1), 1) := by decide +kernel
theorem dX8_fell_12 : decode cX8_fell 12 = .ok (.ireturn, 1) := by decide +kernel
theorem dX8_fell_13 : decode cX8_fell 13 = .ok (.aload_n 0, 1) := by decide +kernel
theorem dX8_fell_14 : decode cX8_fell 14 = .ok (.getfield 57, 3) := by decide +kernel
theorem dX8_fell_17 : decode cX8_fell 17 = .ok (.getfield 138, 3) := by decide +kernel
theorem dX8_fell_20 : decode cX8_fell 20 = .ok (.iload_n 1, 1) := by decide +kernel
theorem dX8_fell_21 : decode cX8_fell 21 = .ok (.invokestatic 141, 3) := by decide +kernel
theorem dX8_fell_24 : decode cX8_fell 24 = .ok (.iload_n 2, 1) := by decide +kernel
theorem dX8_fell_25 : decode cX8_fell 25 = .ok (.if_icmp .ne 5, 3) := by decide +kernel
theorem dX8_fell_28 : decode cX8_fell 28 = .ok (.iconst 0, 1) := by decide +kernel
theorem dX8_fell_29 : decode cX8_fell 29 = .ok (.ireturn, 1) := by decide +kernel
theorem dX8_fell_30 : decode cX8_fell 30 = .ok (.aload_n 0, 1) := by decide +kernel
theorem dX8_fell_31 : decode cX8_fell 31 = .ok (.getfield 57, 3) := by decide +kernel
theorem dX8_fell_34 : decode cX8_fell 34 = .ok (.dup, 1) := by decide +kernel
theorem dX8_fell_35 : decode cX8_fell 35 = .ok (.getfield 138, 3) := by decide +kernel
theorem dX8_fell_38 : decode cX8_fell 38 = .ok (.iconst 1, 1) := by decide +kernel
theorem dX8_fell_39 : decode cX8_fell 39 = .ok (.iload_n 1, 1) := by decide +kernel
theorem dX8_fell_40 : decode cX8_fell 40 = .ok (.ishl, 1) := by decide +kernel
theorem dX8_fell_41 : decode cX8_fell 41 = .ok (.ixor, 1) := by decide +kernel
theorem dX8_fell_42 : decode cX8_fell 42 = .ok (.putfield 138, 3) := by decide +kernel
theorem dX8_fell_45 : decode cX8_fell 45 = .ok (.iconst 1, 1) := by decide +kernel
theorem dX8_fell_46 : decode cX8_fell 46 = .ok (.ireturn, 1) := by decide +kernel
theorem dX8_out_0 : decode cX8_out 0 = .ok (.aload_n 0, 1) := by decide +kernel
theorem dX8_out_1 : decode cX8_out 1 = .ok (.getfield 57, 3) := by decide +kernel
theorem dX8_out_4 : decode cX8_out 4 = .ok (.iload_n 1, 1) := by decide +kernel
theorem dX8_out_5 : decode cX8_out 5 = .ok (.invokevirtual 144, 3) := by decide +kernel
theorem dX8_out_8 : decode cX8_out 8 = .ok (.ifCond .ne 5, 3) := by decide +kernel
theorem dX8_out_11 : decode cX8_out 11 = .ok (.iconst (-1), 1) := by decide +kernel
theorem dX8_out_12 : decode cX8_out 12 = .ok (.ireturn, 1) := by decide +kernel
theorem dX8_out_13 : decode cX8_out 13 = .ok (.aload_n 0, 1) := by decide +kernel
theorem dX8_out_14 : decode cX8_out 14 = .ok (.bipush 29, 2) := by decide +kernel
theorem dX8_out_16 : decode cX8_out 16 = .ok (.invokevirtual 176, 3) := by decide +kernel
theorem dX8_out_19 : decode cX8_out 19 = .ok (.aload_n 0, 1) := by decide +kernel
theorem dX8_out_20 : decode cX8_out 20 = .ok (.getfield 61, 3) := by decide +kernel
theorem dX8_out_23 : decode cX8_out 23 = .ok (.getfield 180, 3) := by decide +kernel
theorem dX8_out_26 : decode cX8_out 26 = .ok (.iload_n 1, 1) := by decide +kernel
theorem dX8_out_27 : decode cX8_out 27 = .ok (.iaload, 1) := by decide +kernel
theorem dX8_out_28 : decode cX8_out 28 = .ok (.ireturn, 1) := by decide +kernel
theorem dX8_by_0 : decode cX8_by 0 = .ok (.aload_n 0, 1) := by decide +kernel
theorem dX8_by_1 : decode cX8_by 1 = .ok (.getfield 57, 3) := by decide +kernel
theorem dX8_by_4 : decode cX8_by 4 = .ok (.iload_n 1, 1) := by decide +kernel
theorem dX8_by_5 : decode cX8_by 5 = .ok (.invokevirtual 144, 3) := by decide +kernel
theorem dX8_by_8 : decode cX8_by 8 = .ok (.ifCond .ne 5, 3) := by decide +kernel
theorem dX8_by_11 : decode cX8_by 11 = .ok (.iconst (-1), 1) := by decide +kernel
theorem dX8_by_12 : decode cX8_by 12 = .ok (.ireturn, 1) := by decide +kernel
theorem dX8_by_13 : decode cX8_by 13 = .ok (.aload_n 0, 1) := by decide +kernel
theorem dX8_by_14 : decode cX8_by 14 = .ok (.bipush 29, 2) := by decide +kernel
theorem dX8_by_16 : decode cX8_by 16 = .ok (.invokevirtual 176, 3) := by decide +kernel
theorem dX8_by_19 : decode cX8_by 19 = .ok (.aload_n 0, 1) := by decide +kernel
theorem dX8_by_20 : decode cX8_by 20 = .ok (.getfield 61, 3) := by decide +kernel
theorem dX8_by_23 : decode cX8_by 23 = .ok (.getfield 183, 3) := by decide +kernel
theorem dX8_by_26 : decode cX8_by 26 = .ok (.iload_n 1, 1) := by decide +kernel
theorem dX8_by_27 : decode cX8_by 27 = .ok (.iaload, 1) := by decide +kernel
theorem dX8_by_28 : decode cX8_by 28 = .ok (.ireturn, 1) := by decide +kernel
theorem dX8_free_0 : decode cX8_free 0 = .ok (.iload_n 1, 1) := by decide +kernel
theorem dX8_free_1 : decode cX8_free 1 = .ok (.invokestatic 153, 3) := by decide +kernel
theorem dX8_free_4 : decode cX8_free 4 = .ok (.ifCond .ne 5, 3) := by decide +kernel
theorem dX8_free_7 : decode cX8_free 7 = .ok (.iconst (-1), 1) := by decide +kernel
theorem dX8_free_8 : decode cX8_free 8 = .ok (.ireturn, 1) := by decide +kernel
theorem dX8_free_9 : decode cX8_free 9 = .ok (.aload_n 0, 1) := by decide +kernel
theorem dX8_free_10 : decode cX8_free 10 = .ok (.getfield 57, 3) := by decide +kernel
theorem dX8_free_13 : decode cX8_free 13 = .ok (.invokevirtual 156, 3) := by decide +kernel
theorem dX8_free_16 : decode cX8_free 16 = .ok (.ifCond .ne 6, 3) := by decide +kernel
theorem dX8_free_19 : decode cX8_free 19 = .ok (.bipush (-3), 2) := by decide +kernel
theorem dX8_free_21 : decode cX8_free 21 = .ok (.ireturn, 1) := by decide +kernel
theorem dX8_free_22 : decode cX8_free 22 = .ok (.aload_n 0, 1) := by decide +kernel
theorem dX8_free_23 : decode cX8_free 23 = .ok (.iload_n 1, 1) := by decide +kernel
theorem dX8_free_24 : decode cX8_free 24 = .ok (.invokevirtual 176, 3) := by decide +kernel
theorem dX8_free_27 : decode cX8_free 27 = .ok (.aload_n 0, 1) := by decide +kernel
theorem dX8_free_28 : decode cX8_free 28 = .ok (.getfield 57, 3) := by decide +kernel
theorem dX8_free_31 : decode cX8_free 31 = .ok (.invokevirtual 186, 3) := by decide +kernel
theorem dX8_free_34 : decode cX8_free 34 = .ok (.aload_n 0, 1) := by decide +kernel
theorem dX8_free_35 : decode cX8_free 35 = .ok (.getfield 61, 3) := by decide +kernel
theorem dX8_free_38 : decode cX8_free 38 = .ok (.getfield 189, 3) := by decide +kernel
theorem dX8_free_41 : decode cX8_free 41 = .ok (.iconst (-1), 1) := by decide +kernel
theorem dX8_free_42 : decode cX8_free 42 = .ok (.ixor, 1) := by decide +kernel
theorem dX8_free_43 : decode cX8_free 43 = .ok (.iand, 1) := by decide +kernel
theorem dX8_free_44 : decode cX8_free 44 = .ok (.ireturn, 1) := by decide +kernel
theorem dX8_has_0 : decode cX8_has 0 = .ok (.aload_n 0, 1) := by decide +kernel
theorem dX8_has_1 : decode cX8_has 1 = .ok (.getfield 57, 3) := by decide +kernel
theorem dX8_has_4 : decode cX8_has 4 = .ok (.iload_n 1, 1) := by decide +kernel
theorem dX8_has_5 : decode cX8_has 5 = .ok (.invokevirtual 119, 3) := by decide +kernel
theorem dX8_has_8 : decode cX8_has 8 = .ok (.ifCond .eq 10, 3) := by decide +kernel
theorem dX8_has_11 : decode cX8_has 11 = .ok (.iload_n 2, 1) := by decide +kernel
theorem dX8_has_12 : decode cX8_has 12 = .ok (.invokestatic 153, 3) := by decide +kernel
theorem dX8_has_15 : decode cX8_has 15 = .ok (.ifCond .ne 5, 3) := by decide +kernel
theorem dX8_has_18 : decode cX8_has 18 = .ok (.iconst (-1), 1) := by decide +kernel
theorem dX8_has_19 : decode cX8_has 19 = .ok (.ireturn, 1) := by decide +kernel
theorem dX8_has_20 : decode cX8_has 20 = .ok (.aload_n 0, 1) := by decide +kernel
theorem dX8_has_21 : decode cX8_has 21 = .ok (.iload_n 2, 1) := by decide +kernel
theorem dX8_has_22 : decode cX8_has 22 = .ok (.invokevirtual 176, 3) := by decide +kernel
theorem dX8_has_25 : decode cX8_has 25 = .ok (.aload_n 0, 1) := by decide +kernel
theorem dX8_has_26 : decode cX8_has 26 = .ok (.getfield 61, 3) := by decide +kernel
theorem dX8_has_29 : decode cX8_has 29 = .ok (.getfield 192, 3) := by decide +kernel
theorem dX8_has_32 : decode cX8_has 32 = .ok (.iload_n 1, 1) := by decide +kernel
theorem dX8_has_33 : decode cX8_has 33 = .ok (.iaload, 1) := by decide +kernel
theorem dX8_has_34 : decode cX8_has 34 = .ok (.ireturn, 1) := by decide +kernel
theorem dX8_worth_0 : decode cX8_worth 0 = .ok (.aload_n 0, 1) := by decide +kernel
theorem dX8_worth_1 : decode cX8_worth 1 = .ok (.getfield 57, 3) := by decide +kernel
theorem dX8_worth_4 : decode cX8_worth 4 = .ok (.iload_n 1, 1) := by decide +kernel
theorem dX8_worth_5 : decode cX8_worth 5 = .ok (.invokevirtual 119, 3) := by decide +kernel
theorem dX8_worth_8 : decode cX8_worth 8 = .ok (.ifCond .ne 5, 3) := by decide +kernel
theorem dX8_worth_11 : decode cX8_worth 11 = .ok (.iconst (-1), 1) := by decide +kernel
theorem dX8_worth_12 : decode cX8_worth 12 = .ok (.ireturn, 1) := by decide +kernel
theorem dX8_worth_13 : decode cX8_worth 13 = .ok (.aload_n 0, 1) := by decide +kernel
theorem dX8_worth_14 : decode cX8_worth 14 = .ok (.bipush 29, 2) := by decide +kernel
theorem dX8_worth_16 : decode cX8_worth 16 = .ok (.invokevirtual 176, 3) := by decide +kernel
theorem dX8_worth_19 : decode cX8_worth 19 = .ok (.aload_n 0, 1) := by decide +kernel
theorem dX8_worth_20 : decode cX8_worth 20 = .ok (.getfield 61, 3) := by decide +kernel
theorem dX8_worth_23 : decode cX8_worth 23 = .ok (.invokevirtual 224, 3) := by decide +kernel
theorem dX8_worth_26 : decode cX8_worth 26 = .ok (.istore_n 2, 1) := by decide +kernel
theorem dX8_worth_27 : decode cX8_worth 27 = .ok (.aload_n 0, 1) := by decide +kernel
theorem dX8_worth_28 : decode cX8_worth 28 = .ok (.getfield 61, 3) := by decide +kernel
theorem dX8_worth_31 : decode cX8_worth 31 = .ok (.aload_n 0, 1) := by decide +kernel
theorem dX8_worth_32 : decode cX8_worth 32 = .ok (.getfield 57, 3) := by decide +kernel
theorem dX8_worth_35 : decode cX8_worth 35 = .ok (.getfield 138, 3) := by decide +kernel
theorem dX8_worth_38 : decode cX8_worth 38 = .ok (.iconst 1, 1) := by decide +kernel
theorem dX8_worth_39 : decode cX8_worth 39 = .ok (.iload_n 1, 1) := by decide +kernel
theorem dX8_worth_40 : decode cX8_worth 40 = .ok (.ishl, 1) := by decide +kernel
theorem dX8_worth_41 : decode cX8_worth 41 = .ok (.ior, 1) := by decide +kernel
theorem dX8_worth_42 : decode cX8_worth 42 = .ok (.putfield 216, 3) := by decide +kernel
theorem dX8_worth_45 : decode cX8_worth 45 = .ok (.aload_n 0, 1) := by decide +kernel
theorem dX8_worth_46 : decode cX8_worth 46 = .ok (.getfield 61, 3) := by decide +kernel
theorem dX8_worth_49 : decode cX8_worth 49 = .ok (.bipush 29, 2) := by decide +kernel
theorem dX8_worth_51 : decode cX8_worth 51 = .ok (.invokevirtual 227, 3) := by decide +kernel
theorem dX8_worth_54 : decode cX8_worth 54 = .ok (.aload_n 0, 1) := by decide +kernel
theorem dX8_worth_55 : decode cX8_worth 55 = .ok (.getfield 61, 3) := by decide +kernel
theorem dX8_worth_58 : decode cX8_worth 58 = .ok (.invokevirtual 224, 3) := by decide +kernel
theorem dX8_worth_61 : decode cX8_worth 61 = .ok (.iload_n 2, 1) := by decide +kernel
theorem dX8_worth_62 : decode cX8_worth 62 = .ok (.isub, 1) := by decide +kernel
theorem dX8_worth_63 : decode cX8_worth 63 = .ok (.sipush 10000, 3) := by decide +kernel
theorem dX8_worth_66 : decode cX8_worth 66 = .ok (.iadd, 1) := by decide +kernel
theorem dX8_worth_67 : decode cX8_worth 67 = .ok (.ireturn, 1) := by decide +kernel
theorem dX8_sheet_0 : decode cX8_sheet 0 = .ok (.aload_n 0, 1) := by decide +kernel
theorem dX8_sheet_1 : decode cX8_sheet 1 = .ok (.iconst 0, 1) := by decide +kernel
theorem dX8_sheet_2 : decode cX8_sheet 2 = .ok (.putfield 45, 3) := by decide +kernel
theorem dX8_sheet_5 : decode cX8_sheet 5 = .ok (.aload_n 0, 1) := by decide +kernel
theorem dX8_sheet_6 : decode cX8_sheet 6 = .ok (.iload_n 1, 1) := by decide +kernel
theorem dX8_sheet_7 : decode cX8_sheet 7 = .ok (.invokevirtual 75, 3) := by decide +kernel
theorem dX8_sheet_10 : decode cX8_sheet 10 = .ok (.astore 4, 2) := by decide +kernel
theorem dX8_sheet_12 : decode cX8_sheet 12 = .ok (.aload 4, 2) := by decide +kernel
theorem dX8_sheet_14 : decode cX8_sheet 14 = .ok (.ifnonnull 5, 3) := by decide +kernel
theorem dX8_sheet_17 : decode cX8_sheet 17 = .ok (.iconst (-1), 1) := by decide +kernel
theorem dX8_sheet_18 : decode cX8_sheet 18 = .ok (.ireturn, 1) := by decide +kernel
theorem dX8_sheet_19 : decode cX8_sheet 19 = .ok (.iload_n 2, 1) := by decide +kernel
theorem dX8_sheet_20 : decode cX8_sheet 20 = .ok (.invokestatic 79, 3) := by decide +kernel
theorem dX8_sheet_23 : decode cX8_sheet 23 = .ok (.ifCond .eq 9, 3) := by decide +kernel
theorem dX8_sheet_26 : decode cX8_sheet 26 = .ok (.iload_n 3, 1) := by decide +kernel
theorem dX8_sheet_27 : decode cX8_sheet 27 = .ok (.bipush 50, 2) := by decide +kernel
theorem dX8_sheet_29 : decode cX8_sheet 29 = .ok (.if_icmp .le 6, 3) := by decide +kernel
theorem dX8_sheet_32 : decode cX8_sheet 32 = .ok (.bipush (-2), 2) := by decide +kernel
theorem dX8_sheet_34 : decode cX8_sheet 34 = .ok (.ireturn, 1) := by decide +kernel
theorem dX8_sheet_35 : decode cX8_sheet 35 = .ok (.iload_n 3, 1) := by decide +kernel
theorem dX8_sheet_36 : decode cX8_sheet 36 = .ok (.ifCond .ge 9, 3) := by decide +kernel
theorem dX8_sheet_39 : decode cX8_sheet 39 = .ok (.aload_n 0, 1) := by decide +kernel
theorem dX8_sheet_40 : decode cX8_sheet 40 = .ok (.iconst 4, 1) := by decide +kernel
theorem dX8_sheet_41 : decode cX8_sheet 41 = .ok (.invokevirtual 86, 3) := by decide +kernel
theorem dX8_sheet_44 : decode cX8_sheet 44 = .ok (.ireturn, 1) := by decide +kernel
theorem dX8_sheet_45 : decode cX8_sheet 45 = .ok (.aload 4, 2) := by decide +kernel
theorem dX8_sheet_47 : decode cX8_sheet 47 = .ok (.iload_n 2, 1) := by decide +kernel
theorem dX8_sheet_48 : decode cX8_sheet 48 = .ok (.iload_n 3, 1) := by decide +kernel
theorem dX8_sheet_49 : decode cX8_sheet 49 = .ok (.invokevirtual 249, 3) := by decide +kernel
theorem dX8_sheet_52 : decode cX8_sheet 52 = .ok (.iconst 1, 1) := by decide +kernel
theorem dX8_sheet_53 : decode cX8_sheet 53 = .ok (.ireturn, 1) := by decide +kernel
theorem dX8_put_0 : decode cX8_put 0 = .ok (.aload_n 0, 1) := by decide +kernel
theorem dX8_put_1 : decode cX8_put 1 = .ok (.iconst 0, 1) := by decide +kernel
theorem dX8_put_2 : decode cX8_put 2 = .ok (.putfield 45, 3) := by decide +kernel
theorem dX8_put_5 : decode cX8_put 5 = .ok (.aload_n 0, 1) := by decide +kernel
theorem dX8_put_6 : decode cX8_put 6 = .ok (.iload_n 1, 1) := by decide +kernel
theorem dX8_put_7 : decode cX8_put 7 = .ok (.invokevirtual 75, 3) := by decide +kernel
theorem dX8_put_10 : decode cX8_put 10 = .ok (.astore 4, 2) := by decide +kernel
theorem dX8_put_12 : decode cX8_put 12 = .ok (.aload 4, 2) := by decide +kernel
theorem dX8_put_14 : decode cX8_put 14 = .ok (.ifnonnull 5, 3) := by decide +kernel
theorem dX8_put_17 : decode cX8_put 17 = .ok (.iconst (-1), 1) := by decide +kernel
theorem dX8_put_18 : decode cX8_put 18 = .ok (.ireturn, 1) := by decide +kernel
theorem dX8_put_19 : decode cX8_put 19 = .ok (.aload 4, 2) := by decide +kernel
theorem dX8_put_21 : decode cX8_put 21 = .ok (.getfield 90, 3) := by decide +kernel
theorem dX8_put_24 : decode cX8_put 24 = .ok (.ifCond .ne 9, 3) := by decide +kernel
theorem dX8_put_27 : decode cX8_put 27 = .ok (.aload_n 0, 1) := by decide +kernel
theorem dX8_put_28 : decode cX8_put 28 = .ok (.iconst 1, 1) := by decide +kernel
theorem dX8_put_29 : decode cX8_put 29 = .ok (.invokevirtual 86, 3) := by decide +kernel
theorem dX8_put_32 : decode cX8_put 32 = .ok (.ireturn, 1) := by decide +kernel
theorem dX8_put_33 : decode cX8_put 33 = .ok (.aload 4, 2) := by decide +kernel
theorem dX8_put_35 : decode cX8_put 35 = .ok (.iload_n 2, 1) := by decide +kernel
theorem dX8_put_36 : decode cX8_put 36 = .ok (.iconst 1, 1) := by decide +kernel
theorem dX8_put_37 : decode cX8_put 37 = .ok (.invokevirtual 94, 3) := by decide +kernel
theorem dX8_put_40 : decode cX8_put 40 = .ok (.ifCond .ne 9, 3) := by decide +kernel
theorem dX8_put_43 : decode cX8_put 43 = .ok (.aload_n 0, 1) := by decide +kernel
theorem dX8_put_44 : decode cX8_put 44 = .ok (.iconst 3, 1) := by decide +kernel
theorem dX8_put_45 : decode cX8_put 45 = .ok (.invokevirtual 86, 3) := by decide +kernel
theorem dX8_put_48 : decode cX8_put 48 = .ok (.ireturn, 1) := by decide +kernel
theorem dX8_put_49 : decode cX8_put 49 = .ok (.aload 4, 2) := by decide +kernel
theorem dX8_put_51 : decode cX8_put 51 = .ok (.getfield 252, 3) := by decide +kernel
theorem dX8_put_54 : decode cX8_put 54 = .ok (.iload_n 2, 1) := by decide +kernel
theorem dX8_put_55 : decode cX8_put 55 = .ok (.aload 4, 2) := by decide +kernel
theorem dX8_put_57 : decode cX8_put 57 = .ok (.iload_n 3, 1) := by decide +kernel
theorem dX8_put_58 : decode cX8_put 58 = .ok (.invokevirtual 255, 3) := by decide +kernel
theorem dX8_put_61 : decode cX8_put 61 = .ok (.iastore, 1) := by decide +kernel
theorem dX8_put_62 : decode cX8_put 62 = .ok (.iconst 1, 1) := by decide +kernel
theorem dX8_put_63 : decode cX8_put 63 = .ok (.ireturn, 1) := by decide +kernel
theorem dX8_sheetOf_0 : decode cX8_sheetOf 0 = .ok (.iload_n 1, 1) := by decide +kernel
theorem dX8_sheetOf_1 : decode cX8_sheetOf 1 = .ok (.ifCond .lt 17, 3) := by decide +kernel
theorem dX8_sheetOf_4 : decode cX8_sheetOf 4 = .ok (.iload_n 1, 1) := by decide +kernel
theorem dX8_sheetOf_5 : decode cX8_sheetOf 5 = .ok (.iconst 4, 1) := by decide +kernel
theorem dX8_sheetOf_6 : decode cX8_sheetOf 6 = .ok (.if_icmp .ge 12, 3) := by decide +kernel
theorem dX8_sheetOf_9 : decode cX8_sheetOf 9 = .ok (.aload_n 0, 1) := by decide +kernel
theorem dX8_sheetOf_10 : decode cX8_sheetOf 10 = .ok (.getfield 13, 3) := by decide +kernel
theorem dX8_sheetOf_13 : decode cX8_sheetOf 13 = .ok (.iload_n 1, 1) := by decide +kernel
theorem dX8_sheetOf_14 : decode cX8_sheetOf 14 = .ok (.aaload, 1) := by decide +kernel
theorem dX8_sheetOf_15 : decode cX8_sheetOf 15 = .ok (.goto 4, 3) := by decide +kernel
theorem dX8_sheetOf_18 : decode cX8_sheetOf 18 = .ok (.aconst_null, 1) := by decide +kernel
theorem dX8_sheetOf_19 : decode cX8_sheetOf 19 = .ok (.areturn, 1) := by decide +kernel
theorem dX8_faulted_0 : decode cX8_faulted 0 = .ok (.aload_n 0, 1) := by decide +kernel
theorem dX8_faulted_1 : decode cX8_faulted 1 = .ok (.iload_n 1, 1) := by decide +kernel
theorem dX8_faulted_2 : decode cX8_faulted 2 = .ok (.putfield 45, 3) := by decide +kernel
theorem dX8_faulted_5 : decode cX8_faulted 5 = .ok (.bipush (-10), 2) := by decide +kernel
theorem dX8_faulted_7 : decode cX8_faulted 7 = .ok (.iload_n 1, 1) := by decide +kernel
theorem dX8_faulted_8 : decode cX8_faulted 8 = .ok (.isub, 1) := by decide +kernel
theorem dX8_faulted_9 : decode cX8_faulted 9 = .ok (.ireturn, 1) := by decide +kernel
theorem dX8_passAsTold_0 : decode cX8_passAsTold 0 = .ok (.aload_n 0, 1) := by decide +kernel
theorem dX8_passAsTold_1 : decode cX8_passAsTold 1 = .ok (.getfield 61, 3) := by decide +kernel
theorem dX8_passAsTold_4 : decode cX8_passAsTold 4 = .ok (.aload_n 0, 1) := by decide +kernel
theorem dX8_passAsTold_5 : decode cX8_passAsTold 5 = .ok (.getfield 27, 3) := by decide +kernel
theorem dX8_passAsTold_8 : decode cX8_passAsTold 8 = .ok (.invokevirtual 195, 3) := by decide +kernel
theorem dX8_passAsTold_11 : decode cX8_passAsTold 11 = .ok (.aload_n 0, 1) := by decide +kernel
theorem dX8_passAsTold_12 : decode cX8_passAsTold 12 = .ok (.getfield 61, 3) := by decide +kernel
theorem dX8_passAsTold_15 : decode cX8_passAsTold 15 = .ok (.iload_n 1, 1) := by decide +kernel
theorem dX8_passAsTold_16 : decode cX8_passAsTold 16 = .ok (.invokevirtual 227, 3) := by decide +kernel
theorem dX8_passAsTold_19 : decode cX8_passAsTold 19 = .ok (.return_, 1) := by decide +kernel
theorem dX8_isDay_0 : decode cX8_isDay 0 = .ok (.iload_n 0, 1) := by decide +kernel
theorem dX8_isDay_1 : decode cX8_isDay 1 = .ok (.ifCond .lt 13, 3) := by decide +kernel
theorem dX8_isDay_4 : decode cX8_isDay 4 = .ok (.iload_n 0, 1) := by decide +kernel
theorem dX8_isDay_5 : decode cX8_isDay 5 = .ok (.bipush 30, 2) := by decide +kernel
theorem dX8_isDay_7 : decode cX8_isDay 7 = .ok (.if_icmp .ge 7, 3) := by decide +kernel
theorem dX8_isDay_10 : decode cX8_isDay 10 = .ok (.iconst 1, 1) := by decide +kernel
theorem dX8_isDay_11 : decode cX8_isDay 11 = .ok (.goto 4, 3) := by decide +kernel
theorem dX8_isDay_14 : decode cX8_isDay 14 = .ok (.iconst 0, 1) := by decide +kernel
theorem dX8_isDay_15 : decode cX8_isDay 15 = .ok (.ireturn, 1) := by decide +kernel
theorem dX8_isLane_0 : decode cX8_isLane 0 = .ok (.iload_n 0, 1) := by decide +kernel
theorem dX8_isLane_1 : decode cX8_isLane 1 = .ok (.ifCond .lt 12, 3) := by decide +kernel
theorem dX8_isLane_4 : decode cX8_isLane 4 = .ok (.iload_n 0, 1) := by decide +kernel
theorem dX8_isLane_5 : decode cX8_isLane 5 = .ok (.iconst 3, 1) := by decide +kernel
theorem dX8_isLane_6 : decode cX8_isLane 6 = .ok (.if_icmp .ge 7, 3) := by decide +kernel
theorem dX8_isLane_9 : decode cX8_isLane 9 = .ok (.iconst 1, 1) := by decide +kernel
theorem dX8_isLane_10 : decode cX8_isLane 10 = .ok (.goto 4, 3) := by decide +kernel
theorem dX8_isLane_13 : decode cX8_isLane 13 = .ok (.iconst 0, 1) := by decide +kernel
theorem dX8_isLane_14 : decode cX8_isLane 14 = .ok (.ireturn, 1) := by decide +kernel
theorem dX8_isIn_0 : decode cX8_isIn 0 = .ok (.iload_n 0, 1) := by decide +kernel
theorem dX8_isIn_1 : decode cX8_isIn 1 = .ok (.iload_n 1, 1) := by decide +kernel
theorem dX8_isIn_2 : decode cX8_isIn 2 = .ok (.ishr, 1) := by decide +kernel
theorem dX8_isIn_3 : decode cX8_isIn 3 = .ok (.iconst 1, 1) := by decide +kernel
theorem dX8_isIn_4 : decode cX8_isIn 4 = .ok (.iand, 1) := by decide +kernel
theorem dX8_isIn_5 : decode cX8_isIn 5 = .ok (.ifCond .eq 7, 3) := by decide +kernel
theorem dX8_isIn_8 : decode cX8_isIn 8 = .ok (.iconst 1, 1) := by decide +kernel
theorem dX8_isIn_9 : decode cX8_isIn 9 = .ok (.goto 4, 3) := by decide +kernel
theorem dX8_isIn_12 : decode cX8_isIn 12 = .ok (.iconst 0, 1) := by decide +kernel
theorem dX8_isIn_13 : decode cX8_isIn 13 = .ok (.ireturn, 1) := by decide +kernel
theorem dJ7_fill_53178_0 : decode cJ7_fill_53178 0 = .ok (.iconst 0, 1) := by decide +kernel
theorem dJ7_fill_53178_1 : decode cJ7_fill_53178 1 = .ok (.istore_n 2, 1) := by decide +kernel
theorem dJ7_fill_53178_2 : decode cJ7_fill_53178 2 = .ok (.aload_n 0, 1) := by decide +kernel
theorem dJ7_fill_53178_3 : decode cJ7_fill_53178 3 = .ok (.arraylength, 1) := by decide +kernel
theorem dJ7_fill_53178_4 : decode cJ7_fill_53178 4 = .ok (.istore_n 3, 1) := by decide +kernel
theorem dJ7_fill_53178_5 : decode cJ7_fill_53178 5 = .ok (.iload_n 2, 1) := by decide +kernel
theorem dJ7_fill_53178_6 : decode cJ7_fill_53178 6 = .ok (.iload_n 3, 1) := by decide +kernel
theorem dJ7_fill_53178_7 : decode cJ7_fill_53178 7 = .ok (.if_icmp .ge 13, 3) := by decide +kernel
theorem dJ7_fill_53178_10 : decode cJ7_fill_53178 10 = .ok (.aload_n 0, 1) := by decide +kernel
theorem dJ7_fill_53178_11 : decode cJ7_fill_53178 11 = .ok (.iload_n 2, 1) := by decide +kernel
theorem dJ7_fill_53178_12 : decode cJ7_fill_53178 12 = .ok (.iload_n 1, 1) := by decide +kernel
theorem dJ7_fill_53178_13 : decode cJ7_fill_53178 13 = .ok (.iastore, 1) := by decide +kernel
theorem dJ7_fill_53178_14 : decode cJ7_fill_53178 14 = .ok (.iinc 2 1, 3) := by decide +kernel
theorem dJ7_fill_53178_17 : decode cJ7_fill_53178 17 = .ok (.goto (-12), 3) := by decide +kernel
theorem dJ7_fill_53178_20 : decode cJ7_fill_53178 20 = .ok (.return_, 1) := by decide +kernel
