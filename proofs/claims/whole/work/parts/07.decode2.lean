theorem dX7_heightAt_18 : decode cX7_heightAt 18 = .ok (.iadd, 1) := by decide +kernel
theorem dX7_heightAt_19 : decode cX7_heightAt 19 = .ok (.ireturn, 1) := by decide +kernel
theorem dX7_adds_0 : decode cX7_adds 0 = .ok (.aload_n 0, 1) := by decide +kernel
theorem dX7_adds_1 : decode cX7_adds 1 = .ok (.getfield 19, 3) := by decide +kernel
theorem dX7_adds_4 : decode cX7_adds 4 = .ok (.aload_n 0, 1) := by decide +kernel
theorem dX7_adds_5 : decode cX7_adds 5 = .ok (.getfield 92, 3) := by decide +kernel
theorem dX7_adds_8 : decode cX7_adds 8 = .ok (.iload_n 1, 1) := by decide +kernel
theorem dX7_adds_9 : decode cX7_adds 9 = .ok (.iastore, 1) := by decide +kernel
theorem dX7_adds_10 : decode cX7_adds 10 = .ok (.aload_n 0, 1) := by decide +kernel
theorem dX7_adds_11 : decode cX7_adds 11 = .ok (.getfield 22, 3) := by decide +kernel
theorem dX7_adds_14 : decode cX7_adds 14 = .ok (.aload_n 0, 1) := by decide +kernel
theorem dX7_adds_15 : decode cX7_adds 15 = .ok (.getfield 92, 3) := by decide +kernel
theorem dX7_adds_18 : decode cX7_adds 18 = .ok (.iload_n 2, 1) := by decide +kernel
theorem dX7_adds_19 : decode cX7_adds 19 = .ok (.iastore, 1) := by decide +kernel
theorem dX7_adds_20 : decode cX7_adds 20 = .ok (.aload_n 0, 1) := by decide +kernel
theorem dX7_adds_21 : decode cX7_adds 21 = .ok (.getfield 25, 3) := by decide +kernel
theorem dX7_adds_24 : decode cX7_adds 24 = .ok (.iconst 4, 1) := by decide +kernel
theorem dX7_adds_25 : decode cX7_adds 25 = .ok (.aload_n 0, 1) := by decide +kernel
theorem dX7_adds_26 : decode cX7_adds 26 = .ok (.getfield 92, 3) := by decide +kernel
theorem dX7_adds_29 : decode cX7_adds 29 = .ok (.imul, 1) := by decide +kernel
theorem dX7_adds_30 : decode cX7_adds 30 = .ok (.iload_n 3, 1) := by decide +kernel
theorem dX7_adds_31 : decode cX7_adds 31 = .ok (.iastore, 1) := by decide +kernel
theorem dX7_adds_32 : decode cX7_adds 32 = .ok (.aload_n 0, 1) := by decide +kernel
theorem dX7_adds_33 : decode cX7_adds 33 = .ok (.getfield 25, 3) := by decide +kernel
theorem dX7_adds_36 : decode cX7_adds 36 = .ok (.iconst 4, 1) := by decide +kernel
theorem dX7_adds_37 : decode cX7_adds 37 = .ok (.aload_n 0, 1) := by decide +kernel
theorem dX7_adds_38 : decode cX7_adds 38 = .ok (.getfield 92, 3) := by decide +kernel
theorem dX7_adds_41 : decode cX7_adds 41 = .ok (.imul, 1) := by decide +kernel
theorem dX7_adds_42 : decode cX7_adds 42 = .ok (.iconst 1, 1) := by decide +kernel
theorem dX7_adds_43 : decode cX7_adds 43 = .ok (.iadd, 1) := by decide +kernel
theorem dX7_adds_44 : decode cX7_adds 44 = .ok (.iload 4, 2) := by decide +kernel
theorem dX7_adds_46 : decode cX7_adds 46 = .ok (.iastore, 1) := by decide +kernel
theorem dX7_adds_47 : decode cX7_adds 47 = .ok (.aload_n 0, 1) := by decide +kernel
theorem dX7_adds_48 : decode cX7_adds 48 = .ok (.getfield 25, 3) := by decide +kernel
theorem dX7_adds_51 : decode cX7_adds 51 = .ok (.iconst 4, 1) := by decide +kernel
theorem dX7_adds_52 : decode cX7_adds 52 = .ok (.aload_n 0, 1) := by decide +kernel
theorem dX7_adds_53 : decode cX7_adds 53 = .ok (.getfield 92, 3) := by decide +kernel
theorem dX7_adds_56 : decode cX7_adds 56 = .ok (.imul, 1) := by decide +kernel
theorem dX7_adds_57 : decode cX7_adds 57 = .ok (.iconst 2, 1) := by decide +kernel
theorem dX7_adds_58 : decode cX7_adds 58 = .ok (.iadd, 1) := by decide +kernel
theorem dX7_adds_59 : decode cX7_adds 59 = .ok (.iload 5, 2) := by decide +kernel
theorem dX7_adds_61 : decode cX7_adds 61 = .ok (.iastore, 1) := by decide +kernel
theorem dX7_adds_62 : decode cX7_adds 62 = .ok (.aload_n 0, 1) := by decide +kernel
theorem dX7_adds_63 : decode cX7_adds 63 = .ok (.getfield 25, 3) := by decide +kernel
theorem dX7_adds_66 : decode cX7_adds 66 = .ok (.iconst 4, 1) := by decide +kernel
theorem dX7_adds_67 : decode cX7_adds 67 = .ok (.aload_n 0, 1) := by decide +kernel
theorem dX7_adds_68 : decode cX7_adds 68 = .ok (.getfield 92, 3) := by decide +kernel
theorem dX7_adds_71 : decode cX7_adds 71 = .ok (.imul, 1) := by decide +kernel
theorem dX7_adds_72 : decode cX7_adds 72 = .ok (.iconst 3, 1) := by decide +kernel
theorem dX7_adds_73 : decode cX7_adds 73 = .ok (.iadd, 1) := by decide +kernel
theorem dX7_adds_74 : decode cX7_adds 74 = .ok (.iload 6, 2) := by decide +kernel
theorem dX7_adds_76 : decode cX7_adds 76 = .ok (.iastore, 1) := by decide +kernel
theorem dX7_adds_77 : decode cX7_adds 77 = .ok (.aload_n 0, 1) := by decide +kernel
theorem dX7_adds_78 : decode cX7_adds 78 = .ok (.dup, 1) := by decide +kernel
theorem dX7_adds_79 : decode cX7_adds 79 = .ok (.getfield 92, 3) := by decide +kernel
theorem dX7_adds_82 : decode cX7_adds 82 = .ok (.iconst 1, 1) := by decide +kernel
theorem dX7_adds_83 : decode cX7_adds 83 = .ok (.iadd, 1) := by decide +kernel
theorem dX7_adds_84 : decode cX7_adds 84 = .ok (.putfield 92, 3) := by decide +kernel
theorem dX7_adds_87 : decode cX7_adds 87 = .ok (.aload_n 0, 1) := by decide +kernel
theorem dX7_adds_88 : decode cX7_adds 88 = .ok (.getfield 47, 3) := by decide +kernel
theorem dX7_adds_91 : decode cX7_adds 91 = .ok (.iload_n 1, 1) := by decide +kernel
theorem dX7_adds_92 : decode cX7_adds 92 = .ok (.iconst 1, 1) := by decide +kernel
theorem dX7_adds_93 : decode cX7_adds 93 = .ok (.bastore, 1) := by decide +kernel
theorem dX7_adds_94 : decode cX7_adds 94 = .ok (.return_, 1) := by decide +kernel
theorem dX7_isEdge_0 : decode cX7_isEdge 0 = .ok (.iload_n 1, 1) := by decide +kernel
theorem dX7_isEdge_1 : decode cX7_isEdge 1 = .ok (.aload_n 0, 1) := by decide +kernel
theorem dX7_isEdge_2 : decode cX7_isEdge 2 = .ok (.getfield 66, 3) := by decide +kernel
theorem dX7_isEdge_5 : decode cX7_isEdge 5 = .ok (.irem, 1) := by decide +kernel
theorem dX7_isEdge_6 : decode cX7_isEdge 6 = .ok (.ifCond .ne 7, 3) := by decide +kernel
theorem dX7_isEdge_9 : decode cX7_isEdge 9 = .ok (.iconst 1, 1) := by decide +kernel
theorem dX7_isEdge_10 : decode cX7_isEdge 10 = .ok (.goto 4, 3) := by decide +kernel
theorem dX7_isEdge_13 : decode cX7_isEdge 13 = .ok (.iconst 0, 1) := by decide +kernel
theorem dX7_isEdge_14 : decode cX7_isEdge 14 = .ok (.ireturn, 1) := by decide +kernel
theorem dX7_parts_0 : decode cX7_parts 0 = .ok (.iload_n 2, 1) := by decide +kernel
theorem dX7_parts_1 : decode cX7_parts 1 = .ok (.ifCond .ne 17, 3) := by decide +kernel
theorem dX7_parts_4 : decode cX7_parts 4 = .ok (.aload_n 0, 1) := by decide +kernel
theorem dX7_parts_5 : decode cX7_parts 5 = .ok (.iload_n 1, 1) := by decide +kernel
theorem dX7_parts_6 : decode cX7_parts 6 = .ok (.invokevirtual 95, 3) := by decide +kernel
theorem dX7_parts_9 : decode cX7_parts 9 = .ok (.ifCond .eq 7, 3) := by decide +kernel
theorem dX7_parts_12 : decode cX7_parts 12 = .ok (.iconst 2, 1) := by decide +kernel
theorem dX7_parts_13 : decode cX7_parts 13 = .ok (.goto 4, 3) := by decide +kernel
theorem dX7_parts_16 : decode cX7_parts 16 = .ok (.iconst 1, 1) := by decide +kernel
theorem dX7_parts_17 : decode cX7_parts 17 = .ok (.ireturn, 1) := by decide +kernel
theorem dX7_parts_18 : decode cX7_parts 18 = .ok (.iconst 1, 1) := by decide +kernel
theorem dX7_parts_19 : decode cX7_parts 19 = .ok (.istore_n 3, 1) := by decide +kernel
theorem dX7_parts_20 : decode cX7_parts 20 = .ok (.iload_n 2, 1) := by decide +kernel
theorem dX7_parts_21 : decode cX7_parts 21 = .ok (.ifCond .ge 8, 3) := by decide +kernel
theorem dX7_parts_24 : decode cX7_parts 24 = .ok (.iload_n 2, 1) := by decide +kernel
theorem dX7_parts_25 : decode cX7_parts 25 = .ok (.ineg, 1) := by decide +kernel
theorem dX7_parts_26 : decode cX7_parts 26 = .ok (.goto 4, 3) := by decide +kernel
theorem dX7_parts_29 : decode cX7_parts 29 = .ok (.iload_n 2, 1) := by decide +kernel
theorem dX7_parts_30 : decode cX7_parts 30 = .ok (.istore 4, 2) := by decide +kernel
theorem dX7_parts_32 : decode cX7_parts 32 = .ok (.iconst 1, 1) := by decide +kernel
theorem dX7_parts_33 : decode cX7_parts 33 = .ok (.istore 5, 2) := by decide +kernel
theorem dX7_parts_35 : decode cX7_parts 35 = .ok (.iload 5, 2) := by decide +kernel
theorem dX7_parts_37 : decode cX7_parts 37 = .ok (.iload 4, 2) := by decide +kernel
theorem dX7_parts_39 : decode cX7_parts 39 = .ok (.if_icmp .ge 46, 3) := by decide +kernel
theorem dX7_parts_42 : decode cX7_parts 42 = .ok (.iload_n 3, 1) := by decide +kernel
theorem dX7_parts_43 : decode cX7_parts 43 = .ok (.aload_n 0, 1) := by decide +kernel
theorem dX7_parts_44 : decode cX7_parts 44 = .ok (.iload_n 1, 1) := by decide +kernel
theorem dX7_parts_45 : decode cX7_parts 45 = .ok (.iload_n 2, 1) := by decide +kernel
theorem dX7_parts_46 : decode cX7_parts 46 = .ok (.ifCond .ge 9, 3) := by decide +kernel
theorem dX7_parts_49 : decode cX7_parts 49 = .ok (.iload 5, 2) := by decide +kernel
theorem dX7_parts_51 : decode cX7_parts 51 = .ok (.ineg, 1) := by decide +kernel
theorem dX7_parts_52 : decode cX7_parts 52 = .ok (.goto 5, 3) := by decide +kernel
theorem dX7_parts_55 : decode cX7_parts 55 = .ok (.iload 5, 2) := by decide +kernel
theorem dX7_parts_57 : decode cX7_parts 57 = .ok (.iadd, 1) := by decide +kernel
theorem dX7_parts_58 : decode cX7_parts 58 = .ok (.sipush 360, 3) := by decide +kernel
theorem dX7_parts_61 : decode cX7_parts 61 = .ok (.iadd, 1) := by decide +kernel
theorem dX7_parts_62 : decode cX7_parts 62 = .ok (.sipush 360, 3) := by decide +kernel
theorem dX7_parts_65 : decode cX7_parts 65 = .ok (.irem, 1) := by decide +kernel
theorem dX7_parts_66 : decode cX7_parts 66 = .ok (.invokevirtual 95, 3) := by decide +kernel
theorem dX7_parts_69 : decode cX7_parts 69 = .ok (.ifCond .eq 7, 3) := by decide +kernel
theorem dX7_parts_72 : decode cX7_parts 72 = .ok (.iconst 1, 1) := by decide +kernel
theorem dX7_parts_73 : decode cX7_parts 73 = .ok (.goto 4, 3) := by decide +kernel
theorem dX7_parts_76 : decode cX7_parts 76 = .ok (.iconst 0, 1) := by decide +kernel
theorem dX7_parts_77 : decode cX7_parts 77 = .ok (.iadd, 1) := by decide +kernel
theorem dX7_parts_78 : decode cX7_parts 78 = .ok (.istore_n 3, 1) := by decide +kernel
theorem dX7_parts_79 : decode cX7_parts 79 = .ok (.iinc 5 1, 3) := by decide +kernel
theorem dX7_parts_82 : decode cX7_parts 82 = .ok (.goto (-47), 3) := by decide +kernel
theorem dX7_parts_85 : decode cX7_parts 85 = .ok (.iload_n 3, 1) := by decide +kernel
theorem dX7_parts_86 : decode cX7_parts 86 = .ok (.ireturn, 1) := by decide +kernel
theorem dX7_to_0 : decode cX7_to 0 = .ok (.iload_n 1, 1) := by decide +kernel
theorem dX7_to_1 : decode cX7_to 1 = .ok (.iconst 0, 1) := by decide +kernel
theorem dX7_to_2 : decode cX7_to 2 = .ok (.aload_n 0, 1) := by decide +kernel
theorem dX7_to_3 : decode cX7_to 3 = .ok (.getfield 86, 3) := by decide +kernel
theorem dX7_to_6 : decode cX7_to 6 = .ok (.iconst 1, 1) := by decide +kernel
theorem dX7_to_7 : decode cX7_to 7 = .ok (.isub, 1) := by decide +kernel
theorem dX7_to_8 : decode cX7_to 8 = .ok (.invokestatic 69, 3) := by decide +kernel
theorem dX7_to_11 : decode cX7_to 11 = .ok (.ifCond .eq 11, 3) := by decide +kernel
theorem dX7_to_14 : decode cX7_to 14 = .ok (.iload_n 2, 1) := by decide +kernel
theorem dX7_to_15 : decode cX7_to 15 = .ok (.iload_n 3, 1) := by decide +kernel
theorem dX7_to_16 : decode cX7_to 16 = .ok (.invokestatic 82, 3) := by decide +kernel
theorem dX7_to_19 : decode cX7_to 19 = .ok (.ifCond .ne 5, 3) := by decide +kernel
theorem dX7_to_22 : decode cX7_to 22 = .ok (.iconst (-1), 1) := by decide +kernel
theorem dX7_to_23 : decode cX7_to 23 = .ok (.ireturn, 1) := by decide +kernel
theorem dX7_to_24 : decode cX7_to 24 = .ok (.aload_n 0, 1) := by decide +kernel
theorem dX7_to_25 : decode cX7_to 25 = .ok (.getfield 13, 3) := by decide +kernel
theorem dX7_to_28 : decode cX7_to 28 = .ok (.iload_n 1, 1) := by decide +kernel
theorem dX7_to_29 : decode cX7_to 29 = .ok (.iaload, 1) := by decide +kernel
theorem dX7_to_30 : decode cX7_to 30 = .ok (.istore 4, 2) := by decide +kernel
theorem dX7_to_32 : decode cX7_to 32 = .ok (.aload_n 0, 1) := by decide +kernel
theorem dX7_to_33 : decode cX7_to 33 = .ok (.getfield 16, 3) := by decide +kernel
theorem dX7_to_36 : decode cX7_to 36 = .ok (.iload_n 1, 1) := by decide +kernel
theorem dX7_to_37 : decode cX7_to 37 = .ok (.iaload, 1) := by decide +kernel
theorem dX7_to_38 : decode cX7_to 38 = .ok (.istore 5, 2) := by decide +kernel
theorem dX7_to_40 : decode cX7_to 40 = .ok (.bipush 60, 2) := by decide +kernel
theorem dX7_to_42 : decode cX7_to 42 = .ok (.iload_n 3, 1) := by decide +kernel
theorem dX7_to_43 : decode cX7_to 43 = .ok (.imul, 1) := by decide +kernel
theorem dX7_to_44 : decode cX7_to 44 = .ok (.istore 6, 2) := by decide +kernel
theorem dX7_to_46 : decode cX7_to 46 = .ok (.iload 4, 2) := by decide +kernel
theorem dX7_to_48 : decode cX7_to 48 = .ok (.iload_n 2, 1) := by decide +kernel
theorem dX7_to_49 : decode cX7_to 49 = .ok (.if_icmp .ne 12, 3) := by decide +kernel
theorem dX7_to_52 : decode cX7_to 52 = .ok (.iload 5, 2) := by decide +kernel
theorem dX7_to_54 : decode cX7_to 54 = .ok (.iload 6, 2) := by decide +kernel
theorem dX7_to_56 : decode cX7_to 56 = .ok (.if_icmp .ne 5, 3) := by decide +kernel
theorem dX7_to_59 : decode cX7_to 59 = .ok (.iconst (-1), 1) := by decide +kernel
theorem dX7_to_60 : decode cX7_to 60 = .ok (.ireturn, 1) := by decide +kernel
theorem dX7_to_61 : decode cX7_to 61 = .ok (.iload_n 2, 1) := by decide +kernel
theorem dX7_to_62 : decode cX7_to 62 = .ok (.iload 4, 2) := by decide +kernel
theorem dX7_to_64 : decode cX7_to 64 = .ok (.isub, 1) := by decide +kernel
theorem dX7_to_65 : decode cX7_to 65 = .ok (.sipush 540, 3) := by decide +kernel
theorem dX7_to_68 : decode cX7_to 68 = .ok (.iadd, 1) := by decide +kernel
theorem dX7_to_69 : decode cX7_to 69 = .ok (.sipush 360, 3) := by decide +kernel
theorem dX7_to_72 : decode cX7_to 72 = .ok (.irem, 1) := by decide +kernel
theorem dX7_to_73 : decode cX7_to 73 = .ok (.sipush 180, 3) := by decide +kernel
theorem dX7_to_76 : decode cX7_to 76 = .ok (.isub, 1) := by decide +kernel
theorem dX7_to_77 : decode cX7_to 77 = .ok (.istore 7, 2) := by decide +kernel
theorem dX7_to_79 : decode cX7_to 79 = .ok (.iload 7, 2) := by decide +kernel
theorem dX7_to_81 : decode cX7_to 81 = .ok (.sipush (-180), 3) := by decide +kernel
theorem dX7_to_84 : decode cX7_to 84 = .ok (.if_icmp .ne 5, 3) := by decide +kernel
theorem dX7_to_87 : decode cX7_to 87 = .ok (.iconst (-1), 1) := by decide +kernel
theorem dX7_to_88 : decode cX7_to 88 = .ok (.ireturn, 1) := by decide +kernel
theorem dX7_to_89 : decode cX7_to 89 = .ok (.aload_n 0, 1) := by decide +kernel
theorem dX7_to_90 : decode cX7_to 90 = .ok (.iload 4, 2) := by decide +kernel
theorem dX7_to_92 : decode cX7_to 92 = .ok (.iload 7, 2) := by decide +kernel
theorem dX7_to_94 : decode cX7_to 94 = .ok (.invokevirtual 99, 3) := by decide +kernel
theorem dX7_to_97 : decode cX7_to 97 = .ok (.istore 8, 2) := by decide +kernel
theorem dX7_to_99 : decode cX7_to 99 = .ok (.aload_n 0, 1) := by decide +kernel
theorem dX7_to_100 : decode cX7_to 100 = .ok (.getfield 92, 3) := by decide +kernel
theorem dX7_to_103 : decode cX7_to 103 = .ok (.iload 8, 2) := by decide +kernel
theorem dX7_to_105 : decode cX7_to 105 = .ok (.iadd, 1) := by decide +kernel
theorem dX7_to_106 : decode cX7_to 106 = .ok (.sipush 600, 3) := by decide +kernel
theorem dX7_to_109 : decode cX7_to 109 = .ok (.if_icmp .le 5, 3) := by decide +kernel
theorem dX7_to_112 : decode cX7_to 112 = .ok (.iconst (-1), 1) := by decide +kernel
theorem dX7_to_113 : decode cX7_to 113 = .ok (.ireturn, 1) := by decide +kernel
theorem dX7_to_114 : decode cX7_to 114 = .ok (.iload 7, 2) := by decide +kernel
theorem dX7_to_116 : decode cX7_to 116 = .ok (.ifCond .ne 17, 3) := by decide +kernel
theorem dX7_to_119 : decode cX7_to 119 = .ok (.aload_n 0, 1) := by decide +kernel
theorem dX7_to_120 : decode cX7_to 120 = .ok (.iload_n 1, 1) := by decide +kernel
theorem dX7_to_121 : decode cX7_to 121 = .ok (.iload 4, 2) := by decide +kernel
theorem dX7_to_123 : decode cX7_to 123 = .ok (.iload 5, 2) := by decide +kernel
theorem dX7_to_125 : decode cX7_to 125 = .ok (.iload 6, 2) := by decide +kernel
theorem dX7_to_127 : decode cX7_to 127 = .ok (.invokevirtual 102, 3) := by decide +kernel
theorem dX7_to_130 : decode cX7_to 130 = .ok (.goto 16, 3) := by decide +kernel
theorem dX7_to_133 : decode cX7_to 133 = .ok (.aload_n 0, 1) := by decide +kernel
theorem dX7_to_134 : decode cX7_to 134 = .ok (.iload_n 1, 1) := by decide +kernel
theorem dX7_to_135 : decode cX7_to 135 = .ok (.iload 4, 2) := by decide +kernel
theorem dX7_to_137 : decode cX7_to 137 = .ok (.iload 5, 2) := by decide +kernel
theorem dX7_to_139 : decode cX7_to 139 = .ok (.iload 6, 2) := by decide +kernel
theorem dX7_to_141 : decode cX7_to 141 = .ok (.iload 7, 2) := by decide +kernel
theorem dX7_to_143 : decode cX7_to 143 = .ok (.invokevirtual 106, 3) := by decide +kernel
theorem dX7_to_146 : decode cX7_to 146 = .ok (.aload_n 0, 1) := by decide +kernel
theorem dX7_to_147 : decode cX7_to 147 = .ok (.getfield 13, 3) := by decide +kernel
theorem dX7_to_150 : decode cX7_to 150 = .ok (.iload_n 1, 1) := by decide +kernel
theorem dX7_to_151 : decode cX7_to 151 = .ok (.iload_n 2, 1) := by decide +kernel
theorem dX7_to_152 : decode cX7_to 152 = .ok (.iastore, 1) := by decide +kernel
theorem dX7_to_153 : decode cX7_to 153 = .ok (.aload_n 0, 1) := by decide +kernel
theorem dX7_to_154 : decode cX7_to 154 = .ok (.getfield 16, 3) := by decide +kernel
theorem dX7_to_157 : decode cX7_to 157 = .ok (.iload_n 1, 1) := by decide +kernel
theorem dX7_to_158 : decode cX7_to 158 = .ok (.iload 6, 2) := by decide +kernel
theorem dX7_to_160 : decode cX7_to 160 = .ok (.iastore, 1) := by decide +kernel
theorem dX7_to_161 : decode cX7_to 161 = .ok (.iload 8, 2) := by decide +kernel
theorem dX7_to_163 : decode cX7_to 163 = .ok (.ireturn, 1) := by decide +kernel
theorem dX7_stays_0 : decode cX7_stays 0 = .ok (.iload_n 2, 1) := by decide +kernel
theorem dX7_stays_1 : decode cX7_stays 1 = .ok (.aload_n 0, 1) := by decide +kernel
theorem dX7_stays_2 : decode cX7_stays 2 = .ok (.getfield 66, 3) := by decide +kernel
theorem dX7_stays_5 : decode cX7_stays 5 = .ok (.idiv, 1) := by decide +kernel
theorem dX7_stays_6 : decode cX7_stays 6 = .ok (.istore 5, 2) := by decide +kernel
theorem dX7_stays_8 : decode cX7_stays 8 = .ok (.iconst 2, 1) := by decide +kernel
theorem dX7_stays_9 : decode cX7_stays 9 = .ok (.iload_n 2, 1) := by decide +kernel
theorem dX7_stays_10 : decode cX7_stays 10 = .ok (.iload 5, 2) := by decide +kernel
theorem dX7_stays_12 : decode cX7_stays 12 = .ok (.aload_n 0, 1) := by decide +kernel
theorem dX7_stays_13 : decode cX7_stays 13 = .ok (.getfield 66, 3) := by decide +kernel
theorem dX7_stays_16 : decode cX7_stays 16 = .ok (.imul, 1) := by decide +kernel
theorem dX7_stays_17 : decode cX7_stays 17 = .ok (.isub, 1) := by decide +kernel
theorem dX7_stays_18 : decode cX7_stays 18 = .ok (.imul, 1) := by decide +kernel
theorem dX7_stays_19 : decode cX7_stays 19 = .ok (.aload_n 0, 1) := by decide +kernel
theorem dX7_stays_20 : decode cX7_stays 20 = .ok (.getfield 66, 3) := by decide +kernel
theorem dX7_stays_23 : decode cX7_stays 23 = .ok (.isub, 1) := by decide +kernel
theorem dX7_stays_24 : decode cX7_stays 24 = .ok (.istore 6, 2) := by decide +kernel
theorem dX7_stays_26 : decode cX7_stays 26 = .ok (.aload_n 0, 1) := by decide +kernel
theorem dX7_stays_27 : decode cX7_stays 27 = .ok (.iload 5, 2) := by decide +kernel
theorem dX7_stays_29 : decode cX7_stays 29 = .ok (.iload_n 1, 1) := by decide +kernel
theorem dX7_stays_30 : decode cX7_stays 30 = .ok (.iload 6, 2) := by decide +kernel
theorem dX7_stays_32 : decode cX7_stays 32 = .ok (.iload_n 3, 1) := by decide +kernel
theorem dX7_stays_33 : decode cX7_stays 33 = .ok (.iload 6, 2) := by decide +kernel
theorem dX7_stays_35 : decode cX7_stays 35 = .ok (.iload 4, 2) := by decide +kernel
theorem dX7_stays_37 : decode cX7_stays 37 = .ok (.invokevirtual 110, 3) := by decide +kernel
theorem dX7_stays_40 : decode cX7_stays 40 = .ok (.aload_n 0, 1) := by decide +kernel
theorem dX7_stays_41 : decode cX7_stays 41 = .ok (.iload_n 2, 1) := by decide +kernel
theorem dX7_stays_42 : decode cX7_stays 42 = .ok (.invokevirtual 95, 3) := by decide +kernel
theorem dX7_stays_45 : decode cX7_stays 45 = .ok (.ifCond .eq 33, 3) := by decide +kernel
theorem dX7_stays_48 : decode cX7_stays 48 = .ok (.aload_n 0, 1) := by decide +kernel
theorem dX7_stays_49 : decode cX7_stays 49 = .ok (.iload 5, 2) := by decide +kernel
theorem dX7_stays_51 : decode cX7_stays 51 = .ok (.aload_n 0, 1) := by decide +kernel
theorem dX7_stays_52 : decode cX7_stays 52 = .ok (.getfield 62, 3) := by decide +kernel
theorem dX7_stays_55 : decode cX7_stays 55 = .ok (.iadd, 1) := by decide +kernel
theorem dX7_stays_56 : decode cX7_stays 56 = .ok (.iconst 1, 1) := by decide +kernel
theorem dX7_stays_57 : decode cX7_stays 57 = .ok (.isub, 1) := by decide +kernel
theorem dX7_stays_58 : decode cX7_stays 58 = .ok (.aload_n 0, 1) := by decide +kernel
theorem dX7_stays_59 : decode cX7_stays 59 = .ok (.getfield 62, 3) := by decide +kernel
theorem dX7_stays_62 : decode cX7_stays 62 = .ok (.irem, 1) := by decide +kernel
theorem dX7_stays_63 : decode cX7_stays 63 = .ok (.iload_n 1, 1) := by decide +kernel
theorem dX7_stays_64 : decode cX7_stays 64 = .ok (.aload_n 0, 1) := by decide +kernel
theorem dX7_stays_65 : decode cX7_stays 65 = .ok (.getfield 66, 3) := by decide +kernel
theorem dX7_stays_68 : decode cX7_stays 68 = .ok (.iload_n 3, 1) := by decide +kernel
theorem dX7_stays_69 : decode cX7_stays 69 = .ok (.aload_n 0, 1) := by decide +kernel
theorem dX7_stays_70 : decode cX7_stays 70 = .ok (.getfield 66, 3) := by decide +kernel
theorem dX7_stays_73 : decode cX7_stays 73 = .ok (.iload 4, 2) := by decide +kernel
theorem dX7_stays_75 : decode cX7_stays 75 = .ok (.invokevirtual 110, 3) := by decide +kernel
theorem dX7_stays_78 : decode cX7_stays 78 = .ok (.return_, 1) := by decide +kernel
theorem dX7_goes_0 : decode cX7_goes 0 = .ok (.iload 5, 2) := by decide +kernel
theorem dX7_goes_2 : decode cX7_goes 2 = .ok (.ifCond .ge 9, 3) := by decide +kernel
theorem dX7_goes_5 : decode cX7_goes 5 = .ok (.iload 5, 2) := by decide +kernel
theorem dX7_goes_7 : decode cX7_goes 7 = .ok (.ineg, 1) := by decide +kernel
theorem dX7_goes_8 : decode cX7_goes 8 = .ok (.goto 5, 3) := by decide +kernel
theorem dX7_goes_11 : decode cX7_goes 11 = .ok (.iload 5, 2) := by decide +kernel
theorem dX7_goes_13 : decode cX7_goes 13 = .ok (.istore 6, 2) := by decide +kernel
theorem dX7_goes_15 : decode cX7_goes 15 = .ok (.iload 5, 2) := by decide +kernel
theorem dX7_goes_17 : decode cX7_goes 17 = .ok (.ifCond .ge 7, 3) := by decide +kernel
theorem dX7_goes_20 : decode cX7_goes 20 = .ok (.iconst (-1), 1) := by decide +kernel
theorem dX7_goes_21 : decode cX7_goes 21 = .ok (.goto 4, 3) := by decide +kernel
theorem dX7_goes_24 : decode cX7_goes 24 = .ok (.iconst 1, 1) := by decide +kernel
theorem dX7_goes_25 : decode cX7_goes 25 = .ok (.istore 7, 2) := by decide +kernel
theorem dX7_goes_27 : decode cX7_goes 27 = .ok (.iconst 0, 1) := by decide +kernel
theorem dX7_goes_28 : decode cX7_goes 28 = .ok (.istore 8, 2) := by decide +kernel
theorem dX7_goes_30 : decode cX7_goes 30 = .ok (.iconst 1, 1) := by decide +kernel
theorem dX7_goes_31 : decode cX7_goes 31 = .ok (.istore 9, 2) := by decide +kernel
theorem dX7_goes_33 : decode cX7_goes 33 = .ok (.iload 9, 2) := by decide +kernel
theorem dX7_goes_35 : decode cX7_goes 35 = .ok (.iload 6, 2) := by decide +kernel
theorem dX7_goes_37 : decode cX7_goes 37 = .ok (.if_icmp .gt 184, 3) := by decide +kernel
theorem dX7_goes_40 : decode cX7_goes 40 = .ok (.iload_n 2, 1) := by decide +kernel
theorem dX7_goes_41 : decode cX7_goes 41 = .ok (.iload 7, 2) := by decide +kernel
theorem dX7_goes_43 : decode cX7_goes 43 = .ok (.iload 9, 2) := by decide +kernel
theorem dX7_goes_45 : decode cX7_goes 45 = .ok (.imul, 1) := by decide +kernel
theorem dX7_goes_46 : decode cX7_goes 46 = .ok (.iadd, 1) := by decide +kernel
theorem dX7_goes_47 : decode cX7_goes 47 = .ok (.sipush 360, 3) := by decide +kernel
theorem dX7_goes_50 : decode cX7_goes 50 = .ok (.iadd, 1) := by decide +kernel
theorem dX7_goes_51 : decode cX7_goes 51 = .ok (.sipush 360, 3) := by decide +kernel
theorem dX7_goes_54 : decode cX7_goes 54 = .ok (.irem, 1) := by decide +kernel
theorem dX7_goes_55 : decode cX7_goes 55 = .ok (.istore 10, 2) := by decide +kernel
theorem dX7_goes_57 : decode cX7_goes 57 = .ok (.iload 9, 2) := by decide +kernel
theorem dX7_goes_59 : decode cX7_goes 59 = .ok (.iload 6, 2) := by decide +kernel
theorem dX7_goes_61 : decode cX7_goes 61 = .ok (.if_icmp .ge 15, 3) := by decide +kernel
theorem dX7_goes_64 : decode cX7_goes 64 = .ok (.aload_n 0, 1) := by decide +kernel
theorem dX7_goes_65 : decode cX7_goes 65 = .ok (.iload 10, 2) := by decide +kernel
theorem dX7_goes_67 : decode cX7_goes 67 = .ok (.invokevirtual 95, 3) := by decide +kernel
theorem dX7_goes_70 : decode cX7_goes 70 = .ok (.ifCond .ne 6, 3) := by decide +kernel
theorem dX7_goes_73 : decode cX7_goes 73 = .ok (.goto 142, 3) := by decide +kernel
theorem dX7_goes_76 : decode cX7_goes 76 = .ok (.iload_n 2, 1) := by decide +kernel
theorem dX7_goes_77 : decode cX7_goes 77 = .ok (.iload 7, 2) := by decide +kernel
theorem dX7_goes_79 : decode cX7_goes 79 = .ok (.iload 8, 2) := by decide +kernel
theorem dX7_goes_81 : decode cX7_goes 81 = .ok (.imul, 1) := by decide +kernel
theorem dX7_goes_82 : decode cX7_goes 82 = .ok (.iadd, 1) := by decide +kernel
theorem dX7_goes_83 : decode cX7_goes 83 = .ok (.sipush 360, 3) := by decide +kernel
theorem dX7_goes_86 : decode cX7_goes 86 = .ok (.iadd, 1) := by decide +kernel
theorem dX7_goes_87 : decode cX7_goes 87 = .ok (.sipush 360, 3) := by decide +kernel
theorem dX7_goes_90 : decode cX7_goes 90 = .ok (.irem, 1) := by decide +kernel
theorem dX7_goes_91 : decode cX7_goes 91 = .ok (.istore 11, 2) := by decide +kernel
theorem dX7_goes_93 : decode cX7_goes 93 = .ok (.iload 7, 2) := by decide +kernel
theorem dX7_goes_95 : decode cX7_goes 95 = .ok (.ifCond .le 13, 3) := by decide +kernel
theorem dX7_goes_98 : decode cX7_goes 98 = .ok (.iload 11, 2) := by decide +kernel
theorem dX7_goes_100 : decode cX7_goes 100 = .ok (.aload_n 0, 1) := by decide +kernel
theorem dX7_goes_101 : decode cX7_goes 101 = .ok (.getfield 66, 3) := by decide +kernel
theorem dX7_goes_104 : decode cX7_goes 104 = .ok (.idiv, 1) := by decide +kernel
theorem dX7_goes_105 : decode cX7_goes 105 = .ok (.goto 18, 3) := by decide +kernel
theorem dX7_goes_108 : decode cX7_goes 108 = .ok (.iload 11, 2) := by decide +kernel
theorem dX7_goes_110 : decode cX7_goes 110 = .ok (.sipush 359, 3) := by decide +kernel
theorem dX7_goes_113 : decode cX7_goes 113 = .ok (.iadd, 1) := by decide +kernel
theorem dX7_goes_114 : decode cX7_goes 114 = .ok (.sipush 360, 3) := by decide +kernel
theorem dX7_goes_117 : decode cX7_goes 117 = .ok (.irem, 1) := by decide +kernel
theorem dX7_goes_118 : decode cX7_goes 118 = .ok (.aload_n 0, 1) := by decide +kernel
theorem dX7_goes_119 : decode cX7_goes 119 = .ok (.getfield 66, 3) := by decide +kernel
theorem dX7_goes_122 : decode cX7_goes 122 = .ok (.idiv, 1) := by decide +kernel
theorem dX7_goes_123 : decode cX7_goes 123 = .ok (.istore 12, 2) := by decide +kernel
theorem dX7_goes_125 : decode cX7_goes 125 = .ok (.iload 7, 2) := by decide +kernel
theorem dX7_goes_127 : decode cX7_goes 127 = .ok (.ifCond .le 16, 3) := by decide +kernel
theorem dX7_goes_130 : decode cX7_goes 130 = .ok (.iload 11, 2) := by decide +kernel
theorem dX7_goes_132 : decode cX7_goes 132 = .ok (.iload 12, 2) := by decide +kernel
theorem dX7_goes_134 : decode cX7_goes 134 = .ok (.aload_n 0, 1) := by decide +kernel
theorem dX7_goes_135 : decode cX7_goes 135 = .ok (.getfield 66, 3) := by decide +kernel
theorem dX7_goes_138 : decode cX7_goes 138 = .ok (.imul, 1) := by decide +kernel
theorem dX7_goes_139 : decode cX7_goes 139 = .ok (.isub, 1) := by decide +kernel
theorem dX7_goes_140 : decode cX7_goes 140 = .ok (.goto 11, 3) := by decide +kernel
theorem dX7_goes_143 : decode cX7_goes 143 = .ok (.aload_n 0, 1) := by decide +kernel
theorem dX7_goes_144 : decode cX7_goes 144 = .ok (.iload 11, 2) := by decide +kernel
theorem dX7_goes_146 : decode cX7_goes 146 = .ok (.iload 12, 2) := by decide +kernel
theorem dX7_goes_148 : decode cX7_goes 148 = .ok (.invokevirtual 114, 3) := by decide +kernel
theorem dX7_goes_151 : decode cX7_goes 151 = .ok (.istore 13, 2) := by decide +kernel
theorem dX7_goes_153 : decode cX7_goes 153 = .ok (.iload 13, 2) := by decide +kernel
theorem dX7_goes_155 : decode cX7_goes 155 = .ok (.iload 7, 2) := by decide +kernel
theorem dX7_goes_157 : decode cX7_goes 157 = .ok (.iload 9, 2) := by decide +kernel
theorem dX7_goes_159 : decode cX7_goes 159 = .ok (.iload 8, 2) := by decide +kernel
theorem dX7_goes_161 : decode cX7_goes 161 = .ok (.isub, 1) := by decide +kernel
theorem dX7_goes_162 : decode cX7_goes 162 = .ok (.imul, 1) := by decide +kernel
theorem dX7_goes_163 : decode cX7_goes 163 = .ok (.iadd, 1) := by decide +kernel
theorem dX7_goes_164 : decode cX7_goes 164 = .ok (.istore 14, 2) := by decide +kernel
theorem dX7_goes_166 : decode cX7_goes 166 = .ok (.aload_n 0, 1) := by decide +kernel
theorem dX7_goes_167 : decode cX7_goes 167 = .ok (.iload 12, 2) := by decide +kernel
theorem dX7_goes_169 : decode cX7_goes 169 = .ok (.iload_n 1, 1) := by decide +kernel
theorem dX7_goes_170 : decode cX7_goes 170 = .ok (.iconst 2, 1) := by decide +kernel
theorem dX7_goes_171 : decode cX7_goes 171 = .ok (.iload 13, 2) := by decide +kernel
theorem dX7_goes_173 : decode cX7_goes 173 = .ok (.imul, 1) := by decide +kernel
theorem dX7_goes_174 : decode cX7_goes 174 = .ok (.aload_n 0, 1) := by decide +kernel
theorem dX7_goes_175 : decode cX7_goes 175 = .ok (.getfield 66, 3) := by decide +kernel
theorem dX7_goes_178 : decode cX7_goes 178 = .ok (.isub, 1) := by decide +kernel
theorem dX7_goes_179 : decode cX7_goes 179 = .ok (.iload_n 3, 1) := by decide +kernel
theorem dX7_goes_180 : decode cX7_goes 180 = .ok (.iload 4, 2) := by decide +kernel
theorem dX7_goes_182 : decode cX7_goes 182 = .ok (.iload 8, 2) := by decide +kernel
theorem dX7_goes_184 : decode cX7_goes 184 = .ok (.iload 6, 2) := by decide +kernel
theorem dX7_goes_186 : decode cX7_goes 186 = .ok (.invokestatic 117, 3) := by decide +kernel
theorem dX7_goes_189 : decode cX7_goes 189 = .ok (.iconst 2, 1) := by decide +kernel
theorem dX7_goes_190 : decode cX7_goes 190 = .ok (.iload 14, 2) := by decide +kernel
theorem dX7_goes_192 : decode cX7_goes 192 = .ok (.imul, 1) := by decide +kernel
theorem dX7_goes_193 : decode cX7_goes 193 = .ok (.aload_n 0, 1) := by decide +kernel
theorem dX7_goes_194 : decode cX7_goes 194 = .ok (.getfield 66, 3) := by decide +kernel
theorem dX7_goes_197 : decode cX7_goes 197 = .ok (.isub, 1) := by decide +kernel
theorem dX7_goes_198 : decode cX7_goes 198 = .ok (.iload_n 3, 1) := by decide +kernel
theorem dX7_goes_199 : decode cX7_goes 199 = .ok (.iload 4, 2) := by decide +kernel
theorem dX7_goes_201 : decode cX7_goes 201 = .ok (.iload 9, 2) := by decide +kernel
theorem dX7_goes_203 : decode cX7_goes 203 = .ok (.iload 6, 2) := by decide +kernel
theorem dX7_goes_205 : decode cX7_goes 205 = .ok (.invokestatic 117, 3) := by decide +kernel
theorem dX7_goes_208 : decode cX7_goes 208 = .ok (.invokevirtual 110, 3) := by decide +kernel
theorem dX7_goes_211 : decode cX7_goes 211 = .ok (.iload 9, 2) := by decide +kernel
theorem dX7_goes_213 : decode cX7_goes 213 = .ok (.istore 8, 2) := by decide +kernel
theorem dX7_goes_215 : decode cX7_goes 215 = .ok (.iinc 9 1, 3) := by decide +kernel
theorem dX7_goes_218 : decode cX7_goes 218 = .ok (.goto (-185), 3) := by decide +kernel
theorem dX7_goes_221 : decode cX7_goes 221 = .ok (.return_, 1) := by decide +kernel
theorem dX7_sideWest_0 : decode cX7_sideWest 0 = .ok (.iload_n 1, 1) := by decide +kernel
theorem dX7_sideWest_1 : decode cX7_sideWest 1 = .ok (.iload_n 2, 1) := by decide +kernel
theorem dX7_sideWest_2 : decode cX7_sideWest 2 = .ok (.aload_n 0, 1) := by decide +kernel
theorem dX7_sideWest_3 : decode cX7_sideWest 3 = .ok (.getfield 66, 3) := by decide +kernel
theorem dX7_sideWest_6 : decode cX7_sideWest 6 = .ok (.imul, 1) := by decide +kernel
theorem dX7_sideWest_7 : decode cX7_sideWest 7 = .ok (.isub, 1) := by decide +kernel
theorem dX7_sideWest_8 : decode cX7_sideWest 8 = .ok (.sipush 360, 3) := by decide +kernel
theorem dX7_sideWest_11 : decode cX7_sideWest 11 = .ok (.iadd, 1) := by decide +kernel
theorem dX7_sideWest_12 : decode cX7_sideWest 12 = .ok (.sipush 360, 3) := by decide +kernel
theorem dX7_sideWest_15 : decode cX7_sideWest 15 = .ok (.irem, 1) := by decide +kernel
theorem dX7_sideWest_16 : decode cX7_sideWest 16 = .ok (.ireturn, 1) := by decide +kernel
theorem dX7_pieces_0 : decode cX7_pieces 0 = .ok (.aload_n 0, 1) := by decide +kernel
theorem dX7_pieces_1 : decode cX7_pieces 1 = .ok (.iload_n 1, 1) := by decide +kernel
theorem dX7_pieces_2 : decode cX7_pieces 2 = .ok (.invokevirtual 121, 3) := by decide +kernel
theorem dX7_pieces_5 : decode cX7_pieces 5 = .ok (.ifCond .ne 5, 3) := by decide +kernel
theorem dX7_pieces_8 : decode cX7_pieces 8 = .ok (.iconst (-1), 1) := by decide +kernel
theorem dX7_pieces_9 : decode cX7_pieces 9 = .ok (.ireturn, 1) := by decide +kernel
theorem dX7_pieces_10 : decode cX7_pieces 10 = .ok (.iconst 0, 1) := by decide +kernel
theorem dX7_pieces_11 : decode cX7_pieces 11 = .ok (.istore_n 2, 1) := by decide +kernel
theorem dX7_pieces_12 : decode cX7_pieces 12 = .ok (.iconst 0, 1) := by decide +kernel
theorem dX7_pieces_13 : decode cX7_pieces 13 = .ok (.istore_n 3, 1) := by decide +kernel
theorem dX7_pieces_14 : decode cX7_pieces 14 = .ok (.iload_n 3, 1) := by decide +kernel
theorem dX7_pieces_15 : decode cX7_pieces 15 = .ok (.aload_n 0, 1) := by decide +kernel
theorem dX7_pieces_16 : decode cX7_pieces 16 = .ok (.getfield 92, 3) := by decide +kernel
theorem dX7_pieces_19 : decode cX7_pieces 19 = .ok (.if_icmp .ge 27, 3) := by decide +kernel
theorem dX7_pieces_22 : decode cX7_pieces 22 = .ok (.iload_n 2, 1) := by decide +kernel
theorem dX7_pieces_23 : decode cX7_pieces 23 = .ok (.aload_n 0, 1) := by decide +kernel
theorem dX7_pieces_24 : decode cX7_pieces 24 = .ok (.getfield 19, 3) := by decide +kernel
theorem dX7_pieces_27 : decode cX7_pieces 27 = .ok (.iload_n 3, 1) := by decide +kernel
theorem dX7_pieces_28 : decode cX7_pieces 28 = .ok (.iaload, 1) := by decide +kernel
theorem dX7_pieces_29 : decode cX7_pieces 29 = .ok (.iload_n 1, 1) := by decide +kernel
theorem dX7_pieces_30 : decode cX7_pieces 30 = .ok (.if_icmp .ne 7, 3) := by decide +kernel
theorem dX7_pieces_33 : decode cX7_pieces 33 = .ok (.iconst 1, 1) := by decide +kernel
theorem dX7_pieces_34 : decode cX7_pieces 34 = .ok (.goto 4, 3) := by decide +kernel
theorem dX7_pieces_37 : decode cX7_pieces 37 = .ok (.iconst 0, 1) := by decide +kernel
theorem dX7_pieces_38 : decode cX7_pieces 38 = .ok (.iadd, 1) := by decide +kernel
theorem dX7_pieces_39 : decode cX7_pieces 39 = .ok (.istore_n 2, 1) := by decide +kernel
theorem dX7_pieces_40 : decode cX7_pieces 40 = .ok (.iinc 3 1, 3) := by decide +kernel
theorem dX7_pieces_43 : decode cX7_pieces 43 = .ok (.goto (-29), 3) := by decide +kernel
theorem dX7_pieces_46 : decode cX7_pieces 46 = .ok (.iload_n 2, 1) := by decide +kernel
theorem dX7_pieces_47 : decode cX7_pieces 47 = .ok (.ireturn, 1) := by decide +kernel
theorem dX7_piece_0 : decode cX7_piece 0 = .ok (.iload_n 3, 1) := by decide +kernel
theorem dX7_piece_1 : decode cX7_piece 1 = .ok (.iconst 0, 1) := by decide +kernel
theorem dX7_piece_2 : decode cX7_piece 2 = .ok (.iconst 4, 1) := by decide +kernel
theorem dX7_piece_3 : decode cX7_piece 3 = .ok (.invokestatic 69, 3) := by decide +kernel
theorem dX7_piece_6 : decode cX7_piece 6 = .ok (.ifCond .ne 5, 3) := by decide +kernel
theorem dX7_piece_9 : decode cX7_piece 9 = .ok (.iconst (-1), 1) := by decide +kernel
theorem dX7_piece_10 : decode cX7_piece 10 = .ok (.ireturn, 1) := by decide +kernel
theorem dX7_piece_11 : decode cX7_piece 11 = .ok (.iload_n 2, 1) := by decide +kernel
theorem dX7_piece_12 : decode cX7_piece 12 = .ok (.istore 4, 2) := by decide +kernel
theorem dX7_piece_14 : decode cX7_piece 14 = .ok (.iconst 0, 1) := by decide +kernel
theorem dX7_piece_15 : decode cX7_piece 15 = .ok (.istore 5, 2) := by decide +kernel
theorem dX7_piece_17 : decode cX7_piece 17 = .ok (.iload 5, 2) := by decide +kernel
theorem dX7_piece_19 : decode cX7_piece 19 = .ok (.aload_n 0, 1) := by decide +kernel
theorem dX7_piece_20 : decode cX7_piece 20 = .ok (.getfield 92, 3) := by decide +kernel
theorem dX7_piece_23 : decode cX7_piece 23 = .ok (.if_icmp .ge 63, 3) := by decide +kernel
theorem dX7_piece_26 : decode cX7_piece 26 = .ok (.iload_n 2, 1) := by decide +kernel
theorem dX7_piece_27 : decode cX7_piece 27 = .ok (.ifCond .lt 59, 3) := by decide +kernel
theorem dX7_piece_30 : decode cX7_piece 30 = .ok (.aload_n 0, 1) := by decide +kernel
theorem dX7_piece_31 : decode cX7_piece 31 = .ok (.getfield 19, 3) := by decide +kernel
theorem dX7_piece_34 : decode cX7_piece 34 = .ok (.iload 5, 2) := by decide +kernel
theorem dX7_piece_36 : decode cX7_piece 36 = .ok (.iaload, 1) := by decide +kernel
theorem dX7_piece_37 : decode cX7_piece 37 = .ok (.iload_n 1, 1) := by decide +kernel
theorem dX7_piece_38 : decode cX7_piece 38 = .ok (.if_icmp .eq 6, 3) := by decide +kernel
theorem dX7_piece_41 : decode cX7_piece 41 = .ok (.goto 39, 3) := by decide +kernel
theorem dX7_piece_44 : decode cX7_piece 44 = .ok (.iload 4, 2) := by decide +kernel
theorem dX7_piece_46 : decode cX7_piece 46 = .ok (.ifCond .ne 31, 3) := by decide +kernel
theorem dX7_piece_49 : decode cX7_piece 49 = .ok (.iload_n 3, 1) := by decide +kernel
theorem dX7_piece_50 : decode cX7_piece 50 = .ok (.ifCond .ne 13, 3) := by decide +kernel
theorem dX7_piece_53 : decode cX7_piece 53 = .ok (.aload_n 0, 1) := by decide +kernel
theorem dX7_piece_54 : decode cX7_piece 54 = .ok (.getfield 22, 3) := by decide +kernel
theorem dX7_piece_57 : decode cX7_piece 57 = .ok (.iload 5, 2) := by decide +kernel
theorem dX7_piece_59 : decode cX7_piece 59 = .ok (.iaload, 1) := by decide +kernel
theorem dX7_piece_60 : decode cX7_piece 60 = .ok (.goto 16, 3) := by decide +kernel
theorem dX7_piece_63 : decode cX7_piece 63 = .ok (.aload_n 0, 1) := by decide +kernel
theorem dX7_piece_64 : decode cX7_piece 64 = .ok (.getfield 25, 3) := by decide +kernel
theorem dX7_piece_67 : decode cX7_piece 67 = .ok (.iconst 4, 1) := by decide +kernel
theorem dX7_piece_68 : decode cX7_piece 68 = .ok (.iload 5, 2) := by decide +kernel
theorem dX7_piece_70 : decode cX7_piece 70 = .ok (.imul, 1) := by decide +kernel
theorem dX7_piece_71 : decode cX7_piece 71 = .ok (.iload_n 3, 1) := by decide +kernel
theorem dX7_piece_72 : decode cX7_piece 72 = .ok (.iadd, 1) := by decide +kernel
theorem dX7_piece_73 : decode cX7_piece 73 = .ok (.iconst 1, 1) := by decide +kernel
theorem dX7_piece_74 : decode cX7_piece 74 = .ok (.isub, 1) := by decide +kernel
theorem dX7_piece_75 : decode cX7_piece 75 = .ok (.iaload, 1) := by decide +kernel
theorem dX7_piece_76 : decode cX7_piece 76 = .ok (.ireturn, 1) := by decide +kernel
theorem dX7_piece_77 : decode cX7_piece 77 = .ok (.iinc 4 (-1), 3) := by decide +kernel
theorem dX7_piece_80 : decode cX7_piece 80 = .ok (.iinc 5 1, 3) := by decide +kernel
theorem dX7_piece_83 : decode cX7_piece 83 = .ok (.goto (-66), 3) := by decide +kernel
theorem dX7_piece_86 : decode cX7_piece 86 = .ok (.iload_n 3, 1) := by decide +kernel
theorem dX7_piece_87 : decode cX7_piece 87 = .ok (.ifCond .ne 7, 3) := by decide +kernel
theorem dX7_piece_90 : decode cX7_piece 90 = .ok (.iconst (-1), 1) := by decide +kernel
theorem dX7_piece_91 : decode cX7_piece 91 = .ok (.goto 5, 3) := by decide +kernel
theorem dX7_piece_94 : decode cX7_piece 94 = .ok (.ldc 81, 2) := by decide +kernel
theorem dX7_piece_96 : decode cX7_piece 96 = .ok (.ireturn, 1) := by decide +kernel
theorem dX7_paper_0 : decode cX7_paper 0 = .ok (.iload_n 1, 1) := by decide +kernel
theorem dX7_paper_1 : decode cX7_paper 1 = .ok (.iconst 0, 1) := by decide +kernel
theorem dX7_paper_2 : decode cX7_paper 2 = .ok (.bipush 50, 2) := by decide +kernel
theorem dX7_paper_4 : decode cX7_paper 4 = .ok (.invokestatic 69, 3) := by decide +kernel
theorem dX7_paper_7 : decode cX7_paper 7 = .ok (.ifCond .eq 29, 3) := by decide +kernel
theorem dX7_paper_10 : decode cX7_paper 10 = .ok (.iload_n 2, 1) := by decide +kernel
theorem dX7_paper_11 : decode cX7_paper 11 = .ok (.iconst 0, 1) := by decide +kernel
theorem dX7_paper_12 : decode cX7_paper 12 = .ok (.bipush 50, 2) := by decide +kernel
theorem dX7_paper_14 : decode cX7_paper 14 = .ok (.invokestatic 69, 3) := by decide +kernel
theorem dX7_paper_17 : decode cX7_paper 17 = .ok (.ifCond .eq 19, 3) := by decide +kernel
theorem dX7_paper_20 : decode cX7_paper 20 = .ok (.iload_n 1, 1) := by decide +kernel
theorem dX7_paper_21 : decode cX7_paper 21 = .ok (.aload_n 0, 1) := by decide +kernel
theorem dX7_paper_22 : decode cX7_paper 22 = .ok (.getfield 124, 3) := by decide +kernel
theorem dX7_paper_25 : decode cX7_paper 25 = .ok (.if_icmp .ne 13, 3) := by decide +kernel
theorem dX7_paper_28 : decode cX7_paper 28 = .ok (.iload_n 2, 1) := by decide +kernel
theorem dX7_paper_29 : decode cX7_paper 29 = .ok (.aload_n 0, 1) := by decide +kernel
theorem dX7_paper_30 : decode cX7_paper 30 = .ok (.getfield 127, 3) := by decide +kernel
theorem dX7_paper_33 : decode cX7_paper 33 = .ok (.if_icmp .ne 5, 3) := by decide +kernel
theorem dX7_paper_36 : decode cX7_paper 36 = .ok (.iconst 0, 1) := by decide +kernel
theorem dX7_paper_37 : decode cX7_paper 37 = .ok (.ireturn, 1) := by decide +kernel
theorem dX7_paper_38 : decode cX7_paper 38 = .ok (.aload_n 0, 1) := by decide +kernel
theorem dX7_paper_39 : decode cX7_paper 39 = .ok (.iload_n 1, 1) := by decide +kernel
theorem dX7_paper_40 : decode cX7_paper 40 = .ok (.putfield 124, 3) := by decide +kernel
theorem dX7_paper_43 : decode cX7_paper 43 = .ok (.aload_n 0, 1) := by decide +kernel
theorem dX7_paper_44 : decode cX7_paper 44 = .ok (.iload_n 2, 1) := by decide +kernel
theorem dX7_paper_45 : decode cX7_paper 45 = .ok (.putfield 127, 3) := by decide +kernel
theorem dX7_paper_48 : decode cX7_paper 48 = .ok (.iconst 0, 1) := by decide +kernel
theorem dX7_paper_49 : decode cX7_paper 49 = .ok (.istore_n 3, 1) := by decide +kernel
theorem dX7_paper_50 : decode cX7_paper 50 = .ok (.iload_n 3, 1) := by decide +kernel
theorem dX7_paper_51 : decode cX7_paper 51 = .ok (.aload_n 0, 1) := by decide +kernel
theorem dX7_paper_52 : decode cX7_paper 52 = .ok (.getfield 62, 3) := by decide +kernel
theorem dX7_paper_55 : decode cX7_paper 55 = .ok (.if_icmp .ge 16, 3) := by decide +kernel
theorem dX7_paper_58 : decode cX7_paper 58 = .ok (.aload_n 0, 1) := by decide +kernel
theorem dX7_paper_59 : decode cX7_paper 59 = .ok (.getfield 47, 3) := by decide +kernel
theorem dX7_paper_62 : decode cX7_paper 62 = .ok (.iload_n 3, 1) := by decide +kernel
theorem dX7_paper_63 : decode cX7_paper 63 = .ok (.iconst 1, 1) := by decide +kernel
theorem dX7_paper_64 : decode cX7_paper 64 = .ok (.bastore, 1) := by decide +kernel
theorem dX7_paper_65 : decode cX7_paper 65 = .ok (.iinc 3 1, 3) := by decide +kernel
theorem dX7_paper_68 : decode cX7_paper 68 = .ok (.goto (-18), 3) := by decide +kernel
theorem dX7_paper_71 : decode cX7_paper 71 = .ok (.iconst 1, 1) := by decide +kernel
theorem dX7_paper_72 : decode cX7_paper 72 = .ok (.ireturn, 1) := by decide +kernel
theorem dX7_grown_0 : decode cX7_grown 0 = .ok (.sipush 1000, 3) := by decide +kernel
theorem dX7_grown_3 : decode cX7_grown 3 = .ok (.iload_n 1, 1) := by decide +kernel
theorem dX7_grown_4 : decode cX7_grown 4 = .ok (.ifCond .ne 10, 3) := by decide +kernel
theorem dX7_grown_7 : decode cX7_grown 7 = .ok (.aload_n 0, 1) := by decide +kernel
theorem dX7_grown_8 : decode cX7_grown 8 = .ok (.getfield 124, 3) := by decide +kernel
theorem dX7_grown_11 : decode cX7_grown 11 = .ok (.goto 7, 3) := by decide +kernel
theorem dX7_grown_14 : decode cX7_grown 14 = .ok (.aload_n 0, 1) := by decide +kernel
theorem dX7_grown_15 : decode cX7_grown 15 = .ok (.getfield 127, 3) := by decide +kernel
theorem dX7_grown_18 : decode cX7_grown 18 = .ok (.iadd, 1) := by decide +kernel
theorem dX7_grown_19 : decode cX7_grown 19 = .ok (.ireturn, 1) := by decide +kernel
theorem dX7_drawn_0 : decode cX7_drawn 0 = .ok (.iload_n 2, 1) := by decide +kernel
theorem dX7_drawn_1 : decode cX7_drawn 1 = .ok (.iconst 0, 1) := by decide +kernel
theorem dX7_drawn_2 : decode cX7_drawn 2 = .ok (.iconst 1, 1) := by decide +kernel
theorem dX7_drawn_3 : decode cX7_drawn 3 = .ok (.invokestatic 69, 3) := by decide +kernel
theorem dX7_drawn_6 : decode cX7_drawn 6 = .ok (.ifCond .eq 32, 3) := by decide +kernel
theorem dX7_drawn_9 : decode cX7_drawn 9 = .ok (.iload_n 1, 1) := by decide +kernel
theorem dX7_drawn_10 : decode cX7_drawn 10 = .ok (.sipush (-10000), 3) := by decide +kernel
theorem dX7_drawn_13 : decode cX7_drawn 13 = .ok (.sipush 10000, 3) := by decide +kernel
theorem dX7_drawn_16 : decode cX7_drawn 16 = .ok (.invokestatic 69, 3) := by decide +kernel
theorem dX7_drawn_19 : decode cX7_drawn 19 = .ok (.ifCond .eq 19, 3) := by decide +kernel
theorem dX7_drawn_22 : decode cX7_drawn 22 = .ok (.sipush 1000, 3) := by decide +kernel
theorem dX7_drawn_25 : decode cX7_drawn 25 = .ok (.iload_n 1, 1) := by decide +kernel
theorem dX7_drawn_26 : decode cX7_drawn 26 = .ok (.imul, 1) := by decide +kernel
theorem dX7_drawn_27 : decode cX7_drawn 27 = .ok (.aload_n 0, 1) := by decide +kernel
theorem dX7_drawn_28 : decode cX7_drawn 28 = .ok (.iload_n 2, 1) := by decide +kernel
theorem dX7_drawn_29 : decode cX7_drawn 29 = .ok (.invokevirtual 130, 3) := by decide +kernel
theorem dX7_drawn_32 : decode cX7_drawn 32 = .ok (.invokestatic 89, 3) := by decide +kernel
theorem dX7_drawn_35 : decode cX7_drawn 35 = .ok (.goto 4, 3) := by decide +kernel
theorem dX7_drawn_38 : decode cX7_drawn 38 = .ok (.iconst (-1), 1) := by decide +kernel
theorem dX7_drawn_39 : decode cX7_drawn 39 = .ok (.ireturn, 1) := by decide +kernel
theorem dX7_wet_0 : decode cX7_wet 0 = .ok (.iload_n 2, 1) := by decide +kernel
theorem dX7_wet_1 : decode cX7_wet 1 = .ok (.iconst 0, 1) := by decide +kernel
theorem dX7_wet_2 : decode cX7_wet 2 = .ok (.iconst 1, 1) := by decide +kernel
theorem dX7_wet_3 : decode cX7_wet 3 = .ok (.invokestatic 69, 3) := by decide +kernel
theorem dX7_wet_6 : decode cX7_wet 6 = .ok (.ifCond .eq 32, 3) := by decide +kernel
theorem dX7_wet_9 : decode cX7_wet 9 = .ok (.iload_n 1, 1) := by decide +kernel
theorem dX7_wet_10 : decode cX7_wet 10 = .ok (.sipush (-10000), 3) := by decide +kernel
theorem dX7_wet_13 : decode cX7_wet 13 = .ok (.sipush 10000, 3) := by decide +kernel
theorem dX7_wet_16 : decode cX7_wet 16 = .ok (.invokestatic 69, 3) := by decide +kernel
theorem dX7_wet_19 : decode cX7_wet 19 = .ok (.ifCond .eq 19, 3) := by decide +kernel
theorem dX7_wet_22 : decode cX7_wet 22 = .ok (.iload_n 1, 1) := by decide +kernel
theorem dX7_wet_23 : decode cX7_wet 23 = .ok (.aload_n 0, 1) := by decide +kernel
theorem dX7_wet_24 : decode cX7_wet 24 = .ok (.iload_n 2, 1) := by decide +kernel
theorem dX7_wet_25 : decode cX7_wet 25 = .ok (.invokevirtual 130, 3) := by decide +kernel
theorem dX7_wet_28 : decode cX7_wet 28 = .ok (.imul, 1) := by decide +kernel
theorem dX7_wet_29 : decode cX7_wet 29 = .ok (.sipush 1000, 3) := by decide +kernel
theorem dX7_wet_32 : decode cX7_wet 32 = .ok (.invokestatic 89, 3) := by decide +kernel
theorem dX7_wet_35 : decode cX7_wet 35 = .ok (.goto 4, 3) := by decide +kernel
theorem dX7_wet_38 : decode cX7_wet 38 = .ok (.iconst (-1), 1) := by decide +kernel
theorem dX7_wet_39 : decode cX7_wet 39 = .ok (.ireturn, 1) := by decide +kernel
theorem dX7_isName_0 : decode cX7_isName 0 = .ok (.iload_n 1, 1) := by decide +kernel
theorem dX7_isName_1 : decode cX7_isName 1 = .ok (.iconst 0, 1) := by decide +kernel
theorem dX7_isName_2 : decode cX7_isName 2 = .ok (.aload_n 0, 1) := by decide +kernel
theorem dX7_isName_3 : decode cX7_isName 3 = .ok (.getfield 133, 3) := by decide +kernel
theorem dX7_isName_6 : decode cX7_isName 6 = .ok (.iconst 1, 1) := by decide +kernel
theorem dX7_isName_7 : decode cX7_isName 7 = .ok (.isub, 1) := by decide +kernel
theorem dX7_isName_8 : decode cX7_isName 8 = .ok (.invokestatic 69, 3) := by decide +kernel
theorem dX7_isName_11 : decode cX7_isName 11 = .ok (.ifCond .eq 16, 3) := by decide +kernel
theorem dX7_isName_14 : decode cX7_isName 14 = .ok (.aload_n 0, 1) := by decide +kernel
theorem dX7_isName_15 : decode cX7_isName 15 = .ok (.getfield 28, 3) := by decide +kernel
theorem dX7_isName_18 : decode cX7_isName 18 = .ok (.iload_n 1, 1) := by decide +kernel
theorem dX7_isName_19 : decode cX7_isName 19 = .ok (.baload, 1) := by decide +kernel
theorem dX7_isName_20 : decode cX7_isName 20 = .ok (.ifCond .eq 7, 3) := by decide +kernel
theorem dX7_isName_23 : decode cX7_isName 23 = .ok (.iconst 1, 1) := by decide +kernel
theorem dX7_isName_24 : decode cX7_isName 24 = .ok (.goto 4, 3) := by decide +kernel
theorem dX7_isName_27 : decode cX7_isName 27 = .ok (.iconst 0, 1) := by decide +kernel
theorem dX7_isName_28 : decode cX7_isName 28 = .ok (.ireturn, 1) := by decide +kernel
theorem dX7_namesIn_0 : decode cX7_namesIn 0 = .ok (.iconst 0, 1) := by decide +kernel
theorem dX7_namesIn_1 : decode cX7_namesIn 1 = .ok (.istore_n 2, 1) := by decide +kernel
theorem dX7_namesIn_2 : decode cX7_namesIn 2 = .ok (.iconst 0, 1) := by decide +kernel
theorem dX7_namesIn_3 : decode cX7_namesIn 3 = .ok (.istore_n 3, 1) := by decide +kernel
theorem dX7_namesIn_4 : decode cX7_namesIn 4 = .ok (.iload_n 3, 1) := by decide +kernel
theorem dX7_namesIn_5 : decode cX7_namesIn 5 = .ok (.aload_n 0, 1) := by decide +kernel
theorem dX7_namesIn_6 : decode cX7_namesIn 6 = .ok (.getfield 133, 3) := by decide +kernel
theorem dX7_namesIn_9 : decode cX7_namesIn 9 = .ok (.if_icmp .ge 36, 3) := by decide +kernel
theorem dX7_namesIn_12 : decode cX7_namesIn 12 = .ok (.iload_n 2, 1) := by decide +kernel
theorem dX7_namesIn_13 : decode cX7_namesIn 13 = .ok (.aload_n 0, 1) := by decide +kernel
theorem dX7_namesIn_14 : decode cX7_namesIn 14 = .ok (.getfield 28, 3) := by decide +kernel
theorem dX7_namesIn_17 : decode cX7_namesIn 17 = .ok (.iload_n 3, 1) := by decide +kernel
theorem dX7_namesIn_18 : decode cX7_namesIn 18 = .ok (.baload, 1) := by decide +kernel
theorem dX7_namesIn_19 : decode cX7_namesIn 19 = .ok (.ifCond .eq 17, 3) := by decide +kernel
theorem dX7_namesIn_22 : decode cX7_namesIn 22 = .ok (.aload_n 0, 1) := by decide +kernel
theorem dX7_namesIn_23 : decode cX7_namesIn 23 = .ok (.getfield 32, 3) := by decide +kernel
theorem dX7_namesIn_26 : decode cX7_namesIn 26 = .ok (.iload_n 3, 1) := by decide +kernel
theorem dX7_namesIn_27 : decode cX7_namesIn 27 = .ok (.iaload, 1) := by decide +kernel
theorem dX7_namesIn_28 : decode cX7_namesIn 28 = .ok (.iload_n 1, 1) := by decide +kernel
theorem dX7_namesIn_29 : decode cX7_namesIn 29 = .ok (.if_icmp .ne 7, 3) := by decide +kernel
theorem dX7_namesIn_32 : decode cX7_namesIn 32 = .ok (.iconst 1, 1) := by decide +kernel
theorem dX7_namesIn_33 : decode cX7_namesIn 33 = .ok (.goto 4, 3) := by decide +kernel
theorem dX7_namesIn_36 : decode cX7_namesIn 36 = .ok (.iconst 0, 1) := by decide +kernel
theorem dX7_namesIn_37 : decode cX7_namesIn 37 = .ok (.iadd, 1) := by decide +kernel
theorem dX7_namesIn_38 : decode cX7_namesIn 38 = .ok (.istore_n 2, 1) := by decide +kernel
theorem dX7_namesIn_39 : decode cX7_namesIn 39 = .ok (.iinc 3 1, 3) := by decide +kernel
theorem dX7_namesIn_42 : decode cX7_namesIn 42 = .ok (.goto (-38), 3) := by decide +kernel
theorem dX7_namesIn_45 : decode cX7_namesIn 45 = .ok (.iload_n 2, 1) := by decide +kernel
theorem dX7_namesIn_46 : decode cX7_namesIn 46 = .ok (.ireturn, 1) := by decide +kernel
theorem dX7_name_0 : decode cX7_name 0 = .ok (.iload_n 1, 1) := by decide +kernel
theorem dX7_name_1 : decode cX7_name 1 = .ok (.iload_n 2, 1) := by decide +kernel
theorem dX7_name_2 : decode cX7_name 2 = .ok (.invokestatic 82, 3) := by decide +kernel
theorem dX7_name_5 : decode cX7_name 5 = .ok (.ifCond .eq 33, 3) := by decide +kernel
theorem dX7_name_8 : decode cX7_name 8 = .ok (.iload_n 3, 1) := by decide +kernel
theorem dX7_name_9 : decode cX7_name 9 = .ok (.iconst 1, 1) := by decide +kernel
theorem dX7_name_10 : decode cX7_name 10 = .ok (.bipush 20, 2) := by decide +kernel
theorem dX7_name_12 : decode cX7_name 12 = .ok (.invokestatic 69, 3) := by decide +kernel
theorem dX7_name_15 : decode cX7_name 15 = .ok (.ifCond .eq 23, 3) := by decide +kernel
theorem dX7_name_18 : decode cX7_name 18 = .ok (.iload 4, 2) := by decide +kernel
theorem dX7_name_20 : decode cX7_name 20 = .ok (.iconst 1, 1) := by decide +kernel
theorem dX7_name_21 : decode cX7_name 21 = .ok (.bipush 99, 2) := by decide +kernel
theorem dX7_name_23 : decode cX7_name 23 = .ok (.invokestatic 69, 3) := by decide +kernel
theorem dX7_name_26 : decode cX7_name 26 = .ok (.ifCond .eq 12, 3) := by decide +kernel
theorem dX7_name_29 : decode cX7_name 29 = .ok (.aload_n 0, 1) := by decide +kernel
theorem dX7_name_30 : decode cX7_name 30 = .ok (.getfield 133, 3) := by decide +kernel
theorem dX7_name_33 : decode cX7_name 33 = .ok (.bipush 60, 2) := by decide +kernel
theorem dX7_name_35 : decode cX7_name 35 = .ok (.if_icmp .ne 5, 3) := by decide +kernel
theorem dX7_name_38 : decode cX7_name 38 = .ok (.iconst (-1), 1) := by decide +kernel
theorem dX7_name_39 : decode cX7_name 39 = .ok (.ireturn, 1) := by decide +kernel
theorem dX7_name_40 : decode cX7_name 40 = .ok (.iload_n 1, 1) := by decide +kernel
theorem dX7_name_41 : decode cX7_name 41 = .ok (.aload_n 0, 1) := by decide +kernel
theorem dX7_name_42 : decode cX7_name 42 = .ok (.getfield 66, 3) := by decide +kernel
theorem dX7_name_45 : decode cX7_name 45 = .ok (.idiv, 1) := by decide +kernel
theorem dX7_name_46 : decode cX7_name 46 = .ok (.istore 5, 2) := by decide +kernel
theorem dX7_name_48 : decode cX7_name 48 = .ok (.aload_n 0, 1) := by decide +kernel
theorem dX7_name_49 : decode cX7_name 49 = .ok (.iload 5, 2) := by decide +kernel
theorem dX7_name_51 : decode cX7_name 51 = .ok (.invokevirtual 136, 3) := by decide +kernel
theorem dX7_name_54 : decode cX7_name 54 = .ok (.bipush 6, 2) := by decide +kernel
theorem dX7_name_56 : decode cX7_name 56 = .ok (.if_icmp .ne 5, 3) := by decide +kernel
theorem dX7_name_59 : decode cX7_name 59 = .ok (.iconst (-1), 1) := by decide +kernel
theorem dX7_name_60 : decode cX7_name 60 = .ok (.ireturn, 1) := by decide +kernel
theorem dX7_name_61 : decode cX7_name 61 = .ok (.aload_n 0, 1) := by decide +kernel
theorem dX7_name_62 : decode cX7_name 62 = .ok (.getfield 28, 3) := by decide +kernel
theorem dX7_name_65 : decode cX7_name 65 = .ok (.aload_n 0, 1) := by decide +kernel
theorem dX7_name_66 : decode cX7_name 66 = .ok (.getfield 133, 3) := by decide +kernel
theorem dX7_name_69 : decode cX7_name 69 = .ok (.iconst 1, 1) := by decide +kernel
theorem dX7_name_70 : decode cX7_name 70 = .ok (.bastore, 1) := by decide +kernel
theorem dX7_name_71 : decode cX7_name 71 = .ok (.aload_n 0, 1) := by decide +kernel
theorem dX7_name_72 : decode cX7_name 72 = .ok (.getfield 32, 3) := by decide +kernel
theorem dX7_name_75 : decode cX7_name 75 = .ok (.aload_n 0, 1) := by decide +kernel
theorem dX7_name_76 : decode cX7_name 76 = .ok (.getfield 133, 3) := by decide +kernel
theorem dX7_name_79 : decode cX7_name 79 = .ok (.iload 5, 2) := by decide +kernel
theorem dX7_name_81 : decode cX7_name 81 = .ok (.iastore, 1) := by decide +kernel
theorem dX7_name_82 : decode cX7_name 82 = .ok (.aload_n 0, 1) := by decide +kernel
theorem dX7_name_83 : decode cX7_name 83 = .ok (.getfield 35, 3) := by decide +kernel
theorem dX7_name_86 : decode cX7_name 86 = .ok (.aload_n 0, 1) := by decide +kernel
theorem dX7_name_87 : decode cX7_name 87 = .ok (.getfield 133, 3) := by decide +kernel
theorem dX7_name_90 : decode cX7_name 90 = .ok (.iconst 2, 1) := by decide +kernel
theorem dX7_name_91 : decode cX7_name 91 = .ok (.iload_n 1, 1) := by decide +kernel
theorem dX7_name_92 : decode cX7_name 92 = .ok (.iload 5, 2) := by decide +kernel
theorem dX7_name_94 : decode cX7_name 94 = .ok (.aload_n 0, 1) := by decide +kernel
theorem dX7_name_95 : decode cX7_name 95 = .ok (.getfield 66, 3) := by decide +kernel
theorem dX7_name_98 : decode cX7_name 98 = .ok (.imul, 1) := by decide +kernel
theorem dX7_name_99 : decode cX7_name 99 = .ok (.isub, 1) := by decide +kernel
theorem dX7_name_100 : decode cX7_name 100 = .ok (.imul, 1) := by decide +kernel
theorem dX7_name_101 : decode cX7_name 101 = .ok (.aload_n 0, 1) := by decide +kernel
theorem dX7_name_102 : decode cX7_name 102 = .ok (.getfield 66, 3) := by decide +kernel
theorem dX7_name_105 : decode cX7_name 105 = .ok (.isub, 1) := by decide +kernel
theorem dX7_name_106 : decode cX7_name 106 = .ok (.iastore, 1) := by decide +kernel
theorem dX7_name_107 : decode cX7_name 107 = .ok (.aload_n 0, 1) := by decide +kernel
theorem dX7_name_108 : decode cX7_name 108 = .ok (.getfield 38, 3) := by decide +kernel
theorem dX7_name_111 : decode cX7_name 111 = .ok (.aload_n 0, 1) := by decide +kernel
theorem dX7_name_112 : decode cX7_name 112 = .ok (.getfield 133, 3) := by decide +kernel
theorem dX7_name_115 : decode cX7_name 115 = .ok (.bipush 60, 2) := by decide +kernel
theorem dX7_name_117 : decode cX7_name 117 = .ok (.iload_n 2, 1) := by decide +kernel
theorem dX7_name_118 : decode cX7_name 118 = .ok (.imul, 1) := by decide +kernel
theorem dX7_name_119 : decode cX7_name 119 = .ok (.iastore, 1) := by decide +kernel
theorem dX7_name_120 : decode cX7_name 120 = .ok (.aload_n 0, 1) := by decide +kernel
theorem dX7_name_121 : decode cX7_name 121 = .ok (.getfield 41, 3) := by decide +kernel
theorem dX7_name_124 : decode cX7_name 124 = .ok (.aload_n 0, 1) := by decide +kernel
theorem dX7_name_125 : decode cX7_name 125 = .ok (.getfield 133, 3) := by decide +kernel
theorem dX7_name_128 : decode cX7_name 128 = .ok (.iload_n 3, 1) := by decide +kernel
theorem dX7_name_129 : decode cX7_name 129 = .ok (.iastore, 1) := by decide +kernel
theorem dX7_name_130 : decode cX7_name 130 = .ok (.aload_n 0, 1) := by decide +kernel
theorem dX7_name_131 : decode cX7_name 131 = .ok (.getfield 44, 3) := by decide +kernel
theorem dX7_name_134 : decode cX7_name 134 = .ok (.aload_n 0, 1) := by decide +kernel
theorem dX7_name_135 : decode cX7_name 135 = .ok (.getfield 133, 3) := by decide +kernel
theorem dX7_name_138 : decode cX7_name 138 = .ok (.iload 4, 2) := by decide +kernel
theorem dX7_name_140 : decode cX7_name 140 = .ok (.iastore, 1) := by decide +kernel
theorem dX7_name_141 : decode cX7_name 141 = .ok (.aload_n 0, 1) := by decide +kernel
theorem dX7_name_142 : decode cX7_name 142 = .ok (.getfield 47, 3) := by decide +kernel
theorem dX7_name_145 : decode cX7_name 145 = .ok (.iload 5, 2) := by decide +kernel
theorem dX7_name_147 : decode cX7_name 147 = .ok (.iconst 1, 1) := by decide +kernel
theorem dX7_name_148 : decode cX7_name 148 = .ok (.bastore, 1) := by decide +kernel
theorem dX7_name_149 : decode cX7_name 149 = .ok (.aload_n 0, 1) := by decide +kernel
theorem dX7_name_150 : decode cX7_name 150 = .ok (.dup, 1) := by decide +kernel
theorem dX7_name_151 : decode cX7_name 151 = .ok (.getfield 133, 3) := by decide +kernel
theorem dX7_name_154 : decode cX7_name 154 = .ok (.iconst 1, 1) := by decide +kernel
theorem dX7_name_155 : decode cX7_name 155 = .ok (.iadd, 1) := by decide +kernel
theorem dX7_name_156 : decode cX7_name 156 = .ok (.putfield 133, 3) := by decide +kernel
theorem dX7_name_159 : decode cX7_name 159 = .ok (.aload_n 0, 1) := by decide +kernel
theorem dX7_name_160 : decode cX7_name 160 = .ok (.getfield 133, 3) := by decide +kernel
theorem dX7_name_163 : decode cX7_name 163 = .ok (.iconst 1, 1) := by decide +kernel
theorem dX7_name_164 : decode cX7_name 164 = .ok (.isub, 1) := by decide +kernel
theorem dX7_name_165 : decode cX7_name 165 = .ok (.ireturn, 1) := by decide +kernel
theorem dX7_strike_0 : decode cX7_strike 0 = .ok (.aload_n 0, 1) := by decide +kernel
theorem dX7_strike_1 : decode cX7_strike 1 = .ok (.iload_n 1, 1) := by decide +kernel
theorem dX7_strike_2 : decode cX7_strike 2 = .ok (.invokevirtual 139, 3) := by decide +kernel
theorem dX7_strike_5 : decode cX7_strike 5 = .ok (.ifCond .ne 5, 3) := by decide +kernel
theorem dX7_strike_8 : decode cX7_strike 8 = .ok (.iconst 0, 1) := by decide +kernel
theorem dX7_strike_9 : decode cX7_strike 9 = .ok (.ireturn, 1) := by decide +kernel
theorem dX7_strike_10 : decode cX7_strike 10 = .ok (.aload_n 0, 1) := by decide +kernel
theorem dX7_strike_11 : decode cX7_strike 11 = .ok (.getfield 28, 3) := by decide +kernel
theorem dX7_strike_14 : decode cX7_strike 14 = .ok (.iload_n 1, 1) := by decide +kernel
theorem dX7_strike_15 : decode cX7_strike 15 = .ok (.iconst 0, 1) := by decide +kernel
theorem dX7_strike_16 : decode cX7_strike 16 = .ok (.bastore, 1) := by decide +kernel
theorem dX7_strike_17 : decode cX7_strike 17 = .ok (.aload_n 0, 1) := by decide +kernel
theorem dX7_strike_18 : decode cX7_strike 18 = .ok (.getfield 47, 3) := by decide +kernel
theorem dX7_strike_21 : decode cX7_strike 21 = .ok (.aload_n 0, 1) := by decide +kernel
theorem dX7_strike_22 : decode cX7_strike 22 = .ok (.getfield 32, 3) := by decide +kernel
theorem dX7_strike_25 : decode cX7_strike 25 = .ok (.iload_n 1, 1) := by decide +kernel
theorem dX7_strike_26 : decode cX7_strike 26 = .ok (.iaload, 1) := by decide +kernel
theorem dX7_strike_27 : decode cX7_strike 27 = .ok (.iconst 1, 1) := by decide +kernel
theorem dX7_strike_28 : decode cX7_strike 28 = .ok (.bastore, 1) := by decide +kernel
theorem dX7_strike_29 : decode cX7_strike 29 = .ok (.iconst 1, 1) := by decide +kernel
theorem dX7_strike_30 : decode cX7_strike 30 = .ok (.ireturn, 1) := by decide +kernel
theorem dX7_left_0 : decode cX7_left 0 = .ok (.aload_n 0, 1) := by decide +kernel
theorem dX7_left_1 : decode cX7_left 1 = .ok (.aload_n 0, 1) := by decide +kernel
theorem dX7_left_2 : decode cX7_left 2 = .ok (.getfield 35, 3) := by decide +kernel
theorem dX7_left_5 : decode cX7_left 5 = .ok (.iload_n 1, 1) := by decide +kernel
theorem dX7_left_6 : decode cX7_left 6 = .ok (.iaload, 1) := by decide +kernel
theorem dX7_left_7 : decode cX7_left 7 = .ok (.aload_n 0, 1) := by decide +kernel
theorem dX7_left_8 : decode cX7_left 8 = .ok (.getfield 38, 3) := by decide +kernel
theorem dX7_left_11 : decode cX7_left 11 = .ok (.iload_n 1, 1) := by decide +kernel
theorem dX7_left_12 : decode cX7_left 12 = .ok (.iaload, 1) := by decide +kernel
theorem dX7_left_13 : decode cX7_left 13 = .ok (.invokevirtual 77, 3) := by decide +kernel
theorem dX7_left_16 : decode cX7_left 16 = .ok (.istore_n 3, 1) := by decide +kernel
theorem dX7_left_17 : decode cX7_left 17 = .ok (.iload_n 2, 1) := by decide +kernel
theorem dX7_left_18 : decode cX7_left 18 = .ok (.iconst 2, 1) := by decide +kernel
theorem dX7_left_19 : decode cX7_left 19 = .ok (.irem, 1) := by decide +kernel
theorem dX7_left_20 : decode cX7_left 20 = .ok (.ifCond .ne 7, 3) := by decide +kernel
theorem dX7_left_23 : decode cX7_left 23 = .ok (.iload_n 3, 1) := by decide +kernel
theorem dX7_left_24 : decode cX7_left 24 = .ok (.goto 14, 3) := by decide +kernel
theorem dX7_left_27 : decode cX7_left 27 = .ok (.iload_n 3, 1) := by decide +kernel
theorem dX7_left_28 : decode cX7_left 28 = .ok (.bipush 40, 2) := by decide +kernel
theorem dX7_left_30 : decode cX7_left 30 = .ok (.aload_n 0, 1) := by decide +kernel
theorem dX7_left_31 : decode cX7_left 31 = .ok (.getfield 41, 3) := by decide +kernel
theorem dX7_left_34 : decode cX7_left 34 = .ok (.iload_n 1, 1) := by decide +kernel
theorem dX7_left_35 : decode cX7_left 35 = .ok (.iaload, 1) := by decide +kernel
theorem dX7_left_36 : decode cX7_left 36 = .ok (.imul, 1) := by decide +kernel
theorem dX7_left_37 : decode cX7_left 37 = .ok (.isub, 1) := by decide +kernel
theorem dX7_left_38 : decode cX7_left 38 = .ok (.ireturn, 1) := by decide +kernel
theorem dX7_low_0 : decode cX7_low 0 = .ok (.iload_n 2, 1) := by decide +kernel
theorem dX7_low_1 : decode cX7_low 1 = .ok (.iconst 2, 1) := by decide +kernel
theorem dX7_low_2 : decode cX7_low 2 = .ok (.if_icmp .ge 12, 3) := by decide +kernel
theorem dX7_low_5 : decode cX7_low 5 = .ok (.aload_n 0, 1) := by decide +kernel
theorem dX7_low_6 : decode cX7_low 6 = .ok (.getfield 38, 3) := by decide +kernel
theorem dX7_low_9 : decode cX7_low 9 = .ok (.iload_n 1, 1) := by decide +kernel
theorem dX7_low_10 : decode cX7_low 10 = .ok (.iaload, 1) := by decide +kernel
theorem dX7_low_11 : decode cX7_low 11 = .ok (.goto 12, 3) := by decide +kernel
theorem dX7_low_14 : decode cX7_low 14 = .ok (.aload_n 0, 1) := by decide +kernel
theorem dX7_low_15 : decode cX7_low 15 = .ok (.getfield 38, 3) := by decide +kernel
theorem dX7_low_18 : decode cX7_low 18 = .ok (.iload_n 1, 1) := by decide +kernel
theorem dX7_low_19 : decode cX7_low 19 = .ok (.iaload, 1) := by decide +kernel
theorem dX7_low_20 : decode cX7_low 20 = .ok (.bipush 80, 2) := by decide +kernel
theorem dX7_low_22 : decode cX7_low 22 = .ok (.isub, 1) := by decide +kernel
theorem dX7_low_23 : decode cX7_low 23 = .ok (.ireturn, 1) := by decide +kernel
theorem dX7_isWithin_0 : decode cX7_isWithin 0 = .ok (.iload_n 2, 1) := by decide +kernel
theorem dX7_isWithin_1 : decode cX7_isWithin 1 = .ok (.sipush (-5400), 3) := by decide +kernel
theorem dX7_isWithin_4 : decode cX7_isWithin 4 = .ok (.sipush 5400, 3) := by decide +kernel
theorem dX7_isWithin_7 : decode cX7_isWithin 7 = .ok (.invokestatic 69, 3) := by decide +kernel
theorem dX7_isWithin_10 : decode cX7_isWithin 10 = .ok (.ifCond .ne 5, 3) := by decide +kernel
theorem dX7_isWithin_13 : decode cX7_isWithin 13 = .ok (.iconst 0, 1) := by decide +kernel
theorem dX7_isWithin_14 : decode cX7_isWithin 14 = .ok (.ireturn, 1) := by decide +kernel
theorem dX7_isWithin_15 : decode cX7_isWithin 15 = .ok (.aload_n 0, 1) := by decide +kernel
theorem dX7_isWithin_16 : decode cX7_isWithin 16 = .ok (.aload_n 0, 1) := by decide +kernel
theorem dX7_isWithin_17 : decode cX7_isWithin 17 = .ok (.getfield 66, 3) := by decide +kernel
theorem dX7_isWithin_20 : decode cX7_isWithin 20 = .ok (.iload_n 2, 1) := by decide +kernel
theorem dX7_isWithin_21 : decode cX7_isWithin 21 = .ok (.invokevirtual 77, 3) := by decide +kernel
theorem dX7_isWithin_24 : decode cX7_isWithin 24 = .ok (.istore_n 3, 1) := by decide +kernel
theorem dX7_isWithin_25 : decode cX7_isWithin 25 = .ok (.iload_n 1, 1) := by decide +kernel
theorem dX7_isWithin_26 : decode cX7_isWithin 26 = .ok (.iload_n 3, 1) := by decide +kernel
theorem dX7_isWithin_27 : decode cX7_isWithin 27 = .ok (.ineg, 1) := by decide +kernel
theorem dX7_isWithin_28 : decode cX7_isWithin 28 = .ok (.iload_n 3, 1) := by decide +kernel
theorem dX7_isWithin_29 : decode cX7_isWithin 29 = .ok (.invokestatic 69, 3) := by decide +kernel
theorem dX7_isWithin_32 : decode cX7_isWithin 32 = .ok (.ireturn, 1) := by decide +kernel
theorem dX7_canBe_0 : decode cX7_canBe 0 = .ok (.iload_n 2, 1) := by decide +kernel
theorem dX7_canBe_1 : decode cX7_canBe 1 = .ok (.iconst 4, 1) := by decide +kernel
theorem dX7_canBe_2 : decode cX7_canBe 2 = .ok (.if_icmp .ne 5, 3) := by decide +kernel
theorem dX7_canBe_5 : decode cX7_canBe 5 = .ok (.iconst 1, 1) := by decide +kernel
theorem dX7_canBe_6 : decode cX7_canBe 6 = .ok (.ireturn, 1) := by decide +kernel
theorem dX7_canBe_7 : decode cX7_canBe 7 = .ok (.aload_n 0, 1) := by decide +kernel
theorem dX7_canBe_8 : decode cX7_canBe 8 = .ok (.iload_n 1, 1) := by decide +kernel
theorem dX7_canBe_9 : decode cX7_canBe 9 = .ok (.iload_n 2, 1) := by decide +kernel
theorem dX7_canBe_10 : decode cX7_canBe 10 = .ok (.invokevirtual 142, 3) := by decide +kernel
theorem dX7_canBe_13 : decode cX7_canBe 13 = .ok (.istore_n 3, 1) := by decide +kernel
theorem dX7_canBe_14 : decode cX7_canBe 14 = .ok (.aload_n 0, 1) := by decide +kernel
theorem dX7_canBe_15 : decode cX7_canBe 15 = .ok (.iload_n 1, 1) := by decide +kernel
theorem dX7_canBe_16 : decode cX7_canBe 16 = .ok (.iload_n 2, 1) := by decide +kernel
theorem dX7_canBe_17 : decode cX7_canBe 17 = .ok (.invokevirtual 145, 3) := by decide +kernel
theorem dX7_canBe_20 : decode cX7_canBe 20 = .ok (.istore 4, 2) := by decide +kernel
theorem dX7_canBe_22 : decode cX7_canBe 22 = .ok (.bipush 40, 2) := by decide +kernel
theorem dX7_canBe_24 : decode cX7_canBe 24 = .ok (.aload_n 0, 1) := by decide +kernel
theorem dX7_canBe_25 : decode cX7_canBe 25 = .ok (.getfield 41, 3) := by decide +kernel
theorem dX7_canBe_28 : decode cX7_canBe 28 = .ok (.iload_n 1, 1) := by decide +kernel
theorem dX7_canBe_29 : decode cX7_canBe 29 = .ok (.iaload, 1) := by decide +kernel
theorem dX7_canBe_30 : decode cX7_canBe 30 = .ok (.imul, 1) := by decide +kernel
theorem dX7_canBe_31 : decode cX7_canBe 31 = .ok (.istore 5, 2) := by decide +kernel
theorem dX7_canBe_33 : decode cX7_canBe 33 = .ok (.aload_n 0, 1) := by decide +kernel
theorem dX7_canBe_34 : decode cX7_canBe 34 = .ok (.iload_n 3, 1) := by decide +kernel
theorem dX7_canBe_35 : decode cX7_canBe 35 = .ok (.iload 4, 2) := by decide +kernel
theorem dX7_canBe_37 : decode cX7_canBe 37 = .ok (.invokevirtual 148, 3) := by decide +kernel
theorem dX7_canBe_40 : decode cX7_canBe 40 = .ok (.ifCond .eq 49, 3) := by decide +kernel
theorem dX7_canBe_43 : decode cX7_canBe 43 = .ok (.aload_n 0, 1) := by decide +kernel
theorem dX7_canBe_44 : decode cX7_canBe 44 = .ok (.iload_n 3, 1) := by decide +kernel
theorem dX7_canBe_45 : decode cX7_canBe 45 = .ok (.iload 5, 2) := by decide +kernel
theorem dX7_canBe_47 : decode cX7_canBe 47 = .ok (.iadd, 1) := by decide +kernel
theorem dX7_canBe_48 : decode cX7_canBe 48 = .ok (.iload 4, 2) := by decide +kernel
theorem dX7_canBe_50 : decode cX7_canBe 50 = .ok (.invokevirtual 148, 3) := by decide +kernel
theorem dX7_canBe_53 : decode cX7_canBe 53 = .ok (.ifCond .eq 36, 3) := by decide +kernel
theorem dX7_canBe_56 : decode cX7_canBe 56 = .ok (.aload_n 0, 1) := by decide +kernel
theorem dX7_canBe_57 : decode cX7_canBe 57 = .ok (.iload_n 3, 1) := by decide +kernel
theorem dX7_canBe_58 : decode cX7_canBe 58 = .ok (.iload 4, 2) := by decide +kernel
theorem dX7_canBe_60 : decode cX7_canBe 60 = .ok (.bipush 80, 2) := by decide +kernel
theorem dX7_canBe_62 : decode cX7_canBe 62 = .ok (.iadd, 1) := by decide +kernel
theorem dX7_canBe_63 : decode cX7_canBe 63 = .ok (.invokevirtual 148, 3) := by decide +kernel
theorem dX7_canBe_66 : decode cX7_canBe 66 = .ok (.ifCond .eq 23, 3) := by decide +kernel
theorem dX7_canBe_69 : decode cX7_canBe 69 = .ok (.aload_n 0, 1) := by decide +kernel
theorem dX7_canBe_70 : decode cX7_canBe 70 = .ok (.iload_n 3, 1) := by decide +kernel
theorem dX7_canBe_71 : decode cX7_canBe 71 = .ok (.iload 5, 2) := by decide +kernel
theorem dX7_canBe_73 : decode cX7_canBe 73 = .ok (.iadd, 1) := by decide +kernel
theorem dX7_canBe_74 : decode cX7_canBe 74 = .ok (.iload 4, 2) := by decide +kernel
theorem dX7_canBe_76 : decode cX7_canBe 76 = .ok (.bipush 80, 2) := by decide +kernel
theorem dX7_canBe_78 : decode cX7_canBe 78 = .ok (.iadd, 1) := by decide +kernel
theorem dX7_canBe_79 : decode cX7_canBe 79 = .ok (.invokevirtual 148, 3) := by decide +kernel
theorem dX7_canBe_82 : decode cX7_canBe 82 = .ok (.ifCond .eq 7, 3) := by decide +kernel
theorem dX7_canBe_85 : decode cX7_canBe 85 = .ok (.iconst 1, 1) := by decide +kernel
theorem dX7_canBe_86 : decode cX7_canBe 86 = .ok (.goto 4, 3) := by decide +kernel
theorem dX7_canBe_89 : decode cX7_canBe 89 = .ok (.iconst 0, 1) := by decide +kernel
theorem dX7_canBe_90 : decode cX7_canBe 90 = .ok (.ireturn, 1) := by decide +kernel
theorem dX7_may_0 : decode cX7_may 0 = .ok (.aload_n 0, 1) := by decide +kernel
theorem dX7_may_1 : decode cX7_may 1 = .ok (.iload_n 1, 1) := by decide +kernel
theorem dX7_may_2 : decode cX7_may 2 = .ok (.invokevirtual 139, 3) := by decide +kernel
theorem dX7_may_5 : decode cX7_may 5 = .ok (.ifCond .eq 25, 3) := by decide +kernel
theorem dX7_may_8 : decode cX7_may 8 = .ok (.iload_n 2, 1) := by decide +kernel
theorem dX7_may_9 : decode cX7_may 9 = .ok (.iconst 0, 1) := by decide +kernel
theorem dX7_may_10 : decode cX7_may 10 = .ok (.iconst 4, 1) := by decide +kernel
theorem dX7_may_11 : decode cX7_may 11 = .ok (.invokestatic 69, 3) := by decide +kernel
theorem dX7_may_14 : decode cX7_may 14 = .ok (.ifCond .eq 16, 3) := by decide +kernel
theorem dX7_may_17 : decode cX7_may 17 = .ok (.aload_n 0, 1) := by decide +kernel
theorem dX7_may_18 : decode cX7_may 18 = .ok (.iload_n 1, 1) := by decide +kernel
theorem dX7_may_19 : decode cX7_may 19 = .ok (.iload_n 2, 1) := by decide +kernel
theorem dX7_may_20 : decode cX7_may 20 = .ok (.invokevirtual 151, 3) := by decide +kernel
theorem dX7_may_23 : decode cX7_may 23 = .ok (.ifCond .eq 7, 3) := by decide +kernel
theorem dX7_may_26 : decode cX7_may 26 = .ok (.iconst 1, 1) := by decide +kernel
theorem dX7_may_27 : decode cX7_may 27 = .ok (.goto 4, 3) := by decide +kernel
theorem dX7_may_30 : decode cX7_may 30 = .ok (.iconst 0, 1) := by decide +kernel
theorem dX7_may_31 : decode cX7_may 31 = .ok (.ireturn, 1) := by decide +kernel
theorem dX7_areApart_0 : decode cX7_areApart 0 = .ok (.iload_n 2, 1) := by decide +kernel
theorem dX7_areApart_1 : decode cX7_areApart 1 = .ok (.iconst 4, 1) := by decide +kernel
theorem dX7_areApart_2 : decode cX7_areApart 2 = .ok (.if_icmp .eq 9, 3) := by decide +kernel
theorem dX7_areApart_5 : decode cX7_areApart 5 = .ok (.iload 4, 2) := by decide +kernel
theorem dX7_areApart_7 : decode cX7_areApart 7 = .ok (.iconst 4, 1) := by decide +kernel
theorem dX7_areApart_8 : decode cX7_areApart 8 = .ok (.if_icmp .ne 5, 3) := by decide +kernel
theorem dX7_areApart_11 : decode cX7_areApart 11 = .ok (.iconst 1, 1) := by decide +kernel
theorem dX7_areApart_12 : decode cX7_areApart 12 = .ok (.ireturn, 1) := by decide +kernel
theorem dX7_areApart_13 : decode cX7_areApart 13 = .ok (.aload_n 0, 1) := by decide +kernel
theorem dX7_areApart_14 : decode cX7_areApart 14 = .ok (.iload_n 1, 1) := by decide +kernel
theorem dX7_areApart_15 : decode cX7_areApart 15 = .ok (.iload_n 2, 1) := by decide +kernel
theorem dX7_areApart_16 : decode cX7_areApart 16 = .ok (.invokevirtual 142, 3) := by decide +kernel
theorem dX7_areApart_19 : decode cX7_areApart 19 = .ok (.aload_n 0, 1) := by decide +kernel
theorem dX7_areApart_20 : decode cX7_areApart 20 = .ok (.iload_n 3, 1) := by decide +kernel
theorem dX7_areApart_21 : decode cX7_areApart 21 = .ok (.iload 4, 2) := by decide +kernel
theorem dX7_areApart_23 : decode cX7_areApart 23 = .ok (.invokevirtual 142, 3) := by decide +kernel
theorem dX7_areApart_26 : decode cX7_areApart 26 = .ok (.isub, 1) := by decide +kernel
theorem dX7_areApart_27 : decode cX7_areApart 27 = .ok (.istore 5, 2) := by decide +kernel
theorem dX7_areApart_29 : decode cX7_areApart 29 = .ok (.aload_n 0, 1) := by decide +kernel
theorem dX7_areApart_30 : decode cX7_areApart 30 = .ok (.iload_n 1, 1) := by decide +kernel
theorem dX7_areApart_31 : decode cX7_areApart 31 = .ok (.iload_n 2, 1) := by decide +kernel
theorem dX7_areApart_32 : decode cX7_areApart 32 = .ok (.invokevirtual 145, 3) := by decide +kernel
theorem dX7_areApart_35 : decode cX7_areApart 35 = .ok (.aload_n 0, 1) := by decide +kernel
theorem dX7_areApart_36 : decode cX7_areApart 36 = .ok (.iload_n 3, 1) := by decide +kernel
theorem dX7_areApart_37 : decode cX7_areApart 37 = .ok (.iload 4, 2) := by decide +kernel
theorem dX7_areApart_39 : decode cX7_areApart 39 = .ok (.invokevirtual 145, 3) := by decide +kernel
theorem dX7_areApart_42 : decode cX7_areApart 42 = .ok (.isub, 1) := by decide +kernel
theorem dX7_areApart_43 : decode cX7_areApart 43 = .ok (.istore 6, 2) := by decide +kernel
theorem dX7_areApart_45 : decode cX7_areApart 45 = .ok (.iload 5, 2) := by decide +kernel
theorem dX7_areApart_47 : decode cX7_areApart 47 = .ok (.bipush 40, 2) := by decide +kernel
theorem dX7_areApart_49 : decode cX7_areApart 49 = .ok (.aload_n 0, 1) := by decide +kernel
theorem dX7_areApart_50 : decode cX7_areApart 50 = .ok (.getfield 41, 3) := by decide +kernel
theorem dX7_areApart_53 : decode cX7_areApart 53 = .ok (.iload_n 3, 1) := by decide +kernel
theorem dX7_areApart_54 : decode cX7_areApart 54 = .ok (.iaload, 1) := by decide +kernel
theorem dX7_areApart_55 : decode cX7_areApart 55 = .ok (.imul, 1) := by decide +kernel
theorem dX7_areApart_56 : decode cX7_areApart 56 = .ok (.if_icmp .ge 32, 3) := by decide +kernel
theorem dX7_areApart_59 : decode cX7_areApart 59 = .ok (.iload 5, 2) := by decide +kernel
theorem dX7_areApart_61 : decode cX7_areApart 61 = .ok (.ineg, 1) := by decide +kernel
theorem dX7_areApart_62 : decode cX7_areApart 62 = .ok (.bipush 40, 2) := by decide +kernel
theorem dX7_areApart_64 : decode cX7_areApart 64 = .ok (.aload_n 0, 1) := by decide +kernel
theorem dX7_areApart_65 : decode cX7_areApart 65 = .ok (.getfield 41, 3) := by decide +kernel
theorem dX7_areApart_68 : decode cX7_areApart 68 = .ok (.iload_n 1, 1) := by decide +kernel
theorem dX7_areApart_69 : decode cX7_areApart 69 = .ok (.iaload, 1) := by decide +kernel
theorem dX7_areApart_70 : decode cX7_areApart 70 = .ok (.imul, 1) := by decide +kernel
theorem dX7_areApart_71 : decode cX7_areApart 71 = .ok (.if_icmp .ge 17, 3) := by decide +kernel
theorem dX7_areApart_74 : decode cX7_areApart 74 = .ok (.iload 6, 2) := by decide +kernel
theorem dX7_areApart_76 : decode cX7_areApart 76 = .ok (.bipush 80, 2) := by decide +kernel
theorem dX7_areApart_78 : decode cX7_areApart 78 = .ok (.if_icmp .ge 10, 3) := by decide +kernel
theorem dX7_areApart_81 : decode cX7_areApart 81 = .ok (.iload 6, 2) := by decide +kernel
theorem dX7_areApart_83 : decode cX7_areApart 83 = .ok (.bipush (-80), 2) := by decide +kernel
theorem dX7_areApart_85 : decode cX7_areApart 85 = .ok (.if_icmp .gt 7, 3) := by decide +kernel
theorem dX7_areApart_88 : decode cX7_areApart 88 = .ok (.iconst 1, 1) := by decide +kernel
theorem dX7_areApart_89 : decode cX7_areApart 89 = .ok (.goto 4, 3) := by decide +kernel
theorem dX7_areApart_92 : decode cX7_areApart 92 = .ok (.iconst 0, 1) := by decide +kernel
theorem dX7_areApart_93 : decode cX7_areApart 93 = .ok (.ireturn, 1) := by decide +kernel
theorem dX7_sets_0 : decode cX7_sets 0 = .ok (.iconst 0, 1) := by decide +kernel
theorem dX7_sets_1 : decode cX7_sets 1 = .ok (.istore_n 2, 1) := by decide +kernel
theorem dX7_sets_2 : decode cX7_sets 2 = .ok (.iconst 0, 1) := by decide +kernel
theorem dX7_sets_3 : decode cX7_sets 3 = .ok (.istore_n 3, 1) := by decide +kernel
theorem dX7_sets_4 : decode cX7_sets 4 = .ok (.iload_n 3, 1) := by decide +kernel
theorem dX7_sets_5 : decode cX7_sets 5 = .ok (.aload_n 0, 1) := by decide +kernel
theorem dX7_sets_6 : decode cX7_sets 6 = .ok (.getfield 133, 3) := by decide +kernel
theorem dX7_sets_9 : decode cX7_sets 9 = .ok (.if_icmp .ge 41, 3) := by decide +kernel
theorem dX7_sets_12 : decode cX7_sets 12 = .ok (.aload_n 0, 1) := by decide +kernel
theorem dX7_sets_13 : decode cX7_sets 13 = .ok (.getfield 28, 3) := by decide +kernel
theorem dX7_sets_16 : decode cX7_sets 16 = .ok (.iload_n 3, 1) := by decide +kernel
theorem dX7_sets_17 : decode cX7_sets 17 = .ok (.baload, 1) := by decide +kernel
theorem dX7_sets_18 : decode cX7_sets 18 = .ok (.ifCond .eq 26, 3) := by decide +kernel
theorem dX7_sets_21 : decode cX7_sets 21 = .ok (.aload_n 0, 1) := by decide +kernel
theorem dX7_sets_22 : decode cX7_sets 22 = .ok (.getfield 32, 3) := by decide +kernel
theorem dX7_sets_25 : decode cX7_sets 25 = .ok (.iload_n 3, 1) := by decide +kernel
theorem dX7_sets_26 : decode cX7_sets 26 = .ok (.iaload, 1) := by decide +kernel
theorem dX7_sets_27 : decode cX7_sets 27 = .ok (.iload_n 1, 1) := by decide +kernel
theorem dX7_sets_28 : decode cX7_sets 28 = .ok (.if_icmp .eq 6, 3) := by decide +kernel
theorem dX7_sets_31 : decode cX7_sets 31 = .ok (.goto 13, 3) := by decide +kernel
theorem dX7_sets_34 : decode cX7_sets 34 = .ok (.aload_n 0, 1) := by decide +kernel
theorem dX7_sets_35 : decode cX7_sets 35 = .ok (.getfield 53, 3) := by decide +kernel
theorem dX7_sets_38 : decode cX7_sets 38 = .ok (.iload_n 2, 1) := by decide +kernel
theorem dX7_sets_39 : decode cX7_sets 39 = .ok (.iload_n 3, 1) := by decide +kernel
theorem dX7_sets_40 : decode cX7_sets 40 = .ok (.iastore, 1) := by decide +kernel
theorem dX7_sets_41 : decode cX7_sets 41 = .ok (.iinc 2 1, 3) := by decide +kernel
theorem dX7_sets_44 : decode cX7_sets 44 = .ok (.iinc 3 1, 3) := by decide +kernel
theorem dX7_sets_47 : decode cX7_sets 47 = .ok (.goto (-43), 3) := by decide +kernel
theorem dX7_sets_50 : decode cX7_sets 50 = .ok (.iconst 1, 1) := by decide +kernel
theorem dX7_sets_51 : decode cX7_sets 51 = .ok (.istore_n 3, 1) := by decide +kernel
theorem dX7_sets_52 : decode cX7_sets 52 = .ok (.iconst 0, 1) := by decide +kernel
theorem dX7_sets_53 : decode cX7_sets 53 = .ok (.istore 4, 2) := by decide +kernel
theorem dX7_sets_55 : decode cX7_sets 55 = .ok (.iload 4, 2) := by decide +kernel
theorem dX7_sets_57 : decode cX7_sets 57 = .ok (.iload_n 2, 1) := by decide +kernel
theorem dX7_sets_58 : decode cX7_sets 58 = .ok (.if_icmp .ge 13, 3) := by decide +kernel
theorem dX7_sets_61 : decode cX7_sets 61 = .ok (.iload_n 3, 1) := by decide +kernel
theorem dX7_sets_62 : decode cX7_sets 62 = .ok (.iconst 5, 1) := by decide +kernel
theorem dX7_sets_63 : decode cX7_sets 63 = .ok (.imul, 1) := by decide +kernel
theorem dX7_sets_64 : decode cX7_sets 64 = .ok (.istore_n 3, 1) := by decide +kernel
theorem dX7_sets_65 : decode cX7_sets 65 = .ok (.iinc 4 1, 3) := by decide +kernel
theorem dX7_sets_68 : decode cX7_sets 68 = .ok (.goto (-13), 3) := by decide +kernel
theorem dX7_sets_71 : decode cX7_sets 71 = .ok (.aload_n 0, 1) := by decide +kernel
theorem dX7_sets_72 : decode cX7_sets 72 = .ok (.iconst (-1), 1) := by decide +kernel
theorem dX7_sets_73 : decode cX7_sets 73 = .ok (.putfield 154, 3) := by decide +kernel
theorem dX7_sets_76 : decode cX7_sets 76 = .ok (.iconst 0, 1) := by decide +kernel
theorem dX7_sets_77 : decode cX7_sets 77 = .ok (.istore 4, 2) := by decide +kernel
theorem dX7_sets_79 : decode cX7_sets 79 = .ok (.iload 4, 2) := by decide +kernel
theorem dX7_sets_81 : decode cX7_sets 81 = .ok (.iload_n 3, 1) := by decide +kernel
theorem dX7_sets_82 : decode cX7_sets 82 = .ok (.if_icmp .ge 150, 3) := by decide +kernel
theorem dX7_sets_85 : decode cX7_sets 85 = .ok (.iload 4, 2) := by decide +kernel
theorem dX7_sets_87 : decode cX7_sets 87 = .ok (.istore 5, 2) := by decide +kernel
theorem dX7_sets_89 : decode cX7_sets 89 = .ok (.iconst 0, 1) := by decide +kernel
theorem dX7_sets_90 : decode cX7_sets 90 = .ok (.istore 6, 2) := by decide +kernel
theorem dX7_sets_92 : decode cX7_sets 92 = .ok (.iload_n 2, 1) := by decide +kernel
theorem dX7_sets_93 : decode cX7_sets 93 = .ok (.iconst 1, 1) := by decide +kernel
theorem dX7_sets_94 : decode cX7_sets 94 = .ok (.isub, 1) := by decide +kernel
theorem dX7_sets_95 : decode cX7_sets 95 = .ok (.istore 7, 2) := by decide +kernel
theorem dX7_sets_97 : decode cX7_sets 97 = .ok (.iload 7, 2) := by decide +kernel
theorem dX7_sets_99 : decode cX7_sets 99 = .ok (.ifCond .lt 64, 3) := by decide +kernel
theorem dX7_sets_102 : decode cX7_sets 102 = .ok (.aload_n 0, 1) := by decide +kernel
theorem dX7_sets_103 : decode cX7_sets 103 = .ok (.getfield 56, 3) := by decide +kernel
theorem dX7_sets_106 : decode cX7_sets 106 = .ok (.iload 7, 2) := by decide +kernel
theorem dX7_sets_108 : decode cX7_sets 108 = .ok (.iload 5, 2) := by decide +kernel
theorem dX7_sets_110 : decode cX7_sets 110 = .ok (.iconst 5, 1) := by decide +kernel
theorem dX7_sets_111 : decode cX7_sets 111 = .ok (.irem, 1) := by decide +kernel
theorem dX7_sets_112 : decode cX7_sets 112 = .ok (.iastore, 1) := by decide +kernel
theorem dX7_sets_113 : decode cX7_sets 113 = .ok (.iload 5, 2) := by decide +kernel
theorem dX7_sets_115 : decode cX7_sets 115 = .ok (.iconst 5, 1) := by decide +kernel
theorem dX7_sets_116 : decode cX7_sets 116 = .ok (.idiv, 1) := by decide +kernel
theorem dX7_sets_117 : decode cX7_sets 117 = .ok (.istore 5, 2) := by decide +kernel
theorem dX7_sets_119 : decode cX7_sets 119 = .ok (.iload 6, 2) := by decide +kernel
theorem dX7_sets_121 : decode cX7_sets 121 = .ok (.aload_n 0, 1) := by decide +kernel
theorem dX7_sets_122 : decode cX7_sets 122 = .ok (.getfield 56, 3) := by decide +kernel
theorem dX7_sets_125 : decode cX7_sets 125 = .ok (.iload 7, 2) := by decide +kernel
theorem dX7_sets_127 : decode cX7_sets 127 = .ok (.iaload, 1) := by decide +kernel
theorem dX7_sets_128 : decode cX7_sets 128 = .ok (.iconst 4, 1) := by decide +kernel
theorem dX7_sets_129 : decode cX7_sets 129 = .ok (.if_icmp .ne 18, 3) := by decide +kernel
theorem dX7_sets_132 : decode cX7_sets 132 = .ok (.aload_n 0, 1) := by decide +kernel
theorem dX7_sets_133 : decode cX7_sets 133 = .ok (.getfield 44, 3) := by decide +kernel
theorem dX7_sets_136 : decode cX7_sets 136 = .ok (.aload_n 0, 1) := by decide +kernel
theorem dX7_sets_137 : decode cX7_sets 137 = .ok (.getfield 53, 3) := by decide +kernel
theorem dX7_sets_140 : decode cX7_sets 140 = .ok (.iload 7, 2) := by decide +kernel
theorem dX7_sets_142 : decode cX7_sets 142 = .ok (.iaload, 1) := by decide +kernel
theorem dX7_sets_143 : decode cX7_sets 143 = .ok (.iaload, 1) := by decide +kernel
theorem dX7_sets_144 : decode cX7_sets 144 = .ok (.goto 10, 3) := by decide +kernel
theorem dX7_sets_147 : decode cX7_sets 147 = .ok (.aload_n 0, 1) := by decide +kernel
theorem dX7_sets_148 : decode cX7_sets 148 = .ok (.getfield 56, 3) := by decide +kernel
theorem dX7_sets_151 : decode cX7_sets 151 = .ok (.iload 7, 2) := by decide +kernel
theorem dX7_sets_153 : decode cX7_sets 153 = .ok (.iaload, 1) := by decide +kernel
theorem dX7_sets_154 : decode cX7_sets 154 = .ok (.iadd, 1) := by decide +kernel
theorem dX7_sets_155 : decode cX7_sets 155 = .ok (.istore 6, 2) := by decide +kernel
theorem dX7_sets_157 : decode cX7_sets 157 = .ok (.iinc 7 (-1), 3) := by decide +kernel
theorem dX7_sets_160 : decode cX7_sets 160 = .ok (.goto (-63), 3) := by decide +kernel
theorem dX7_sets_163 : decode cX7_sets 163 = .ok (.aload_n 0, 1) := by decide +kernel
theorem dX7_sets_164 : decode cX7_sets 164 = .ok (.getfield 154, 3) := by decide +kernel
theorem dX7_sets_167 : decode cX7_sets 167 = .ok (.iconst (-1), 1) := by decide +kernel
theorem dX7_sets_168 : decode cX7_sets 168 = .ok (.if_icmp .eq 12, 3) := by decide +kernel
theorem dX7_sets_171 : decode cX7_sets 171 = .ok (.iload 6, 2) := by decide +kernel
theorem dX7_sets_173 : decode cX7_sets 173 = .ok (.aload_n 0, 1) := by decide +kernel
theorem dX7_sets_174 : decode cX7_sets 174 = .ok (.getfield 154, 3) := by decide +kernel
theorem dX7_sets_177 : decode cX7_sets 177 = .ok (.if_icmp .ge 49, 3) := by decide +kernel
theorem dX7_sets_180 : decode cX7_sets 180 = .ok (.aload_n 0, 1) := by decide +kernel
theorem dX7_sets_181 : decode cX7_sets 181 = .ok (.iload_n 2, 1) := by decide +kernel
theorem dX7_sets_182 : decode cX7_sets 182 = .ok (.invokevirtual 157, 3) := by decide +kernel
theorem dX7_sets_185 : decode cX7_sets 185 = .ok (.ifCond .ne 6, 3) := by decide +kernel
theorem dX7_sets_188 : decode cX7_sets 188 = .ok (.goto 38, 3) := by decide +kernel
theorem dX7_sets_191 : decode cX7_sets 191 = .ok (.aload_n 0, 1) := by decide +kernel
theorem dX7_sets_192 : decode cX7_sets 192 = .ok (.iload 6, 2) := by decide +kernel
theorem dX7_sets_194 : decode cX7_sets 194 = .ok (.putfield 154, 3) := by decide +kernel
theorem dX7_sets_197 : decode cX7_sets 197 = .ok (.iconst 0, 1) := by decide +kernel
theorem dX7_sets_198 : decode cX7_sets 198 = .ok (.istore 7, 2) := by decide +kernel
theorem dX7_sets_200 : decode cX7_sets 200 = .ok (.iload 7, 2) := by decide +kernel
theorem dX7_sets_202 : decode cX7_sets 202 = .ok (.iload_n 2, 1) := by decide +kernel
theorem dX7_sets_203 : decode cX7_sets 203 = .ok (.if_icmp .ge 23, 3) := by decide +kernel
theorem dX7_sets_206 : decode cX7_sets 206 = .ok (.aload_n 0, 1) := by decide +kernel
theorem dX7_sets_207 : decode cX7_sets 207 = .ok (.getfield 59, 3) := by decide +kernel
theorem dX7_sets_210 : decode cX7_sets 210 = .ok (.iload 7, 2) := by decide +kernel
theorem dX7_sets_212 : decode cX7_sets 212 = .ok (.aload_n 0, 1) := by decide +kernel
theorem dX7_sets_213 : decode cX7_sets 213 = .ok (.getfield 56, 3) := by decide +kernel
theorem dX7_sets_216 : decode cX7_sets 216 = .ok (.iload 7, 2) := by decide +kernel
theorem dX7_sets_218 : decode cX7_sets 218 = .ok (.iaload, 1) := by decide +kernel
theorem dX7_sets_219 : decode cX7_sets 219 = .ok (.iastore, 1) := by decide +kernel
theorem dX7_sets_220 : decode cX7_sets 220 = .ok (.iinc 7 1, 3) := by decide +kernel
theorem dX7_sets_223 : decode cX7_sets 223 = .ok (.goto (-23), 3) := by decide +kernel
theorem dX7_sets_226 : decode cX7_sets 226 = .ok (.iinc 4 1, 3) := by decide +kernel
theorem dX7_sets_229 : decode cX7_sets 229 = .ok (.goto (-150), 3) := by decide +kernel
theorem dX7_sets_232 : decode cX7_sets 232 = .ok (.iload_n 2, 1) := by decide +kernel
theorem dX7_sets_233 : decode cX7_sets 233 = .ok (.ireturn, 1) := by decide +kernel
theorem dX7_isGood_0 : decode cX7_isGood 0 = .ok (.iconst 0, 1) := by decide +kernel
theorem dX7_isGood_1 : decode cX7_isGood 1 = .ok (.istore_n 2, 1) := by decide +kernel
theorem dX7_isGood_2 : decode cX7_isGood 2 = .ok (.iload_n 2, 1) := by decide +kernel
theorem dX7_isGood_3 : decode cX7_isGood 3 = .ok (.iload_n 1, 1) := by decide +kernel
theorem dX7_isGood_4 : decode cX7_isGood 4 = .ok (.if_icmp .ge 76, 3) := by decide +kernel
theorem dX7_isGood_7 : decode cX7_isGood 7 = .ok (.aload_n 0, 1) := by decide +kernel
theorem dX7_isGood_8 : decode cX7_isGood 8 = .ok (.aload_n 0, 1) := by decide +kernel
theorem dX7_isGood_9 : decode cX7_isGood 9 = .ok (.getfield 53, 3) := by decide +kernel
theorem dX7_isGood_12 : decode cX7_isGood 12 = .ok (.iload_n 2, 1) := by decide +kernel
theorem dX7_isGood_13 : decode cX7_isGood 13 = .ok (.iaload, 1) := by decide +kernel
theorem dX7_isGood_14 : decode cX7_isGood 14 = .ok (.aload_n 0, 1) := by decide +kernel
theorem dX7_isGood_15 : decode cX7_isGood 15 = .ok (.getfield 56, 3) := by decide +kernel
theorem dX7_isGood_18 : decode cX7_isGood 18 = .ok (.iload_n 2, 1) := by decide +kernel
theorem dX7_isGood_19 : decode cX7_isGood 19 = .ok (.iaload, 1) := by decide +kernel
theorem dX7_isGood_20 : decode cX7_isGood 20 = .ok (.invokevirtual 151, 3) := by decide +kernel
theorem dX7_isGood_23 : decode cX7_isGood 23 = .ok (.ifCond .ne 5, 3) := by decide +kernel
theorem dX7_isGood_26 : decode cX7_isGood 26 = .ok (.iconst 0, 1) := by decide +kernel
theorem dX7_isGood_27 : decode cX7_isGood 27 = .ok (.ireturn, 1) := by decide +kernel
theorem dX7_isGood_28 : decode cX7_isGood 28 = .ok (.iconst 0, 1) := by decide +kernel
theorem dX7_isGood_29 : decode cX7_isGood 29 = .ok (.istore_n 3, 1) := by decide +kernel
theorem dX7_isGood_30 : decode cX7_isGood 30 = .ok (.iload_n 3, 1) := by decide +kernel
theorem dX7_isGood_31 : decode cX7_isGood 31 = .ok (.iload_n 2, 1) := by decide +kernel
theorem dX7_isGood_32 : decode cX7_isGood 32 = .ok (.if_icmp .ge 42, 3) := by decide +kernel
theorem dX7_isGood_35 : decode cX7_isGood 35 = .ok (.aload_n 0, 1) := by decide +kernel
theorem dX7_isGood_36 : decode cX7_isGood 36 = .ok (.aload_n 0, 1) := by decide +kernel
theorem dX7_isGood_37 : decode cX7_isGood 37 = .ok (.getfield 53, 3) := by decide +kernel
theorem dX7_isGood_40 : decode cX7_isGood 40 = .ok (.iload_n 2, 1) := by decide +kernel
theorem dX7_isGood_41 : decode cX7_isGood 41 = .ok (.iaload, 1) := by decide +kernel
theorem dX7_isGood_42 : decode cX7_isGood 42 = .ok (.aload_n 0, 1) := by decide +kernel
theorem dX7_isGood_43 : decode cX7_isGood 43 = .ok (.getfield 56, 3) := by decide +kernel
theorem dX7_isGood_46 : decode cX7_isGood 46 = .ok (.iload_n 2, 1) := by decide +kernel
theorem dX7_isGood_47 : decode cX7_isGood 47 = .ok (.iaload, 1) := by decide +kernel
theorem dX7_isGood_48 : decode cX7_isGood 48 = .ok (.aload_n 0, 1) := by decide +kernel
theorem dX7_isGood_49 : decode cX7_isGood 49 = .ok (.getfield 53, 3) := by decide +kernel
theorem dX7_isGood_52 : decode cX7_isGood 52 = .ok (.iload_n 3, 1) := by decide +kernel
theorem dX7_isGood_53 : decode cX7_isGood 53 = .ok (.iaload, 1) := by decide +kernel
theorem dX7_isGood_54 : decode cX7_isGood 54 = .ok (.aload_n 0, 1) := by decide +kernel
theorem dX7_isGood_55 : decode cX7_isGood 55 = .ok (.getfield 56, 3) := by decide +kernel
theorem dX7_isGood_58 : decode cX7_isGood 58 = .ok (.iload_n 3, 1) := by decide +kernel
theorem dX7_isGood_59 : decode cX7_isGood 59 = .ok (.iaload, 1) := by decide +kernel
theorem dX7_isGood_60 : decode cX7_isGood 60 = .ok (.invokevirtual 160, 3) := by decide +kernel
theorem dX7_isGood_63 : decode cX7_isGood 63 = .ok (.ifCond .ne 5, 3) := by decide +kernel
theorem dX7_isGood_66 : decode cX7_isGood 66 = .ok (.iconst 0, 1) := by decide +kernel
theorem dX7_isGood_67 : decode cX7_isGood 67 = .ok (.ireturn, 1) := by decide +kernel
theorem dX7_isGood_68 : decode cX7_isGood 68 = .ok (.iinc 3 1, 3) := by decide +kernel
theorem dX7_isGood_71 : decode cX7_isGood 71 = .ok (.goto (-41), 3) := by decide +kernel
theorem dX7_isGood_74 : decode cX7_isGood 74 = .ok (.iinc 2 1, 3) := by decide +kernel
theorem dX7_isGood_77 : decode cX7_isGood 77 = .ok (.goto (-75), 3) := by decide +kernel
theorem dX7_isGood_80 : decode cX7_isGood 80 = .ok (.iconst 1, 1) := by decide +kernel
theorem dX7_isGood_81 : decode cX7_isGood 81 = .ok (.ireturn, 1) := by decide +kernel
theorem dX7_set_0 : decode cX7_set 0 = .ok (.aload_n 0, 1) := by decide +kernel
theorem dX7_set_1 : decode cX7_set 1 = .ok (.iload_n 1, 1) := by decide +kernel
theorem dX7_set_2 : decode cX7_set 2 = .ok (.invokevirtual 139, 3) := by decide +kernel
theorem dX7_set_5 : decode cX7_set 5 = .ok (.ifCond .ne 5, 3) := by decide +kernel
theorem dX7_set_8 : decode cX7_set 8 = .ok (.iconst (-1), 1) := by decide +kernel
theorem dX7_set_9 : decode cX7_set 9 = .ok (.ireturn, 1) := by decide +kernel
theorem dX7_set_10 : decode cX7_set 10 = .ok (.aload_n 0, 1) := by decide +kernel
theorem dX7_set_11 : decode cX7_set 11 = .ok (.aload_n 0, 1) := by decide +kernel
