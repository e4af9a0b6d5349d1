theorem dX6_freshGores_9 : decode cX6_freshGores 9 = .ok (.istore_n 3, 1) := by decide +kernel
theorem dX6_freshGores_10 : decode cX6_freshGores 10 = .ok (.iconst 0, 1) := by decide +kernel
theorem dX6_freshGores_11 : decode cX6_freshGores 11 = .ok (.istore 4, 2) := by decide +kernel
theorem dX6_freshGores_13 : decode cX6_freshGores 13 = .ok (.iload 4, 2) := by decide +kernel
theorem dX6_freshGores_15 : decode cX6_freshGores 15 = .ok (.iload_n 3, 1) := by decide +kernel
theorem dX6_freshGores_16 : decode cX6_freshGores 16 = .ok (.if_icmp .ge 26, 3) := by decide +kernel
theorem dX6_freshGores_19 : decode cX6_freshGores 19 = .ok (.aload_n 2, 1) := by decide +kernel
theorem dX6_freshGores_20 : decode cX6_freshGores 20 = .ok (.iload 4, 2) := by decide +kernel
theorem dX6_freshGores_22 : decode cX6_freshGores 22 = .ok (.aaload, 1) := by decide +kernel
theorem dX6_freshGores_23 : decode cX6_freshGores 23 = .ok (.astore 5, 2) := by decide +kernel
theorem dX6_freshGores_25 : decode cX6_freshGores 25 = .ok (.aload 5, 2) := by decide +kernel
theorem dX6_freshGores_27 : decode cX6_freshGores 27 = .ok (.getfield 146, 3) := by decide +kernel
theorem dX6_freshGores_30 : decode cX6_freshGores 30 = .ok (.ifCond .eq 6, 3) := by decide +kernel
theorem dX6_freshGores_33 : decode cX6_freshGores 33 = .ok (.iinc 1 1, 3) := by decide +kernel
theorem dX6_freshGores_36 : decode cX6_freshGores 36 = .ok (.iinc 4 1, 3) := by decide +kernel
theorem dX6_freshGores_39 : decode cX6_freshGores 39 = .ok (.goto (-26), 3) := by decide +kernel
theorem dX6_freshGores_42 : decode cX6_freshGores 42 = .ok (.iload_n 1, 1) := by decide +kernel
theorem dX6_freshGores_43 : decode cX6_freshGores 43 = .ok (.ireturn, 1) := by decide +kernel
theorem dX6_sideOf_0 : decode cX6_sideOf 0 = .ok (.iconst 2, 1) := by decide +kernel
theorem dX6_sideOf_1 : decode cX6_sideOf 1 = .ok (.iload_n 1, 1) := by decide +kernel
theorem dX6_sideOf_2 : decode cX6_sideOf 2 = .ok (.iload_n 2, 1) := by decide +kernel
theorem dX6_sideOf_3 : decode cX6_sideOf 3 = .ok (.aload_n 0, 1) := by decide +kernel
theorem dX6_sideOf_4 : decode cX6_sideOf 4 = .ok (.getfield 34, 3) := by decide +kernel
theorem dX6_sideOf_7 : decode cX6_sideOf 7 = .ok (.imul, 1) := by decide +kernel
theorem dX6_sideOf_8 : decode cX6_sideOf 8 = .ok (.isub, 1) := by decide +kernel
theorem dX6_sideOf_9 : decode cX6_sideOf 9 = .ok (.sipush 360, 3) := by decide +kernel
theorem dX6_sideOf_12 : decode cX6_sideOf 12 = .ok (.invokestatic 247, 3) := by decide +kernel
theorem dX6_sideOf_15 : decode cX6_sideOf 15 = .ok (.imul, 1) := by decide +kernel
theorem dX6_sideOf_16 : decode cX6_sideOf 16 = .ok (.aload_n 0, 1) := by decide +kernel
theorem dX6_sideOf_17 : decode cX6_sideOf 17 = .ok (.getfield 34, 3) := by decide +kernel
theorem dX6_sideOf_20 : decode cX6_sideOf 20 = .ok (.isub, 1) := by decide +kernel
theorem dX6_sideOf_21 : decode cX6_sideOf 21 = .ok (.ireturn, 1) := by decide +kernel
theorem dX6_goneFromEdge_0 : decode cX6_goneFromEdge 0 = .ok (.aload_n 1, 1) := by decide +kernel
theorem dX6_goneFromEdge_1 : decode cX6_goneFromEdge 1 = .ok (.getfield 250, 3) := by decide +kernel
theorem dX6_goneFromEdge_4 : decode cX6_goneFromEdge 4 = .ok (.aload_n 1, 1) := by decide +kernel
theorem dX6_goneFromEdge_5 : decode cX6_goneFromEdge 5 = .ok (.getfield 253, 3) := by decide +kernel
theorem dX6_goneFromEdge_8 : decode cX6_goneFromEdge 8 = .ok (.imul, 1) := by decide +kernel
theorem dX6_goneFromEdge_9 : decode cX6_goneFromEdge 9 = .ok (.aload_n 0, 1) := by decide +kernel
theorem dX6_goneFromEdge_10 : decode cX6_goneFromEdge 10 = .ok (.getfield 34, 3) := by decide +kernel
theorem dX6_goneFromEdge_13 : decode cX6_goneFromEdge 13 = .ok (.invokestatic 247, 3) := by decide +kernel
theorem dX6_goneFromEdge_16 : decode cX6_goneFromEdge 16 = .ok (.ireturn, 1) := by decide +kernel
theorem dX6_piecesOf_0 : decode cX6_piecesOf 0 = .ok (.aload_n 0, 1) := by decide +kernel
theorem dX6_piecesOf_1 : decode cX6_piecesOf 1 = .ok (.aload_n 1, 1) := by decide +kernel
theorem dX6_piecesOf_2 : decode cX6_piecesOf 2 = .ok (.invokevirtual 254, 3) := by decide +kernel
theorem dX6_piecesOf_5 : decode cX6_piecesOf 5 = .ok (.istore_n 2, 1) := by decide +kernel
theorem dX6_piecesOf_6 : decode cX6_piecesOf 6 = .ok (.aload_n 1, 1) := by decide +kernel
theorem dX6_piecesOf_7 : decode cX6_piecesOf 7 = .ok (.getfield 85, 3) := by decide +kernel
theorem dX6_piecesOf_10 : decode cX6_piecesOf 10 = .ok (.ifCond .ne 13, 3) := by decide +kernel
theorem dX6_piecesOf_13 : decode cX6_piecesOf 13 = .ok (.iload_n 2, 1) := by decide +kernel
theorem dX6_piecesOf_14 : decode cX6_piecesOf 14 = .ok (.ifCond .ne 7, 3) := by decide +kernel
theorem dX6_piecesOf_17 : decode cX6_piecesOf 17 = .ok (.iconst 2, 1) := by decide +kernel
theorem dX6_piecesOf_18 : decode cX6_piecesOf 18 = .ok (.goto 4, 3) := by decide +kernel
theorem dX6_piecesOf_21 : decode cX6_piecesOf 21 = .ok (.iconst 1, 1) := by decide +kernel
theorem dX6_piecesOf_22 : decode cX6_piecesOf 22 = .ok (.ireturn, 1) := by decide +kernel
theorem dX6_piecesOf_23 : decode cX6_piecesOf 23 = .ok (.iload_n 2, 1) := by decide +kernel
theorem dX6_piecesOf_24 : decode cX6_piecesOf 24 = .ok (.aload_n 1, 1) := by decide +kernel
theorem dX6_piecesOf_25 : decode cX6_piecesOf 25 = .ok (.getfield 85, 3) := by decide +kernel
theorem dX6_piecesOf_28 : decode cX6_piecesOf 28 = .ok (.iadd, 1) := by decide +kernel
theorem dX6_piecesOf_29 : decode cX6_piecesOf 29 = .ok (.aload_n 0, 1) := by decide +kernel
theorem dX6_piecesOf_30 : decode cX6_piecesOf 30 = .ok (.getfield 34, 3) := by decide +kernel
theorem dX6_piecesOf_33 : decode cX6_piecesOf 33 = .ok (.iadd, 1) := by decide +kernel
theorem dX6_piecesOf_34 : decode cX6_piecesOf 34 = .ok (.iconst 1, 1) := by decide +kernel
theorem dX6_piecesOf_35 : decode cX6_piecesOf 35 = .ok (.isub, 1) := by decide +kernel
theorem dX6_piecesOf_36 : decode cX6_piecesOf 36 = .ok (.aload_n 0, 1) := by decide +kernel
theorem dX6_piecesOf_37 : decode cX6_piecesOf 37 = .ok (.getfield 34, 3) := by decide +kernel
theorem dX6_piecesOf_40 : decode cX6_piecesOf 40 = .ok (.invokestatic 30, 3) := by decide +kernel
theorem dX6_piecesOf_43 : decode cX6_piecesOf 43 = .ok (.ireturn, 1) := by decide +kernel
theorem dX6_cutUpright_0 : decode cX6_cutUpright 0 = .ok (.aload_n 2, 1) := by decide +kernel
theorem dX6_cutUpright_1 : decode cX6_cutUpright 1 = .ok (.getfield 253, 3) := by decide +kernel
theorem dX6_cutUpright_4 : decode cX6_cutUpright 4 = .ok (.aload_n 0, 1) := by decide +kernel
theorem dX6_cutUpright_5 : decode cX6_cutUpright 5 = .ok (.getfield 34, 3) := by decide +kernel
theorem dX6_cutUpright_8 : decode cX6_cutUpright 8 = .ok (.invokestatic 30, 3) := by decide +kernel
theorem dX6_cutUpright_11 : decode cX6_cutUpright 11 = .ok (.istore_n 3, 1) := by decide +kernel
theorem dX6_cutUpright_12 : decode cX6_cutUpright 12 = .ok (.aload_n 0, 1) := by decide +kernel
theorem dX6_cutUpright_13 : decode cX6_cutUpright 13 = .ok (.iload_n 1, 1) := by decide +kernel
theorem dX6_cutUpright_14 : decode cX6_cutUpright 14 = .ok (.aload_n 2, 1) := by decide +kernel
theorem dX6_cutUpright_15 : decode cX6_cutUpright 15 = .ok (.iload_n 3, 1) := by decide +kernel
theorem dX6_cutUpright_16 : decode cX6_cutUpright 16 = .ok (.invokevirtual 257, 3) := by decide +kernel
theorem dX6_cutUpright_19 : decode cX6_cutUpright 19 = .ok (.aload_n 0, 1) := by decide +kernel
theorem dX6_cutUpright_20 : decode cX6_cutUpright 20 = .ok (.aload_n 2, 1) := by decide +kernel
theorem dX6_cutUpright_21 : decode cX6_cutUpright 21 = .ok (.invokevirtual 254, 3) := by decide +kernel
theorem dX6_cutUpright_24 : decode cX6_cutUpright 24 = .ok (.ifCond .ne 20, 3) := by decide +kernel
theorem dX6_cutUpright_27 : decode cX6_cutUpright 27 = .ok (.aload_n 0, 1) := by decide +kernel
theorem dX6_cutUpright_28 : decode cX6_cutUpright 28 = .ok (.iload_n 1, 1) := by decide +kernel
theorem dX6_cutUpright_29 : decode cX6_cutUpright 29 = .ok (.aload_n 2, 1) := by decide +kernel
theorem dX6_cutUpright_30 : decode cX6_cutUpright 30 = .ok (.iload_n 3, 1) := by decide +kernel
theorem dX6_cutUpright_31 : decode cX6_cutUpright 31 = .ok (.iconst 1, 1) := by decide +kernel
theorem dX6_cutUpright_32 : decode cX6_cutUpright 32 = .ok (.isub, 1) := by decide +kernel
theorem dX6_cutUpright_33 : decode cX6_cutUpright 33 = .ok (.aload_n 0, 1) := by decide +kernel
theorem dX6_cutUpright_34 : decode cX6_cutUpright 34 = .ok (.getfield 40, 3) := by decide +kernel
theorem dX6_cutUpright_37 : decode cX6_cutUpright 37 = .ok (.arraylength, 1) := by decide +kernel
theorem dX6_cutUpright_38 : decode cX6_cutUpright 38 = .ok (.invokestatic 247, 3) := by decide +kernel
theorem dX6_cutUpright_41 : decode cX6_cutUpright 41 = .ok (.invokevirtual 257, 3) := by decide +kernel
theorem dX6_cutUpright_44 : decode cX6_cutUpright 44 = .ok (.return_, 1) := by decide +kernel
theorem dX6_layUpright_0 : decode cX6_layUpright 0 = .ok (.aload_n 0, 1) := by decide +kernel
theorem dX6_layUpright_1 : decode cX6_layUpright 1 = .ok (.aload_n 2, 1) := by decide +kernel
theorem dX6_layUpright_2 : decode cX6_layUpright 2 = .ok (.getfield 253, 3) := by decide +kernel
theorem dX6_layUpright_5 : decode cX6_layUpright 5 = .ok (.iload_n 3, 1) := by decide +kernel
theorem dX6_layUpright_6 : decode cX6_layUpright 6 = .ok (.invokevirtual 160, 3) := by decide +kernel
theorem dX6_layUpright_9 : decode cX6_layUpright 9 = .ok (.istore 4, 2) := by decide +kernel
theorem dX6_layUpright_11 : decode cX6_layUpright 11 = .ok (.aload_n 0, 1) := by decide +kernel
theorem dX6_layUpright_12 : decode cX6_layUpright 12 = .ok (.iload_n 3, 1) := by decide +kernel
theorem dX6_layUpright_13 : decode cX6_layUpright 13 = .ok (.new 120, 3) := by decide +kernel
theorem dX6_layUpright_16 : decode cX6_layUpright 16 = .ok (.dup, 1) := by decide +kernel
theorem dX6_layUpright_17 : decode cX6_layUpright 17 = .ok (.iload_n 1, 1) := by decide +kernel
theorem dX6_layUpright_18 : decode cX6_layUpright 18 = .ok (.iload 4, 2) := by decide +kernel
theorem dX6_layUpright_20 : decode cX6_layUpright 20 = .ok (.aload_n 2, 1) := by decide +kernel
theorem dX6_layUpright_21 : decode cX6_layUpright 21 = .ok (.getfield 260, 3) := by decide +kernel
theorem dX6_layUpright_24 : decode cX6_layUpright 24 = .ok (.iload 4, 2) := by decide +kernel
theorem dX6_layUpright_26 : decode cX6_layUpright 26 = .ok (.aload_n 2, 1) := by decide +kernel
theorem dX6_layUpright_27 : decode cX6_layUpright 27 = .ok (.getfield 260, 3) := by decide +kernel
theorem dX6_layUpright_30 : decode cX6_layUpright 30 = .ok (.aload_n 2, 1) := by decide +kernel
theorem dX6_layUpright_31 : decode cX6_layUpright 31 = .ok (.getfield 261, 3) := by decide +kernel
theorem dX6_layUpright_34 : decode cX6_layUpright 34 = .ok (.iadd, 1) := by decide +kernel
theorem dX6_layUpright_35 : decode cX6_layUpright 35 = .ok (.invokespecial 264, 3) := by decide +kernel
theorem dX6_layUpright_38 : decode cX6_layUpright 38 = .ok (.invokevirtual 267, 3) := by decide +kernel
theorem dX6_layUpright_41 : decode cX6_layUpright 41 = .ok (.return_, 1) := by decide +kernel
theorem dX6_cutSlanting_0 : decode cX6_cutSlanting 0 = .ok (.aload_n 0, 1) := by decide +kernel
theorem dX6_cutSlanting_1 : decode cX6_cutSlanting 1 = .ok (.aload_n 2, 1) := by decide +kernel
theorem dX6_cutSlanting_2 : decode cX6_cutSlanting 2 = .ok (.invokevirtual 254, 3) := by decide +kernel
theorem dX6_cutSlanting_5 : decode cX6_cutSlanting 5 = .ok (.istore 4, 2) := by decide +kernel
theorem dX6_cutSlanting_7 : decode cX6_cutSlanting 7 = .ok (.aload_n 2, 1) := by decide +kernel
theorem dX6_cutSlanting_8 : decode cX6_cutSlanting 8 = .ok (.getfield 253, 3) := by decide +kernel
theorem dX6_cutSlanting_11 : decode cX6_cutSlanting 11 = .ok (.aload_n 2, 1) := by decide +kernel
theorem dX6_cutSlanting_12 : decode cX6_cutSlanting 12 = .ok (.getfield 250, 3) := by decide +kernel
theorem dX6_cutSlanting_15 : decode cX6_cutSlanting 15 = .ok (.iload 4, 2) := by decide +kernel
theorem dX6_cutSlanting_17 : decode cX6_cutSlanting 17 = .ok (.imul, 1) := by decide +kernel
theorem dX6_cutSlanting_18 : decode cX6_cutSlanting 18 = .ok (.isub, 1) := by decide +kernel
theorem dX6_cutSlanting_19 : decode cX6_cutSlanting 19 = .ok (.aload_n 0, 1) := by decide +kernel
theorem dX6_cutSlanting_20 : decode cX6_cutSlanting 20 = .ok (.getfield 34, 3) := by decide +kernel
theorem dX6_cutSlanting_23 : decode cX6_cutSlanting 23 = .ok (.invokestatic 30, 3) := by decide +kernel
theorem dX6_cutSlanting_26 : decode cX6_cutSlanting 26 = .ok (.istore 5, 2) := by decide +kernel
theorem dX6_cutSlanting_28 : decode cX6_cutSlanting 28 = .ok (.aload_n 2, 1) := by decide +kernel
theorem dX6_cutSlanting_29 : decode cX6_cutSlanting 29 = .ok (.getfield 250, 3) := by decide +kernel
theorem dX6_cutSlanting_32 : decode cX6_cutSlanting 32 = .ok (.ifCond .ge 6, 3) := by decide +kernel
theorem dX6_cutSlanting_35 : decode cX6_cutSlanting 35 = .ok (.iinc 5 (-1), 3) := by decide +kernel
theorem dX6_cutSlanting_38 : decode cX6_cutSlanting 38 = .ok (.iconst 0, 1) := by decide +kernel
theorem dX6_cutSlanting_39 : decode cX6_cutSlanting 39 = .ok (.istore 6, 2) := by decide +kernel
theorem dX6_cutSlanting_41 : decode cX6_cutSlanting 41 = .ok (.iload 6, 2) := by decide +kernel
theorem dX6_cutSlanting_43 : decode cX6_cutSlanting 43 = .ok (.iload_n 3, 1) := by decide +kernel
theorem dX6_cutSlanting_44 : decode cX6_cutSlanting 44 = .ok (.if_icmp .ge 116, 3) := by decide +kernel
theorem dX6_cutSlanting_47 : decode cX6_cutSlanting 47 = .ok (.iload 5, 2) := by decide +kernel
theorem dX6_cutSlanting_49 : decode cX6_cutSlanting 49 = .ok (.aload_n 2, 1) := by decide +kernel
theorem dX6_cutSlanting_50 : decode cX6_cutSlanting 50 = .ok (.getfield 250, 3) := by decide +kernel
theorem dX6_cutSlanting_53 : decode cX6_cutSlanting 53 = .ok (.iload 6, 2) := by decide +kernel
theorem dX6_cutSlanting_55 : decode cX6_cutSlanting 55 = .ok (.imul, 1) := by decide +kernel
theorem dX6_cutSlanting_56 : decode cX6_cutSlanting 56 = .ok (.iadd, 1) := by decide +kernel
theorem dX6_cutSlanting_57 : decode cX6_cutSlanting 57 = .ok (.aload_n 0, 1) := by decide +kernel
theorem dX6_cutSlanting_58 : decode cX6_cutSlanting 58 = .ok (.getfield 40, 3) := by decide +kernel
theorem dX6_cutSlanting_61 : decode cX6_cutSlanting 61 = .ok (.arraylength, 1) := by decide +kernel
theorem dX6_cutSlanting_62 : decode cX6_cutSlanting 62 = .ok (.invokestatic 247, 3) := by decide +kernel
theorem dX6_cutSlanting_65 : decode cX6_cutSlanting 65 = .ok (.istore 7, 2) := by decide +kernel
theorem dX6_cutSlanting_67 : decode cX6_cutSlanting 67 = .ok (.iconst 0, 1) := by decide +kernel
theorem dX6_cutSlanting_68 : decode cX6_cutSlanting 68 = .ok (.iload 6, 2) := by decide +kernel
theorem dX6_cutSlanting_70 : decode cX6_cutSlanting 70 = .ok (.aload_n 0, 1) := by decide +kernel
theorem dX6_cutSlanting_71 : decode cX6_cutSlanting 71 = .ok (.getfield 34, 3) := by decide +kernel
theorem dX6_cutSlanting_74 : decode cX6_cutSlanting 74 = .ok (.imul, 1) := by decide +kernel
theorem dX6_cutSlanting_75 : decode cX6_cutSlanting 75 = .ok (.iload 4, 2) := by decide +kernel
theorem dX6_cutSlanting_77 : decode cX6_cutSlanting 77 = .ok (.isub, 1) := by decide +kernel
theorem dX6_cutSlanting_78 : decode cX6_cutSlanting 78 = .ok (.invokestatic 271, 3) := by decide +kernel
theorem dX6_cutSlanting_81 : decode cX6_cutSlanting 81 = .ok (.istore 8, 2) := by decide +kernel
theorem dX6_cutSlanting_83 : decode cX6_cutSlanting 83 = .ok (.aload_n 2, 1) := by decide +kernel
theorem dX6_cutSlanting_84 : decode cX6_cutSlanting 84 = .ok (.getfield 85, 3) := by decide +kernel
theorem dX6_cutSlanting_87 : decode cX6_cutSlanting 87 = .ok (.iload 6, 2) := by decide +kernel
theorem dX6_cutSlanting_89 : decode cX6_cutSlanting 89 = .ok (.iconst 1, 1) := by decide +kernel
theorem dX6_cutSlanting_90 : decode cX6_cutSlanting 90 = .ok (.iadd, 1) := by decide +kernel
theorem dX6_cutSlanting_91 : decode cX6_cutSlanting 91 = .ok (.aload_n 0, 1) := by decide +kernel
theorem dX6_cutSlanting_92 : decode cX6_cutSlanting 92 = .ok (.getfield 34, 3) := by decide +kernel
theorem dX6_cutSlanting_95 : decode cX6_cutSlanting 95 = .ok (.imul, 1) := by decide +kernel
theorem dX6_cutSlanting_96 : decode cX6_cutSlanting 96 = .ok (.iload 4, 2) := by decide +kernel
theorem dX6_cutSlanting_98 : decode cX6_cutSlanting 98 = .ok (.isub, 1) := by decide +kernel
theorem dX6_cutSlanting_99 : decode cX6_cutSlanting 99 = .ok (.invokestatic 274, 3) := by decide +kernel
theorem dX6_cutSlanting_102 : decode cX6_cutSlanting 102 = .ok (.istore 9, 2) := by decide +kernel
theorem dX6_cutSlanting_104 : decode cX6_cutSlanting 104 = .ok (.aload_n 0, 1) := by decide +kernel
theorem dX6_cutSlanting_105 : decode cX6_cutSlanting 105 = .ok (.iload 7, 2) := by decide +kernel
theorem dX6_cutSlanting_107 : decode cX6_cutSlanting 107 = .ok (.new 120, 3) := by decide +kernel
theorem dX6_cutSlanting_110 : decode cX6_cutSlanting 110 = .ok (.dup, 1) := by decide +kernel
theorem dX6_cutSlanting_111 : decode cX6_cutSlanting 111 = .ok (.iload_n 1, 1) := by decide +kernel
theorem dX6_cutSlanting_112 : decode cX6_cutSlanting 112 = .ok (.aload_n 0, 1) := by decide +kernel
theorem dX6_cutSlanting_113 : decode cX6_cutSlanting 113 = .ok (.aload_n 2, 1) := by decide +kernel
theorem dX6_cutSlanting_114 : decode cX6_cutSlanting 114 = .ok (.iload 8, 2) := by decide +kernel
theorem dX6_cutSlanting_116 : decode cX6_cutSlanting 116 = .ok (.invokevirtual 277, 3) := by decide +kernel
theorem dX6_cutSlanting_119 : decode cX6_cutSlanting 119 = .ok (.iload 7, 2) := by decide +kernel
theorem dX6_cutSlanting_121 : decode cX6_cutSlanting 121 = .ok (.invokevirtual 160, 3) := by decide +kernel
theorem dX6_cutSlanting_124 : decode cX6_cutSlanting 124 = .ok (.aload_n 2, 1) := by decide +kernel
theorem dX6_cutSlanting_125 : decode cX6_cutSlanting 125 = .ok (.iload 8, 2) := by decide +kernel
theorem dX6_cutSlanting_127 : decode cX6_cutSlanting 127 = .ok (.invokevirtual 280, 3) := by decide +kernel
theorem dX6_cutSlanting_130 : decode cX6_cutSlanting 130 = .ok (.aload_n 0, 1) := by decide +kernel
theorem dX6_cutSlanting_131 : decode cX6_cutSlanting 131 = .ok (.aload_n 2, 1) := by decide +kernel
theorem dX6_cutSlanting_132 : decode cX6_cutSlanting 132 = .ok (.iload 9, 2) := by decide +kernel
theorem dX6_cutSlanting_134 : decode cX6_cutSlanting 134 = .ok (.invokevirtual 277, 3) := by decide +kernel
theorem dX6_cutSlanting_137 : decode cX6_cutSlanting 137 = .ok (.iload 7, 2) := by decide +kernel
theorem dX6_cutSlanting_139 : decode cX6_cutSlanting 139 = .ok (.invokevirtual 160, 3) := by decide +kernel
theorem dX6_cutSlanting_142 : decode cX6_cutSlanting 142 = .ok (.aload_n 2, 1) := by decide +kernel
theorem dX6_cutSlanting_143 : decode cX6_cutSlanting 143 = .ok (.iload 9, 2) := by decide +kernel
theorem dX6_cutSlanting_145 : decode cX6_cutSlanting 145 = .ok (.invokevirtual 280, 3) := by decide +kernel
theorem dX6_cutSlanting_148 : decode cX6_cutSlanting 148 = .ok (.invokespecial 264, 3) := by decide +kernel
theorem dX6_cutSlanting_151 : decode cX6_cutSlanting 151 = .ok (.invokevirtual 267, 3) := by decide +kernel
theorem dX6_cutSlanting_154 : decode cX6_cutSlanting 154 = .ok (.iinc 6 1, 3) := by decide +kernel
theorem dX6_cutSlanting_157 : decode cX6_cutSlanting 157 = .ok (.goto (-116), 3) := by decide +kernel
theorem dX6_cutSlanting_160 : decode cX6_cutSlanting 160 = .ok (.return_, 1) := by decide +kernel
theorem dX6_lay_0 : decode cX6_lay 0 = .ok (.aload_n 0, 1) := by decide +kernel
theorem dX6_lay_1 : decode cX6_lay 1 = .ok (.iload_n 1, 1) := by decide +kernel
theorem dX6_lay_2 : decode cX6_lay 2 = .ok (.invokevirtual 109, 3) := by decide +kernel
theorem dX6_lay_5 : decode cX6_lay 5 = .ok (.astore_n 3, 1) := by decide +kernel
theorem dX6_lay_6 : decode cX6_lay 6 = .ok (.aload_n 3, 1) := by decide +kernel
theorem dX6_lay_7 : decode cX6_lay 7 = .ok (.ifnonnull 4, 3) := by decide +kernel
theorem dX6_lay_10 : decode cX6_lay 10 = .ok (.return_, 1) := by decide +kernel
theorem dX6_lay_11 : decode cX6_lay 11 = .ok (.aload_n 3, 1) := by decide +kernel
theorem dX6_lay_12 : decode cX6_lay 12 = .ok (.getfield 113, 3) := by decide +kernel
theorem dX6_lay_15 : decode cX6_lay 15 = .ok (.aload_n 2, 1) := by decide +kernel
theorem dX6_lay_16 : decode cX6_lay 16 = .ok (.invokevirtual 69, 3) := by decide +kernel
theorem dX6_lay_19 : decode cX6_lay 19 = .ok (.pop, 1) := by decide +kernel
theorem dX6_lay_20 : decode cX6_lay 20 = .ok (.aload_n 3, 1) := by decide +kernel
theorem dX6_lay_21 : decode cX6_lay 21 = .ok (.iconst 1, 1) := by decide +kernel
theorem dX6_lay_22 : decode cX6_lay 22 = .ok (.putfield 146, 3) := by decide +kernel
theorem dX6_lay_25 : decode cX6_lay 25 = .ok (.aload_n 0, 1) := by decide +kernel
theorem dX6_lay_26 : decode cX6_lay 26 = .ok (.dup, 1) := by decide +kernel
theorem dX6_lay_27 : decode cX6_lay 27 = .ok (.getfield 92, 3) := by decide +kernel
theorem dX6_lay_30 : decode cX6_lay 30 = .ok (.iconst 1, 1) := by decide +kernel
theorem dX6_lay_31 : decode cX6_lay 31 = .ok (.iadd, 1) := by decide +kernel
theorem dX6_lay_32 : decode cX6_lay 32 = .ok (.putfield 92, 3) := by decide +kernel
theorem dX6_lay_35 : decode cX6_lay 35 = .ok (.return_, 1) := by decide +kernel
theorem dX6_waysWithinEdges_0 : decode cX6_waysWithinEdges 0 = .ok (.bipush 16, 2) := by decide +kernel
theorem dX6_waysWithinEdges_2 : decode cX6_waysWithinEdges 2 = .ok (.istore_n 2, 1) := by decide +kernel
theorem dX6_waysWithinEdges_3 : decode cX6_waysWithinEdges 3 = .ok (.iconst 0, 1) := by decide +kernel
theorem dX6_waysWithinEdges_4 : decode cX6_waysWithinEdges 4 = .ok (.istore_n 3, 1) := by decide +kernel
theorem dX6_waysWithinEdges_5 : decode cX6_waysWithinEdges 5 = .ok (.iload_n 3, 1) := by decide +kernel
theorem dX6_waysWithinEdges_6 : decode cX6_waysWithinEdges 6 = .ok (.iconst 4, 1) := by decide +kernel
theorem dX6_waysWithinEdges_7 : decode cX6_waysWithinEdges 7 = .ok (.if_icmp .ge 47, 3) := by decide +kernel
theorem dX6_waysWithinEdges_10 : decode cX6_waysWithinEdges 10 = .ok (.aload_n 1, 1) := by decide +kernel
theorem dX6_waysWithinEdges_11 : decode cX6_waysWithinEdges 11 = .ok (.iload_n 3, 1) := by decide +kernel
theorem dX6_waysWithinEdges_12 : decode cX6_waysWithinEdges 12 = .ok (.invokevirtual 283, 3) := by decide +kernel
theorem dX6_waysWithinEdges_15 : decode cX6_waysWithinEdges 15 = .ok (.istore 4, 2) := by decide +kernel
theorem dX6_waysWithinEdges_17 : decode cX6_waysWithinEdges 17 = .ok (.aload_n 0, 1) := by decide +kernel
theorem dX6_waysWithinEdges_18 : decode cX6_waysWithinEdges 18 = .ok (.aload_n 1, 1) := by decide +kernel
theorem dX6_waysWithinEdges_19 : decode cX6_waysWithinEdges 19 = .ok (.iload_n 3, 1) := by decide +kernel
theorem dX6_waysWithinEdges_20 : decode cX6_waysWithinEdges 20 = .ok (.iload 4, 2) := by decide +kernel
theorem dX6_waysWithinEdges_22 : decode cX6_waysWithinEdges 22 = .ok (.invokevirtual 286, 3) := by decide +kernel
theorem dX6_waysWithinEdges_25 : decode cX6_waysWithinEdges 25 = .ok (.ifCond .eq 23, 3) := by decide +kernel
theorem dX6_waysWithinEdges_28 : decode cX6_waysWithinEdges 28 = .ok (.aload_n 0, 1) := by decide +kernel
theorem dX6_waysWithinEdges_29 : decode cX6_waysWithinEdges 29 = .ok (.aload_n 1, 1) := by decide +kernel
theorem dX6_waysWithinEdges_30 : decode cX6_waysWithinEdges 30 = .ok (.iload_n 3, 1) := by decide +kernel
theorem dX6_waysWithinEdges_31 : decode cX6_waysWithinEdges 31 = .ok (.iload 4, 2) := by decide +kernel
theorem dX6_waysWithinEdges_33 : decode cX6_waysWithinEdges 33 = .ok (.bipush 80, 2) := by decide +kernel
theorem dX6_waysWithinEdges_35 : decode cX6_waysWithinEdges 35 = .ok (.iadd, 1) := by decide +kernel
theorem dX6_waysWithinEdges_36 : decode cX6_waysWithinEdges 36 = .ok (.invokevirtual 286, 3) := by decide +kernel
theorem dX6_waysWithinEdges_39 : decode cX6_waysWithinEdges 39 = .ok (.ifCond .eq 9, 3) := by decide +kernel
theorem dX6_waysWithinEdges_42 : decode cX6_waysWithinEdges 42 = .ok (.iload_n 2, 1) := by decide +kernel
theorem dX6_waysWithinEdges_43 : decode cX6_waysWithinEdges 43 = .ok (.iconst 1, 1) := by decide +kernel
theorem dX6_waysWithinEdges_44 : decode cX6_waysWithinEdges 44 = .ok (.iload_n 3, 1) := by decide +kernel
theorem dX6_waysWithinEdges_45 : decode cX6_waysWithinEdges 45 = .ok (.ishl, 1) := by decide +kernel
theorem dX6_waysWithinEdges_46 : decode cX6_waysWithinEdges 46 = .ok (.ior, 1) := by decide +kernel
theorem dX6_waysWithinEdges_47 : decode cX6_waysWithinEdges 47 = .ok (.istore_n 2, 1) := by decide +kernel
theorem dX6_waysWithinEdges_48 : decode cX6_waysWithinEdges 48 = .ok (.iinc 3 1, 3) := by decide +kernel
theorem dX6_waysWithinEdges_51 : decode cX6_waysWithinEdges 51 = .ok (.goto (-46), 3) := by decide +kernel
theorem dX6_waysWithinEdges_54 : decode cX6_waysWithinEdges 54 = .ok (.iload_n 2, 1) := by decide +kernel
theorem dX6_waysWithinEdges_55 : decode cX6_waysWithinEdges 55 = .ok (.ireturn, 1) := by decide +kernel
theorem dX6_isWithinEdges_0 : decode cX6_isWithinEdges 0 = .ok (.iload_n 3, 1) := by decide +kernel
theorem dX6_isWithinEdges_1 : decode cX6_isWithinEdges 1 = .ok (.invokestatic 45, 3) := by decide +kernel
theorem dX6_isWithinEdges_4 : decode cX6_isWithinEdges 4 = .ok (.ifCond .ne 5, 3) := by decide +kernel
theorem dX6_isWithinEdges_7 : decode cX6_isWithinEdges 7 = .ok (.iconst 0, 1) := by decide +kernel
theorem dX6_isWithinEdges_8 : decode cX6_isWithinEdges 8 = .ok (.ireturn, 1) := by decide +kernel
theorem dX6_isWithinEdges_9 : decode cX6_isWithinEdges 9 = .ok (.aload_n 0, 1) := by decide +kernel
theorem dX6_isWithinEdges_10 : decode cX6_isWithinEdges 10 = .ok (.getfield 34, 3) := by decide +kernel
theorem dX6_isWithinEdges_13 : decode cX6_isWithinEdges 13 = .ok (.iload_n 3, 1) := by decide +kernel
theorem dX6_isWithinEdges_14 : decode cX6_isWithinEdges 14 = .ok (.invokestatic 52, 3) := by decide +kernel
theorem dX6_isWithinEdges_17 : decode cX6_isWithinEdges 17 = .ok (.istore 4, 2) := by decide +kernel
theorem dX6_isWithinEdges_19 : decode cX6_isWithinEdges 19 = .ok (.aload_n 1, 1) := by decide +kernel
theorem dX6_isWithinEdges_20 : decode cX6_isWithinEdges 20 = .ok (.iload_n 2, 1) := by decide +kernel
theorem dX6_isWithinEdges_21 : decode cX6_isWithinEdges 21 = .ok (.invokevirtual 290, 3) := by decide +kernel
theorem dX6_isWithinEdges_24 : decode cX6_isWithinEdges 24 = .ok (.iload 4, 2) := by decide +kernel
theorem dX6_isWithinEdges_26 : decode cX6_isWithinEdges 26 = .ok (.ineg, 1) := by decide +kernel
theorem dX6_isWithinEdges_27 : decode cX6_isWithinEdges 27 = .ok (.if_icmp .lt 17, 3) := by decide +kernel
theorem dX6_isWithinEdges_30 : decode cX6_isWithinEdges 30 = .ok (.aload_n 1, 1) := by decide +kernel
theorem dX6_isWithinEdges_31 : decode cX6_isWithinEdges 31 = .ok (.iload_n 2, 1) := by decide +kernel
theorem dX6_isWithinEdges_32 : decode cX6_isWithinEdges 32 = .ok (.invokevirtual 293, 3) := by decide +kernel
theorem dX6_isWithinEdges_35 : decode cX6_isWithinEdges 35 = .ok (.iload 4, 2) := by decide +kernel
theorem dX6_isWithinEdges_37 : decode cX6_isWithinEdges 37 = .ok (.if_icmp .gt 7, 3) := by decide +kernel
theorem dX6_isWithinEdges_40 : decode cX6_isWithinEdges 40 = .ok (.iconst 1, 1) := by decide +kernel
theorem dX6_isWithinEdges_41 : decode cX6_isWithinEdges 41 = .ok (.goto 4, 3) := by decide +kernel
theorem dX6_isWithinEdges_44 : decode cX6_isWithinEdges 44 = .ok (.iconst 0, 1) := by decide +kernel
theorem dX6_isWithinEdges_45 : decode cX6_isWithinEdges 45 = .ok (.ireturn, 1) := by decide +kernel
theorem dX6_changeNames_0 : decode cX6_changeNames 0 = .ok (.aload_n 1, 1) := by decide +kernel
theorem dX6_changeNames_1 : decode cX6_changeNames 1 = .ok (.iconst 1, 1) := by decide +kernel
theorem dX6_changeNames_2 : decode cX6_changeNames 2 = .ok (.putfield 146, 3) := by decide +kernel
theorem dX6_changeNames_5 : decode cX6_changeNames 5 = .ok (.aload_n 0, 1) := by decide +kernel
theorem dX6_changeNames_6 : decode cX6_changeNames 6 = .ok (.getfield 22, 3) := by decide +kernel
theorem dX6_changeNames_9 : decode cX6_changeNames 9 = .ok (.sipush 595, 3) := by decide +kernel
theorem dX6_changeNames_12 : decode cX6_changeNames 12 = .ok (.putfield 296, 3) := by decide +kernel
theorem dX6_changeNames_15 : decode cX6_changeNames 15 = .ok (.aload_n 1, 1) := by decide +kernel
theorem dX6_changeNames_16 : decode cX6_changeNames 16 = .ok (.aload_n 0, 1) := by decide +kernel
theorem dX6_changeNames_17 : decode cX6_changeNames 17 = .ok (.getfield 22, 3) := by decide +kernel
theorem dX6_changeNames_20 : decode cX6_changeNames 20 = .ok (.iconst 0, 1) := by decide +kernel
theorem dX6_changeNames_21 : decode cX6_changeNames 21 = .ok (.iconst 0, 1) := by decide +kernel
theorem dX6_changeNames_22 : decode cX6_changeNames 22 = .ok (.invokestatic 299, 3) := by decide +kernel
theorem dX6_changeNames_25 : decode cX6_changeNames 25 = .ok (.iconst 0, 1) := by decide +kernel
theorem dX6_changeNames_26 : decode cX6_changeNames 26 = .ok (.istore_n 2, 1) := by decide +kernel
theorem dX6_changeNames_27 : decode cX6_changeNames 27 = .ok (.iload_n 2, 1) := by decide +kernel
theorem dX6_changeNames_28 : decode cX6_changeNames 28 = .ok (.aload_n 1, 1) := by decide +kernel
theorem dX6_changeNames_29 : decode cX6_changeNames 29 = .ok (.getfield 159, 3) := by decide +kernel
theorem dX6_changeNames_32 : decode cX6_changeNames 32 = .ok (.invokevirtual 60, 3) := by decide +kernel
theorem dX6_changeNames_35 : decode cX6_changeNames 35 = .ok (.if_icmp .ge 44, 3) := by decide +kernel
theorem dX6_changeNames_38 : decode cX6_changeNames 38 = .ok (.iload_n 2, 1) := by decide +kernel
theorem dX6_changeNames_39 : decode cX6_changeNames 39 = .ok (.aload_n 0, 1) := by decide +kernel
theorem dX6_changeNames_40 : decode cX6_changeNames 40 = .ok (.getfield 22, 3) := by decide +kernel
theorem dX6_changeNames_43 : decode cX6_changeNames 43 = .ok (.getfield 303, 3) := by decide +kernel
theorem dX6_changeNames_46 : decode cX6_changeNames 46 = .ok (.arraylength, 1) := by decide +kernel
theorem dX6_changeNames_47 : decode cX6_changeNames 47 = .ok (.if_icmp .ge 32, 3) := by decide +kernel
theorem dX6_changeNames_50 : decode cX6_changeNames 50 = .ok (.aload_n 1, 1) := by decide +kernel
theorem dX6_changeNames_51 : decode cX6_changeNames 51 = .ok (.getfield 159, 3) := by decide +kernel
theorem dX6_changeNames_54 : decode cX6_changeNames 54 = .ok (.iload_n 2, 1) := by decide +kernel
theorem dX6_changeNames_55 : decode cX6_changeNames 55 = .ok (.invokevirtual 116, 3) := by decide +kernel
theorem dX6_changeNames_58 : decode cX6_changeNames 58 = .ok (.checkcast 163, 3) := by decide +kernel
theorem dX6_changeNames_61 : decode cX6_changeNames 61 = .ok (.aload_n 0, 1) := by decide +kernel
theorem dX6_changeNames_62 : decode cX6_changeNames 62 = .ok (.getfield 22, 3) := by decide +kernel
theorem dX6_changeNames_65 : decode cX6_changeNames 65 = .ok (.getfield 303, 3) := by decide +kernel
theorem dX6_changeNames_68 : decode cX6_changeNames 68 = .ok (.iload_n 2, 1) := by decide +kernel
theorem dX6_changeNames_69 : decode cX6_changeNames 69 = .ok (.iaload, 1) := by decide +kernel
theorem dX6_changeNames_70 : decode cX6_changeNames 70 = .ok (.putfield 196, 3) := by decide +kernel
theorem dX6_changeNames_73 : decode cX6_changeNames 73 = .ok (.iinc 2 1, 3) := by decide +kernel
theorem dX6_changeNames_76 : decode cX6_changeNames 76 = .ok (.goto (-49), 3) := by decide +kernel
theorem dX6_changeNames_79 : decode cX6_changeNames 79 = .ok (.aload_n 1, 1) := by decide +kernel
theorem dX6_changeNames_80 : decode cX6_changeNames 80 = .ok (.aload_n 0, 1) := by decide +kernel
theorem dX6_changeNames_81 : decode cX6_changeNames 81 = .ok (.getfield 22, 3) := by decide +kernel
theorem dX6_changeNames_84 : decode cX6_changeNames 84 = .ok (.getfield 296, 3) := by decide +kernel
theorem dX6_changeNames_87 : decode cX6_changeNames 87 = .ok (.putfield 199, 3) := by decide +kernel
theorem dX6_changeNames_90 : decode cX6_changeNames 90 = .ok (.return_, 1) := by decide +kernel
theorem dX6_tryWays_0 : decode cX6_tryWays 0 = .ok (.iload_n 3, 1) := by decide +kernel
theorem dX6_tryWays_1 : decode cX6_tryWays 1 = .ok (.aload_n 1, 1) := by decide +kernel
theorem dX6_tryWays_2 : decode cX6_tryWays 2 = .ok (.getfield 296, 3) := by decide +kernel
theorem dX6_tryWays_5 : decode cX6_tryWays 5 = .ok (.if_icmp .lt 4, 3) := by decide +kernel
theorem dX6_tryWays_8 : decode cX6_tryWays 8 = .ok (.return_, 1) := by decide +kernel
theorem dX6_tryWays_9 : decode cX6_tryWays 9 = .ok (.iload_n 2, 1) := by decide +kernel
theorem dX6_tryWays_10 : decode cX6_tryWays 10 = .ok (.aload_n 0, 1) := by decide +kernel
theorem dX6_tryWays_11 : decode cX6_tryWays 11 = .ok (.getfield 159, 3) := by decide +kernel
theorem dX6_tryWays_14 : decode cX6_tryWays 14 = .ok (.invokevirtual 60, 3) := by decide +kernel
theorem dX6_tryWays_17 : decode cX6_tryWays 17 = .ok (.if_icmp .ge 9, 3) := by decide +kernel
theorem dX6_tryWays_20 : decode cX6_tryWays 20 = .ok (.iload_n 2, 1) := by decide +kernel
theorem dX6_tryWays_21 : decode cX6_tryWays 21 = .ok (.bipush 6, 2) := by decide +kernel
theorem dX6_tryWays_23 : decode cX6_tryWays 23 = .ok (.if_icmp .lt 9, 3) := by decide +kernel
theorem dX6_tryWays_26 : decode cX6_tryWays 26 = .ok (.aload_n 1, 1) := by decide +kernel
theorem dX6_tryWays_27 : decode cX6_tryWays 27 = .ok (.iload_n 3, 1) := by decide +kernel
theorem dX6_tryWays_28 : decode cX6_tryWays 28 = .ok (.invokevirtual 306, 3) := by decide +kernel
theorem dX6_tryWays_31 : decode cX6_tryWays 31 = .ok (.return_, 1) := by decide +kernel
theorem dX6_tryWays_32 : decode cX6_tryWays 32 = .ok (.aload_n 0, 1) := by decide +kernel
theorem dX6_tryWays_33 : decode cX6_tryWays 33 = .ok (.getfield 159, 3) := by decide +kernel
theorem dX6_tryWays_36 : decode cX6_tryWays 36 = .ok (.iload_n 2, 1) := by decide +kernel
theorem dX6_tryWays_37 : decode cX6_tryWays 37 = .ok (.invokevirtual 116, 3) := by decide +kernel
theorem dX6_tryWays_40 : decode cX6_tryWays 40 = .ok (.checkcast 163, 3) := by decide +kernel
theorem dX6_tryWays_43 : decode cX6_tryWays 43 = .ok (.astore 4, 2) := by decide +kernel
theorem dX6_tryWays_45 : decode cX6_tryWays 45 = .ok (.iconst 0, 1) := by decide +kernel
theorem dX6_tryWays_46 : decode cX6_tryWays 46 = .ok (.istore 5, 2) := by decide +kernel
theorem dX6_tryWays_48 : decode cX6_tryWays 48 = .ok (.iload 5, 2) := by decide +kernel
theorem dX6_tryWays_50 : decode cX6_tryWays 50 = .ok (.iconst 4, 1) := by decide +kernel
theorem dX6_tryWays_51 : decode cX6_tryWays 51 = .ok (.if_icmp .gt 57, 3) := by decide +kernel
theorem dX6_tryWays_54 : decode cX6_tryWays 54 = .ok (.aload 4, 2) := by decide +kernel
theorem dX6_tryWays_56 : decode cX6_tryWays 56 = .ok (.iload 5, 2) := by decide +kernel
theorem dX6_tryWays_58 : decode cX6_tryWays 58 = .ok (.invokevirtual 193, 3) := by decide +kernel
theorem dX6_tryWays_61 : decode cX6_tryWays 61 = .ok (.ifCond .eq 41, 3) := by decide +kernel
theorem dX6_tryWays_64 : decode cX6_tryWays 64 = .ok (.aload 4, 2) := by decide +kernel
theorem dX6_tryWays_66 : decode cX6_tryWays 66 = .ok (.iload 5, 2) := by decide +kernel
theorem dX6_tryWays_68 : decode cX6_tryWays 68 = .ok (.aload_n 0, 1) := by decide +kernel
theorem dX6_tryWays_69 : decode cX6_tryWays 69 = .ok (.aload_n 1, 1) := by decide +kernel
theorem dX6_tryWays_70 : decode cX6_tryWays 70 = .ok (.iload_n 2, 1) := by decide +kernel
theorem dX6_tryWays_71 : decode cX6_tryWays 71 = .ok (.invokestatic 310, 3) := by decide +kernel
theorem dX6_tryWays_74 : decode cX6_tryWays 74 = .ok (.ifCond .eq 28, 3) := by decide +kernel
theorem dX6_tryWays_77 : decode cX6_tryWays 77 = .ok (.aload_n 1, 1) := by decide +kernel
theorem dX6_tryWays_78 : decode cX6_tryWays 78 = .ok (.getfield 314, 3) := by decide +kernel
theorem dX6_tryWays_81 : decode cX6_tryWays 81 = .ok (.iload_n 2, 1) := by decide +kernel
theorem dX6_tryWays_82 : decode cX6_tryWays 82 = .ok (.iload 5, 2) := by decide +kernel
theorem dX6_tryWays_84 : decode cX6_tryWays 84 = .ok (.iastore, 1) := by decide +kernel
theorem dX6_tryWays_85 : decode cX6_tryWays 85 = .ok (.aload_n 0, 1) := by decide +kernel
theorem dX6_tryWays_86 : decode cX6_tryWays 86 = .ok (.aload_n 1, 1) := by decide +kernel
theorem dX6_tryWays_87 : decode cX6_tryWays 87 = .ok (.iload_n 2, 1) := by decide +kernel
theorem dX6_tryWays_88 : decode cX6_tryWays 88 = .ok (.iconst 1, 1) := by decide +kernel
theorem dX6_tryWays_89 : decode cX6_tryWays 89 = .ok (.iadd, 1) := by decide +kernel
theorem dX6_tryWays_90 : decode cX6_tryWays 90 = .ok (.iload_n 3, 1) := by decide +kernel
theorem dX6_tryWays_91 : decode cX6_tryWays 91 = .ok (.aload 4, 2) := by decide +kernel
theorem dX6_tryWays_93 : decode cX6_tryWays 93 = .ok (.iload 5, 2) := by decide +kernel
theorem dX6_tryWays_95 : decode cX6_tryWays 95 = .ok (.invokevirtual 317, 3) := by decide +kernel
theorem dX6_tryWays_98 : decode cX6_tryWays 98 = .ok (.iadd, 1) := by decide +kernel
theorem dX6_tryWays_99 : decode cX6_tryWays 99 = .ok (.invokestatic 299, 3) := by decide +kernel
theorem dX6_tryWays_102 : decode cX6_tryWays 102 = .ok (.iinc 5 1, 3) := by decide +kernel
theorem dX6_tryWays_105 : decode cX6_tryWays 105 = .ok (.goto (-57), 3) := by decide +kernel
theorem dX6_tryWays_108 : decode cX6_tryWays 108 = .ok (.return_, 1) := by decide +kernel
theorem dX6_isClear_0 : decode cX6_isClear 0 = .ok (.iconst 0, 1) := by decide +kernel
theorem dX6_isClear_1 : decode cX6_isClear 1 = .ok (.istore 5, 2) := by decide +kernel
theorem dX6_isClear_3 : decode cX6_isClear 3 = .ok (.iload 5, 2) := by decide +kernel
theorem dX6_isClear_5 : decode cX6_isClear 5 = .ok (.iload 4, 2) := by decide +kernel
theorem dX6_isClear_7 : decode cX6_isClear 7 = .ok (.if_icmp .ge 49, 3) := by decide +kernel
theorem dX6_isClear_10 : decode cX6_isClear 10 = .ok (.iload 5, 2) := by decide +kernel
theorem dX6_isClear_12 : decode cX6_isClear 12 = .ok (.aload_n 2, 1) := by decide +kernel
theorem dX6_isClear_13 : decode cX6_isClear 13 = .ok (.getfield 159, 3) := by decide +kernel
theorem dX6_isClear_16 : decode cX6_isClear 16 = .ok (.invokevirtual 60, 3) := by decide +kernel
theorem dX6_isClear_19 : decode cX6_isClear 19 = .ok (.if_icmp .ge 37, 3) := by decide +kernel
theorem dX6_isClear_22 : decode cX6_isClear 22 = .ok (.aload_n 0, 1) := by decide +kernel
theorem dX6_isClear_23 : decode cX6_isClear 23 = .ok (.iload_n 1, 1) := by decide +kernel
theorem dX6_isClear_24 : decode cX6_isClear 24 = .ok (.aload_n 2, 1) := by decide +kernel
theorem dX6_isClear_25 : decode cX6_isClear 25 = .ok (.getfield 159, 3) := by decide +kernel
theorem dX6_isClear_28 : decode cX6_isClear 28 = .ok (.iload 5, 2) := by decide +kernel
theorem dX6_isClear_30 : decode cX6_isClear 30 = .ok (.invokevirtual 116, 3) := by decide +kernel
theorem dX6_isClear_33 : decode cX6_isClear 33 = .ok (.checkcast 163, 3) := by decide +kernel
theorem dX6_isClear_36 : decode cX6_isClear 36 = .ok (.aload_n 3, 1) := by decide +kernel
theorem dX6_isClear_37 : decode cX6_isClear 37 = .ok (.iload 5, 2) := by decide +kernel
theorem dX6_isClear_39 : decode cX6_isClear 39 = .ok (.invokevirtual 320, 3) := by decide +kernel
theorem dX6_isClear_42 : decode cX6_isClear 42 = .ok (.invokevirtual 323, 3) := by decide +kernel
theorem dX6_isClear_45 : decode cX6_isClear 45 = .ok (.ifCond .eq 5, 3) := by decide +kernel
theorem dX6_isClear_48 : decode cX6_isClear 48 = .ok (.iconst 0, 1) := by decide +kernel
theorem dX6_isClear_49 : decode cX6_isClear 49 = .ok (.ireturn, 1) := by decide +kernel
theorem dX6_isClear_50 : decode cX6_isClear 50 = .ok (.iinc 5 1, 3) := by decide +kernel
theorem dX6_isClear_53 : decode cX6_isClear 53 = .ok (.goto (-50), 3) := by decide +kernel
theorem dX6_isClear_56 : decode cX6_isClear 56 = .ok (.iconst 1, 1) := by decide +kernel
theorem dX6_isClear_57 : decode cX6_isClear 57 = .ok (.ireturn, 1) := by decide +kernel
theorem dX7_init_0 : decode cX7_init 0 = .ok (.aload_n 0, 1) := by decide +kernel
theorem dX7_init_1 : decode cX7_init 1 = .ok (.invokespecial 1, 3) := by decide +kernel
theorem dX7_init_4 : decode cX7_init 4 = .ok (.aload_n 0, 1) := by decide +kernel
theorem dX7_init_5 : decode cX7_init 5 = .ok (.bipush 92, 2) := by decide +kernel
theorem dX7_init_7 : decode cX7_init 7 = .ok (.newarray .int, 2) := by decide +kernel
theorem dX7_init_9 : decode cX7_init 9 = .ok (.dup, 1) := by decide +kernel
theorem dX7_init_10 : decode cX7_init 10 = .ok (.iconst 0, 1) := by decide +kernel
theorem dX7_init_11 : decode cX7_init 11 = .ok (.sipush 1000, 3) := by decide +kernel
theorem dX7_init_14 : decode cX7_init 14 = .ok (.iastore, 1) := by decide +kernel
theorem dX7_init_15 : decode cX7_init 15 = .ok (.dup, 1) := by decide +kernel
theorem dX7_init_16 : decode cX7_init 16 = .ok (.iconst 1, 1) := by decide +kernel
theorem dX7_init_17 : decode cX7_init 17 = .ok (.sipush 1000, 3) := by decide +kernel
theorem dX7_init_20 : decode cX7_init 20 = .ok (.iastore, 1) := by decide +kernel
theorem dX7_init_21 : decode cX7_init 21 = .ok (.dup, 1) := by decide +kernel
theorem dX7_init_22 : decode cX7_init 22 = .ok (.iconst 2, 1) := by decide +kernel
theorem dX7_init_23 : decode cX7_init 23 = .ok (.sipush 999, 3) := by decide +kernel
theorem dX7_init_26 : decode cX7_init 26 = .ok (.iastore, 1) := by decide +kernel
theorem dX7_init_27 : decode cX7_init 27 = .ok (.dup, 1) := by decide +kernel
theorem dX7_init_28 : decode cX7_init 28 = .ok (.iconst 3, 1) := by decide +kernel
theorem dX7_init_29 : decode cX7_init 29 = .ok (.sipush 999, 3) := by decide +kernel
theorem dX7_init_32 : decode cX7_init 32 = .ok (.iastore, 1) := by decide +kernel
theorem dX7_init_33 : decode cX7_init 33 = .ok (.dup, 1) := by decide +kernel
theorem dX7_init_34 : decode cX7_init 34 = .ok (.iconst 4, 1) := by decide +kernel
theorem dX7_init_35 : decode cX7_init 35 = .ok (.sipush 998, 3) := by decide +kernel
theorem dX7_init_38 : decode cX7_init 38 = .ok (.iastore, 1) := by decide +kernel
theorem dX7_init_39 : decode cX7_init 39 = .ok (.dup, 1) := by decide +kernel
theorem dX7_init_40 : decode cX7_init 40 = .ok (.iconst 5, 1) := by decide +kernel
theorem dX7_init_41 : decode cX7_init 41 = .ok (.sipush 996, 3) := by decide +kernel
theorem dX7_init_44 : decode cX7_init 44 = .ok (.iastore, 1) := by decide +kernel
theorem dX7_init_45 : decode cX7_init 45 = .ok (.dup, 1) := by decide +kernel
theorem dX7_init_46 : decode cX7_init 46 = .ok (.bipush 6, 2) := by decide +kernel
theorem dX7_init_48 : decode cX7_init 48 = .ok (.sipush 995, 3) := by decide +kernel
theorem dX7_init_51 : decode cX7_init 51 = .ok (.iastore, 1) := by decide +kernel
theorem dX7_init_52 : decode cX7_init 52 = .ok (.dup, 1) := by decide +kernel
theorem dX7_init_53 : decode cX7_init 53 = .ok (.bipush 7, 2) := by decide +kernel
theorem dX7_init_55 : decode cX7_init 55 = .ok (.sipush 993, 3) := by decide +kernel
theorem dX7_init_58 : decode cX7_init 58 = .ok (.iastore, 1) := by decide +kernel
theorem dX7_init_59 : decode cX7_init 59 = .ok (.dup, 1) := by decide +kernel
theorem dX7_init_60 : decode cX7_init 60 = .ok (.bipush 8, 2) := by decide +kernel
theorem dX7_init_62 : decode cX7_init 62 = .ok (.sipush 990, 3) := by decide +kernel
theorem dX7_init_65 : decode cX7_init 65 = .ok (.iastore, 1) := by decide +kernel
theorem dX7_init_66 : decode cX7_init 66 = .ok (.dup, 1) := by decide +kernel
theorem dX7_init_67 : decode cX7_init 67 = .ok (.bipush 9, 2) := by decide +kernel
theorem dX7_init_69 : decode cX7_init 69 = .ok (.sipush 988, 3) := by decide +kernel
theorem dX7_init_72 : decode cX7_init 72 = .ok (.iastore, 1) := by decide +kernel
theorem dX7_init_73 : decode cX7_init 73 = .ok (.dup, 1) := by decide +kernel
theorem dX7_init_74 : decode cX7_init 74 = .ok (.bipush 10, 2) := by decide +kernel
theorem dX7_init_76 : decode cX7_init 76 = .ok (.sipush 985, 3) := by decide +kernel
theorem dX7_init_79 : decode cX7_init 79 = .ok (.iastore, 1) := by decide +kernel
theorem dX7_init_80 : decode cX7_init 80 = .ok (.dup, 1) := by decide +kernel
theorem dX7_init_81 : decode cX7_init 81 = .ok (.bipush 11, 2) := by decide +kernel
theorem dX7_init_83 : decode cX7_init 83 = .ok (.sipush 982, 3) := by decide +kernel
theorem dX7_init_86 : decode cX7_init 86 = .ok (.iastore, 1) := by decide +kernel
theorem dX7_init_87 : decode cX7_init 87 = .ok (.dup, 1) := by decide +kernel
theorem dX7_init_88 : decode cX7_init 88 = .ok (.bipush 12, 2) := by decide +kernel
theorem dX7_init_90 : decode cX7_init 90 = .ok (.sipush 978, 3) := by decide +kernel
theorem dX7_init_93 : decode cX7_init 93 = .ok (.iastore, 1) := by decide +kernel
theorem dX7_init_94 : decode cX7_init 94 = .ok (.dup, 1) := by decide +kernel
theorem dX7_init_95 : decode cX7_init 95 = .ok (.bipush 13, 2) := by decide +kernel
theorem dX7_init_97 : decode cX7_init 97 = .ok (.sipush 974, 3) := by decide +kernel
theorem dX7_init_100 : decode cX7_init 100 = .ok (.iastore, 1) := by decide +kernel
theorem dX7_init_101 : decode cX7_init 101 = .ok (.dup, 1) := by decide +kernel
theorem dX7_init_102 : decode cX7_init 102 = .ok (.bipush 14, 2) := by decide +kernel
theorem dX7_init_104 : decode cX7_init 104 = .ok (.sipush 970, 3) := by decide +kernel
theorem dX7_init_107 : decode cX7_init 107 = .ok (.iastore, 1) := by decide +kernel
theorem dX7_init_108 : decode cX7_init 108 = .ok (.dup, 1) := by decide +kernel
theorem dX7_init_109 : decode cX7_init 109 = .ok (.bipush 15, 2) := by decide +kernel
theorem dX7_init_111 : decode cX7_init 111 = .ok (.sipush 966, 3) := by decide +kernel
theorem dX7_init_114 : decode cX7_init 114 = .ok (.iastore, 1) := by decide +kernel
theorem dX7_init_115 : decode cX7_init 115 = .ok (.dup, 1) := by decide +kernel
theorem dX7_init_116 : decode cX7_init 116 = .ok (.bipush 16, 2) := by decide +kernel
theorem dX7_init_118 : decode cX7_init 118 = .ok (.sipush 961, 3) := by decide +kernel
theorem dX7_init_121 : decode cX7_init 121 = .ok (.iastore, 1) := by decide +kernel
theorem dX7_init_122 : decode cX7_init 122 = .ok (.dup, 1) := by decide +kernel
theorem dX7_init_123 : decode cX7_init 123 = .ok (.bipush 17, 2) := by decide +kernel
theorem dX7_init_125 : decode cX7_init 125 = .ok (.sipush 956, 3) := by decide +kernel
theorem dX7_init_128 : decode cX7_init 128 = .ok (.iastore, 1) := by decide +kernel
theorem dX7_init_129 : decode cX7_init 129 = .ok (.dup, 1) := by decide +kernel
theorem dX7_init_130 : decode cX7_init 130 = .ok (.bipush 18, 2) := by decide +kernel
theorem dX7_init_132 : decode cX7_init 132 = .ok (.sipush 951, 3) := by decide +kernel
theorem dX7_init_135 : decode cX7_init 135 = .ok (.iastore, 1) := by decide +kernel
theorem dX7_init_136 : decode cX7_init 136 = .ok (.dup, 1) := by decide +kernel
theorem dX7_init_137 : decode cX7_init 137 = .ok (.bipush 19, 2) := by decide +kernel
theorem dX7_init_139 : decode cX7_init 139 = .ok (.sipush 946, 3) := by decide +kernel
theorem dX7_init_142 : decode cX7_init 142 = .ok (.iastore, 1) := by decide +kernel
theorem dX7_init_143 : decode cX7_init 143 = .ok (.dup, 1) := by decide +kernel
theorem dX7_init_144 : decode cX7_init 144 = .ok (.bipush 20, 2) := by decide +kernel
theorem dX7_init_146 : decode cX7_init 146 = .ok (.sipush 940, 3) := by decide +kernel
theorem dX7_init_149 : decode cX7_init 149 = .ok (.iastore, 1) := by decide +kernel
theorem dX7_init_150 : decode cX7_init 150 = .ok (.dup, 1) := by decide +kernel
theorem dX7_init_151 : decode cX7_init 151 = .ok (.bipush 21, 2) := by decide +kernel
theorem dX7_init_153 : decode cX7_init 153 = .ok (.sipush 934, 3) := by decide +kernel
theorem dX7_init_156 : decode cX7_init 156 = .ok (.iastore, 1) := by decide +kernel
theorem dX7_init_157 : decode cX7_init 157 = .ok (.dup, 1) := by decide +kernel
theorem dX7_init_158 : decode cX7_init 158 = .ok (.bipush 22, 2) := by decide +kernel
theorem dX7_init_160 : decode cX7_init 160 = .ok (.sipush 927, 3) := by decide +kernel
theorem dX7_init_163 : decode cX7_init 163 = .ok (.iastore, 1) := by decide +kernel
theorem dX7_init_164 : decode cX7_init 164 = .ok (.dup, 1) := by decide +kernel
theorem dX7_init_165 : decode cX7_init 165 = .ok (.bipush 23, 2) := by decide +kernel
theorem dX7_init_167 : decode cX7_init 167 = .ok (.sipush 921, 3) := by decide +kernel
theorem dX7_init_170 : decode cX7_init 170 = .ok (.iastore, 1) := by decide +kernel
theorem dX7_init_171 : decode cX7_init 171 = .ok (.dup, 1) := by decide +kernel
theorem dX7_init_172 : decode cX7_init 172 = .ok (.bipush 24, 2) := by decide +kernel
theorem dX7_init_174 : decode cX7_init 174 = .ok (.sipush 914, 3) := by decide +kernel
theorem dX7_init_177 : decode cX7_init 177 = .ok (.iastore, 1) := by decide +kernel
theorem dX7_init_178 : decode cX7_init 178 = .ok (.dup, 1) := by decide +kernel
theorem dX7_init_179 : decode cX7_init 179 = .ok (.bipush 25, 2) := by decide +kernel
theorem dX7_init_181 : decode cX7_init 181 = .ok (.sipush 906, 3) := by decide +kernel
theorem dX7_init_184 : decode cX7_init 184 = .ok (.iastore, 1) := by decide +kernel
theorem dX7_init_185 : decode cX7_init 185 = .ok (.dup, 1) := by decide +kernel
theorem dX7_init_186 : decode cX7_init 186 = .ok (.bipush 26, 2) := by decide +kernel
theorem dX7_init_188 : decode cX7_init 188 = .ok (.sipush 899, 3) := by decide +kernel
theorem dX7_init_191 : decode cX7_init 191 = .ok (.iastore, 1) := by decide +kernel
theorem dX7_init_192 : decode cX7_init 192 = .ok (.dup, 1) := by decide +kernel
theorem dX7_init_193 : decode cX7_init 193 = .ok (.bipush 27, 2) := by decide +kernel
theorem dX7_init_195 : decode cX7_init 195 = .ok (.sipush 891, 3) := by decide +kernel
theorem dX7_init_198 : decode cX7_init 198 = .ok (.iastore, 1) := by decide +kernel
theorem dX7_init_199 : decode cX7_init 199 = .ok (.dup, 1) := by decide +kernel
theorem dX7_init_200 : decode cX7_init 200 = .ok (.bipush 28, 2) := by decide +kernel
theorem dX7_init_202 : decode cX7_init 202 = .ok (.sipush 883, 3) := by decide +kernel
theorem dX7_init_205 : decode cX7_init 205 = .ok (.iastore, 1) := by decide +kernel
theorem dX7_init_206 : decode cX7_init 206 = .ok (.dup, 1) := by decide +kernel
theorem dX7_init_207 : decode cX7_init 207 = .ok (.bipush 29, 2) := by decide +kernel
theorem dX7_init_209 : decode cX7_init 209 = .ok (.sipush 875, 3) := by decide +kernel
theorem dX7_init_212 : decode cX7_init 212 = .ok (.iastore, 1) := by decide +kernel
theorem dX7_init_213 : decode cX7_init 213 = .ok (.dup, 1) := by decide +kernel
theorem dX7_init_214 : decode cX7_init 214 = .ok (.bipush 30, 2) := by decide +kernel
theorem dX7_init_216 : decode cX7_init 216 = .ok (.sipush 866, 3) := by decide +kernel
theorem dX7_init_219 : decode cX7_init 219 = .ok (.iastore, 1) := by decide +kernel
theorem dX7_init_220 : decode cX7_init 220 = .ok (.dup, 1) := by decide +kernel
theorem dX7_init_221 : decode cX7_init 221 = .ok (.bipush 31, 2) := by decide +kernel
theorem dX7_init_223 : decode cX7_init 223 = .ok (.sipush 857, 3) := by decide +kernel
theorem dX7_init_226 : decode cX7_init 226 = .ok (.iastore, 1) := by decide +kernel
theorem dX7_init_227 : decode cX7_init 227 = .ok (.dup, 1) := by decide +kernel
theorem dX7_init_228 : decode cX7_init 228 = .ok (.bipush 32, 2) := by decide +kernel
theorem dX7_init_230 : decode cX7_init 230 = .ok (.sipush 848, 3) := by decide +kernel
theorem dX7_init_233 : decode cX7_init 233 = .ok (.iastore, 1) := by decide +kernel
theorem dX7_init_234 : decode cX7_init 234 = .ok (.dup, 1) := by decide +kernel
theorem dX7_init_235 : decode cX7_init 235 = .ok (.bipush 33, 2) := by decide +kernel
theorem dX7_init_237 : decode cX7_init 237 = .ok (.sipush 839, 3) := by decide +kernel
theorem dX7_init_240 : decode cX7_init 240 = .ok (.iastore, 1) := by decide +kernel
theorem dX7_init_241 : decode cX7_init 241 = .ok (.dup, 1) := by decide +kernel
theorem dX7_init_242 : decode cX7_init 242 = .ok (.bipush 34, 2) := by decide +kernel
theorem dX7_init_244 : decode cX7_init 244 = .ok (.sipush 829, 3) := by decide +kernel
theorem dX7_init_247 : decode cX7_init 247 = .ok (.iastore, 1) := by decide +kernel
theorem dX7_init_248 : decode cX7_init 248 = .ok (.dup, 1) := by decide +kernel
theorem dX7_init_249 : decode cX7_init 249 = .ok (.bipush 35, 2) := by decide +kernel
theorem dX7_init_251 : decode cX7_init 251 = .ok (.sipush 819, 3) := by decide +kernel
theorem dX7_init_254 : decode cX7_init 254 = .ok (.iastore, 1) := by decide +kernel
theorem dX7_init_255 : decode cX7_init 255 = .ok (.dup, 1) := by decide +kernel
theorem dX7_init_256 : decode cX7_init 256 = .ok (.bipush 36, 2) := by decide +kernel
theorem dX7_init_258 : decode cX7_init 258 = .ok (.sipush 809, 3) := by decide +kernel
theorem dX7_init_261 : decode cX7_init 261 = .ok (.iastore, 1) := by decide +kernel
theorem dX7_init_262 : decode cX7_init 262 = .ok (.dup, 1) := by decide +kernel
theorem dX7_init_263 : decode cX7_init 263 = .ok (.bipush 37, 2) := by decide +kernel
theorem dX7_init_265 : decode cX7_init 265 = .ok (.sipush 799, 3) := by decide +kernel
theorem dX7_init_268 : decode cX7_init 268 = .ok (.iastore, 1) := by decide +kernel
theorem dX7_init_269 : decode cX7_init 269 = .ok (.dup, 1) := by decide +kernel
theorem dX7_init_270 : decode cX7_init 270 = .ok (.bipush 38, 2) := by decide +kernel
theorem dX7_init_272 : decode cX7_init 272 = .ok (.sipush 788, 3) := by decide +kernel
theorem dX7_init_275 : decode cX7_init 275 = .ok (.iastore, 1) := by decide +kernel
theorem dX7_init_276 : decode cX7_init 276 = .ok (.dup, 1) := by decide +kernel
theorem dX7_init_277 : decode cX7_init 277 = .ok (.bipush 39, 2) := by decide +kernel
theorem dX7_init_279 : decode cX7_init 279 = .ok (.sipush 777, 3) := by decide +kernel
theorem dX7_init_282 : decode cX7_init 282 = .ok (.iastore, 1) := by decide +kernel
theorem dX7_init_283 : decode cX7_init 283 = .ok (.dup, 1) := by decide +kernel
theorem dX7_init_284 : decode cX7_init 284 = .ok (.bipush 40, 2) := by decide +kernel
theorem dX7_init_286 : decode cX7_init 286 = .ok (.sipush 766, 3) := by decide +kernel
theorem dX7_init_289 : decode cX7_init 289 = .ok (.iastore, 1) := by decide +kernel
theorem dX7_init_290 : decode cX7_init 290 = .ok (.dup, 1) := by decide +kernel
theorem dX7_init_291 : decode cX7_init 291 = .ok (.bipush 41, 2) := by decide +kernel
theorem dX7_init_293 : decode cX7_init 293 = .ok (.sipush 755, 3) := by decide +kernel
theorem dX7_init_296 : decode cX7_init 296 = .ok (.iastore, 1) := by decide +kernel
theorem dX7_init_297 : decode cX7_init 297 = .ok (.dup, 1) := by decide +kernel
theorem dX7_init_298 : decode cX7_init 298 = .ok (.bipush 42, 2) := by decide +kernel
theorem dX7_init_300 : decode cX7_init 300 = .ok (.sipush 743, 3) := by decide +kernel
theorem dX7_init_303 : decode cX7_init 303 = .ok (.iastore, 1) := by decide +kernel
theorem dX7_init_304 : decode cX7_init 304 = .ok (.dup, 1) := by decide +kernel
theorem dX7_init_305 : decode cX7_init 305 = .ok (.bipush 43, 2) := by decide +kernel
theorem dX7_init_307 : decode cX7_init 307 = .ok (.sipush 731, 3) := by decide +kernel
theorem dX7_init_310 : decode cX7_init 310 = .ok (.iastore, 1) := by decide +kernel
theorem dX7_init_311 : decode cX7_init 311 = .ok (.dup, 1) := by decide +kernel
theorem dX7_init_312 : decode cX7_init 312 = .ok (.bipush 44, 2) := by decide +kernel
theorem dX7_init_314 : decode cX7_init 314 = .ok (.sipush 719, 3) := by decide +kernel
theorem dX7_init_317 : decode cX7_init 317 = .ok (.iastore, 1) := by decide +kernel
theorem dX7_init_318 : decode cX7_init 318 = .ok (.dup, 1) := by decide +kernel
theorem dX7_init_319 : decode cX7_init 319 = .ok (.bipush 45, 2) := by decide +kernel
theorem dX7_init_321 : decode cX7_init 321 = .ok (.sipush 707, 3) := by decide +kernel
theorem dX7_init_324 : decode cX7_init 324 = .ok (.iastore, 1) := by decide +kernel
theorem dX7_init_325 : decode cX7_init 325 = .ok (.dup, 1) := by decide +kernel
theorem dX7_init_326 : decode cX7_init 326 = .ok (.bipush 46, 2) := by decide +kernel
theorem dX7_init_328 : decode cX7_init 328 = .ok (.sipush 695, 3) := by decide +kernel
theorem dX7_init_331 : decode cX7_init 331 = .ok (.iastore, 1) := by decide +kernel
theorem dX7_init_332 : decode cX7_init 332 = .ok (.dup, 1) := by decide +kernel
theorem dX7_init_333 : decode cX7_init 333 = .ok (.bipush 47, 2) := by decide +kernel
theorem dX7_init_335 : decode cX7_init 335 = .ok (.sipush 682, 3) := by decide +kernel
theorem dX7_init_338 : decode cX7_init 338 = .ok (.iastore, 1) := by decide +kernel
theorem dX7_init_339 : decode cX7_init 339 = .ok (.dup, 1) := by decide +kernel
theorem dX7_init_340 : decode cX7_init 340 = .ok (.bipush 48, 2) := by decide +kernel
theorem dX7_init_342 : decode cX7_init 342 = .ok (.sipush 669, 3) := by decide +kernel
theorem dX7_init_345 : decode cX7_init 345 = .ok (.iastore, 1) := by decide +kernel
theorem dX7_init_346 : decode cX7_init 346 = .ok (.dup, 1) := by decide +kernel
theorem dX7_init_347 : decode cX7_init 347 = .ok (.bipush 49, 2) := by decide +kernel
theorem dX7_init_349 : decode cX7_init 349 = .ok (.sipush 656, 3) := by decide +kernel
theorem dX7_init_352 : decode cX7_init 352 = .ok (.iastore, 1) := by decide +kernel
theorem dX7_init_353 : decode cX7_init 353 = .ok (.dup, 1) := by decide +kernel
theorem dX7_init_354 : decode cX7_init 354 = .ok (.bipush 50, 2) := by decide +kernel
theorem dX7_init_356 : decode cX7_init 356 = .ok (.sipush 643, 3) := by decide +kernel
theorem dX7_init_359 : decode cX7_init 359 = .ok (.iastore, 1) := by decide +kernel
theorem dX7_init_360 : decode cX7_init 360 = .ok (.dup, 1) := by decide +kernel
theorem dX7_init_361 : decode cX7_init 361 = .ok (.bipush 51, 2) := by decide +kernel
theorem dX7_init_363 : decode cX7_init 363 = .ok (.sipush 629, 3) := by decide +kernel
theorem dX7_init_366 : decode cX7_init 366 = .ok (.iastore, 1) := by decide +kernel
theorem dX7_init_367 : decode cX7_init 367 = .ok (.dup, 1) := by decide +kernel
theorem dX7_init_368 : decode cX7_init 368 = .ok (.bipush 52, 2) := by decide +kernel
theorem dX7_init_370 : decode cX7_init 370 = .ok (.sipush 616, 3) := by decide +kernel
theorem dX7_init_373 : decode cX7_init 373 = .ok (.iastore, 1) := by decide +kernel
theorem dX7_init_374 : decode cX7_init 374 = .ok (.dup, 1) := by decide +kernel
theorem dX7_init_375 : decode cX7_init 375 = .ok (.bipush 53, 2) := by decide +kernel
theorem dX7_init_377 : decode cX7_init 377 = .ok (.sipush 602, 3) := by decide +kernel
theorem dX7_init_380 : decode cX7_init 380 = .ok (.iastore, 1) := by decide +kernel
theorem dX7_init_381 : decode cX7_init 381 = .ok (.dup, 1) := by decide +kernel
theorem dX7_init_382 : decode cX7_init 382 = .ok (.bipush 54, 2) := by decide +kernel
theorem dX7_init_384 : decode cX7_init 384 = .ok (.sipush 588, 3) := by decide +kernel
theorem dX7_init_387 : decode cX7_init 387 = .ok (.iastore, 1) := by decide +kernel
theorem dX7_init_388 : decode cX7_init 388 = .ok (.dup, 1) := by decide +kernel
theorem dX7_init_389 : decode cX7_init 389 = .ok (.bipush 55, 2) := by decide +kernel
theorem dX7_init_391 : decode cX7_init 391 = .ok (.sipush 574, 3) := by decide +kernel
theorem dX7_init_394 : decode cX7_init 394 = .ok (.iastore, 1) := by decide +kernel
theorem dX7_init_395 : decode cX7_init 395 = .ok (.dup, 1) := by decide +kernel
theorem dX7_init_396 : decode cX7_init 396 = .ok (.bipush 56, 2) := by decide +kernel
theorem dX7_init_398 : decode cX7_init 398 = .ok (.sipush 559, 3) := by decide +kernel
theorem dX7_init_401 : decode cX7_init 401 = .ok (.iastore, 1) := by decide +kernel
theorem dX7_init_402 : decode cX7_init 402 = .ok (.dup, 1) := by decide +kernel
theorem dX7_init_403 : decode cX7_init 403 = .ok (.bipush 57, 2) := by decide +kernel
theorem dX7_init_405 : decode cX7_init 405 = .ok (.sipush 545, 3) := by decide +kernel
theorem dX7_init_408 : decode cX7_init 408 = .ok (.iastore, 1) := by decide +kernel
theorem dX7_init_409 : decode cX7_init 409 = .ok (.dup, 1) := by decide +kernel
theorem dX7_init_410 : decode cX7_init 410 = .ok (.bipush 58, 2) := by decide +kernel
theorem dX7_init_412 : decode cX7_init 412 = .ok (.sipush 530, 3) := by decide +kernel
theorem dX7_init_415 : decode cX7_init 415 = .ok (.iastore, 1) := by decide +kernel
theorem dX7_init_416 : decode cX7_init 416 = .ok (.dup, 1) := by decide +kernel
theorem dX7_init_417 : decode cX7_init 417 = .ok (.bipush 59, 2) := by decide +kernel
theorem dX7_init_419 : decode cX7_init 419 = .ok (.sipush 515, 3) := by decide +kernel
theorem dX7_init_422 : decode cX7_init 422 = .ok (.iastore, 1) := by decide +kernel
theorem dX7_init_423 : decode cX7_init 423 = .ok (.dup, 1) := by decide +kernel
theorem dX7_init_424 : decode cX7_init 424 = .ok (.bipush 60, 2) := by decide +kernel
theorem dX7_init_426 : decode cX7_init 426 = .ok (.sipush 500, 3) := by decide +kernel
theorem dX7_init_429 : decode cX7_init 429 = .ok (.iastore, 1) := by decide +kernel
theorem dX7_init_430 : decode cX7_init 430 = .ok (.dup, 1) := by decide +kernel
theorem dX7_init_431 : decode cX7_init 431 = .ok (.bipush 61, 2) := by decide +kernel
theorem dX7_init_433 : decode cX7_init 433 = .ok (.sipush 485, 3) := by decide +kernel
theorem dX7_init_436 : decode cX7_init 436 = .ok (.iastore, 1) := by decide +kernel
theorem dX7_init_437 : decode cX7_init 437 = .ok (.dup, 1) := by decide +kernel
theorem dX7_init_438 : decode cX7_init 438 = .ok (.bipush 62, 2) := by decide +kernel
theorem dX7_init_440 : decode cX7_init 440 = .ok (.sipush 469, 3) := by decide +kernel
theorem dX7_init_443 : decode cX7_init 443 = .ok (.iastore, 1) := by decide +kernel
theorem dX7_init_444 : decode cX7_init 444 = .ok (.dup, 1) := by decide +kernel
theorem dX7_init_445 : decode cX7_init 445 = .ok (.bipush 63, 2) := by decide +kernel
theorem dX7_init_447 : decode cX7_init 447 = .ok (.sipush 454, 3) := by decide +kernel
theorem dX7_init_450 : decode cX7_init 450 = .ok (.iastore, 1) := by decide +kernel
theorem dX7_init_451 : decode cX7_init 451 = .ok (.dup, 1) := by decide +kernel
theorem dX7_init_452 : decode cX7_init 452 = .ok (.bipush 64, 2) := by decide +kernel
theorem dX7_init_454 : decode cX7_init 454 = .ok (.sipush 438, 3) := by decide +kernel
theorem dX7_init_457 : decode cX7_init 457 = .ok (.iastore, 1) := by decide +kernel
theorem dX7_init_458 : decode cX7_init 458 = .ok (.dup, 1) := by decide +kernel
theorem dX7_init_459 : decode cX7_init 459 = .ok (.bipush 65, 2) := by decide +kernel
theorem dX7_init_461 : decode cX7_init 461 = .ok (.sipush 423, 3) := by decide +kernel
theorem dX7_init_464 : decode cX7_init 464 = .ok (.iastore, 1) := by decide +kernel
theorem dX7_init_465 : decode cX7_init 465 = .ok (.dup, 1) := by decide +kernel
theorem dX7_init_466 : decode cX7_init 466 = .ok (.bipush 66, 2) := by decide +kernel
theorem dX7_init_468 : decode cX7_init 468 = .ok (.sipush 407, 3) := by decide +kernel
theorem dX7_init_471 : decode cX7_init 471 = .ok (.iastore, 1) := by decide +kernel
theorem dX7_init_472 : decode cX7_init 472 = .ok (.dup, 1) := by decide +kernel
theorem dX7_init_473 : decode cX7_init 473 = .ok (.bipush 67, 2) := by decide +kernel
theorem dX7_init_475 : decode cX7_init 475 = .ok (.sipush 391, 3) := by decide +kernel
theorem dX7_init_478 : decode cX7_init 478 = .ok (.iastore, 1) := by decide +kernel
theorem dX7_init_479 : decode cX7_init 479 = .ok (.dup, 1) := by decide +kernel
theorem dX7_init_480 : decode cX7_init 480 = .ok (.bipush 68, 2) := by decide +kernel
theorem dX7_init_482 : decode cX7_init 482 = .ok (.sipush 375, 3) := by decide +kernel
theorem dX7_init_485 : decode cX7_init 485 = .ok (.iastore, 1) := by decide +kernel
theorem dX7_init_486 : decode cX7_init 486 = .ok (.dup, 1) := by decide +kernel
theorem dX7_init_487 : decode cX7_init 487 = .ok (.bipush 69, 2) := by decide +kernel
theorem dX7_init_489 : decode cX7_init 489 = .ok (.sipush 358, 3) := by decide +kernel
theorem dX7_init_492 : decode cX7_init 492 = .ok (.iastore, 1) := by decide +kernel
theorem dX7_init_493 : decode cX7_init 493 = .ok (.dup, 1) := by decide +kernel
theorem dX7_init_494 : decode cX7_init 494 = .ok (.bipush 70, 2) := by decide +kernel
theorem dX7_init_496 : decode cX7_init 496 = .ok (.sipush 342, 3) := by decide +kernel
theorem dX7_init_499 : decode cX7_init 499 = .ok (.iastore, 1) := by decide +kernel
theorem dX7_init_500 : decode cX7_init 500 = .ok (.dup, 1) := by decide +kernel
theorem dX7_init_501 : decode cX7_init 501 = .ok (.bipush 71, 2) := by decide +kernel
theorem dX7_init_503 : decode cX7_init 503 = .ok (.sipush 326, 3) := by decide +kernel
theorem dX7_init_506 : decode cX7_init 506 = .ok (.iastore, 1) := by decide +kernel
theorem dX7_init_507 : decode cX7_init 507 = .ok (.dup, 1) := by decide +kernel
theorem dX7_init_508 : decode cX7_init 508 = .ok (.bipush 72, 2) := by decide +kernel
theorem dX7_init_510 : decode cX7_init 510 = .ok (.sipush 309, 3) := by decide +kernel
theorem dX7_init_513 : decode cX7_init 513 = .ok (.iastore, 1) := by decide +kernel
theorem dX7_init_514 : decode cX7_init 514 = .ok (.dup, 1) := by decide +kernel
theorem dX7_init_515 : decode cX7_init 515 = .ok (.bipush 73, 2) := by decide +kernel
theorem dX7_init_517 : decode cX7_init 517 = .ok (.sipush 292, 3) := by decide +kernel
theorem dX7_init_520 : decode cX7_init 520 = .ok (.iastore, 1) := by decide +kernel
theorem dX7_init_521 : decode cX7_init 521 = .ok (.dup, 1) := by decide +kernel
theorem dX7_init_522 : decode cX7_init 522 = .ok (.bipush 74, 2) := by decide +kernel
theorem dX7_init_524 : decode cX7_init 524 = .ok (.sipush 276, 3) := by decide +kernel
theorem dX7_init_527 : decode cX7_init 527 = .ok (.iastore, 1) := by decide +kernel
theorem dX7_init_528 : decode cX7_init 528 = .ok (.dup, 1) := by decide +kernel
theorem dX7_init_529 : decode cX7_init 529 = .ok (.bipush 75, 2) := by decide +kernel
theorem dX7_init_531 : decode cX7_init 531 = .ok (.sipush 259, 3) := by decide +kernel
theorem dX7_init_534 : decode cX7_init 534 = .ok (.iastore, 1) := by decide +kernel
theorem dX7_init_535 : decode cX7_init 535 = .ok (.dup, 1) := by decide +kernel
theorem dX7_init_536 : decode cX7_init 536 = .ok (.bipush 76, 2) := by decide +kernel
theorem dX7_init_538 : decode cX7_init 538 = .ok (.sipush 242, 3) := by decide +kernel
theorem dX7_init_541 : decode cX7_init 541 = .ok (.iastore, 1) := by decide +kernel
theorem dX7_init_542 : decode cX7_init 542 = .ok (.dup, 1) := by decide +kernel
theorem dX7_init_543 : decode cX7_init 543 = .ok (.bipush 77, 2) := by decide +kernel
theorem dX7_init_545 : decode cX7_init 545 = .ok (.sipush 225, 3) := by decide +kernel
theorem dX7_init_548 : decode cX7_init 548 = .ok (.iastore, 1) := by decide +kernel
theorem dX7_init_549 : decode cX7_init 549 = .ok (.dup, 1) := by decide +kernel
theorem dX7_init_550 : decode cX7_init 550 = .ok (.bipush 78, 2) := by decide +kernel
theorem dX7_init_552 : decode cX7_init 552 = .ok (.sipush 208, 3) := by decide +kernel
theorem dX7_init_555 : decode cX7_init 555 = .ok (.iastore, 1) := by decide +kernel
theorem dX7_init_556 : decode cX7_init 556 = .ok (.dup, 1) := by decide +kernel
theorem dX7_init_557 : decode cX7_init 557 = .ok (.bipush 79, 2) := by decide +kernel
theorem dX7_init_559 : decode cX7_init 559 = .ok (.sipush 191, 3) := by decide +kernel
theorem dX7_init_562 : decode cX7_init 562 = .ok (.iastore, 1) := by decide +kernel
theorem dX7_init_563 : decode cX7_init 563 = .ok (.dup, 1) := by decide +kernel
theorem dX7_init_564 : decode cX7_init 564 = .ok (.bipush 80, 2) := by decide +kernel
theorem dX7_init_566 : decode cX7_init 566 = .ok (.sipush 174, 3) := by decide +kernel
theorem dX7_init_569 : decode cX7_init 569 = .ok (.iastore, 1) := by decide +kernel
theorem dX7_init_570 : decode cX7_init 570 = .ok (.dup, 1) := by decide +kernel
theorem dX7_init_571 : decode cX7_init 571 = .ok (.bipush 81, 2) := by decide +kernel
theorem dX7_init_573 : decode cX7_init 573 = .ok (.sipush 156, 3) := by decide +kernel
theorem dX7_init_576 : decode cX7_init 576 = .ok (.iastore, 1) := by decide +kernel
theorem dX7_init_577 : decode cX7_init 577 = .ok (.dup, 1) := by decide +kernel
theorem dX7_init_578 : decode cX7_init 578 = .ok (.bipush 82, 2) := by decide +kernel
theorem dX7_init_580 : decode cX7_init 580 = .ok (.sipush 139, 3) := by decide +kernel
theorem dX7_init_583 : decode cX7_init 583 = .ok (.iastore, 1) := by decide +kernel
theorem dX7_init_584 : decode cX7_init 584 = .ok (.dup, 1) := by decide +kernel
theorem dX7_init_585 : decode cX7_init 585 = .ok (.bipush 83, 2) := by decide +kernel
theorem dX7_init_587 : decode cX7_init 587 = .ok (.bipush 122, 2) := by decide +kernel
theorem dX7_init_589 : decode cX7_init 589 = .ok (.iastore, 1) := by decide +kernel
theorem dX7_init_590 : decode cX7_init 590 = .ok (.dup, 1) := by decide +kernel
theorem dX7_init_591 : decode cX7_init 591 = .ok (.bipush 84, 2) := by decide +kernel
theorem dX7_init_593 : decode cX7_init 593 = .ok (.bipush 105, 2) := by decide +kernel
theorem dX7_init_595 : decode cX7_init 595 = .ok (.iastore, 1) := by decide +kernel
theorem dX7_init_596 : decode cX7_init 596 = .ok (.dup, 1) := by decide +kernel
theorem dX7_init_597 : decode cX7_init 597 = .ok (.bipush 85, 2) := by decide +kernel
theorem dX7_init_599 : decode cX7_init 599 = .ok (.bipush 87, 2) := by decide +kernel
theorem dX7_init_601 : decode cX7_init 601 = .ok (.iastore, 1) := by decide +kernel
theorem dX7_init_602 : decode cX7_init 602 = .ok (.dup, 1) := by decide +kernel
theorem dX7_init_603 : decode cX7_init 603 = .ok (.bipush 86, 2) := by decide +kernel
theorem dX7_init_605 : decode cX7_init 605 = .ok (.bipush 70, 2) := by decide +kernel
theorem dX7_init_607 : decode cX7_init 607 = .ok (.iastore, 1) := by decide +kernel
theorem dX7_init_608 : decode cX7_init 608 = .ok (.dup, 1) := by decide +kernel
theorem dX7_init_609 : decode cX7_init 609 = .ok (.bipush 87, 2) := by decide +kernel
theorem dX7_init_611 : decode cX7_init 611 = .ok (.bipush 52, 2) := by decide +kernel
theorem dX7_init_613 : decode cX7_init 613 = .ok (.iastore, 1) := by decide +kernel
theorem dX7_init_614 : decode cX7_init 614 = .ok (.dup, 1) := by decide +kernel
theorem dX7_init_615 : decode cX7_init 615 = .ok (.bipush 88, 2) := by decide +kernel
theorem dX7_init_617 : decode cX7_init 617 = .ok (.bipush 35, 2) := by decide +kernel
theorem dX7_init_619 : decode cX7_init 619 = .ok (.iastore, 1) := by decide +kernel
theorem dX7_init_620 : decode cX7_init 620 = .ok (.dup, 1) := by decide +kernel
theorem dX7_init_621 : decode cX7_init 621 = .ok (.bipush 89, 2) := by decide +kernel
theorem dX7_init_623 : decode cX7_init 623 = .ok (.bipush 17, 2) := by decide +kernel
theorem dX7_init_625 : decode cX7_init 625 = .ok (.iastore, 1) := by decide +kernel
theorem dX7_init_626 : decode cX7_init 626 = .ok (.dup, 1) := by decide +kernel
theorem dX7_init_627 : decode cX7_init 627 = .ok (.bipush 90, 2) := by decide +kernel
theorem dX7_init_629 : decode cX7_init 629 = .ok (.iconst 0, 1) := by decide +kernel
theorem dX7_init_630 : decode cX7_init 630 = .ok (.iastore, 1) := by decide +kernel
theorem dX7_init_631 : decode cX7_init 631 = .ok (.dup, 1) := by decide +kernel
theorem dX7_init_632 : decode cX7_init 632 = .ok (.bipush 91, 2) := by decide +kernel
theorem dX7_init_634 : decode cX7_init 634 = .ok (.iconst 0, 1) := by decide +kernel
theorem dX7_init_635 : decode cX7_init 635 = .ok (.iastore, 1) := by decide +kernel
theorem dX7_init_636 : decode cX7_init 636 = .ok (.putfield 7, 3) := by decide +kernel
theorem dX7_init_639 : decode cX7_init 639 = .ok (.aload_n 0, 1) := by decide +kernel
theorem dX7_init_640 : decode cX7_init 640 = .ok (.bipush 30, 2) := by decide +kernel
theorem dX7_init_642 : decode cX7_init 642 = .ok (.newarray .int, 2) := by decide +kernel
theorem dX7_init_644 : decode cX7_init 644 = .ok (.putfield 13, 3) := by decide +kernel
theorem dX7_init_647 : decode cX7_init 647 = .ok (.aload_n 0, 1) := by decide +kernel
theorem dX7_init_648 : decode cX7_init 648 = .ok (.bipush 30, 2) := by decide +kernel
theorem dX7_init_650 : decode cX7_init 650 = .ok (.newarray .int, 2) := by decide +kernel
theorem dX7_init_652 : decode cX7_init 652 = .ok (.putfield 16, 3) := by decide +kernel
theorem dX7_init_655 : decode cX7_init 655 = .ok (.aload_n 0, 1) := by decide +kernel
theorem dX7_init_656 : decode cX7_init 656 = .ok (.sipush 600, 3) := by decide +kernel
theorem dX7_init_659 : decode cX7_init 659 = .ok (.newarray .int, 2) := by decide +kernel
theorem dX7_init_661 : decode cX7_init 661 = .ok (.putfield 19, 3) := by decide +kernel
theorem dX7_init_664 : decode cX7_init 664 = .ok (.aload_n 0, 1) := by decide +kernel
theorem dX7_init_665 : decode cX7_init 665 = .ok (.sipush 600, 3) := by decide +kernel
theorem dX7_init_668 : decode cX7_init 668 = .ok (.newarray .int, 2) := by decide +kernel
theorem dX7_init_670 : decode cX7_init 670 = .ok (.putfield 22, 3) := by decide +kernel
theorem dX7_init_673 : decode cX7_init 673 = .ok (.aload_n 0, 1) := by decide +kernel
theorem dX7_init_674 : decode cX7_init 674 = .ok (.sipush 2400, 3) := by decide +kernel
theorem dX7_init_677 : decode cX7_init 677 = .ok (.newarray .int, 2) := by decide +kernel
theorem dX7_init_679 : decode cX7_init 679 = .ok (.putfield 25, 3) := by decide +kernel
theorem dX7_init_682 : decode cX7_init 682 = .ok (.aload_n 0, 1) := by decide +kernel
theorem dX7_init_683 : decode cX7_init 683 = .ok (.bipush 60, 2) := by decide +kernel
theorem dX7_init_685 : decode cX7_init 685 = .ok (.newarray .boolean, 2) := by decide +kernel
theorem dX7_init_687 : decode cX7_init 687 = .ok (.putfield 28, 3) := by decide +kernel
theorem dX7_init_690 : decode cX7_init 690 = .ok (.aload_n 0, 1) := by decide +kernel
theorem dX7_init_691 : decode cX7_init 691 = .ok (.bipush 60, 2) := by decide +kernel
theorem dX7_init_693 : decode cX7_init 693 = .ok (.newarray .int, 2) := by decide +kernel
theorem dX7_init_695 : decode cX7_init 695 = .ok (.putfield 32, 3) := by decide +kernel
theorem dX7_init_698 : decode cX7_init 698 = .ok (.aload_n 0, 1) := by decide +kernel
theorem dX7_init_699 : decode cX7_init 699 = .ok (.bipush 60, 2) := by decide +kernel
theorem dX7_init_701 : decode cX7_init 701 = .ok (.newarray .int, 2) := by decide +kernel
theorem dX7_init_703 : decode cX7_init 703 = .ok (.putfield 35, 3) := by decide +kernel
theorem dX7_init_706 : decode cX7_init 706 = .ok (.aload_n 0, 1) := by decide +kernel
theorem dX7_init_707 : decode cX7_init 707 = .ok (.bipush 60, 2) := by decide +kernel
theorem dX7_init_709 : decode cX7_init 709 = .ok (.newarray .int, 2) := by decide +kernel
theorem dX7_init_711 : decode cX7_init 711 = .ok (.putfield 38, 3) := by decide +kernel
theorem dX7_init_714 : decode cX7_init 714 = .ok (.aload_n 0, 1) := by decide +kernel
theorem dX7_init_715 : decode cX7_init 715 = .ok (.bipush 60, 2) := by decide +kernel
theorem dX7_init_717 : decode cX7_init 717 = .ok (.newarray .int, 2) := by decide +kernel
theorem dX7_init_719 : decode cX7_init 719 = .ok (.putfield 41, 3) := by decide +kernel
theorem dX7_init_722 : decode cX7_init 722 = .ok (.aload_n 0, 1) := by decide +kernel
theorem dX7_init_723 : decode cX7_init 723 = .ok (.bipush 60, 2) := by decide +kernel
theorem dX7_init_725 : decode cX7_init 725 = .ok (.newarray .int, 2) := by decide +kernel
theorem dX7_init_727 : decode cX7_init 727 = .ok (.putfield 44, 3) := by decide +kernel
theorem dX7_init_730 : decode cX7_init 730 = .ok (.aload_n 0, 1) := by decide +kernel
theorem dX7_init_731 : decode cX7_init 731 = .ok (.bipush 24, 2) := by decide +kernel
theorem dX7_init_733 : decode cX7_init 733 = .ok (.newarray .boolean, 2) := by decide +kernel
theorem dX7_init_735 : decode cX7_init 735 = .ok (.putfield 47, 3) := by decide +kernel
theorem dX7_init_738 : decode cX7_init 738 = .ok (.aload_n 0, 1) := by decide +kernel
theorem dX7_init_739 : decode cX7_init 739 = .ok (.bipush 24, 2) := by decide +kernel
theorem dX7_init_741 : decode cX7_init 741 = .ok (.newarray .int, 2) := by decide +kernel
theorem dX7_init_743 : decode cX7_init 743 = .ok (.putfield 50, 3) := by decide +kernel
theorem dX7_init_746 : decode cX7_init 746 = .ok (.aload_n 0, 1) := by decide +kernel
theorem dX7_init_747 : decode cX7_init 747 = .ok (.bipush 6, 2) := by decide +kernel
theorem dX7_init_749 : decode cX7_init 749 = .ok (.newarray .int, 2) := by decide +kernel
theorem dX7_init_751 : decode cX7_init 751 = .ok (.putfield 53, 3) := by decide +kernel
theorem dX7_init_754 : decode cX7_init 754 = .ok (.aload_n 0, 1) := by decide +kernel
theorem dX7_init_755 : decode cX7_init 755 = .ok (.bipush 6, 2) := by decide +kernel
theorem dX7_init_757 : decode cX7_init 757 = .ok (.newarray .int, 2) := by decide +kernel
theorem dX7_init_759 : decode cX7_init 759 = .ok (.putfield 56, 3) := by decide +kernel
theorem dX7_init_762 : decode cX7_init 762 = .ok (.aload_n 0, 1) := by decide +kernel
theorem dX7_init_763 : decode cX7_init 763 = .ok (.bipush 6, 2) := by decide +kernel
theorem dX7_init_765 : decode cX7_init 765 = .ok (.newarray .int, 2) := by decide +kernel
theorem dX7_init_767 : decode cX7_init 767 = .ok (.putfield 59, 3) := by decide +kernel
theorem dX7_init_770 : decode cX7_init 770 = .ok (.bipush 6, 2) := by decide +kernel
theorem dX7_init_772 : decode cX7_init 772 = .ok (.istore_n 2, 1) := by decide +kernel
theorem dX7_init_773 : decode cX7_init 773 = .ok (.bipush 6, 2) := by decide +kernel
theorem dX7_init_775 : decode cX7_init 775 = .ok (.istore_n 3, 1) := by decide +kernel
theorem dX7_init_776 : decode cX7_init 776 = .ok (.iload_n 3, 1) := by decide +kernel
theorem dX7_init_777 : decode cX7_init 777 = .ok (.bipush 24, 2) := by decide +kernel
theorem dX7_init_779 : decode cX7_init 779 = .ok (.if_icmp .gt 82, 3) := by decide +kernel
theorem dX7_init_782 : decode cX7_init 782 = .ok (.iload_n 3, 1) := by decide +kernel
theorem dX7_init_783 : decode cX7_init 783 = .ok (.bipush 6, 2) := by decide +kernel
theorem dX7_init_785 : decode cX7_init 785 = .ok (.if_icmp .eq 51, 3) := by decide +kernel
theorem dX7_init_788 : decode cX7_init 788 = .ok (.iload_n 3, 1) := by decide +kernel
theorem dX7_init_789 : decode cX7_init 789 = .ok (.bipush 8, 2) := by decide +kernel
theorem dX7_init_791 : decode cX7_init 791 = .ok (.if_icmp .eq 45, 3) := by decide +kernel
theorem dX7_init_794 : decode cX7_init 794 = .ok (.iload_n 3, 1) := by decide +kernel
theorem dX7_init_795 : decode cX7_init 795 = .ok (.bipush 9, 2) := by decide +kernel
theorem dX7_init_797 : decode cX7_init 797 = .ok (.if_icmp .eq 39, 3) := by decide +kernel
theorem dX7_init_800 : decode cX7_init 800 = .ok (.iload_n 3, 1) := by decide +kernel
theorem dX7_init_801 : decode cX7_init 801 = .ok (.bipush 10, 2) := by decide +kernel
theorem dX7_init_803 : decode cX7_init 803 = .ok (.if_icmp .eq 33, 3) := by decide +kernel
theorem dX7_init_806 : decode cX7_init 806 = .ok (.iload_n 3, 1) := by decide +kernel
theorem dX7_init_807 : decode cX7_init 807 = .ok (.bipush 12, 2) := by decide +kernel
theorem dX7_init_809 : decode cX7_init 809 = .ok (.if_icmp .eq 27, 3) := by decide +kernel
theorem dX7_init_812 : decode cX7_init 812 = .ok (.iload_n 3, 1) := by decide +kernel
theorem dX7_init_813 : decode cX7_init 813 = .ok (.bipush 15, 2) := by decide +kernel
theorem dX7_init_815 : decode cX7_init 815 = .ok (.if_icmp .eq 21, 3) := by decide +kernel
theorem dX7_init_818 : decode cX7_init 818 = .ok (.iload_n 3, 1) := by decide +kernel
theorem dX7_init_819 : decode cX7_init 819 = .ok (.bipush 18, 2) := by decide +kernel
theorem dX7_init_821 : decode cX7_init 821 = .ok (.if_icmp .eq 15, 3) := by decide +kernel
theorem dX7_init_824 : decode cX7_init 824 = .ok (.iload_n 3, 1) := by decide +kernel
theorem dX7_init_825 : decode cX7_init 825 = .ok (.bipush 20, 2) := by decide +kernel
theorem dX7_init_827 : decode cX7_init 827 = .ok (.if_icmp .eq 9, 3) := by decide +kernel
theorem dX7_init_830 : decode cX7_init 830 = .ok (.iload_n 3, 1) := by decide +kernel
theorem dX7_init_831 : decode cX7_init 831 = .ok (.bipush 24, 2) := by decide +kernel
theorem dX7_init_833 : decode cX7_init 833 = .ok (.if_icmp .ne 7, 3) := by decide +kernel
theorem dX7_init_836 : decode cX7_init 836 = .ok (.iconst 1, 1) := by decide +kernel
theorem dX7_init_837 : decode cX7_init 837 = .ok (.goto 4, 3) := by decide +kernel
theorem dX7_init_840 : decode cX7_init 840 = .ok (.iconst 0, 1) := by decide +kernel
theorem dX7_init_841 : decode cX7_init 841 = .ok (.istore 4, 2) := by decide +kernel
theorem dX7_init_843 : decode cX7_init 843 = .ok (.iload 4, 2) := by decide +kernel
theorem dX7_init_845 : decode cX7_init 845 = .ok (.ifCond .eq 10, 3) := by decide +kernel
theorem dX7_init_848 : decode cX7_init 848 = .ok (.iload_n 3, 1) := by decide +kernel
theorem dX7_init_849 : decode cX7_init 849 = .ok (.iload_n 1, 1) := by decide +kernel
theorem dX7_init_850 : decode cX7_init 850 = .ok (.if_icmp .gt 5, 3) := by decide +kernel
theorem dX7_init_853 : decode cX7_init 853 = .ok (.iload_n 3, 1) := by decide +kernel
theorem dX7_init_854 : decode cX7_init 854 = .ok (.istore_n 2, 1) := by decide +kernel
theorem dX7_init_855 : decode cX7_init 855 = .ok (.iinc 3 1, 3) := by decide +kernel
theorem dX7_init_858 : decode cX7_init 858 = .ok (.goto (-82), 3) := by decide +kernel
theorem dX7_init_861 : decode cX7_init 861 = .ok (.aload_n 0, 1) := by decide +kernel
theorem dX7_init_862 : decode cX7_init 862 = .ok (.iload_n 2, 1) := by decide +kernel
theorem dX7_init_863 : decode cX7_init 863 = .ok (.putfield 62, 3) := by decide +kernel
theorem dX7_init_866 : decode cX7_init 866 = .ok (.aload_n 0, 1) := by decide +kernel
theorem dX7_init_867 : decode cX7_init 867 = .ok (.sipush 360, 3) := by decide +kernel
theorem dX7_init_870 : decode cX7_init 870 = .ok (.iload_n 2, 1) := by decide +kernel
theorem dX7_init_871 : decode cX7_init 871 = .ok (.idiv, 1) := by decide +kernel
theorem dX7_init_872 : decode cX7_init 872 = .ok (.putfield 66, 3) := by decide +kernel
theorem dX7_init_875 : decode cX7_init 875 = .ok (.iconst 0, 1) := by decide +kernel
theorem dX7_init_876 : decode cX7_init 876 = .ok (.istore_n 3, 1) := by decide +kernel
theorem dX7_init_877 : decode cX7_init 877 = .ok (.iload_n 3, 1) := by decide +kernel
theorem dX7_init_878 : decode cX7_init 878 = .ok (.aload_n 0, 1) := by decide +kernel
theorem dX7_init_879 : decode cX7_init 879 = .ok (.getfield 62, 3) := by decide +kernel
theorem dX7_init_882 : decode cX7_init 882 = .ok (.if_icmp .ge 16, 3) := by decide +kernel
theorem dX7_init_885 : decode cX7_init 885 = .ok (.aload_n 0, 1) := by decide +kernel
theorem dX7_init_886 : decode cX7_init 886 = .ok (.getfield 47, 3) := by decide +kernel
theorem dX7_init_889 : decode cX7_init 889 = .ok (.iload_n 3, 1) := by decide +kernel
theorem dX7_init_890 : decode cX7_init 890 = .ok (.iconst 1, 1) := by decide +kernel
theorem dX7_init_891 : decode cX7_init 891 = .ok (.bastore, 1) := by decide +kernel
theorem dX7_init_892 : decode cX7_init 892 = .ok (.iinc 3 1, 3) := by decide +kernel
theorem dX7_init_895 : decode cX7_init 895 = .ok (.goto (-18), 3) := by decide +kernel
theorem dX7_init_898 : decode cX7_init 898 = .ok (.return_, 1) := by decide +kernel
theorem dX7_in_0 : decode cX7_in 0 = .ok (.iload_n 0, 1) := by decide +kernel
theorem dX7_in_1 : decode cX7_in 1 = .ok (.iload_n 1, 1) := by decide +kernel
theorem dX7_in_2 : decode cX7_in 2 = .ok (.if_icmp .lt 12, 3) := by decide +kernel
theorem dX7_in_5 : decode cX7_in 5 = .ok (.iload_n 0, 1) := by decide +kernel
theorem dX7_in_6 : decode cX7_in 6 = .ok (.iload_n 2, 1) := by decide +kernel
theorem dX7_in_7 : decode cX7_in 7 = .ok (.if_icmp .gt 7, 3) := by decide +kernel
theorem dX7_in_10 : decode cX7_in 10 = .ok (.iconst 1, 1) := by decide +kernel
theorem dX7_in_11 : decode cX7_in 11 = .ok (.goto 4, 3) := by decide +kernel
theorem dX7_in_14 : decode cX7_in 14 = .ok (.iconst 0, 1) := by decide +kernel
theorem dX7_in_15 : decode cX7_in 15 = .ok (.ireturn, 1) := by decide +kernel
theorem dX7_isGore_0 : decode cX7_isGore 0 = .ok (.iload_n 1, 1) := by decide +kernel
theorem dX7_isGore_1 : decode cX7_isGore 1 = .ok (.iconst 0, 1) := by decide +kernel
theorem dX7_isGore_2 : decode cX7_isGore 2 = .ok (.aload_n 0, 1) := by decide +kernel
theorem dX7_isGore_3 : decode cX7_isGore 3 = .ok (.getfield 62, 3) := by decide +kernel
theorem dX7_isGore_6 : decode cX7_isGore 6 = .ok (.iconst 1, 1) := by decide +kernel
theorem dX7_isGore_7 : decode cX7_isGore 7 = .ok (.isub, 1) := by decide +kernel
theorem dX7_isGore_8 : decode cX7_isGore 8 = .ok (.invokestatic 69, 3) := by decide +kernel
theorem dX7_isGore_11 : decode cX7_isGore 11 = .ok (.ireturn, 1) := by decide +kernel
theorem dX7_round_0 : decode cX7_round 0 = .ok (.iconst 2, 1) := by decide +kernel
theorem dX7_round_1 : decode cX7_round 1 = .ok (.iload_n 0, 1) := by decide +kernel
theorem dX7_round_2 : decode cX7_round 2 = .ok (.imul, 1) := by decide +kernel
theorem dX7_round_3 : decode cX7_round 3 = .ok (.iload_n 1, 1) := by decide +kernel
theorem dX7_round_4 : decode cX7_round 4 = .ok (.iadd, 1) := by decide +kernel
theorem dX7_round_5 : decode cX7_round 5 = .ok (.istore_n 2, 1) := by decide +kernel
theorem dX7_round_6 : decode cX7_round 6 = .ok (.iconst 2, 1) := by decide +kernel
theorem dX7_round_7 : decode cX7_round 7 = .ok (.iload_n 1, 1) := by decide +kernel
theorem dX7_round_8 : decode cX7_round 8 = .ok (.imul, 1) := by decide +kernel
theorem dX7_round_9 : decode cX7_round 9 = .ok (.istore_n 3, 1) := by decide +kernel
theorem dX7_round_10 : decode cX7_round 10 = .ok (.iload_n 2, 1) := by decide +kernel
theorem dX7_round_11 : decode cX7_round 11 = .ok (.iload_n 3, 1) := by decide +kernel
theorem dX7_round_12 : decode cX7_round 12 = .ok (.idiv, 1) := by decide +kernel
theorem dX7_round_13 : decode cX7_round 13 = .ok (.istore 4, 2) := by decide +kernel
theorem dX7_round_15 : decode cX7_round 15 = .ok (.iload_n 2, 1) := by decide +kernel
theorem dX7_round_16 : decode cX7_round 16 = .ok (.iload_n 3, 1) := by decide +kernel
theorem dX7_round_17 : decode cX7_round 17 = .ok (.irem, 1) := by decide +kernel
theorem dX7_round_18 : decode cX7_round 18 = .ok (.ifCond .ge 10, 3) := by decide +kernel
theorem dX7_round_21 : decode cX7_round 21 = .ok (.iload 4, 2) := by decide +kernel
theorem dX7_round_23 : decode cX7_round 23 = .ok (.iconst 1, 1) := by decide +kernel
theorem dX7_round_24 : decode cX7_round 24 = .ok (.isub, 1) := by decide +kernel
theorem dX7_round_25 : decode cX7_round 25 = .ok (.goto 5, 3) := by decide +kernel
theorem dX7_round_28 : decode cX7_round 28 = .ok (.iload 4, 2) := by decide +kernel
theorem dX7_round_30 : decode cX7_round 30 = .ok (.ireturn, 1) := by decide +kernel
theorem dX7_narrowOf_0 : decode cX7_narrowOf 0 = .ok (.iload_n 1, 1) := by decide +kernel
theorem dX7_narrowOf_1 : decode cX7_narrowOf 1 = .ok (.ifCond .ge 8, 3) := by decide +kernel
theorem dX7_narrowOf_4 : decode cX7_narrowOf 4 = .ok (.iload_n 1, 1) := by decide +kernel
theorem dX7_narrowOf_5 : decode cX7_narrowOf 5 = .ok (.ineg, 1) := by decide +kernel
theorem dX7_narrowOf_6 : decode cX7_narrowOf 6 = .ok (.goto 4, 3) := by decide +kernel
theorem dX7_narrowOf_9 : decode cX7_narrowOf 9 = .ok (.iload_n 1, 1) := by decide +kernel
theorem dX7_narrowOf_10 : decode cX7_narrowOf 10 = .ok (.istore_n 2, 1) := by decide +kernel
theorem dX7_narrowOf_11 : decode cX7_narrowOf 11 = .ok (.aload_n 0, 1) := by decide +kernel
theorem dX7_narrowOf_12 : decode cX7_narrowOf 12 = .ok (.getfield 7, 3) := by decide +kernel
theorem dX7_narrowOf_15 : decode cX7_narrowOf 15 = .ok (.iload_n 2, 1) := by decide +kernel
theorem dX7_narrowOf_16 : decode cX7_narrowOf 16 = .ok (.bipush 60, 2) := by decide +kernel
theorem dX7_narrowOf_18 : decode cX7_narrowOf 18 = .ok (.idiv, 1) := by decide +kernel
theorem dX7_narrowOf_19 : decode cX7_narrowOf 19 = .ok (.iaload, 1) := by decide +kernel
theorem dX7_narrowOf_20 : decode cX7_narrowOf 20 = .ok (.bipush 60, 2) := by decide +kernel
theorem dX7_narrowOf_22 : decode cX7_narrowOf 22 = .ok (.iload_n 2, 1) := by decide +kernel
theorem dX7_narrowOf_23 : decode cX7_narrowOf 23 = .ok (.bipush 60, 2) := by decide +kernel
theorem dX7_narrowOf_25 : decode cX7_narrowOf 25 = .ok (.irem, 1) := by decide +kernel
theorem dX7_narrowOf_26 : decode cX7_narrowOf 26 = .ok (.isub, 1) := by decide +kernel
theorem dX7_narrowOf_27 : decode cX7_narrowOf 27 = .ok (.imul, 1) := by decide +kernel
theorem dX7_narrowOf_28 : decode cX7_narrowOf 28 = .ok (.aload_n 0, 1) := by decide +kernel
theorem dX7_narrowOf_29 : decode cX7_narrowOf 29 = .ok (.getfield 7, 3) := by decide +kernel
theorem dX7_narrowOf_32 : decode cX7_narrowOf 32 = .ok (.iload_n 2, 1) := by decide +kernel
theorem dX7_narrowOf_33 : decode cX7_narrowOf 33 = .ok (.bipush 60, 2) := by decide +kernel
theorem dX7_narrowOf_35 : decode cX7_narrowOf 35 = .ok (.idiv, 1) := by decide +kernel
theorem dX7_narrowOf_36 : decode cX7_narrowOf 36 = .ok (.iconst 1, 1) := by decide +kernel
theorem dX7_narrowOf_37 : decode cX7_narrowOf 37 = .ok (.iadd, 1) := by decide +kernel
theorem dX7_narrowOf_38 : decode cX7_narrowOf 38 = .ok (.iaload, 1) := by decide +kernel
theorem dX7_narrowOf_39 : decode cX7_narrowOf 39 = .ok (.iload_n 2, 1) := by decide +kernel
theorem dX7_narrowOf_40 : decode cX7_narrowOf 40 = .ok (.bipush 60, 2) := by decide +kernel
theorem dX7_narrowOf_42 : decode cX7_narrowOf 42 = .ok (.irem, 1) := by decide +kernel
theorem dX7_narrowOf_43 : decode cX7_narrowOf 43 = .ok (.imul, 1) := by decide +kernel
theorem dX7_narrowOf_44 : decode cX7_narrowOf 44 = .ok (.iadd, 1) := by decide +kernel
theorem dX7_narrowOf_45 : decode cX7_narrowOf 45 = .ok (.bipush 60, 2) := by decide +kernel
theorem dX7_narrowOf_47 : decode cX7_narrowOf 47 = .ok (.idiv, 1) := by decide +kernel
theorem dX7_narrowOf_48 : decode cX7_narrowOf 48 = .ok (.ireturn, 1) := by decide +kernel
theorem dX7_acrossOf_0 : decode cX7_acrossOf 0 = .ok (.bipush 30, 2) := by decide +kernel
theorem dX7_acrossOf_2 : decode cX7_acrossOf 2 = .ok (.iload_n 1, 1) := by decide +kernel
theorem dX7_acrossOf_3 : decode cX7_acrossOf 3 = .ok (.imul, 1) := by decide +kernel
theorem dX7_acrossOf_4 : decode cX7_acrossOf 4 = .ok (.aload_n 0, 1) := by decide +kernel
theorem dX7_acrossOf_5 : decode cX7_acrossOf 5 = .ok (.iload_n 2, 1) := by decide +kernel
theorem dX7_acrossOf_6 : decode cX7_acrossOf 6 = .ok (.invokevirtual 73, 3) := by decide +kernel
theorem dX7_acrossOf_9 : decode cX7_acrossOf 9 = .ok (.imul, 1) := by decide +kernel
theorem dX7_acrossOf_10 : decode cX7_acrossOf 10 = .ok (.sipush 1000, 3) := by decide +kernel
theorem dX7_acrossOf_13 : decode cX7_acrossOf 13 = .ok (.idiv, 1) := by decide +kernel
theorem dX7_acrossOf_14 : decode cX7_acrossOf 14 = .ok (.ireturn, 1) := by decide +kernel
theorem dX7_narrow_0 : decode cX7_narrow 0 = .ok (.iload_n 1, 1) := by decide +kernel
theorem dX7_narrow_1 : decode cX7_narrow 1 = .ok (.sipush (-5400), 3) := by decide +kernel
theorem dX7_narrow_4 : decode cX7_narrow 4 = .ok (.sipush 5400, 3) := by decide +kernel
theorem dX7_narrow_7 : decode cX7_narrow 7 = .ok (.invokestatic 69, 3) := by decide +kernel
theorem dX7_narrow_10 : decode cX7_narrow 10 = .ok (.ifCond .eq 11, 3) := by decide +kernel
theorem dX7_narrow_13 : decode cX7_narrow 13 = .ok (.aload_n 0, 1) := by decide +kernel
theorem dX7_narrow_14 : decode cX7_narrow 14 = .ok (.iload_n 1, 1) := by decide +kernel
theorem dX7_narrow_15 : decode cX7_narrow 15 = .ok (.invokevirtual 73, 3) := by decide +kernel
theorem dX7_narrow_18 : decode cX7_narrow 18 = .ok (.goto 4, 3) := by decide +kernel
theorem dX7_narrow_21 : decode cX7_narrow 21 = .ok (.iconst (-1), 1) := by decide +kernel
theorem dX7_narrow_22 : decode cX7_narrow 22 = .ok (.ireturn, 1) := by decide +kernel
theorem dX7_across_0 : decode cX7_across 0 = .ok (.iload_n 1, 1) := by decide +kernel
theorem dX7_across_1 : decode cX7_across 1 = .ok (.aload_n 0, 1) := by decide +kernel
theorem dX7_across_2 : decode cX7_across 2 = .ok (.getfield 66, 3) := by decide +kernel
theorem dX7_across_5 : decode cX7_across 5 = .ok (.ineg, 1) := by decide +kernel
theorem dX7_across_6 : decode cX7_across 6 = .ok (.aload_n 0, 1) := by decide +kernel
theorem dX7_across_7 : decode cX7_across 7 = .ok (.getfield 66, 3) := by decide +kernel
theorem dX7_across_10 : decode cX7_across 10 = .ok (.invokestatic 69, 3) := by decide +kernel
theorem dX7_across_13 : decode cX7_across 13 = .ok (.ifCond .eq 25, 3) := by decide +kernel
theorem dX7_across_16 : decode cX7_across 16 = .ok (.iload_n 2, 1) := by decide +kernel
theorem dX7_across_17 : decode cX7_across 17 = .ok (.sipush (-5400), 3) := by decide +kernel
theorem dX7_across_20 : decode cX7_across 20 = .ok (.sipush 5400, 3) := by decide +kernel
theorem dX7_across_23 : decode cX7_across 23 = .ok (.invokestatic 69, 3) := by decide +kernel
theorem dX7_across_26 : decode cX7_across 26 = .ok (.ifCond .eq 12, 3) := by decide +kernel
theorem dX7_across_29 : decode cX7_across 29 = .ok (.aload_n 0, 1) := by decide +kernel
theorem dX7_across_30 : decode cX7_across 30 = .ok (.iload_n 1, 1) := by decide +kernel
theorem dX7_across_31 : decode cX7_across 31 = .ok (.iload_n 2, 1) := by decide +kernel
theorem dX7_across_32 : decode cX7_across 32 = .ok (.invokevirtual 77, 3) := by decide +kernel
theorem dX7_across_35 : decode cX7_across 35 = .ok (.goto 5, 3) := by decide +kernel
theorem dX7_across_38 : decode cX7_across 38 = .ok (.ldc 81, 2) := by decide +kernel
theorem dX7_across_40 : decode cX7_across 40 = .ok (.ireturn, 1) := by decide +kernel
theorem dX7_isPlace_0 : decode cX7_isPlace 0 = .ok (.iload_n 0, 1) := by decide +kernel
theorem dX7_isPlace_1 : decode cX7_isPlace 1 = .ok (.iconst 0, 1) := by decide +kernel
theorem dX7_isPlace_2 : decode cX7_isPlace 2 = .ok (.sipush 359, 3) := by decide +kernel
theorem dX7_isPlace_5 : decode cX7_isPlace 5 = .ok (.invokestatic 69, 3) := by decide +kernel
theorem dX7_isPlace_8 : decode cX7_isPlace 8 = .ok (.ifCond .eq 18, 3) := by decide +kernel
theorem dX7_isPlace_11 : decode cX7_isPlace 11 = .ok (.iload_n 1, 1) := by decide +kernel
theorem dX7_isPlace_12 : decode cX7_isPlace 12 = .ok (.bipush (-90), 2) := by decide +kernel
theorem dX7_isPlace_14 : decode cX7_isPlace 14 = .ok (.bipush 90, 2) := by decide +kernel
theorem dX7_isPlace_16 : decode cX7_isPlace 16 = .ok (.invokestatic 69, 3) := by decide +kernel
theorem dX7_isPlace_19 : decode cX7_isPlace 19 = .ok (.ifCond .eq 7, 3) := by decide +kernel
theorem dX7_isPlace_22 : decode cX7_isPlace 22 = .ok (.iconst 1, 1) := by decide +kernel
theorem dX7_isPlace_23 : decode cX7_isPlace 23 = .ok (.goto 4, 3) := by decide +kernel
theorem dX7_isPlace_26 : decode cX7_isPlace 26 = .ok (.iconst 0, 1) := by decide +kernel
theorem dX7_isPlace_27 : decode cX7_isPlace 27 = .ok (.ireturn, 1) := by decide +kernel
theorem dX7_coast_0 : decode cX7_coast 0 = .ok (.iload_n 1, 1) := by decide +kernel
theorem dX7_coast_1 : decode cX7_coast 1 = .ok (.iload_n 2, 1) := by decide +kernel
theorem dX7_coast_2 : decode cX7_coast 2 = .ok (.invokestatic 82, 3) := by decide +kernel
theorem dX7_coast_5 : decode cX7_coast 5 = .ok (.ifCond .eq 12, 3) := by decide +kernel
theorem dX7_coast_8 : decode cX7_coast 8 = .ok (.aload_n 0, 1) := by decide +kernel
theorem dX7_coast_9 : decode cX7_coast 9 = .ok (.getfield 86, 3) := by decide +kernel
theorem dX7_coast_12 : decode cX7_coast 12 = .ok (.bipush 30, 2) := by decide +kernel
theorem dX7_coast_14 : decode cX7_coast 14 = .ok (.if_icmp .ne 5, 3) := by decide +kernel
theorem dX7_coast_17 : decode cX7_coast 17 = .ok (.iconst (-1), 1) := by decide +kernel
theorem dX7_coast_18 : decode cX7_coast 18 = .ok (.ireturn, 1) := by decide +kernel
theorem dX7_coast_19 : decode cX7_coast 19 = .ok (.aload_n 0, 1) := by decide +kernel
theorem dX7_coast_20 : decode cX7_coast 20 = .ok (.getfield 13, 3) := by decide +kernel
theorem dX7_coast_23 : decode cX7_coast 23 = .ok (.aload_n 0, 1) := by decide +kernel
theorem dX7_coast_24 : decode cX7_coast 24 = .ok (.getfield 86, 3) := by decide +kernel
theorem dX7_coast_27 : decode cX7_coast 27 = .ok (.iload_n 1, 1) := by decide +kernel
theorem dX7_coast_28 : decode cX7_coast 28 = .ok (.iastore, 1) := by decide +kernel
theorem dX7_coast_29 : decode cX7_coast 29 = .ok (.aload_n 0, 1) := by decide +kernel
theorem dX7_coast_30 : decode cX7_coast 30 = .ok (.getfield 16, 3) := by decide +kernel
theorem dX7_coast_33 : decode cX7_coast 33 = .ok (.aload_n 0, 1) := by decide +kernel
theorem dX7_coast_34 : decode cX7_coast 34 = .ok (.getfield 86, 3) := by decide +kernel
theorem dX7_coast_37 : decode cX7_coast 37 = .ok (.bipush 60, 2) := by decide +kernel
theorem dX7_coast_39 : decode cX7_coast 39 = .ok (.iload_n 2, 1) := by decide +kernel
theorem dX7_coast_40 : decode cX7_coast 40 = .ok (.imul, 1) := by decide +kernel
theorem dX7_coast_41 : decode cX7_coast 41 = .ok (.iastore, 1) := by decide +kernel
theorem dX7_coast_42 : decode cX7_coast 42 = .ok (.aload_n 0, 1) := by decide +kernel
theorem dX7_coast_43 : decode cX7_coast 43 = .ok (.dup, 1) := by decide +kernel
theorem dX7_coast_44 : decode cX7_coast 44 = .ok (.getfield 86, 3) := by decide +kernel
theorem dX7_coast_47 : decode cX7_coast 47 = .ok (.iconst 1, 1) := by decide +kernel
theorem dX7_coast_48 : decode cX7_coast 48 = .ok (.iadd, 1) := by decide +kernel
theorem dX7_coast_49 : decode cX7_coast 49 = .ok (.putfield 86, 3) := by decide +kernel
theorem dX7_coast_52 : decode cX7_coast 52 = .ok (.aload_n 0, 1) := by decide +kernel
theorem dX7_coast_53 : decode cX7_coast 53 = .ok (.getfield 86, 3) := by decide +kernel
theorem dX7_coast_56 : decode cX7_coast 56 = .ok (.iconst 1, 1) := by decide +kernel
theorem dX7_coast_57 : decode cX7_coast 57 = .ok (.isub, 1) := by decide +kernel
theorem dX7_coast_58 : decode cX7_coast 58 = .ok (.ireturn, 1) := by decide +kernel
theorem dX7_heightAt_0 : decode cX7_heightAt 0 = .ok (.iload_n 2, 1) := by decide +kernel
theorem dX7_heightAt_1 : decode cX7_heightAt 1 = .ok (.ifCond .ne 7, 3) := by decide +kernel
theorem dX7_heightAt_4 : decode cX7_heightAt 4 = .ok (.iload_n 0, 1) := by decide +kernel
theorem dX7_heightAt_5 : decode cX7_heightAt 5 = .ok (.goto 14, 3) := by decide +kernel
theorem dX7_heightAt_8 : decode cX7_heightAt 8 = .ok (.iload_n 0, 1) := by decide +kernel
theorem dX7_heightAt_9 : decode cX7_heightAt 9 = .ok (.iload_n 1, 1) := by decide +kernel
theorem dX7_heightAt_10 : decode cX7_heightAt 10 = .ok (.iload_n 0, 1) := by decide +kernel
theorem dX7_heightAt_11 : decode cX7_heightAt 11 = .ok (.isub, 1) := by decide +kernel
theorem dX7_heightAt_12 : decode cX7_heightAt 12 = .ok (.iload_n 2, 1) := by decide +kernel
theorem dX7_heightAt_13 : decode cX7_heightAt 13 = .ok (.imul, 1) := by decide +kernel
theorem dX7_heightAt_14 : decode cX7_heightAt 14 = .ok (.iload_n 3, 1) := by decide +kernel
theorem dX7_heightAt_15 : decode cX7_heightAt 15 = .ok (.invokestatic 89, 3) := by decide +kernel
