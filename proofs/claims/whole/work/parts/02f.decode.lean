theorem dX8_readsRing_12 : decode cX8_readsRing 12 = .ok (.iload_n 2, 1) := by decide +kernel
theorem dX8_readsRing_13 : decode cX8_readsRing 13 = .ok (.invokevirtual 90, 3) := by decide +kernel
theorem dX8_readsRing_16 : decode cX8_readsRing 16 = .ok (.bipush 114, 2) := by decide +kernel
theorem dX8_readsRing_18 : decode cX8_readsRing 18 = .ok (.if_icmp .eq 5, 3) := by decide +kernel
theorem dX8_readsRing_21 : decode cX8_readsRing 21 = .ok (.iconst 0, 1) := by decide +kernel
theorem dX8_readsRing_22 : decode cX8_readsRing 22 = .ok (.ireturn, 1) := by decide +kernel
theorem dX8_readsRing_23 : decode cX8_readsRing 23 = .ok (.aload_n 0, 1) := by decide +kernel
theorem dX8_readsRing_24 : decode cX8_readsRing 24 = .ok (.dup, 1) := by decide +kernel
theorem dX8_readsRing_25 : decode cX8_readsRing 25 = .ok (.getfield 84, 3) := by decide +kernel
theorem dX8_readsRing_28 : decode cX8_readsRing 28 = .ok (.iconst 1, 1) := by decide +kernel
theorem dX8_readsRing_29 : decode cX8_readsRing 29 = .ok (.iadd, 1) := by decide +kernel
theorem dX8_readsRing_30 : decode cX8_readsRing 30 = .ok (.putfield 84, 3) := by decide +kernel
theorem dX8_readsRing_33 : decode cX8_readsRing 33 = .ok (.aload_n 0, 1) := by decide +kernel
theorem dX8_readsRing_34 : decode cX8_readsRing 34 = .ok (.aload_n 0, 1) := by decide +kernel
theorem dX8_readsRing_35 : decode cX8_readsRing 35 = .ok (.iload_n 1, 1) := by decide +kernel
theorem dX8_readsRing_36 : decode cX8_readsRing 36 = .ok (.iload_n 2, 1) := by decide +kernel
theorem dX8_readsRing_37 : decode cX8_readsRing 37 = .ok (.invokevirtual 90, 3) := by decide +kernel
theorem dX8_readsRing_40 : decode cX8_readsRing 40 = .ok (.bipush 48, 2) := by decide +kernel
theorem dX8_readsRing_42 : decode cX8_readsRing 42 = .ok (.isub, 1) := by decide +kernel
theorem dX8_readsRing_43 : decode cX8_readsRing 43 = .ok (.putfield 94, 3) := by decide +kernel
theorem dX8_readsRing_46 : decode cX8_readsRing 46 = .ok (.aload_n 0, 1) := by decide +kernel
theorem dX8_readsRing_47 : decode cX8_readsRing 47 = .ok (.getfield 94, 3) := by decide +kernel
theorem dX8_readsRing_50 : decode cX8_readsRing 50 = .ok (.i2l, 1) := by decide +kernel
theorem dX8_readsRing_51 : decode cX8_readsRing 51 = .ok (.ldc2_w 97, 3) := by decide +kernel
theorem dX8_readsRing_54 : decode cX8_readsRing 54 = .ok (.ldc2_w 99, 3) := by decide +kernel
theorem dX8_readsRing_57 : decode cX8_readsRing 57 = .ok (.invokestatic 80, 3) := by decide +kernel
theorem dX8_readsRing_60 : decode cX8_readsRing 60 = .ok (.ifCond .ne 5, 3) := by decide +kernel
theorem dX8_readsRing_63 : decode cX8_readsRing 63 = .ok (.iconst 0, 1) := by decide +kernel
theorem dX8_readsRing_64 : decode cX8_readsRing 64 = .ok (.ireturn, 1) := by decide +kernel
theorem dX8_readsRing_65 : decode cX8_readsRing 65 = .ok (.aload_n 0, 1) := by decide +kernel
theorem dX8_readsRing_66 : decode cX8_readsRing 66 = .ok (.dup, 1) := by decide +kernel
theorem dX8_readsRing_67 : decode cX8_readsRing 67 = .ok (.getfield 84, 3) := by decide +kernel
theorem dX8_readsRing_70 : decode cX8_readsRing 70 = .ok (.iconst 1, 1) := by decide +kernel
theorem dX8_readsRing_71 : decode cX8_readsRing 71 = .ok (.iadd, 1) := by decide +kernel
theorem dX8_readsRing_72 : decode cX8_readsRing 72 = .ok (.putfield 84, 3) := by decide +kernel
theorem dX8_readsRing_75 : decode cX8_readsRing 75 = .ok (.iconst 1, 1) := by decide +kernel
theorem dX8_readsRing_76 : decode cX8_readsRing 76 = .ok (.istore_n 3, 1) := by decide +kernel
theorem dX8_readsRing_77 : decode cX8_readsRing 77 = .ok (.iload_n 3, 1) := by decide +kernel
theorem dX8_readsRing_78 : decode cX8_readsRing 78 = .ok (.ifCond .eq 29, 3) := by decide +kernel
theorem dX8_readsRing_81 : decode cX8_readsRing 81 = .ok (.aload_n 0, 1) := by decide +kernel
theorem dX8_readsRing_82 : decode cX8_readsRing 82 = .ok (.getfield 87, 3) := by decide +kernel
theorem dX8_readsRing_85 : decode cX8_readsRing 85 = .ok (.iconst 2, 1) := by decide +kernel
theorem dX8_readsRing_86 : decode cX8_readsRing 86 = .ok (.if_icmp .lt 11, 3) := by decide +kernel
theorem dX8_readsRing_89 : decode cX8_readsRing 89 = .ok (.aload_n 0, 1) := by decide +kernel
theorem dX8_readsRing_90 : decode cX8_readsRing 90 = .ok (.getfield 84, 3) := by decide +kernel
theorem dX8_readsRing_93 : decode cX8_readsRing 93 = .ok (.iload_n 2, 1) := by decide +kernel
theorem dX8_readsRing_94 : decode cX8_readsRing 94 = .ok (.if_icmp .ge 13, 3) := by decide +kernel
theorem dX8_readsRing_97 : decode cX8_readsRing 97 = .ok (.aload_n 0, 1) := by decide +kernel
theorem dX8_readsRing_98 : decode cX8_readsRing 98 = .ok (.iload_n 1, 1) := by decide +kernel
theorem dX8_readsRing_99 : decode cX8_readsRing 99 = .ok (.iload_n 2, 1) := by decide +kernel
theorem dX8_readsRing_100 : decode cX8_readsRing 100 = .ok (.invokevirtual 101, 3) := by decide +kernel
theorem dX8_readsRing_103 : decode cX8_readsRing 103 = .ok (.istore_n 3, 1) := by decide +kernel
theorem dX8_readsRing_104 : decode cX8_readsRing 104 = .ok (.goto (-27), 3) := by decide +kernel
theorem dX8_readsRing_107 : decode cX8_readsRing 107 = .ok (.iload_n 3, 1) := by decide +kernel
theorem dX8_readsRing_108 : decode cX8_readsRing 108 = .ok (.ireturn, 1) := by decide +kernel
theorem dX8_cellsBarred_0 : decode cX8_cellsBarred 0 = .ok (.aload_n 0, 1) := by decide +kernel
theorem dX8_cellsBarred_1 : decode cX8_cellsBarred 1 = .ok (.getfield 55, 3) := by decide +kernel
theorem dX8_cellsBarred_4 : decode cX8_cellsBarred 4 = .ok (.iload_n 1, 1) := by decide +kernel
theorem dX8_cellsBarred_5 : decode cX8_cellsBarred 5 = .ok (.iaload, 1) := by decide +kernel
theorem dX8_cellsBarred_6 : decode cX8_cellsBarred 6 = .ok (.ifCond .lt 19, 3) := by decide +kernel
theorem dX8_cellsBarred_9 : decode cX8_cellsBarred 9 = .ok (.aload_n 0, 1) := by decide +kernel
theorem dX8_cellsBarred_10 : decode cX8_cellsBarred 10 = .ok (.getfield 58, 3) := by decide +kernel
theorem dX8_cellsBarred_13 : decode cX8_cellsBarred 13 = .ok (.iload_n 1, 1) := by decide +kernel
theorem dX8_cellsBarred_14 : decode cX8_cellsBarred 14 = .ok (.iaload, 1) := by decide +kernel
theorem dX8_cellsBarred_15 : decode cX8_cellsBarred 15 = .ok (.iload_n 2, 1) := by decide +kernel
theorem dX8_cellsBarred_16 : decode cX8_cellsBarred 16 = .ok (.if_icmp .eq 9, 3) := by decide +kernel
theorem dX8_cellsBarred_19 : decode cX8_cellsBarred 19 = .ok (.aload_n 0, 1) := by decide +kernel
theorem dX8_cellsBarred_20 : decode cX8_cellsBarred 20 = .ok (.iconst 2, 1) := by decide +kernel
theorem dX8_cellsBarred_21 : decode cX8_cellsBarred 21 = .ok (.invokevirtual 105, 3) := by decide +kernel
theorem dX8_cellsBarred_24 : decode cX8_cellsBarred 24 = .ok (.ireturn, 1) := by decide +kernel
theorem dX8_cellsBarred_25 : decode cX8_cellsBarred 25 = .ok (.aload_n 0, 1) := by decide +kernel
theorem dX8_cellsBarred_26 : decode cX8_cellsBarred 26 = .ok (.getfield 55, 3) := by decide +kernel
theorem dX8_cellsBarred_29 : decode cX8_cellsBarred 29 = .ok (.iload_n 1, 1) := by decide +kernel
theorem dX8_cellsBarred_30 : decode cX8_cellsBarred 30 = .ok (.iaload, 1) := by decide +kernel
theorem dX8_cellsBarred_31 : decode cX8_cellsBarred 31 = .ok (.ifCond .ge 9, 3) := by decide +kernel
theorem dX8_cellsBarred_34 : decode cX8_cellsBarred 34 = .ok (.aload_n 0, 1) := by decide +kernel
theorem dX8_cellsBarred_35 : decode cX8_cellsBarred 35 = .ok (.iconst 1, 1) := by decide +kernel
theorem dX8_cellsBarred_36 : decode cX8_cellsBarred 36 = .ok (.invokevirtual 105, 3) := by decide +kernel
theorem dX8_cellsBarred_39 : decode cX8_cellsBarred 39 = .ok (.ireturn, 1) := by decide +kernel
theorem dX8_cellsBarred_40 : decode cX8_cellsBarred 40 = .ok (.lload 4, 2) := by decide +kernel
theorem dX8_cellsBarred_42 : decode cX8_cellsBarred 42 = .ok (.lconst 0, 1) := by decide +kernel
theorem dX8_cellsBarred_43 : decode cX8_cellsBarred 43 = .ok (.lcmp, 1) := by decide +kernel
theorem dX8_cellsBarred_44 : decode cX8_cellsBarred 44 = .ok (.ifCond .ge 9, 3) := by decide +kernel
theorem dX8_cellsBarred_47 : decode cX8_cellsBarred 47 = .ok (.aload_n 0, 1) := by decide +kernel
theorem dX8_cellsBarred_48 : decode cX8_cellsBarred 48 = .ok (.iconst 4, 1) := by decide +kernel
theorem dX8_cellsBarred_49 : decode cX8_cellsBarred 49 = .ok (.invokevirtual 105, 3) := by decide +kernel
theorem dX8_cellsBarred_52 : decode cX8_cellsBarred 52 = .ok (.ireturn, 1) := by decide +kernel
theorem dX8_cellsBarred_53 : decode cX8_cellsBarred 53 = .ok (.iload_n 3, 1) := by decide +kernel
theorem dX8_cellsBarred_54 : decode cX8_cellsBarred 54 = .ok (.lload 4, 2) := by decide +kernel
theorem dX8_cellsBarred_56 : decode cX8_cellsBarred 56 = .ok (.aload_n 0, 1) := by decide +kernel
theorem dX8_cellsBarred_57 : decode cX8_cellsBarred 57 = .ok (.getfield 55, 3) := by decide +kernel
theorem dX8_cellsBarred_60 : decode cX8_cellsBarred 60 = .ok (.iload_n 1, 1) := by decide +kernel
theorem dX8_cellsBarred_61 : decode cX8_cellsBarred 61 = .ok (.iaload, 1) := by decide +kernel
theorem dX8_cellsBarred_62 : decode cX8_cellsBarred 62 = .ok (.invokestatic 109, 3) := by decide +kernel
theorem dX8_cellsBarred_65 : decode cX8_cellsBarred 65 = .ok (.ifCond .eq 11, 3) := by decide +kernel
theorem dX8_cellsBarred_68 : decode cX8_cellsBarred 68 = .ok (.aload_n 0, 1) := by decide +kernel
theorem dX8_cellsBarred_69 : decode cX8_cellsBarred 69 = .ok (.iconst 3, 1) := by decide +kernel
theorem dX8_cellsBarred_70 : decode cX8_cellsBarred 70 = .ok (.invokevirtual 105, 3) := by decide +kernel
theorem dX8_cellsBarred_73 : decode cX8_cellsBarred 73 = .ok (.goto 4, 3) := by decide +kernel
theorem dX8_cellsBarred_76 : decode cX8_cellsBarred 76 = .ok (.iconst 0, 1) := by decide +kernel
theorem dX8_cellsBarred_77 : decode cX8_cellsBarred 77 = .ok (.ireturn, 1) := by decide +kernel
theorem dX8_ring_0 : decode cX8_ring 0 = .ok (.iload_n 1, 1) := by decide +kernel
theorem dX8_ring_1 : decode cX8_ring 1 = .ok (.invokestatic 113, 3) := by decide +kernel
theorem dX8_ring_4 : decode cX8_ring 4 = .ok (.ifCond .eq 9, 3) := by decide +kernel
theorem dX8_ring_7 : decode cX8_ring 7 = .ok (.aload_n 0, 1) := by decide +kernel
theorem dX8_ring_8 : decode cX8_ring 8 = .ok (.iconst (-1), 1) := by decide +kernel
theorem dX8_ring_9 : decode cX8_ring 9 = .ok (.invokevirtual 117, 3) := by decide +kernel
theorem dX8_ring_12 : decode cX8_ring 12 = .ok (.ireturn, 1) := by decide +kernel
theorem dX8_ring_13 : decode cX8_ring 13 = .ok (.iload_n 2, 1) := by decide +kernel
theorem dX8_ring_14 : decode cX8_ring 14 = .ok (.i2l, 1) := by decide +kernel
theorem dX8_ring_15 : decode cX8_ring 15 = .ok (.lconst 0, 1) := by decide +kernel
theorem dX8_ring_16 : decode cX8_ring 16 = .ok (.ldc2_w 97, 3) := by decide +kernel
theorem dX8_ring_19 : decode cX8_ring 19 = .ok (.invokestatic 80, 3) := by decide +kernel
theorem dX8_ring_22 : decode cX8_ring 22 = .ok (.ifCond .ne 10, 3) := by decide +kernel
theorem dX8_ring_25 : decode cX8_ring 25 = .ok (.aload_n 0, 1) := by decide +kernel
theorem dX8_ring_26 : decode cX8_ring 26 = .ok (.bipush (-2), 2) := by decide +kernel
theorem dX8_ring_28 : decode cX8_ring 28 = .ok (.invokevirtual 117, 3) := by decide +kernel
theorem dX8_ring_31 : decode cX8_ring 31 = .ok (.ireturn, 1) := by decide +kernel
theorem dX8_ring_32 : decode cX8_ring 32 = .ok (.aload_n 0, 1) := by decide +kernel
theorem dX8_ring_33 : decode cX8_ring 33 = .ok (.iload_n 1, 1) := by decide +kernel
theorem dX8_ring_34 : decode cX8_ring 34 = .ok (.iload_n 2, 1) := by decide +kernel
theorem dX8_ring_35 : decode cX8_ring 35 = .ok (.iload_n 3, 1) := by decide +kernel
theorem dX8_ring_36 : decode cX8_ring 36 = .ok (.iload 4, 2) := by decide +kernel
theorem dX8_ring_38 : decode cX8_ring 38 = .ok (.i2l, 1) := by decide +kernel
theorem dX8_ring_39 : decode cX8_ring 39 = .ok (.invokevirtual 120, 3) := by decide +kernel
theorem dX8_ring_42 : decode cX8_ring 42 = .ok (.istore 5, 2) := by decide +kernel
theorem dX8_ring_44 : decode cX8_ring 44 = .ok (.iload 5, 2) := by decide +kernel
theorem dX8_ring_46 : decode cX8_ring 46 = .ok (.ifCond .ge 6, 3) := by decide +kernel
theorem dX8_ring_49 : decode cX8_ring 49 = .ok (.iload 5, 2) := by decide +kernel
theorem dX8_ring_51 : decode cX8_ring 51 = .ok (.ireturn, 1) := by decide +kernel
theorem dX8_ring_52 : decode cX8_ring 52 = .ok (.aload_n 0, 1) := by decide +kernel
theorem dX8_ring_53 : decode cX8_ring 53 = .ok (.bipush 60, 2) := by decide +kernel
theorem dX8_ring_55 : decode cX8_ring 55 = .ok (.iload_n 1, 1) := by decide +kernel
theorem dX8_ring_56 : decode cX8_ring 56 = .ok (.imul, 1) := by decide +kernel
theorem dX8_ring_57 : decode cX8_ring 57 = .ok (.iload_n 3, 1) := by decide +kernel
theorem dX8_ring_58 : decode cX8_ring 58 = .ok (.iadd, 1) := by decide +kernel
theorem dX8_ring_59 : decode cX8_ring 59 = .ok (.iload 4, 2) := by decide +kernel
theorem dX8_ring_61 : decode cX8_ring 61 = .ok (.invokevirtual 124, 3) := by decide +kernel
theorem dX8_ring_64 : decode cX8_ring 64 = .ok (.ifCond .ne 15, 3) := by decide +kernel
theorem dX8_ring_67 : decode cX8_ring 67 = .ok (.aload_n 0, 1) := by decide +kernel
theorem dX8_ring_68 : decode cX8_ring 68 = .ok (.bipush (-100), 2) := by decide +kernel
theorem dX8_ring_70 : decode cX8_ring 70 = .ok (.aload_n 0, 1) := by decide +kernel
theorem dX8_ring_71 : decode cX8_ring 71 = .ok (.getfield 84, 3) := by decide +kernel
theorem dX8_ring_74 : decode cX8_ring 74 = .ok (.isub, 1) := by decide +kernel
theorem dX8_ring_75 : decode cX8_ring 75 = .ok (.invokevirtual 117, 3) := by decide +kernel
theorem dX8_ring_78 : decode cX8_ring 78 = .ok (.ireturn, 1) := by decide +kernel
theorem dX8_ring_79 : decode cX8_ring 79 = .ok (.aload_n 0, 1) := by decide +kernel
theorem dX8_ring_80 : decode cX8_ring 80 = .ok (.aload_n 0, 1) := by decide +kernel
theorem dX8_ring_81 : decode cX8_ring 81 = .ok (.getfield 87, 3) := by decide +kernel
theorem dX8_ring_84 : decode cX8_ring 84 = .ok (.putfield 77, 3) := by decide +kernel
theorem dX8_ring_87 : decode cX8_ring 87 = .ok (.aload_n 0, 1) := by decide +kernel
theorem dX8_ring_88 : decode cX8_ring 88 = .ok (.aload_n 0, 1) := by decide +kernel
theorem dX8_ring_89 : decode cX8_ring 89 = .ok (.getfield 94, 3) := by decide +kernel
theorem dX8_ring_92 : decode cX8_ring 92 = .ok (.putfield 127, 3) := by decide +kernel
theorem dX8_ring_95 : decode cX8_ring 95 = .ok (.aload_n 0, 1) := by decide +kernel
theorem dX8_ring_96 : decode cX8_ring 96 = .ok (.iconst 0, 1) := by decide +kernel
theorem dX8_ring_97 : decode cX8_ring 97 = .ok (.putfield 130, 3) := by decide +kernel
theorem dX8_ring_100 : decode cX8_ring 100 = .ok (.iconst 0, 1) := by decide +kernel
theorem dX8_ring_101 : decode cX8_ring 101 = .ok (.istore 6, 2) := by decide +kernel
theorem dX8_ring_103 : decode cX8_ring 103 = .ok (.iload 6, 2) := by decide +kernel
theorem dX8_ring_105 : decode cX8_ring 105 = .ok (.aload_n 0, 1) := by decide +kernel
theorem dX8_ring_106 : decode cX8_ring 106 = .ok (.getfield 77, 3) := by decide +kernel
theorem dX8_ring_109 : decode cX8_ring 109 = .ok (.if_icmp .ge 37, 3) := by decide +kernel
theorem dX8_ring_112 : decode cX8_ring 112 = .ok (.aload_n 0, 1) := by decide +kernel
theorem dX8_ring_113 : decode cX8_ring 113 = .ok (.getfield 7, 3) := by decide +kernel
theorem dX8_ring_116 : decode cX8_ring 116 = .ok (.iload 6, 2) := by decide +kernel
theorem dX8_ring_118 : decode cX8_ring 118 = .ok (.aload_n 0, 1) := by decide +kernel
theorem dX8_ring_119 : decode cX8_ring 119 = .ok (.getfield 16, 3) := by decide +kernel
theorem dX8_ring_122 : decode cX8_ring 122 = .ok (.iload 6, 2) := by decide +kernel
theorem dX8_ring_124 : decode cX8_ring 124 = .ok (.iaload, 1) := by decide +kernel
theorem dX8_ring_125 : decode cX8_ring 125 = .ok (.iastore, 1) := by decide +kernel
theorem dX8_ring_126 : decode cX8_ring 126 = .ok (.aload_n 0, 1) := by decide +kernel
theorem dX8_ring_127 : decode cX8_ring 127 = .ok (.getfield 13, 3) := by decide +kernel
theorem dX8_ring_130 : decode cX8_ring 130 = .ok (.iload 6, 2) := by decide +kernel
theorem dX8_ring_132 : decode cX8_ring 132 = .ok (.aload_n 0, 1) := by decide +kernel
theorem dX8_ring_133 : decode cX8_ring 133 = .ok (.getfield 19, 3) := by decide +kernel
theorem dX8_ring_136 : decode cX8_ring 136 = .ok (.iload 6, 2) := by decide +kernel
theorem dX8_ring_138 : decode cX8_ring 138 = .ok (.iaload, 1) := by decide +kernel
theorem dX8_ring_139 : decode cX8_ring 139 = .ok (.iastore, 1) := by decide +kernel
theorem dX8_ring_140 : decode cX8_ring 140 = .ok (.iinc 6 1, 3) := by decide +kernel
theorem dX8_ring_143 : decode cX8_ring 143 = .ok (.goto (-40), 3) := by decide +kernel
theorem dX8_ring_146 : decode cX8_ring 146 = .ok (.aload_n 0, 1) := by decide +kernel
theorem dX8_ring_147 : decode cX8_ring 147 = .ok (.iconst 0, 1) := by decide +kernel
theorem dX8_ring_148 : decode cX8_ring 148 = .ok (.putfield 133, 3) := by decide +kernel
theorem dX8_ring_151 : decode cX8_ring 151 = .ok (.aload_n 0, 1) := by decide +kernel
theorem dX8_ring_152 : decode cX8_ring 152 = .ok (.aload_n 0, 1) := by decide +kernel
theorem dX8_ring_153 : decode cX8_ring 153 = .ok (.getfield 77, 3) := by decide +kernel
theorem dX8_ring_156 : decode cX8_ring 156 = .ok (.invokevirtual 117, 3) := by decide +kernel
theorem dX8_ring_159 : decode cX8_ring 159 = .ok (.ireturn, 1) := by decide +kernel
theorem dX8_apart_0 : decode cX8_apart 0 = .ok (.iload_n 0, 1) := by decide +kernel
theorem dX8_apart_1 : decode cX8_apart 1 = .ok (.iload_n 1, 1) := by decide +kernel
theorem dX8_apart_2 : decode cX8_apart 2 = .ok (.if_icmp .le 9, 3) := by decide +kernel
theorem dX8_apart_5 : decode cX8_apart 5 = .ok (.iload_n 0, 1) := by decide +kernel
theorem dX8_apart_6 : decode cX8_apart 6 = .ok (.iload_n 1, 1) := by decide +kernel
theorem dX8_apart_7 : decode cX8_apart 7 = .ok (.isub, 1) := by decide +kernel
theorem dX8_apart_8 : decode cX8_apart 8 = .ok (.goto 6, 3) := by decide +kernel
theorem dX8_apart_11 : decode cX8_apart 11 = .ok (.iload_n 1, 1) := by decide +kernel
theorem dX8_apart_12 : decode cX8_apart 12 = .ok (.iload_n 0, 1) := by decide +kernel
theorem dX8_apart_13 : decode cX8_apart 13 = .ok (.isub, 1) := by decide +kernel
theorem dX8_apart_14 : decode cX8_apart 14 = .ok (.ireturn, 1) := by decide +kernel
theorem dX8_becomes_0 : decode cX8_becomes 0 = .ok (.aload_n 0, 1) := by decide +kernel
theorem dX8_becomes_1 : decode cX8_becomes 1 = .ok (.getfield 22, 3) := by decide +kernel
theorem dX8_becomes_4 : decode cX8_becomes 4 = .ok (.iload_n 1, 1) := by decide +kernel
theorem dX8_becomes_5 : decode cX8_becomes 5 = .ok (.iaload, 1) := by decide +kernel
theorem dX8_becomes_6 : decode cX8_becomes 6 = .ok (.aload_n 0, 1) := by decide +kernel
theorem dX8_becomes_7 : decode cX8_becomes 7 = .ok (.getfield 22, 3) := by decide +kernel
theorem dX8_becomes_10 : decode cX8_becomes 10 = .ok (.iload_n 1, 1) := by decide +kernel
theorem dX8_becomes_11 : decode cX8_becomes 11 = .ok (.iconst 1, 1) := by decide +kernel
theorem dX8_becomes_12 : decode cX8_becomes 12 = .ok (.iadd, 1) := by decide +kernel
theorem dX8_becomes_13 : decode cX8_becomes 13 = .ok (.aload_n 0, 1) := by decide +kernel
theorem dX8_becomes_14 : decode cX8_becomes 14 = .ok (.getfield 77, 3) := by decide +kernel
theorem dX8_becomes_17 : decode cX8_becomes 17 = .ok (.irem, 1) := by decide +kernel
theorem dX8_becomes_18 : decode cX8_becomes 18 = .ok (.iaload, 1) := by decide +kernel
theorem dX8_becomes_19 : decode cX8_becomes 19 = .ok (.invokestatic 136, 3) := by decide +kernel
theorem dX8_becomes_22 : decode cX8_becomes 22 = .ok (.istore_n 2, 1) := by decide +kernel
theorem dX8_becomes_23 : decode cX8_becomes 23 = .ok (.aload_n 0, 1) := by decide +kernel
theorem dX8_becomes_24 : decode cX8_becomes 24 = .ok (.getfield 22, 3) := by decide +kernel
theorem dX8_becomes_27 : decode cX8_becomes 27 = .ok (.iload_n 1, 1) := by decide +kernel
theorem dX8_becomes_28 : decode cX8_becomes 28 = .ok (.iaload, 1) := by decide +kernel
theorem dX8_becomes_29 : decode cX8_becomes 29 = .ok (.aload_n 0, 1) := by decide +kernel
theorem dX8_becomes_30 : decode cX8_becomes 30 = .ok (.getfield 22, 3) := by decide +kernel
theorem dX8_becomes_33 : decode cX8_becomes 33 = .ok (.iload_n 1, 1) := by decide +kernel
theorem dX8_becomes_34 : decode cX8_becomes 34 = .ok (.iconst 2, 1) := by decide +kernel
theorem dX8_becomes_35 : decode cX8_becomes 35 = .ok (.iadd, 1) := by decide +kernel
theorem dX8_becomes_36 : decode cX8_becomes 36 = .ok (.aload_n 0, 1) := by decide +kernel
theorem dX8_becomes_37 : decode cX8_becomes 37 = .ok (.getfield 77, 3) := by decide +kernel
theorem dX8_becomes_40 : decode cX8_becomes 40 = .ok (.irem, 1) := by decide +kernel
theorem dX8_becomes_41 : decode cX8_becomes 41 = .ok (.iaload, 1) := by decide +kernel
theorem dX8_becomes_42 : decode cX8_becomes 42 = .ok (.invokestatic 136, 3) := by decide +kernel
theorem dX8_becomes_45 : decode cX8_becomes 45 = .ok (.istore_n 3, 1) := by decide +kernel
theorem dX8_becomes_46 : decode cX8_becomes 46 = .ok (.aload_n 0, 1) := by decide +kernel
theorem dX8_becomes_47 : decode cX8_becomes 47 = .ok (.getfield 7, 3) := by decide +kernel
theorem dX8_becomes_50 : decode cX8_becomes 50 = .ok (.iload_n 1, 1) := by decide +kernel
theorem dX8_becomes_51 : decode cX8_becomes 51 = .ok (.iaload, 1) := by decide +kernel
theorem dX8_becomes_52 : decode cX8_becomes 52 = .ok (.ifCond .ne 7, 3) := by decide +kernel
theorem dX8_becomes_55 : decode cX8_becomes 55 = .ok (.iload_n 2, 1) := by decide +kernel
theorem dX8_becomes_56 : decode cX8_becomes 56 = .ok (.goto 25, 3) := by decide +kernel
theorem dX8_becomes_59 : decode cX8_becomes 59 = .ok (.aload_n 0, 1) := by decide +kernel
theorem dX8_becomes_60 : decode cX8_becomes 60 = .ok (.getfield 7, 3) := by decide +kernel
theorem dX8_becomes_63 : decode cX8_becomes 63 = .ok (.iload_n 1, 1) := by decide +kernel
theorem dX8_becomes_64 : decode cX8_becomes 64 = .ok (.iaload, 1) := by decide +kernel
theorem dX8_becomes_65 : decode cX8_becomes 65 = .ok (.iconst 1, 1) := by decide +kernel
theorem dX8_becomes_66 : decode cX8_becomes 66 = .ok (.if_icmp .ne 7, 3) := by decide +kernel
theorem dX8_becomes_69 : decode cX8_becomes 69 = .ok (.iload_n 3, 1) := by decide +kernel
theorem dX8_becomes_70 : decode cX8_becomes 70 = .ok (.goto 11, 3) := by decide +kernel
theorem dX8_becomes_73 : decode cX8_becomes 73 = .ok (.iload_n 3, 1) := by decide +kernel
theorem dX8_becomes_74 : decode cX8_becomes 74 = .ok (.iload_n 2, 1) := by decide +kernel
theorem dX8_becomes_75 : decode cX8_becomes 75 = .ok (.iadd, 1) := by decide +kernel
theorem dX8_becomes_76 : decode cX8_becomes 76 = .ok (.aload_n 0, 1) := by decide +kernel
theorem dX8_becomes_77 : decode cX8_becomes 77 = .ok (.getfield 127, 3) := by decide +kernel
theorem dX8_becomes_80 : decode cX8_becomes 80 = .ok (.irem, 1) := by decide +kernel
theorem dX8_becomes_81 : decode cX8_becomes 81 = .ok (.ireturn, 1) := by decide +kernel
theorem dX8_stepsOnce_0 : decode cX8_stepsOnce 0 = .ok (.iconst 0, 1) := by decide +kernel
theorem dX8_stepsOnce_1 : decode cX8_stepsOnce 1 = .ok (.istore_n 1, 1) := by decide +kernel
theorem dX8_stepsOnce_2 : decode cX8_stepsOnce 2 = .ok (.iload_n 1, 1) := by decide +kernel
theorem dX8_stepsOnce_3 : decode cX8_stepsOnce 3 = .ok (.aload_n 0, 1) := by decide +kernel
theorem dX8_stepsOnce_4 : decode cX8_stepsOnce 4 = .ok (.getfield 77, 3) := by decide +kernel
theorem dX8_stepsOnce_7 : decode cX8_stepsOnce 7 = .ok (.if_icmp .ge 20, 3) := by decide +kernel
theorem dX8_stepsOnce_10 : decode cX8_stepsOnce 10 = .ok (.aload_n 0, 1) := by decide +kernel
theorem dX8_stepsOnce_11 : decode cX8_stepsOnce 11 = .ok (.getfield 25, 3) := by decide +kernel
theorem dX8_stepsOnce_14 : decode cX8_stepsOnce 14 = .ok (.iload_n 1, 1) := by decide +kernel
theorem dX8_stepsOnce_15 : decode cX8_stepsOnce 15 = .ok (.aload_n 0, 1) := by decide +kernel
theorem dX8_stepsOnce_16 : decode cX8_stepsOnce 16 = .ok (.iload_n 1, 1) := by decide +kernel
theorem dX8_stepsOnce_17 : decode cX8_stepsOnce 17 = .ok (.invokevirtual 139, 3) := by decide +kernel
theorem dX8_stepsOnce_20 : decode cX8_stepsOnce 20 = .ok (.iastore, 1) := by decide +kernel
theorem dX8_stepsOnce_21 : decode cX8_stepsOnce 21 = .ok (.iinc 1 1, 3) := by decide +kernel
theorem dX8_stepsOnce_24 : decode cX8_stepsOnce 24 = .ok (.goto (-22), 3) := by decide +kernel
theorem dX8_stepsOnce_27 : decode cX8_stepsOnce 27 = .ok (.iconst 0, 1) := by decide +kernel
theorem dX8_stepsOnce_28 : decode cX8_stepsOnce 28 = .ok (.istore_n 1, 1) := by decide +kernel
theorem dX8_stepsOnce_29 : decode cX8_stepsOnce 29 = .ok (.iload_n 1, 1) := by decide +kernel
theorem dX8_stepsOnce_30 : decode cX8_stepsOnce 30 = .ok (.aload_n 0, 1) := by decide +kernel
theorem dX8_stepsOnce_31 : decode cX8_stepsOnce 31 = .ok (.getfield 77, 3) := by decide +kernel
theorem dX8_stepsOnce_34 : decode cX8_stepsOnce 34 = .ok (.if_icmp .ge 21, 3) := by decide +kernel
theorem dX8_stepsOnce_37 : decode cX8_stepsOnce 37 = .ok (.aload_n 0, 1) := by decide +kernel
theorem dX8_stepsOnce_38 : decode cX8_stepsOnce 38 = .ok (.getfield 22, 3) := by decide +kernel
theorem dX8_stepsOnce_41 : decode cX8_stepsOnce 41 = .ok (.iload_n 1, 1) := by decide +kernel
theorem dX8_stepsOnce_42 : decode cX8_stepsOnce 42 = .ok (.aload_n 0, 1) := by decide +kernel
theorem dX8_stepsOnce_43 : decode cX8_stepsOnce 43 = .ok (.getfield 25, 3) := by decide +kernel
theorem dX8_stepsOnce_46 : decode cX8_stepsOnce 46 = .ok (.iload_n 1, 1) := by decide +kernel
theorem dX8_stepsOnce_47 : decode cX8_stepsOnce 47 = .ok (.iaload, 1) := by decide +kernel
theorem dX8_stepsOnce_48 : decode cX8_stepsOnce 48 = .ok (.iastore, 1) := by decide +kernel
theorem dX8_stepsOnce_49 : decode cX8_stepsOnce 49 = .ok (.iinc 1 1, 3) := by decide +kernel
theorem dX8_stepsOnce_52 : decode cX8_stepsOnce 52 = .ok (.goto (-23), 3) := by decide +kernel
theorem dX8_stepsOnce_55 : decode cX8_stepsOnce 55 = .ok (.return_, 1) := by decide +kernel
theorem dX8_takesNow_0 : decode cX8_takesNow 0 = .ok (.iconst 0, 1) := by decide +kernel
theorem dX8_takesNow_1 : decode cX8_takesNow 1 = .ok (.istore_n 1, 1) := by decide +kernel
theorem dX8_takesNow_2 : decode cX8_takesNow 2 = .ok (.iload_n 1, 1) := by decide +kernel
theorem dX8_takesNow_3 : decode cX8_takesNow 3 = .ok (.aload_n 0, 1) := by decide +kernel
theorem dX8_takesNow_4 : decode cX8_takesNow 4 = .ok (.getfield 77, 3) := by decide +kernel
theorem dX8_takesNow_7 : decode cX8_takesNow 7 = .ok (.if_icmp .ge 21, 3) := by decide +kernel
theorem dX8_takesNow_10 : decode cX8_takesNow 10 = .ok (.aload_n 0, 1) := by decide +kernel
theorem dX8_takesNow_11 : decode cX8_takesNow 11 = .ok (.getfield 22, 3) := by decide +kernel
theorem dX8_takesNow_14 : decode cX8_takesNow 14 = .ok (.iload_n 1, 1) := by decide +kernel
theorem dX8_takesNow_15 : decode cX8_takesNow 15 = .ok (.aload_n 0, 1) := by decide +kernel
theorem dX8_takesNow_16 : decode cX8_takesNow 16 = .ok (.getfield 13, 3) := by decide +kernel
theorem dX8_takesNow_19 : decode cX8_takesNow 19 = .ok (.iload_n 1, 1) := by decide +kernel
theorem dX8_takesNow_20 : decode cX8_takesNow 20 = .ok (.iaload, 1) := by decide +kernel
theorem dX8_takesNow_21 : decode cX8_takesNow 21 = .ok (.iastore, 1) := by decide +kernel
theorem dX8_takesNow_22 : decode cX8_takesNow 22 = .ok (.iinc 1 1, 3) := by decide +kernel
theorem dX8_takesNow_25 : decode cX8_takesNow 25 = .ok (.goto (-23), 3) := by decide +kernel
theorem dX8_takesNow_28 : decode cX8_takesNow 28 = .ok (.return_, 1) := by decide +kernel
theorem dX8_takesRow_0 : decode cX8_takesRow 0 = .ok (.iload_n 1, 1) := by decide +kernel
theorem dX8_takesRow_1 : decode cX8_takesRow 1 = .ok (.istore_n 2, 1) := by decide +kernel
theorem dX8_takesRow_2 : decode cX8_takesRow 2 = .ok (.aload_n 0, 1) := by decide +kernel
theorem dX8_takesRow_3 : decode cX8_takesRow 3 = .ok (.getfield 77, 3) := by decide +kernel
theorem dX8_takesRow_6 : decode cX8_takesRow 6 = .ok (.iconst 1, 1) := by decide +kernel
theorem dX8_takesRow_7 : decode cX8_takesRow 7 = .ok (.isub, 1) := by decide +kernel
theorem dX8_takesRow_8 : decode cX8_takesRow 8 = .ok (.istore_n 3, 1) := by decide +kernel
theorem dX8_takesRow_9 : decode cX8_takesRow 9 = .ok (.iload_n 3, 1) := by decide +kernel
theorem dX8_takesRow_10 : decode cX8_takesRow 10 = .ok (.ifCond .lt 28, 3) := by decide +kernel
theorem dX8_takesRow_13 : decode cX8_takesRow 13 = .ok (.aload_n 0, 1) := by decide +kernel
theorem dX8_takesRow_14 : decode cX8_takesRow 14 = .ok (.getfield 22, 3) := by decide +kernel
theorem dX8_takesRow_17 : decode cX8_takesRow 17 = .ok (.iload_n 3, 1) := by decide +kernel
theorem dX8_takesRow_18 : decode cX8_takesRow 18 = .ok (.iload_n 2, 1) := by decide +kernel
theorem dX8_takesRow_19 : decode cX8_takesRow 19 = .ok (.aload_n 0, 1) := by decide +kernel
theorem dX8_takesRow_20 : decode cX8_takesRow 20 = .ok (.getfield 127, 3) := by decide +kernel
theorem dX8_takesRow_23 : decode cX8_takesRow 23 = .ok (.irem, 1) := by decide +kernel
theorem dX8_takesRow_24 : decode cX8_takesRow 24 = .ok (.iastore, 1) := by decide +kernel
theorem dX8_takesRow_25 : decode cX8_takesRow 25 = .ok (.iload_n 2, 1) := by decide +kernel
theorem dX8_takesRow_26 : decode cX8_takesRow 26 = .ok (.aload_n 0, 1) := by decide +kernel
theorem dX8_takesRow_27 : decode cX8_takesRow 27 = .ok (.getfield 127, 3) := by decide +kernel
theorem dX8_takesRow_30 : decode cX8_takesRow 30 = .ok (.idiv, 1) := by decide +kernel
theorem dX8_takesRow_31 : decode cX8_takesRow 31 = .ok (.istore_n 2, 1) := by decide +kernel
theorem dX8_takesRow_32 : decode cX8_takesRow 32 = .ok (.iinc 3 (-1), 3) := by decide +kernel
theorem dX8_takesRow_35 : decode cX8_takesRow 35 = .ok (.goto (-26), 3) := by decide +kernel
theorem dX8_takesRow_38 : decode cX8_takesRow 38 = .ok (.return_, 1) := by decide +kernel
theorem dX8_rowAt_0 : decode cX8_rowAt 0 = .ok (.iconst 0, 1) := by decide +kernel
theorem dX8_rowAt_1 : decode cX8_rowAt 1 = .ok (.istore_n 1, 1) := by decide +kernel
theorem dX8_rowAt_2 : decode cX8_rowAt 2 = .ok (.iconst 0, 1) := by decide +kernel
theorem dX8_rowAt_3 : decode cX8_rowAt 3 = .ok (.istore_n 2, 1) := by decide +kernel
theorem dX8_rowAt_4 : decode cX8_rowAt 4 = .ok (.iload_n 2, 1) := by decide +kernel
theorem dX8_rowAt_5 : decode cX8_rowAt 5 = .ok (.aload_n 0, 1) := by decide +kernel
theorem dX8_rowAt_6 : decode cX8_rowAt 6 = .ok (.getfield 77, 3) := by decide +kernel
theorem dX8_rowAt_9 : decode cX8_rowAt 9 = .ok (.if_icmp .ge 23, 3) := by decide +kernel
theorem dX8_rowAt_12 : decode cX8_rowAt 12 = .ok (.aload_n 0, 1) := by decide +kernel
theorem dX8_rowAt_13 : decode cX8_rowAt 13 = .ok (.getfield 127, 3) := by decide +kernel
theorem dX8_rowAt_16 : decode cX8_rowAt 16 = .ok (.iload_n 1, 1) := by decide +kernel
theorem dX8_rowAt_17 : decode cX8_rowAt 17 = .ok (.imul, 1) := by decide +kernel
theorem dX8_rowAt_18 : decode cX8_rowAt 18 = .ok (.aload_n 0, 1) := by decide +kernel
theorem dX8_rowAt_19 : decode cX8_rowAt 19 = .ok (.getfield 22, 3) := by decide +kernel
theorem dX8_rowAt_22 : decode cX8_rowAt 22 = .ok (.iload_n 2, 1) := by decide +kernel
theorem dX8_rowAt_23 : decode cX8_rowAt 23 = .ok (.iaload, 1) := by decide +kernel
theorem dX8_rowAt_24 : decode cX8_rowAt 24 = .ok (.iadd, 1) := by decide +kernel
theorem dX8_rowAt_25 : decode cX8_rowAt 25 = .ok (.istore_n 1, 1) := by decide +kernel
theorem dX8_rowAt_26 : decode cX8_rowAt 26 = .ok (.iinc 2 1, 3) := by decide +kernel
theorem dX8_rowAt_29 : decode cX8_rowAt 29 = .ok (.goto (-25), 3) := by decide +kernel
theorem dX8_rowAt_32 : decode cX8_rowAt 32 = .ok (.iload_n 1, 1) := by decide +kernel
theorem dX8_rowAt_33 : decode cX8_rowAt 33 = .ok (.ireturn, 1) := by decide +kernel
theorem dX8_rowNow_0 : decode cX8_rowNow 0 = .ok (.aload_n 0, 1) := by decide +kernel
theorem dX8_rowNow_1 : decode cX8_rowNow 1 = .ok (.invokevirtual 142, 3) := by decide +kernel
theorem dX8_rowNow_4 : decode cX8_rowNow 4 = .ok (.aload_n 0, 1) := by decide +kernel
theorem dX8_rowNow_5 : decode cX8_rowNow 5 = .ok (.invokevirtual 145, 3) := by decide +kernel
theorem dX8_rowNow_8 : decode cX8_rowNow 8 = .ok (.ireturn, 1) := by decide +kernel
theorem dX8_allRows_0 : decode cX8_allRows 0 = .ok (.iconst 1, 1) := by decide +kernel
theorem dX8_allRows_1 : decode cX8_allRows 1 = .ok (.istore_n 1, 1) := by decide +kernel
theorem dX8_allRows_2 : decode cX8_allRows 2 = .ok (.iconst 0, 1) := by decide +kernel
theorem dX8_allRows_3 : decode cX8_allRows 3 = .ok (.istore_n 2, 1) := by decide +kernel
theorem dX8_allRows_4 : decode cX8_allRows 4 = .ok (.iload_n 2, 1) := by decide +kernel
theorem dX8_allRows_5 : decode cX8_allRows 5 = .ok (.aload_n 0, 1) := by decide +kernel
theorem dX8_allRows_6 : decode cX8_allRows 6 = .ok (.getfield 77, 3) := by decide +kernel
theorem dX8_allRows_9 : decode cX8_allRows 9 = .ok (.if_icmp .ge 16, 3) := by decide +kernel
theorem dX8_allRows_12 : decode cX8_allRows 12 = .ok (.iload_n 1, 1) := by decide +kernel
theorem dX8_allRows_13 : decode cX8_allRows 13 = .ok (.aload_n 0, 1) := by decide +kernel
theorem dX8_allRows_14 : decode cX8_allRows 14 = .ok (.getfield 127, 3) := by decide +kernel
theorem dX8_allRows_17 : decode cX8_allRows 17 = .ok (.imul, 1) := by decide +kernel
theorem dX8_allRows_18 : decode cX8_allRows 18 = .ok (.istore_n 1, 1) := by decide +kernel
theorem dX8_allRows_19 : decode cX8_allRows 19 = .ok (.iinc 2 1, 3) := by decide +kernel
theorem dX8_allRows_22 : decode cX8_allRows 22 = .ok (.goto (-18), 3) := by decide +kernel
theorem dX8_allRows_25 : decode cX8_allRows 25 = .ok (.iload_n 1, 1) := by decide +kernel
theorem dX8_allRows_26 : decode cX8_allRows 26 = .ok (.ireturn, 1) := by decide +kernel
theorem dX8_ofPlace_0 : decode cX8_ofPlace 0 = .ok (.aload_n 0, 1) := by decide +kernel
theorem dX8_ofPlace_1 : decode cX8_ofPlace 1 = .ok (.iload_n 1, 1) := by decide +kernel
theorem dX8_ofPlace_2 : decode cX8_ofPlace 2 = .ok (.invokevirtual 149, 3) := by decide +kernel
theorem dX8_ofPlace_5 : decode cX8_ofPlace 5 = .ok (.ifCond .eq 5, 3) := by decide +kernel
theorem dX8_ofPlace_8 : decode cX8_ofPlace 8 = .ok (.iconst (-1), 1) := by decide +kernel
theorem dX8_ofPlace_9 : decode cX8_ofPlace 9 = .ok (.ireturn, 1) := by decide +kernel
theorem dX8_ofPlace_10 : decode cX8_ofPlace 10 = .ok (.aload_n 0, 1) := by decide +kernel
theorem dX8_ofPlace_11 : decode cX8_ofPlace 11 = .ok (.invokevirtual 142, 3) := by decide +kernel
theorem dX8_ofPlace_14 : decode cX8_ofPlace 14 = .ok (.iload_n 2, 1) := by decide +kernel
theorem dX8_ofPlace_15 : decode cX8_ofPlace 15 = .ok (.ifCond .ne 12, 3) := by decide +kernel
theorem dX8_ofPlace_18 : decode cX8_ofPlace 18 = .ok (.aload_n 0, 1) := by decide +kernel
theorem dX8_ofPlace_19 : decode cX8_ofPlace 19 = .ok (.getfield 7, 3) := by decide +kernel
theorem dX8_ofPlace_22 : decode cX8_ofPlace 22 = .ok (.iload_n 1, 1) := by decide +kernel
theorem dX8_ofPlace_23 : decode cX8_ofPlace 23 = .ok (.iaload, 1) := by decide +kernel
theorem dX8_ofPlace_24 : decode cX8_ofPlace 24 = .ok (.goto 32, 3) := by decide +kernel
theorem dX8_ofPlace_27 : decode cX8_ofPlace 27 = .ok (.iload_n 2, 1) := by decide +kernel
theorem dX8_ofPlace_28 : decode cX8_ofPlace 28 = .ok (.iconst 1, 1) := by decide +kernel
theorem dX8_ofPlace_29 : decode cX8_ofPlace 29 = .ok (.if_icmp .ne 12, 3) := by decide +kernel
theorem dX8_ofPlace_32 : decode cX8_ofPlace 32 = .ok (.aload_n 0, 1) := by decide +kernel
theorem dX8_ofPlace_33 : decode cX8_ofPlace 33 = .ok (.getfield 13, 3) := by decide +kernel
theorem dX8_ofPlace_36 : decode cX8_ofPlace 36 = .ok (.iload_n 1, 1) := by decide +kernel
theorem dX8_ofPlace_37 : decode cX8_ofPlace 37 = .ok (.iaload, 1) := by decide +kernel
theorem dX8_ofPlace_38 : decode cX8_ofPlace 38 = .ok (.goto 18, 3) := by decide +kernel
theorem dX8_ofPlace_41 : decode cX8_ofPlace 41 = .ok (.iload_n 2, 1) := by decide +kernel
theorem dX8_ofPlace_42 : decode cX8_ofPlace 42 = .ok (.iconst 2, 1) := by decide +kernel
theorem dX8_ofPlace_43 : decode cX8_ofPlace 43 = .ok (.if_icmp .ne 11, 3) := by decide +kernel
theorem dX8_ofPlace_46 : decode cX8_ofPlace 46 = .ok (.aload_n 0, 1) := by decide +kernel
theorem dX8_ofPlace_47 : decode cX8_ofPlace 47 = .ok (.iload_n 1, 1) := by decide +kernel
theorem dX8_ofPlace_48 : decode cX8_ofPlace 48 = .ok (.invokevirtual 139, 3) := by decide +kernel
theorem dX8_ofPlace_51 : decode cX8_ofPlace 51 = .ok (.goto 5, 3) := by decide +kernel
theorem dX8_ofPlace_54 : decode cX8_ofPlace 54 = .ok (.bipush (-2), 2) := by decide +kernel
theorem dX8_ofPlace_56 : decode cX8_ofPlace 56 = .ok (.ireturn, 1) := by decide +kernel
theorem dX8_isNumber_0 : decode cX8_isNumber 0 = .ok (.iload_n 1, 1) := by decide +kernel
theorem dX8_isNumber_1 : decode cX8_isNumber 1 = .ok (.i2l, 1) := by decide +kernel
theorem dX8_isNumber_2 : decode cX8_isNumber 2 = .ok (.lconst 0, 1) := by decide +kernel
theorem dX8_isNumber_3 : decode cX8_isNumber 3 = .ok (.aload_n 0, 1) := by decide +kernel
theorem dX8_isNumber_4 : decode cX8_isNumber 4 = .ok (.getfield 127, 3) := by decide +kernel
theorem dX8_isNumber_7 : decode cX8_isNumber 7 = .ok (.i2l, 1) := by decide +kernel
theorem dX8_isNumber_8 : decode cX8_isNumber 8 = .ok (.lconst 1, 1) := by decide +kernel
theorem dX8_isNumber_9 : decode cX8_isNumber 9 = .ok (.lsub, 1) := by decide +kernel
theorem dX8_isNumber_10 : decode cX8_isNumber 10 = .ok (.invokestatic 80, 3) := by decide +kernel
theorem dX8_isNumber_13 : decode cX8_isNumber 13 = .ok (.ireturn, 1) := by decide +kernel
theorem dX8_write_0 : decode cX8_write 0 = .ok (.aload_n 0, 1) := by decide +kernel
theorem dX8_write_1 : decode cX8_write 1 = .ok (.iload_n 1, 1) := by decide +kernel
theorem dX8_write_2 : decode cX8_write 2 = .ok (.invokevirtual 149, 3) := by decide +kernel
theorem dX8_write_5 : decode cX8_write 5 = .ok (.ifCond .eq 5, 3) := by decide +kernel
theorem dX8_write_8 : decode cX8_write 8 = .ok (.iconst (-1), 1) := by decide +kernel
theorem dX8_write_9 : decode cX8_write 9 = .ok (.ireturn, 1) := by decide +kernel
theorem dX8_write_10 : decode cX8_write 10 = .ok (.aload_n 0, 1) := by decide +kernel
theorem dX8_write_11 : decode cX8_write 11 = .ok (.iload_n 2, 1) := by decide +kernel
theorem dX8_write_12 : decode cX8_write 12 = .ok (.invokevirtual 152, 3) := by decide +kernel
theorem dX8_write_15 : decode cX8_write 15 = .ok (.ifCond .ne 6, 3) := by decide +kernel
theorem dX8_write_18 : decode cX8_write 18 = .ok (.bipush (-2), 2) := by decide +kernel
theorem dX8_write_20 : decode cX8_write 20 = .ok (.ireturn, 1) := by decide +kernel
theorem dX8_write_21 : decode cX8_write 21 = .ok (.aload_n 0, 1) := by decide +kernel
theorem dX8_write_22 : decode cX8_write 22 = .ok (.getfield 13, 3) := by decide +kernel
theorem dX8_write_25 : decode cX8_write 25 = .ok (.iload_n 1, 1) := by decide +kernel
theorem dX8_write_26 : decode cX8_write 26 = .ok (.iaload, 1) := by decide +kernel
theorem dX8_write_27 : decode cX8_write 27 = .ok (.istore_n 3, 1) := by decide +kernel
theorem dX8_write_28 : decode cX8_write 28 = .ok (.aload_n 0, 1) := by decide +kernel
theorem dX8_write_29 : decode cX8_write 29 = .ok (.getfield 13, 3) := by decide +kernel
theorem dX8_write_32 : decode cX8_write 32 = .ok (.iload_n 1, 1) := by decide +kernel
theorem dX8_write_33 : decode cX8_write 33 = .ok (.iload_n 2, 1) := by decide +kernel
theorem dX8_write_34 : decode cX8_write 34 = .ok (.iastore, 1) := by decide +kernel
theorem dX8_write_35 : decode cX8_write 35 = .ok (.iload_n 3, 1) := by decide +kernel
theorem dX8_write_36 : decode cX8_write 36 = .ok (.ireturn, 1) := by decide +kernel
theorem dX8_zeros_0 : decode cX8_zeros 0 = .ok (.iconst 0, 1) := by decide +kernel
theorem dX8_zeros_1 : decode cX8_zeros 1 = .ok (.istore_n 1, 1) := by decide +kernel
theorem dX8_zeros_2 : decode cX8_zeros 2 = .ok (.iconst 0, 1) := by decide +kernel
theorem dX8_zeros_3 : decode cX8_zeros 3 = .ok (.istore_n 2, 1) := by decide +kernel
theorem dX8_zeros_4 : decode cX8_zeros 4 = .ok (.iload_n 2, 1) := by decide +kernel
theorem dX8_zeros_5 : decode cX8_zeros 5 = .ok (.aload_n 0, 1) := by decide +kernel
theorem dX8_zeros_6 : decode cX8_zeros 6 = .ok (.getfield 77, 3) := by decide +kernel
theorem dX8_zeros_9 : decode cX8_zeros 9 = .ok (.if_icmp .ge 26, 3) := by decide +kernel
theorem dX8_zeros_12 : decode cX8_zeros 12 = .ok (.iload_n 1, 1) := by decide +kernel
theorem dX8_zeros_13 : decode cX8_zeros 13 = .ok (.aload_n 0, 1) := by decide +kernel
theorem dX8_zeros_14 : decode cX8_zeros 14 = .ok (.getfield 13, 3) := by decide +kernel
theorem dX8_zeros_17 : decode cX8_zeros 17 = .ok (.iload_n 2, 1) := by decide +kernel
theorem dX8_zeros_18 : decode cX8_zeros 18 = .ok (.iaload, 1) := by decide +kernel
theorem dX8_zeros_19 : decode cX8_zeros 19 = .ok (.ifCond .ne 7, 3) := by decide +kernel
theorem dX8_zeros_22 : decode cX8_zeros 22 = .ok (.iconst 1, 1) := by decide +kernel
theorem dX8_zeros_23 : decode cX8_zeros 23 = .ok (.goto 4, 3) := by decide +kernel
theorem dX8_zeros_26 : decode cX8_zeros 26 = .ok (.iconst 0, 1) := by decide +kernel
theorem dX8_zeros_27 : decode cX8_zeros 27 = .ok (.iadd, 1) := by decide +kernel
theorem dX8_zeros_28 : decode cX8_zeros 28 = .ok (.istore_n 1, 1) := by decide +kernel
theorem dX8_zeros_29 : decode cX8_zeros 29 = .ok (.iinc 2 1, 3) := by decide +kernel
theorem dX8_zeros_32 : decode cX8_zeros 32 = .ok (.goto (-28), 3) := by decide +kernel
theorem dX8_zeros_35 : decode cX8_zeros 35 = .ok (.iload_n 1, 1) := by decide +kernel
theorem dX8_zeros_36 : decode cX8_zeros 36 = .ok (.ireturn, 1) := by decide +kernel
theorem dX8_doesSteps_0 : decode cX8_doesSteps 0 = .ok (.aload_n 0, 1) := by decide +kernel
theorem dX8_doesSteps_1 : decode cX8_doesSteps 1 = .ok (.invokevirtual 142, 3) := by decide +kernel
theorem dX8_doesSteps_4 : decode cX8_doesSteps 4 = .ok (.iconst 0, 1) := by decide +kernel
theorem dX8_doesSteps_5 : decode cX8_doesSteps 5 = .ok (.istore_n 2, 1) := by decide +kernel
theorem dX8_doesSteps_6 : decode cX8_doesSteps 6 = .ok (.iload_n 2, 1) := by decide +kernel
theorem dX8_doesSteps_7 : decode cX8_doesSteps 7 = .ok (.iload_n 1, 1) := by decide +kernel
theorem dX8_doesSteps_8 : decode cX8_doesSteps 8 = .ok (.if_icmp .ge 13, 3) := by decide +kernel
theorem dX8_doesSteps_11 : decode cX8_doesSteps 11 = .ok (.aload_n 0, 1) := by decide +kernel
theorem dX8_doesSteps_12 : decode cX8_doesSteps 12 = .ok (.invokevirtual 155, 3) := by decide +kernel
theorem dX8_doesSteps_15 : decode cX8_doesSteps 15 = .ok (.iinc 2 1, 3) := by decide +kernel
theorem dX8_doesSteps_18 : decode cX8_doesSteps 18 = .ok (.goto (-12), 3) := by decide +kernel
theorem dX8_doesSteps_21 : decode cX8_doesSteps 21 = .ok (.iconst 0, 1) := by decide +kernel
theorem dX8_doesSteps_22 : decode cX8_doesSteps 22 = .ok (.istore_n 2, 1) := by decide +kernel
theorem dX8_doesSteps_23 : decode cX8_doesSteps 23 = .ok (.iload_n 2, 1) := by decide +kernel
theorem dX8_doesSteps_24 : decode cX8_doesSteps 24 = .ok (.aload_n 0, 1) := by decide +kernel
theorem dX8_doesSteps_25 : decode cX8_doesSteps 25 = .ok (.getfield 77, 3) := by decide +kernel
theorem dX8_doesSteps_28 : decode cX8_doesSteps 28 = .ok (.if_icmp .ge 21, 3) := by decide +kernel
theorem dX8_doesSteps_31 : decode cX8_doesSteps 31 = .ok (.aload_n 0, 1) := by decide +kernel
theorem dX8_doesSteps_32 : decode cX8_doesSteps 32 = .ok (.getfield 13, 3) := by decide +kernel
theorem dX8_doesSteps_35 : decode cX8_doesSteps 35 = .ok (.iload_n 2, 1) := by decide +kernel
theorem dX8_doesSteps_36 : decode cX8_doesSteps 36 = .ok (.aload_n 0, 1) := by decide +kernel
theorem dX8_doesSteps_37 : decode cX8_doesSteps 37 = .ok (.getfield 22, 3) := by decide +kernel
theorem dX8_doesSteps_40 : decode cX8_doesSteps 40 = .ok (.iload_n 2, 1) := by decide +kernel
theorem dX8_doesSteps_41 : decode cX8_doesSteps 41 = .ok (.iaload, 1) := by decide +kernel
theorem dX8_doesSteps_42 : decode cX8_doesSteps 42 = .ok (.iastore, 1) := by decide +kernel
theorem dX8_doesSteps_43 : decode cX8_doesSteps 43 = .ok (.iinc 2 1, 3) := by decide +kernel
theorem dX8_doesSteps_46 : decode cX8_doesSteps 46 = .ok (.goto (-23), 3) := by decide +kernel
theorem dX8_doesSteps_49 : decode cX8_doesSteps 49 = .ok (.return_, 1) := by decide +kernel
theorem dX8_steps_0 : decode cX8_steps 0 = .ok (.iload_n 1, 1) := by decide +kernel
theorem dX8_steps_1 : decode cX8_steps 1 = .ok (.i2l, 1) := by decide +kernel
theorem dX8_steps_2 : decode cX8_steps 2 = .ok (.lconst 1, 1) := by decide +kernel
theorem dX8_steps_3 : decode cX8_steps 3 = .ok (.ldc2_w 158, 3) := by decide +kernel
theorem dX8_steps_6 : decode cX8_steps 6 = .ok (.invokestatic 80, 3) := by decide +kernel
theorem dX8_steps_9 : decode cX8_steps 9 = .ok (.ifCond .ne 6, 3) := by decide +kernel
theorem dX8_steps_12 : decode cX8_steps 12 = .ok (.bipush (-2), 2) := by decide +kernel
theorem dX8_steps_14 : decode cX8_steps 14 = .ok (.ireturn, 1) := by decide +kernel
theorem dX8_steps_15 : decode cX8_steps 15 = .ok (.aload_n 0, 1) := by decide +kernel
theorem dX8_steps_16 : decode cX8_steps 16 = .ok (.getfield 77, 3) := by decide +kernel
theorem dX8_steps_19 : decode cX8_steps 19 = .ok (.ifCond .ne 6, 3) := by decide +kernel
theorem dX8_steps_22 : decode cX8_steps 22 = .ok (.bipush (-3), 2) := by decide +kernel
theorem dX8_steps_24 : decode cX8_steps 24 = .ok (.ireturn, 1) := by decide +kernel
theorem dX8_steps_25 : decode cX8_steps 25 = .ok (.aload_n 0, 1) := by decide +kernel
theorem dX8_steps_26 : decode cX8_steps 26 = .ok (.iload_n 1, 1) := by decide +kernel
theorem dX8_steps_27 : decode cX8_steps 27 = .ok (.invokevirtual 160, 3) := by decide +kernel
theorem dX8_steps_30 : decode cX8_steps 30 = .ok (.aload_n 0, 1) := by decide +kernel
theorem dX8_steps_31 : decode cX8_steps 31 = .ok (.dup, 1) := by decide +kernel
theorem dX8_steps_32 : decode cX8_steps 32 = .ok (.getfield 130, 3) := by decide +kernel
theorem dX8_steps_35 : decode cX8_steps 35 = .ok (.iload_n 1, 1) := by decide +kernel
theorem dX8_steps_36 : decode cX8_steps 36 = .ok (.iadd, 1) := by decide +kernel
theorem dX8_steps_37 : decode cX8_steps 37 = .ok (.putfield 130, 3) := by decide +kernel
theorem dX8_steps_40 : decode cX8_steps 40 = .ok (.aload_n 0, 1) := by decide +kernel
theorem dX8_steps_41 : decode cX8_steps 41 = .ok (.invokevirtual 164, 3) := by decide +kernel
theorem dX8_steps_44 : decode cX8_steps 44 = .ok (.ireturn, 1) := by decide +kernel
theorem dX8_takesAway_0 : decode cX8_takesAway 0 = .ok (.aload_n 0, 1) := by decide +kernel
theorem dX8_takesAway_1 : decode cX8_takesAway 1 = .ok (.getfield 34, 3) := by decide +kernel
theorem dX8_takesAway_4 : decode cX8_takesAway 4 = .ok (.aload_n 0, 1) := by decide +kernel
theorem dX8_takesAway_5 : decode cX8_takesAway 5 = .ok (.getfield 167, 3) := by decide +kernel
theorem dX8_takesAway_8 : decode cX8_takesAway 8 = .ok (.iload_n 1, 1) := by decide +kernel
theorem dX8_takesAway_9 : decode cX8_takesAway 9 = .ok (.iastore, 1) := by decide +kernel
theorem dX8_takesAway_10 : decode cX8_takesAway 10 = .ok (.aload_n 0, 1) := by decide +kernel
theorem dX8_takesAway_11 : decode cX8_takesAway 11 = .ok (.dup, 1) := by decide +kernel
theorem dX8_takesAway_12 : decode cX8_takesAway 12 = .ok (.getfield 167, 3) := by decide +kernel
theorem dX8_takesAway_15 : decode cX8_takesAway 15 = .ok (.iconst 1, 1) := by decide +kernel
theorem dX8_takesAway_16 : decode cX8_takesAway 16 = .ok (.iadd, 1) := by decide +kernel
theorem dX8_takesAway_17 : decode cX8_takesAway 17 = .ok (.putfield 167, 3) := by decide +kernel
theorem dX8_takesAway_20 : decode cX8_takesAway 20 = .ok (.return_, 1) := by decide +kernel
theorem dX8_tables_0 : decode cX8_tables 0 = .ok (.aload_n 0, 1) := by decide +kernel
theorem dX8_tables_1 : decode cX8_tables 1 = .ok (.invokevirtual 170, 3) := by decide +kernel
theorem dX8_tables_4 : decode cX8_tables 4 = .ok (.istore_n 1, 1) := by decide +kernel
theorem dX8_tables_5 : decode cX8_tables 5 = .ok (.iconst 0, 1) := by decide +kernel
theorem dX8_tables_6 : decode cX8_tables 6 = .ok (.istore_n 2, 1) := by decide +kernel
theorem dX8_tables_7 : decode cX8_tables 7 = .ok (.iload_n 2, 1) := by decide +kernel
theorem dX8_tables_8 : decode cX8_tables 8 = .ok (.iload_n 1, 1) := by decide +kernel
theorem dX8_tables_9 : decode cX8_tables 9 = .ok (.if_icmp .ge 38, 3) := by decide +kernel
theorem dX8_tables_12 : decode cX8_tables 12 = .ok (.aload_n 0, 1) := by decide +kernel
theorem dX8_tables_13 : decode cX8_tables 13 = .ok (.getfield 31, 3) := by decide +kernel
theorem dX8_tables_16 : decode cX8_tables 16 = .ok (.iload_n 2, 1) := by decide +kernel
theorem dX8_tables_17 : decode cX8_tables 17 = .ok (.iconst 0, 1) := by decide +kernel
theorem dX8_tables_18 : decode cX8_tables 18 = .ok (.iastore, 1) := by decide +kernel
theorem dX8_tables_19 : decode cX8_tables 19 = .ok (.aload_n 0, 1) := by decide +kernel
theorem dX8_tables_20 : decode cX8_tables 20 = .ok (.getfield 37, 3) := by decide +kernel
theorem dX8_tables_23 : decode cX8_tables 23 = .ok (.iload_n 2, 1) := by decide +kernel
theorem dX8_tables_24 : decode cX8_tables 24 = .ok (.iconst 0, 1) := by decide +kernel
theorem dX8_tables_25 : decode cX8_tables 25 = .ok (.iastore, 1) := by decide +kernel
theorem dX8_tables_26 : decode cX8_tables 26 = .ok (.aload_n 0, 1) := by decide +kernel
theorem dX8_tables_27 : decode cX8_tables 27 = .ok (.getfield 40, 3) := by decide +kernel
theorem dX8_tables_30 : decode cX8_tables 30 = .ok (.iload_n 2, 1) := by decide +kernel
theorem dX8_tables_31 : decode cX8_tables 31 = .ok (.iload_n 2, 1) := by decide +kernel
theorem dX8_tables_32 : decode cX8_tables 32 = .ok (.ifCond .ne 7, 3) := by decide +kernel
theorem dX8_tables_35 : decode cX8_tables 35 = .ok (.iconst 1, 1) := by decide +kernel
theorem dX8_tables_36 : decode cX8_tables 36 = .ok (.goto 4, 3) := by decide +kernel
theorem dX8_tables_39 : decode cX8_tables 39 = .ok (.iconst 0, 1) := by decide +kernel
theorem dX8_tables_40 : decode cX8_tables 40 = .ok (.iastore, 1) := by decide +kernel
theorem dX8_tables_41 : decode cX8_tables 41 = .ok (.iinc 2 1, 3) := by decide +kernel
theorem dX8_tables_44 : decode cX8_tables 44 = .ok (.goto (-37), 3) := by decide +kernel
theorem dX8_tables_47 : decode cX8_tables 47 = .ok (.iconst 0, 1) := by decide +kernel
theorem dX8_tables_48 : decode cX8_tables 48 = .ok (.istore_n 2, 1) := by decide +kernel
theorem dX8_tables_49 : decode cX8_tables 49 = .ok (.iload_n 2, 1) := by decide +kernel
theorem dX8_tables_50 : decode cX8_tables 50 = .ok (.iload_n 1, 1) := by decide +kernel
theorem dX8_tables_51 : decode cX8_tables 51 = .ok (.if_icmp .ge 43, 3) := by decide +kernel
theorem dX8_tables_54 : decode cX8_tables 54 = .ok (.aload_n 0, 1) := by decide +kernel
theorem dX8_tables_55 : decode cX8_tables 55 = .ok (.iload_n 2, 1) := by decide +kernel
theorem dX8_tables_56 : decode cX8_tables 56 = .ok (.invokevirtual 173, 3) := by decide +kernel
theorem dX8_tables_59 : decode cX8_tables 59 = .ok (.aload_n 0, 1) := by decide +kernel
theorem dX8_tables_60 : decode cX8_tables 60 = .ok (.invokevirtual 155, 3) := by decide +kernel
theorem dX8_tables_63 : decode cX8_tables 63 = .ok (.aload_n 0, 1) := by decide +kernel
theorem dX8_tables_64 : decode cX8_tables 64 = .ok (.getfield 28, 3) := by decide +kernel
theorem dX8_tables_67 : decode cX8_tables 67 = .ok (.iload_n 2, 1) := by decide +kernel
theorem dX8_tables_68 : decode cX8_tables 68 = .ok (.aload_n 0, 1) := by decide +kernel
theorem dX8_tables_69 : decode cX8_tables 69 = .ok (.invokevirtual 145, 3) := by decide +kernel
theorem dX8_tables_72 : decode cX8_tables 72 = .ok (.iastore, 1) := by decide +kernel
theorem dX8_tables_73 : decode cX8_tables 73 = .ok (.aload_n 0, 1) := by decide +kernel
theorem dX8_tables_74 : decode cX8_tables 74 = .ok (.getfield 31, 3) := by decide +kernel
theorem dX8_tables_77 : decode cX8_tables 77 = .ok (.aload_n 0, 1) := by decide +kernel
theorem dX8_tables_78 : decode cX8_tables 78 = .ok (.getfield 28, 3) := by decide +kernel
theorem dX8_tables_81 : decode cX8_tables 81 = .ok (.iload_n 2, 1) := by decide +kernel
theorem dX8_tables_82 : decode cX8_tables 82 = .ok (.iaload, 1) := by decide +kernel
theorem dX8_tables_83 : decode cX8_tables 83 = .ok (.dup2, 1) := by decide +kernel
theorem dX8_tables_84 : decode cX8_tables 84 = .ok (.iaload, 1) := by decide +kernel
theorem dX8_tables_85 : decode cX8_tables 85 = .ok (.iconst 1, 1) := by decide +kernel
theorem dX8_tables_86 : decode cX8_tables 86 = .ok (.iadd, 1) := by decide +kernel
theorem dX8_tables_87 : decode cX8_tables 87 = .ok (.iastore, 1) := by decide +kernel
theorem dX8_tables_88 : decode cX8_tables 88 = .ok (.iinc 2 1, 3) := by decide +kernel
theorem dX8_tables_91 : decode cX8_tables 91 = .ok (.goto (-42), 3) := by decide +kernel
theorem dX8_tables_94 : decode cX8_tables 94 = .ok (.aload_n 0, 1) := by decide +kernel
theorem dX8_tables_95 : decode cX8_tables 95 = .ok (.iconst 0, 1) := by decide +kernel
theorem dX8_tables_96 : decode cX8_tables 96 = .ok (.putfield 167, 3) := by decide +kernel
theorem dX8_tables_99 : decode cX8_tables 99 = .ok (.iconst 0, 1) := by decide +kernel
theorem dX8_tables_100 : decode cX8_tables 100 = .ok (.istore_n 2, 1) := by decide +kernel
theorem dX8_tables_101 : decode cX8_tables 101 = .ok (.iload_n 2, 1) := by decide +kernel
theorem dX8_tables_102 : decode cX8_tables 102 = .ok (.iload_n 1, 1) := by decide +kernel
theorem dX8_tables_103 : decode cX8_tables 103 = .ok (.if_icmp .ge 23, 3) := by decide +kernel
theorem dX8_tables_106 : decode cX8_tables 106 = .ok (.aload_n 0, 1) := by decide +kernel
theorem dX8_tables_107 : decode cX8_tables 107 = .ok (.getfield 31, 3) := by decide +kernel
theorem dX8_tables_110 : decode cX8_tables 110 = .ok (.iload_n 2, 1) := by decide +kernel
theorem dX8_tables_111 : decode cX8_tables 111 = .ok (.iaload, 1) := by decide +kernel
theorem dX8_tables_112 : decode cX8_tables 112 = .ok (.ifCond .ne 8, 3) := by decide +kernel
theorem dX8_tables_115 : decode cX8_tables 115 = .ok (.aload_n 0, 1) := by decide +kernel
theorem dX8_tables_116 : decode cX8_tables 116 = .ok (.iload_n 2, 1) := by decide +kernel
theorem dX8_tables_117 : decode cX8_tables 117 = .ok (.invokevirtual 176, 3) := by decide +kernel
theorem dX8_tables_120 : decode cX8_tables 120 = .ok (.iinc 2 1, 3) := by decide +kernel
theorem dX8_tables_123 : decode cX8_tables 123 = .ok (.goto (-22), 3) := by decide +kernel
theorem dX8_tables_126 : decode cX8_tables 126 = .ok (.aload_n 0, 1) := by decide +kernel
theorem dX8_tables_127 : decode cX8_tables 127 = .ok (.aload_n 0, 1) := by decide +kernel
theorem dX8_tables_128 : decode cX8_tables 128 = .ok (.getfield 167, 3) := by decide +kernel
theorem dX8_tables_131 : decode cX8_tables 131 = .ok (.putfield 179, 3) := by decide +kernel
theorem dX8_tables_134 : decode cX8_tables 134 = .ok (.iconst 0, 1) := by decide +kernel
theorem dX8_tables_135 : decode cX8_tables 135 = .ok (.istore_n 2, 1) := by decide +kernel
theorem dX8_tables_136 : decode cX8_tables 136 = .ok (.iload_n 2, 1) := by decide +kernel
theorem dX8_tables_137 : decode cX8_tables 137 = .ok (.aload_n 0, 1) := by decide +kernel
theorem dX8_tables_138 : decode cX8_tables 138 = .ok (.getfield 167, 3) := by decide +kernel
theorem dX8_tables_141 : decode cX8_tables 141 = .ok (.if_icmp .ge 45, 3) := by decide +kernel
theorem dX8_tables_144 : decode cX8_tables 144 = .ok (.aload_n 0, 1) := by decide +kernel
theorem dX8_tables_145 : decode cX8_tables 145 = .ok (.getfield 28, 3) := by decide +kernel
theorem dX8_tables_148 : decode cX8_tables 148 = .ok (.aload_n 0, 1) := by decide +kernel
theorem dX8_tables_149 : decode cX8_tables 149 = .ok (.getfield 34, 3) := by decide +kernel
theorem dX8_tables_152 : decode cX8_tables 152 = .ok (.iload_n 2, 1) := by decide +kernel
theorem dX8_tables_153 : decode cX8_tables 153 = .ok (.iaload, 1) := by decide +kernel
theorem dX8_tables_154 : decode cX8_tables 154 = .ok (.iaload, 1) := by decide +kernel
theorem dX8_tables_155 : decode cX8_tables 155 = .ok (.istore_n 3, 1) := by decide +kernel
theorem dX8_tables_156 : decode cX8_tables 156 = .ok (.aload_n 0, 1) := by decide +kernel
theorem dX8_tables_157 : decode cX8_tables 157 = .ok (.getfield 31, 3) := by decide +kernel
theorem dX8_tables_160 : decode cX8_tables 160 = .ok (.iload_n 3, 1) := by decide +kernel
theorem dX8_tables_161 : decode cX8_tables 161 = .ok (.dup2, 1) := by decide +kernel
theorem dX8_tables_162 : decode cX8_tables 162 = .ok (.iaload, 1) := by decide +kernel
theorem dX8_tables_163 : decode cX8_tables 163 = .ok (.iconst 1, 1) := by decide +kernel
theorem dX8_tables_164 : decode cX8_tables 164 = .ok (.isub, 1) := by decide +kernel
theorem dX8_tables_165 : decode cX8_tables 165 = .ok (.iastore, 1) := by decide +kernel
theorem dX8_tables_166 : decode cX8_tables 166 = .ok (.aload_n 0, 1) := by decide +kernel
theorem dX8_tables_167 : decode cX8_tables 167 = .ok (.getfield 31, 3) := by decide +kernel
theorem dX8_tables_170 : decode cX8_tables 170 = .ok (.iload_n 3, 1) := by decide +kernel
theorem dX8_tables_171 : decode cX8_tables 171 = .ok (.iaload, 1) := by decide +kernel
theorem dX8_tables_172 : decode cX8_tables 172 = .ok (.ifCond .ne 8, 3) := by decide +kernel
theorem dX8_tables_175 : decode cX8_tables 175 = .ok (.aload_n 0, 1) := by decide +kernel
theorem dX8_tables_176 : decode cX8_tables 176 = .ok (.iload_n 3, 1) := by decide +kernel
theorem dX8_tables_177 : decode cX8_tables 177 = .ok (.invokevirtual 176, 3) := by decide +kernel
theorem dX8_tables_180 : decode cX8_tables 180 = .ok (.iinc 2 1, 3) := by decide +kernel
theorem dX8_tables_183 : decode cX8_tables 183 = .ok (.goto (-47), 3) := by decide +kernel
theorem dX8_tables_186 : decode cX8_tables 186 = .ok (.aload_n 0, 1) := by decide +kernel
theorem dX8_tables_187 : decode cX8_tables 187 = .ok (.getfield 167, 3) := by decide +kernel
theorem dX8_tables_190 : decode cX8_tables 190 = .ok (.iconst 1, 1) := by decide +kernel
theorem dX8_tables_191 : decode cX8_tables 191 = .ok (.isub, 1) := by decide +kernel
theorem dX8_tables_192 : decode cX8_tables 192 = .ok (.istore_n 2, 1) := by decide +kernel
theorem dX8_tables_193 : decode cX8_tables 193 = .ok (.iload_n 2, 1) := by decide +kernel
theorem dX8_tables_194 : decode cX8_tables 194 = .ok (.ifCond .lt 65, 3) := by decide +kernel
theorem dX8_tables_197 : decode cX8_tables 197 = .ok (.aload_n 0, 1) := by decide +kernel
theorem dX8_tables_198 : decode cX8_tables 198 = .ok (.getfield 37, 3) := by decide +kernel
theorem dX8_tables_201 : decode cX8_tables 201 = .ok (.aload_n 0, 1) := by decide +kernel
theorem dX8_tables_202 : decode cX8_tables 202 = .ok (.getfield 34, 3) := by decide +kernel
theorem dX8_tables_205 : decode cX8_tables 205 = .ok (.iload_n 2, 1) := by decide +kernel
theorem dX8_tables_206 : decode cX8_tables 206 = .ok (.iaload, 1) := by decide +kernel
theorem dX8_tables_207 : decode cX8_tables 207 = .ok (.aload_n 0, 1) := by decide +kernel
theorem dX8_tables_208 : decode cX8_tables 208 = .ok (.getfield 37, 3) := by decide +kernel
theorem dX8_tables_211 : decode cX8_tables 211 = .ok (.aload_n 0, 1) := by decide +kernel
theorem dX8_tables_212 : decode cX8_tables 212 = .ok (.getfield 28, 3) := by decide +kernel
theorem dX8_tables_215 : decode cX8_tables 215 = .ok (.aload_n 0, 1) := by decide +kernel
theorem dX8_tables_216 : decode cX8_tables 216 = .ok (.getfield 34, 3) := by decide +kernel
theorem dX8_tables_219 : decode cX8_tables 219 = .ok (.iload_n 2, 1) := by decide +kernel
theorem dX8_tables_220 : decode cX8_tables 220 = .ok (.iaload, 1) := by decide +kernel
theorem dX8_tables_221 : decode cX8_tables 221 = .ok (.iaload, 1) := by decide +kernel
theorem dX8_tables_222 : decode cX8_tables 222 = .ok (.iaload, 1) := by decide +kernel
theorem dX8_tables_223 : decode cX8_tables 223 = .ok (.iconst 1, 1) := by decide +kernel
theorem dX8_tables_224 : decode cX8_tables 224 = .ok (.iadd, 1) := by decide +kernel
theorem dX8_tables_225 : decode cX8_tables 225 = .ok (.iastore, 1) := by decide +kernel
theorem dX8_tables_226 : decode cX8_tables 226 = .ok (.aload_n 0, 1) := by decide +kernel
theorem dX8_tables_227 : decode cX8_tables 227 = .ok (.getfield 40, 3) := by decide +kernel
theorem dX8_tables_230 : decode cX8_tables 230 = .ok (.aload_n 0, 1) := by decide +kernel
theorem dX8_tables_231 : decode cX8_tables 231 = .ok (.getfield 34, 3) := by decide +kernel
theorem dX8_tables_234 : decode cX8_tables 234 = .ok (.iload_n 2, 1) := by decide +kernel
theorem dX8_tables_235 : decode cX8_tables 235 = .ok (.iaload, 1) := by decide +kernel
theorem dX8_tables_236 : decode cX8_tables 236 = .ok (.aload_n 0, 1) := by decide +kernel
theorem dX8_tables_237 : decode cX8_tables 237 = .ok (.getfield 40, 3) := by decide +kernel
theorem dX8_tables_240 : decode cX8_tables 240 = .ok (.aload_n 0, 1) := by decide +kernel
theorem dX8_tables_241 : decode cX8_tables 241 = .ok (.getfield 28, 3) := by decide +kernel
theorem dX8_tables_244 : decode cX8_tables 244 = .ok (.aload_n 0, 1) := by decide +kernel
theorem dX8_tables_245 : decode cX8_tables 245 = .ok (.getfield 34, 3) := by decide +kernel
theorem dX8_tables_248 : decode cX8_tables 248 = .ok (.iload_n 2, 1) := by decide +kernel
theorem dX8_tables_249 : decode cX8_tables 249 = .ok (.iaload, 1) := by decide +kernel
theorem dX8_tables_250 : decode cX8_tables 250 = .ok (.iaload, 1) := by decide +kernel
theorem dX8_tables_251 : decode cX8_tables 251 = .ok (.iaload, 1) := by decide +kernel
theorem dX8_tables_252 : decode cX8_tables 252 = .ok (.iastore, 1) := by decide +kernel
theorem dX8_tables_253 : decode cX8_tables 253 = .ok (.iinc 2 (-1), 3) := by decide +kernel
theorem dX8_tables_256 : decode cX8_tables 256 = .ok (.goto (-63), 3) := by decide +kernel
theorem dX8_tables_259 : decode cX8_tables 259 = .ok (.return_, 1) := by decide +kernel
theorem dX8_roundFrom_0 : decode cX8_roundFrom 0 = .ok (.iconst 1, 1) := by decide +kernel
theorem dX8_roundFrom_1 : decode cX8_roundFrom 1 = .ok (.istore_n 2, 1) := by decide +kernel
theorem dX8_roundFrom_2 : decode cX8_roundFrom 2 = .ok (.aload_n 0, 1) := by decide +kernel
theorem dX8_roundFrom_3 : decode cX8_roundFrom 3 = .ok (.getfield 28, 3) := by decide +kernel
theorem dX8_roundFrom_6 : decode cX8_roundFrom 6 = .ok (.iload_n 1, 1) := by decide +kernel
theorem dX8_roundFrom_7 : decode cX8_roundFrom 7 = .ok (.iaload, 1) := by decide +kernel
theorem dX8_roundFrom_8 : decode cX8_roundFrom 8 = .ok (.istore_n 3, 1) := by decide +kernel
theorem dX8_roundFrom_9 : decode cX8_roundFrom 9 = .ok (.iload_n 3, 1) := by decide +kernel
theorem dX8_roundFrom_10 : decode cX8_roundFrom 10 = .ok (.iload_n 1, 1) := by decide +kernel
theorem dX8_roundFrom_11 : decode cX8_roundFrom 11 = .ok (.if_icmp .eq 16, 3) := by decide +kernel
theorem dX8_roundFrom_14 : decode cX8_roundFrom 14 = .ok (.iinc 2 1, 3) := by decide +kernel
theorem dX8_roundFrom_17 : decode cX8_roundFrom 17 = .ok (.aload_n 0, 1) := by decide +kernel
theorem dX8_roundFrom_18 : decode cX8_roundFrom 18 = .ok (.getfield 28, 3) := by decide +kernel
theorem dX8_roundFrom_21 : decode cX8_roundFrom 21 = .ok (.iload_n 3, 1) := by decide +kernel
theorem dX8_roundFrom_22 : decode cX8_roundFrom 22 = .ok (.iaload, 1) := by decide +kernel
theorem dX8_roundFrom_23 : decode cX8_roundFrom 23 = .ok (.istore_n 3, 1) := by decide +kernel
theorem dX8_roundFrom_24 : decode cX8_roundFrom 24 = .ok (.goto (-15), 3) := by decide +kernel
theorem dX8_roundFrom_27 : decode cX8_roundFrom 27 = .ok (.iload_n 2, 1) := by decide +kernel
theorem dX8_roundFrom_28 : decode cX8_roundFrom 28 = .ok (.ireturn, 1) := by decide +kernel
theorem dX8_behind_0 : decode cX8_behind 0 = .ok (.iload_n 1, 1) := by decide +kernel
theorem dX8_behind_1 : decode cX8_behind 1 = .ok (.istore 4, 2) := by decide +kernel
theorem dX8_behind_3 : decode cX8_behind 3 = .ok (.lconst 0, 1) := by decide +kernel
theorem dX8_behind_4 : decode cX8_behind 4 = .ok (.lstore 5, 2) := by decide +kernel
theorem dX8_behind_6 : decode cX8_behind 6 = .ok (.lload 5, 2) := by decide +kernel
theorem dX8_behind_8 : decode cX8_behind 8 = .ok (.lload_n 2, 1) := by decide +kernel
theorem dX8_behind_9 : decode cX8_behind 9 = .ok (.lcmp, 1) := by decide +kernel
theorem dX8_behind_10 : decode cX8_behind 10 = .ok (.ifCond .ge 21, 3) := by decide +kernel
theorem dX8_behind_13 : decode cX8_behind 13 = .ok (.aload_n 0, 1) := by decide +kernel
theorem dX8_behind_14 : decode cX8_behind 14 = .ok (.getfield 28, 3) := by decide +kernel
theorem dX8_behind_17 : decode cX8_behind 17 = .ok (.iload 4, 2) := by decide +kernel
theorem dX8_behind_19 : decode cX8_behind 19 = .ok (.iaload, 1) := by decide +kernel
theorem dX8_behind_20 : decode cX8_behind 20 = .ok (.istore 4, 2) := by decide +kernel
theorem dX8_behind_22 : decode cX8_behind 22 = .ok (.lload 5, 2) := by decide +kernel
theorem dX8_behind_24 : decode cX8_behind 24 = .ok (.lconst 1, 1) := by decide +kernel
theorem dX8_behind_25 : decode cX8_behind 25 = .ok (.ladd, 1) := by decide +kernel
theorem dX8_behind_26 : decode cX8_behind 26 = .ok (.lstore 5, 2) := by decide +kernel
theorem dX8_behind_28 : decode cX8_behind 28 = .ok (.goto (-22), 3) := by decide +kernel
theorem dX8_behind_31 : decode cX8_behind 31 = .ok (.iload 4, 2) := by decide +kernel
theorem dX8_behind_33 : decode cX8_behind 33 = .ok (.ireturn, 1) := by decide +kernel
theorem dX8_roundOf_0 : decode cX8_roundOf 0 = .ok (.aload_n 0, 1) := by decide +kernel
theorem dX8_roundOf_1 : decode cX8_roundOf 1 = .ok (.aload_n 0, 1) := by decide +kernel
theorem dX8_roundOf_2 : decode cX8_roundOf 2 = .ok (.iload_n 1, 1) := by decide +kernel
theorem dX8_roundOf_3 : decode cX8_roundOf 3 = .ok (.aload_n 0, 1) := by decide +kernel
theorem dX8_roundOf_4 : decode cX8_roundOf 4 = .ok (.getfield 37, 3) := by decide +kernel
theorem dX8_roundOf_7 : decode cX8_roundOf 7 = .ok (.iload_n 1, 1) := by decide +kernel
theorem dX8_roundOf_8 : decode cX8_roundOf 8 = .ok (.iaload, 1) := by decide +kernel
theorem dX8_roundOf_9 : decode cX8_roundOf 9 = .ok (.i2l, 1) := by decide +kernel
theorem dX8_roundOf_10 : decode cX8_roundOf 10 = .ok (.invokevirtual 182, 3) := by decide +kernel
theorem dX8_roundOf_13 : decode cX8_roundOf 13 = .ok (.invokevirtual 186, 3) := by decide +kernel
theorem dX8_roundOf_16 : decode cX8_roundOf 16 = .ok (.ireturn, 1) := by decide +kernel
theorem dX8_after_0 : decode cX8_after 0 = .ok (.aload_n 0, 1) := by decide +kernel
theorem dX8_after_1 : decode cX8_after 1 = .ok (.iload_n 1, 1) := by decide +kernel
theorem dX8_after_2 : decode cX8_after 2 = .ok (.invokevirtual 149, 3) := by decide +kernel
theorem dX8_after_5 : decode cX8_after 5 = .ok (.ifCond .eq 5, 3) := by decide +kernel
theorem dX8_after_8 : decode cX8_after 8 = .ok (.iconst (-1), 1) := by decide +kernel
theorem dX8_after_9 : decode cX8_after 9 = .ok (.ireturn, 1) := by decide +kernel
theorem dX8_after_10 : decode cX8_after 10 = .ok (.lload_n 2, 1) := by decide +kernel
theorem dX8_after_11 : decode cX8_after 11 = .ok (.lconst 0, 1) := by decide +kernel
theorem dX8_after_12 : decode cX8_after 12 = .ok (.ldc2_w 189, 3) := by decide +kernel
theorem dX8_after_15 : decode cX8_after 15 = .ok (.invokestatic 80, 3) := by decide +kernel
theorem dX8_after_18 : decode cX8_after 18 = .ok (.ifCond .ne 6, 3) := by decide +kernel
theorem dX8_after_21 : decode cX8_after 21 = .ok (.bipush (-2), 2) := by decide +kernel
theorem dX8_after_23 : decode cX8_after 23 = .ok (.ireturn, 1) := by decide +kernel
theorem dX8_after_24 : decode cX8_after 24 = .ok (.aload_n 0, 1) := by decide +kernel
theorem dX8_after_25 : decode cX8_after 25 = .ok (.invokevirtual 191, 3) := by decide +kernel
theorem dX8_after_28 : decode cX8_after 28 = .ok (.istore 4, 2) := by decide +kernel
theorem dX8_after_30 : decode cX8_after 30 = .ok (.aload_n 0, 1) := by decide +kernel
theorem dX8_after_31 : decode cX8_after 31 = .ok (.invokevirtual 194, 3) := by decide +kernel
theorem dX8_after_34 : decode cX8_after 34 = .ok (.aload_n 0, 1) := by decide +kernel
theorem dX8_after_35 : decode cX8_after 35 = .ok (.getfield 37, 3) := by decide +kernel
theorem dX8_after_38 : decode cX8_after 38 = .ok (.iload 4, 2) := by decide +kernel
theorem dX8_after_40 : decode cX8_after 40 = .ok (.iaload, 1) := by decide +kernel
theorem dX8_after_41 : decode cX8_after 41 = .ok (.i2l, 1) := by decide +kernel
theorem dX8_after_42 : decode cX8_after 42 = .ok (.lstore 5, 2) := by decide +kernel
theorem dX8_after_44 : decode cX8_after 44 = .ok (.aload_n 0, 1) := by decide +kernel
theorem dX8_after_45 : decode cX8_after 45 = .ok (.aload_n 0, 1) := by decide +kernel
theorem dX8_after_46 : decode cX8_after 46 = .ok (.iload 4, 2) := by decide +kernel
theorem dX8_after_48 : decode cX8_after 48 = .ok (.lload_n 2, 1) := by decide +kernel
theorem dX8_after_49 : decode cX8_after 49 = .ok (.lload 5, 2) := by decide +kernel
theorem dX8_after_51 : decode cX8_after 51 = .ok (.lcmp, 1) := by decide +kernel
theorem dX8_after_52 : decode cX8_after 52 = .ok (.ifCond .gt 7, 3) := by decide +kernel
theorem dX8_after_55 : decode cX8_after 55 = .ok (.lload_n 2, 1) := by decide +kernel
theorem dX8_after_56 : decode cX8_after 56 = .ok (.goto 18, 3) := by decide +kernel
theorem dX8_after_59 : decode cX8_after 59 = .ok (.lload 5, 2) := by decide +kernel
theorem dX8_after_61 : decode cX8_after 61 = .ok (.lload_n 2, 1) := by decide +kernel
theorem dX8_after_62 : decode cX8_after 62 = .ok (.lload 5, 2) := by decide +kernel
theorem dX8_after_64 : decode cX8_after 64 = .ok (.lsub, 1) := by decide +kernel
theorem dX8_after_65 : decode cX8_after 65 = .ok (.aload_n 0, 1) := by decide +kernel
theorem dX8_after_66 : decode cX8_after 66 = .ok (.iload 4, 2) := by decide +kernel
theorem dX8_after_68 : decode cX8_after 68 = .ok (.invokevirtual 197, 3) := by decide +kernel
theorem dX8_after_71 : decode cX8_after 71 = .ok (.i2l, 1) := by decide +kernel
theorem dX8_after_72 : decode cX8_after 72 = .ok (.lrem, 1) := by decide +kernel
theorem dX8_after_73 : decode cX8_after 73 = .ok (.ladd, 1) := by decide +kernel
theorem dX8_after_74 : decode cX8_after 74 = .ok (.invokevirtual 182, 3) := by decide +kernel
theorem dX8_after_77 : decode cX8_after 77 = .ok (.invokevirtual 173, 3) := by decide +kernel
theorem dX8_after_80 : decode cX8_after 80 = .ok (.aload_n 0, 1) := by decide +kernel
theorem dX8_after_81 : decode cX8_after 81 = .ok (.getfield 22, 3) := by decide +kernel
theorem dX8_after_84 : decode cX8_after 84 = .ok (.iload_n 1, 1) := by decide +kernel
theorem dX8_after_85 : decode cX8_after 85 = .ok (.iaload, 1) := by decide +kernel
theorem dX8_after_86 : decode cX8_after 86 = .ok (.ireturn, 1) := by decide +kernel
theorem dX8_sumNow_0 : decode cX8_sumNow 0 = .ok (.iconst 0, 1) := by decide +kernel
theorem dX8_sumNow_1 : decode cX8_sumNow 1 = .ok (.istore_n 1, 1) := by decide +kernel
theorem dX8_sumNow_2 : decode cX8_sumNow 2 = .ok (.iconst 0, 1) := by decide +kernel
theorem dX8_sumNow_3 : decode cX8_sumNow 3 = .ok (.istore_n 2, 1) := by decide +kernel
theorem dX8_sumNow_4 : decode cX8_sumNow 4 = .ok (.iload_n 2, 1) := by decide +kernel
theorem dX8_sumNow_5 : decode cX8_sumNow 5 = .ok (.aload_n 0, 1) := by decide +kernel
theorem dX8_sumNow_6 : decode cX8_sumNow 6 = .ok (.getfield 77, 3) := by decide +kernel
theorem dX8_sumNow_9 : decode cX8_sumNow 9 = .ok (.if_icmp .ge 18, 3) := by decide +kernel
theorem dX8_sumNow_12 : decode cX8_sumNow 12 = .ok (.iload_n 1, 1) := by decide +kernel
theorem dX8_sumNow_13 : decode cX8_sumNow 13 = .ok (.aload_n 0, 1) := by decide +kernel
theorem dX8_sumNow_14 : decode cX8_sumNow 14 = .ok (.getfield 13, 3) := by decide +kernel
theorem dX8_sumNow_17 : decode cX8_sumNow 17 = .ok (.iload_n 2, 1) := by decide +kernel
theorem dX8_sumNow_18 : decode cX8_sumNow 18 = .ok (.iaload, 1) := by decide +kernel
theorem dX8_sumNow_19 : decode cX8_sumNow 19 = .ok (.iadd, 1) := by decide +kernel
theorem dX8_sumNow_20 : decode cX8_sumNow 20 = .ok (.istore_n 1, 1) := by decide +kernel
theorem dX8_sumNow_21 : decode cX8_sumNow 21 = .ok (.iinc 2 1, 3) := by decide +kernel
theorem dX8_sumNow_24 : decode cX8_sumNow 24 = .ok (.goto (-20), 3) := by decide +kernel
theorem dX8_sumNow_27 : decode cX8_sumNow 27 = .ok (.iload_n 1, 1) := by decide +kernel
theorem dX8_sumNow_28 : decode cX8_sumNow 28 = .ok (.ireturn, 1) := by decide +kernel
theorem dX8_doesPair_0 : decode cX8_doesPair 0 = .ok (.iload_n 2, 1) := by decide +kernel
theorem dX8_doesPair_1 : decode cX8_doesPair 1 = .ok (.bipush 9, 2) := by decide +kernel
theorem dX8_doesPair_3 : decode cX8_doesPair 3 = .ok (.if_icmp .ne 20, 3) := by decide +kernel
theorem dX8_doesPair_6 : decode cX8_doesPair 6 = .ok (.aload_n 0, 1) := by decide +kernel
theorem dX8_doesPair_7 : decode cX8_doesPair 7 = .ok (.iload_n 1, 1) := by decide +kernel
theorem dX8_doesPair_8 : decode cX8_doesPair 8 = .ok (.invokevirtual 160, 3) := by decide +kernel
theorem dX8_doesPair_11 : decode cX8_doesPair 11 = .ok (.aload_n 0, 1) := by decide +kernel
theorem dX8_doesPair_12 : decode cX8_doesPair 12 = .ok (.dup, 1) := by decide +kernel
theorem dX8_doesPair_13 : decode cX8_doesPair 13 = .ok (.getfield 200, 3) := by decide +kernel
theorem dX8_doesPair_16 : decode cX8_doesPair 16 = .ok (.iload_n 1, 1) := by decide +kernel
theorem dX8_doesPair_17 : decode cX8_doesPair 17 = .ok (.iadd, 1) := by decide +kernel
theorem dX8_doesPair_18 : decode cX8_doesPair 18 = .ok (.putfield 200, 3) := by decide +kernel
theorem dX8_doesPair_21 : decode cX8_doesPair 21 = .ok (.iconst 1, 1) := by decide +kernel
theorem dX8_doesPair_22 : decode cX8_doesPair 22 = .ok (.ireturn, 1) := by decide +kernel
theorem dX8_doesPair_23 : decode cX8_doesPair 23 = .ok (.aload_n 0, 1) := by decide +kernel
theorem dX8_doesPair_24 : decode cX8_doesPair 24 = .ok (.iload_n 2, 1) := by decide +kernel
theorem dX8_doesPair_25 : decode cX8_doesPair 25 = .ok (.iload_n 1, 1) := by decide +kernel
theorem dX8_doesPair_26 : decode cX8_doesPair 26 = .ok (.invokevirtual 203, 3) := by decide +kernel
theorem dX8_doesPair_29 : decode cX8_doesPair 29 = .ok (.ifCond .lt 7, 3) := by decide +kernel
theorem dX8_doesPair_32 : decode cX8_doesPair 32 = .ok (.iconst 1, 1) := by decide +kernel
theorem dX8_doesPair_33 : decode cX8_doesPair 33 = .ok (.goto 4, 3) := by decide +kernel
theorem dX8_doesPair_36 : decode cX8_doesPair 36 = .ok (.iconst 0, 1) := by decide +kernel
theorem dX8_doesPair_37 : decode cX8_doesPair 37 = .ok (.ireturn, 1) := by decide +kernel
theorem dX8_tailNow_0 : decode cX8_tailNow 0 = .ok (.aload_n 0, 1) := by decide +kernel
theorem dX8_tailNow_1 : decode cX8_tailNow 1 = .ok (.invokevirtual 191, 3) := by decide +kernel
theorem dX8_tailNow_4 : decode cX8_tailNow 4 = .ok (.istore_n 1, 1) := by decide +kernel
theorem dX8_tailNow_5 : decode cX8_tailNow 5 = .ok (.aload_n 0, 1) := by decide +kernel
theorem dX8_tailNow_6 : decode cX8_tailNow 6 = .ok (.invokevirtual 194, 3) := by decide +kernel
theorem dX8_tailNow_9 : decode cX8_tailNow 9 = .ok (.aload_n 0, 1) := by decide +kernel
theorem dX8_tailNow_10 : decode cX8_tailNow 10 = .ok (.getfield 37, 3) := by decide +kernel
theorem dX8_tailNow_13 : decode cX8_tailNow 13 = .ok (.iload_n 1, 1) := by decide +kernel
theorem dX8_tailNow_14 : decode cX8_tailNow 14 = .ok (.iaload, 1) := by decide +kernel
theorem dX8_tailNow_15 : decode cX8_tailNow 15 = .ok (.ireturn, 1) := by decide +kernel
theorem dX8_dayOf_0 : decode cX8_dayOf 0 = .ok (.bipush (-9), 2) := by decide +kernel
theorem dX8_dayOf_2 : decode cX8_dayOf 2 = .ok (.istore 4, 2) := by decide +kernel
theorem dX8_dayOf_4 : decode cX8_dayOf 4 = .ok (.aload_n 0, 1) := by decide +kernel
theorem dX8_dayOf_5 : decode cX8_dayOf 5 = .ok (.iconst 0, 1) := by decide +kernel
theorem dX8_dayOf_6 : decode cX8_dayOf 6 = .ok (.putfield 206, 3) := by decide +kernel
theorem dX8_dayOf_9 : decode cX8_dayOf 9 = .ok (.aload_n 0, 1) := by decide +kernel
theorem dX8_dayOf_10 : decode cX8_dayOf 10 = .ok (.iconst 0, 1) := by decide +kernel
theorem dX8_dayOf_11 : decode cX8_dayOf 11 = .ok (.putfield 200, 3) := by decide +kernel
theorem dX8_dayOf_14 : decode cX8_dayOf 14 = .ok (.iconst 0, 1) := by decide +kernel
theorem dX8_dayOf_15 : decode cX8_dayOf 15 = .ok (.istore 5, 2) := by decide +kernel
theorem dX8_dayOf_17 : decode cX8_dayOf 17 = .ok (.iload 5, 2) := by decide +kernel
theorem dX8_dayOf_19 : decode cX8_dayOf 19 = .ok (.iload_n 2, 1) := by decide +kernel
theorem dX8_dayOf_20 : decode cX8_dayOf 20 = .ok (.if_icmp .ge 79, 3) := by decide +kernel
theorem dX8_dayOf_23 : decode cX8_dayOf 23 = .ok (.iload 4, 2) := by decide +kernel
theorem dX8_dayOf_25 : decode cX8_dayOf 25 = .ok (.ifCond .ge 74, 3) := by decide +kernel
theorem dX8_dayOf_28 : decode cX8_dayOf 28 = .ok (.aload_n 0, 1) := by decide +kernel
theorem dX8_dayOf_29 : decode cX8_dayOf 29 = .ok (.aload_n 0, 1) := by decide +kernel
theorem dX8_dayOf_30 : decode cX8_dayOf 30 = .ok (.getfield 61, 3) := by decide +kernel
theorem dX8_dayOf_33 : decode cX8_dayOf 33 = .ok (.iload_n 1, 1) := by decide +kernel
theorem dX8_dayOf_34 : decode cX8_dayOf 34 = .ok (.iconst 2, 1) := by decide +kernel
theorem dX8_dayOf_35 : decode cX8_dayOf 35 = .ok (.iload 5, 2) := by decide +kernel
theorem dX8_dayOf_37 : decode cX8_dayOf 37 = .ok (.imul, 1) := by decide +kernel
theorem dX8_dayOf_38 : decode cX8_dayOf 38 = .ok (.iadd, 1) := by decide +kernel
theorem dX8_dayOf_39 : decode cX8_dayOf 39 = .ok (.iaload, 1) := by decide +kernel
theorem dX8_dayOf_40 : decode cX8_dayOf 40 = .ok (.aload_n 0, 1) := by decide +kernel
theorem dX8_dayOf_41 : decode cX8_dayOf 41 = .ok (.getfield 61, 3) := by decide +kernel
theorem dX8_dayOf_44 : decode cX8_dayOf 44 = .ok (.iload_n 1, 1) := by decide +kernel
theorem dX8_dayOf_45 : decode cX8_dayOf 45 = .ok (.iconst 2, 1) := by decide +kernel
theorem dX8_dayOf_46 : decode cX8_dayOf 46 = .ok (.iload 5, 2) := by decide +kernel
theorem dX8_dayOf_48 : decode cX8_dayOf 48 = .ok (.imul, 1) := by decide +kernel
theorem dX8_dayOf_49 : decode cX8_dayOf 49 = .ok (.iadd, 1) := by decide +kernel
theorem dX8_dayOf_50 : decode cX8_dayOf 50 = .ok (.iconst 1, 1) := by decide +kernel
theorem dX8_dayOf_51 : decode cX8_dayOf 51 = .ok (.iadd, 1) := by decide +kernel
theorem dX8_dayOf_52 : decode cX8_dayOf 52 = .ok (.iaload, 1) := by decide +kernel
theorem dX8_dayOf_53 : decode cX8_dayOf 53 = .ok (.invokevirtual 209, 3) := by decide +kernel
theorem dX8_dayOf_56 : decode cX8_dayOf 56 = .ok (.ifCond .eq 8, 3) := by decide +kernel
theorem dX8_dayOf_59 : decode cX8_dayOf 59 = .ok (.bipush (-9), 2) := by decide +kernel
theorem dX8_dayOf_61 : decode cX8_dayOf 61 = .ok (.goto 5, 3) := by decide +kernel
theorem dX8_dayOf_64 : decode cX8_dayOf 64 = .ok (.iload 5, 2) := by decide +kernel
theorem dX8_dayOf_66 : decode cX8_dayOf 66 = .ok (.istore 4, 2) := by decide +kernel
theorem dX8_dayOf_68 : decode cX8_dayOf 68 = .ok (.aload_n 0, 1) := by decide +kernel
theorem dX8_dayOf_69 : decode cX8_dayOf 69 = .ok (.dup, 1) := by decide +kernel
theorem dX8_dayOf_70 : decode cX8_dayOf 70 = .ok (.getfield 206, 3) := by decide +kernel
theorem dX8_dayOf_73 : decode cX8_dayOf 73 = .ok (.aload_n 0, 1) := by decide +kernel
theorem dX8_dayOf_74 : decode cX8_dayOf 74 = .ok (.invokevirtual 164, 3) := by decide +kernel
theorem dX8_dayOf_77 : decode cX8_dayOf 77 = .ok (.aload_n 0, 1) := by decide +kernel
theorem dX8_dayOf_78 : decode cX8_dayOf 78 = .ok (.getfield 77, 3) := by decide +kernel
theorem dX8_dayOf_81 : decode cX8_dayOf 81 = .ok (.if_icmp .ne 7, 3) := by decide +kernel
theorem dX8_dayOf_84 : decode cX8_dayOf 84 = .ok (.iconst 1, 1) := by decide +kernel
theorem dX8_dayOf_85 : decode cX8_dayOf 85 = .ok (.goto 4, 3) := by decide +kernel
theorem dX8_dayOf_88 : decode cX8_dayOf 88 = .ok (.iconst 0, 1) := by decide +kernel
theorem dX8_dayOf_89 : decode cX8_dayOf 89 = .ok (.iadd, 1) := by decide +kernel
theorem dX8_dayOf_90 : decode cX8_dayOf 90 = .ok (.putfield 206, 3) := by decide +kernel
theorem dX8_dayOf_93 : decode cX8_dayOf 93 = .ok (.iinc 5 1, 3) := by decide +kernel
theorem dX8_dayOf_96 : decode cX8_dayOf 96 = .ok (.goto (-79), 3) := by decide +kernel
theorem dX8_dayOf_99 : decode cX8_dayOf 99 = .ok (.iload_n 3, 1) := by decide +kernel
theorem dX8_dayOf_100 : decode cX8_dayOf 100 = .ok (.iconst 1, 1) := by decide +kernel
theorem dX8_dayOf_101 : decode cX8_dayOf 101 = .ok (.if_icmp .ne 6, 3) := by decide +kernel
theorem dX8_dayOf_104 : decode cX8_dayOf 104 = .ok (.iload 4, 2) := by decide +kernel
theorem dX8_dayOf_106 : decode cX8_dayOf 106 = .ok (.ireturn, 1) := by decide +kernel
theorem dX8_dayOf_107 : decode cX8_dayOf 107 = .ok (.iload 4, 2) := by decide +kernel
theorem dX8_dayOf_109 : decode cX8_dayOf 109 = .ok (.ifCond .lt 9, 3) := by decide +kernel
theorem dX8_dayOf_112 : decode cX8_dayOf 112 = .ok (.bipush (-100), 2) := by decide +kernel
theorem dX8_dayOf_114 : decode cX8_dayOf 114 = .ok (.iload 4, 2) := by decide +kernel
theorem dX8_dayOf_116 : decode cX8_dayOf 116 = .ok (.isub, 1) := by decide +kernel
theorem dX8_dayOf_117 : decode cX8_dayOf 117 = .ok (.ireturn, 1) := by decide +kernel
theorem dX8_dayOf_118 : decode cX8_dayOf 118 = .ok (.iload_n 3, 1) := by decide +kernel
theorem dX8_dayOf_119 : decode cX8_dayOf 119 = .ok (.bipush 10, 2) := by decide +kernel
theorem dX8_dayOf_121 : decode cX8_dayOf 121 = .ok (.if_icmp .lt 29, 3) := by decide +kernel
theorem dX8_dayOf_124 : decode cX8_dayOf 124 = .ok (.aload_n 0, 1) := by decide +kernel
theorem dX8_dayOf_125 : decode cX8_dayOf 125 = .ok (.iload_n 3, 1) := by decide +kernel
theorem dX8_dayOf_126 : decode cX8_dayOf 126 = .ok (.bipush 10, 2) := by decide +kernel
theorem dX8_dayOf_128 : decode cX8_dayOf 128 = .ok (.isub, 1) := by decide +kernel
theorem dX8_dayOf_129 : decode cX8_dayOf 129 = .ok (.invokevirtual 149, 3) := by decide +kernel
theorem dX8_dayOf_132 : decode cX8_dayOf 132 = .ok (.ifCond .eq 8, 3) := by decide +kernel
theorem dX8_dayOf_135 : decode cX8_dayOf 135 = .ok (.bipush (-9), 2) := by decide +kernel
theorem dX8_dayOf_137 : decode cX8_dayOf 137 = .ok (.goto 12, 3) := by decide +kernel
theorem dX8_dayOf_140 : decode cX8_dayOf 140 = .ok (.aload_n 0, 1) := by decide +kernel
theorem dX8_dayOf_141 : decode cX8_dayOf 141 = .ok (.getfield 13, 3) := by decide +kernel
theorem dX8_dayOf_144 : decode cX8_dayOf 144 = .ok (.iload_n 3, 1) := by decide +kernel
theorem dX8_dayOf_145 : decode cX8_dayOf 145 = .ok (.bipush 10, 2) := by decide +kernel
theorem dX8_dayOf_147 : decode cX8_dayOf 147 = .ok (.isub, 1) := by decide +kernel
theorem dX8_dayOf_148 : decode cX8_dayOf 148 = .ok (.iaload, 1) := by decide +kernel
theorem dX8_dayOf_149 : decode cX8_dayOf 149 = .ok (.ireturn, 1) := by decide +kernel
theorem dX8_dayOf_150 : decode cX8_dayOf 150 = .ok (.iload_n 3, 1) := by decide +kernel
theorem dX8_dayOf_151 : decode cX8_dayOf 151 = .ok (.ifCond .ne 10, 3) := by decide +kernel
theorem dX8_dayOf_154 : decode cX8_dayOf 154 = .ok (.aload_n 0, 1) := by decide +kernel
theorem dX8_dayOf_155 : decode cX8_dayOf 155 = .ok (.invokevirtual 212, 3) := by decide +kernel
theorem dX8_dayOf_158 : decode cX8_dayOf 158 = .ok (.goto 31, 3) := by decide +kernel
theorem dX8_dayOf_161 : decode cX8_dayOf 161 = .ok (.iload_n 3, 1) := by decide +kernel
theorem dX8_dayOf_162 : decode cX8_dayOf 162 = .ok (.iconst 2, 1) := by decide +kernel
theorem dX8_dayOf_163 : decode cX8_dayOf 163 = .ok (.if_icmp .ne 10, 3) := by decide +kernel
theorem dX8_dayOf_166 : decode cX8_dayOf 166 = .ok (.aload_n 0, 1) := by decide +kernel
theorem dX8_dayOf_167 : decode cX8_dayOf 167 = .ok (.getfield 200, 3) := by decide +kernel
theorem dX8_dayOf_170 : decode cX8_dayOf 170 = .ok (.goto 19, 3) := by decide +kernel
theorem dX8_dayOf_173 : decode cX8_dayOf 173 = .ok (.iload_n 3, 1) := by decide +kernel
theorem dX8_dayOf_174 : decode cX8_dayOf 174 = .ok (.iconst 3, 1) := by decide +kernel
theorem dX8_dayOf_175 : decode cX8_dayOf 175 = .ok (.if_icmp .ne 10, 3) := by decide +kernel
theorem dX8_dayOf_178 : decode cX8_dayOf 178 = .ok (.aload_n 0, 1) := by decide +kernel
theorem dX8_dayOf_179 : decode cX8_dayOf 179 = .ok (.getfield 206, 3) := by decide +kernel
theorem dX8_dayOf_182 : decode cX8_dayOf 182 = .ok (.goto 7, 3) := by decide +kernel
theorem dX8_dayOf_185 : decode cX8_dayOf 185 = .ok (.aload_n 0, 1) := by decide +kernel
theorem dX8_dayOf_186 : decode cX8_dayOf 186 = .ok (.invokevirtual 215, 3) := by decide +kernel
theorem dX8_dayOf_189 : decode cX8_dayOf 189 = .ok (.ireturn, 1) := by decide +kernel
theorem dX8_day_0 : decode cX8_day 0 = .ok (.iload_n 1, 1) := by decide +kernel
theorem dX8_day_1 : decode cX8_day 1 = .ok (.invokestatic 113, 3) := by decide +kernel
theorem dX8_day_4 : decode cX8_day 4 = .ok (.ifCond .eq 9, 3) := by decide +kernel
theorem dX8_day_7 : decode cX8_day 7 = .ok (.aload_n 0, 1) := by decide +kernel
theorem dX8_day_8 : decode cX8_day 8 = .ok (.iconst (-1), 1) := by decide +kernel
theorem dX8_day_9 : decode cX8_day 9 = .ok (.invokevirtual 117, 3) := by decide +kernel
theorem dX8_day_12 : decode cX8_day 12 = .ok (.ireturn, 1) := by decide +kernel
theorem dX8_day_13 : decode cX8_day 13 = .ok (.iload_n 2, 1) := by decide +kernel
theorem dX8_day_14 : decode cX8_day 14 = .ok (.i2l, 1) := by decide +kernel
theorem dX8_day_15 : decode cX8_day 15 = .ok (.lconst 0, 1) := by decide +kernel
theorem dX8_day_16 : decode cX8_day 16 = .ok (.ldc2_w 97, 3) := by decide +kernel
theorem dX8_day_19 : decode cX8_day 19 = .ok (.invokestatic 80, 3) := by decide +kernel
theorem dX8_day_22 : decode cX8_day 22 = .ok (.ifCond .eq 44, 3) := by decide +kernel
theorem dX8_day_25 : decode cX8_day 25 = .ok (.iload 4, 2) := by decide +kernel
theorem dX8_day_27 : decode cX8_day 27 = .ok (.i2l, 1) := by decide +kernel
theorem dX8_day_28 : decode cX8_day 28 = .ok (.lconst 0, 1) := by decide +kernel
theorem dX8_day_29 : decode cX8_day 29 = .ok (.ldc2_w 218, 3) := by decide +kernel
theorem dX8_day_32 : decode cX8_day 32 = .ok (.invokestatic 80, 3) := by decide +kernel
theorem dX8_day_35 : decode cX8_day 35 = .ok (.ifCond .eq 31, 3) := by decide +kernel
theorem dX8_day_38 : decode cX8_day 38 = .ok (.iload 5, 2) := by decide +kernel
theorem dX8_day_40 : decode cX8_day 40 = .ok (.i2l, 1) := by decide +kernel
theorem dX8_day_41 : decode cX8_day 41 = .ok (.lconst 0, 1) := by decide +kernel
theorem dX8_day_42 : decode cX8_day 42 = .ok (.ldc2_w 220, 3) := by decide +kernel
theorem dX8_day_45 : decode cX8_day 45 = .ok (.invokestatic 80, 3) := by decide +kernel
theorem dX8_day_48 : decode cX8_day 48 = .ok (.ifCond .ne 25, 3) := by decide +kernel
theorem dX8_day_51 : decode cX8_day 51 = .ok (.iload 5, 2) := by decide +kernel
theorem dX8_day_53 : decode cX8_day 53 = .ok (.i2l, 1) := by decide +kernel
theorem dX8_day_54 : decode cX8_day 54 = .ok (.ldc2_w 222, 3) := by decide +kernel
theorem dX8_day_57 : decode cX8_day 57 = .ok (.ldc2_w 224, 3) := by decide +kernel
theorem dX8_day_60 : decode cX8_day 60 = .ok (.invokestatic 80, 3) := by decide +kernel
theorem dX8_day_63 : decode cX8_day 63 = .ok (.ifCond .ne 10, 3) := by decide +kernel
theorem dX8_day_66 : decode cX8_day 66 = .ok (.aload_n 0, 1) := by decide +kernel
theorem dX8_day_67 : decode cX8_day 67 = .ok (.bipush (-2), 2) := by decide +kernel
theorem dX8_day_69 : decode cX8_day 69 = .ok (.invokevirtual 117, 3) := by decide +kernel
theorem dX8_day_72 : decode cX8_day 72 = .ok (.ireturn, 1) := by decide +kernel
theorem dX8_day_73 : decode cX8_day 73 = .ok (.aload_n 0, 1) := by decide +kernel
theorem dX8_day_74 : decode cX8_day 74 = .ok (.getfield 77, 3) := by decide +kernel
theorem dX8_day_77 : decode cX8_day 77 = .ok (.ifCond .ne 10, 3) := by decide +kernel
theorem dX8_day_80 : decode cX8_day 80 = .ok (.aload_n 0, 1) := by decide +kernel
theorem dX8_day_81 : decode cX8_day 81 = .ok (.bipush (-3), 2) := by decide +kernel
theorem dX8_day_83 : decode cX8_day 83 = .ok (.invokevirtual 117, 3) := by decide +kernel
theorem dX8_day_86 : decode cX8_day 86 = .ok (.ireturn, 1) := by decide +kernel
theorem dX8_day_87 : decode cX8_day 87 = .ok (.aload_n 0, 1) := by decide +kernel
theorem dX8_day_88 : decode cX8_day 88 = .ok (.iload_n 1, 1) := by decide +kernel
theorem dX8_day_89 : decode cX8_day 89 = .ok (.iload_n 2, 1) := by decide +kernel
theorem dX8_day_90 : decode cX8_day 90 = .ok (.iload_n 3, 1) := by decide +kernel
theorem dX8_day_91 : decode cX8_day 91 = .ok (.ldc2_w 97, 3) := by decide +kernel
theorem dX8_day_94 : decode cX8_day 94 = .ok (.iload 4, 2) := by decide +kernel
theorem dX8_day_96 : decode cX8_day 96 = .ok (.i2l, 1) := by decide +kernel
theorem dX8_day_97 : decode cX8_day 97 = .ok (.lmul, 1) := by decide +kernel
theorem dX8_day_98 : decode cX8_day 98 = .ok (.invokevirtual 120, 3) := by decide +kernel
theorem dX8_day_101 : decode cX8_day 101 = .ok (.istore 6, 2) := by decide +kernel
theorem dX8_day_103 : decode cX8_day 103 = .ok (.iload 6, 2) := by decide +kernel
theorem dX8_day_105 : decode cX8_day 105 = .ok (.ifCond .ge 6, 3) := by decide +kernel
theorem dX8_day_108 : decode cX8_day 108 = .ok (.iload 6, 2) := by decide +kernel
theorem dX8_day_110 : decode cX8_day 110 = .ok (.ireturn, 1) := by decide +kernel
theorem dX8_day_111 : decode cX8_day 111 = .ok (.bipush 60, 2) := by decide +kernel
theorem dX8_day_113 : decode cX8_day 113 = .ok (.iload_n 1, 1) := by decide +kernel
theorem dX8_day_114 : decode cX8_day 114 = .ok (.imul, 1) := by decide +kernel
theorem dX8_day_115 : decode cX8_day 115 = .ok (.iload_n 3, 1) := by decide +kernel
theorem dX8_day_116 : decode cX8_day 116 = .ok (.iadd, 1) := by decide +kernel
theorem dX8_day_117 : decode cX8_day 117 = .ok (.istore 7, 2) := by decide +kernel
theorem dX8_day_119 : decode cX8_day 119 = .ok (.iconst 0, 1) := by decide +kernel
theorem dX8_day_120 : decode cX8_day 120 = .ok (.istore 8, 2) := by decide +kernel
theorem dX8_day_122 : decode cX8_day 122 = .ok (.iload 8, 2) := by decide +kernel
theorem dX8_day_124 : decode cX8_day 124 = .ok (.iload 4, 2) := by decide +kernel
theorem dX8_day_126 : decode cX8_day 126 = .ok (.if_icmp .ge 95, 3) := by decide +kernel
theorem dX8_day_129 : decode cX8_day 129 = .ok (.aload_n 0, 1) := by decide +kernel
theorem dX8_day_130 : decode cX8_day 130 = .ok (.getfield 61, 3) := by decide +kernel
theorem dX8_day_133 : decode cX8_day 133 = .ok (.iload 7, 2) := by decide +kernel
theorem dX8_day_135 : decode cX8_day 135 = .ok (.iconst 2, 1) := by decide +kernel
theorem dX8_day_136 : decode cX8_day 136 = .ok (.iload 8, 2) := by decide +kernel
theorem dX8_day_138 : decode cX8_day 138 = .ok (.imul, 1) := by decide +kernel
theorem dX8_day_139 : decode cX8_day 139 = .ok (.iadd, 1) := by decide +kernel
theorem dX8_day_140 : decode cX8_day 140 = .ok (.iaload, 1) := by decide +kernel
theorem dX8_day_141 : decode cX8_day 141 = .ok (.istore 9, 2) := by decide +kernel
theorem dX8_day_143 : decode cX8_day 143 = .ok (.aload_n 0, 1) := by decide +kernel
theorem dX8_day_144 : decode cX8_day 144 = .ok (.getfield 61, 3) := by decide +kernel
theorem dX8_day_147 : decode cX8_day 147 = .ok (.iload 7, 2) := by decide +kernel
theorem dX8_day_149 : decode cX8_day 149 = .ok (.iconst 2, 1) := by decide +kernel
theorem dX8_day_150 : decode cX8_day 150 = .ok (.iload 8, 2) := by decide +kernel
theorem dX8_day_152 : decode cX8_day 152 = .ok (.imul, 1) := by decide +kernel
theorem dX8_day_153 : decode cX8_day 153 = .ok (.iadd, 1) := by decide +kernel
theorem dX8_day_154 : decode cX8_day 154 = .ok (.iconst 1, 1) := by decide +kernel
theorem dX8_day_155 : decode cX8_day 155 = .ok (.iadd, 1) := by decide +kernel
theorem dX8_day_156 : decode cX8_day 156 = .ok (.iaload, 1) := by decide +kernel
theorem dX8_day_157 : decode cX8_day 157 = .ok (.istore 10, 2) := by decide +kernel
theorem dX8_day_159 : decode cX8_day 159 = .ok (.iload 10, 2) := by decide +kernel
theorem dX8_day_161 : decode cX8_day 161 = .ok (.bipush 9, 2) := by decide +kernel
theorem dX8_day_163 : decode cX8_day 163 = .ok (.if_icmp .ne 19, 3) := by decide +kernel
theorem dX8_day_166 : decode cX8_day 166 = .ok (.iload 9, 2) := by decide +kernel
theorem dX8_day_168 : decode cX8_day 168 = .ok (.i2l, 1) := by decide +kernel
theorem dX8_day_169 : decode cX8_day 169 = .ok (.lconst 0, 1) := by decide +kernel
theorem dX8_day_170 : decode cX8_day 170 = .ok (.ldc2_w 158, 3) := by decide +kernel
theorem dX8_day_173 : decode cX8_day 173 = .ok (.invokestatic 80, 3) := by decide +kernel
theorem dX8_day_176 : decode cX8_day 176 = .ok (.ifCond .ne 39, 3) := by decide +kernel
theorem dX8_day_179 : decode cX8_day 179 = .ok (.goto 29, 3) := by decide +kernel
theorem dX8_day_182 : decode cX8_day 182 = .ok (.iload 10, 2) := by decide +kernel
theorem dX8_day_184 : decode cX8_day 184 = .ok (.i2l, 1) := by decide +kernel
theorem dX8_day_185 : decode cX8_day 185 = .ok (.lconst 0, 1) := by decide +kernel
theorem dX8_day_186 : decode cX8_day 186 = .ok (.ldc2_w 220, 3) := by decide +kernel
theorem dX8_day_189 : decode cX8_day 189 = .ok (.invokestatic 80, 3) := by decide +kernel
theorem dX8_day_192 : decode cX8_day 192 = .ok (.ifCond .eq 16, 3) := by decide +kernel
theorem dX8_day_195 : decode cX8_day 195 = .ok (.iload 9, 2) := by decide +kernel
theorem dX8_day_197 : decode cX8_day 197 = .ok (.i2l, 1) := by decide +kernel
theorem dX8_day_198 : decode cX8_day 198 = .ok (.lconst 0, 1) := by decide +kernel
theorem dX8_day_199 : decode cX8_day 199 = .ok (.ldc2_w 226, 3) := by decide +kernel
theorem dX8_day_202 : decode cX8_day 202 = .ok (.invokestatic 80, 3) := by decide +kernel
theorem dX8_day_205 : decode cX8_day 205 = .ok (.ifCond .ne 10, 3) := by decide +kernel
theorem dX8_day_208 : decode cX8_day 208 = .ok (.aload_n 0, 1) := by decide +kernel
theorem dX8_day_209 : decode cX8_day 209 = .ok (.bipush (-2), 2) := by decide +kernel
theorem dX8_day_211 : decode cX8_day 211 = .ok (.invokevirtual 117, 3) := by decide +kernel
theorem dX8_day_214 : decode cX8_day 214 = .ok (.ireturn, 1) := by decide +kernel
theorem dX8_day_215 : decode cX8_day 215 = .ok (.iinc 8 1, 3) := by decide +kernel
theorem dX8_day_218 : decode cX8_day 218 = .ok (.goto (-96), 3) := by decide +kernel
theorem dX8_day_221 : decode cX8_day 221 = .ok (.iconst 0, 1) := by decide +kernel
theorem dX8_day_222 : decode cX8_day 222 = .ok (.istore 8, 2) := by decide +kernel
theorem dX8_day_224 : decode cX8_day 224 = .ok (.iload 8, 2) := by decide +kernel
theorem dX8_day_226 : decode cX8_day 226 = .ok (.aload_n 0, 1) := by decide +kernel
theorem dX8_day_227 : decode cX8_day 227 = .ok (.getfield 77, 3) := by decide +kernel
theorem dX8_day_230 : decode cX8_day 230 = .ok (.if_icmp .ge 23, 3) := by decide +kernel
theorem dX8_day_233 : decode cX8_day 233 = .ok (.aload_n 0, 1) := by decide +kernel
theorem dX8_day_234 : decode cX8_day 234 = .ok (.getfield 43, 3) := by decide +kernel
theorem dX8_day_237 : decode cX8_day 237 = .ok (.iload 8, 2) := by decide +kernel
theorem dX8_day_239 : decode cX8_day 239 = .ok (.aload_n 0, 1) := by decide +kernel
theorem dX8_day_240 : decode cX8_day 240 = .ok (.getfield 13, 3) := by decide +kernel
theorem dX8_day_243 : decode cX8_day 243 = .ok (.iload 8, 2) := by decide +kernel
theorem dX8_day_245 : decode cX8_day 245 = .ok (.iaload, 1) := by decide +kernel
theorem dX8_day_246 : decode cX8_day 246 = .ok (.iastore, 1) := by decide +kernel
theorem dX8_day_247 : decode cX8_day 247 = .ok (.iinc 8 1, 3) := by decide +kernel
theorem dX8_day_250 : decode cX8_day 250 = .ok (.goto (-26), 3) := by decide +kernel
theorem dX8_day_253 : decode cX8_day 253 = .ok (.aload_n 0, 1) := by decide +kernel
theorem dX8_day_254 : decode cX8_day 254 = .ok (.iload 7, 2) := by decide +kernel
theorem dX8_day_256 : decode cX8_day 256 = .ok (.iload 4, 2) := by decide +kernel
theorem dX8_day_258 : decode cX8_day 258 = .ok (.iload 5, 2) := by decide +kernel
theorem dX8_day_260 : decode cX8_day 260 = .ok (.invokevirtual 228, 3) := by decide +kernel
theorem dX8_day_263 : decode cX8_day 263 = .ok (.istore 8, 2) := by decide +kernel
theorem dX8_day_265 : decode cX8_day 265 = .ok (.iconst 0, 1) := by decide +kernel
theorem dX8_day_266 : decode cX8_day 266 = .ok (.istore 9, 2) := by decide +kernel
theorem dX8_day_268 : decode cX8_day 268 = .ok (.iload 9, 2) := by decide +kernel
theorem dX8_day_270 : decode cX8_day 270 = .ok (.aload_n 0, 1) := by decide +kernel
theorem dX8_day_271 : decode cX8_day 271 = .ok (.getfield 77, 3) := by decide +kernel
theorem dX8_day_274 : decode cX8_day 274 = .ok (.if_icmp .ge 23, 3) := by decide +kernel
theorem dX8_day_277 : decode cX8_day 277 = .ok (.aload_n 0, 1) := by decide +kernel
theorem dX8_day_278 : decode cX8_day 278 = .ok (.getfield 13, 3) := by decide +kernel
theorem dX8_day_281 : decode cX8_day 281 = .ok (.iload 9, 2) := by decide +kernel
theorem dX8_day_283 : decode cX8_day 283 = .ok (.aload_n 0, 1) := by decide +kernel
theorem dX8_day_284 : decode cX8_day 284 = .ok (.getfield 43, 3) := by decide +kernel
theorem dX8_day_287 : decode cX8_day 287 = .ok (.iload 9, 2) := by decide +kernel
theorem dX8_day_289 : decode cX8_day 289 = .ok (.iaload, 1) := by decide +kernel
theorem dX8_day_290 : decode cX8_day 290 = .ok (.iastore, 1) := by decide +kernel
theorem dX8_day_291 : decode cX8_day 291 = .ok (.iinc 9 1, 3) := by decide +kernel
theorem dX8_day_294 : decode cX8_day 294 = .ok (.goto (-26), 3) := by decide +kernel
theorem dX8_day_297 : decode cX8_day 297 = .ok (.aload_n 0, 1) := by decide +kernel
theorem dX8_day_298 : decode cX8_day 298 = .ok (.iload 8, 2) := by decide +kernel
theorem dX8_day_300 : decode cX8_day 300 = .ok (.invokevirtual 117, 3) := by decide +kernel
theorem dX8_day_303 : decode cX8_day 303 = .ok (.ireturn, 1) := by decide +kernel
theorem dX8_now_0 : decode cX8_now 0 = .ok (.iload_n 1, 1) := by decide +kernel
theorem dX8_now_1 : decode cX8_now 1 = .ok (.i2l, 1) := by decide +kernel
theorem dX8_now_2 : decode cX8_now 2 = .ok (.lconst 0, 1) := by decide +kernel
theorem dX8_now_3 : decode cX8_now 3 = .ok (.ldc2_w 97, 3) := by decide +kernel
theorem dX8_now_6 : decode cX8_now 6 = .ok (.invokestatic 80, 3) := by decide +kernel
theorem dX8_now_9 : decode cX8_now 9 = .ok (.ifCond .ne 6, 3) := by decide +kernel
theorem dX8_now_12 : decode cX8_now 12 = .ok (.bipush (-2), 2) := by decide +kernel
theorem dX8_now_14 : decode cX8_now 14 = .ok (.ireturn, 1) := by decide +kernel
theorem dX8_now_15 : decode cX8_now 15 = .ok (.aload_n 0, 1) := by decide +kernel
theorem dX8_now_16 : decode cX8_now 16 = .ok (.getfield 77, 3) := by decide +kernel
theorem dX8_now_19 : decode cX8_now 19 = .ok (.ifCond .ne 6, 3) := by decide +kernel
theorem dX8_now_22 : decode cX8_now 22 = .ok (.bipush (-3), 2) := by decide +kernel
theorem dX8_now_24 : decode cX8_now 24 = .ok (.ireturn, 1) := by decide +kernel
theorem dX8_now_25 : decode cX8_now 25 = .ok (.aload_n 0, 1) := by decide +kernel
theorem dX8_now_26 : decode cX8_now 26 = .ok (.invokevirtual 191, 3) := by decide +kernel
theorem dX8_now_29 : decode cX8_now 29 = .ok (.istore_n 2, 1) := by decide +kernel
theorem dX8_now_30 : decode cX8_now 30 = .ok (.aload_n 0, 1) := by decide +kernel
theorem dX8_now_31 : decode cX8_now 31 = .ok (.invokevirtual 194, 3) := by decide +kernel
theorem dX8_now_34 : decode cX8_now 34 = .ok (.iload_n 1, 1) := by decide +kernel
theorem dX8_now_35 : decode cX8_now 35 = .ok (.ifCond .ne 12, 3) := by decide +kernel
theorem dX8_now_38 : decode cX8_now 38 = .ok (.aload_n 0, 1) := by decide +kernel
theorem dX8_now_39 : decode cX8_now 39 = .ok (.getfield 37, 3) := by decide +kernel
theorem dX8_now_42 : decode cX8_now 42 = .ok (.iload_n 2, 1) := by decide +kernel
theorem dX8_now_43 : decode cX8_now 43 = .ok (.iaload, 1) := by decide +kernel
theorem dX8_now_44 : decode cX8_now 44 = .ok (.goto 22, 3) := by decide +kernel
theorem dX8_now_47 : decode cX8_now 47 = .ok (.iload_n 1, 1) := by decide +kernel
theorem dX8_now_48 : decode cX8_now 48 = .ok (.iconst 1, 1) := by decide +kernel
theorem dX8_now_49 : decode cX8_now 49 = .ok (.if_icmp .ne 11, 3) := by decide +kernel
theorem dX8_now_52 : decode cX8_now 52 = .ok (.aload_n 0, 1) := by decide +kernel
theorem dX8_now_53 : decode cX8_now 53 = .ok (.iload_n 2, 1) := by decide +kernel
theorem dX8_now_54 : decode cX8_now 54 = .ok (.invokevirtual 197, 3) := by decide +kernel
theorem dX8_now_57 : decode cX8_now 57 = .ok (.goto 9, 3) := by decide +kernel
theorem dX8_now_60 : decode cX8_now 60 = .ok (.aload_n 0, 1) := by decide +kernel
theorem dX8_now_61 : decode cX8_now 61 = .ok (.getfield 40, 3) := by decide +kernel
theorem dX8_now_64 : decode cX8_now 64 = .ok (.iload_n 2, 1) := by decide +kernel
theorem dX8_now_65 : decode cX8_now 65 = .ok (.iaload, 1) := by decide +kernel
theorem dX8_now_66 : decode cX8_now 66 = .ok (.ireturn, 1) := by decide +kernel
theorem dX8_from_0 : decode cX8_from 0 = .ok (.iload_n 1, 1) := by decide +kernel
theorem dX8_from_1 : decode cX8_from 1 = .ok (.i2l, 1) := by decide +kernel
theorem dX8_from_2 : decode cX8_from 2 = .ok (.ldc2_w 232, 3) := by decide +kernel
theorem dX8_from_5 : decode cX8_from 5 = .ok (.ldc2_w 220, 3) := by decide +kernel
theorem dX8_from_8 : decode cX8_from 8 = .ok (.invokestatic 80, 3) := by decide +kernel
theorem dX8_from_11 : decode cX8_from 11 = .ok (.ifCond .ne 6, 3) := by decide +kernel
theorem dX8_from_14 : decode cX8_from 14 = .ok (.bipush (-2), 2) := by decide +kernel
theorem dX8_from_16 : decode cX8_from 16 = .ok (.ireturn, 1) := by decide +kernel
theorem dX8_from_17 : decode cX8_from 17 = .ok (.aload_n 0, 1) := by decide +kernel
theorem dX8_from_18 : decode cX8_from 18 = .ok (.getfield 77, 3) := by decide +kernel
theorem dX8_from_21 : decode cX8_from 21 = .ok (.ifCond .ne 6, 3) := by decide +kernel
theorem dX8_from_24 : decode cX8_from 24 = .ok (.bipush (-3), 2) := by decide +kernel
theorem dX8_from_26 : decode cX8_from 26 = .ok (.ireturn, 1) := by decide +kernel
theorem dX8_from_27 : decode cX8_from 27 = .ok (.aload_n 0, 1) := by decide +kernel
theorem dX8_from_28 : decode cX8_from 28 = .ok (.invokevirtual 191, 3) := by decide +kernel
theorem dX8_from_31 : decode cX8_from 31 = .ok (.istore_n 2, 1) := by decide +kernel
theorem dX8_from_32 : decode cX8_from 32 = .ok (.aload_n 0, 1) := by decide +kernel
theorem dX8_from_33 : decode cX8_from 33 = .ok (.invokevirtual 194, 3) := by decide +kernel
theorem dX8_from_36 : decode cX8_from 36 = .ok (.iconst 0, 1) := by decide +kernel
theorem dX8_from_37 : decode cX8_from 37 = .ok (.istore_n 3, 1) := by decide +kernel
theorem dX8_from_38 : decode cX8_from 38 = .ok (.bipush (-9), 2) := by decide +kernel
theorem dX8_from_40 : decode cX8_from 40 = .ok (.istore 4, 2) := by decide +kernel
theorem dX8_from_42 : decode cX8_from 42 = .ok (.aload_n 0, 1) := by decide +kernel
theorem dX8_from_43 : decode cX8_from 43 = .ok (.invokevirtual 170, 3) := by decide +kernel
theorem dX8_from_46 : decode cX8_from 46 = .ok (.iconst 1, 1) := by decide +kernel
theorem dX8_from_47 : decode cX8_from 47 = .ok (.isub, 1) := by decide +kernel
theorem dX8_from_48 : decode cX8_from 48 = .ok (.istore 5, 2) := by decide +kernel
theorem dX8_from_50 : decode cX8_from 50 = .ok (.iload 5, 2) := by decide +kernel
theorem dX8_from_52 : decode cX8_from 52 = .ok (.ifCond .lt 48, 3) := by decide +kernel
theorem dX8_from_55 : decode cX8_from 55 = .ok (.iload_n 3, 1) := by decide +kernel
theorem dX8_from_56 : decode cX8_from 56 = .ok (.aload_n 0, 1) := by decide +kernel
theorem dX8_from_57 : decode cX8_from 57 = .ok (.getfield 28, 3) := by decide +kernel
theorem dX8_from_60 : decode cX8_from 60 = .ok (.iload 5, 2) := by decide +kernel
theorem dX8_from_62 : decode cX8_from 62 = .ok (.iaload, 1) := by decide +kernel
theorem dX8_from_63 : decode cX8_from 63 = .ok (.iload_n 2, 1) := by decide +kernel
theorem dX8_from_64 : decode cX8_from 64 = .ok (.if_icmp .ne 7, 3) := by decide +kernel
theorem dX8_from_67 : decode cX8_from 67 = .ok (.iconst 1, 1) := by decide +kernel
theorem dX8_from_68 : decode cX8_from 68 = .ok (.goto 4, 3) := by decide +kernel
theorem dX8_from_71 : decode cX8_from 71 = .ok (.iconst 0, 1) := by decide +kernel
theorem dX8_from_72 : decode cX8_from 72 = .ok (.iadd, 1) := by decide +kernel
theorem dX8_from_73 : decode cX8_from 73 = .ok (.istore_n 3, 1) := by decide +kernel
theorem dX8_from_74 : decode cX8_from 74 = .ok (.aload_n 0, 1) := by decide +kernel
theorem dX8_from_75 : decode cX8_from 75 = .ok (.getfield 28, 3) := by decide +kernel
theorem dX8_from_78 : decode cX8_from 78 = .ok (.iload 5, 2) := by decide +kernel
theorem dX8_from_80 : decode cX8_from 80 = .ok (.iaload, 1) := by decide +kernel
theorem dX8_from_81 : decode cX8_from 81 = .ok (.iload_n 2, 1) := by decide +kernel
theorem dX8_from_82 : decode cX8_from 82 = .ok (.if_icmp .ne 8, 3) := by decide +kernel
theorem dX8_from_85 : decode cX8_from 85 = .ok (.iload 5, 2) := by decide +kernel
theorem dX8_from_87 : decode cX8_from 87 = .ok (.goto 5, 3) := by decide +kernel
theorem dX8_from_90 : decode cX8_from 90 = .ok (.iload 4, 2) := by decide +kernel
theorem dX8_from_92 : decode cX8_from 92 = .ok (.istore 4, 2) := by decide +kernel
theorem dX8_from_94 : decode cX8_from 94 = .ok (.iinc 5 (-1), 3) := by decide +kernel
theorem dX8_from_97 : decode cX8_from 97 = .ok (.goto (-47), 3) := by decide +kernel
theorem dX8_from_100 : decode cX8_from 100 = .ok (.iload_n 1, 1) := by decide +kernel
theorem dX8_from_101 : decode cX8_from 101 = .ok (.ifCond .ge 5, 3) := by decide +kernel
theorem dX8_from_104 : decode cX8_from 104 = .ok (.iload_n 3, 1) := by decide +kernel
theorem dX8_from_105 : decode cX8_from 105 = .ok (.ireturn, 1) := by decide +kernel
theorem dX8_from_106 : decode cX8_from 106 = .ok (.iload_n 3, 1) := by decide +kernel
theorem dX8_from_107 : decode cX8_from 107 = .ok (.ifCond .eq 11, 3) := by decide +kernel
theorem dX8_from_110 : decode cX8_from 110 = .ok (.aload_n 0, 1) := by decide +kernel
theorem dX8_from_111 : decode cX8_from 111 = .ok (.iload_n 1, 1) := by decide +kernel
theorem dX8_from_112 : decode cX8_from 112 = .ok (.invokevirtual 149, 3) := by decide +kernel
theorem dX8_from_115 : decode cX8_from 115 = .ok (.ifCond .eq 6, 3) := by decide +kernel
theorem dX8_from_118 : decode cX8_from 118 = .ok (.bipush (-9), 2) := by decide +kernel
theorem dX8_from_120 : decode cX8_from 120 = .ok (.ireturn, 1) := by decide +kernel
theorem dX8_from_121 : decode cX8_from 121 = .ok (.aload_n 0, 1) := by decide +kernel
theorem dX8_from_122 : decode cX8_from 122 = .ok (.iload 4, 2) := by decide +kernel
theorem dX8_from_124 : decode cX8_from 124 = .ok (.invokevirtual 173, 3) := by decide +kernel
theorem dX8_from_127 : decode cX8_from 127 = .ok (.aload_n 0, 1) := by decide +kernel
theorem dX8_from_128 : decode cX8_from 128 = .ok (.getfield 22, 3) := by decide +kernel
theorem dX8_from_131 : decode cX8_from 131 = .ok (.iload_n 1, 1) := by decide +kernel
theorem dX8_from_132 : decode cX8_from 132 = .ok (.iaload, 1) := by decide +kernel
theorem dX8_from_133 : decode cX8_from 133 = .ok (.ireturn, 1) := by decide +kernel
theorem dX8_rounds_0 : decode cX8_rounds 0 = .ok (.iconst 0, 1) := by decide +kernel
theorem dX8_rounds_1 : decode cX8_rounds 1 = .ok (.istore_n 1, 1) := by decide +kernel
theorem dX8_rounds_2 : decode cX8_rounds 2 = .ok (.iconst 0, 1) := by decide +kernel
theorem dX8_rounds_3 : decode cX8_rounds 3 = .ok (.istore_n 2, 1) := by decide +kernel
theorem dX8_rounds_4 : decode cX8_rounds 4 = .ok (.iload_n 2, 1) := by decide +kernel
theorem dX8_rounds_5 : decode cX8_rounds 5 = .ok (.aload_n 0, 1) := by decide +kernel
theorem dX8_rounds_6 : decode cX8_rounds 6 = .ok (.invokevirtual 170, 3) := by decide +kernel
theorem dX8_rounds_9 : decode cX8_rounds 9 = .ok (.if_icmp .ge 100, 3) := by decide +kernel
theorem dX8_rounds_12 : decode cX8_rounds 12 = .ok (.iload_n 2, 1) := by decide +kernel
theorem dX8_rounds_13 : decode cX8_rounds 13 = .ok (.istore_n 3, 1) := by decide +kernel
theorem dX8_rounds_14 : decode cX8_rounds 14 = .ok (.aload_n 0, 1) := by decide +kernel
theorem dX8_rounds_15 : decode cX8_rounds 15 = .ok (.getfield 31, 3) := by decide +kernel
theorem dX8_rounds_18 : decode cX8_rounds 18 = .ok (.iload_n 2, 1) := by decide +kernel
theorem dX8_rounds_19 : decode cX8_rounds 19 = .ok (.iaload, 1) := by decide +kernel
theorem dX8_rounds_20 : decode cX8_rounds 20 = .ok (.ifCond .le 16, 3) := by decide +kernel
theorem dX8_rounds_23 : decode cX8_rounds 23 = .ok (.aload_n 0, 1) := by decide +kernel
theorem dX8_rounds_24 : decode cX8_rounds 24 = .ok (.getfield 37, 3) := by decide +kernel
theorem dX8_rounds_27 : decode cX8_rounds 27 = .ok (.iload_n 2, 1) := by decide +kernel
theorem dX8_rounds_28 : decode cX8_rounds 28 = .ok (.iaload, 1) := by decide +kernel
theorem dX8_rounds_29 : decode cX8_rounds 29 = .ok (.ifCond .ne 7, 3) := by decide +kernel
theorem dX8_rounds_32 : decode cX8_rounds 32 = .ok (.iconst 1, 1) := by decide +kernel
theorem dX8_rounds_33 : decode cX8_rounds 33 = .ok (.goto 4, 3) := by decide +kernel
theorem dX8_rounds_36 : decode cX8_rounds 36 = .ok (.iconst 0, 1) := by decide +kernel
theorem dX8_rounds_37 : decode cX8_rounds 37 = .ok (.istore 4, 2) := by decide +kernel
theorem dX8_rounds_39 : decode cX8_rounds 39 = .ok (.iload 4, 2) := by decide +kernel
theorem dX8_rounds_41 : decode cX8_rounds 41 = .ok (.ifCond .eq 11, 3) := by decide +kernel
theorem dX8_rounds_44 : decode cX8_rounds 44 = .ok (.aload_n 0, 1) := by decide +kernel
theorem dX8_rounds_45 : decode cX8_rounds 45 = .ok (.iload_n 2, 1) := by decide +kernel
theorem dX8_rounds_46 : decode cX8_rounds 46 = .ok (.invokevirtual 186, 3) := by decide +kernel
theorem dX8_rounds_49 : decode cX8_rounds 49 = .ok (.goto 4, 3) := by decide +kernel
theorem dX8_rounds_52 : decode cX8_rounds 52 = .ok (.iconst 0, 1) := by decide +kernel
theorem dX8_rounds_53 : decode cX8_rounds 53 = .ok (.istore 5, 2) := by decide +kernel
theorem dX8_rounds_55 : decode cX8_rounds 55 = .ok (.iload 5, 2) := by decide +kernel
theorem dX8_rounds_57 : decode cX8_rounds 57 = .ok (.ifCond .le 33, 3) := by decide +kernel
theorem dX8_rounds_60 : decode cX8_rounds 60 = .ok (.iload 4, 2) := by decide +kernel
theorem dX8_rounds_62 : decode cX8_rounds 62 = .ok (.ifCond .eq 12, 3) := by decide +kernel
theorem dX8_rounds_65 : decode cX8_rounds 65 = .ok (.iload_n 3, 1) := by decide +kernel
theorem dX8_rounds_66 : decode cX8_rounds 66 = .ok (.iload_n 2, 1) := by decide +kernel
theorem dX8_rounds_67 : decode cX8_rounds 67 = .ok (.if_icmp .lt 7, 3) := by decide +kernel
theorem dX8_rounds_70 : decode cX8_rounds 70 = .ok (.iconst 1, 1) := by decide +kernel
theorem dX8_rounds_71 : decode cX8_rounds 71 = .ok (.goto 4, 3) := by decide +kernel
theorem dX8_rounds_74 : decode cX8_rounds 74 = .ok (.iconst 0, 1) := by decide +kernel
theorem dX8_rounds_75 : decode cX8_rounds 75 = .ok (.istore 4, 2) := by decide +kernel
theorem dX8_rounds_77 : decode cX8_rounds 77 = .ok (.aload_n 0, 1) := by decide +kernel
theorem dX8_rounds_78 : decode cX8_rounds 78 = .ok (.getfield 28, 3) := by decide +kernel
theorem dX8_rounds_81 : decode cX8_rounds 81 = .ok (.iload_n 3, 1) := by decide +kernel
theorem dX8_rounds_82 : decode cX8_rounds 82 = .ok (.iaload, 1) := by decide +kernel
theorem dX8_rounds_83 : decode cX8_rounds 83 = .ok (.istore_n 3, 1) := by decide +kernel
theorem dX8_rounds_84 : decode cX8_rounds 84 = .ok (.iinc 5 (-1), 3) := by decide +kernel
theorem dX8_rounds_87 : decode cX8_rounds 87 = .ok (.goto (-32), 3) := by decide +kernel
theorem dX8_rounds_90 : decode cX8_rounds 90 = .ok (.iload_n 1, 1) := by decide +kernel
theorem dX8_rounds_91 : decode cX8_rounds 91 = .ok (.iload 4, 2) := by decide +kernel
theorem dX8_rounds_93 : decode cX8_rounds 93 = .ok (.ifCond .eq 7, 3) := by decide +kernel
theorem dX8_rounds_96 : decode cX8_rounds 96 = .ok (.iconst 1, 1) := by decide +kernel
theorem dX8_rounds_97 : decode cX8_rounds 97 = .ok (.goto 4, 3) := by decide +kernel
theorem dX8_rounds_100 : decode cX8_rounds 100 = .ok (.iconst 0, 1) := by decide +kernel
theorem dX8_rounds_101 : decode cX8_rounds 101 = .ok (.iadd, 1) := by decide +kernel
theorem dX8_rounds_102 : decode cX8_rounds 102 = .ok (.istore_n 1, 1) := by decide +kernel
theorem dX8_rounds_103 : decode cX8_rounds 103 = .ok (.iinc 2 1, 3) := by decide +kernel
theorem dX8_rounds_106 : decode cX8_rounds 106 = .ok (.goto (-102), 3) := by decide +kernel
theorem dX8_rounds_109 : decode cX8_rounds 109 = .ok (.iload_n 1, 1) := by decide +kernel
theorem dX8_rounds_110 : decode cX8_rounds 110 = .ok (.ireturn, 1) := by decide +kernel
theorem dX8_rows_0 : decode cX8_rows 0 = .ok (.iload_n 1, 1) := by decide +kernel
theorem dX8_rows_1 : decode cX8_rows 1 = .ok (.i2l, 1) := by decide +kernel
theorem dX8_rows_2 : decode cX8_rows 2 = .ok (.lconst 0, 1) := by decide +kernel
theorem dX8_rows_3 : decode cX8_rows 3 = .ok (.ldc2_w 220, 3) := by decide +kernel
theorem dX8_rows_6 : decode cX8_rows 6 = .ok (.invokestatic 80, 3) := by decide +kernel
theorem dX8_rows_9 : decode cX8_rows 9 = .ok (.ifCond .ne 6, 3) := by decide +kernel
theorem dX8_rows_12 : decode cX8_rows 12 = .ok (.bipush (-2), 2) := by decide +kernel
theorem dX8_rows_14 : decode cX8_rows 14 = .ok (.ireturn, 1) := by decide +kernel
theorem dX8_rows_15 : decode cX8_rows 15 = .ok (.aload_n 0, 1) := by decide +kernel
theorem dX8_rows_16 : decode cX8_rows 16 = .ok (.getfield 77, 3) := by decide +kernel
theorem dX8_rows_19 : decode cX8_rows 19 = .ok (.ifCond .ne 6, 3) := by decide +kernel
theorem dX8_rows_22 : decode cX8_rows 22 = .ok (.bipush (-3), 2) := by decide +kernel
theorem dX8_rows_24 : decode cX8_rows 24 = .ok (.ireturn, 1) := by decide +kernel
theorem dX8_rows_25 : decode cX8_rows 25 = .ok (.aload_n 0, 1) := by decide +kernel
theorem dX8_rows_26 : decode cX8_rows 26 = .ok (.invokevirtual 194, 3) := by decide +kernel
theorem dX8_rows_29 : decode cX8_rows 29 = .ok (.aload_n 0, 1) := by decide +kernel
theorem dX8_rows_30 : decode cX8_rows 30 = .ok (.invokevirtual 170, 3) := by decide +kernel
theorem dX8_rows_33 : decode cX8_rows 33 = .ok (.istore_n 2, 1) := by decide +kernel
theorem dX8_rows_34 : decode cX8_rows 34 = .ok (.iconst 0, 1) := by decide +kernel
theorem dX8_rows_35 : decode cX8_rows 35 = .ok (.istore_n 3, 1) := by decide +kernel
theorem dX8_rows_36 : decode cX8_rows 36 = .ok (.iconst 0, 1) := by decide +kernel
theorem dX8_rows_37 : decode cX8_rows 37 = .ok (.istore 4, 2) := by decide +kernel
theorem dX8_rows_39 : decode cX8_rows 39 = .ok (.iconst 0, 1) := by decide +kernel
theorem dX8_rows_40 : decode cX8_rows 40 = .ok (.istore 5, 2) := by decide +kernel
theorem dX8_rows_42 : decode cX8_rows 42 = .ok (.iload 5, 2) := by decide +kernel
theorem dX8_rows_44 : decode cX8_rows 44 = .ok (.iload_n 2, 1) := by decide +kernel
theorem dX8_rows_45 : decode cX8_rows 45 = .ok (.if_icmp .ge 41, 3) := by decide +kernel
theorem dX8_rows_48 : decode cX8_rows 48 = .ok (.iload_n 3, 1) := by decide +kernel
theorem dX8_rows_49 : decode cX8_rows 49 = .ok (.aload_n 0, 1) := by decide +kernel
theorem dX8_rows_50 : decode cX8_rows 50 = .ok (.getfield 28, 3) := by decide +kernel
theorem dX8_rows_53 : decode cX8_rows 53 = .ok (.iload 5, 2) := by decide +kernel
theorem dX8_rows_55 : decode cX8_rows 55 = .ok (.iaload, 1) := by decide +kernel
theorem dX8_rows_56 : decode cX8_rows 56 = .ok (.iload 5, 2) := by decide +kernel
theorem dX8_rows_58 : decode cX8_rows 58 = .ok (.if_icmp .ne 7, 3) := by decide +kernel
theorem dX8_rows_61 : decode cX8_rows 61 = .ok (.iconst 1, 1) := by decide +kernel
theorem dX8_rows_62 : decode cX8_rows 62 = .ok (.goto 4, 3) := by decide +kernel
theorem dX8_rows_65 : decode cX8_rows 65 = .ok (.iconst 0, 1) := by decide +kernel
theorem dX8_rows_66 : decode cX8_rows 66 = .ok (.iadd, 1) := by decide +kernel
theorem dX8_rows_67 : decode cX8_rows 67 = .ok (.istore_n 3, 1) := by decide +kernel
theorem dX8_rows_68 : decode cX8_rows 68 = .ok (.iload 4, 2) := by decide +kernel
theorem dX8_rows_70 : decode cX8_rows 70 = .ok (.aload_n 0, 1) := by decide +kernel
theorem dX8_rows_71 : decode cX8_rows 71 = .ok (.getfield 40, 3) := by decide +kernel
theorem dX8_rows_74 : decode cX8_rows 74 = .ok (.iload 5, 2) := by decide +kernel
theorem dX8_rows_76 : decode cX8_rows 76 = .ok (.iaload, 1) := by decide +kernel
theorem dX8_rows_77 : decode cX8_rows 77 = .ok (.iadd, 1) := by decide +kernel
theorem dX8_rows_78 : decode cX8_rows 78 = .ok (.istore 4, 2) := by decide +kernel
theorem dX8_rows_80 : decode cX8_rows 80 = .ok (.iinc 5 1, 3) := by decide +kernel
theorem dX8_rows_83 : decode cX8_rows 83 = .ok (.goto (-41), 3) := by decide +kernel
theorem dX8_rows_86 : decode cX8_rows 86 = .ok (.iload_n 1, 1) := by decide +kernel
theorem dX8_rows_87 : decode cX8_rows 87 = .ok (.ifCond .ne 7, 3) := by decide +kernel
theorem dX8_rows_90 : decode cX8_rows 90 = .ok (.iload_n 2, 1) := by decide +kernel
theorem dX8_rows_91 : decode cX8_rows 91 = .ok (.goto 38, 3) := by decide +kernel
theorem dX8_rows_94 : decode cX8_rows 94 = .ok (.iload_n 1, 1) := by decide +kernel
theorem dX8_rows_95 : decode cX8_rows 95 = .ok (.iconst 1, 1) := by decide +kernel
theorem dX8_rows_96 : decode cX8_rows 96 = .ok (.if_icmp .ne 7, 3) := by decide +kernel
theorem dX8_rows_99 : decode cX8_rows 99 = .ok (.iload_n 3, 1) := by decide +kernel
theorem dX8_rows_100 : decode cX8_rows 100 = .ok (.goto 29, 3) := by decide +kernel
theorem dX8_rows_103 : decode cX8_rows 103 = .ok (.iload_n 1, 1) := by decide +kernel
theorem dX8_rows_104 : decode cX8_rows 104 = .ok (.iconst 2, 1) := by decide +kernel
theorem dX8_rows_105 : decode cX8_rows 105 = .ok (.if_icmp .ne 10, 3) := by decide +kernel
theorem dX8_rows_108 : decode cX8_rows 108 = .ok (.aload_n 0, 1) := by decide +kernel
theorem dX8_rows_109 : decode cX8_rows 109 = .ok (.getfield 179, 3) := by decide +kernel
theorem dX8_rows_112 : decode cX8_rows 112 = .ok (.goto 17, 3) := by decide +kernel
theorem dX8_rows_115 : decode cX8_rows 115 = .ok (.iload_n 1, 1) := by decide +kernel
theorem dX8_rows_116 : decode cX8_rows 116 = .ok (.iconst 3, 1) := by decide +kernel
theorem dX8_rows_117 : decode cX8_rows 117 = .ok (.if_icmp .ne 8, 3) := by decide +kernel
theorem dX8_rows_120 : decode cX8_rows 120 = .ok (.iload 4, 2) := by decide +kernel
theorem dX8_rows_122 : decode cX8_rows 122 = .ok (.goto 7, 3) := by decide +kernel
theorem dX8_rows_125 : decode cX8_rows 125 = .ok (.aload_n 0, 1) := by decide +kernel
theorem dX8_rows_126 : decode cX8_rows 126 = .ok (.invokevirtual 234, 3) := by decide +kernel
theorem dX8_rows_129 : decode cX8_rows 129 = .ok (.ireturn, 1) := by decide +kernel
theorem dX8_longest_0 : decode cX8_longest 0 = .ok (.iload_n 1, 1) := by decide +kernel
theorem dX8_longest_1 : decode cX8_longest 1 = .ok (.i2l, 1) := by decide +kernel
theorem dX8_longest_2 : decode cX8_longest 2 = .ok (.ldc2_w 232, 3) := by decide +kernel
theorem dX8_longest_5 : decode cX8_longest 5 = .ok (.ldc2_w 220, 3) := by decide +kernel
theorem dX8_longest_8 : decode cX8_longest 8 = .ok (.invokestatic 80, 3) := by decide +kernel
theorem dX8_longest_11 : decode cX8_longest 11 = .ok (.ifCond .ne 6, 3) := by decide +kernel
theorem dX8_longest_14 : decode cX8_longest 14 = .ok (.bipush (-2), 2) := by decide +kernel
theorem dX8_longest_16 : decode cX8_longest 16 = .ok (.ireturn, 1) := by decide +kernel
theorem dX8_longest_17 : decode cX8_longest 17 = .ok (.aload_n 0, 1) := by decide +kernel
theorem dX8_longest_18 : decode cX8_longest 18 = .ok (.getfield 77, 3) := by decide +kernel
theorem dX8_longest_21 : decode cX8_longest 21 = .ok (.ifCond .ne 6, 3) := by decide +kernel
theorem dX8_longest_24 : decode cX8_longest 24 = .ok (.bipush (-3), 2) := by decide +kernel
theorem dX8_longest_26 : decode cX8_longest 26 = .ok (.ireturn, 1) := by decide +kernel
theorem dX8_longest_27 : decode cX8_longest 27 = .ok (.aload_n 0, 1) := by decide +kernel
theorem dX8_longest_28 : decode cX8_longest 28 = .ok (.invokevirtual 194, 3) := by decide +kernel
theorem dX8_longest_31 : decode cX8_longest 31 = .ok (.iconst 0, 1) := by decide +kernel
theorem dX8_longest_32 : decode cX8_longest 32 = .ok (.istore_n 2, 1) := by decide +kernel
theorem dX8_longest_33 : decode cX8_longest 33 = .ok (.iconst 1, 1) := by decide +kernel
theorem dX8_longest_34 : decode cX8_longest 34 = .ok (.istore_n 3, 1) := by decide +kernel
theorem dX8_longest_35 : decode cX8_longest 35 = .ok (.iload_n 3, 1) := by decide +kernel
theorem dX8_longest_36 : decode cX8_longest 36 = .ok (.aload_n 0, 1) := by decide +kernel
theorem dX8_longest_37 : decode cX8_longest 37 = .ok (.invokevirtual 170, 3) := by decide +kernel
theorem dX8_longest_40 : decode cX8_longest 40 = .ok (.if_icmp .ge 30, 3) := by decide +kernel
theorem dX8_longest_43 : decode cX8_longest 43 = .ok (.aload_n 0, 1) := by decide +kernel
theorem dX8_longest_44 : decode cX8_longest 44 = .ok (.getfield 37, 3) := by decide +kernel
theorem dX8_longest_47 : decode cX8_longest 47 = .ok (.iload_n 3, 1) := by decide +kernel
theorem dX8_longest_48 : decode cX8_longest 48 = .ok (.iaload, 1) := by decide +kernel
theorem dX8_longest_49 : decode cX8_longest 49 = .ok (.aload_n 0, 1) := by decide +kernel
theorem dX8_longest_50 : decode cX8_longest 50 = .ok (.getfield 37, 3) := by decide +kernel
theorem dX8_longest_53 : decode cX8_longest 53 = .ok (.iload_n 2, 1) := by decide +kernel
theorem dX8_longest_54 : decode cX8_longest 54 = .ok (.iaload, 1) := by decide +kernel
theorem dX8_longest_55 : decode cX8_longest 55 = .ok (.if_icmp .le 7, 3) := by decide +kernel
theorem dX8_longest_58 : decode cX8_longest 58 = .ok (.iload_n 3, 1) := by decide +kernel
theorem dX8_longest_59 : decode cX8_longest 59 = .ok (.goto 4, 3) := by decide +kernel
theorem dX8_longest_62 : decode cX8_longest 62 = .ok (.iload_n 2, 1) := by decide +kernel
theorem dX8_longest_63 : decode cX8_longest 63 = .ok (.istore_n 2, 1) := by decide +kernel
theorem dX8_longest_64 : decode cX8_longest 64 = .ok (.iinc 3 1, 3) := by decide +kernel
theorem dX8_longest_67 : decode cX8_longest 67 = .ok (.goto (-32), 3) := by decide +kernel
theorem dX8_longest_70 : decode cX8_longest 70 = .ok (.iload_n 1, 1) := by decide +kernel
theorem dX8_longest_71 : decode cX8_longest 71 = .ok (.ifCond .ge 10, 3) := by decide +kernel
theorem dX8_longest_74 : decode cX8_longest 74 = .ok (.aload_n 0, 1) := by decide +kernel
theorem dX8_longest_75 : decode cX8_longest 75 = .ok (.getfield 37, 3) := by decide +kernel
theorem dX8_longest_78 : decode cX8_longest 78 = .ok (.iload_n 2, 1) := by decide +kernel
theorem dX8_longest_79 : decode cX8_longest 79 = .ok (.iaload, 1) := by decide +kernel
theorem dX8_longest_80 : decode cX8_longest 80 = .ok (.ireturn, 1) := by decide +kernel
theorem dX8_longest_81 : decode cX8_longest 81 = .ok (.aload_n 0, 1) := by decide +kernel
theorem dX8_longest_82 : decode cX8_longest 82 = .ok (.iload_n 2, 1) := by decide +kernel
theorem dX8_longest_83 : decode cX8_longest 83 = .ok (.invokevirtual 173, 3) := by decide +kernel
theorem dX8_longest_86 : decode cX8_longest 86 = .ok (.aload_n 0, 1) := by decide +kernel
theorem dX8_longest_87 : decode cX8_longest 87 = .ok (.iload_n 1, 1) := by decide +kernel
theorem dX8_longest_88 : decode cX8_longest 88 = .ok (.invokevirtual 149, 3) := by decide +kernel
theorem dX8_longest_91 : decode cX8_longest 91 = .ok (.ifCond .eq 8, 3) := by decide +kernel
theorem dX8_longest_94 : decode cX8_longest 94 = .ok (.bipush (-9), 2) := by decide +kernel
theorem dX8_longest_96 : decode cX8_longest 96 = .ok (.goto 9, 3) := by decide +kernel
theorem dX8_longest_99 : decode cX8_longest 99 = .ok (.aload_n 0, 1) := by decide +kernel
theorem dX8_longest_100 : decode cX8_longest 100 = .ok (.getfield 22, 3) := by decide +kernel
theorem dX8_longest_103 : decode cX8_longest 103 = .ok (.iload_n 1, 1) := by decide +kernel
theorem dX8_longest_104 : decode cX8_longest 104 = .ok (.iaload, 1) := by decide +kernel
theorem dX8_longest_105 : decode cX8_longest 105 = .ok (.ireturn, 1) := by decide +kernel
theorem dX8_meet_0 : decode cX8_meet 0 = .ok (.aload_n 0, 1) := by decide +kernel
theorem dX8_meet_1 : decode cX8_meet 1 = .ok (.getfield 77, 3) := by decide +kernel
theorem dX8_meet_4 : decode cX8_meet 4 = .ok (.ifCond .ne 10, 3) := by decide +kernel
theorem dX8_meet_7 : decode cX8_meet 7 = .ok (.aload_n 0, 1) := by decide +kernel
theorem dX8_meet_8 : decode cX8_meet 8 = .ok (.bipush (-3), 2) := by decide +kernel
theorem dX8_meet_10 : decode cX8_meet 10 = .ok (.invokevirtual 117, 3) := by decide +kernel
theorem dX8_meet_13 : decode cX8_meet 13 = .ok (.ireturn, 1) := by decide +kernel
theorem dX8_meet_14 : decode cX8_meet 14 = .ok (.iload_n 1, 1) := by decide +kernel
theorem dX8_meet_15 : decode cX8_meet 15 = .ok (.invokestatic 113, 3) := by decide +kernel
theorem dX8_meet_18 : decode cX8_meet 18 = .ok (.ifCond .eq 9, 3) := by decide +kernel
theorem dX8_meet_21 : decode cX8_meet 21 = .ok (.aload_n 0, 1) := by decide +kernel
theorem dX8_meet_22 : decode cX8_meet 22 = .ok (.iconst (-1), 1) := by decide +kernel
theorem dX8_meet_23 : decode cX8_meet 23 = .ok (.invokevirtual 117, 3) := by decide +kernel
theorem dX8_meet_26 : decode cX8_meet 26 = .ok (.ireturn, 1) := by decide +kernel
theorem dX8_meet_27 : decode cX8_meet 27 = .ok (.iload_n 2, 1) := by decide +kernel
theorem dX8_meet_28 : decode cX8_meet 28 = .ok (.i2l, 1) := by decide +kernel
theorem dX8_meet_29 : decode cX8_meet 29 = .ok (.lconst 0, 1) := by decide +kernel
theorem dX8_meet_30 : decode cX8_meet 30 = .ok (.ldc2_w 97, 3) := by decide +kernel
theorem dX8_meet_33 : decode cX8_meet 33 = .ok (.invokestatic 80, 3) := by decide +kernel
theorem dX8_meet_36 : decode cX8_meet 36 = .ok (.ifCond .ne 10, 3) := by decide +kernel
theorem dX8_meet_39 : decode cX8_meet 39 = .ok (.aload_n 0, 1) := by decide +kernel
theorem dX8_meet_40 : decode cX8_meet 40 = .ok (.bipush (-2), 2) := by decide +kernel
theorem dX8_meet_42 : decode cX8_meet 42 = .ok (.invokevirtual 117, 3) := by decide +kernel
theorem dX8_meet_45 : decode cX8_meet 45 = .ok (.ireturn, 1) := by decide +kernel
theorem dX8_meet_46 : decode cX8_meet 46 = .ok (.aload_n 0, 1) := by decide +kernel
theorem dX8_meet_47 : decode cX8_meet 47 = .ok (.iload_n 1, 1) := by decide +kernel
theorem dX8_meet_48 : decode cX8_meet 48 = .ok (.iload_n 2, 1) := by decide +kernel
theorem dX8_meet_49 : decode cX8_meet 49 = .ok (.iload_n 3, 1) := by decide +kernel
theorem dX8_meet_50 : decode cX8_meet 50 = .ok (.aload_n 0, 1) := by decide +kernel
theorem dX8_meet_51 : decode cX8_meet 51 = .ok (.getfield 77, 3) := by decide +kernel
theorem dX8_meet_54 : decode cX8_meet 54 = .ok (.i2l, 1) := by decide +kernel
theorem dX8_meet_55 : decode cX8_meet 55 = .ok (.invokevirtual 120, 3) := by decide +kernel
theorem dX8_meet_58 : decode cX8_meet 58 = .ok (.istore 4, 2) := by decide +kernel
theorem dX8_meet_60 : decode cX8_meet 60 = .ok (.iload 4, 2) := by decide +kernel
theorem dX8_meet_62 : decode cX8_meet 62 = .ok (.ifCond .ge 6, 3) := by decide +kernel
theorem dX8_meet_65 : decode cX8_meet 65 = .ok (.iload 4, 2) := by decide +kernel
theorem dX8_meet_67 : decode cX8_meet 67 = .ok (.ireturn, 1) := by decide +kernel
theorem dX8_meet_68 : decode cX8_meet 68 = .ok (.iconst 0, 1) := by decide +kernel
theorem dX8_meet_69 : decode cX8_meet 69 = .ok (.istore 5, 2) := by decide +kernel
theorem dX8_meet_71 : decode cX8_meet 71 = .ok (.iconst 0, 1) := by decide +kernel
theorem dX8_meet_72 : decode cX8_meet 72 = .ok (.istore 6, 2) := by decide +kernel
theorem dX8_meet_74 : decode cX8_meet 74 = .ok (.iload 6, 2) := by decide +kernel
theorem dX8_meet_76 : decode cX8_meet 76 = .ok (.aload_n 0, 1) := by decide +kernel
theorem dX8_meet_77 : decode cX8_meet 77 = .ok (.getfield 77, 3) := by decide +kernel
theorem dX8_meet_80 : decode cX8_meet 80 = .ok (.if_icmp .ge 61, 3) := by decide +kernel
theorem dX8_meet_83 : decode cX8_meet 83 = .ok (.aload_n 0, 1) := by decide +kernel
theorem dX8_meet_84 : decode cX8_meet 84 = .ok (.aload_n 0, 1) := by decide +kernel
theorem dX8_meet_85 : decode cX8_meet 85 = .ok (.getfield 61, 3) := by decide +kernel
theorem dX8_meet_88 : decode cX8_meet 88 = .ok (.bipush 60, 2) := by decide +kernel
theorem dX8_meet_90 : decode cX8_meet 90 = .ok (.iload_n 1, 1) := by decide +kernel
theorem dX8_meet_91 : decode cX8_meet 91 = .ok (.imul, 1) := by decide +kernel
theorem dX8_meet_92 : decode cX8_meet 92 = .ok (.iload_n 3, 1) := by decide +kernel
theorem dX8_meet_93 : decode cX8_meet 93 = .ok (.iadd, 1) := by decide +kernel
theorem dX8_meet_94 : decode cX8_meet 94 = .ok (.iload 6, 2) := by decide +kernel
theorem dX8_meet_96 : decode cX8_meet 96 = .ok (.iadd, 1) := by decide +kernel
theorem dX8_meet_97 : decode cX8_meet 97 = .ok (.iaload, 1) := by decide +kernel
theorem dX8_meet_98 : decode cX8_meet 98 = .ok (.invokevirtual 152, 3) := by decide +kernel
theorem dX8_meet_101 : decode cX8_meet 101 = .ok (.ifCond .ne 10, 3) := by decide +kernel
theorem dX8_meet_104 : decode cX8_meet 104 = .ok (.aload_n 0, 1) := by decide +kernel
theorem dX8_meet_105 : decode cX8_meet 105 = .ok (.bipush (-2), 2) := by decide +kernel
theorem dX8_meet_107 : decode cX8_meet 107 = .ok (.invokevirtual 117, 3) := by decide +kernel
theorem dX8_meet_110 : decode cX8_meet 110 = .ok (.ireturn, 1) := by decide +kernel
theorem dX8_meet_111 : decode cX8_meet 111 = .ok (.aload_n 0, 1) := by decide +kernel
theorem dX8_meet_112 : decode cX8_meet 112 = .ok (.getfield 127, 3) := by decide +kernel
theorem dX8_meet_115 : decode cX8_meet 115 = .ok (.iload 5, 2) := by decide +kernel
theorem dX8_meet_117 : decode cX8_meet 117 = .ok (.imul, 1) := by decide +kernel
theorem dX8_meet_118 : decode cX8_meet 118 = .ok (.aload_n 0, 1) := by decide +kernel
theorem dX8_meet_119 : decode cX8_meet 119 = .ok (.getfield 61, 3) := by decide +kernel
theorem dX8_meet_122 : decode cX8_meet 122 = .ok (.bipush 60, 2) := by decide +kernel
theorem dX8_meet_124 : decode cX8_meet 124 = .ok (.iload_n 1, 1) := by decide +kernel
theorem dX8_meet_125 : decode cX8_meet 125 = .ok (.imul, 1) := by decide +kernel
theorem dX8_meet_126 : decode cX8_meet 126 = .ok (.iload_n 3, 1) := by decide +kernel
theorem dX8_meet_127 : decode cX8_meet 127 = .ok (.iadd, 1) := by decide +kernel
theorem dX8_meet_128 : decode cX8_meet 128 = .ok (.iload 6, 2) := by decide +kernel
theorem dX8_meet_130 : decode cX8_meet 130 = .ok (.iadd, 1) := by decide +kernel
theorem dX8_meet_131 : decode cX8_meet 131 = .ok (.iaload, 1) := by decide +kernel
theorem dX8_meet_132 : decode cX8_meet 132 = .ok (.iadd, 1) := by decide +kernel
theorem dX8_meet_133 : decode cX8_meet 133 = .ok (.istore 5, 2) := by decide +kernel
theorem dX8_meet_135 : decode cX8_meet 135 = .ok (.iinc 6 1, 3) := by decide +kernel
theorem dX8_meet_138 : decode cX8_meet 138 = .ok (.goto (-64), 3) := by decide +kernel
theorem dX8_meet_141 : decode cX8_meet 141 = .ok (.aload_n 0, 1) := by decide +kernel
theorem dX8_meet_142 : decode cX8_meet 142 = .ok (.invokevirtual 191, 3) := by decide +kernel
theorem dX8_meet_145 : decode cX8_meet 145 = .ok (.istore 6, 2) := by decide +kernel
theorem dX8_meet_147 : decode cX8_meet 147 = .ok (.aload_n 0, 1) := by decide +kernel
theorem dX8_meet_148 : decode cX8_meet 148 = .ok (.invokevirtual 194, 3) := by decide +kernel
theorem dX8_meet_151 : decode cX8_meet 151 = .ok (.iconst 0, 1) := by decide +kernel
theorem dX8_meet_152 : decode cX8_meet 152 = .ok (.istore 7, 2) := by decide +kernel
theorem dX8_meet_154 : decode cX8_meet 154 = .ok (.iload 7, 2) := by decide +kernel
theorem dX8_meet_156 : decode cX8_meet 156 = .ok (.sipush 7776, 3) := by decide +kernel
theorem dX8_meet_159 : decode cX8_meet 159 = .ok (.if_icmp .gt 34, 3) := by decide +kernel
theorem dX8_meet_162 : decode cX8_meet 162 = .ok (.iload 6, 2) := by decide +kernel
theorem dX8_meet_164 : decode cX8_meet 164 = .ok (.iload 5, 2) := by decide +kernel
theorem dX8_meet_166 : decode cX8_meet 166 = .ok (.if_icmp .eq 27, 3) := by decide +kernel
theorem dX8_meet_169 : decode cX8_meet 169 = .ok (.aload_n 0, 1) := by decide +kernel
theorem dX8_meet_170 : decode cX8_meet 170 = .ok (.getfield 28, 3) := by decide +kernel
theorem dX8_meet_173 : decode cX8_meet 173 = .ok (.iload 6, 2) := by decide +kernel
theorem dX8_meet_175 : decode cX8_meet 175 = .ok (.iaload, 1) := by decide +kernel
theorem dX8_meet_176 : decode cX8_meet 176 = .ok (.istore 6, 2) := by decide +kernel
theorem dX8_meet_178 : decode cX8_meet 178 = .ok (.aload_n 0, 1) := by decide +kernel
theorem dX8_meet_179 : decode cX8_meet 179 = .ok (.getfield 28, 3) := by decide +kernel
theorem dX8_meet_182 : decode cX8_meet 182 = .ok (.iload 5, 2) := by decide +kernel
theorem dX8_meet_184 : decode cX8_meet 184 = .ok (.iaload, 1) := by decide +kernel
theorem dX8_meet_185 : decode cX8_meet 185 = .ok (.istore 5, 2) := by decide +kernel
theorem dX8_meet_187 : decode cX8_meet 187 = .ok (.iinc 7 1, 3) := by decide +kernel
theorem dX8_meet_190 : decode cX8_meet 190 = .ok (.goto (-36), 3) := by decide +kernel
theorem dX8_meet_193 : decode cX8_meet 193 = .ok (.aload_n 0, 1) := by decide +kernel
theorem dX8_meet_194 : decode cX8_meet 194 = .ok (.iload 6, 2) := by decide +kernel
theorem dX8_meet_196 : decode cX8_meet 196 = .ok (.iload 5, 2) := by decide +kernel
theorem dX8_meet_198 : decode cX8_meet 198 = .ok (.if_icmp .ne 8, 3) := by decide +kernel
theorem dX8_meet_201 : decode cX8_meet 201 = .ok (.iload 7, 2) := by decide +kernel
theorem dX8_meet_203 : decode cX8_meet 203 = .ok (.goto 5, 3) := by decide +kernel
theorem dX8_meet_206 : decode cX8_meet 206 = .ok (.bipush (-9), 2) := by decide +kernel
theorem dX8_meet_208 : decode cX8_meet 208 = .ok (.invokevirtual 117, 3) := by decide +kernel
theorem dX8_meet_211 : decode cX8_meet 211 = .ok (.ireturn, 1) := by decide +kernel
theorem dX8_unlikeNow_0 : decode cX8_unlikeNow 0 = .ok (.aload_n 0, 1) := by decide +kernel
theorem dX8_unlikeNow_1 : decode cX8_unlikeNow 1 = .ok (.iload_n 1, 1) := by decide +kernel
theorem dX8_unlikeNow_2 : decode cX8_unlikeNow 2 = .ok (.invokevirtual 173, 3) := by decide +kernel
theorem dX8_unlikeNow_5 : decode cX8_unlikeNow 5 = .ok (.iconst 0, 1) := by decide +kernel
theorem dX8_unlikeNow_6 : decode cX8_unlikeNow 6 = .ok (.istore_n 2, 1) := by decide +kernel
theorem dX8_unlikeNow_7 : decode cX8_unlikeNow 7 = .ok (.iconst 0, 1) := by decide +kernel
theorem dX8_unlikeNow_8 : decode cX8_unlikeNow 8 = .ok (.istore_n 3, 1) := by decide +kernel
theorem dX8_unlikeNow_9 : decode cX8_unlikeNow 9 = .ok (.iload_n 3, 1) := by decide +kernel
theorem dX8_unlikeNow_10 : decode cX8_unlikeNow 10 = .ok (.aload_n 0, 1) := by decide +kernel
theorem dX8_unlikeNow_11 : decode cX8_unlikeNow 11 = .ok (.getfield 77, 3) := by decide +kernel
theorem dX8_unlikeNow_14 : decode cX8_unlikeNow 14 = .ok (.if_icmp .ge 34, 3) := by decide +kernel
theorem dX8_unlikeNow_17 : decode cX8_unlikeNow 17 = .ok (.iload_n 2, 1) := by decide +kernel
theorem dX8_unlikeNow_18 : decode cX8_unlikeNow 18 = .ok (.aload_n 0, 1) := by decide +kernel
theorem dX8_unlikeNow_19 : decode cX8_unlikeNow 19 = .ok (.getfield 22, 3) := by decide +kernel
theorem dX8_unlikeNow_22 : decode cX8_unlikeNow 22 = .ok (.iload_n 3, 1) := by decide +kernel
theorem dX8_unlikeNow_23 : decode cX8_unlikeNow 23 = .ok (.iaload, 1) := by decide +kernel
theorem dX8_unlikeNow_24 : decode cX8_unlikeNow 24 = .ok (.aload_n 0, 1) := by decide +kernel
theorem dX8_unlikeNow_25 : decode cX8_unlikeNow 25 = .ok (.getfield 13, 3) := by decide +kernel
theorem dX8_unlikeNow_28 : decode cX8_unlikeNow 28 = .ok (.iload_n 3, 1) := by decide +kernel
theorem dX8_unlikeNow_29 : decode cX8_unlikeNow 29 = .ok (.iaload, 1) := by decide +kernel
theorem dX8_unlikeNow_30 : decode cX8_unlikeNow 30 = .ok (.if_icmp .eq 9, 3) := by decide +kernel
theorem dX8_unlikeNow_33 : decode cX8_unlikeNow 33 = .ok (.iconst 1, 1) := by decide +kernel
theorem dX8_unlikeNow_34 : decode cX8_unlikeNow 34 = .ok (.iload_n 3, 1) := by decide +kernel
theorem dX8_unlikeNow_35 : decode cX8_unlikeNow 35 = .ok (.ishl, 1) := by decide +kernel
theorem dX8_unlikeNow_36 : decode cX8_unlikeNow 36 = .ok (.goto 4, 3) := by decide +kernel
theorem dX8_unlikeNow_39 : decode cX8_unlikeNow 39 = .ok (.iconst 0, 1) := by decide +kernel
theorem dX8_unlikeNow_40 : decode cX8_unlikeNow 40 = .ok (.ior, 1) := by decide +kernel
theorem dX8_unlikeNow_41 : decode cX8_unlikeNow 41 = .ok (.istore_n 2, 1) := by decide +kernel
theorem dX8_unlikeNow_42 : decode cX8_unlikeNow 42 = .ok (.iinc 3 1, 3) := by decide +kernel
theorem dX8_unlikeNow_45 : decode cX8_unlikeNow 45 = .ok (.goto (-36), 3) := by decide +kernel
theorem dX8_unlikeNow_48 : decode cX8_unlikeNow 48 = .ok (.iload_n 2, 1) := by decide +kernel
theorem dX8_unlikeNow_49 : decode cX8_unlikeNow 49 = .ok (.ireturn, 1) := by decide +kernel
theorem dX8_few_0 : decode cX8_few 0 = .ok (.iload_n 1, 1) := by decide +kernel
theorem dX8_few_1 : decode cX8_few 1 = .ok (.i2l, 1) := by decide +kernel
theorem dX8_few_2 : decode cX8_few 2 = .ok (.lconst 0, 1) := by decide +kernel
theorem dX8_few_3 : decode cX8_few 3 = .ok (.lconst 1, 1) := by decide +kernel
theorem dX8_few_4 : decode cX8_few 4 = .ok (.invokestatic 80, 3) := by decide +kernel
theorem dX8_few_7 : decode cX8_few 7 = .ok (.ifCond .ne 6, 3) := by decide +kernel
theorem dX8_few_10 : decode cX8_few 10 = .ok (.bipush (-2), 2) := by decide +kernel
theorem dX8_few_12 : decode cX8_few 12 = .ok (.ireturn, 1) := by decide +kernel
theorem dX8_few_13 : decode cX8_few 13 = .ok (.aload_n 0, 1) := by decide +kernel
theorem dX8_few_14 : decode cX8_few 14 = .ok (.getfield 77, 3) := by decide +kernel
theorem dX8_few_17 : decode cX8_few 17 = .ok (.ifCond .ne 6, 3) := by decide +kernel
theorem dX8_few_20 : decode cX8_few 20 = .ok (.bipush (-3), 2) := by decide +kernel
theorem dX8_few_22 : decode cX8_few 22 = .ok (.ireturn, 1) := by decide +kernel
theorem dX8_few_23 : decode cX8_few 23 = .ok (.aload_n 0, 1) := by decide +kernel
theorem dX8_few_24 : decode cX8_few 24 = .ok (.invokevirtual 194, 3) := by decide +kernel
theorem dX8_few_27 : decode cX8_few 27 = .ok (.aload_n 0, 1) := by decide +kernel
theorem dX8_few_28 : decode cX8_few 28 = .ok (.iconst 0, 1) := by decide +kernel
theorem dX8_few_29 : decode cX8_few 29 = .ok (.invokevirtual 237, 3) := by decide +kernel
theorem dX8_few_32 : decode cX8_few 32 = .ok (.istore_n 2, 1) := by decide +kernel
theorem dX8_few_33 : decode cX8_few 33 = .ok (.iconst 1, 1) := by decide +kernel
theorem dX8_few_34 : decode cX8_few 34 = .ok (.istore_n 3, 1) := by decide +kernel
theorem dX8_few_35 : decode cX8_few 35 = .ok (.iload_n 3, 1) := by decide +kernel
theorem dX8_few_36 : decode cX8_few 36 = .ok (.aload_n 0, 1) := by decide +kernel
theorem dX8_few_37 : decode cX8_few 37 = .ok (.invokevirtual 170, 3) := by decide +kernel
theorem dX8_few_40 : decode cX8_few 40 = .ok (.if_icmp .ge 75, 3) := by decide +kernel
theorem dX8_few_43 : decode cX8_few 43 = .ok (.aload_n 0, 1) := by decide +kernel
theorem dX8_few_44 : decode cX8_few 44 = .ok (.iload_n 3, 1) := by decide +kernel
theorem dX8_few_45 : decode cX8_few 45 = .ok (.invokevirtual 237, 3) := by decide +kernel
theorem dX8_few_48 : decode cX8_few 48 = .ok (.istore 4, 2) := by decide +kernel
theorem dX8_few_50 : decode cX8_few 50 = .ok (.aload_n 0, 1) := by decide +kernel
theorem dX8_few_51 : decode cX8_few 51 = .ok (.getfield 40, 3) := by decide +kernel
theorem dX8_few_54 : decode cX8_few 54 = .ok (.iload_n 3, 1) := by decide +kernel
theorem dX8_few_55 : decode cX8_few 55 = .ok (.iaload, 1) := by decide +kernel
theorem dX8_few_56 : decode cX8_few 56 = .ok (.iconst 1, 1) := by decide +kernel
theorem dX8_few_57 : decode cX8_few 57 = .ok (.if_icmp .ne 37, 3) := by decide +kernel
theorem dX8_few_60 : decode cX8_few 60 = .ok (.iload 4, 2) := by decide +kernel
theorem dX8_few_62 : decode cX8_few 62 = .ok (.invokestatic 240, 3) := by decide +kernel
theorem dX8_few_65 : decode cX8_few 65 = .ok (.iload_n 2, 1) := by decide +kernel
theorem dX8_few_66 : decode cX8_few 66 = .ok (.invokestatic 240, 3) := by decide +kernel
theorem dX8_few_69 : decode cX8_few 69 = .ok (.if_icmp .lt 21, 3) := by decide +kernel
theorem dX8_few_72 : decode cX8_few 72 = .ok (.iload 4, 2) := by decide +kernel
theorem dX8_few_74 : decode cX8_few 74 = .ok (.invokestatic 240, 3) := by decide +kernel
theorem dX8_few_77 : decode cX8_few 77 = .ok (.iload_n 2, 1) := by decide +kernel
theorem dX8_few_78 : decode cX8_few 78 = .ok (.invokestatic 240, 3) := by decide +kernel
theorem dX8_few_81 : decode cX8_few 81 = .ok (.if_icmp .ne 13, 3) := by decide +kernel
theorem dX8_few_84 : decode cX8_few 84 = .ok (.iload 4, 2) := by decide +kernel
theorem dX8_few_86 : decode cX8_few 86 = .ok (.iload_n 2, 1) := by decide +kernel
theorem dX8_few_87 : decode cX8_few 87 = .ok (.if_icmp .ge 7, 3) := by decide +kernel
theorem dX8_few_90 : decode cX8_few 90 = .ok (.iconst 1, 1) := by decide +kernel
theorem dX8_few_91 : decode cX8_few 91 = .ok (.goto 4, 3) := by decide +kernel
theorem dX8_few_94 : decode cX8_few 94 = .ok (.iconst 0, 1) := by decide +kernel
theorem dX8_few_95 : decode cX8_few 95 = .ok (.istore 5, 2) := by decide +kernel
theorem dX8_few_97 : decode cX8_few 97 = .ok (.iload 5, 2) := by decide +kernel
theorem dX8_few_99 : decode cX8_few 99 = .ok (.ifCond .eq 8, 3) := by decide +kernel
theorem dX8_few_102 : decode cX8_few 102 = .ok (.iload 4, 2) := by decide +kernel
theorem dX8_few_104 : decode cX8_few 104 = .ok (.goto 4, 3) := by decide +kernel
theorem dX8_few_107 : decode cX8_few 107 = .ok (.iload_n 2, 1) := by decide +kernel
theorem dX8_few_108 : decode cX8_few 108 = .ok (.istore_n 2, 1) := by decide +kernel
theorem dX8_few_109 : decode cX8_few 109 = .ok (.iinc 3 1, 3) := by decide +kernel
theorem dX8_few_112 : decode cX8_few 112 = .ok (.goto (-77), 3) := by decide +kernel
theorem dX8_few_115 : decode cX8_few 115 = .ok (.iload_n 1, 1) := by decide +kernel
theorem dX8_few_116 : decode cX8_few 116 = .ok (.ifCond .ne 10, 3) := by decide +kernel
theorem dX8_few_119 : decode cX8_few 119 = .ok (.iload_n 2, 1) := by decide +kernel
theorem dX8_few_120 : decode cX8_few 120 = .ok (.invokestatic 240, 3) := by decide +kernel
theorem dX8_few_123 : decode cX8_few 123 = .ok (.goto 4, 3) := by decide +kernel
theorem dX8_few_126 : decode cX8_few 126 = .ok (.iload_n 2, 1) := by decide +kernel
theorem dX8_few_127 : decode cX8_few 127 = .ok (.ireturn, 1) := by decide +kernel
theorem dX8_reading_0 : decode cX8_reading 0 = .ok (.aload_n 0, 1) := by decide +kernel
theorem dX8_reading_1 : decode cX8_reading 1 = .ok (.iload_n 2, 1) := by decide +kernel
theorem dX8_reading_2 : decode cX8_reading 2 = .ok (.invokevirtual 149, 3) := by decide +kernel
theorem dX8_reading_5 : decode cX8_reading 5 = .ok (.ifCond .eq 5, 3) := by decide +kernel
theorem dX8_reading_8 : decode cX8_reading 8 = .ok (.iconst (-1), 1) := by decide +kernel
theorem dX8_reading_9 : decode cX8_reading 9 = .ok (.ireturn, 1) := by decide +kernel
theorem dX8_reading_10 : decode cX8_reading 10 = .ok (.iload_n 1, 1) := by decide +kernel
theorem dX8_reading_11 : decode cX8_reading 11 = .ok (.i2l, 1) := by decide +kernel
theorem dX8_reading_12 : decode cX8_reading 12 = .ok (.lconst 0, 1) := by decide +kernel
theorem dX8_reading_13 : decode cX8_reading 13 = .ok (.ldc2_w 158, 3) := by decide +kernel
theorem dX8_reading_16 : decode cX8_reading 16 = .ok (.invokestatic 80, 3) := by decide +kernel
theorem dX8_reading_19 : decode cX8_reading 19 = .ok (.ifCond .eq 15, 3) := by decide +kernel
theorem dX8_reading_22 : decode cX8_reading 22 = .ok (.iload_n 3, 1) := by decide +kernel
theorem dX8_reading_23 : decode cX8_reading 23 = .ok (.i2l, 1) := by decide +kernel
theorem dX8_reading_24 : decode cX8_reading 24 = .ok (.lconst 0, 1) := by decide +kernel
theorem dX8_reading_25 : decode cX8_reading 25 = .ok (.ldc2_w 226, 3) := by decide +kernel
theorem dX8_reading_28 : decode cX8_reading 28 = .ok (.invokestatic 80, 3) := by decide +kernel
theorem dX8_reading_31 : decode cX8_reading 31 = .ok (.ifCond .ne 6, 3) := by decide +kernel
theorem dX8_reading_34 : decode cX8_reading 34 = .ok (.bipush (-2), 2) := by decide +kernel
theorem dX8_reading_36 : decode cX8_reading 36 = .ok (.ireturn, 1) := by decide +kernel
theorem dX8_reading_37 : decode cX8_reading 37 = .ok (.aload_n 0, 1) := by decide +kernel
theorem dX8_reading_38 : decode cX8_reading 38 = .ok (.getfield 133, 3) := by decide +kernel
theorem dX8_reading_41 : decode cX8_reading 41 = .ok (.bipush 8, 2) := by decide +kernel
theorem dX8_reading_43 : decode cX8_reading 43 = .ok (.if_icmp .ne 6, 3) := by decide +kernel
theorem dX8_reading_46 : decode cX8_reading 46 = .ok (.bipush (-4), 2) := by decide +kernel
theorem dX8_reading_48 : decode cX8_reading 48 = .ok (.ireturn, 1) := by decide +kernel
theorem dX8_reading_49 : decode cX8_reading 49 = .ok (.aload_n 0, 1) := by decide +kernel
theorem dX8_reading_50 : decode cX8_reading 50 = .ok (.getfield 46, 3) := by decide +kernel
theorem dX8_reading_53 : decode cX8_reading 53 = .ok (.aload_n 0, 1) := by decide +kernel
theorem dX8_reading_54 : decode cX8_reading 54 = .ok (.getfield 133, 3) := by decide +kernel
theorem dX8_reading_57 : decode cX8_reading 57 = .ok (.iload_n 1, 1) := by decide +kernel
theorem dX8_reading_58 : decode cX8_reading 58 = .ok (.iastore, 1) := by decide +kernel
theorem dX8_reading_59 : decode cX8_reading 59 = .ok (.aload_n 0, 1) := by decide +kernel
theorem dX8_reading_60 : decode cX8_reading 60 = .ok (.getfield 49, 3) := by decide +kernel
theorem dX8_reading_63 : decode cX8_reading 63 = .ok (.aload_n 0, 1) := by decide +kernel
theorem dX8_reading_64 : decode cX8_reading 64 = .ok (.getfield 133, 3) := by decide +kernel
theorem dX8_reading_67 : decode cX8_reading 67 = .ok (.iload_n 2, 1) := by decide +kernel
theorem dX8_reading_68 : decode cX8_reading 68 = .ok (.iastore, 1) := by decide +kernel
theorem dX8_reading_69 : decode cX8_reading 69 = .ok (.aload_n 0, 1) := by decide +kernel
theorem dX8_reading_70 : decode cX8_reading 70 = .ok (.getfield 52, 3) := by decide +kernel
theorem dX8_reading_73 : decode cX8_reading 73 = .ok (.aload_n 0, 1) := by decide +kernel
theorem dX8_reading_74 : decode cX8_reading 74 = .ok (.getfield 133, 3) := by decide +kernel
theorem dX8_reading_77 : decode cX8_reading 77 = .ok (.iload_n 3, 1) := by decide +kernel
theorem dX8_reading_78 : decode cX8_reading 78 = .ok (.iastore, 1) := by decide +kernel
theorem dX8_reading_79 : decode cX8_reading 79 = .ok (.aload_n 0, 1) := by decide +kernel
theorem dX8_reading_80 : decode cX8_reading 80 = .ok (.dup, 1) := by decide +kernel
theorem dX8_reading_81 : decode cX8_reading 81 = .ok (.getfield 133, 3) := by decide +kernel
theorem dX8_reading_84 : decode cX8_reading 84 = .ok (.iconst 1, 1) := by decide +kernel
theorem dX8_reading_85 : decode cX8_reading 85 = .ok (.iadd, 1) := by decide +kernel
theorem dX8_reading_86 : decode cX8_reading 86 = .ok (.putfield 133, 3) := by decide +kernel
theorem dX8_reading_89 : decode cX8_reading 89 = .ok (.aload_n 0, 1) := by decide +kernel
theorem dX8_reading_90 : decode cX8_reading 90 = .ok (.getfield 133, 3) := by decide +kernel
theorem dX8_reading_93 : decode cX8_reading 93 = .ok (.iconst 1, 1) := by decide +kernel
theorem dX8_reading_94 : decode cX8_reading 94 = .ok (.isub, 1) := by decide +kernel
theorem dX8_reading_95 : decode cX8_reading 95 = .ok (.ireturn, 1) := by decide +kernel
theorem dX8_back_0 : decode cX8_back 0 = .ok (.iload_n 1, 1) := by decide +kernel
theorem dX8_back_1 : decode cX8_back 1 = .ok (.i2l, 1) := by decide +kernel
theorem dX8_back_2 : decode cX8_back 2 = .ok (.lconst 0, 1) := by decide +kernel
theorem dX8_back_3 : decode cX8_back 3 = .ok (.aload_n 0, 1) := by decide +kernel
theorem dX8_back_4 : decode cX8_back 4 = .ok (.getfield 133, 3) := by decide +kernel
theorem dX8_back_7 : decode cX8_back 7 = .ok (.i2l, 1) := by decide +kernel
theorem dX8_back_8 : decode cX8_back 8 = .ok (.invokestatic 80, 3) := by decide +kernel
theorem dX8_back_11 : decode cX8_back 11 = .ok (.ifCond .ne 6, 3) := by decide +kernel
theorem dX8_back_14 : decode cX8_back 14 = .ok (.bipush (-2), 2) := by decide +kernel
theorem dX8_back_16 : decode cX8_back 16 = .ok (.ireturn, 1) := by decide +kernel
theorem dX8_back_17 : decode cX8_back 17 = .ok (.aload_n 0, 1) := by decide +kernel
theorem dX8_back_18 : decode cX8_back 18 = .ok (.dup, 1) := by decide +kernel
theorem dX8_back_19 : decode cX8_back 19 = .ok (.getfield 133, 3) := by decide +kernel
theorem dX8_back_22 : decode cX8_back 22 = .ok (.iload_n 1, 1) := by decide +kernel
theorem dX8_back_23 : decode cX8_back 23 = .ok (.isub, 1) := by decide +kernel
theorem dX8_back_24 : decode cX8_back 24 = .ok (.putfield 133, 3) := by decide +kernel
theorem dX8_back_27 : decode cX8_back 27 = .ok (.aload_n 0, 1) := by decide +kernel
theorem dX8_back_28 : decode cX8_back 28 = .ok (.getfield 133, 3) := by decide +kernel
theorem dX8_back_31 : decode cX8_back 31 = .ok (.ireturn, 1) := by decide +kernel
theorem dX8_isSo_0 : decode cX8_isSo 0 = .ok (.aload_n 0, 1) := by decide +kernel
theorem dX8_isSo_1 : decode cX8_isSo 1 = .ok (.invokevirtual 142, 3) := by decide +kernel
theorem dX8_isSo_4 : decode cX8_isSo 4 = .ok (.iconst 0, 1) := by decide +kernel
theorem dX8_isSo_5 : decode cX8_isSo 5 = .ok (.istore_n 2, 1) := by decide +kernel
theorem dX8_isSo_6 : decode cX8_isSo 6 = .ok (.iload_n 2, 1) := by decide +kernel
theorem dX8_isSo_7 : decode cX8_isSo 7 = .ok (.aload_n 0, 1) := by decide +kernel
theorem dX8_isSo_8 : decode cX8_isSo 8 = .ok (.getfield 46, 3) := by decide +kernel
theorem dX8_isSo_11 : decode cX8_isSo 11 = .ok (.iload_n 1, 1) := by decide +kernel
theorem dX8_isSo_12 : decode cX8_isSo 12 = .ok (.iaload, 1) := by decide +kernel
theorem dX8_isSo_13 : decode cX8_isSo 13 = .ok (.if_icmp .ge 13, 3) := by decide +kernel
theorem dX8_isSo_16 : decode cX8_isSo 16 = .ok (.aload_n 0, 1) := by decide +kernel
theorem dX8_isSo_17 : decode cX8_isSo 17 = .ok (.invokevirtual 155, 3) := by decide +kernel
theorem dX8_isSo_20 : decode cX8_isSo 20 = .ok (.iinc 2 1, 3) := by decide +kernel
theorem dX8_isSo_23 : decode cX8_isSo 23 = .ok (.goto (-17), 3) := by decide +kernel
theorem dX8_isSo_26 : decode cX8_isSo 26 = .ok (.aload_n 0, 1) := by decide +kernel
