theorem dX5_howMany_8 : decode cX5_howMany 8 = .ok (.aload_n 0, 1) := by decide +kernel
theorem dX5_howMany_9 : decode cX5_howMany 9 = .ok (.getfield 21, 3) := by decide +kernel
theorem dX5_howMany_12 : decode cX5_howMany 12 = .ok (.if_icmp .ge 37, 3) := by decide +kernel
theorem dX5_howMany_15 : decode cX5_howMany 15 = .ok (.aload_n 1, 1) := by decide +kernel
theorem dX5_howMany_16 : decode cX5_howMany 16 = .ok (.aload_n 0, 1) := by decide +kernel
theorem dX5_howMany_17 : decode cX5_howMany 17 = .ok (.getfield 9, 3) := by decide +kernel
theorem dX5_howMany_20 : decode cX5_howMany 20 = .ok (.iload 5, 2) := by decide +kernel
theorem dX5_howMany_22 : decode cX5_howMany 22 = .ok (.iaload, 1) := by decide +kernel
theorem dX5_howMany_23 : decode cX5_howMany 23 = .ok (.iload_n 2, 1) := by decide +kernel
theorem dX5_howMany_24 : decode cX5_howMany 24 = .ok (.invokevirtual 48, 3) := by decide +kernel
theorem dX5_howMany_27 : decode cX5_howMany 27 = .ok (.iload_n 3, 1) := by decide +kernel
theorem dX5_howMany_28 : decode cX5_howMany 28 = .ok (.if_icmp .ne 15, 3) := by decide +kernel
theorem dX5_howMany_31 : decode cX5_howMany 31 = .ok (.iload 4, 2) := by decide +kernel
theorem dX5_howMany_33 : decode cX5_howMany 33 = .ok (.aload_n 0, 1) := by decide +kernel
theorem dX5_howMany_34 : decode cX5_howMany 34 = .ok (.getfield 15, 3) := by decide +kernel
theorem dX5_howMany_37 : decode cX5_howMany 37 = .ok (.iload 5, 2) := by decide +kernel
theorem dX5_howMany_39 : decode cX5_howMany 39 = .ok (.iaload, 1) := by decide +kernel
theorem dX5_howMany_40 : decode cX5_howMany 40 = .ok (.iadd, 1) := by decide +kernel
theorem dX5_howMany_41 : decode cX5_howMany 41 = .ok (.istore 4, 2) := by decide +kernel
theorem dX5_howMany_43 : decode cX5_howMany 43 = .ok (.iinc 5 1, 3) := by decide +kernel
theorem dX5_howMany_46 : decode cX5_howMany 46 = .ok (.goto (-40), 3) := by decide +kernel
theorem dX5_howMany_49 : decode cX5_howMany 49 = .ok (.iload 4, 2) := by decide +kernel
theorem dX5_howMany_51 : decode cX5_howMany 51 = .ok (.ireturn, 1) := by decide +kernel
theorem dX6_firstFault_0 : decode cX6_firstFault 0 = .ok (.iconst 0, 1) := by decide +kernel
theorem dX6_firstFault_1 : decode cX6_firstFault 1 = .ok (.istore_n 3, 1) := by decide +kernel
theorem dX6_firstFault_2 : decode cX6_firstFault 2 = .ok (.iconst 0, 1) := by decide +kernel
theorem dX6_firstFault_3 : decode cX6_firstFault 3 = .ok (.istore 4, 2) := by decide +kernel
theorem dX6_firstFault_5 : decode cX6_firstFault 5 = .ok (.iload 4, 2) := by decide +kernel
theorem dX6_firstFault_7 : decode cX6_firstFault 7 = .ok (.iload_n 2, 1) := by decide +kernel
theorem dX6_firstFault_8 : decode cX6_firstFault 8 = .ok (.if_icmp .ge 45, 3) := by decide +kernel
theorem dX6_firstFault_11 : decode cX6_firstFault 11 = .ok (.aload_n 0, 1) := by decide +kernel
theorem dX6_firstFault_12 : decode cX6_firstFault 12 = .ok (.iload_n 1, 1) := by decide +kernel
theorem dX6_firstFault_13 : decode cX6_firstFault 13 = .ok (.iload 4, 2) := by decide +kernel
theorem dX6_firstFault_15 : decode cX6_firstFault 15 = .ok (.iadd, 1) := by decide +kernel
theorem dX6_firstFault_16 : decode cX6_firstFault 16 = .ok (.invokevirtual 9, 3) := by decide +kernel
theorem dX6_firstFault_19 : decode cX6_firstFault 19 = .ok (.istore 5, 2) := by decide +kernel
theorem dX6_firstFault_21 : decode cX6_firstFault 21 = .ok (.iload 4, 2) := by decide +kernel
theorem dX6_firstFault_23 : decode cX6_firstFault 23 = .ok (.iload 5, 2) := by decide +kernel
theorem dX6_firstFault_25 : decode cX6_firstFault 25 = .ok (.iload_n 3, 1) := by decide +kernel
theorem dX6_firstFault_26 : decode cX6_firstFault 26 = .ok (.invokestatic 15, 3) := by decide +kernel
theorem dX6_firstFault_29 : decode cX6_firstFault 29 = .ok (.ifCond .ne 6, 3) := by decide +kernel
theorem dX6_firstFault_32 : decode cX6_firstFault 32 = .ok (.iload 4, 2) := by decide +kernel
theorem dX6_firstFault_34 : decode cX6_firstFault 34 = .ok (.ireturn, 1) := by decide +kernel
theorem dX6_firstFault_35 : decode cX6_firstFault 35 = .ok (.iload 4, 2) := by decide +kernel
theorem dX6_firstFault_37 : decode cX6_firstFault 37 = .ok (.iconst 1, 1) := by decide +kernel
theorem dX6_firstFault_38 : decode cX6_firstFault 38 = .ok (.if_icmp .ne 9, 3) := by decide +kernel
theorem dX6_firstFault_41 : decode cX6_firstFault 41 = .ok (.iload 5, 2) := by decide +kernel
theorem dX6_firstFault_43 : decode cX6_firstFault 43 = .ok (.bipush 48, 2) := by decide +kernel
theorem dX6_firstFault_45 : decode cX6_firstFault 45 = .ok (.isub, 1) := by decide +kernel
theorem dX6_firstFault_46 : decode cX6_firstFault 46 = .ok (.istore_n 3, 1) := by decide +kernel
theorem dX6_firstFault_47 : decode cX6_firstFault 47 = .ok (.iinc 4 1, 3) := by decide +kernel
theorem dX6_firstFault_50 : decode cX6_firstFault 50 = .ok (.goto (-45), 3) := by decide +kernel
theorem dX6_firstFault_53 : decode cX6_firstFault 53 = .ok (.iload_n 2, 1) := by decide +kernel
theorem dX6_firstFault_54 : decode cX6_firstFault 54 = .ok (.bipush 8, 2) := by decide +kernel
theorem dX6_firstFault_56 : decode cX6_firstFault 56 = .ok (.if_icmp .lt 15, 3) := by decide +kernel
theorem dX6_firstFault_59 : decode cX6_firstFault 59 = .ok (.iload_n 2, 1) := by decide +kernel
theorem dX6_firstFault_60 : decode cX6_firstFault 60 = .ok (.iconst 2, 1) := by decide +kernel
theorem dX6_firstFault_61 : decode cX6_firstFault 61 = .ok (.isub, 1) := by decide +kernel
theorem dX6_firstFault_62 : decode cX6_firstFault 62 = .ok (.iconst 3, 1) := by decide +kernel
theorem dX6_firstFault_63 : decode cX6_firstFault 63 = .ok (.irem, 1) := by decide +kernel
theorem dX6_firstFault_64 : decode cX6_firstFault 64 = .ok (.ifCond .ne 7, 3) := by decide +kernel
theorem dX6_firstFault_67 : decode cX6_firstFault 67 = .ok (.iconst 1, 1) := by decide +kernel
theorem dX6_firstFault_68 : decode cX6_firstFault 68 = .ok (.goto 4, 3) := by decide +kernel
theorem dX6_firstFault_71 : decode cX6_firstFault 71 = .ok (.iconst 0, 1) := by decide +kernel
theorem dX6_firstFault_72 : decode cX6_firstFault 72 = .ok (.istore 4, 2) := by decide +kernel
theorem dX6_firstFault_74 : decode cX6_firstFault 74 = .ok (.iload 4, 2) := by decide +kernel
theorem dX6_firstFault_76 : decode cX6_firstFault 76 = .ok (.ifCond .eq 8, 3) := by decide +kernel
theorem dX6_firstFault_79 : decode cX6_firstFault 79 = .ok (.bipush (-9), 2) := by decide +kernel
theorem dX6_firstFault_81 : decode cX6_firstFault 81 = .ok (.goto 4, 3) := by decide +kernel
theorem dX6_firstFault_84 : decode cX6_firstFault 84 = .ok (.iload_n 2, 1) := by decide +kernel
theorem dX6_firstFault_85 : decode cX6_firstFault 85 = .ok (.ireturn, 1) := by decide +kernel
theorem dX6_goesOn_0 : decode cX6_goesOn 0 = .ok (.iload_n 0, 1) := by decide +kernel
theorem dX6_goesOn_1 : decode cX6_goesOn 1 = .ok (.ifCond .ne 15, 3) := by decide +kernel
theorem dX6_goesOn_4 : decode cX6_goesOn 4 = .ok (.iload_n 1, 1) := by decide +kernel
theorem dX6_goesOn_5 : decode cX6_goesOn 5 = .ok (.bipush 114, 2) := by decide +kernel
theorem dX6_goesOn_7 : decode cX6_goesOn 7 = .ok (.if_icmp .ne 7, 3) := by decide +kernel
theorem dX6_goesOn_10 : decode cX6_goesOn 10 = .ok (.iconst 1, 1) := by decide +kernel
theorem dX6_goesOn_11 : decode cX6_goesOn 11 = .ok (.goto 4, 3) := by decide +kernel
theorem dX6_goesOn_14 : decode cX6_goesOn 14 = .ok (.iconst 0, 1) := by decide +kernel
theorem dX6_goesOn_15 : decode cX6_goesOn 15 = .ok (.ireturn, 1) := by decide +kernel
theorem dX6_goesOn_16 : decode cX6_goesOn 16 = .ok (.iload_n 0, 1) := by decide +kernel
theorem dX6_goesOn_17 : decode cX6_goesOn 17 = .ok (.iconst 1, 1) := by decide +kernel
theorem dX6_goesOn_18 : decode cX6_goesOn 18 = .ok (.if_icmp .ne 21, 3) := by decide +kernel
theorem dX6_goesOn_21 : decode cX6_goesOn 21 = .ok (.iload_n 1, 1) := by decide +kernel
theorem dX6_goesOn_22 : decode cX6_goesOn 22 = .ok (.bipush 50, 2) := by decide +kernel
theorem dX6_goesOn_24 : decode cX6_goesOn 24 = .ok (.if_icmp .lt 13, 3) := by decide +kernel
theorem dX6_goesOn_27 : decode cX6_goesOn 27 = .ok (.iload_n 1, 1) := by decide +kernel
theorem dX6_goesOn_28 : decode cX6_goesOn 28 = .ok (.bipush 54, 2) := by decide +kernel
theorem dX6_goesOn_30 : decode cX6_goesOn 30 = .ok (.if_icmp .gt 7, 3) := by decide +kernel
theorem dX6_goesOn_33 : decode cX6_goesOn 33 = .ok (.iconst 1, 1) := by decide +kernel
theorem dX6_goesOn_34 : decode cX6_goesOn 34 = .ok (.goto 4, 3) := by decide +kernel
theorem dX6_goesOn_37 : decode cX6_goesOn 37 = .ok (.iconst 0, 1) := by decide +kernel
theorem dX6_goesOn_38 : decode cX6_goesOn 38 = .ok (.ireturn, 1) := by decide +kernel
theorem dX6_goesOn_39 : decode cX6_goesOn 39 = .ok (.iload_n 0, 1) := by decide +kernel
theorem dX6_goesOn_40 : decode cX6_goesOn 40 = .ok (.iconst 2, 1) := by decide +kernel
theorem dX6_goesOn_41 : decode cX6_goesOn 41 = .ok (.isub, 1) := by decide +kernel
theorem dX6_goesOn_42 : decode cX6_goesOn 42 = .ok (.iconst 3, 1) := by decide +kernel
theorem dX6_goesOn_43 : decode cX6_goesOn 43 = .ok (.irem, 1) := by decide +kernel
theorem dX6_goesOn_44 : decode cX6_goesOn 44 = .ok (.lookupswitch 64 #[(0, 28), (1, 49)], 28) := by decide +kernel
theorem dX6_goesOn_72 : decode cX6_goesOn 72 = .ok (.iload_n 1, 1) := by decide +kernel
theorem dX6_goesOn_73 : decode cX6_goesOn 73 = .ok (.bipush 59, 2) := by decide +kernel
theorem dX6_goesOn_75 : decode cX6_goesOn 75 = .ok (.if_icmp .ne 16, 3) := by decide +kernel
theorem dX6_goesOn_78 : decode cX6_goesOn 78 = .ok (.iload_n 0, 1) := by decide +kernel
theorem dX6_goesOn_79 : decode cX6_goesOn 79 = .ok (.iconst 2, 1) := by decide +kernel
theorem dX6_goesOn_80 : decode cX6_goesOn 80 = .ok (.isub, 1) := by decide +kernel
theorem dX6_goesOn_81 : decode cX6_goesOn 81 = .ok (.iconst 3, 1) := by decide +kernel
theorem dX6_goesOn_82 : decode cX6_goesOn 82 = .ok (.idiv, 1) := by decide +kernel
theorem dX6_goesOn_83 : decode cX6_goesOn 83 = .ok (.iconst 5, 1) := by decide +kernel
theorem dX6_goesOn_84 : decode cX6_goesOn 84 = .ok (.if_icmp .ge 7, 3) := by decide +kernel
theorem dX6_goesOn_87 : decode cX6_goesOn 87 = .ok (.iconst 1, 1) := by decide +kernel
theorem dX6_goesOn_88 : decode cX6_goesOn 88 = .ok (.goto 4, 3) := by decide +kernel
theorem dX6_goesOn_91 : decode cX6_goesOn 91 = .ok (.iconst 0, 1) := by decide +kernel
theorem dX6_goesOn_92 : decode cX6_goesOn 92 = .ok (.ireturn, 1) := by decide +kernel
theorem dX6_goesOn_93 : decode cX6_goesOn 93 = .ok (.iload_n 1, 1) := by decide +kernel
theorem dX6_goesOn_94 : decode cX6_goesOn 94 = .ok (.invokestatic 21, 3) := by decide +kernel
theorem dX6_goesOn_97 : decode cX6_goesOn 97 = .ok (.bipush (-9), 2) := by decide +kernel
theorem dX6_goesOn_99 : decode cX6_goesOn 99 = .ok (.if_icmp .eq 7, 3) := by decide +kernel
theorem dX6_goesOn_102 : decode cX6_goesOn 102 = .ok (.iconst 1, 1) := by decide +kernel
theorem dX6_goesOn_103 : decode cX6_goesOn 103 = .ok (.goto 4, 3) := by decide +kernel
theorem dX6_goesOn_106 : decode cX6_goesOn 106 = .ok (.iconst 0, 1) := by decide +kernel
theorem dX6_goesOn_107 : decode cX6_goesOn 107 = .ok (.ireturn, 1) := by decide +kernel
theorem dX6_goesOn_108 : decode cX6_goesOn 108 = .ok (.iload_n 1, 1) := by decide +kernel
theorem dX6_goesOn_109 : decode cX6_goesOn 109 = .ok (.bipush 48, 2) := by decide +kernel
theorem dX6_goesOn_111 : decode cX6_goesOn 111 = .ok (.if_icmp .lt 15, 3) := by decide +kernel
theorem dX6_goesOn_114 : decode cX6_goesOn 114 = .ok (.iload_n 1, 1) := by decide +kernel
theorem dX6_goesOn_115 : decode cX6_goesOn 115 = .ok (.bipush 48, 2) := by decide +kernel
theorem dX6_goesOn_117 : decode cX6_goesOn 117 = .ok (.iload_n 2, 1) := by decide +kernel
theorem dX6_goesOn_118 : decode cX6_goesOn 118 = .ok (.iadd, 1) := by decide +kernel
theorem dX6_goesOn_119 : decode cX6_goesOn 119 = .ok (.if_icmp .ge 7, 3) := by decide +kernel
theorem dX6_goesOn_122 : decode cX6_goesOn 122 = .ok (.iconst 1, 1) := by decide +kernel
theorem dX6_goesOn_123 : decode cX6_goesOn 123 = .ok (.goto 4, 3) := by decide +kernel
theorem dX6_goesOn_126 : decode cX6_goesOn 126 = .ok (.iconst 0, 1) := by decide +kernel
theorem dX6_goesOn_127 : decode cX6_goesOn 127 = .ok (.ireturn, 1) := by decide +kernel
theorem dX6_kindOf_0 : decode cX6_kindOf 0 = .ok (.iload_n 0, 1) := by decide +kernel
theorem dX6_kindOf_1 : decode cX6_kindOf 1 = .ok (.lookupswitch 41 #[(102, 37), (109, 39), (112, 35)], 35) := by decide +kernel
theorem dX6_kindOf_36 : decode cX6_kindOf 36 = .ok (.iconst 0, 1) := by decide +kernel
theorem dX6_kindOf_37 : decode cX6_kindOf 37 = .ok (.ireturn, 1) := by decide +kernel
theorem dX6_kindOf_38 : decode cX6_kindOf 38 = .ok (.iconst 1, 1) := by decide +kernel
theorem dX6_kindOf_39 : decode cX6_kindOf 39 = .ok (.ireturn, 1) := by decide +kernel
theorem dX6_kindOf_40 : decode cX6_kindOf 40 = .ok (.iconst 2, 1) := by decide +kernel
theorem dX6_kindOf_41 : decode cX6_kindOf 41 = .ok (.ireturn, 1) := by decide +kernel
theorem dX6_kindOf_42 : decode cX6_kindOf 42 = .ok (.bipush (-9), 2) := by decide +kernel
theorem dX6_kindOf_44 : decode cX6_kindOf 44 = .ok (.ireturn, 1) := by decide +kernel
theorem dX6_take_0 : decode cX6_take 0 = .ok (.aload_n 3, 1) := by decide +kernel
theorem dX6_take_1 : decode cX6_take 1 = .ok (.aload_n 0, 1) := by decide +kernel
theorem dX6_take_2 : decode cX6_take 2 = .ok (.iload_n 1, 1) := by decide +kernel
theorem dX6_take_3 : decode cX6_take 3 = .ok (.iconst 1, 1) := by decide +kernel
theorem dX6_take_4 : decode cX6_take 4 = .ok (.iadd, 1) := by decide +kernel
theorem dX6_take_5 : decode cX6_take 5 = .ok (.invokevirtual 9, 3) := by decide +kernel
theorem dX6_take_8 : decode cX6_take 8 = .ok (.bipush 48, 2) := by decide +kernel
theorem dX6_take_10 : decode cX6_take 10 = .ok (.isub, 1) := by decide +kernel
theorem dX6_take_11 : decode cX6_take 11 = .ok (.putfield 24, 3) := by decide +kernel
theorem dX6_take_14 : decode cX6_take 14 = .ok (.aload_n 3, 1) := by decide +kernel
theorem dX6_take_15 : decode cX6_take 15 = .ok (.iload_n 2, 1) := by decide +kernel
theorem dX6_take_16 : decode cX6_take 16 = .ok (.iconst 2, 1) := by decide +kernel
theorem dX6_take_17 : decode cX6_take 17 = .ok (.isub, 1) := by decide +kernel
theorem dX6_take_18 : decode cX6_take 18 = .ok (.iconst 3, 1) := by decide +kernel
theorem dX6_take_19 : decode cX6_take 19 = .ok (.idiv, 1) := by decide +kernel
theorem dX6_take_20 : decode cX6_take 20 = .ok (.iconst 5, 1) := by decide +kernel
theorem dX6_take_21 : decode cX6_take 21 = .ok (.invokestatic 30, 3) := by decide +kernel
theorem dX6_take_24 : decode cX6_take 24 = .ok (.putfield 36, 3) := by decide +kernel
theorem dX6_take_27 : decode cX6_take 27 = .ok (.iconst 0, 1) := by decide +kernel
theorem dX6_take_28 : decode cX6_take 28 = .ok (.istore 4, 2) := by decide +kernel
theorem dX6_take_30 : decode cX6_take 30 = .ok (.iload 4, 2) := by decide +kernel
theorem dX6_take_32 : decode cX6_take 32 = .ok (.aload_n 3, 1) := by decide +kernel
theorem dX6_take_33 : decode cX6_take 33 = .ok (.getfield 36, 3) := by decide +kernel
theorem dX6_take_36 : decode cX6_take 36 = .ok (.if_icmp .ge 55, 3) := by decide +kernel
theorem dX6_take_39 : decode cX6_take 39 = .ok (.iload_n 1, 1) := by decide +kernel
theorem dX6_take_40 : decode cX6_take 40 = .ok (.iconst 2, 1) := by decide +kernel
theorem dX6_take_41 : decode cX6_take 41 = .ok (.iadd, 1) := by decide +kernel
theorem dX6_take_42 : decode cX6_take 42 = .ok (.iconst 3, 1) := by decide +kernel
theorem dX6_take_43 : decode cX6_take 43 = .ok (.iload 4, 2) := by decide +kernel
theorem dX6_take_45 : decode cX6_take 45 = .ok (.imul, 1) := by decide +kernel
theorem dX6_take_46 : decode cX6_take 46 = .ok (.iadd, 1) := by decide +kernel
theorem dX6_take_47 : decode cX6_take 47 = .ok (.istore 5, 2) := by decide +kernel
theorem dX6_take_49 : decode cX6_take 49 = .ok (.aload_n 3, 1) := by decide +kernel
theorem dX6_take_50 : decode cX6_take 50 = .ok (.getfield 39, 3) := by decide +kernel
theorem dX6_take_53 : decode cX6_take 53 = .ok (.iload 4, 2) := by decide +kernel
theorem dX6_take_55 : decode cX6_take 55 = .ok (.aload_n 0, 1) := by decide +kernel
theorem dX6_take_56 : decode cX6_take 56 = .ok (.iload 5, 2) := by decide +kernel
theorem dX6_take_58 : decode cX6_take 58 = .ok (.iconst 1, 1) := by decide +kernel
theorem dX6_take_59 : decode cX6_take 59 = .ok (.iadd, 1) := by decide +kernel
theorem dX6_take_60 : decode cX6_take 60 = .ok (.invokevirtual 9, 3) := by decide +kernel
theorem dX6_take_63 : decode cX6_take 63 = .ok (.invokestatic 21, 3) := by decide +kernel
theorem dX6_take_66 : decode cX6_take 66 = .ok (.iastore, 1) := by decide +kernel
theorem dX6_take_67 : decode cX6_take 67 = .ok (.aload_n 3, 1) := by decide +kernel
theorem dX6_take_68 : decode cX6_take 68 = .ok (.getfield 43, 3) := by decide +kernel
theorem dX6_take_71 : decode cX6_take 71 = .ok (.iload 4, 2) := by decide +kernel
theorem dX6_take_73 : decode cX6_take 73 = .ok (.aload_n 0, 1) := by decide +kernel
theorem dX6_take_74 : decode cX6_take 74 = .ok (.iload 5, 2) := by decide +kernel
theorem dX6_take_76 : decode cX6_take 76 = .ok (.iconst 2, 1) := by decide +kernel
theorem dX6_take_77 : decode cX6_take 77 = .ok (.iadd, 1) := by decide +kernel
theorem dX6_take_78 : decode cX6_take 78 = .ok (.invokevirtual 9, 3) := by decide +kernel
theorem dX6_take_81 : decode cX6_take 81 = .ok (.bipush 48, 2) := by decide +kernel
theorem dX6_take_83 : decode cX6_take 83 = .ok (.isub, 1) := by decide +kernel
theorem dX6_take_84 : decode cX6_take 84 = .ok (.iastore, 1) := by decide +kernel
theorem dX6_take_85 : decode cX6_take 85 = .ok (.iinc 4 1, 3) := by decide +kernel
theorem dX6_take_88 : decode cX6_take 88 = .ok (.goto (-58), 3) := by decide +kernel
theorem dX6_take_91 : decode cX6_take 91 = .ok (.return_, 1) := by decide +kernel
theorem dX7_init_0 : decode cX7_init 0 = .ok (.aload_n 0, 1) := by decide +kernel
theorem dX7_init_1 : decode cX7_init 1 = .ok (.invokespecial 3, 3) := by decide +kernel
theorem dX7_init_4 : decode cX7_init 4 = .ok (.aload_n 0, 1) := by decide +kernel
theorem dX7_init_5 : decode cX7_init 5 = .ok (.iconst 4, 1) := by decide +kernel
theorem dX7_init_6 : decode cX7_init 6 = .ok (.anewarray 11, 3) := by decide +kernel
theorem dX7_init_9 : decode cX7_init 9 = .ok (.putfield 13, 3) := by decide +kernel
theorem dX7_init_12 : decode cX7_init 12 = .ok (.iconst 0, 1) := by decide +kernel
theorem dX7_init_13 : decode cX7_init 13 = .ok (.istore_n 1, 1) := by decide +kernel
theorem dX7_init_14 : decode cX7_init 14 = .ok (.iload_n 1, 1) := by decide +kernel
theorem dX7_init_15 : decode cX7_init 15 = .ok (.aload_n 0, 1) := by decide +kernel
theorem dX7_init_16 : decode cX7_init 16 = .ok (.getfield 13, 3) := by decide +kernel
theorem dX7_init_19 : decode cX7_init 19 = .ok (.arraylength, 1) := by decide +kernel
theorem dX7_init_20 : decode cX7_init 20 = .ok (.if_icmp .ge 22, 3) := by decide +kernel
theorem dX7_init_23 : decode cX7_init 23 = .ok (.aload_n 0, 1) := by decide +kernel
theorem dX7_init_24 : decode cX7_init 24 = .ok (.getfield 13, 3) := by decide +kernel
theorem dX7_init_27 : decode cX7_init 27 = .ok (.iload_n 1, 1) := by decide +kernel
theorem dX7_init_28 : decode cX7_init 28 = .ok (.new 11, 3) := by decide +kernel
theorem dX7_init_31 : decode cX7_init 31 = .ok (.dup, 1) := by decide +kernel
theorem dX7_init_32 : decode cX7_init 32 = .ok (.invokespecial 17, 3) := by decide +kernel
theorem dX7_init_35 : decode cX7_init 35 = .ok (.aastore, 1) := by decide +kernel
theorem dX7_init_36 : decode cX7_init 36 = .ok (.iinc 1 1, 3) := by decide +kernel
theorem dX7_init_39 : decode cX7_init 39 = .ok (.goto (-25), 3) := by decide +kernel
theorem dX7_init_42 : decode cX7_init 42 = .ok (.aload_n 0, 1) := by decide +kernel
theorem dX7_init_43 : decode cX7_init 43 = .ok (.new 18, 3) := by decide +kernel
theorem dX7_init_46 : decode cX7_init 46 = .ok (.dup, 1) := by decide +kernel
theorem dX7_init_47 : decode cX7_init 47 = .ok (.invokespecial 20, 3) := by decide +kernel
theorem dX7_init_50 : decode cX7_init 50 = .ok (.putfield 21, 3) := by decide +kernel
theorem dX7_init_53 : decode cX7_init 53 = .ok (.aload_n 0, 1) := by decide +kernel
theorem dX7_init_54 : decode cX7_init 54 = .ok (.new 18, 3) := by decide +kernel
theorem dX7_init_57 : decode cX7_init 57 = .ok (.dup, 1) := by decide +kernel
theorem dX7_init_58 : decode cX7_init 58 = .ok (.invokespecial 20, 3) := by decide +kernel
theorem dX7_init_61 : decode cX7_init 61 = .ok (.putfield 25, 3) := by decide +kernel
theorem dX7_init_64 : decode cX7_init 64 = .ok (.aload_n 0, 1) := by decide +kernel
theorem dX7_init_65 : decode cX7_init 65 = .ok (.new 28, 3) := by decide +kernel
theorem dX7_init_68 : decode cX7_init 68 = .ok (.dup, 1) := by decide +kernel
theorem dX7_init_69 : decode cX7_init 69 = .ok (.invokespecial 30, 3) := by decide +kernel
theorem dX7_init_72 : decode cX7_init 72 = .ok (.putfield 31, 3) := by decide +kernel
theorem dX7_init_75 : decode cX7_init 75 = .ok (.aload_n 0, 1) := by decide +kernel
theorem dX7_init_76 : decode cX7_init 76 = .ok (.new 35, 3) := by decide +kernel
theorem dX7_init_79 : decode cX7_init 79 = .ok (.dup, 1) := by decide +kernel
theorem dX7_init_80 : decode cX7_init 80 = .ok (.invokespecial 37, 3) := by decide +kernel
theorem dX7_init_83 : decode cX7_init 83 = .ok (.putfield 38, 3) := by decide +kernel
theorem dX7_init_86 : decode cX7_init 86 = .ok (.aload_n 0, 1) := by decide +kernel
theorem dX7_init_87 : decode cX7_init 87 = .ok (.new 42, 3) := by decide +kernel
theorem dX7_init_90 : decode cX7_init 90 = .ok (.dup, 1) := by decide +kernel
theorem dX7_init_91 : decode cX7_init 91 = .ok (.invokespecial 44, 3) := by decide +kernel
theorem dX7_init_94 : decode cX7_init 94 = .ok (.putfield 45, 3) := by decide +kernel
theorem dX7_init_97 : decode cX7_init 97 = .ok (.aload_n 0, 1) := by decide +kernel
theorem dX7_init_98 : decode cX7_init 98 = .ok (.new 49, 3) := by decide +kernel
theorem dX7_init_101 : decode cX7_init 101 = .ok (.dup, 1) := by decide +kernel
theorem dX7_init_102 : decode cX7_init 102 = .ok (.invokespecial 51, 3) := by decide +kernel
theorem dX7_init_105 : decode cX7_init 105 = .ok (.putfield 52, 3) := by decide +kernel
theorem dX7_init_108 : decode cX7_init 108 = .ok (.return_, 1) := by decide +kernel
theorem dX7_ring_0 : decode cX7_ring 0 = .ok (.aload_n 0, 1) := by decide +kernel
theorem dX7_ring_1 : decode cX7_ring 1 = .ok (.iconst 0, 1) := by decide +kernel
theorem dX7_ring_2 : decode cX7_ring 2 = .ok (.putfield 56, 3) := by decide +kernel
theorem dX7_ring_5 : decode cX7_ring 5 = .ok (.iload_n 1, 1) := by decide +kernel
theorem dX7_ring_6 : decode cX7_ring 6 = .ok (.invokestatic 60, 3) := by decide +kernel
theorem dX7_ring_9 : decode cX7_ring 9 = .ok (.ifCond .ne 5, 3) := by decide +kernel
theorem dX7_ring_12 : decode cX7_ring 12 = .ok (.iconst (-1), 1) := by decide +kernel
theorem dX7_ring_13 : decode cX7_ring 13 = .ok (.ireturn, 1) := by decide +kernel
theorem dX7_ring_14 : decode cX7_ring 14 = .ok (.iload_n 2, 1) := by decide +kernel
theorem dX7_ring_15 : decode cX7_ring 15 = .ok (.invokestatic 64, 3) := by decide +kernel
theorem dX7_ring_18 : decode cX7_ring 18 = .ok (.ifCond .ne 6, 3) := by decide +kernel
theorem dX7_ring_21 : decode cX7_ring 21 = .ok (.bipush (-2), 2) := by decide +kernel
theorem dX7_ring_23 : decode cX7_ring 23 = .ok (.ireturn, 1) := by decide +kernel
theorem dX7_ring_24 : decode cX7_ring 24 = .ok (.aload_n 0, 1) := by decide +kernel
theorem dX7_ring_25 : decode cX7_ring 25 = .ok (.getfield 13, 3) := by decide +kernel
theorem dX7_ring_28 : decode cX7_ring 28 = .ok (.iload_n 1, 1) := by decide +kernel
theorem dX7_ring_29 : decode cX7_ring 29 = .ok (.aaload, 1) := by decide +kernel
theorem dX7_ring_30 : decode cX7_ring 30 = .ok (.astore 5, 2) := by decide +kernel
theorem dX7_ring_32 : decode cX7_ring 32 = .ok (.aload_n 0, 1) := by decide +kernel
theorem dX7_ring_33 : decode cX7_ring 33 = .ok (.aload 5, 2) := by decide +kernel
theorem dX7_ring_35 : decode cX7_ring 35 = .ok (.iload_n 2, 1) := by decide +kernel
theorem dX7_ring_36 : decode cX7_ring 36 = .ok (.iload_n 3, 1) := by decide +kernel
theorem dX7_ring_37 : decode cX7_ring 37 = .ok (.iload 4, 2) := by decide +kernel
theorem dX7_ring_39 : decode cX7_ring 39 = .ok (.invokevirtual 67, 3) := by decide +kernel
theorem dX7_ring_42 : decode cX7_ring 42 = .ok (.putfield 56, 3) := by decide +kernel
theorem dX7_ring_45 : decode cX7_ring 45 = .ok (.aload_n 0, 1) := by decide +kernel
theorem dX7_ring_46 : decode cX7_ring 46 = .ok (.getfield 56, 3) := by decide +kernel
theorem dX7_ring_49 : decode cX7_ring 49 = .ok (.ifCond .eq 8, 3) := by decide +kernel
theorem dX7_ring_52 : decode cX7_ring 52 = .ok (.aload_n 0, 1) := by decide +kernel
theorem dX7_ring_53 : decode cX7_ring 53 = .ok (.invokevirtual 71, 3) := by decide +kernel
theorem dX7_ring_56 : decode cX7_ring 56 = .ok (.ireturn, 1) := by decide +kernel
theorem dX7_ring_57 : decode cX7_ring 57 = .ok (.aload 5, 2) := by decide +kernel
theorem dX7_ring_59 : decode cX7_ring 59 = .ok (.iload_n 3, 1) := by decide +kernel
theorem dX7_ring_60 : decode cX7_ring 60 = .ok (.iload 4, 2) := by decide +kernel
theorem dX7_ring_62 : decode cX7_ring 62 = .ok (.invokestatic 75, 3) := by decide +kernel
theorem dX7_ring_65 : decode cX7_ring 65 = .ok (.istore 6, 2) := by decide +kernel
theorem dX7_ring_67 : decode cX7_ring 67 = .ok (.iload 6, 2) := by decide +kernel
theorem dX7_ring_69 : decode cX7_ring 69 = .ok (.bipush (-9), 2) := by decide +kernel
theorem dX7_ring_71 : decode cX7_ring 71 = .ok (.if_icmp .eq 9, 3) := by decide +kernel
theorem dX7_ring_74 : decode cX7_ring 74 = .ok (.bipush (-100), 2) := by decide +kernel
theorem dX7_ring_76 : decode cX7_ring 76 = .ok (.iload 6, 2) := by decide +kernel
theorem dX7_ring_78 : decode cX7_ring 78 = .ok (.isub, 1) := by decide +kernel
theorem dX7_ring_79 : decode cX7_ring 79 = .ok (.ireturn, 1) := by decide +kernel
theorem dX7_ring_80 : decode cX7_ring 80 = .ok (.aload 5, 2) := by decide +kernel
theorem dX7_ring_82 : decode cX7_ring 82 = .ok (.iload_n 3, 1) := by decide +kernel
theorem dX7_ring_83 : decode cX7_ring 83 = .ok (.iload 4, 2) := by decide +kernel
theorem dX7_ring_85 : decode cX7_ring 85 = .ok (.aload_n 0, 1) := by decide +kernel
theorem dX7_ring_86 : decode cX7_ring 86 = .ok (.getfield 21, 3) := by decide +kernel
theorem dX7_ring_89 : decode cX7_ring 89 = .ok (.invokestatic 81, 3) := by decide +kernel
theorem dX7_ring_92 : decode cX7_ring 92 = .ok (.aload_n 0, 1) := by decide +kernel
theorem dX7_ring_93 : decode cX7_ring 93 = .ok (.iconst 0, 1) := by decide +kernel
theorem dX7_ring_94 : decode cX7_ring 94 = .ok (.putfield 85, 3) := by decide +kernel
theorem dX7_ring_97 : decode cX7_ring 97 = .ok (.aload_n 0, 1) := by decide +kernel
theorem dX7_ring_98 : decode cX7_ring 98 = .ok (.getfield 45, 3) := by decide +kernel
theorem dX7_ring_101 : decode cX7_ring 101 = .ok (.iconst 0, 1) := by decide +kernel
theorem dX7_ring_102 : decode cX7_ring 102 = .ok (.putfield 88, 3) := by decide +kernel
theorem dX7_ring_105 : decode cX7_ring 105 = .ok (.aload_n 0, 1) := by decide +kernel
theorem dX7_ring_106 : decode cX7_ring 106 = .ok (.getfield 31, 3) := by decide +kernel
theorem dX7_ring_109 : decode cX7_ring 109 = .ok (.invokevirtual 91, 3) := by decide +kernel
theorem dX7_ring_112 : decode cX7_ring 112 = .ok (.aload_n 0, 1) := by decide +kernel
theorem dX7_ring_113 : decode cX7_ring 113 = .ok (.getfield 38, 3) := by decide +kernel
theorem dX7_ring_116 : decode cX7_ring 116 = .ok (.invokevirtual 94, 3) := by decide +kernel
theorem dX7_ring_119 : decode cX7_ring 119 = .ok (.aload_n 0, 1) := by decide +kernel
theorem dX7_ring_120 : decode cX7_ring 120 = .ok (.getfield 21, 3) := by decide +kernel
theorem dX7_ring_123 : decode cX7_ring 123 = .ok (.getfield 95, 3) := by decide +kernel
theorem dX7_ring_126 : decode cX7_ring 126 = .ok (.ireturn, 1) := by decide +kernel
theorem dX7_ofPlace_0 : decode cX7_ofPlace 0 = .ok (.aload_n 0, 1) := by decide +kernel
theorem dX7_ofPlace_1 : decode cX7_ofPlace 1 = .ok (.getfield 21, 3) := by decide +kernel
theorem dX7_ofPlace_4 : decode cX7_ofPlace 4 = .ok (.iload_n 1, 1) := by decide +kernel
theorem dX7_ofPlace_5 : decode cX7_ofPlace 5 = .ok (.invokevirtual 98, 3) := by decide +kernel
theorem dX7_ofPlace_8 : decode cX7_ofPlace 8 = .ok (.ifCond .ne 5, 3) := by decide +kernel
theorem dX7_ofPlace_11 : decode cX7_ofPlace 11 = .ok (.iconst (-1), 1) := by decide +kernel
theorem dX7_ofPlace_12 : decode cX7_ofPlace 12 = .ok (.ireturn, 1) := by decide +kernel
theorem dX7_ofPlace_13 : decode cX7_ofPlace 13 = .ok (.iload_n 2, 1) := by decide +kernel
theorem dX7_ofPlace_14 : decode cX7_ofPlace 14 = .ok (.tableswitch 55 0 2 #[26, 36, 46], 26) := by decide +kernel
theorem dX7_ofPlace_40 : decode cX7_ofPlace 40 = .ok (.aload_n 0, 1) := by decide +kernel
theorem dX7_ofPlace_41 : decode cX7_ofPlace 41 = .ok (.getfield 21, 3) := by decide +kernel
theorem dX7_ofPlace_44 : decode cX7_ofPlace 44 = .ok (.getfield 101, 3) := by decide +kernel
theorem dX7_ofPlace_47 : decode cX7_ofPlace 47 = .ok (.iload_n 1, 1) := by decide +kernel
theorem dX7_ofPlace_48 : decode cX7_ofPlace 48 = .ok (.iaload, 1) := by decide +kernel
theorem dX7_ofPlace_49 : decode cX7_ofPlace 49 = .ok (.ireturn, 1) := by decide +kernel
theorem dX7_ofPlace_50 : decode cX7_ofPlace 50 = .ok (.aload_n 0, 1) := by decide +kernel
theorem dX7_ofPlace_51 : decode cX7_ofPlace 51 = .ok (.getfield 21, 3) := by decide +kernel
theorem dX7_ofPlace_54 : decode cX7_ofPlace 54 = .ok (.getfield 105, 3) := by decide +kernel
theorem dX7_ofPlace_57 : decode cX7_ofPlace 57 = .ok (.iload_n 1, 1) := by decide +kernel
theorem dX7_ofPlace_58 : decode cX7_ofPlace 58 = .ok (.iaload, 1) := by decide +kernel
theorem dX7_ofPlace_59 : decode cX7_ofPlace 59 = .ok (.ireturn, 1) := by decide +kernel
theorem dX7_ofPlace_60 : decode cX7_ofPlace 60 = .ok (.aload_n 0, 1) := by decide +kernel
theorem dX7_ofPlace_61 : decode cX7_ofPlace 61 = .ok (.getfield 21, 3) := by decide +kernel
theorem dX7_ofPlace_64 : decode cX7_ofPlace 64 = .ok (.iload_n 1, 1) := by decide +kernel
theorem dX7_ofPlace_65 : decode cX7_ofPlace 65 = .ok (.invokevirtual 108, 3) := by decide +kernel
theorem dX7_ofPlace_68 : decode cX7_ofPlace 68 = .ok (.ireturn, 1) := by decide +kernel
theorem dX7_ofPlace_69 : decode cX7_ofPlace 69 = .ok (.bipush (-2), 2) := by decide +kernel
theorem dX7_ofPlace_71 : decode cX7_ofPlace 71 = .ok (.ireturn, 1) := by decide +kernel
theorem dX7_write_0 : decode cX7_write 0 = .ok (.aload_n 0, 1) := by decide +kernel
theorem dX7_write_1 : decode cX7_write 1 = .ok (.getfield 21, 3) := by decide +kernel
theorem dX7_write_4 : decode cX7_write 4 = .ok (.iload_n 1, 1) := by decide +kernel
theorem dX7_write_5 : decode cX7_write 5 = .ok (.invokevirtual 98, 3) := by decide +kernel
theorem dX7_write_8 : decode cX7_write 8 = .ok (.ifCond .ne 5, 3) := by decide +kernel
theorem dX7_write_11 : decode cX7_write 11 = .ok (.iconst (-1), 1) := by decide +kernel
theorem dX7_write_12 : decode cX7_write 12 = .ok (.ireturn, 1) := by decide +kernel
theorem dX7_write_13 : decode cX7_write 13 = .ok (.aload_n 0, 1) := by decide +kernel
theorem dX7_write_14 : decode cX7_write 14 = .ok (.getfield 21, 3) := by decide +kernel
theorem dX7_write_17 : decode cX7_write 17 = .ok (.iload_n 2, 1) := by decide +kernel
theorem dX7_write_18 : decode cX7_write 18 = .ok (.invokevirtual 112, 3) := by decide +kernel
theorem dX7_write_21 : decode cX7_write 21 = .ok (.ifCond .ne 6, 3) := by decide +kernel
theorem dX7_write_24 : decode cX7_write 24 = .ok (.bipush (-2), 2) := by decide +kernel
theorem dX7_write_26 : decode cX7_write 26 = .ok (.ireturn, 1) := by decide +kernel
theorem dX7_write_27 : decode cX7_write 27 = .ok (.aload_n 0, 1) := by decide +kernel
theorem dX7_write_28 : decode cX7_write 28 = .ok (.getfield 21, 3) := by decide +kernel
theorem dX7_write_31 : decode cX7_write 31 = .ok (.getfield 105, 3) := by decide +kernel
theorem dX7_write_34 : decode cX7_write 34 = .ok (.iload_n 1, 1) := by decide +kernel
theorem dX7_write_35 : decode cX7_write 35 = .ok (.iaload, 1) := by decide +kernel
theorem dX7_write_36 : decode cX7_write 36 = .ok (.istore_n 3, 1) := by decide +kernel
theorem dX7_write_37 : decode cX7_write 37 = .ok (.aload_n 0, 1) := by decide +kernel
theorem dX7_write_38 : decode cX7_write 38 = .ok (.getfield 21, 3) := by decide +kernel
theorem dX7_write_41 : decode cX7_write 41 = .ok (.getfield 105, 3) := by decide +kernel
theorem dX7_write_44 : decode cX7_write 44 = .ok (.iload_n 1, 1) := by decide +kernel
theorem dX7_write_45 : decode cX7_write 45 = .ok (.iload_n 2, 1) := by decide +kernel
theorem dX7_write_46 : decode cX7_write 46 = .ok (.iastore, 1) := by decide +kernel
theorem dX7_write_47 : decode cX7_write 47 = .ok (.iload_n 3, 1) := by decide +kernel
theorem dX7_write_48 : decode cX7_write 48 = .ok (.ireturn, 1) := by decide +kernel
theorem dX7_steps_0 : decode cX7_steps 0 = .ok (.iload_n 1, 1) := by decide +kernel
theorem dX7_steps_1 : decode cX7_steps 1 = .ok (.iconst 1, 1) := by decide +kernel
theorem dX7_steps_2 : decode cX7_steps 2 = .ok (.if_icmp .lt 9, 3) := by decide +kernel
theorem dX7_steps_5 : decode cX7_steps 5 = .ok (.iload_n 1, 1) := by decide +kernel
theorem dX7_steps_6 : decode cX7_steps 6 = .ok (.bipush 99, 2) := by decide +kernel
theorem dX7_steps_8 : decode cX7_steps 8 = .ok (.if_icmp .le 6, 3) := by decide +kernel
theorem dX7_steps_11 : decode cX7_steps 11 = .ok (.bipush (-2), 2) := by decide +kernel
theorem dX7_steps_13 : decode cX7_steps 13 = .ok (.ireturn, 1) := by decide +kernel
theorem dX7_steps_14 : decode cX7_steps 14 = .ok (.aload_n 0, 1) := by decide +kernel
theorem dX7_steps_15 : decode cX7_steps 15 = .ok (.getfield 21, 3) := by decide +kernel
theorem dX7_steps_18 : decode cX7_steps 18 = .ok (.invokevirtual 115, 3) := by decide +kernel
theorem dX7_steps_21 : decode cX7_steps 21 = .ok (.ifCond .eq 6, 3) := by decide +kernel
theorem dX7_steps_24 : decode cX7_steps 24 = .ok (.bipush (-3), 2) := by decide +kernel
theorem dX7_steps_26 : decode cX7_steps 26 = .ok (.ireturn, 1) := by decide +kernel
theorem dX7_steps_27 : decode cX7_steps 27 = .ok (.aload_n 0, 1) := by decide +kernel
theorem dX7_steps_28 : decode cX7_steps 28 = .ok (.getfield 21, 3) := by decide +kernel
theorem dX7_steps_31 : decode cX7_steps 31 = .ok (.iload_n 1, 1) := by decide +kernel
theorem dX7_steps_32 : decode cX7_steps 32 = .ok (.invokevirtual 119, 3) := by decide +kernel
theorem dX7_steps_35 : decode cX7_steps 35 = .ok (.aload_n 0, 1) := by decide +kernel
theorem dX7_steps_36 : decode cX7_steps 36 = .ok (.dup, 1) := by decide +kernel
theorem dX7_steps_37 : decode cX7_steps 37 = .ok (.getfield 85, 3) := by decide +kernel
theorem dX7_steps_40 : decode cX7_steps 40 = .ok (.iload_n 1, 1) := by decide +kernel
theorem dX7_steps_41 : decode cX7_steps 41 = .ok (.iadd, 1) := by decide +kernel
theorem dX7_steps_42 : decode cX7_steps 42 = .ok (.putfield 85, 3) := by decide +kernel
theorem dX7_steps_45 : decode cX7_steps 45 = .ok (.aload_n 0, 1) := by decide +kernel
theorem dX7_steps_46 : decode cX7_steps 46 = .ok (.getfield 21, 3) := by decide +kernel
theorem dX7_steps_49 : decode cX7_steps 49 = .ok (.invokevirtual 123, 3) := by decide +kernel
theorem dX7_steps_52 : decode cX7_steps 52 = .ok (.ireturn, 1) := by decide +kernel
theorem dX7_after_0 : decode cX7_after 0 = .ok (.aload_n 0, 1) := by decide +kernel
theorem dX7_after_1 : decode cX7_after 1 = .ok (.getfield 21, 3) := by decide +kernel
theorem dX7_after_4 : decode cX7_after 4 = .ok (.iload_n 1, 1) := by decide +kernel
theorem dX7_after_5 : decode cX7_after 5 = .ok (.invokevirtual 98, 3) := by decide +kernel
theorem dX7_after_8 : decode cX7_after 8 = .ok (.ifCond .ne 5, 3) := by decide +kernel
theorem dX7_after_11 : decode cX7_after 11 = .ok (.iconst (-1), 1) := by decide +kernel
theorem dX7_after_12 : decode cX7_after 12 = .ok (.ireturn, 1) := by decide +kernel
theorem dX7_after_13 : decode cX7_after 13 = .ok (.lload_n 2, 1) := by decide +kernel
theorem dX7_after_14 : decode cX7_after 14 = .ok (.lconst 0, 1) := by decide +kernel
theorem dX7_after_15 : decode cX7_after 15 = .ok (.lcmp, 1) := by decide +kernel
theorem dX7_after_16 : decode cX7_after 16 = .ok (.ifCond .lt 11, 3) := by decide +kernel
theorem dX7_after_19 : decode cX7_after 19 = .ok (.lload_n 2, 1) := by decide +kernel
theorem dX7_after_20 : decode cX7_after 20 = .ok (.ldc2_w 126, 3) := by decide +kernel
theorem dX7_after_23 : decode cX7_after 23 = .ok (.lcmp, 1) := by decide +kernel
theorem dX7_after_24 : decode cX7_after 24 = .ok (.ifCond .le 6, 3) := by decide +kernel
theorem dX7_after_27 : decode cX7_after 27 = .ok (.bipush (-2), 2) := by decide +kernel
theorem dX7_after_29 : decode cX7_after 29 = .ok (.ireturn, 1) := by decide +kernel
theorem dX7_after_30 : decode cX7_after 30 = .ok (.aload_n 0, 1) := by decide +kernel
theorem dX7_after_31 : decode cX7_after 31 = .ok (.getfield 31, 3) := by decide +kernel
theorem dX7_after_34 : decode cX7_after 34 = .ok (.aload_n 0, 1) := by decide +kernel
theorem dX7_after_35 : decode cX7_after 35 = .ok (.getfield 21, 3) := by decide +kernel
theorem dX7_after_38 : decode cX7_after 38 = .ok (.invokevirtual 128, 3) := by decide +kernel
theorem dX7_after_41 : decode cX7_after 41 = .ok (.aload_n 0, 1) := by decide +kernel
theorem dX7_after_42 : decode cX7_after 42 = .ok (.getfield 31, 3) := by decide +kernel
theorem dX7_after_45 : decode cX7_after 45 = .ok (.aload_n 0, 1) := by decide +kernel
theorem dX7_after_46 : decode cX7_after 46 = .ok (.getfield 31, 3) := by decide +kernel
theorem dX7_after_49 : decode cX7_after 49 = .ok (.aload_n 0, 1) := by decide +kernel
theorem dX7_after_50 : decode cX7_after 50 = .ok (.getfield 21, 3) := by decide +kernel
theorem dX7_after_53 : decode cX7_after 53 = .ok (.invokevirtual 132, 3) := by decide +kernel
theorem dX7_after_56 : decode cX7_after 56 = .ok (.lload_n 2, 1) := by decide +kernel
theorem dX7_after_57 : decode cX7_after 57 = .ok (.invokevirtual 135, 3) := by decide +kernel
theorem dX7_after_60 : decode cX7_after 60 = .ok (.iload_n 1, 1) := by decide +kernel
theorem dX7_after_61 : decode cX7_after 61 = .ok (.invokevirtual 139, 3) := by decide +kernel
theorem dX7_after_64 : decode cX7_after 64 = .ok (.ireturn, 1) := by decide +kernel
theorem dX7_day_0 : decode cX7_day 0 = .ok (.aload_n 0, 1) := by decide +kernel
theorem dX7_day_1 : decode cX7_day 1 = .ok (.iconst 0, 1) := by decide +kernel
theorem dX7_day_2 : decode cX7_day 2 = .ok (.putfield 56, 3) := by decide +kernel
theorem dX7_day_5 : decode cX7_day 5 = .ok (.iload_n 1, 1) := by decide +kernel
theorem dX7_day_6 : decode cX7_day 6 = .ok (.invokestatic 60, 3) := by decide +kernel
theorem dX7_day_9 : decode cX7_day 9 = .ok (.ifCond .ne 5, 3) := by decide +kernel
theorem dX7_day_12 : decode cX7_day 12 = .ok (.iconst (-1), 1) := by decide +kernel
theorem dX7_day_13 : decode cX7_day 13 = .ok (.ireturn, 1) := by decide +kernel
theorem dX7_day_14 : decode cX7_day 14 = .ok (.iload_n 2, 1) := by decide +kernel
theorem dX7_day_15 : decode cX7_day 15 = .ok (.invokestatic 64, 3) := by decide +kernel
theorem dX7_day_18 : decode cX7_day 18 = .ok (.ifCond .eq 23, 3) := by decide +kernel
theorem dX7_day_21 : decode cX7_day 21 = .ok (.iload 4, 2) := by decide +kernel
theorem dX7_day_23 : decode cX7_day 23 = .ok (.ifCond .lt 18, 3) := by decide +kernel
theorem dX7_day_26 : decode cX7_day 26 = .ok (.iload 4, 2) := by decide +kernel
theorem dX7_day_28 : decode cX7_day 28 = .ok (.bipush 20, 2) := by decide +kernel
theorem dX7_day_30 : decode cX7_day 30 = .ok (.if_icmp .gt 11, 3) := by decide +kernel
theorem dX7_day_33 : decode cX7_day 33 = .ok (.iload 5, 2) := by decide +kernel
theorem dX7_day_35 : decode cX7_day 35 = .ok (.invokestatic 143, 3) := by decide +kernel
theorem dX7_day_38 : decode cX7_day 38 = .ok (.ifCond .ne 6, 3) := by decide +kernel
theorem dX7_day_41 : decode cX7_day 41 = .ok (.bipush (-2), 2) := by decide +kernel
theorem dX7_day_43 : decode cX7_day 43 = .ok (.ireturn, 1) := by decide +kernel
theorem dX7_day_44 : decode cX7_day 44 = .ok (.aload_n 0, 1) := by decide +kernel
theorem dX7_day_45 : decode cX7_day 45 = .ok (.getfield 21, 3) := by decide +kernel
theorem dX7_day_48 : decode cX7_day 48 = .ok (.invokevirtual 115, 3) := by decide +kernel
theorem dX7_day_51 : decode cX7_day 51 = .ok (.ifCond .eq 6, 3) := by decide +kernel
theorem dX7_day_54 : decode cX7_day 54 = .ok (.bipush (-3), 2) := by decide +kernel
theorem dX7_day_56 : decode cX7_day 56 = .ok (.ireturn, 1) := by decide +kernel
theorem dX7_day_57 : decode cX7_day 57 = .ok (.aload_n 0, 1) := by decide +kernel
theorem dX7_day_58 : decode cX7_day 58 = .ok (.getfield 13, 3) := by decide +kernel
theorem dX7_day_61 : decode cX7_day 61 = .ok (.iload_n 1, 1) := by decide +kernel
theorem dX7_day_62 : decode cX7_day 62 = .ok (.aaload, 1) := by decide +kernel
theorem dX7_day_63 : decode cX7_day 63 = .ok (.astore 6, 2) := by decide +kernel
theorem dX7_day_65 : decode cX7_day 65 = .ok (.aload_n 0, 1) := by decide +kernel
theorem dX7_day_66 : decode cX7_day 66 = .ok (.aload 6, 2) := by decide +kernel
theorem dX7_day_68 : decode cX7_day 68 = .ok (.iload_n 2, 1) := by decide +kernel
theorem dX7_day_69 : decode cX7_day 69 = .ok (.iload_n 3, 1) := by decide +kernel
theorem dX7_day_70 : decode cX7_day 70 = .ok (.iconst 2, 1) := by decide +kernel
theorem dX7_day_71 : decode cX7_day 71 = .ok (.iload 4, 2) := by decide +kernel
theorem dX7_day_73 : decode cX7_day 73 = .ok (.imul, 1) := by decide +kernel
theorem dX7_day_74 : decode cX7_day 74 = .ok (.invokevirtual 67, 3) := by decide +kernel
theorem dX7_day_77 : decode cX7_day 77 = .ok (.putfield 56, 3) := by decide +kernel
theorem dX7_day_80 : decode cX7_day 80 = .ok (.aload_n 0, 1) := by decide +kernel
theorem dX7_day_81 : decode cX7_day 81 = .ok (.getfield 56, 3) := by decide +kernel
theorem dX7_day_84 : decode cX7_day 84 = .ok (.ifCond .eq 8, 3) := by decide +kernel
theorem dX7_day_87 : decode cX7_day 87 = .ok (.aload_n 0, 1) := by decide +kernel
theorem dX7_day_88 : decode cX7_day 88 = .ok (.invokevirtual 71, 3) := by decide +kernel
theorem dX7_day_91 : decode cX7_day 91 = .ok (.ireturn, 1) := by decide +kernel
theorem dX7_day_92 : decode cX7_day 92 = .ok (.aload 6, 2) := by decide +kernel
theorem dX7_day_94 : decode cX7_day 94 = .ok (.iload_n 3, 1) := by decide +kernel
theorem dX7_day_95 : decode cX7_day 95 = .ok (.iload 4, 2) := by decide +kernel
theorem dX7_day_97 : decode cX7_day 97 = .ok (.invokestatic 146, 3) := by decide +kernel
theorem dX7_day_100 : decode cX7_day 100 = .ok (.ifCond .ne 6, 3) := by decide +kernel
theorem dX7_day_103 : decode cX7_day 103 = .ok (.bipush (-2), 2) := by decide +kernel
theorem dX7_day_105 : decode cX7_day 105 = .ok (.ireturn, 1) := by decide +kernel
theorem dX7_day_106 : decode cX7_day 106 = .ok (.aload_n 0, 1) := by decide +kernel
theorem dX7_day_107 : decode cX7_day 107 = .ok (.getfield 25, 3) := by decide +kernel
theorem dX7_day_110 : decode cX7_day 110 = .ok (.aload_n 0, 1) := by decide +kernel
theorem dX7_day_111 : decode cX7_day 111 = .ok (.getfield 21, 3) := by decide +kernel
theorem dX7_day_114 : decode cX7_day 114 = .ok (.invokevirtual 150, 3) := by decide +kernel
theorem dX7_day_117 : decode cX7_day 117 = .ok (.aload_n 0, 1) := by decide +kernel
theorem dX7_day_118 : decode cX7_day 118 = .ok (.getfield 52, 3) := by decide +kernel
theorem dX7_day_121 : decode cX7_day 121 = .ok (.aload_n 0, 1) := by decide +kernel
theorem dX7_day_122 : decode cX7_day 122 = .ok (.getfield 25, 3) := by decide +kernel
theorem dX7_day_125 : decode cX7_day 125 = .ok (.aload 6, 2) := by decide +kernel
theorem dX7_day_127 : decode cX7_day 127 = .ok (.iload_n 3, 1) := by decide +kernel
theorem dX7_day_128 : decode cX7_day 128 = .ok (.iload 4, 2) := by decide +kernel
theorem dX7_day_130 : decode cX7_day 130 = .ok (.invokevirtual 153, 3) := by decide +kernel
theorem dX7_day_133 : decode cX7_day 133 = .ok (.aload_n 0, 1) := by decide +kernel
theorem dX7_day_134 : decode cX7_day 134 = .ok (.iload 5, 2) := by decide +kernel
theorem dX7_day_136 : decode cX7_day 136 = .ok (.invokevirtual 157, 3) := by decide +kernel
theorem dX7_day_139 : decode cX7_day 139 = .ok (.ireturn, 1) := by decide +kernel
theorem dX7_ofDay_0 : decode cX7_ofDay 0 = .ok (.iload_n 1, 1) := by decide +kernel
theorem dX7_ofDay_1 : decode cX7_ofDay 1 = .ok (.iconst 1, 1) := by decide +kernel
theorem dX7_ofDay_2 : decode cX7_ofDay 2 = .ok (.if_icmp .ne 11, 3) := by decide +kernel
theorem dX7_ofDay_5 : decode cX7_ofDay 5 = .ok (.aload_n 0, 1) := by decide +kernel
theorem dX7_ofDay_6 : decode cX7_ofDay 6 = .ok (.getfield 52, 3) := by decide +kernel
theorem dX7_ofDay_9 : decode cX7_ofDay 9 = .ok (.getfield 160, 3) := by decide +kernel
theorem dX7_ofDay_12 : decode cX7_ofDay 12 = .ok (.ireturn, 1) := by decide +kernel
theorem dX7_ofDay_13 : decode cX7_ofDay 13 = .ok (.aload_n 0, 1) := by decide +kernel
theorem dX7_ofDay_14 : decode cX7_ofDay 14 = .ok (.getfield 52, 3) := by decide +kernel
theorem dX7_ofDay_17 : decode cX7_ofDay 17 = .ok (.getfield 160, 3) := by decide +kernel
theorem dX7_ofDay_20 : decode cX7_ofDay 20 = .ok (.bipush (-9), 2) := by decide +kernel
theorem dX7_ofDay_22 : decode cX7_ofDay 22 = .ok (.if_icmp .eq 14, 3) := by decide +kernel
theorem dX7_ofDay_25 : decode cX7_ofDay 25 = .ok (.bipush (-100), 2) := by decide +kernel
theorem dX7_ofDay_27 : decode cX7_ofDay 27 = .ok (.aload_n 0, 1) := by decide +kernel
theorem dX7_ofDay_28 : decode cX7_ofDay 28 = .ok (.getfield 52, 3) := by decide +kernel
theorem dX7_ofDay_31 : decode cX7_ofDay 31 = .ok (.getfield 160, 3) := by decide +kernel
theorem dX7_ofDay_34 : decode cX7_ofDay 34 = .ok (.isub, 1) := by decide +kernel
theorem dX7_ofDay_35 : decode cX7_ofDay 35 = .ok (.ireturn, 1) := by decide +kernel
theorem dX7_ofDay_36 : decode cX7_ofDay 36 = .ok (.iload_n 1, 1) := by decide +kernel
theorem dX7_ofDay_37 : decode cX7_ofDay 37 = .ok (.tableswitch 85 0 4 #[35, 85, 43, 51, 59], 35) := by decide +kernel
theorem dX7_ofDay_72 : decode cX7_ofDay 72 = .ok (.aload_n 0, 1) := by decide +kernel
theorem dX7_ofDay_73 : decode cX7_ofDay 73 = .ok (.getfield 25, 3) := by decide +kernel
theorem dX7_ofDay_76 : decode cX7_ofDay 76 = .ok (.invokevirtual 163, 3) := by decide +kernel
theorem dX7_ofDay_79 : decode cX7_ofDay 79 = .ok (.ireturn, 1) := by decide +kernel
theorem dX7_ofDay_80 : decode cX7_ofDay 80 = .ok (.aload_n 0, 1) := by decide +kernel
theorem dX7_ofDay_81 : decode cX7_ofDay 81 = .ok (.getfield 52, 3) := by decide +kernel
theorem dX7_ofDay_84 : decode cX7_ofDay 84 = .ok (.getfield 166, 3) := by decide +kernel
theorem dX7_ofDay_87 : decode cX7_ofDay 87 = .ok (.ireturn, 1) := by decide +kernel
theorem dX7_ofDay_88 : decode cX7_ofDay 88 = .ok (.aload_n 0, 1) := by decide +kernel
theorem dX7_ofDay_89 : decode cX7_ofDay 89 = .ok (.getfield 52, 3) := by decide +kernel
theorem dX7_ofDay_92 : decode cX7_ofDay 92 = .ok (.getfield 169, 3) := by decide +kernel
theorem dX7_ofDay_95 : decode cX7_ofDay 95 = .ok (.ireturn, 1) := by decide +kernel
theorem dX7_ofDay_96 : decode cX7_ofDay 96 = .ok (.aload_n 0, 1) := by decide +kernel
theorem dX7_ofDay_97 : decode cX7_ofDay 97 = .ok (.getfield 31, 3) := by decide +kernel
theorem dX7_ofDay_100 : decode cX7_ofDay 100 = .ok (.aload_n 0, 1) := by decide +kernel
theorem dX7_ofDay_101 : decode cX7_ofDay 101 = .ok (.getfield 21, 3) := by decide +kernel
theorem dX7_ofDay_104 : decode cX7_ofDay 104 = .ok (.invokevirtual 128, 3) := by decide +kernel
theorem dX7_ofDay_107 : decode cX7_ofDay 107 = .ok (.aload_n 0, 1) := by decide +kernel
theorem dX7_ofDay_108 : decode cX7_ofDay 108 = .ok (.getfield 31, 3) := by decide +kernel
theorem dX7_ofDay_111 : decode cX7_ofDay 111 = .ok (.aload_n 0, 1) := by decide +kernel
theorem dX7_ofDay_112 : decode cX7_ofDay 112 = .ok (.getfield 25, 3) := by decide +kernel
theorem dX7_ofDay_115 : decode cX7_ofDay 115 = .ok (.invokevirtual 132, 3) := by decide +kernel
theorem dX7_ofDay_118 : decode cX7_ofDay 118 = .ok (.invokevirtual 172, 3) := by decide +kernel
theorem dX7_ofDay_121 : decode cX7_ofDay 121 = .ok (.ireturn, 1) := by decide +kernel
theorem dX7_ofDay_122 : decode cX7_ofDay 122 = .ok (.aload_n 0, 1) := by decide +kernel
theorem dX7_ofDay_123 : decode cX7_ofDay 123 = .ok (.getfield 25, 3) := by decide +kernel
theorem dX7_ofDay_126 : decode cX7_ofDay 126 = .ok (.iload_n 1, 1) := by decide +kernel
theorem dX7_ofDay_127 : decode cX7_ofDay 127 = .ok (.bipush 10, 2) := by decide +kernel
theorem dX7_ofDay_129 : decode cX7_ofDay 129 = .ok (.isub, 1) := by decide +kernel
theorem dX7_ofDay_130 : decode cX7_ofDay 130 = .ok (.invokevirtual 175, 3) := by decide +kernel
theorem dX7_ofDay_133 : decode cX7_ofDay 133 = .ok (.ireturn, 1) := by decide +kernel
theorem dX7_now_0 : decode cX7_now 0 = .ok (.iload_n 1, 1) := by decide +kernel
theorem dX7_now_1 : decode cX7_now 1 = .ok (.ifCond .lt 8, 3) := by decide +kernel
theorem dX7_now_4 : decode cX7_now 4 = .ok (.iload_n 1, 1) := by decide +kernel
theorem dX7_now_5 : decode cX7_now 5 = .ok (.iconst 2, 1) := by decide +kernel
theorem dX7_now_6 : decode cX7_now 6 = .ok (.if_icmp .le 6, 3) := by decide +kernel
theorem dX7_now_9 : decode cX7_now 9 = .ok (.bipush (-2), 2) := by decide +kernel
theorem dX7_now_11 : decode cX7_now 11 = .ok (.ireturn, 1) := by decide +kernel
theorem dX7_now_12 : decode cX7_now 12 = .ok (.aload_n 0, 1) := by decide +kernel
theorem dX7_now_13 : decode cX7_now 13 = .ok (.getfield 21, 3) := by decide +kernel
theorem dX7_now_16 : decode cX7_now 16 = .ok (.invokevirtual 115, 3) := by decide +kernel
theorem dX7_now_19 : decode cX7_now 19 = .ok (.ifCond .eq 6, 3) := by decide +kernel
theorem dX7_now_22 : decode cX7_now 22 = .ok (.bipush (-3), 2) := by decide +kernel
theorem dX7_now_24 : decode cX7_now 24 = .ok (.ireturn, 1) := by decide +kernel
theorem dX7_now_25 : decode cX7_now 25 = .ok (.aload_n 0, 1) := by decide +kernel
theorem dX7_now_26 : decode cX7_now 26 = .ok (.getfield 31, 3) := by decide +kernel
theorem dX7_now_29 : decode cX7_now 29 = .ok (.aload_n 0, 1) := by decide +kernel
theorem dX7_now_30 : decode cX7_now 30 = .ok (.getfield 21, 3) := by decide +kernel
theorem dX7_now_33 : decode cX7_now 33 = .ok (.invokevirtual 128, 3) := by decide +kernel
theorem dX7_now_36 : decode cX7_now 36 = .ok (.aload_n 0, 1) := by decide +kernel
theorem dX7_now_37 : decode cX7_now 37 = .ok (.getfield 21, 3) := by decide +kernel
theorem dX7_now_40 : decode cX7_now 40 = .ok (.invokevirtual 132, 3) := by decide +kernel
theorem dX7_now_43 : decode cX7_now 43 = .ok (.istore_n 2, 1) := by decide +kernel
theorem dX7_now_44 : decode cX7_now 44 = .ok (.iload_n 1, 1) := by decide +kernel
theorem dX7_now_45 : decode cX7_now 45 = .ok (.lookupswitch 45 #[(0, 27), (1, 36)], 27) := by decide +kernel
theorem dX7_now_72 : decode cX7_now 72 = .ok (.aload_n 0, 1) := by decide +kernel
theorem dX7_now_73 : decode cX7_now 73 = .ok (.getfield 31, 3) := by decide +kernel
theorem dX7_now_76 : decode cX7_now 76 = .ok (.iload_n 2, 1) := by decide +kernel
theorem dX7_now_77 : decode cX7_now 77 = .ok (.invokevirtual 172, 3) := by decide +kernel
theorem dX7_now_80 : decode cX7_now 80 = .ok (.ireturn, 1) := by decide +kernel
theorem dX7_now_81 : decode cX7_now 81 = .ok (.aload_n 0, 1) := by decide +kernel
theorem dX7_now_82 : decode cX7_now 82 = .ok (.getfield 31, 3) := by decide +kernel
theorem dX7_now_85 : decode cX7_now 85 = .ok (.iload_n 2, 1) := by decide +kernel
theorem dX7_now_86 : decode cX7_now 86 = .ok (.invokevirtual 178, 3) := by decide +kernel
theorem dX7_now_89 : decode cX7_now 89 = .ok (.ireturn, 1) := by decide +kernel
theorem dX7_now_90 : decode cX7_now 90 = .ok (.aload_n 0, 1) := by decide +kernel
theorem dX7_now_91 : decode cX7_now 91 = .ok (.getfield 31, 3) := by decide +kernel
theorem dX7_now_94 : decode cX7_now 94 = .ok (.iload_n 2, 1) := by decide +kernel
theorem dX7_now_95 : decode cX7_now 95 = .ok (.invokevirtual 181, 3) := by decide +kernel
theorem dX7_now_98 : decode cX7_now 98 = .ok (.ifCond .eq 7, 3) := by decide +kernel
theorem dX7_now_101 : decode cX7_now 101 = .ok (.iconst 1, 1) := by decide +kernel
theorem dX7_now_102 : decode cX7_now 102 = .ok (.goto 4, 3) := by decide +kernel
theorem dX7_now_105 : decode cX7_now 105 = .ok (.iconst 0, 1) := by decide +kernel
theorem dX7_now_106 : decode cX7_now 106 = .ok (.ireturn, 1) := by decide +kernel
theorem dX7_from_0 : decode cX7_from 0 = .ok (.iload_n 1, 1) := by decide +kernel
theorem dX7_from_1 : decode cX7_from 1 = .ok (.iconst (-1), 1) := by decide +kernel
theorem dX7_from_2 : decode cX7_from 2 = .ok (.if_icmp .lt 8, 3) := by decide +kernel
theorem dX7_from_5 : decode cX7_from 5 = .ok (.iload_n 1, 1) := by decide +kernel
theorem dX7_from_6 : decode cX7_from 6 = .ok (.iconst 5, 1) := by decide +kernel
theorem dX7_from_7 : decode cX7_from 7 = .ok (.if_icmp .lt 6, 3) := by decide +kernel
theorem dX7_from_10 : decode cX7_from 10 = .ok (.bipush (-2), 2) := by decide +kernel
theorem dX7_from_12 : decode cX7_from 12 = .ok (.ireturn, 1) := by decide +kernel
theorem dX7_from_13 : decode cX7_from 13 = .ok (.aload_n 0, 1) := by decide +kernel
theorem dX7_from_14 : decode cX7_from 14 = .ok (.getfield 21, 3) := by decide +kernel
theorem dX7_from_17 : decode cX7_from 17 = .ok (.invokevirtual 115, 3) := by decide +kernel
theorem dX7_from_20 : decode cX7_from 20 = .ok (.ifCond .eq 6, 3) := by decide +kernel
theorem dX7_from_23 : decode cX7_from 23 = .ok (.bipush (-3), 2) := by decide +kernel
theorem dX7_from_25 : decode cX7_from 25 = .ok (.ireturn, 1) := by decide +kernel
theorem dX7_from_26 : decode cX7_from 26 = .ok (.aload_n 0, 1) := by decide +kernel
theorem dX7_from_27 : decode cX7_from 27 = .ok (.getfield 31, 3) := by decide +kernel
theorem dX7_from_30 : decode cX7_from 30 = .ok (.aload_n 0, 1) := by decide +kernel
theorem dX7_from_31 : decode cX7_from 31 = .ok (.getfield 21, 3) := by decide +kernel
theorem dX7_from_34 : decode cX7_from 34 = .ok (.invokevirtual 128, 3) := by decide +kernel
theorem dX7_from_37 : decode cX7_from 37 = .ok (.iload_n 1, 1) := by decide +kernel
theorem dX7_from_38 : decode cX7_from 38 = .ok (.ifCond .ge 18, 3) := by decide +kernel
theorem dX7_from_41 : decode cX7_from 41 = .ok (.aload_n 0, 1) := by decide +kernel
theorem dX7_from_42 : decode cX7_from 42 = .ok (.getfield 31, 3) := by decide +kernel
theorem dX7_from_45 : decode cX7_from 45 = .ok (.aload_n 0, 1) := by decide +kernel
theorem dX7_from_46 : decode cX7_from 46 = .ok (.getfield 21, 3) := by decide +kernel
theorem dX7_from_49 : decode cX7_from 49 = .ok (.invokevirtual 132, 3) := by decide +kernel
theorem dX7_from_52 : decode cX7_from 52 = .ok (.invokevirtual 184, 3) := by decide +kernel
theorem dX7_from_55 : decode cX7_from 55 = .ok (.ireturn, 1) := by decide +kernel
theorem dX7_from_56 : decode cX7_from 56 = .ok (.aload_n 0, 1) := by decide +kernel
theorem dX7_from_57 : decode cX7_from 57 = .ok (.getfield 31, 3) := by decide +kernel
theorem dX7_from_60 : decode cX7_from 60 = .ok (.aload_n 0, 1) := by decide +kernel
theorem dX7_from_61 : decode cX7_from 61 = .ok (.getfield 21, 3) := by decide +kernel
theorem dX7_from_64 : decode cX7_from 64 = .ok (.invokevirtual 132, 3) := by decide +kernel
theorem dX7_from_67 : decode cX7_from 67 = .ok (.invokevirtual 187, 3) := by decide +kernel
theorem dX7_from_70 : decode cX7_from 70 = .ok (.istore_n 2, 1) := by decide +kernel
theorem dX7_from_71 : decode cX7_from 71 = .ok (.iload_n 2, 1) := by decide +kernel
theorem dX7_from_72 : decode cX7_from 72 = .ok (.bipush (-9), 2) := by decide +kernel
theorem dX7_from_74 : decode cX7_from 74 = .ok (.if_icmp .eq 14, 3) := by decide +kernel
theorem dX7_from_77 : decode cX7_from 77 = .ok (.aload_n 0, 1) := by decide +kernel
theorem dX7_from_78 : decode cX7_from 78 = .ok (.getfield 21, 3) := by decide +kernel
theorem dX7_from_81 : decode cX7_from 81 = .ok (.iload_n 1, 1) := by decide +kernel
theorem dX7_from_82 : decode cX7_from 82 = .ok (.invokevirtual 98, 3) := by decide +kernel
theorem dX7_from_85 : decode cX7_from 85 = .ok (.ifCond .ne 8, 3) := by decide +kernel
theorem dX7_from_88 : decode cX7_from 88 = .ok (.bipush (-9), 2) := by decide +kernel
theorem dX7_from_90 : decode cX7_from 90 = .ok (.goto 12, 3) := by decide +kernel
theorem dX7_from_93 : decode cX7_from 93 = .ok (.aload_n 0, 1) := by decide +kernel
theorem dX7_from_94 : decode cX7_from 94 = .ok (.getfield 31, 3) := by decide +kernel
theorem dX7_from_97 : decode cX7_from 97 = .ok (.iload_n 2, 1) := by decide +kernel
theorem dX7_from_98 : decode cX7_from 98 = .ok (.iload_n 1, 1) := by decide +kernel
theorem dX7_from_99 : decode cX7_from 99 = .ok (.invokevirtual 139, 3) := by decide +kernel
theorem dX7_from_102 : decode cX7_from 102 = .ok (.ireturn, 1) := by decide +kernel
theorem dX7_rows_0 : decode cX7_rows 0 = .ok (.iload_n 1, 1) := by decide +kernel
theorem dX7_rows_1 : decode cX7_rows 1 = .ok (.ifCond .lt 8, 3) := by decide +kernel
theorem dX7_rows_4 : decode cX7_rows 4 = .ok (.iload_n 1, 1) := by decide +kernel
theorem dX7_rows_5 : decode cX7_rows 5 = .ok (.iconst 4, 1) := by decide +kernel
theorem dX7_rows_6 : decode cX7_rows 6 = .ok (.if_icmp .le 6, 3) := by decide +kernel
theorem dX7_rows_9 : decode cX7_rows 9 = .ok (.bipush (-2), 2) := by decide +kernel
theorem dX7_rows_11 : decode cX7_rows 11 = .ok (.ireturn, 1) := by decide +kernel
theorem dX7_rows_12 : decode cX7_rows 12 = .ok (.aload_n 0, 1) := by decide +kernel
theorem dX7_rows_13 : decode cX7_rows 13 = .ok (.getfield 21, 3) := by decide +kernel
theorem dX7_rows_16 : decode cX7_rows 16 = .ok (.invokevirtual 115, 3) := by decide +kernel
theorem dX7_rows_19 : decode cX7_rows 19 = .ok (.ifCond .eq 6, 3) := by decide +kernel
theorem dX7_rows_22 : decode cX7_rows 22 = .ok (.bipush (-3), 2) := by decide +kernel
theorem dX7_rows_24 : decode cX7_rows 24 = .ok (.ireturn, 1) := by decide +kernel
theorem dX7_rows_25 : decode cX7_rows 25 = .ok (.aload_n 0, 1) := by decide +kernel
theorem dX7_rows_26 : decode cX7_rows 26 = .ok (.getfield 31, 3) := by decide +kernel
theorem dX7_rows_29 : decode cX7_rows 29 = .ok (.aload_n 0, 1) := by decide +kernel
theorem dX7_rows_30 : decode cX7_rows 30 = .ok (.getfield 21, 3) := by decide +kernel
theorem dX7_rows_33 : decode cX7_rows 33 = .ok (.invokevirtual 128, 3) := by decide +kernel
theorem dX7_rows_36 : decode cX7_rows 36 = .ok (.iload_n 1, 1) := by decide +kernel
theorem dX7_rows_37 : decode cX7_rows 37 = .ok (.tableswitch 63 0 3 #[31, 39, 47, 55], 31) := by decide +kernel
theorem dX7_rows_68 : decode cX7_rows 68 = .ok (.aload_n 0, 1) := by decide +kernel
theorem dX7_rows_69 : decode cX7_rows 69 = .ok (.getfield 31, 3) := by decide +kernel
theorem dX7_rows_72 : decode cX7_rows 72 = .ok (.getfield 190, 3) := by decide +kernel
theorem dX7_rows_75 : decode cX7_rows 75 = .ok (.ireturn, 1) := by decide +kernel
theorem dX7_rows_76 : decode cX7_rows 76 = .ok (.aload_n 0, 1) := by decide +kernel
theorem dX7_rows_77 : decode cX7_rows 77 = .ok (.getfield 31, 3) := by decide +kernel
theorem dX7_rows_80 : decode cX7_rows 80 = .ok (.getfield 191, 3) := by decide +kernel
theorem dX7_rows_83 : decode cX7_rows 83 = .ok (.ireturn, 1) := by decide +kernel
theorem dX7_rows_84 : decode cX7_rows 84 = .ok (.aload_n 0, 1) := by decide +kernel
theorem dX7_rows_85 : decode cX7_rows 85 = .ok (.getfield 31, 3) := by decide +kernel
theorem dX7_rows_88 : decode cX7_rows 88 = .ok (.getfield 194, 3) := by decide +kernel
theorem dX7_rows_91 : decode cX7_rows 91 = .ok (.ireturn, 1) := by decide +kernel
theorem dX7_rows_92 : decode cX7_rows 92 = .ok (.aload_n 0, 1) := by decide +kernel
theorem dX7_rows_93 : decode cX7_rows 93 = .ok (.getfield 31, 3) := by decide +kernel
theorem dX7_rows_96 : decode cX7_rows 96 = .ok (.getfield 197, 3) := by decide +kernel
theorem dX7_rows_99 : decode cX7_rows 99 = .ok (.ireturn, 1) := by decide +kernel
theorem dX7_rows_100 : decode cX7_rows 100 = .ok (.aload_n 0, 1) := by decide +kernel
theorem dX7_rows_101 : decode cX7_rows 101 = .ok (.getfield 31, 3) := by decide +kernel
theorem dX7_rows_104 : decode cX7_rows 104 = .ok (.getfield 200, 3) := by decide +kernel
theorem dX7_rows_107 : decode cX7_rows 107 = .ok (.ireturn, 1) := by decide +kernel
theorem dX7_longest_0 : decode cX7_longest 0 = .ok (.iload_n 1, 1) := by decide +kernel
theorem dX7_longest_1 : decode cX7_longest 1 = .ok (.iconst (-1), 1) := by decide +kernel
theorem dX7_longest_2 : decode cX7_longest 2 = .ok (.if_icmp .lt 8, 3) := by decide +kernel
theorem dX7_longest_5 : decode cX7_longest 5 = .ok (.iload_n 1, 1) := by decide +kernel
theorem dX7_longest_6 : decode cX7_longest 6 = .ok (.iconst 5, 1) := by decide +kernel
theorem dX7_longest_7 : decode cX7_longest 7 = .ok (.if_icmp .lt 6, 3) := by decide +kernel
theorem dX7_longest_10 : decode cX7_longest 10 = .ok (.bipush (-2), 2) := by decide +kernel
theorem dX7_longest_12 : decode cX7_longest 12 = .ok (.ireturn, 1) := by decide +kernel
theorem dX7_longest_13 : decode cX7_longest 13 = .ok (.aload_n 0, 1) := by decide +kernel
theorem dX7_longest_14 : decode cX7_longest 14 = .ok (.getfield 21, 3) := by decide +kernel
theorem dX7_longest_17 : decode cX7_longest 17 = .ok (.invokevirtual 115, 3) := by decide +kernel
theorem dX7_longest_20 : decode cX7_longest 20 = .ok (.ifCond .eq 6, 3) := by decide +kernel
theorem dX7_longest_23 : decode cX7_longest 23 = .ok (.bipush (-3), 2) := by decide +kernel
theorem dX7_longest_25 : decode cX7_longest 25 = .ok (.ireturn, 1) := by decide +kernel
theorem dX7_longest_26 : decode cX7_longest 26 = .ok (.aload_n 0, 1) := by decide +kernel
theorem dX7_longest_27 : decode cX7_longest 27 = .ok (.getfield 31, 3) := by decide +kernel
theorem dX7_longest_30 : decode cX7_longest 30 = .ok (.aload_n 0, 1) := by decide +kernel
theorem dX7_longest_31 : decode cX7_longest 31 = .ok (.getfield 21, 3) := by decide +kernel
theorem dX7_longest_34 : decode cX7_longest 34 = .ok (.invokevirtual 128, 3) := by decide +kernel
theorem dX7_longest_37 : decode cX7_longest 37 = .ok (.iload_n 1, 1) := by decide +kernel
theorem dX7_longest_38 : decode cX7_longest 38 = .ok (.ifCond .ge 11, 3) := by decide +kernel
theorem dX7_longest_41 : decode cX7_longest 41 = .ok (.aload_n 0, 1) := by decide +kernel
theorem dX7_longest_42 : decode cX7_longest 42 = .ok (.getfield 31, 3) := by decide +kernel
theorem dX7_longest_45 : decode cX7_longest 45 = .ok (.getfield 203, 3) := by decide +kernel
theorem dX7_longest_48 : decode cX7_longest 48 = .ok (.ireturn, 1) := by decide +kernel
theorem dX7_longest_49 : decode cX7_longest 49 = .ok (.aload_n 0, 1) := by decide +kernel
theorem dX7_longest_50 : decode cX7_longest 50 = .ok (.getfield 21, 3) := by decide +kernel
theorem dX7_longest_53 : decode cX7_longest 53 = .ok (.iload_n 1, 1) := by decide +kernel
theorem dX7_longest_54 : decode cX7_longest 54 = .ok (.invokevirtual 98, 3) := by decide +kernel
theorem dX7_longest_57 : decode cX7_longest 57 = .ok (.ifCond .eq 21, 3) := by decide +kernel
theorem dX7_longest_60 : decode cX7_longest 60 = .ok (.aload_n 0, 1) := by decide +kernel
theorem dX7_longest_61 : decode cX7_longest 61 = .ok (.getfield 31, 3) := by decide +kernel
theorem dX7_longest_64 : decode cX7_longest 64 = .ok (.aload_n 0, 1) := by decide +kernel
theorem dX7_longest_65 : decode cX7_longest 65 = .ok (.getfield 31, 3) := by decide +kernel
theorem dX7_longest_68 : decode cX7_longest 68 = .ok (.getfield 206, 3) := by decide +kernel
theorem dX7_longest_71 : decode cX7_longest 71 = .ok (.iload_n 1, 1) := by decide +kernel
theorem dX7_longest_72 : decode cX7_longest 72 = .ok (.invokevirtual 139, 3) := by decide +kernel
theorem dX7_longest_75 : decode cX7_longest 75 = .ok (.goto 5, 3) := by decide +kernel
theorem dX7_longest_78 : decode cX7_longest 78 = .ok (.bipush (-9), 2) := by decide +kernel
theorem dX7_longest_80 : decode cX7_longest 80 = .ok (.ireturn, 1) := by decide +kernel
theorem dX7_meet_0 : decode cX7_meet 0 = .ok (.aload_n 0, 1) := by decide +kernel
theorem dX7_meet_1 : decode cX7_meet 1 = .ok (.iconst 0, 1) := by decide +kernel
theorem dX7_meet_2 : decode cX7_meet 2 = .ok (.putfield 56, 3) := by decide +kernel
theorem dX7_meet_5 : decode cX7_meet 5 = .ok (.aload_n 0, 1) := by decide +kernel
theorem dX7_meet_6 : decode cX7_meet 6 = .ok (.getfield 21, 3) := by decide +kernel
theorem dX7_meet_9 : decode cX7_meet 9 = .ok (.invokevirtual 115, 3) := by decide +kernel
theorem dX7_meet_12 : decode cX7_meet 12 = .ok (.ifCond .eq 6, 3) := by decide +kernel
theorem dX7_meet_15 : decode cX7_meet 15 = .ok (.bipush (-3), 2) := by decide +kernel
theorem dX7_meet_17 : decode cX7_meet 17 = .ok (.ireturn, 1) := by decide +kernel
theorem dX7_meet_18 : decode cX7_meet 18 = .ok (.iload_n 1, 1) := by decide +kernel
theorem dX7_meet_19 : decode cX7_meet 19 = .ok (.invokestatic 60, 3) := by decide +kernel
theorem dX7_meet_22 : decode cX7_meet 22 = .ok (.ifCond .ne 5, 3) := by decide +kernel
theorem dX7_meet_25 : decode cX7_meet 25 = .ok (.iconst (-1), 1) := by decide +kernel
theorem dX7_meet_26 : decode cX7_meet 26 = .ok (.ireturn, 1) := by decide +kernel
theorem dX7_meet_27 : decode cX7_meet 27 = .ok (.iload_n 2, 1) := by decide +kernel
theorem dX7_meet_28 : decode cX7_meet 28 = .ok (.invokestatic 64, 3) := by decide +kernel
theorem dX7_meet_31 : decode cX7_meet 31 = .ok (.ifCond .ne 6, 3) := by decide +kernel
theorem dX7_meet_34 : decode cX7_meet 34 = .ok (.bipush (-2), 2) := by decide +kernel
theorem dX7_meet_36 : decode cX7_meet 36 = .ok (.ireturn, 1) := by decide +kernel
theorem dX7_meet_37 : decode cX7_meet 37 = .ok (.aload_n 0, 1) := by decide +kernel
theorem dX7_meet_38 : decode cX7_meet 38 = .ok (.getfield 13, 3) := by decide +kernel
theorem dX7_meet_41 : decode cX7_meet 41 = .ok (.iload_n 1, 1) := by decide +kernel
theorem dX7_meet_42 : decode cX7_meet 42 = .ok (.aaload, 1) := by decide +kernel
theorem dX7_meet_43 : decode cX7_meet 43 = .ok (.astore 4, 2) := by decide +kernel
theorem dX7_meet_45 : decode cX7_meet 45 = .ok (.aload_n 0, 1) := by decide +kernel
theorem dX7_meet_46 : decode cX7_meet 46 = .ok (.aload 4, 2) := by decide +kernel
theorem dX7_meet_48 : decode cX7_meet 48 = .ok (.iload_n 2, 1) := by decide +kernel
theorem dX7_meet_49 : decode cX7_meet 49 = .ok (.iload_n 3, 1) := by decide +kernel
theorem dX7_meet_50 : decode cX7_meet 50 = .ok (.aload_n 0, 1) := by decide +kernel
theorem dX7_meet_51 : decode cX7_meet 51 = .ok (.getfield 21, 3) := by decide +kernel
theorem dX7_meet_54 : decode cX7_meet 54 = .ok (.getfield 95, 3) := by decide +kernel
theorem dX7_meet_57 : decode cX7_meet 57 = .ok (.invokevirtual 67, 3) := by decide +kernel
theorem dX7_meet_60 : decode cX7_meet 60 = .ok (.putfield 56, 3) := by decide +kernel
theorem dX7_meet_63 : decode cX7_meet 63 = .ok (.aload_n 0, 1) := by decide +kernel
theorem dX7_meet_64 : decode cX7_meet 64 = .ok (.getfield 56, 3) := by decide +kernel
theorem dX7_meet_67 : decode cX7_meet 67 = .ok (.ifCond .eq 8, 3) := by decide +kernel
theorem dX7_meet_70 : decode cX7_meet 70 = .ok (.aload_n 0, 1) := by decide +kernel
theorem dX7_meet_71 : decode cX7_meet 71 = .ok (.invokevirtual 71, 3) := by decide +kernel
theorem dX7_meet_74 : decode cX7_meet 74 = .ok (.ireturn, 1) := by decide +kernel
theorem dX7_meet_75 : decode cX7_meet 75 = .ok (.aload_n 0, 1) := by decide +kernel
theorem dX7_meet_76 : decode cX7_meet 76 = .ok (.getfield 25, 3) := by decide +kernel
theorem dX7_meet_79 : decode cX7_meet 79 = .ok (.aload_n 0, 1) := by decide +kernel
theorem dX7_meet_80 : decode cX7_meet 80 = .ok (.getfield 21, 3) := by decide +kernel
theorem dX7_meet_83 : decode cX7_meet 83 = .ok (.invokevirtual 150, 3) := by decide +kernel
theorem dX7_meet_86 : decode cX7_meet 86 = .ok (.aload_n 0, 1) := by decide +kernel
theorem dX7_meet_87 : decode cX7_meet 87 = .ok (.getfield 25, 3) := by decide +kernel
theorem dX7_meet_90 : decode cX7_meet 90 = .ok (.aload 4, 2) := by decide +kernel
theorem dX7_meet_92 : decode cX7_meet 92 = .ok (.iload_n 3, 1) := by decide +kernel
theorem dX7_meet_93 : decode cX7_meet 93 = .ok (.invokevirtual 209, 3) := by decide +kernel
theorem dX7_meet_96 : decode cX7_meet 96 = .ok (.ifCond .ne 6, 3) := by decide +kernel
theorem dX7_meet_99 : decode cX7_meet 99 = .ok (.bipush (-2), 2) := by decide +kernel
theorem dX7_meet_101 : decode cX7_meet 101 = .ok (.ireturn, 1) := by decide +kernel
theorem dX7_meet_102 : decode cX7_meet 102 = .ok (.aload_n 0, 1) := by decide +kernel
theorem dX7_meet_103 : decode cX7_meet 103 = .ok (.getfield 31, 3) := by decide +kernel
theorem dX7_meet_106 : decode cX7_meet 106 = .ok (.aload_n 0, 1) := by decide +kernel
theorem dX7_meet_107 : decode cX7_meet 107 = .ok (.getfield 21, 3) := by decide +kernel
theorem dX7_meet_110 : decode cX7_meet 110 = .ok (.invokevirtual 128, 3) := by decide +kernel
theorem dX7_meet_113 : decode cX7_meet 113 = .ok (.aload_n 0, 1) := by decide +kernel
theorem dX7_meet_114 : decode cX7_meet 114 = .ok (.getfield 31, 3) := by decide +kernel
theorem dX7_meet_117 : decode cX7_meet 117 = .ok (.aload_n 0, 1) := by decide +kernel
theorem dX7_meet_118 : decode cX7_meet 118 = .ok (.getfield 21, 3) := by decide +kernel
theorem dX7_meet_121 : decode cX7_meet 121 = .ok (.invokevirtual 132, 3) := by decide +kernel
theorem dX7_meet_124 : decode cX7_meet 124 = .ok (.aload_n 0, 1) := by decide +kernel
theorem dX7_meet_125 : decode cX7_meet 125 = .ok (.getfield 25, 3) := by decide +kernel
theorem dX7_meet_128 : decode cX7_meet 128 = .ok (.invokevirtual 132, 3) := by decide +kernel
theorem dX7_meet_131 : decode cX7_meet 131 = .ok (.invokevirtual 213, 3) := by decide +kernel
theorem dX7_meet_134 : decode cX7_meet 134 = .ok (.ireturn, 1) := by decide +kernel
theorem dX7_few_0 : decode cX7_few 0 = .ok (.iload_n 1, 1) := by decide +kernel
theorem dX7_few_1 : decode cX7_few 1 = .ok (.ifCond .lt 8, 3) := by decide +kernel
theorem dX7_few_4 : decode cX7_few 4 = .ok (.iload_n 1, 1) := by decide +kernel
theorem dX7_few_5 : decode cX7_few 5 = .ok (.iconst 1, 1) := by decide +kernel
theorem dX7_few_6 : decode cX7_few 6 = .ok (.if_icmp .le 6, 3) := by decide +kernel
theorem dX7_few_9 : decode cX7_few 9 = .ok (.bipush (-2), 2) := by decide +kernel
theorem dX7_few_11 : decode cX7_few 11 = .ok (.ireturn, 1) := by decide +kernel
theorem dX7_few_12 : decode cX7_few 12 = .ok (.aload_n 0, 1) := by decide +kernel
theorem dX7_few_13 : decode cX7_few 13 = .ok (.getfield 21, 3) := by decide +kernel
theorem dX7_few_16 : decode cX7_few 16 = .ok (.invokevirtual 115, 3) := by decide +kernel
theorem dX7_few_19 : decode cX7_few 19 = .ok (.ifCond .eq 6, 3) := by decide +kernel
theorem dX7_few_22 : decode cX7_few 22 = .ok (.bipush (-3), 2) := by decide +kernel
theorem dX7_few_24 : decode cX7_few 24 = .ok (.ireturn, 1) := by decide +kernel
theorem dX7_few_25 : decode cX7_few 25 = .ok (.aload_n 0, 1) := by decide +kernel
theorem dX7_few_26 : decode cX7_few 26 = .ok (.getfield 31, 3) := by decide +kernel
theorem dX7_few_29 : decode cX7_few 29 = .ok (.aload_n 0, 1) := by decide +kernel
theorem dX7_few_30 : decode cX7_few 30 = .ok (.getfield 21, 3) := by decide +kernel
theorem dX7_few_33 : decode cX7_few 33 = .ok (.invokevirtual 128, 3) := by decide +kernel
theorem dX7_few_36 : decode cX7_few 36 = .ok (.aload_n 0, 1) := by decide +kernel
theorem dX7_few_37 : decode cX7_few 37 = .ok (.getfield 31, 3) := by decide +kernel
theorem dX7_few_40 : decode cX7_few 40 = .ok (.aload_n 0, 1) := by decide +kernel
theorem dX7_few_41 : decode cX7_few 41 = .ok (.getfield 21, 3) := by decide +kernel
theorem dX7_few_44 : decode cX7_few 44 = .ok (.invokevirtual 132, 3) := by decide +kernel
theorem dX7_few_47 : decode cX7_few 47 = .ok (.invokevirtual 216, 3) := by decide +kernel
theorem dX7_few_50 : decode cX7_few 50 = .ok (.istore_n 2, 1) := by decide +kernel
theorem dX7_few_51 : decode cX7_few 51 = .ok (.iload_n 1, 1) := by decide +kernel
theorem dX7_few_52 : decode cX7_few 52 = .ok (.ifCond .ne 10, 3) := by decide +kernel
theorem dX7_few_55 : decode cX7_few 55 = .ok (.iload_n 2, 1) := by decide +kernel
theorem dX7_few_56 : decode cX7_few 56 = .ok (.invokestatic 219, 3) := by decide +kernel
theorem dX7_few_59 : decode cX7_few 59 = .ok (.goto 4, 3) := by decide +kernel
theorem dX7_few_62 : decode cX7_few 62 = .ok (.iload_n 2, 1) := by decide +kernel
theorem dX7_few_63 : decode cX7_few 63 = .ok (.ireturn, 1) := by decide +kernel
theorem dX7_reading_0 : decode cX7_reading 0 = .ok (.aload_n 0, 1) := by decide +kernel
theorem dX7_reading_1 : decode cX7_reading 1 = .ok (.getfield 21, 3) := by decide +kernel
theorem dX7_reading_4 : decode cX7_reading 4 = .ok (.iload_n 2, 1) := by decide +kernel
theorem dX7_reading_5 : decode cX7_reading 5 = .ok (.invokevirtual 98, 3) := by decide +kernel
theorem dX7_reading_8 : decode cX7_reading 8 = .ok (.ifCond .ne 5, 3) := by decide +kernel
theorem dX7_reading_11 : decode cX7_reading 11 = .ok (.iconst (-1), 1) := by decide +kernel
theorem dX7_reading_12 : decode cX7_reading 12 = .ok (.ireturn, 1) := by decide +kernel
theorem dX7_reading_13 : decode cX7_reading 13 = .ok (.iload_n 1, 1) := by decide +kernel
theorem dX7_reading_14 : decode cX7_reading 14 = .ok (.iload_n 3, 1) := by decide +kernel
theorem dX7_reading_15 : decode cX7_reading 15 = .ok (.invokestatic 224, 3) := by decide +kernel
theorem dX7_reading_18 : decode cX7_reading 18 = .ok (.ifCond .ne 6, 3) := by decide +kernel
theorem dX7_reading_21 : decode cX7_reading 21 = .ok (.bipush (-2), 2) := by decide +kernel
theorem dX7_reading_23 : decode cX7_reading 23 = .ok (.ireturn, 1) := by decide +kernel
theorem dX7_reading_24 : decode cX7_reading 24 = .ok (.aload_n 0, 1) := by decide +kernel
theorem dX7_reading_25 : decode cX7_reading 25 = .ok (.getfield 45, 3) := by decide +kernel
theorem dX7_reading_28 : decode cX7_reading 28 = .ok (.iload_n 1, 1) := by decide +kernel
theorem dX7_reading_29 : decode cX7_reading 29 = .ok (.iload_n 2, 1) := by decide +kernel
theorem dX7_reading_30 : decode cX7_reading 30 = .ok (.iload_n 3, 1) := by decide +kernel
theorem dX7_reading_31 : decode cX7_reading 31 = .ok (.invokevirtual 228, 3) := by decide +kernel
theorem dX7_reading_34 : decode cX7_reading 34 = .ok (.ireturn, 1) := by decide +kernel
theorem dX7_back_0 : decode cX7_back 0 = .ok (.iload_n 1, 1) := by decide +kernel
theorem dX7_back_1 : decode cX7_back 1 = .ok (.ifCond .lt 14, 3) := by decide +kernel
theorem dX7_back_4 : decode cX7_back 4 = .ok (.iload_n 1, 1) := by decide +kernel
theorem dX7_back_5 : decode cX7_back 5 = .ok (.aload_n 0, 1) := by decide +kernel
theorem dX7_back_6 : decode cX7_back 6 = .ok (.getfield 45, 3) := by decide +kernel
theorem dX7_back_9 : decode cX7_back 9 = .ok (.getfield 88, 3) := by decide +kernel
theorem dX7_back_12 : decode cX7_back 12 = .ok (.if_icmp .le 6, 3) := by decide +kernel
theorem dX7_back_15 : decode cX7_back 15 = .ok (.bipush (-2), 2) := by decide +kernel
theorem dX7_back_17 : decode cX7_back 17 = .ok (.ireturn, 1) := by decide +kernel
theorem dX7_back_18 : decode cX7_back 18 = .ok (.aload_n 0, 1) := by decide +kernel
theorem dX7_back_19 : decode cX7_back 19 = .ok (.getfield 45, 3) := by decide +kernel
theorem dX7_back_22 : decode cX7_back 22 = .ok (.dup, 1) := by decide +kernel
theorem dX7_back_23 : decode cX7_back 23 = .ok (.getfield 88, 3) := by decide +kernel
theorem dX7_back_26 : decode cX7_back 26 = .ok (.iload_n 1, 1) := by decide +kernel
theorem dX7_back_27 : decode cX7_back 27 = .ok (.isub, 1) := by decide +kernel
theorem dX7_back_28 : decode cX7_back 28 = .ok (.putfield 88, 3) := by decide +kernel
theorem dX7_back_31 : decode cX7_back 31 = .ok (.aload_n 0, 1) := by decide +kernel
theorem dX7_back_32 : decode cX7_back 32 = .ok (.getfield 45, 3) := by decide +kernel
theorem dX7_back_35 : decode cX7_back 35 = .ok (.getfield 88, 3) := by decide +kernel
theorem dX7_back_38 : decode cX7_back 38 = .ok (.ireturn, 1) := by decide +kernel
theorem dX7_kinds_0 : decode cX7_kinds 0 = .ok (.aload_n 0, 1) := by decide +kernel
theorem dX7_kinds_1 : decode cX7_kinds 1 = .ok (.getfield 21, 3) := by decide +kernel
theorem dX7_kinds_4 : decode cX7_kinds 4 = .ok (.iload_n 1, 1) := by decide +kernel
theorem dX7_kinds_5 : decode cX7_kinds 5 = .ok (.invokevirtual 98, 3) := by decide +kernel
theorem dX7_kinds_8 : decode cX7_kinds 8 = .ok (.ifCond .ne 5, 3) := by decide +kernel
theorem dX7_kinds_11 : decode cX7_kinds 11 = .ok (.iconst (-1), 1) := by decide +kernel
theorem dX7_kinds_12 : decode cX7_kinds 12 = .ok (.ireturn, 1) := by decide +kernel
theorem dX7_kinds_13 : decode cX7_kinds 13 = .ok (.iconst 0, 1) := by decide +kernel
theorem dX7_kinds_14 : decode cX7_kinds 14 = .ok (.istore_n 2, 1) := by decide +kernel
theorem dX7_kinds_15 : decode cX7_kinds 15 = .ok (.iconst 0, 1) := by decide +kernel
theorem dX7_kinds_16 : decode cX7_kinds 16 = .ok (.istore_n 3, 1) := by decide +kernel
theorem dX7_kinds_17 : decode cX7_kinds 17 = .ok (.iload_n 3, 1) := by decide +kernel
theorem dX7_kinds_18 : decode cX7_kinds 18 = .ok (.iconst 2, 1) := by decide +kernel
theorem dX7_kinds_19 : decode cX7_kinds 19 = .ok (.if_icmp .gt 50, 3) := by decide +kernel
theorem dX7_kinds_22 : decode cX7_kinds 22 = .ok (.aload_n 0, 1) := by decide +kernel
theorem dX7_kinds_23 : decode cX7_kinds 23 = .ok (.getfield 25, 3) := by decide +kernel
theorem dX7_kinds_26 : decode cX7_kinds 26 = .ok (.aload_n 0, 1) := by decide +kernel
theorem dX7_kinds_27 : decode cX7_kinds 27 = .ok (.getfield 21, 3) := by decide +kernel
theorem dX7_kinds_30 : decode cX7_kinds 30 = .ok (.invokevirtual 150, 3) := by decide +kernel
theorem dX7_kinds_33 : decode cX7_kinds 33 = .ok (.aload_n 0, 1) := by decide +kernel
theorem dX7_kinds_34 : decode cX7_kinds 34 = .ok (.getfield 25, 3) := by decide +kernel
theorem dX7_kinds_37 : decode cX7_kinds 37 = .ok (.getfield 101, 3) := by decide +kernel
theorem dX7_kinds_40 : decode cX7_kinds 40 = .ok (.iload_n 1, 1) := by decide +kernel
theorem dX7_kinds_41 : decode cX7_kinds 41 = .ok (.iload_n 3, 1) := by decide +kernel
theorem dX7_kinds_42 : decode cX7_kinds 42 = .ok (.iastore, 1) := by decide +kernel
theorem dX7_kinds_43 : decode cX7_kinds 43 = .ok (.aload_n 0, 1) := by decide +kernel
theorem dX7_kinds_44 : decode cX7_kinds 44 = .ok (.getfield 45, 3) := by decide +kernel
theorem dX7_kinds_47 : decode cX7_kinds 47 = .ok (.aload_n 0, 1) := by decide +kernel
theorem dX7_kinds_48 : decode cX7_kinds 48 = .ok (.getfield 25, 3) := by decide +kernel
theorem dX7_kinds_51 : decode cX7_kinds 51 = .ok (.invokevirtual 231, 3) := by decide +kernel
theorem dX7_kinds_54 : decode cX7_kinds 54 = .ok (.ifCond .eq 9, 3) := by decide +kernel
theorem dX7_kinds_57 : decode cX7_kinds 57 = .ok (.iload_n 2, 1) := by decide +kernel
theorem dX7_kinds_58 : decode cX7_kinds 58 = .ok (.iconst 1, 1) := by decide +kernel
theorem dX7_kinds_59 : decode cX7_kinds 59 = .ok (.iload_n 3, 1) := by decide +kernel
theorem dX7_kinds_60 : decode cX7_kinds 60 = .ok (.ishl, 1) := by decide +kernel
theorem dX7_kinds_61 : decode cX7_kinds 61 = .ok (.ior, 1) := by decide +kernel
theorem dX7_kinds_62 : decode cX7_kinds 62 = .ok (.istore_n 2, 1) := by decide +kernel
theorem dX7_kinds_63 : decode cX7_kinds 63 = .ok (.iinc 3 1, 3) := by decide +kernel
theorem dX7_kinds_66 : decode cX7_kinds 66 = .ok (.goto (-49), 3) := by decide +kernel
theorem dX7_kinds_69 : decode cX7_kinds 69 = .ok (.iload_n 2, 1) := by decide +kernel
theorem dX7_kinds_70 : decode cX7_kinds 70 = .ok (.ireturn, 1) := by decide +kernel
theorem dX7_firsts_0 : decode cX7_firsts 0 = .ok (.aload_n 0, 1) := by decide +kernel
theorem dX7_firsts_1 : decode cX7_firsts 1 = .ok (.getfield 21, 3) := by decide +kernel
theorem dX7_firsts_4 : decode cX7_firsts 4 = .ok (.iload_n 1, 1) := by decide +kernel
theorem dX7_firsts_5 : decode cX7_firsts 5 = .ok (.invokevirtual 98, 3) := by decide +kernel
theorem dX7_firsts_8 : decode cX7_firsts 8 = .ok (.ifCond .ne 5, 3) := by decide +kernel
theorem dX7_firsts_11 : decode cX7_firsts 11 = .ok (.iconst (-1), 1) := by decide +kernel
theorem dX7_firsts_12 : decode cX7_firsts 12 = .ok (.ireturn, 1) := by decide +kernel
theorem dX7_firsts_13 : decode cX7_firsts 13 = .ok (.iconst 0, 1) := by decide +kernel
theorem dX7_firsts_14 : decode cX7_firsts 14 = .ok (.istore_n 2, 1) := by decide +kernel
theorem dX7_firsts_15 : decode cX7_firsts 15 = .ok (.iconst 0, 1) := by decide +kernel
theorem dX7_firsts_16 : decode cX7_firsts 16 = .ok (.istore_n 3, 1) := by decide +kernel
theorem dX7_firsts_17 : decode cX7_firsts 17 = .ok (.iload_n 3, 1) := by decide +kernel
theorem dX7_firsts_18 : decode cX7_firsts 18 = .ok (.aload_n 0, 1) := by decide +kernel
theorem dX7_firsts_19 : decode cX7_firsts 19 = .ok (.getfield 21, 3) := by decide +kernel
theorem dX7_firsts_22 : decode cX7_firsts 22 = .ok (.getfield 235, 3) := by decide +kernel
theorem dX7_firsts_25 : decode cX7_firsts 25 = .ok (.if_icmp .ge 50, 3) := by decide +kernel
theorem dX7_firsts_28 : decode cX7_firsts 28 = .ok (.aload_n 0, 1) := by decide +kernel
theorem dX7_firsts_29 : decode cX7_firsts 29 = .ok (.getfield 25, 3) := by decide +kernel
theorem dX7_firsts_32 : decode cX7_firsts 32 = .ok (.aload_n 0, 1) := by decide +kernel
theorem dX7_firsts_33 : decode cX7_firsts 33 = .ok (.getfield 21, 3) := by decide +kernel
theorem dX7_firsts_36 : decode cX7_firsts 36 = .ok (.invokevirtual 150, 3) := by decide +kernel
theorem dX7_firsts_39 : decode cX7_firsts 39 = .ok (.aload_n 0, 1) := by decide +kernel
theorem dX7_firsts_40 : decode cX7_firsts 40 = .ok (.getfield 25, 3) := by decide +kernel
theorem dX7_firsts_43 : decode cX7_firsts 43 = .ok (.getfield 105, 3) := by decide +kernel
theorem dX7_firsts_46 : decode cX7_firsts 46 = .ok (.iload_n 1, 1) := by decide +kernel
theorem dX7_firsts_47 : decode cX7_firsts 47 = .ok (.iload_n 3, 1) := by decide +kernel
theorem dX7_firsts_48 : decode cX7_firsts 48 = .ok (.iastore, 1) := by decide +kernel
theorem dX7_firsts_49 : decode cX7_firsts 49 = .ok (.aload_n 0, 1) := by decide +kernel
theorem dX7_firsts_50 : decode cX7_firsts 50 = .ok (.getfield 45, 3) := by decide +kernel
theorem dX7_firsts_53 : decode cX7_firsts 53 = .ok (.aload_n 0, 1) := by decide +kernel
theorem dX7_firsts_54 : decode cX7_firsts 54 = .ok (.getfield 25, 3) := by decide +kernel
theorem dX7_firsts_57 : decode cX7_firsts 57 = .ok (.invokevirtual 231, 3) := by decide +kernel
theorem dX7_firsts_60 : decode cX7_firsts 60 = .ok (.ifCond .eq 9, 3) := by decide +kernel
theorem dX7_firsts_63 : decode cX7_firsts 63 = .ok (.iload_n 2, 1) := by decide +kernel
theorem dX7_firsts_64 : decode cX7_firsts 64 = .ok (.iconst 1, 1) := by decide +kernel
theorem dX7_firsts_65 : decode cX7_firsts 65 = .ok (.iload_n 3, 1) := by decide +kernel
theorem dX7_firsts_66 : decode cX7_firsts 66 = .ok (.ishl, 1) := by decide +kernel
theorem dX7_firsts_67 : decode cX7_firsts 67 = .ok (.ior, 1) := by decide +kernel
theorem dX7_firsts_68 : decode cX7_firsts 68 = .ok (.istore_n 2, 1) := by decide +kernel
theorem dX7_firsts_69 : decode cX7_firsts 69 = .ok (.iinc 3 1, 3) := by decide +kernel
theorem dX7_firsts_72 : decode cX7_firsts 72 = .ok (.goto (-55), 3) := by decide +kernel
theorem dX7_firsts_75 : decode cX7_firsts 75 = .ok (.iload_n 2, 1) := by decide +kernel
theorem dX7_firsts_76 : decode cX7_firsts 76 = .ok (.ireturn, 1) := by decide +kernel
theorem dX7_odds_0 : decode cX7_odds 0 = .ok (.aload_n 0, 1) := by decide +kernel
theorem dX7_odds_1 : decode cX7_odds 1 = .ok (.getfield 21, 3) := by decide +kernel
theorem dX7_odds_4 : decode cX7_odds 4 = .ok (.iload_n 1, 1) := by decide +kernel
theorem dX7_odds_5 : decode cX7_odds 5 = .ok (.invokevirtual 98, 3) := by decide +kernel
theorem dX7_odds_8 : decode cX7_odds 8 = .ok (.ifCond .eq 22, 3) := by decide +kernel
theorem dX7_odds_11 : decode cX7_odds 11 = .ok (.iload_n 2, 1) := by decide +kernel
theorem dX7_odds_12 : decode cX7_odds 12 = .ok (.iload_n 3, 1) := by decide +kernel
theorem dX7_odds_13 : decode cX7_odds 13 = .ok (.invokestatic 224, 3) := by decide +kernel
theorem dX7_odds_16 : decode cX7_odds 16 = .ok (.ifCond .eq 14, 3) := by decide +kernel
theorem dX7_odds_19 : decode cX7_odds 19 = .ok (.iload 4, 2) := by decide +kernel
theorem dX7_odds_21 : decode cX7_odds 21 = .ok (.ifCond .lt 9, 3) := by decide +kernel
theorem dX7_odds_24 : decode cX7_odds 24 = .ok (.iload 4, 2) := by decide +kernel
theorem dX7_odds_26 : decode cX7_odds 26 = .ok (.iconst 1, 1) := by decide +kernel
theorem dX7_odds_27 : decode cX7_odds 27 = .ok (.if_icmp .le 7, 3) := by decide +kernel
theorem dX7_odds_30 : decode cX7_odds 30 = .ok (.ldc2_w 238, 3) := by decide +kernel
theorem dX7_odds_33 : decode cX7_odds 33 = .ok (.lreturn, 1) := by decide +kernel
theorem dX7_odds_34 : decode cX7_odds 34 = .ok (.aload_n 0, 1) := by decide +kernel
theorem dX7_odds_35 : decode cX7_odds 35 = .ok (.getfield 31, 3) := by decide +kernel
theorem dX7_odds_38 : decode cX7_odds 38 = .ok (.aload_n 0, 1) := by decide +kernel
theorem dX7_odds_39 : decode cX7_odds 39 = .ok (.getfield 21, 3) := by decide +kernel
theorem dX7_odds_42 : decode cX7_odds 42 = .ok (.invokevirtual 128, 3) := by decide +kernel
theorem dX7_odds_45 : decode cX7_odds 45 = .ok (.aload_n 0, 1) := by decide +kernel
theorem dX7_odds_46 : decode cX7_odds 46 = .ok (.getfield 38, 3) := by decide +kernel
theorem dX7_odds_49 : decode cX7_odds 49 = .ok (.aload_n 0, 1) := by decide +kernel
theorem dX7_odds_50 : decode cX7_odds 50 = .ok (.getfield 31, 3) := by decide +kernel
theorem dX7_odds_53 : decode cX7_odds 53 = .ok (.iload_n 2, 1) := by decide +kernel
theorem dX7_odds_54 : decode cX7_odds 54 = .ok (.invokevirtual 240, 3) := by decide +kernel
theorem dX7_odds_57 : decode cX7_odds 57 = .ok (.aload_n 0, 1) := by decide +kernel
theorem dX7_odds_58 : decode cX7_odds 58 = .ok (.getfield 38, 3) := by decide +kernel
theorem dX7_odds_61 : decode cX7_odds 61 = .ok (.aload_n 0, 1) := by decide +kernel
theorem dX7_odds_62 : decode cX7_odds 62 = .ok (.getfield 31, 3) := by decide +kernel
theorem dX7_odds_65 : decode cX7_odds 65 = .ok (.iload_n 1, 1) := by decide +kernel
theorem dX7_odds_66 : decode cX7_odds 66 = .ok (.iload_n 3, 1) := by decide +kernel
theorem dX7_odds_67 : decode cX7_odds 67 = .ok (.invokevirtual 244, 3) := by decide +kernel
theorem dX7_odds_70 : decode cX7_odds 70 = .ok (.istore 5, 2) := by decide +kernel
theorem dX7_odds_72 : decode cX7_odds 72 = .ok (.iload 5, 2) := by decide +kernel
theorem dX7_odds_74 : decode cX7_odds 74 = .ok (.aload_n 0, 1) := by decide +kernel
theorem dX7_odds_75 : decode cX7_odds 75 = .ok (.getfield 31, 3) := by decide +kernel
theorem dX7_odds_78 : decode cX7_odds 78 = .ok (.getfield 190, 3) := by decide +kernel
theorem dX7_odds_81 : decode cX7_odds 81 = .ok (.invokestatic 248, 3) := by decide +kernel
theorem dX7_odds_84 : decode cX7_odds 84 = .ok (.istore 6, 2) := by decide +kernel
theorem dX7_odds_86 : decode cX7_odds 86 = .ok (.iload 6, 2) := by decide +kernel
theorem dX7_odds_88 : decode cX7_odds 88 = .ok (.iconst 1, 1) := by decide +kernel
theorem dX7_odds_89 : decode cX7_odds 89 = .ok (.if_icmp .ge 7, 3) := by decide +kernel
theorem dX7_odds_92 : decode cX7_odds 92 = .ok (.ldc2_w 238, 3) := by decide +kernel
theorem dX7_odds_95 : decode cX7_odds 95 = .ok (.lreturn, 1) := by decide +kernel
theorem dX7_odds_96 : decode cX7_odds 96 = .ok (.iload 4, 2) := by decide +kernel
theorem dX7_odds_98 : decode cX7_odds 98 = .ok (.ifCond .ne 8, 3) := by decide +kernel
theorem dX7_odds_101 : decode cX7_odds 101 = .ok (.iload 5, 2) := by decide +kernel
theorem dX7_odds_103 : decode cX7_odds 103 = .ok (.goto 10, 3) := by decide +kernel
theorem dX7_odds_106 : decode cX7_odds 106 = .ok (.aload_n 0, 1) := by decide +kernel
theorem dX7_odds_107 : decode cX7_odds 107 = .ok (.getfield 31, 3) := by decide +kernel
theorem dX7_odds_110 : decode cX7_odds 110 = .ok (.getfield 190, 3) := by decide +kernel
theorem dX7_odds_113 : decode cX7_odds 113 = .ok (.iload 6, 2) := by decide +kernel
theorem dX7_odds_115 : decode cX7_odds 115 = .ok (.idiv, 1) := by decide +kernel
theorem dX7_odds_116 : decode cX7_odds 116 = .ok (.i2l, 1) := by decide +kernel
theorem dX7_odds_117 : decode cX7_odds 117 = .ok (.lreturn, 1) := by decide +kernel
theorem dX7_sheet_0 : decode cX7_sheet 0 = .ok (.aload_n 0, 1) := by decide +kernel
theorem dX7_sheet_1 : decode cX7_sheet 1 = .ok (.iconst 0, 1) := by decide +kernel
theorem dX7_sheet_2 : decode cX7_sheet 2 = .ok (.putfield 56, 3) := by decide +kernel
theorem dX7_sheet_5 : decode cX7_sheet 5 = .ok (.iload_n 1, 1) := by decide +kernel
theorem dX7_sheet_6 : decode cX7_sheet 6 = .ok (.invokestatic 60, 3) := by decide +kernel
theorem dX7_sheet_9 : decode cX7_sheet 9 = .ok (.ifCond .ne 5, 3) := by decide +kernel
theorem dX7_sheet_12 : decode cX7_sheet 12 = .ok (.iconst (-1), 1) := by decide +kernel
theorem dX7_sheet_13 : decode cX7_sheet 13 = .ok (.ireturn, 1) := by decide +kernel
theorem dX7_sheet_14 : decode cX7_sheet 14 = .ok (.iload_n 2, 1) := by decide +kernel
theorem dX7_sheet_15 : decode cX7_sheet 15 = .ok (.invokestatic 64, 3) := by decide +kernel
theorem dX7_sheet_18 : decode cX7_sheet 18 = .ok (.ifCond .eq 9, 3) := by decide +kernel
theorem dX7_sheet_21 : decode cX7_sheet 21 = .ok (.iload_n 3, 1) := by decide +kernel
theorem dX7_sheet_22 : decode cX7_sheet 22 = .ok (.bipush 60, 2) := by decide +kernel
theorem dX7_sheet_24 : decode cX7_sheet 24 = .ok (.if_icmp .le 6, 3) := by decide +kernel
theorem dX7_sheet_27 : decode cX7_sheet 27 = .ok (.bipush (-2), 2) := by decide +kernel
theorem dX7_sheet_29 : decode cX7_sheet 29 = .ok (.ireturn, 1) := by decide +kernel
theorem dX7_sheet_30 : decode cX7_sheet 30 = .ok (.iload_n 3, 1) := by decide +kernel
theorem dX7_sheet_31 : decode cX7_sheet 31 = .ok (.ifCond .ge 13, 3) := by decide +kernel
theorem dX7_sheet_34 : decode cX7_sheet 34 = .ok (.aload_n 0, 1) := by decide +kernel
theorem dX7_sheet_35 : decode cX7_sheet 35 = .ok (.iconst 4, 1) := by decide +kernel
theorem dX7_sheet_36 : decode cX7_sheet 36 = .ok (.putfield 56, 3) := by decide +kernel
theorem dX7_sheet_39 : decode cX7_sheet 39 = .ok (.aload_n 0, 1) := by decide +kernel
theorem dX7_sheet_40 : decode cX7_sheet 40 = .ok (.invokevirtual 71, 3) := by decide +kernel
theorem dX7_sheet_43 : decode cX7_sheet 43 = .ok (.ireturn, 1) := by decide +kernel
theorem dX7_sheet_44 : decode cX7_sheet 44 = .ok (.aload_n 0, 1) := by decide +kernel
theorem dX7_sheet_45 : decode cX7_sheet 45 = .ok (.getfield 13, 3) := by decide +kernel
theorem dX7_sheet_48 : decode cX7_sheet 48 = .ok (.iload_n 1, 1) := by decide +kernel
theorem dX7_sheet_49 : decode cX7_sheet 49 = .ok (.aaload, 1) := by decide +kernel
theorem dX7_sheet_50 : decode cX7_sheet 50 = .ok (.iload_n 2, 1) := by decide +kernel
theorem dX7_sheet_51 : decode cX7_sheet 51 = .ok (.iload_n 3, 1) := by decide +kernel
theorem dX7_sheet_52 : decode cX7_sheet 52 = .ok (.invokevirtual 251, 3) := by decide +kernel
theorem dX7_sheet_55 : decode cX7_sheet 55 = .ok (.iconst 1, 1) := by decide +kernel
theorem dX7_sheet_56 : decode cX7_sheet 56 = .ok (.ireturn, 1) := by decide +kernel
theorem dX7_lose_0 : decode cX7_lose 0 = .ok (.iload_n 1, 1) := by decide +kernel
theorem dX7_lose_1 : decode cX7_lose 1 = .ok (.invokestatic 60, 3) := by decide +kernel
theorem dX7_lose_4 : decode cX7_lose 4 = .ok (.ifCond .ne 5, 3) := by decide +kernel
theorem dX7_lose_7 : decode cX7_lose 7 = .ok (.iconst (-1), 1) := by decide +kernel
theorem dX7_lose_8 : decode cX7_lose 8 = .ok (.ireturn, 1) := by decide +kernel
theorem dX7_lose_9 : decode cX7_lose 9 = .ok (.aload_n 0, 1) := by decide +kernel
theorem dX7_lose_10 : decode cX7_lose 10 = .ok (.getfield 13, 3) := by decide +kernel
theorem dX7_lose_13 : decode cX7_lose 13 = .ok (.iload_n 1, 1) := by decide +kernel
theorem dX7_lose_14 : decode cX7_lose 14 = .ok (.aaload, 1) := by decide +kernel
theorem dX7_lose_15 : decode cX7_lose 15 = .ok (.invokevirtual 255, 3) := by decide +kernel
theorem dX7_lose_18 : decode cX7_lose 18 = .ok (.ifCond .eq 7, 3) := by decide +kernel
theorem dX7_lose_21 : decode cX7_lose 21 = .ok (.iconst 0, 1) := by decide +kernel
theorem dX7_lose_22 : decode cX7_lose 22 = .ok (.goto 4, 3) := by decide +kernel
theorem dX7_lose_25 : decode cX7_lose 25 = .ok (.iconst 1, 1) := by decide +kernel
theorem dX7_lose_26 : decode cX7_lose 26 = .ok (.istore_n 2, 1) := by decide +kernel
theorem dX7_lose_27 : decode cX7_lose 27 = .ok (.aload_n 0, 1) := by decide +kernel
theorem dX7_lose_28 : decode cX7_lose 28 = .ok (.getfield 13, 3) := by decide +kernel
theorem dX7_lose_31 : decode cX7_lose 31 = .ok (.iload_n 1, 1) := by decide +kernel
theorem dX7_lose_32 : decode cX7_lose 32 = .ok (.aaload, 1) := by decide +kernel
theorem dX7_lose_33 : decode cX7_lose 33 = .ok (.invokevirtual 258, 3) := by decide +kernel
theorem dX7_lose_36 : decode cX7_lose 36 = .ok (.iload_n 2, 1) := by decide +kernel
theorem dX7_lose_37 : decode cX7_lose 37 = .ok (.ireturn, 1) := by decide +kernel
theorem dX7_put_0 : decode cX7_put 0 = .ok (.aload_n 0, 1) := by decide +kernel
theorem dX7_put_1 : decode cX7_put 1 = .ok (.iconst 0, 1) := by decide +kernel
theorem dX7_put_2 : decode cX7_put 2 = .ok (.putfield 56, 3) := by decide +kernel
theorem dX7_put_5 : decode cX7_put 5 = .ok (.iload_n 1, 1) := by decide +kernel
theorem dX7_put_6 : decode cX7_put 6 = .ok (.invokestatic 60, 3) := by decide +kernel
theorem dX7_put_9 : decode cX7_put 9 = .ok (.ifCond .ne 5, 3) := by decide +kernel
theorem dX7_put_12 : decode cX7_put 12 = .ok (.iconst (-1), 1) := by decide +kernel
theorem dX7_put_13 : decode cX7_put 13 = .ok (.ireturn, 1) := by decide +kernel
theorem dX7_put_14 : decode cX7_put 14 = .ok (.aload_n 0, 1) := by decide +kernel
theorem dX7_put_15 : decode cX7_put 15 = .ok (.aload_n 0, 1) := by decide +kernel
theorem dX7_put_16 : decode cX7_put 16 = .ok (.getfield 13, 3) := by decide +kernel
theorem dX7_put_19 : decode cX7_put 19 = .ok (.iload_n 1, 1) := by decide +kernel
theorem dX7_put_20 : decode cX7_put 20 = .ok (.aaload, 1) := by decide +kernel
theorem dX7_put_21 : decode cX7_put 21 = .ok (.iload_n 2, 1) := by decide +kernel
theorem dX7_put_22 : decode cX7_put 22 = .ok (.iconst 1, 1) := by decide +kernel
theorem dX7_put_23 : decode cX7_put 23 = .ok (.invokevirtual 261, 3) := by decide +kernel
theorem dX7_put_26 : decode cX7_put 26 = .ok (.putfield 56, 3) := by decide +kernel
theorem dX7_put_29 : decode cX7_put 29 = .ok (.aload_n 0, 1) := by decide +kernel
theorem dX7_put_30 : decode cX7_put 30 = .ok (.getfield 56, 3) := by decide +kernel
theorem dX7_put_33 : decode cX7_put 33 = .ok (.ifCond .eq 8, 3) := by decide +kernel
theorem dX7_put_36 : decode cX7_put 36 = .ok (.aload_n 0, 1) := by decide +kernel
theorem dX7_put_37 : decode cX7_put 37 = .ok (.invokevirtual 71, 3) := by decide +kernel
theorem dX7_put_40 : decode cX7_put 40 = .ok (.ireturn, 1) := by decide +kernel
theorem dX7_put_41 : decode cX7_put 41 = .ok (.aload_n 0, 1) := by decide +kernel
theorem dX7_put_42 : decode cX7_put 42 = .ok (.getfield 13, 3) := by decide +kernel
theorem dX7_put_45 : decode cX7_put 45 = .ok (.iload_n 1, 1) := by decide +kernel
theorem dX7_put_46 : decode cX7_put 46 = .ok (.aaload, 1) := by decide +kernel
theorem dX7_put_47 : decode cX7_put 47 = .ok (.iload_n 2, 1) := by decide +kernel
theorem dX7_put_48 : decode cX7_put 48 = .ok (.iload_n 3, 1) := by decide +kernel
theorem dX7_put_49 : decode cX7_put 49 = .ok (.invokevirtual 264, 3) := by decide +kernel
theorem dX7_put_52 : decode cX7_put 52 = .ok (.iconst 1, 1) := by decide +kernel
theorem dX7_put_53 : decode cX7_put 53 = .ok (.ireturn, 1) := by decide +kernel
theorem dX7_cell_0 : decode cX7_cell 0 = .ok (.aload_n 0, 1) := by decide +kernel
theorem dX7_cell_1 : decode cX7_cell 1 = .ok (.iconst 0, 1) := by decide +kernel
theorem dX7_cell_2 : decode cX7_cell 2 = .ok (.putfield 56, 3) := by decide +kernel
theorem dX7_cell_5 : decode cX7_cell 5 = .ok (.iload_n 1, 1) := by decide +kernel
theorem dX7_cell_6 : decode cX7_cell 6 = .ok (.invokestatic 60, 3) := by decide +kernel
theorem dX7_cell_9 : decode cX7_cell 9 = .ok (.ifCond .eq 10, 3) := by decide +kernel
theorem dX7_cell_12 : decode cX7_cell 12 = .ok (.iload_n 3, 1) := by decide +kernel
theorem dX7_cell_13 : decode cX7_cell 13 = .ok (.invokestatic 64, 3) := by decide +kernel
theorem dX7_cell_16 : decode cX7_cell 16 = .ok (.ifCond .ne 7, 3) := by decide +kernel
theorem dX7_cell_19 : decode cX7_cell 19 = .ok (.ldc2_w 238, 3) := by decide +kernel
theorem dX7_cell_22 : decode cX7_cell 22 = .ok (.lreturn, 1) := by decide +kernel
theorem dX7_cell_23 : decode cX7_cell 23 = .ok (.aload_n 0, 1) := by decide +kernel
theorem dX7_cell_24 : decode cX7_cell 24 = .ok (.aload_n 0, 1) := by decide +kernel
theorem dX7_cell_25 : decode cX7_cell 25 = .ok (.getfield 13, 3) := by decide +kernel
theorem dX7_cell_28 : decode cX7_cell 28 = .ok (.iload_n 1, 1) := by decide +kernel
theorem dX7_cell_29 : decode cX7_cell 29 = .ok (.aaload, 1) := by decide +kernel
theorem dX7_cell_30 : decode cX7_cell 30 = .ok (.iload_n 3, 1) := by decide +kernel
theorem dX7_cell_31 : decode cX7_cell 31 = .ok (.iload_n 2, 1) := by decide +kernel
theorem dX7_cell_32 : decode cX7_cell 32 = .ok (.iconst 1, 1) := by decide +kernel
theorem dX7_cell_33 : decode cX7_cell 33 = .ok (.invokevirtual 67, 3) := by decide +kernel
theorem dX7_cell_36 : decode cX7_cell 36 = .ok (.putfield 56, 3) := by decide +kernel
theorem dX7_cell_39 : decode cX7_cell 39 = .ok (.aload_n 0, 1) := by decide +kernel
theorem dX7_cell_40 : decode cX7_cell 40 = .ok (.getfield 56, 3) := by decide +kernel
theorem dX7_cell_43 : decode cX7_cell 43 = .ok (.ifCond .eq 9, 3) := by decide +kernel
theorem dX7_cell_46 : decode cX7_cell 46 = .ok (.ldc2_w 238, 3) := by decide +kernel
theorem dX7_cell_49 : decode cX7_cell 49 = .ok (.goto 14, 3) := by decide +kernel
theorem dX7_cell_52 : decode cX7_cell 52 = .ok (.aload_n 0, 1) := by decide +kernel
theorem dX7_cell_53 : decode cX7_cell 53 = .ok (.getfield 13, 3) := by decide +kernel
theorem dX7_cell_56 : decode cX7_cell 56 = .ok (.iload_n 1, 1) := by decide +kernel
theorem dX7_cell_57 : decode cX7_cell 57 = .ok (.aaload, 1) := by decide +kernel
theorem dX7_cell_58 : decode cX7_cell 58 = .ok (.iload_n 2, 1) := by decide +kernel
theorem dX7_cell_59 : decode cX7_cell 59 = .ok (.invokevirtual 267, 3) := by decide +kernel
theorem dX7_cell_62 : decode cX7_cell 62 = .ok (.i2l, 1) := by decide +kernel
theorem dX7_cell_63 : decode cX7_cell 63 = .ok (.lreturn, 1) := by decide +kernel
theorem dX7_copy_0 : decode cX7_copy 0 = .ok (.aload_n 0, 1) := by decide +kernel
theorem dX7_copy_1 : decode cX7_copy 1 = .ok (.iconst 0, 1) := by decide +kernel
theorem dX7_copy_2 : decode cX7_copy 2 = .ok (.putfield 56, 3) := by decide +kernel
theorem dX7_copy_5 : decode cX7_copy 5 = .ok (.iload_n 1, 1) := by decide +kernel
theorem dX7_copy_6 : decode cX7_copy 6 = .ok (.invokestatic 60, 3) := by decide +kernel
theorem dX7_copy_9 : decode cX7_copy 9 = .ok (.ifCond .eq 10, 3) := by decide +kernel
theorem dX7_copy_12 : decode cX7_copy 12 = .ok (.iload_n 3, 1) := by decide +kernel
theorem dX7_copy_13 : decode cX7_copy 13 = .ok (.invokestatic 60, 3) := by decide +kernel
theorem dX7_copy_16 : decode cX7_copy 16 = .ok (.ifCond .ne 5, 3) := by decide +kernel
theorem dX7_copy_19 : decode cX7_copy 19 = .ok (.iconst (-1), 1) := by decide +kernel
theorem dX7_copy_20 : decode cX7_copy 20 = .ok (.ireturn, 1) := by decide +kernel
theorem dX7_copy_21 : decode cX7_copy 21 = .ok (.aload_n 0, 1) := by decide +kernel
theorem dX7_copy_22 : decode cX7_copy 22 = .ok (.getfield 13, 3) := by decide +kernel
theorem dX7_copy_25 : decode cX7_copy 25 = .ok (.iload_n 1, 1) := by decide +kernel
theorem dX7_copy_26 : decode cX7_copy 26 = .ok (.aaload, 1) := by decide +kernel
theorem dX7_copy_27 : decode cX7_copy 27 = .ok (.astore 6, 2) := by decide +kernel
theorem dX7_copy_29 : decode cX7_copy 29 = .ok (.aload_n 0, 1) := by decide +kernel
theorem dX7_copy_30 : decode cX7_copy 30 = .ok (.getfield 13, 3) := by decide +kernel
theorem dX7_copy_33 : decode cX7_copy 33 = .ok (.iload_n 3, 1) := by decide +kernel
theorem dX7_copy_34 : decode cX7_copy 34 = .ok (.aaload, 1) := by decide +kernel
theorem dX7_copy_35 : decode cX7_copy 35 = .ok (.astore 7, 2) := by decide +kernel
theorem dX7_copy_37 : decode cX7_copy 37 = .ok (.aload_n 0, 1) := by decide +kernel
theorem dX7_copy_38 : decode cX7_copy 38 = .ok (.aload 6, 2) := by decide +kernel
theorem dX7_copy_40 : decode cX7_copy 40 = .ok (.iload_n 2, 1) := by decide +kernel
theorem dX7_copy_41 : decode cX7_copy 41 = .ok (.aload 7, 2) := by decide +kernel
theorem dX7_copy_43 : decode cX7_copy 43 = .ok (.iload 4, 2) := by decide +kernel
theorem dX7_copy_45 : decode cX7_copy 45 = .ok (.iload 5, 2) := by decide +kernel
theorem dX7_copy_47 : decode cX7_copy 47 = .ok (.invokevirtual 270, 3) := by decide +kernel
theorem dX7_copy_50 : decode cX7_copy 50 = .ok (.putfield 56, 3) := by decide +kernel
theorem dX7_copy_53 : decode cX7_copy 53 = .ok (.aload_n 0, 1) := by decide +kernel
theorem dX7_copy_54 : decode cX7_copy 54 = .ok (.getfield 56, 3) := by decide +kernel
theorem dX7_copy_57 : decode cX7_copy 57 = .ok (.ifCond .eq 8, 3) := by decide +kernel
theorem dX7_copy_60 : decode cX7_copy 60 = .ok (.aload_n 0, 1) := by decide +kernel
theorem dX7_copy_61 : decode cX7_copy 61 = .ok (.invokevirtual 71, 3) := by decide +kernel
theorem dX7_copy_64 : decode cX7_copy 64 = .ok (.ireturn, 1) := by decide +kernel
theorem dX7_copy_65 : decode cX7_copy 65 = .ok (.aload 6, 2) := by decide +kernel
theorem dX7_copy_67 : decode cX7_copy 67 = .ok (.getfield 274, 3) := by decide +kernel
theorem dX7_copy_70 : decode cX7_copy 70 = .ok (.iload_n 2, 1) := by decide +kernel
theorem dX7_copy_71 : decode cX7_copy 71 = .ok (.aload 7, 2) := by decide +kernel
theorem dX7_copy_73 : decode cX7_copy 73 = .ok (.getfield 274, 3) := by decide +kernel
theorem dX7_copy_76 : decode cX7_copy 76 = .ok (.iload 4, 2) := by decide +kernel
theorem dX7_copy_78 : decode cX7_copy 78 = .ok (.iload 5, 2) := by decide +kernel
theorem dX7_copy_80 : decode cX7_copy 80 = .ok (.invokestatic 277, 3) := by decide +kernel
theorem dX7_copy_83 : decode cX7_copy 83 = .ok (.iload 5, 2) := by decide +kernel
theorem dX7_copy_85 : decode cX7_copy 85 = .ok (.ireturn, 1) := by decide +kernel
theorem dX7_tell_0 : decode cX7_tell 0 = .ok (.aload_n 0, 1) := by decide +kernel
theorem dX7_tell_1 : decode cX7_tell 1 = .ok (.getfield 21, 3) := by decide +kernel
theorem dX7_tell_4 : decode cX7_tell 4 = .ok (.iload_n 1, 1) := by decide +kernel
theorem dX7_tell_5 : decode cX7_tell 5 = .ok (.invokevirtual 98, 3) := by decide +kernel
theorem dX7_tell_8 : decode cX7_tell 8 = .ok (.ifCond .ne 5, 3) := by decide +kernel
theorem dX7_tell_11 : decode cX7_tell 11 = .ok (.iconst (-1), 1) := by decide +kernel
theorem dX7_tell_12 : decode cX7_tell 12 = .ok (.ireturn, 1) := by decide +kernel
theorem dX7_tell_13 : decode cX7_tell 13 = .ok (.aload_n 0, 1) := by decide +kernel
theorem dX7_tell_14 : decode cX7_tell 14 = .ok (.getfield 21, 3) := by decide +kernel
theorem dX7_tell_17 : decode cX7_tell 17 = .ok (.getfield 101, 3) := by decide +kernel
theorem dX7_tell_20 : decode cX7_tell 20 = .ok (.iload_n 1, 1) := by decide +kernel
theorem dX7_tell_21 : decode cX7_tell 21 = .ok (.iaload, 1) := by decide +kernel
theorem dX7_tell_22 : decode cX7_tell 22 = .ok (.lookupswitch 38 #[(0, 26), (1, 32)], 26) := by decide +kernel
theorem dX7_tell_48 : decode cX7_tell 48 = .ok (.aload_n 0, 1) := by decide +kernel
theorem dX7_tell_49 : decode cX7_tell 49 = .ok (.iload_n 1, 1) := by decide +kernel
theorem dX7_tell_50 : decode cX7_tell 50 = .ok (.invokevirtual 283, 3) := by decide +kernel
theorem dX7_tell_53 : decode cX7_tell 53 = .ok (.ireturn, 1) := by decide +kernel
theorem dX7_tell_54 : decode cX7_tell 54 = .ok (.aload_n 0, 1) := by decide +kernel
theorem dX7_tell_55 : decode cX7_tell 55 = .ok (.iload_n 1, 1) := by decide +kernel
theorem dX7_tell_56 : decode cX7_tell 56 = .ok (.invokevirtual 286, 3) := by decide +kernel
theorem dX7_tell_59 : decode cX7_tell 59 = .ok (.ireturn, 1) := by decide +kernel
theorem dX7_tell_60 : decode cX7_tell 60 = .ok (.aload_n 0, 1) := by decide +kernel
theorem dX7_tell_61 : decode cX7_tell 61 = .ok (.iload_n 1, 1) := by decide +kernel
theorem dX7_tell_62 : decode cX7_tell 62 = .ok (.invokevirtual 289, 3) := by decide +kernel
theorem dX7_tell_65 : decode cX7_tell 65 = .ok (.ireturn, 1) := by decide +kernel
theorem dX7_tellPlain_0 : decode cX7_tellPlain 0 = .ok (.aload_n 0, 1) := by decide +kernel
theorem dX7_tellPlain_1 : decode cX7_tellPlain 1 = .ok (.iconst 1, 1) := by decide +kernel
theorem dX7_tellPlain_2 : decode cX7_tellPlain 2 = .ok (.invokevirtual 292, 3) := by decide +kernel
theorem dX7_tellPlain_5 : decode cX7_tellPlain 5 = .ok (.aload_n 0, 1) := by decide +kernel
theorem dX7_tellPlain_6 : decode cX7_tellPlain 6 = .ok (.getfield 21, 3) := by decide +kernel
theorem dX7_tellPlain_9 : decode cX7_tellPlain 9 = .ok (.getfield 105, 3) := by decide +kernel
theorem dX7_tellPlain_12 : decode cX7_tellPlain 12 = .ok (.iload_n 1, 1) := by decide +kernel
theorem dX7_tellPlain_13 : decode cX7_tellPlain 13 = .ok (.iaload, 1) := by decide +kernel
theorem dX7_tellPlain_14 : decode cX7_tellPlain 14 = .ok (.ireturn, 1) := by decide +kernel
theorem dX7_tellFar_0 : decode cX7_tellFar 0 = .ok (.aload_n 0, 1) := by decide +kernel
theorem dX7_tellFar_1 : decode cX7_tellFar 1 = .ok (.iconst 2, 1) := by decide +kernel
theorem dX7_tellFar_2 : decode cX7_tellFar 2 = .ok (.invokevirtual 292, 3) := by decide +kernel
theorem dX7_tellFar_5 : decode cX7_tellFar 5 = .ok (.aload_n 0, 1) := by decide +kernel
theorem dX7_tellFar_6 : decode cX7_tellFar 6 = .ok (.iload_n 1, 1) := by decide +kernel
theorem dX7_tellFar_7 : decode cX7_tellFar 7 = .ok (.invokevirtual 283, 3) := by decide +kernel
theorem dX7_tellFar_10 : decode cX7_tellFar 10 = .ok (.bipush 100, 2) := by decide +kernel
theorem dX7_tellFar_12 : decode cX7_tellFar 12 = .ok (.iadd, 1) := by decide +kernel
theorem dX7_tellFar_13 : decode cX7_tellFar 13 = .ok (.ireturn, 1) := by decide +kernel
theorem dX7_tellMixed_0 : decode cX7_tellMixed 0 = .ok (.aload_n 0, 1) := by decide +kernel
theorem dX7_tellMixed_1 : decode cX7_tellMixed 1 = .ok (.iconst 3, 1) := by decide +kernel
theorem dX7_tellMixed_2 : decode cX7_tellMixed 2 = .ok (.invokevirtual 292, 3) := by decide +kernel
theorem dX7_tellMixed_5 : decode cX7_tellMixed 5 = .ok (.aload_n 0, 1) := by decide +kernel
theorem dX7_tellMixed_6 : decode cX7_tellMixed 6 = .ok (.iload_n 1, 1) := by decide +kernel
theorem dX7_tellMixed_7 : decode cX7_tellMixed 7 = .ok (.invokevirtual 286, 3) := by decide +kernel
theorem dX7_tellMixed_10 : decode cX7_tellMixed 10 = .ok (.istore_n 2, 1) := by decide +kernel
theorem dX7_tellMixed_11 : decode cX7_tellMixed 11 = .ok (.iload_n 2, 1) := by decide +kernel
theorem dX7_tellMixed_12 : decode cX7_tellMixed 12 = .ok (.aload_n 0, 1) := by decide +kernel
theorem dX7_tellMixed_13 : decode cX7_tellMixed 13 = .ok (.iload_n 1, 1) := by decide +kernel
theorem dX7_tellMixed_14 : decode cX7_tellMixed 14 = .ok (.invokevirtual 283, 3) := by decide +kernel
theorem dX7_tellMixed_17 : decode cX7_tellMixed 17 = .ok (.iadd, 1) := by decide +kernel
theorem dX7_tellMixed_18 : decode cX7_tellMixed 18 = .ok (.ireturn, 1) := by decide +kernel
theorem dX7_call_0 : decode cX7_call 0 = .ok (.aload_n 0, 1) := by decide +kernel
theorem dX7_call_1 : decode cX7_call 1 = .ok (.getfield 21, 3) := by decide +kernel
theorem dX7_call_4 : decode cX7_call 4 = .ok (.iload_n 1, 1) := by decide +kernel
theorem dX7_call_5 : decode cX7_call 5 = .ok (.invokevirtual 98, 3) := by decide +kernel
theorem dX7_call_8 : decode cX7_call 8 = .ok (.ifCond .ne 5, 3) := by decide +kernel
theorem dX7_call_11 : decode cX7_call 11 = .ok (.iconst (-1), 1) := by decide +kernel
theorem dX7_call_12 : decode cX7_call 12 = .ok (.ireturn, 1) := by decide +kernel
theorem dX7_call_13 : decode cX7_call 13 = .ok (.aload_n 0, 1) := by decide +kernel
theorem dX7_call_14 : decode cX7_call 14 = .ok (.getfield 21, 3) := by decide +kernel
theorem dX7_call_17 : decode cX7_call 17 = .ok (.getfield 101, 3) := by decide +kernel
theorem dX7_call_20 : decode cX7_call 20 = .ok (.iload_n 1, 1) := by decide +kernel
theorem dX7_call_21 : decode cX7_call 21 = .ok (.iaload, 1) := by decide +kernel
theorem dX7_call_22 : decode cX7_call 22 = .ok (.iconst 2, 1) := by decide +kernel
theorem dX7_call_23 : decode cX7_call 23 = .ok (.if_icmp .ne 11, 3) := by decide +kernel
theorem dX7_call_26 : decode cX7_call 26 = .ok (.aload_n 0, 1) := by decide +kernel
theorem dX7_call_27 : decode cX7_call 27 = .ok (.iconst 5, 1) := by decide +kernel
theorem dX7_call_28 : decode cX7_call 28 = .ok (.invokevirtual 292, 3) := by decide +kernel
theorem dX7_call_31 : decode cX7_call 31 = .ok (.bipush 60, 2) := by decide +kernel
theorem dX7_call_33 : decode cX7_call 33 = .ok (.ireturn, 1) := by decide +kernel
theorem dX7_call_34 : decode cX7_call 34 = .ok (.aload_n 0, 1) := by decide +kernel
theorem dX7_call_35 : decode cX7_call 35 = .ok (.iconst 4, 1) := by decide +kernel
theorem dX7_call_36 : decode cX7_call 36 = .ok (.invokevirtual 292, 3) := by decide +kernel
theorem dX7_call_39 : decode cX7_call 39 = .ok (.iload_n 1, 1) := by decide +kernel
theorem dX7_call_40 : decode cX7_call 40 = .ok (.ireturn, 1) := by decide +kernel
theorem dX7_as_0 : decode cX7_as 0 = .ok (.aload_n 0, 1) := by decide +kernel
theorem dX7_as_1 : decode cX7_as 1 = .ok (.iconst 0, 1) := by decide +kernel
theorem dX7_as_2 : decode cX7_as 2 = .ok (.putfield 56, 3) := by decide +kernel
theorem dX7_as_5 : decode cX7_as 5 = .ok (.aload_n 0, 1) := by decide +kernel
theorem dX7_as_6 : decode cX7_as 6 = .ok (.getfield 21, 3) := by decide +kernel
theorem dX7_as_9 : decode cX7_as 9 = .ok (.iload_n 1, 1) := by decide +kernel
theorem dX7_as_10 : decode cX7_as 10 = .ok (.invokevirtual 98, 3) := by decide +kernel
theorem dX7_as_13 : decode cX7_as 13 = .ok (.ifCond .ne 5, 3) := by decide +kernel
theorem dX7_as_16 : decode cX7_as 16 = .ok (.iconst (-1), 1) := by decide +kernel
theorem dX7_as_17 : decode cX7_as 17 = .ok (.ireturn, 1) := by decide +kernel
theorem dX7_as_18 : decode cX7_as 18 = .ok (.iload_n 2, 1) := by decide +kernel
theorem dX7_as_19 : decode cX7_as 19 = .ok (.ifCond .lt 8, 3) := by decide +kernel
theorem dX7_as_22 : decode cX7_as 22 = .ok (.iload_n 2, 1) := by decide +kernel
theorem dX7_as_23 : decode cX7_as 23 = .ok (.iconst 2, 1) := by decide +kernel
theorem dX7_as_24 : decode cX7_as 24 = .ok (.if_icmp .le 6, 3) := by decide +kernel
theorem dX7_as_27 : decode cX7_as 27 = .ok (.bipush (-2), 2) := by decide +kernel
theorem dX7_as_29 : decode cX7_as 29 = .ok (.ireturn, 1) := by decide +kernel
theorem dX7_as_30 : decode cX7_as 30 = .ok (.aload_n 0, 1) := by decide +kernel
theorem dX7_as_31 : decode cX7_as 31 = .ok (.getfield 21, 3) := by decide +kernel
theorem dX7_as_34 : decode cX7_as 34 = .ok (.getfield 101, 3) := by decide +kernel
theorem dX7_as_37 : decode cX7_as 37 = .ok (.iload_n 1, 1) := by decide +kernel
theorem dX7_as_38 : decode cX7_as 38 = .ok (.iaload, 1) := by decide +kernel
theorem dX7_as_39 : decode cX7_as 39 = .ok (.iload_n 2, 1) := by decide +kernel
theorem dX7_as_40 : decode cX7_as 40 = .ok (.if_icmp .ge 13, 3) := by decide +kernel
theorem dX7_as_43 : decode cX7_as 43 = .ok (.aload_n 0, 1) := by decide +kernel
theorem dX7_as_44 : decode cX7_as 44 = .ok (.iconst 2, 1) := by decide +kernel
theorem dX7_as_45 : decode cX7_as 45 = .ok (.putfield 56, 3) := by decide +kernel
theorem dX7_as_48 : decode cX7_as 48 = .ok (.aload_n 0, 1) := by decide +kernel
theorem dX7_as_49 : decode cX7_as 49 = .ok (.invokevirtual 71, 3) := by decide +kernel
theorem dX7_as_52 : decode cX7_as 52 = .ok (.ireturn, 1) := by decide +kernel
theorem dX7_as_53 : decode cX7_as 53 = .ok (.iconst 1, 1) := by decide +kernel
theorem dX7_as_54 : decode cX7_as 54 = .ok (.ireturn, 1) := by decide +kernel
theorem dX7_trace_0 : decode cX7_trace 0 = .ok (.aload_n 0, 1) := by decide +kernel
theorem dX7_trace_1 : decode cX7_trace 1 = .ok (.getfield 295, 3) := by decide +kernel
theorem dX7_trace_4 : decode cX7_trace 4 = .ok (.ireturn, 1) := by decide +kernel
theorem dX7_fault_0 : decode cX7_fault 0 = .ok (.aload_n 0, 1) := by decide +kernel
theorem dX7_fault_1 : decode cX7_fault 1 = .ok (.getfield 56, 3) := by decide +kernel
theorem dX7_fault_4 : decode cX7_fault 4 = .ok (.ireturn, 1) := by decide +kernel
theorem dX7_many_0 : decode cX7_many 0 = .ok (.iload_n 1, 1) := by decide +kernel
theorem dX7_many_1 : decode cX7_many 1 = .ok (.tableswitch 72 0 4 #[35, 43, 51, 56, 64], 35) := by decide +kernel
theorem dX7_many_36 : decode cX7_many 36 = .ok (.aload_n 0, 1) := by decide +kernel
theorem dX7_many_37 : decode cX7_many 37 = .ok (.getfield 21, 3) := by decide +kernel
theorem dX7_many_40 : decode cX7_many 40 = .ok (.getfield 95, 3) := by decide +kernel
theorem dX7_many_43 : decode cX7_many 43 = .ok (.ireturn, 1) := by decide +kernel
theorem dX7_many_44 : decode cX7_many 44 = .ok (.aload_n 0, 1) := by decide +kernel
theorem dX7_many_45 : decode cX7_many 45 = .ok (.getfield 21, 3) := by decide +kernel
theorem dX7_many_48 : decode cX7_many 48 = .ok (.getfield 235, 3) := by decide +kernel
theorem dX7_many_51 : decode cX7_many 51 = .ok (.ireturn, 1) := by decide +kernel
theorem dX7_many_52 : decode cX7_many 52 = .ok (.aload_n 0, 1) := by decide +kernel
theorem dX7_many_53 : decode cX7_many 53 = .ok (.getfield 85, 3) := by decide +kernel
theorem dX7_many_56 : decode cX7_many 56 = .ok (.ireturn, 1) := by decide +kernel
theorem dX7_many_57 : decode cX7_many 57 = .ok (.aload_n 0, 1) := by decide +kernel
theorem dX7_many_58 : decode cX7_many 58 = .ok (.getfield 21, 3) := by decide +kernel
theorem dX7_many_61 : decode cX7_many 61 = .ok (.invokevirtual 123, 3) := by decide +kernel
theorem dX7_many_64 : decode cX7_many 64 = .ok (.ireturn, 1) := by decide +kernel
theorem dX7_many_65 : decode cX7_many 65 = .ok (.aload_n 0, 1) := by decide +kernel
theorem dX7_many_66 : decode cX7_many 66 = .ok (.getfield 45, 3) := by decide +kernel
theorem dX7_many_69 : decode cX7_many 69 = .ok (.getfield 88, 3) := by decide +kernel
theorem dX7_many_72 : decode cX7_many 72 = .ok (.ireturn, 1) := by decide +kernel
theorem dX7_many_73 : decode cX7_many 73 = .ok (.bipush (-2), 2) := by decide +kernel
theorem dX7_many_75 : decode cX7_many 75 = .ok (.ireturn, 1) := by decide +kernel
theorem dX7_leave_0 : decode cX7_leave 0 = .ok (.aload_n 0, 1) := by decide +kernel
theorem dX7_leave_1 : decode cX7_leave 1 = .ok (.bipush 31, 2) := by decide +kernel
theorem dX7_leave_3 : decode cX7_leave 3 = .ok (.aload_n 0, 1) := by decide +kernel
theorem dX7_leave_4 : decode cX7_leave 4 = .ok (.getfield 295, 3) := by decide +kernel
theorem dX7_leave_7 : decode cX7_leave 7 = .ok (.imul, 1) := by decide +kernel
theorem dX7_leave_8 : decode cX7_leave 8 = .ok (.iload_n 1, 1) := by decide +kernel
theorem dX7_leave_9 : decode cX7_leave 9 = .ok (.iadd, 1) := by decide +kernel
theorem dX7_leave_10 : decode cX7_leave 10 = .ok (.putfield 295, 3) := by decide +kernel
theorem dX7_leave_13 : decode cX7_leave 13 = .ok (.return_, 1) := by decide +kernel
theorem dX7_answerOfFault_0 : decode cX7_answerOfFault 0 = .ok (.bipush (-10), 2) := by decide +kernel
theorem dX7_answerOfFault_2 : decode cX7_answerOfFault 2 = .ok (.aload_n 0, 1) := by decide +kernel
theorem dX7_answerOfFault_3 : decode cX7_answerOfFault 3 = .ok (.getfield 56, 3) := by decide +kernel
theorem dX7_answerOfFault_6 : decode cX7_answerOfFault 6 = .ok (.isub, 1) := by decide +kernel
theorem dX7_answerOfFault_7 : decode cX7_answerOfFault 7 = .ok (.ireturn, 1) := by decide +kernel
theorem dX7_isSheet_0 : decode cX7_isSheet 0 = .ok (.iload_n 0, 1) := by decide +kernel
theorem dX7_isSheet_1 : decode cX7_isSheet 1 = .ok (.ifCond .lt 12, 3) := by decide +kernel
theorem dX7_isSheet_4 : decode cX7_isSheet 4 = .ok (.iload_n 0, 1) := by decide +kernel
theorem dX7_isSheet_5 : decode cX7_isSheet 5 = .ok (.iconst 4, 1) := by decide +kernel
theorem dX7_isSheet_6 : decode cX7_isSheet 6 = .ok (.if_icmp .ge 7, 3) := by decide +kernel
theorem dX7_isSheet_9 : decode cX7_isSheet 9 = .ok (.iconst 1, 1) := by decide +kernel
theorem dX7_isSheet_10 : decode cX7_isSheet 10 = .ok (.goto 4, 3) := by decide +kernel
theorem dX7_isSheet_13 : decode cX7_isSheet 13 = .ok (.iconst 0, 1) := by decide +kernel
theorem dX7_isSheet_14 : decode cX7_isSheet 14 = .ok (.ireturn, 1) := by decide +kernel
theorem dX7_isLane_0 : decode cX7_isLane 0 = .ok (.iload_n 0, 1) := by decide +kernel
theorem dX7_isLane_1 : decode cX7_isLane 1 = .ok (.ifCond .lt 12, 3) := by decide +kernel
theorem dX7_isLane_4 : decode cX7_isLane 4 = .ok (.iload_n 0, 1) := by decide +kernel
theorem dX7_isLane_5 : decode cX7_isLane 5 = .ok (.iconst 3, 1) := by decide +kernel
theorem dX7_isLane_6 : decode cX7_isLane 6 = .ok (.if_icmp .ge 7, 3) := by decide +kernel
theorem dX7_isLane_9 : decode cX7_isLane 9 = .ok (.iconst 1, 1) := by decide +kernel
theorem dX7_isLane_10 : decode cX7_isLane 10 = .ok (.goto 4, 3) := by decide +kernel
theorem dX7_isLane_13 : decode cX7_isLane 13 = .ok (.iconst 0, 1) := by decide +kernel
theorem dX7_isLane_14 : decode cX7_isLane 14 = .ok (.ireturn, 1) := by decide +kernel
theorem dX7_isOfDay_0 : decode cX7_isOfDay 0 = .ok (.iload_n 0, 1) := by decide +kernel
theorem dX7_isOfDay_1 : decode cX7_isOfDay 1 = .ok (.ifCond .lt 8, 3) := by decide +kernel
theorem dX7_isOfDay_4 : decode cX7_isOfDay 4 = .ok (.iload_n 0, 1) := by decide +kernel
theorem dX7_isOfDay_5 : decode cX7_isOfDay 5 = .ok (.iconst 4, 1) := by decide +kernel
theorem dX7_isOfDay_6 : decode cX7_isOfDay 6 = .ok (.if_icmp .le 15, 3) := by decide +kernel
theorem dX7_isOfDay_9 : decode cX7_isOfDay 9 = .ok (.iload_n 0, 1) := by decide +kernel
theorem dX7_isOfDay_10 : decode cX7_isOfDay 10 = .ok (.bipush 10, 2) := by decide +kernel
theorem dX7_isOfDay_12 : decode cX7_isOfDay 12 = .ok (.if_icmp .lt 13, 3) := by decide +kernel
theorem dX7_isOfDay_15 : decode cX7_isOfDay 15 = .ok (.iload_n 0, 1) := by decide +kernel
theorem dX7_isOfDay_16 : decode cX7_isOfDay 16 = .ok (.bipush 15, 2) := by decide +kernel
theorem dX7_isOfDay_18 : decode cX7_isOfDay 18 = .ok (.if_icmp .ge 7, 3) := by decide +kernel
theorem dX7_isOfDay_21 : decode cX7_isOfDay 21 = .ok (.iconst 1, 1) := by decide +kernel
theorem dX7_isOfDay_22 : decode cX7_isOfDay 22 = .ok (.goto 4, 3) := by decide +kernel
theorem dX7_isOfDay_25 : decode cX7_isOfDay 25 = .ok (.iconst 0, 1) := by decide +kernel
theorem dX7_isOfDay_26 : decode cX7_isOfDay 26 = .ok (.ireturn, 1) := by decide +kernel
theorem dX7_isReadable_0 : decode cX7_isReadable 0 = .ok (.iload_n 0, 1) := by decide +kernel
theorem dX7_isReadable_1 : decode cX7_isReadable 1 = .ok (.ifCond .lt 23, 3) := by decide +kernel
theorem dX7_isReadable_4 : decode cX7_isReadable 4 = .ok (.iload_n 0, 1) := by decide +kernel
theorem dX7_isReadable_5 : decode cX7_isReadable 5 = .ok (.bipush 99, 2) := by decide +kernel
theorem dX7_isReadable_7 : decode cX7_isReadable 7 = .ok (.if_icmp .gt 17, 3) := by decide +kernel
theorem dX7_isReadable_10 : decode cX7_isReadable 10 = .ok (.iload_n 1, 1) := by decide +kernel
theorem dX7_isReadable_11 : decode cX7_isReadable 11 = .ok (.ifCond .lt 13, 3) := by decide +kernel
theorem dX7_isReadable_14 : decode cX7_isReadable 14 = .ok (.iload_n 1, 1) := by decide +kernel
theorem dX7_isReadable_15 : decode cX7_isReadable 15 = .ok (.bipush 6, 2) := by decide +kernel
theorem dX7_isReadable_17 : decode cX7_isReadable 17 = .ok (.if_icmp .ge 7, 3) := by decide +kernel
theorem dX7_isReadable_20 : decode cX7_isReadable 20 = .ok (.iconst 1, 1) := by decide +kernel
theorem dX7_isReadable_21 : decode cX7_isReadable 21 = .ok (.goto 4, 3) := by decide +kernel
theorem dX7_isReadable_24 : decode cX7_isReadable 24 = .ok (.iconst 0, 1) := by decide +kernel
theorem dX7_isReadable_25 : decode cX7_isReadable 25 = .ok (.ireturn, 1) := by decide +kernel
theorem dX7_commonDivisor_0 : decode cX7_commonDivisor 0 = .ok (.iload_n 0, 1) := by decide +kernel
theorem dX7_commonDivisor_1 : decode cX7_commonDivisor 1 = .ok (.istore_n 2, 1) := by decide +kernel
theorem dX7_commonDivisor_2 : decode cX7_commonDivisor 2 = .ok (.iload_n 1, 1) := by decide +kernel
theorem dX7_commonDivisor_3 : decode cX7_commonDivisor 3 = .ok (.istore_n 3, 1) := by decide +kernel
theorem dX7_commonDivisor_4 : decode cX7_commonDivisor 4 = .ok (.iconst 0, 1) := by decide +kernel
theorem dX7_commonDivisor_5 : decode cX7_commonDivisor 5 = .ok (.istore 4, 2) := by decide +kernel
theorem dX7_commonDivisor_7 : decode cX7_commonDivisor 7 = .ok (.iload 4, 2) := by decide +kernel
theorem dX7_commonDivisor_9 : decode cX7_commonDivisor 9 = .ok (.bipush 100, 2) := by decide +kernel
theorem dX7_commonDivisor_11 : decode cX7_commonDivisor 11 = .ok (.if_icmp .ge 23, 3) := by decide +kernel
theorem dX7_commonDivisor_14 : decode cX7_commonDivisor 14 = .ok (.iload_n 3, 1) := by decide +kernel
theorem dX7_commonDivisor_15 : decode cX7_commonDivisor 15 = .ok (.ifCond .eq 19, 3) := by decide +kernel
theorem dX7_commonDivisor_18 : decode cX7_commonDivisor 18 = .ok (.iload_n 2, 1) := by decide +kernel
theorem dX7_commonDivisor_19 : decode cX7_commonDivisor 19 = .ok (.iload_n 3, 1) := by decide +kernel
theorem dX7_commonDivisor_20 : decode cX7_commonDivisor 20 = .ok (.irem, 1) := by decide +kernel
theorem dX7_commonDivisor_21 : decode cX7_commonDivisor 21 = .ok (.istore 5, 2) := by decide +kernel
theorem dX7_commonDivisor_23 : decode cX7_commonDivisor 23 = .ok (.iload_n 3, 1) := by decide +kernel
theorem dX7_commonDivisor_24 : decode cX7_commonDivisor 24 = .ok (.istore_n 2, 1) := by decide +kernel
theorem dX7_commonDivisor_25 : decode cX7_commonDivisor 25 = .ok (.iload 5, 2) := by decide +kernel
theorem dX7_commonDivisor_27 : decode cX7_commonDivisor 27 = .ok (.istore_n 3, 1) := by decide +kernel
theorem dX7_commonDivisor_28 : decode cX7_commonDivisor 28 = .ok (.iinc 4 1, 3) := by decide +kernel
theorem dX7_commonDivisor_31 : decode cX7_commonDivisor 31 = .ok (.goto (-24), 3) := by decide +kernel
theorem dX7_commonDivisor_34 : decode cX7_commonDivisor 34 = .ok (.iload_n 2, 1) := by decide +kernel
theorem dX7_commonDivisor_35 : decode cX7_commonDivisor 35 = .ok (.ireturn, 1) := by decide +kernel
theorem dX8_init_0 : decode cX8_init 0 = .ok (.aload_n 0, 1) := by decide +kernel
theorem dX8_init_1 : decode cX8_init 1 = .ok (.invokespecial 1, 3) := by decide +kernel
theorem dX8_init_4 : decode cX8_init 4 = .ok (.aload_n 0, 1) := by decide +kernel
theorem dX8_init_5 : decode cX8_init 5 = .ok (.iconst 5, 1) := by decide +kernel
theorem dX8_init_6 : decode cX8_init 6 = .ok (.newarray .int, 2) := by decide +kernel
theorem dX8_init_8 : decode cX8_init 8 = .ok (.putfield 7, 3) := by decide +kernel
theorem dX8_init_11 : decode cX8_init 11 = .ok (.aload_n 0, 1) := by decide +kernel
theorem dX8_init_12 : decode cX8_init 12 = .ok (.iconst 5, 1) := by decide +kernel
theorem dX8_init_13 : decode cX8_init 13 = .ok (.newarray .int, 2) := by decide +kernel
theorem dX8_init_15 : decode cX8_init 15 = .ok (.putfield 13, 3) := by decide +kernel
theorem dX8_init_18 : decode cX8_init 18 = .ok (.aload_n 0, 1) := by decide +kernel
theorem dX8_init_19 : decode cX8_init 19 = .ok (.iconst 5, 1) := by decide +kernel
theorem dX8_init_20 : decode cX8_init 20 = .ok (.newarray .int, 2) := by decide +kernel
theorem dX8_init_22 : decode cX8_init 22 = .ok (.putfield 16, 3) := by decide +kernel
theorem dX8_init_25 : decode cX8_init 25 = .ok (.aload_n 0, 1) := by decide +kernel
theorem dX8_init_26 : decode cX8_init 26 = .ok (.iconst 5, 1) := by decide +kernel
theorem dX8_init_27 : decode cX8_init 27 = .ok (.newarray .int, 2) := by decide +kernel
theorem dX8_init_29 : decode cX8_init 29 = .ok (.putfield 19, 3) := by decide +kernel
theorem dX8_init_32 : decode cX8_init 32 = .ok (.aload_n 0, 1) := by decide +kernel
theorem dX8_init_33 : decode cX8_init 33 = .ok (.iconst 5, 1) := by decide +kernel
theorem dX8_init_34 : decode cX8_init 34 = .ok (.newarray .int, 2) := by decide +kernel
theorem dX8_init_36 : decode cX8_init 36 = .ok (.putfield 22, 3) := by decide +kernel
theorem dX8_init_39 : decode cX8_init 39 = .ok (.aload_n 0, 1) := by decide +kernel
theorem dX8_init_40 : decode cX8_init 40 = .ok (.iconst 5, 1) := by decide +kernel
theorem dX8_init_41 : decode cX8_init 41 = .ok (.newarray .int, 2) := by decide +kernel
theorem dX8_init_43 : decode cX8_init 43 = .ok (.putfield 25, 3) := by decide +kernel
theorem dX8_init_46 : decode cX8_init 46 = .ok (.aload_n 0, 1) := by decide +kernel
theorem dX8_init_47 : decode cX8_init 47 = .ok (.sipush 7776, 3) := by decide +kernel
theorem dX8_init_50 : decode cX8_init 50 = .ok (.newarray .int, 2) := by decide +kernel
theorem dX8_init_52 : decode cX8_init 52 = .ok (.putfield 28, 3) := by decide +kernel
theorem dX8_init_55 : decode cX8_init 55 = .ok (.aload_n 0, 1) := by decide +kernel
theorem dX8_init_56 : decode cX8_init 56 = .ok (.sipush 7776, 3) := by decide +kernel
theorem dX8_init_59 : decode cX8_init 59 = .ok (.newarray .int, 2) := by decide +kernel
theorem dX8_init_61 : decode cX8_init 61 = .ok (.putfield 31, 3) := by decide +kernel
theorem dX8_init_64 : decode cX8_init 64 = .ok (.aload_n 0, 1) := by decide +kernel
theorem dX8_init_65 : decode cX8_init 65 = .ok (.sipush 7776, 3) := by decide +kernel
theorem dX8_init_68 : decode cX8_init 68 = .ok (.newarray .int, 2) := by decide +kernel
theorem dX8_init_70 : decode cX8_init 70 = .ok (.putfield 34, 3) := by decide +kernel
theorem dX8_init_73 : decode cX8_init 73 = .ok (.aload_n 0, 1) := by decide +kernel
theorem dX8_init_74 : decode cX8_init 74 = .ok (.sipush 7776, 3) := by decide +kernel
theorem dX8_init_77 : decode cX8_init 77 = .ok (.newarray .int, 2) := by decide +kernel
theorem dX8_init_79 : decode cX8_init 79 = .ok (.putfield 37, 3) := by decide +kernel
theorem dX8_init_82 : decode cX8_init 82 = .ok (.aload_n 0, 1) := by decide +kernel
theorem dX8_init_83 : decode cX8_init 83 = .ok (.sipush 7776, 3) := by decide +kernel
theorem dX8_init_86 : decode cX8_init 86 = .ok (.newarray .int, 2) := by decide +kernel
theorem dX8_init_88 : decode cX8_init 88 = .ok (.putfield 40, 3) := by decide +kernel
theorem dX8_init_91 : decode cX8_init 91 = .ok (.aload_n 0, 1) := by decide +kernel
theorem dX8_init_92 : decode cX8_init 92 = .ok (.iconst 5, 1) := by decide +kernel
theorem dX8_init_93 : decode cX8_init 93 = .ok (.newarray .int, 2) := by decide +kernel
theorem dX8_init_95 : decode cX8_init 95 = .ok (.putfield 43, 3) := by decide +kernel
theorem dX8_init_98 : decode cX8_init 98 = .ok (.aload_n 0, 1) := by decide +kernel
theorem dX8_init_99 : decode cX8_init 99 = .ok (.bipush 8, 2) := by decide +kernel
theorem dX8_init_101 : decode cX8_init 101 = .ok (.newarray .int, 2) := by decide +kernel
theorem dX8_init_103 : decode cX8_init 103 = .ok (.putfield 46, 3) := by decide +kernel
theorem dX8_init_106 : decode cX8_init 106 = .ok (.aload_n 0, 1) := by decide +kernel
theorem dX8_init_107 : decode cX8_init 107 = .ok (.bipush 8, 2) := by decide +kernel
theorem dX8_init_109 : decode cX8_init 109 = .ok (.newarray .int, 2) := by decide +kernel
theorem dX8_init_111 : decode cX8_init 111 = .ok (.putfield 49, 3) := by decide +kernel
theorem dX8_init_114 : decode cX8_init 114 = .ok (.aload_n 0, 1) := by decide +kernel
theorem dX8_init_115 : decode cX8_init 115 = .ok (.bipush 8, 2) := by decide +kernel
theorem dX8_init_117 : decode cX8_init 117 = .ok (.newarray .int, 2) := by decide +kernel
theorem dX8_init_119 : decode cX8_init 119 = .ok (.putfield 52, 3) := by decide +kernel
theorem dX8_init_122 : decode cX8_init 122 = .ok (.aload_n 0, 1) := by decide +kernel
theorem dX8_init_123 : decode cX8_init 123 = .ok (.iconst 4, 1) := by decide +kernel
theorem dX8_init_124 : decode cX8_init 124 = .ok (.newarray .int, 2) := by decide +kernel
theorem dX8_init_126 : decode cX8_init 126 = .ok (.putfield 55, 3) := by decide +kernel
theorem dX8_init_129 : decode cX8_init 129 = .ok (.aload_n 0, 1) := by decide +kernel
theorem dX8_init_130 : decode cX8_init 130 = .ok (.iconst 4, 1) := by decide +kernel
theorem dX8_init_131 : decode cX8_init 131 = .ok (.newarray .int, 2) := by decide +kernel
theorem dX8_init_133 : decode cX8_init 133 = .ok (.putfield 58, 3) := by decide +kernel
theorem dX8_init_136 : decode cX8_init 136 = .ok (.aload_n 0, 1) := by decide +kernel
theorem dX8_init_137 : decode cX8_init 137 = .ok (.sipush 240, 3) := by decide +kernel
theorem dX8_init_140 : decode cX8_init 140 = .ok (.newarray .int, 2) := by decide +kernel
theorem dX8_init_142 : decode cX8_init 142 = .ok (.putfield 61, 3) := by decide +kernel
theorem dX8_init_145 : decode cX8_init 145 = .ok (.aload_n 0, 1) := by decide +kernel
theorem dX8_init_146 : decode cX8_init 146 = .ok (.bipush 60, 2) := by decide +kernel
theorem dX8_init_148 : decode cX8_init 148 = .ok (.newarray .int, 2) := by decide +kernel
theorem dX8_init_150 : decode cX8_init 150 = .ok (.putfield 64, 3) := by decide +kernel
theorem dX8_init_153 : decode cX8_init 153 = .ok (.iconst 0, 1) := by decide +kernel
theorem dX8_init_154 : decode cX8_init 154 = .ok (.istore_n 1, 1) := by decide +kernel
theorem dX8_init_155 : decode cX8_init 155 = .ok (.iload_n 1, 1) := by decide +kernel
theorem dX8_init_156 : decode cX8_init 156 = .ok (.iconst 4, 1) := by decide +kernel
theorem dX8_init_157 : decode cX8_init 157 = .ok (.if_icmp .ge 16, 3) := by decide +kernel
theorem dX8_init_160 : decode cX8_init 160 = .ok (.aload_n 0, 1) := by decide +kernel
theorem dX8_init_161 : decode cX8_init 161 = .ok (.getfield 55, 3) := by decide +kernel
theorem dX8_init_164 : decode cX8_init 164 = .ok (.iload_n 1, 1) := by decide +kernel
theorem dX8_init_165 : decode cX8_init 165 = .ok (.iconst (-1), 1) := by decide +kernel
theorem dX8_init_166 : decode cX8_init 166 = .ok (.iastore, 1) := by decide +kernel
theorem dX8_init_167 : decode cX8_init 167 = .ok (.iinc 1 1, 3) := by decide +kernel
theorem dX8_init_170 : decode cX8_init 170 = .ok (.goto (-15), 3) := by decide +kernel
theorem dX8_init_173 : decode cX8_init 173 = .ok (.return_, 1) := by decide +kernel
theorem dX8_in_0 : decode cX8_in 0 = .ok (.lload_n 0, 1) := by decide +kernel
theorem dX8_in_1 : decode cX8_in 1 = .ok (.lload_n 2, 1) := by decide +kernel
theorem dX8_in_2 : decode cX8_in 2 = .ok (.lcmp, 1) := by decide +kernel
theorem dX8_in_3 : decode cX8_in 3 = .ok (.ifCond .lt 14, 3) := by decide +kernel
theorem dX8_in_6 : decode cX8_in 6 = .ok (.lload_n 0, 1) := by decide +kernel
theorem dX8_in_7 : decode cX8_in 7 = .ok (.lload 4, 2) := by decide +kernel
theorem dX8_in_9 : decode cX8_in 9 = .ok (.lcmp, 1) := by decide +kernel
theorem dX8_in_10 : decode cX8_in 10 = .ok (.ifCond .gt 7, 3) := by decide +kernel
theorem dX8_in_13 : decode cX8_in 13 = .ok (.iconst 1, 1) := by decide +kernel
theorem dX8_in_14 : decode cX8_in 14 = .ok (.goto 4, 3) := by decide +kernel
theorem dX8_in_17 : decode cX8_in 17 = .ok (.iconst 0, 1) := by decide +kernel
theorem dX8_in_18 : decode cX8_in 18 = .ok (.ireturn, 1) := by decide +kernel
theorem dX8_lost_0 : decode cX8_lost 0 = .ok (.ldc2_w 67, 3) := by decide +kernel
theorem dX8_lost_3 : decode cX8_lost 3 = .ok (.lreturn, 1) := by decide +kernel
theorem dX8_bits_0 : decode cX8_bits 0 = .ok (.iconst 0, 1) := by decide +kernel
theorem dX8_bits_1 : decode cX8_bits 1 = .ok (.istore_n 1, 1) := by decide +kernel
theorem dX8_bits_2 : decode cX8_bits 2 = .ok (.iload_n 0, 1) := by decide +kernel
theorem dX8_bits_3 : decode cX8_bits 3 = .ok (.istore_n 2, 1) := by decide +kernel
theorem dX8_bits_4 : decode cX8_bits 4 = .ok (.iload_n 2, 1) := by decide +kernel
theorem dX8_bits_5 : decode cX8_bits 5 = .ok (.ifCond .le 16, 3) := by decide +kernel
theorem dX8_bits_8 : decode cX8_bits 8 = .ok (.iload_n 1, 1) := by decide +kernel
theorem dX8_bits_9 : decode cX8_bits 9 = .ok (.iload_n 2, 1) := by decide +kernel
theorem dX8_bits_10 : decode cX8_bits 10 = .ok (.iconst 1, 1) := by decide +kernel
theorem dX8_bits_11 : decode cX8_bits 11 = .ok (.iand, 1) := by decide +kernel
theorem dX8_bits_12 : decode cX8_bits 12 = .ok (.iadd, 1) := by decide +kernel
theorem dX8_bits_13 : decode cX8_bits 13 = .ok (.istore_n 1, 1) := by decide +kernel
theorem dX8_bits_14 : decode cX8_bits 14 = .ok (.iload_n 2, 1) := by decide +kernel
theorem dX8_bits_15 : decode cX8_bits 15 = .ok (.iconst 1, 1) := by decide +kernel
theorem dX8_bits_16 : decode cX8_bits 16 = .ok (.ishr, 1) := by decide +kernel
theorem dX8_bits_17 : decode cX8_bits 17 = .ok (.istore_n 2, 1) := by decide +kernel
theorem dX8_bits_18 : decode cX8_bits 18 = .ok (.goto (-14), 3) := by decide +kernel
theorem dX8_bits_21 : decode cX8_bits 21 = .ok (.iload_n 1, 1) := by decide +kernel
theorem dX8_bits_22 : decode cX8_bits 22 = .ok (.ireturn, 1) := by decide +kernel
theorem dX8_share_0 : decode cX8_share 0 = .ok (.lload_n 0, 1) := by decide +kernel
theorem dX8_share_1 : decode cX8_share 1 = .ok (.lstore 5, 2) := by decide +kernel
theorem dX8_share_3 : decode cX8_share 3 = .ok (.lload_n 2, 1) := by decide +kernel
theorem dX8_share_4 : decode cX8_share 4 = .ok (.lstore 7, 2) := by decide +kernel
theorem dX8_share_6 : decode cX8_share 6 = .ok (.lload 7, 2) := by decide +kernel
theorem dX8_share_8 : decode cX8_share 8 = .ok (.lconst 0, 1) := by decide +kernel
theorem dX8_share_9 : decode cX8_share 9 = .ok (.lcmp, 1) := by decide +kernel
theorem dX8_share_10 : decode cX8_share 10 = .ok (.ifCond .eq 21, 3) := by decide +kernel
theorem dX8_share_13 : decode cX8_share 13 = .ok (.lload 5, 2) := by decide +kernel
theorem dX8_share_15 : decode cX8_share 15 = .ok (.lload 7, 2) := by decide +kernel
theorem dX8_share_17 : decode cX8_share 17 = .ok (.lrem, 1) := by decide +kernel
theorem dX8_share_18 : decode cX8_share 18 = .ok (.lstore 9, 2) := by decide +kernel
theorem dX8_share_20 : decode cX8_share 20 = .ok (.lload 7, 2) := by decide +kernel
theorem dX8_share_22 : decode cX8_share 22 = .ok (.lstore 5, 2) := by decide +kernel
theorem dX8_share_24 : decode cX8_share 24 = .ok (.lload 9, 2) := by decide +kernel
theorem dX8_share_26 : decode cX8_share 26 = .ok (.lstore 7, 2) := by decide +kernel
theorem dX8_share_28 : decode cX8_share 28 = .ok (.goto (-22), 3) := by decide +kernel
theorem dX8_share_31 : decode cX8_share 31 = .ok (.iload 4, 2) := by decide +kernel
theorem dX8_share_33 : decode cX8_share 33 = .ok (.ifCond .ne 7, 3) := by decide +kernel
theorem dX8_share_36 : decode cX8_share 36 = .ok (.lload_n 0, 1) := by decide +kernel
theorem dX8_share_37 : decode cX8_share 37 = .ok (.goto 4, 3) := by decide +kernel
theorem dX8_share_40 : decode cX8_share 40 = .ok (.lload_n 2, 1) := by decide +kernel
theorem dX8_share_41 : decode cX8_share 41 = .ok (.lload 5, 2) := by decide +kernel
theorem dX8_share_43 : decode cX8_share 43 = .ok (.ldiv, 1) := by decide +kernel
theorem dX8_share_44 : decode cX8_share 44 = .ok (.lreturn, 1) := by decide +kernel
theorem dX8_refused_0 : decode cX8_refused 0 = .ok (.aload_n 0, 1) := by decide +kernel
theorem dX8_refused_1 : decode cX8_refused 1 = .ok (.iconst 0, 1) := by decide +kernel
theorem dX8_refused_2 : decode cX8_refused 2 = .ok (.putfield 69, 3) := by decide +kernel
theorem dX8_refused_5 : decode cX8_refused 5 = .ok (.iload_n 1, 1) := by decide +kernel
theorem dX8_refused_6 : decode cX8_refused 6 = .ok (.ireturn, 1) := by decide +kernel
theorem dX8_failed_0 : decode cX8_failed 0 = .ok (.aload_n 0, 1) := by decide +kernel
theorem dX8_failed_1 : decode cX8_failed 1 = .ok (.iload_n 1, 1) := by decide +kernel
theorem dX8_failed_2 : decode cX8_failed 2 = .ok (.putfield 69, 3) := by decide +kernel
theorem dX8_failed_5 : decode cX8_failed 5 = .ok (.bipush (-10), 2) := by decide +kernel
theorem dX8_failed_7 : decode cX8_failed 7 = .ok (.iload_n 1, 1) := by decide +kernel
theorem dX8_failed_8 : decode cX8_failed 8 = .ok (.isub, 1) := by decide +kernel
theorem dX8_failed_9 : decode cX8_failed 9 = .ok (.ireturn, 1) := by decide +kernel
theorem dX8_failedLong_0 : decode cX8_failedLong 0 = .ok (.aload_n 0, 1) := by decide +kernel
theorem dX8_failedLong_1 : decode cX8_failedLong 1 = .ok (.iload_n 1, 1) := by decide +kernel
theorem dX8_failedLong_2 : decode cX8_failedLong 2 = .ok (.putfield 69, 3) := by decide +kernel
theorem dX8_failedLong_5 : decode cX8_failedLong 5 = .ok (.invokestatic 73, 3) := by decide +kernel
theorem dX8_failedLong_8 : decode cX8_failedLong 8 = .ok (.lreturn, 1) := by decide +kernel
theorem dX8_noPlace_0 : decode cX8_noPlace 0 = .ok (.iload_n 1, 1) := by decide +kernel
theorem dX8_noPlace_1 : decode cX8_noPlace 1 = .ok (.i2l, 1) := by decide +kernel
theorem dX8_noPlace_2 : decode cX8_noPlace 2 = .ok (.lconst 0, 1) := by decide +kernel
theorem dX8_noPlace_3 : decode cX8_noPlace 3 = .ok (.aload_n 0, 1) := by decide +kernel
theorem dX8_noPlace_4 : decode cX8_noPlace 4 = .ok (.getfield 77, 3) := by decide +kernel
theorem dX8_noPlace_7 : decode cX8_noPlace 7 = .ok (.i2l, 1) := by decide +kernel
theorem dX8_noPlace_8 : decode cX8_noPlace 8 = .ok (.lconst 1, 1) := by decide +kernel
theorem dX8_noPlace_9 : decode cX8_noPlace 9 = .ok (.lsub, 1) := by decide +kernel
theorem dX8_noPlace_10 : decode cX8_noPlace 10 = .ok (.invokestatic 80, 3) := by decide +kernel
theorem dX8_noPlace_13 : decode cX8_noPlace 13 = .ok (.ifCond .ne 7, 3) := by decide +kernel
theorem dX8_noPlace_16 : decode cX8_noPlace 16 = .ok (.iconst 1, 1) := by decide +kernel
theorem dX8_noPlace_17 : decode cX8_noPlace 17 = .ok (.goto 4, 3) := by decide +kernel
theorem dX8_noPlace_20 : decode cX8_noPlace 20 = .ok (.iconst 0, 1) := by decide +kernel
theorem dX8_noPlace_21 : decode cX8_noPlace 21 = .ok (.ireturn, 1) := by decide +kernel
theorem dX8_codeAt_0 : decode cX8_codeAt 0 = .ok (.aload_n 0, 1) := by decide +kernel
theorem dX8_codeAt_1 : decode cX8_codeAt 1 = .ok (.getfield 84, 3) := by decide +kernel
theorem dX8_codeAt_4 : decode cX8_codeAt 4 = .ok (.iload_n 2, 1) := by decide +kernel
theorem dX8_codeAt_5 : decode cX8_codeAt 5 = .ok (.if_icmp .ge 17, 3) := by decide +kernel
theorem dX8_codeAt_8 : decode cX8_codeAt 8 = .ok (.aload_n 0, 1) := by decide +kernel
theorem dX8_codeAt_9 : decode cX8_codeAt 9 = .ok (.getfield 61, 3) := by decide +kernel
theorem dX8_codeAt_12 : decode cX8_codeAt 12 = .ok (.iload_n 1, 1) := by decide +kernel
theorem dX8_codeAt_13 : decode cX8_codeAt 13 = .ok (.aload_n 0, 1) := by decide +kernel
theorem dX8_codeAt_14 : decode cX8_codeAt 14 = .ok (.getfield 84, 3) := by decide +kernel
theorem dX8_codeAt_17 : decode cX8_codeAt 17 = .ok (.iadd, 1) := by decide +kernel
theorem dX8_codeAt_18 : decode cX8_codeAt 18 = .ok (.iaload, 1) := by decide +kernel
theorem dX8_codeAt_19 : decode cX8_codeAt 19 = .ok (.goto 5, 3) := by decide +kernel
theorem dX8_codeAt_22 : decode cX8_codeAt 22 = .ok (.bipush (-9), 2) := by decide +kernel
theorem dX8_codeAt_24 : decode cX8_codeAt 24 = .ok (.ireturn, 1) := by decide +kernel
theorem dX8_readsPlace_0 : decode cX8_readsPlace 0 = .ok (.aload_n 0, 1) := by decide +kernel
theorem dX8_readsPlace_1 : decode cX8_readsPlace 1 = .ok (.getfield 87, 3) := by decide +kernel
theorem dX8_readsPlace_4 : decode cX8_readsPlace 4 = .ok (.iconst 5, 1) := by decide +kernel
theorem dX8_readsPlace_5 : decode cX8_readsPlace 5 = .ok (.if_icmp .eq 14, 3) := by decide +kernel
theorem dX8_readsPlace_8 : decode cX8_readsPlace 8 = .ok (.aload_n 0, 1) := by decide +kernel
theorem dX8_readsPlace_9 : decode cX8_readsPlace 9 = .ok (.iload_n 1, 1) := by decide +kernel
theorem dX8_readsPlace_10 : decode cX8_readsPlace 10 = .ok (.iload_n 2, 1) := by decide +kernel
theorem dX8_readsPlace_11 : decode cX8_readsPlace 11 = .ok (.invokevirtual 90, 3) := by decide +kernel
theorem dX8_readsPlace_14 : decode cX8_readsPlace 14 = .ok (.bipush 59, 2) := by decide +kernel
theorem dX8_readsPlace_16 : decode cX8_readsPlace 16 = .ok (.if_icmp .eq 5, 3) := by decide +kernel
theorem dX8_readsPlace_19 : decode cX8_readsPlace 19 = .ok (.iconst 0, 1) := by decide +kernel
theorem dX8_readsPlace_20 : decode cX8_readsPlace 20 = .ok (.ireturn, 1) := by decide +kernel
theorem dX8_readsPlace_21 : decode cX8_readsPlace 21 = .ok (.aload_n 0, 1) := by decide +kernel
theorem dX8_readsPlace_22 : decode cX8_readsPlace 22 = .ok (.dup, 1) := by decide +kernel
theorem dX8_readsPlace_23 : decode cX8_readsPlace 23 = .ok (.getfield 84, 3) := by decide +kernel
theorem dX8_readsPlace_26 : decode cX8_readsPlace 26 = .ok (.iconst 1, 1) := by decide +kernel
theorem dX8_readsPlace_27 : decode cX8_readsPlace 27 = .ok (.iadd, 1) := by decide +kernel
theorem dX8_readsPlace_28 : decode cX8_readsPlace 28 = .ok (.putfield 84, 3) := by decide +kernel
theorem dX8_readsPlace_31 : decode cX8_readsPlace 31 = .ok (.aload_n 0, 1) := by decide +kernel
theorem dX8_readsPlace_32 : decode cX8_readsPlace 32 = .ok (.iload_n 1, 1) := by decide +kernel
theorem dX8_readsPlace_33 : decode cX8_readsPlace 33 = .ok (.iload_n 2, 1) := by decide +kernel
theorem dX8_readsPlace_34 : decode cX8_readsPlace 34 = .ok (.invokevirtual 90, 3) := by decide +kernel
theorem dX8_readsPlace_37 : decode cX8_readsPlace 37 = .ok (.istore_n 3, 1) := by decide +kernel
theorem dX8_readsPlace_38 : decode cX8_readsPlace 38 = .ok (.iload_n 3, 1) := by decide +kernel
theorem dX8_readsPlace_39 : decode cX8_readsPlace 39 = .ok (.bipush 112, 2) := by decide +kernel
theorem dX8_readsPlace_41 : decode cX8_readsPlace 41 = .ok (.if_icmp .eq 17, 3) := by decide +kernel
theorem dX8_readsPlace_44 : decode cX8_readsPlace 44 = .ok (.iload_n 3, 1) := by decide +kernel
theorem dX8_readsPlace_45 : decode cX8_readsPlace 45 = .ok (.bipush 102, 2) := by decide +kernel
theorem dX8_readsPlace_47 : decode cX8_readsPlace 47 = .ok (.if_icmp .eq 11, 3) := by decide +kernel
theorem dX8_readsPlace_50 : decode cX8_readsPlace 50 = .ok (.iload_n 3, 1) := by decide +kernel
theorem dX8_readsPlace_51 : decode cX8_readsPlace 51 = .ok (.bipush 109, 2) := by decide +kernel
theorem dX8_readsPlace_53 : decode cX8_readsPlace 53 = .ok (.if_icmp .eq 5, 3) := by decide +kernel
theorem dX8_readsPlace_56 : decode cX8_readsPlace 56 = .ok (.iconst 0, 1) := by decide +kernel
theorem dX8_readsPlace_57 : decode cX8_readsPlace 57 = .ok (.ireturn, 1) := by decide +kernel
theorem dX8_readsPlace_58 : decode cX8_readsPlace 58 = .ok (.aload_n 0, 1) := by decide +kernel
theorem dX8_readsPlace_59 : decode cX8_readsPlace 59 = .ok (.dup, 1) := by decide +kernel
theorem dX8_readsPlace_60 : decode cX8_readsPlace 60 = .ok (.getfield 84, 3) := by decide +kernel
theorem dX8_readsPlace_63 : decode cX8_readsPlace 63 = .ok (.iconst 1, 1) := by decide +kernel
theorem dX8_readsPlace_64 : decode cX8_readsPlace 64 = .ok (.iadd, 1) := by decide +kernel
theorem dX8_readsPlace_65 : decode cX8_readsPlace 65 = .ok (.putfield 84, 3) := by decide +kernel
theorem dX8_readsPlace_68 : decode cX8_readsPlace 68 = .ok (.aload_n 0, 1) := by decide +kernel
theorem dX8_readsPlace_69 : decode cX8_readsPlace 69 = .ok (.iload_n 1, 1) := by decide +kernel
theorem dX8_readsPlace_70 : decode cX8_readsPlace 70 = .ok (.iload_n 2, 1) := by decide +kernel
theorem dX8_readsPlace_71 : decode cX8_readsPlace 71 = .ok (.invokevirtual 90, 3) := by decide +kernel
theorem dX8_readsPlace_74 : decode cX8_readsPlace 74 = .ok (.bipush 48, 2) := by decide +kernel
theorem dX8_readsPlace_76 : decode cX8_readsPlace 76 = .ok (.isub, 1) := by decide +kernel
theorem dX8_readsPlace_77 : decode cX8_readsPlace 77 = .ok (.istore 4, 2) := by decide +kernel
theorem dX8_readsPlace_79 : decode cX8_readsPlace 79 = .ok (.iload 4, 2) := by decide +kernel
theorem dX8_readsPlace_81 : decode cX8_readsPlace 81 = .ok (.i2l, 1) := by decide +kernel
theorem dX8_readsPlace_82 : decode cX8_readsPlace 82 = .ok (.lconst 0, 1) := by decide +kernel
theorem dX8_readsPlace_83 : decode cX8_readsPlace 83 = .ok (.aload_n 0, 1) := by decide +kernel
theorem dX8_readsPlace_84 : decode cX8_readsPlace 84 = .ok (.getfield 94, 3) := by decide +kernel
theorem dX8_readsPlace_87 : decode cX8_readsPlace 87 = .ok (.i2l, 1) := by decide +kernel
theorem dX8_readsPlace_88 : decode cX8_readsPlace 88 = .ok (.lconst 1, 1) := by decide +kernel
theorem dX8_readsPlace_89 : decode cX8_readsPlace 89 = .ok (.lsub, 1) := by decide +kernel
theorem dX8_readsPlace_90 : decode cX8_readsPlace 90 = .ok (.invokestatic 80, 3) := by decide +kernel
theorem dX8_readsPlace_93 : decode cX8_readsPlace 93 = .ok (.ifCond .ne 5, 3) := by decide +kernel
theorem dX8_readsPlace_96 : decode cX8_readsPlace 96 = .ok (.iconst 0, 1) := by decide +kernel
theorem dX8_readsPlace_97 : decode cX8_readsPlace 97 = .ok (.ireturn, 1) := by decide +kernel
theorem dX8_readsPlace_98 : decode cX8_readsPlace 98 = .ok (.aload_n 0, 1) := by decide +kernel
theorem dX8_readsPlace_99 : decode cX8_readsPlace 99 = .ok (.dup, 1) := by decide +kernel
theorem dX8_readsPlace_100 : decode cX8_readsPlace 100 = .ok (.getfield 84, 3) := by decide +kernel
theorem dX8_readsPlace_103 : decode cX8_readsPlace 103 = .ok (.iconst 1, 1) := by decide +kernel
theorem dX8_readsPlace_104 : decode cX8_readsPlace 104 = .ok (.iadd, 1) := by decide +kernel
theorem dX8_readsPlace_105 : decode cX8_readsPlace 105 = .ok (.putfield 84, 3) := by decide +kernel
theorem dX8_readsPlace_108 : decode cX8_readsPlace 108 = .ok (.aload_n 0, 1) := by decide +kernel
theorem dX8_readsPlace_109 : decode cX8_readsPlace 109 = .ok (.getfield 16, 3) := by decide +kernel
theorem dX8_readsPlace_112 : decode cX8_readsPlace 112 = .ok (.aload_n 0, 1) := by decide +kernel
theorem dX8_readsPlace_113 : decode cX8_readsPlace 113 = .ok (.getfield 87, 3) := by decide +kernel
theorem dX8_readsPlace_116 : decode cX8_readsPlace 116 = .ok (.iload_n 3, 1) := by decide +kernel
theorem dX8_readsPlace_117 : decode cX8_readsPlace 117 = .ok (.bipush 112, 2) := by decide +kernel
theorem dX8_readsPlace_119 : decode cX8_readsPlace 119 = .ok (.if_icmp .ne 7, 3) := by decide +kernel
theorem dX8_readsPlace_122 : decode cX8_readsPlace 122 = .ok (.iconst 0, 1) := by decide +kernel
theorem dX8_readsPlace_123 : decode cX8_readsPlace 123 = .ok (.goto 14, 3) := by decide +kernel
theorem dX8_readsPlace_126 : decode cX8_readsPlace 126 = .ok (.iload_n 3, 1) := by decide +kernel
theorem dX8_readsPlace_127 : decode cX8_readsPlace 127 = .ok (.bipush 102, 2) := by decide +kernel
theorem dX8_readsPlace_129 : decode cX8_readsPlace 129 = .ok (.if_icmp .ne 7, 3) := by decide +kernel
theorem dX8_readsPlace_132 : decode cX8_readsPlace 132 = .ok (.iconst 1, 1) := by decide +kernel
theorem dX8_readsPlace_133 : decode cX8_readsPlace 133 = .ok (.goto 4, 3) := by decide +kernel
theorem dX8_readsPlace_136 : decode cX8_readsPlace 136 = .ok (.iconst 2, 1) := by decide +kernel
theorem dX8_readsPlace_137 : decode cX8_readsPlace 137 = .ok (.iastore, 1) := by decide +kernel
theorem dX8_readsPlace_138 : decode cX8_readsPlace 138 = .ok (.aload_n 0, 1) := by decide +kernel
theorem dX8_readsPlace_139 : decode cX8_readsPlace 139 = .ok (.getfield 19, 3) := by decide +kernel
theorem dX8_readsPlace_142 : decode cX8_readsPlace 142 = .ok (.aload_n 0, 1) := by decide +kernel
theorem dX8_readsPlace_143 : decode cX8_readsPlace 143 = .ok (.getfield 87, 3) := by decide +kernel
theorem dX8_readsPlace_146 : decode cX8_readsPlace 146 = .ok (.iload 4, 2) := by decide +kernel
theorem dX8_readsPlace_148 : decode cX8_readsPlace 148 = .ok (.iastore, 1) := by decide +kernel
theorem dX8_readsPlace_149 : decode cX8_readsPlace 149 = .ok (.aload_n 0, 1) := by decide +kernel
theorem dX8_readsPlace_150 : decode cX8_readsPlace 150 = .ok (.dup, 1) := by decide +kernel
theorem dX8_readsPlace_151 : decode cX8_readsPlace 151 = .ok (.getfield 87, 3) := by decide +kernel
theorem dX8_readsPlace_154 : decode cX8_readsPlace 154 = .ok (.iconst 1, 1) := by decide +kernel
theorem dX8_readsPlace_155 : decode cX8_readsPlace 155 = .ok (.iadd, 1) := by decide +kernel
theorem dX8_readsPlace_156 : decode cX8_readsPlace 156 = .ok (.putfield 87, 3) := by decide +kernel
theorem dX8_readsPlace_159 : decode cX8_readsPlace 159 = .ok (.iconst 1, 1) := by decide +kernel
theorem dX8_readsPlace_160 : decode cX8_readsPlace 160 = .ok (.ireturn, 1) := by decide +kernel
theorem dX8_readsRing_0 : decode cX8_readsRing 0 = .ok (.aload_n 0, 1) := by decide +kernel
theorem dX8_readsRing_1 : decode cX8_readsRing 1 = .ok (.iconst 0, 1) := by decide +kernel
theorem dX8_readsRing_2 : decode cX8_readsRing 2 = .ok (.putfield 84, 3) := by decide +kernel
theorem dX8_readsRing_5 : decode cX8_readsRing 5 = .ok (.aload_n 0, 1) := by decide +kernel
theorem dX8_readsRing_6 : decode cX8_readsRing 6 = .ok (.iconst 0, 1) := by decide +kernel
theorem dX8_readsRing_7 : decode cX8_readsRing 7 = .ok (.putfield 87, 3) := by decide +kernel
theorem dX8_readsRing_10 : decode cX8_readsRing 10 = .ok (.aload_n 0, 1) := by decide +kernel
theorem dX8_readsRing_11 : decode cX8_readsRing 11 = .ok (.iload_n 1, 1) := by decide +kernel
