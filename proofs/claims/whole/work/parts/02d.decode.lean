theorem dX0_init_0 : decode cX0_init 0 = .ok (.aload_n 0, 1) := by decide +kernel
theorem dX0_init_1 : decode cX0_init 1 = .ok (.invokespecial 3, 3) := by decide +kernel
theorem dX0_init_4 : decode cX0_init 4 = .ok (.aload_n 0, 1) := by decide +kernel
theorem dX0_init_5 : decode cX0_init 5 = .ok (.new 9, 3) := by decide +kernel
theorem dX0_init_8 : decode cX0_init 8 = .ok (.dup, 1) := by decide +kernel
theorem dX0_init_9 : decode cX0_init 9 = .ok (.invokespecial 11, 3) := by decide +kernel
theorem dX0_init_12 : decode cX0_init 12 = .ok (.putfield 12, 3) := by decide +kernel
theorem dX0_init_15 : decode cX0_init 15 = .ok (.aload_n 0, 1) := by decide +kernel
theorem dX0_init_16 : decode cX0_init 16 = .ok (.iconst 0, 1) := by decide +kernel
theorem dX0_init_17 : decode cX0_init 17 = .ok (.newarray .int, 2) := by decide +kernel
theorem dX0_init_19 : decode cX0_init 19 = .ok (.putfield 18, 3) := by decide +kernel
theorem dX0_init_22 : decode cX0_init 22 = .ok (.aload_n 0, 1) := by decide +kernel
theorem dX0_init_23 : decode cX0_init 23 = .ok (.iconst 0, 1) := by decide +kernel
theorem dX0_init_24 : decode cX0_init 24 = .ok (.newarray .int, 2) := by decide +kernel
theorem dX0_init_26 : decode cX0_init 26 = .ok (.putfield 22, 3) := by decide +kernel
theorem dX0_init_29 : decode cX0_init 29 = .ok (.aload_n 0, 1) := by decide +kernel
theorem dX0_init_30 : decode cX0_init 30 = .ok (.iconst 0, 1) := by decide +kernel
theorem dX0_init_31 : decode cX0_init 31 = .ok (.newarray .int, 2) := by decide +kernel
theorem dX0_init_33 : decode cX0_init 33 = .ok (.putfield 25, 3) := by decide +kernel
theorem dX0_init_36 : decode cX0_init 36 = .ok (.aload_n 0, 1) := by decide +kernel
theorem dX0_init_37 : decode cX0_init 37 = .ok (.iconst 0, 1) := by decide +kernel
theorem dX0_init_38 : decode cX0_init 38 = .ok (.newarray .int, 2) := by decide +kernel
theorem dX0_init_40 : decode cX0_init 40 = .ok (.putfield 28, 3) := by decide +kernel
theorem dX0_init_43 : decode cX0_init 43 = .ok (.aload_n 0, 1) := by decide +kernel
theorem dX0_init_44 : decode cX0_init 44 = .ok (.iconst 0, 1) := by decide +kernel
theorem dX0_init_45 : decode cX0_init 45 = .ok (.newarray .int, 2) := by decide +kernel
theorem dX0_init_47 : decode cX0_init 47 = .ok (.putfield 31, 3) := by decide +kernel
theorem dX0_init_50 : decode cX0_init 50 = .ok (.aload_n 0, 1) := by decide +kernel
theorem dX0_init_51 : decode cX0_init 51 = .ok (.iconst 0, 1) := by decide +kernel
theorem dX0_init_52 : decode cX0_init 52 = .ok (.putfield 34, 3) := by decide +kernel
theorem dX0_init_55 : decode cX0_init 55 = .ok (.aload_n 0, 1) := by decide +kernel
theorem dX0_init_56 : decode cX0_init 56 = .ok (.iconst 0, 1) := by decide +kernel
theorem dX0_init_57 : decode cX0_init 57 = .ok (.putfield 38, 3) := by decide +kernel
theorem dX0_init_60 : decode cX0_init 60 = .ok (.aload_n 0, 1) := by decide +kernel
theorem dX0_init_61 : decode cX0_init 61 = .ok (.iconst 0, 1) := by decide +kernel
theorem dX0_init_62 : decode cX0_init 62 = .ok (.putfield 41, 3) := by decide +kernel
theorem dX0_init_65 : decode cX0_init 65 = .ok (.aload_n 0, 1) := by decide +kernel
theorem dX0_init_66 : decode cX0_init 66 = .ok (.iconst 0, 1) := by decide +kernel
theorem dX0_init_67 : decode cX0_init 67 = .ok (.putfield 44, 3) := by decide +kernel
theorem dX0_init_70 : decode cX0_init 70 = .ok (.aload_n 0, 1) := by decide +kernel
theorem dX0_init_71 : decode cX0_init 71 = .ok (.iconst 0, 1) := by decide +kernel
theorem dX0_init_72 : decode cX0_init 72 = .ok (.putfield 47, 3) := by decide +kernel
theorem dX0_init_75 : decode cX0_init 75 = .ok (.aload_n 0, 1) := by decide +kernel
theorem dX0_init_76 : decode cX0_init 76 = .ok (.iconst 0, 1) := by decide +kernel
theorem dX0_init_77 : decode cX0_init 77 = .ok (.putfield 50, 3) := by decide +kernel
theorem dX0_init_80 : decode cX0_init 80 = .ok (.aload_n 0, 1) := by decide +kernel
theorem dX0_init_81 : decode cX0_init 81 = .ok (.iconst 0, 1) := by decide +kernel
theorem dX0_init_82 : decode cX0_init 82 = .ok (.putfield 53, 3) := by decide +kernel
theorem dX0_init_85 : decode cX0_init 85 = .ok (.aload_n 0, 1) := by decide +kernel
theorem dX0_init_86 : decode cX0_init 86 = .ok (.iconst 0, 1) := by decide +kernel
theorem dX0_init_87 : decode cX0_init 87 = .ok (.putfield 56, 3) := by decide +kernel
theorem dX0_init_90 : decode cX0_init 90 = .ok (.return_, 1) := by decide +kernel
theorem dX0_forget_0 : decode cX0_forget 0 = .ok (.aload_n 0, 1) := by decide +kernel
theorem dX0_forget_1 : decode cX0_forget 1 = .ok (.iconst 0, 1) := by decide +kernel
theorem dX0_forget_2 : decode cX0_forget 2 = .ok (.putfield 38, 3) := by decide +kernel
theorem dX0_forget_5 : decode cX0_forget 5 = .ok (.return_, 1) := by decide +kernel
theorem dX0_workOut_0 : decode cX0_workOut 0 = .ok (.aload_n 0, 1) := by decide +kernel
theorem dX0_workOut_1 : decode cX0_workOut 1 = .ok (.getfield 38, 3) := by decide +kernel
theorem dX0_workOut_4 : decode cX0_workOut 4 = .ok (.ifCond .gt 10, 3) := by decide +kernel
theorem dX0_workOut_7 : decode cX0_workOut 7 = .ok (.aload_n 1, 1) := by decide +kernel
theorem dX0_workOut_8 : decode cX0_workOut 8 = .ok (.invokevirtual 59, 3) := by decide +kernel
theorem dX0_workOut_11 : decode cX0_workOut 11 = .ok (.ifCond .eq 4, 3) := by decide +kernel
theorem dX0_workOut_14 : decode cX0_workOut 14 = .ok (.return_, 1) := by decide +kernel
theorem dX0_workOut_15 : decode cX0_workOut 15 = .ok (.aload_n 0, 1) := by decide +kernel
theorem dX0_workOut_16 : decode cX0_workOut 16 = .ok (.getfield 12, 3) := by decide +kernel
theorem dX0_workOut_19 : decode cX0_workOut 19 = .ok (.aload_n 1, 1) := by decide +kernel
theorem dX0_workOut_20 : decode cX0_workOut 20 = .ok (.invokevirtual 63, 3) := by decide +kernel
theorem dX0_workOut_23 : decode cX0_workOut 23 = .ok (.aload_n 0, 1) := by decide +kernel
theorem dX0_workOut_24 : decode cX0_workOut 24 = .ok (.iconst 1, 1) := by decide +kernel
theorem dX0_workOut_25 : decode cX0_workOut 25 = .ok (.putfield 38, 3) := by decide +kernel
theorem dX0_workOut_28 : decode cX0_workOut 28 = .ok (.iconst 0, 1) := by decide +kernel
theorem dX0_workOut_29 : decode cX0_workOut 29 = .ok (.istore_n 2, 1) := by decide +kernel
theorem dX0_workOut_30 : decode cX0_workOut 30 = .ok (.iload_n 2, 1) := by decide +kernel
theorem dX0_workOut_31 : decode cX0_workOut 31 = .ok (.aload_n 1, 1) := by decide +kernel
theorem dX0_workOut_32 : decode cX0_workOut 32 = .ok (.getfield 67, 3) := by decide +kernel
theorem dX0_workOut_35 : decode cX0_workOut 35 = .ok (.if_icmp .ge 22, 3) := by decide +kernel
theorem dX0_workOut_38 : decode cX0_workOut 38 = .ok (.aload_n 0, 1) := by decide +kernel
theorem dX0_workOut_39 : decode cX0_workOut 39 = .ok (.dup, 1) := by decide +kernel
theorem dX0_workOut_40 : decode cX0_workOut 40 = .ok (.getfield 38, 3) := by decide +kernel
theorem dX0_workOut_43 : decode cX0_workOut 43 = .ok (.aload_n 1, 1) := by decide +kernel
theorem dX0_workOut_44 : decode cX0_workOut 44 = .ok (.getfield 70, 3) := by decide +kernel
theorem dX0_workOut_47 : decode cX0_workOut 47 = .ok (.imul, 1) := by decide +kernel
theorem dX0_workOut_48 : decode cX0_workOut 48 = .ok (.putfield 38, 3) := by decide +kernel
theorem dX0_workOut_51 : decode cX0_workOut 51 = .ok (.iinc 2 1, 3) := by decide +kernel
theorem dX0_workOut_54 : decode cX0_workOut 54 = .ok (.goto (-24), 3) := by decide +kernel
theorem dX0_workOut_57 : decode cX0_workOut 57 = .ok (.aload_n 0, 1) := by decide +kernel
theorem dX0_workOut_58 : decode cX0_workOut 58 = .ok (.invokevirtual 73, 3) := by decide +kernel
theorem dX0_workOut_61 : decode cX0_workOut 61 = .ok (.aload_n 0, 1) := by decide +kernel
theorem dX0_workOut_62 : decode cX0_workOut 62 = .ok (.invokevirtual 76, 3) := by decide +kernel
theorem dX0_workOut_65 : decode cX0_workOut 65 = .ok (.aload_n 0, 1) := by decide +kernel
theorem dX0_workOut_66 : decode cX0_workOut 66 = .ok (.invokevirtual 79, 3) := by decide +kernel
theorem dX0_workOut_69 : decode cX0_workOut 69 = .ok (.aload_n 0, 1) := by decide +kernel
theorem dX0_workOut_70 : decode cX0_workOut 70 = .ok (.invokevirtual 82, 3) := by decide +kernel
theorem dX0_workOut_73 : decode cX0_workOut 73 = .ok (.aload_n 0, 1) := by decide +kernel
theorem dX0_workOut_74 : decode cX0_workOut 74 = .ok (.invokevirtual 85, 3) := by decide +kernel
theorem dX0_workOut_77 : decode cX0_workOut 77 = .ok (.aload_n 0, 1) := by decide +kernel
theorem dX0_workOut_78 : decode cX0_workOut 78 = .ok (.invokevirtual 88, 3) := by decide +kernel
theorem dX0_workOut_81 : decode cX0_workOut 81 = .ok (.return_, 1) := by decide +kernel
theorem dX0_makeRoom_0 : decode cX0_makeRoom 0 = .ok (.aload_n 0, 1) := by decide +kernel
theorem dX0_makeRoom_1 : decode cX0_makeRoom 1 = .ok (.getfield 18, 3) := by decide +kernel
theorem dX0_makeRoom_4 : decode cX0_makeRoom 4 = .ok (.arraylength, 1) := by decide +kernel
theorem dX0_makeRoom_5 : decode cX0_makeRoom 5 = .ok (.aload_n 0, 1) := by decide +kernel
theorem dX0_makeRoom_6 : decode cX0_makeRoom 6 = .ok (.getfield 38, 3) := by decide +kernel
theorem dX0_makeRoom_9 : decode cX0_makeRoom 9 = .ok (.if_icmp .ge 53, 3) := by decide +kernel
theorem dX0_makeRoom_12 : decode cX0_makeRoom 12 = .ok (.aload_n 0, 1) := by decide +kernel
theorem dX0_makeRoom_13 : decode cX0_makeRoom 13 = .ok (.aload_n 0, 1) := by decide +kernel
theorem dX0_makeRoom_14 : decode cX0_makeRoom 14 = .ok (.getfield 38, 3) := by decide +kernel
theorem dX0_makeRoom_17 : decode cX0_makeRoom 17 = .ok (.newarray .int, 2) := by decide +kernel
theorem dX0_makeRoom_19 : decode cX0_makeRoom 19 = .ok (.putfield 18, 3) := by decide +kernel
theorem dX0_makeRoom_22 : decode cX0_makeRoom 22 = .ok (.aload_n 0, 1) := by decide +kernel
theorem dX0_makeRoom_23 : decode cX0_makeRoom 23 = .ok (.aload_n 0, 1) := by decide +kernel
theorem dX0_makeRoom_24 : decode cX0_makeRoom 24 = .ok (.getfield 38, 3) := by decide +kernel
theorem dX0_makeRoom_27 : decode cX0_makeRoom 27 = .ok (.newarray .int, 2) := by decide +kernel
theorem dX0_makeRoom_29 : decode cX0_makeRoom 29 = .ok (.putfield 22, 3) := by decide +kernel
theorem dX0_makeRoom_32 : decode cX0_makeRoom 32 = .ok (.aload_n 0, 1) := by decide +kernel
theorem dX0_makeRoom_33 : decode cX0_makeRoom 33 = .ok (.aload_n 0, 1) := by decide +kernel
theorem dX0_makeRoom_34 : decode cX0_makeRoom 34 = .ok (.getfield 38, 3) := by decide +kernel
theorem dX0_makeRoom_37 : decode cX0_makeRoom 37 = .ok (.newarray .int, 2) := by decide +kernel
theorem dX0_makeRoom_39 : decode cX0_makeRoom 39 = .ok (.putfield 25, 3) := by decide +kernel
theorem dX0_makeRoom_42 : decode cX0_makeRoom 42 = .ok (.aload_n 0, 1) := by decide +kernel
theorem dX0_makeRoom_43 : decode cX0_makeRoom 43 = .ok (.aload_n 0, 1) := by decide +kernel
theorem dX0_makeRoom_44 : decode cX0_makeRoom 44 = .ok (.getfield 38, 3) := by decide +kernel
theorem dX0_makeRoom_47 : decode cX0_makeRoom 47 = .ok (.newarray .int, 2) := by decide +kernel
theorem dX0_makeRoom_49 : decode cX0_makeRoom 49 = .ok (.putfield 28, 3) := by decide +kernel
theorem dX0_makeRoom_52 : decode cX0_makeRoom 52 = .ok (.aload_n 0, 1) := by decide +kernel
theorem dX0_makeRoom_53 : decode cX0_makeRoom 53 = .ok (.aload_n 0, 1) := by decide +kernel
theorem dX0_makeRoom_54 : decode cX0_makeRoom 54 = .ok (.getfield 38, 3) := by decide +kernel
theorem dX0_makeRoom_57 : decode cX0_makeRoom 57 = .ok (.newarray .int, 2) := by decide +kernel
theorem dX0_makeRoom_59 : decode cX0_makeRoom 59 = .ok (.putfield 31, 3) := by decide +kernel
theorem dX0_makeRoom_62 : decode cX0_makeRoom 62 = .ok (.return_, 1) := by decide +kernel
theorem dX0_findNext_0 : decode cX0_findNext 0 = .ok (.aload_n 0, 1) := by decide +kernel
theorem dX0_findNext_1 : decode cX0_findNext 1 = .ok (.getfield 22, 3) := by decide +kernel
theorem dX0_findNext_4 : decode cX0_findNext 4 = .ok (.iconst 0, 1) := by decide +kernel
theorem dX0_findNext_5 : decode cX0_findNext 5 = .ok (.invokestatic 91, 3) := by decide +kernel
theorem dX0_findNext_8 : decode cX0_findNext 8 = .ok (.aload_n 0, 1) := by decide +kernel
theorem dX0_findNext_9 : decode cX0_findNext 9 = .ok (.getfield 12, 3) := by decide +kernel
theorem dX0_findNext_12 : decode cX0_findNext 12 = .ok (.invokevirtual 97, 3) := by decide +kernel
theorem dX0_findNext_15 : decode cX0_findNext 15 = .ok (.iconst 0, 1) := by decide +kernel
theorem dX0_findNext_16 : decode cX0_findNext 16 = .ok (.istore_n 1, 1) := by decide +kernel
theorem dX0_findNext_17 : decode cX0_findNext 17 = .ok (.iload_n 1, 1) := by decide +kernel
theorem dX0_findNext_18 : decode cX0_findNext 18 = .ok (.aload_n 0, 1) := by decide +kernel
theorem dX0_findNext_19 : decode cX0_findNext 19 = .ok (.getfield 38, 3) := by decide +kernel
theorem dX0_findNext_22 : decode cX0_findNext 22 = .ok (.if_icmp .ge 49, 3) := by decide +kernel
theorem dX0_findNext_25 : decode cX0_findNext 25 = .ok (.aload_n 0, 1) := by decide +kernel
theorem dX0_findNext_26 : decode cX0_findNext 26 = .ok (.getfield 12, 3) := by decide +kernel
theorem dX0_findNext_29 : decode cX0_findNext 29 = .ok (.invokevirtual 100, 3) := by decide +kernel
theorem dX0_findNext_32 : decode cX0_findNext 32 = .ok (.istore_n 2, 1) := by decide +kernel
theorem dX0_findNext_33 : decode cX0_findNext 33 = .ok (.aload_n 0, 1) := by decide +kernel
theorem dX0_findNext_34 : decode cX0_findNext 34 = .ok (.iload_n 2, 1) := by decide +kernel
theorem dX0_findNext_35 : decode cX0_findNext 35 = .ok (.invokevirtual 104, 3) := by decide +kernel
theorem dX0_findNext_38 : decode cX0_findNext 38 = .ok (.ifCond .eq 20, 3) := by decide +kernel
theorem dX0_findNext_41 : decode cX0_findNext 41 = .ok (.aload_n 0, 1) := by decide +kernel
theorem dX0_findNext_42 : decode cX0_findNext 42 = .ok (.getfield 18, 3) := by decide +kernel
theorem dX0_findNext_45 : decode cX0_findNext 45 = .ok (.iload_n 1, 1) := by decide +kernel
theorem dX0_findNext_46 : decode cX0_findNext 46 = .ok (.iload_n 2, 1) := by decide +kernel
theorem dX0_findNext_47 : decode cX0_findNext 47 = .ok (.iastore, 1) := by decide +kernel
theorem dX0_findNext_48 : decode cX0_findNext 48 = .ok (.aload_n 0, 1) := by decide +kernel
theorem dX0_findNext_49 : decode cX0_findNext 49 = .ok (.getfield 22, 3) := by decide +kernel
theorem dX0_findNext_52 : decode cX0_findNext 52 = .ok (.iload_n 2, 1) := by decide +kernel
theorem dX0_findNext_53 : decode cX0_findNext 53 = .ok (.dup2, 1) := by decide +kernel
theorem dX0_findNext_54 : decode cX0_findNext 54 = .ok (.iaload, 1) := by decide +kernel
theorem dX0_findNext_55 : decode cX0_findNext 55 = .ok (.iconst 1, 1) := by decide +kernel
theorem dX0_findNext_56 : decode cX0_findNext 56 = .ok (.iadd, 1) := by decide +kernel
theorem dX0_findNext_57 : decode cX0_findNext 57 = .ok (.iastore, 1) := by decide +kernel
theorem dX0_findNext_58 : decode cX0_findNext 58 = .ok (.aload_n 0, 1) := by decide +kernel
theorem dX0_findNext_59 : decode cX0_findNext 59 = .ok (.getfield 12, 3) := by decide +kernel
theorem dX0_findNext_62 : decode cX0_findNext 62 = .ok (.invokevirtual 108, 3) := by decide +kernel
theorem dX0_findNext_65 : decode cX0_findNext 65 = .ok (.iinc 1 1, 3) := by decide +kernel
theorem dX0_findNext_68 : decode cX0_findNext 68 = .ok (.goto (-51), 3) := by decide +kernel
theorem dX0_findNext_71 : decode cX0_findNext 71 = .ok (.return_, 1) := by decide +kernel
theorem dX0_orderThoseThatDoNotComeBack_0 : decode cX0_orderThoseThatDoNotComeBack 0 = .ok (.aload_n 0, 1) := by decide +kernel
theorem dX0_orderThoseThatDoNotComeBack_1 : decode cX0_orderThoseThatDoNotComeBack 1 = .ok (.iconst 0, 1) := by decide +kernel
theorem dX0_orderThoseThatDoNotComeBack_2 : decode cX0_orderThoseThatDoNotComeBack 2 = .ok (.putfield 34, 3) := by decide +kernel
theorem dX0_orderThoseThatDoNotComeBack_5 : decode cX0_orderThoseThatDoNotComeBack 5 = .ok (.iconst 0, 1) := by decide +kernel
theorem dX0_orderThoseThatDoNotComeBack_6 : decode cX0_orderThoseThatDoNotComeBack 6 = .ok (.istore_n 1, 1) := by decide +kernel
theorem dX0_orderThoseThatDoNotComeBack_7 : decode cX0_orderThoseThatDoNotComeBack 7 = .ok (.iload_n 1, 1) := by decide +kernel
theorem dX0_orderThoseThatDoNotComeBack_8 : decode cX0_orderThoseThatDoNotComeBack 8 = .ok (.aload_n 0, 1) := by decide +kernel
theorem dX0_orderThoseThatDoNotComeBack_9 : decode cX0_orderThoseThatDoNotComeBack 9 = .ok (.getfield 38, 3) := by decide +kernel
theorem dX0_orderThoseThatDoNotComeBack_12 : decode cX0_orderThoseThatDoNotComeBack 12 = .ok (.if_icmp .ge 23, 3) := by decide +kernel
theorem dX0_orderThoseThatDoNotComeBack_15 : decode cX0_orderThoseThatDoNotComeBack 15 = .ok (.aload_n 0, 1) := by decide +kernel
theorem dX0_orderThoseThatDoNotComeBack_16 : decode cX0_orderThoseThatDoNotComeBack 16 = .ok (.getfield 22, 3) := by decide +kernel
theorem dX0_orderThoseThatDoNotComeBack_19 : decode cX0_orderThoseThatDoNotComeBack 19 = .ok (.iload_n 1, 1) := by decide +kernel
theorem dX0_orderThoseThatDoNotComeBack_20 : decode cX0_orderThoseThatDoNotComeBack 20 = .ok (.iaload, 1) := by decide +kernel
theorem dX0_orderThoseThatDoNotComeBack_21 : decode cX0_orderThoseThatDoNotComeBack 21 = .ok (.ifCond .ne 8, 3) := by decide +kernel
theorem dX0_orderThoseThatDoNotComeBack_24 : decode cX0_orderThoseThatDoNotComeBack 24 = .ok (.aload_n 0, 1) := by decide +kernel
theorem dX0_orderThoseThatDoNotComeBack_25 : decode cX0_orderThoseThatDoNotComeBack 25 = .ok (.iload_n 1, 1) := by decide +kernel
theorem dX0_orderThoseThatDoNotComeBack_26 : decode cX0_orderThoseThatDoNotComeBack 26 = .ok (.invokevirtual 111, 3) := by decide +kernel
theorem dX0_orderThoseThatDoNotComeBack_29 : decode cX0_orderThoseThatDoNotComeBack 29 = .ok (.iinc 1 1, 3) := by decide +kernel
theorem dX0_orderThoseThatDoNotComeBack_32 : decode cX0_orderThoseThatDoNotComeBack 32 = .ok (.goto (-25), 3) := by decide +kernel
theorem dX0_orderThoseThatDoNotComeBack_35 : decode cX0_orderThoseThatDoNotComeBack 35 = .ok (.aload_n 0, 1) := by decide +kernel
theorem dX0_orderThoseThatDoNotComeBack_36 : decode cX0_orderThoseThatDoNotComeBack 36 = .ok (.aload_n 0, 1) := by decide +kernel
theorem dX0_orderThoseThatDoNotComeBack_37 : decode cX0_orderThoseThatDoNotComeBack 37 = .ok (.getfield 34, 3) := by decide +kernel
theorem dX0_orderThoseThatDoNotComeBack_40 : decode cX0_orderThoseThatDoNotComeBack 40 = .ok (.putfield 44, 3) := by decide +kernel
theorem dX0_orderThoseThatDoNotComeBack_43 : decode cX0_orderThoseThatDoNotComeBack 43 = .ok (.iconst 0, 1) := by decide +kernel
theorem dX0_orderThoseThatDoNotComeBack_44 : decode cX0_orderThoseThatDoNotComeBack 44 = .ok (.istore_n 1, 1) := by decide +kernel
theorem dX0_orderThoseThatDoNotComeBack_45 : decode cX0_orderThoseThatDoNotComeBack 45 = .ok (.iload_n 1, 1) := by decide +kernel
theorem dX0_orderThoseThatDoNotComeBack_46 : decode cX0_orderThoseThatDoNotComeBack 46 = .ok (.aload_n 0, 1) := by decide +kernel
theorem dX0_orderThoseThatDoNotComeBack_47 : decode cX0_orderThoseThatDoNotComeBack 47 = .ok (.getfield 34, 3) := by decide +kernel
theorem dX0_orderThoseThatDoNotComeBack_50 : decode cX0_orderThoseThatDoNotComeBack 50 = .ok (.if_icmp .ge 52, 3) := by decide +kernel
theorem dX0_orderThoseThatDoNotComeBack_53 : decode cX0_orderThoseThatDoNotComeBack 53 = .ok (.iload_n 1, 1) := by decide +kernel
theorem dX0_orderThoseThatDoNotComeBack_54 : decode cX0_orderThoseThatDoNotComeBack 54 = .ok (.aload_n 0, 1) := by decide +kernel
theorem dX0_orderThoseThatDoNotComeBack_55 : decode cX0_orderThoseThatDoNotComeBack 55 = .ok (.getfield 38, 3) := by decide +kernel
theorem dX0_orderThoseThatDoNotComeBack_58 : decode cX0_orderThoseThatDoNotComeBack 58 = .ok (.if_icmp .ge 44, 3) := by decide +kernel
theorem dX0_orderThoseThatDoNotComeBack_61 : decode cX0_orderThoseThatDoNotComeBack 61 = .ok (.aload_n 0, 1) := by decide +kernel
theorem dX0_orderThoseThatDoNotComeBack_62 : decode cX0_orderThoseThatDoNotComeBack 62 = .ok (.aload_n 0, 1) := by decide +kernel
theorem dX0_orderThoseThatDoNotComeBack_63 : decode cX0_orderThoseThatDoNotComeBack 63 = .ok (.getfield 25, 3) := by decide +kernel
theorem dX0_orderThoseThatDoNotComeBack_66 : decode cX0_orderThoseThatDoNotComeBack 66 = .ok (.iload_n 1, 1) := by decide +kernel
theorem dX0_orderThoseThatDoNotComeBack_67 : decode cX0_orderThoseThatDoNotComeBack 67 = .ok (.iaload, 1) := by decide +kernel
theorem dX0_orderThoseThatDoNotComeBack_68 : decode cX0_orderThoseThatDoNotComeBack 68 = .ok (.invokevirtual 115, 3) := by decide +kernel
theorem dX0_orderThoseThatDoNotComeBack_71 : decode cX0_orderThoseThatDoNotComeBack 71 = .ok (.istore_n 2, 1) := by decide +kernel
theorem dX0_orderThoseThatDoNotComeBack_72 : decode cX0_orderThoseThatDoNotComeBack 72 = .ok (.aload_n 0, 1) := by decide +kernel
theorem dX0_orderThoseThatDoNotComeBack_73 : decode cX0_orderThoseThatDoNotComeBack 73 = .ok (.getfield 22, 3) := by decide +kernel
theorem dX0_orderThoseThatDoNotComeBack_76 : decode cX0_orderThoseThatDoNotComeBack 76 = .ok (.iload_n 2, 1) := by decide +kernel
theorem dX0_orderThoseThatDoNotComeBack_77 : decode cX0_orderThoseThatDoNotComeBack 77 = .ok (.dup2, 1) := by decide +kernel
theorem dX0_orderThoseThatDoNotComeBack_78 : decode cX0_orderThoseThatDoNotComeBack 78 = .ok (.iaload, 1) := by decide +kernel
theorem dX0_orderThoseThatDoNotComeBack_79 : decode cX0_orderThoseThatDoNotComeBack 79 = .ok (.iconst 1, 1) := by decide +kernel
theorem dX0_orderThoseThatDoNotComeBack_80 : decode cX0_orderThoseThatDoNotComeBack 80 = .ok (.isub, 1) := by decide +kernel
theorem dX0_orderThoseThatDoNotComeBack_81 : decode cX0_orderThoseThatDoNotComeBack 81 = .ok (.iastore, 1) := by decide +kernel
theorem dX0_orderThoseThatDoNotComeBack_82 : decode cX0_orderThoseThatDoNotComeBack 82 = .ok (.aload_n 0, 1) := by decide +kernel
theorem dX0_orderThoseThatDoNotComeBack_83 : decode cX0_orderThoseThatDoNotComeBack 83 = .ok (.getfield 22, 3) := by decide +kernel
theorem dX0_orderThoseThatDoNotComeBack_86 : decode cX0_orderThoseThatDoNotComeBack 86 = .ok (.iload_n 2, 1) := by decide +kernel
theorem dX0_orderThoseThatDoNotComeBack_87 : decode cX0_orderThoseThatDoNotComeBack 87 = .ok (.iaload, 1) := by decide +kernel
theorem dX0_orderThoseThatDoNotComeBack_88 : decode cX0_orderThoseThatDoNotComeBack 88 = .ok (.ifCond .ne 8, 3) := by decide +kernel
theorem dX0_orderThoseThatDoNotComeBack_91 : decode cX0_orderThoseThatDoNotComeBack 91 = .ok (.aload_n 0, 1) := by decide +kernel
theorem dX0_orderThoseThatDoNotComeBack_92 : decode cX0_orderThoseThatDoNotComeBack 92 = .ok (.iload_n 2, 1) := by decide +kernel
theorem dX0_orderThoseThatDoNotComeBack_93 : decode cX0_orderThoseThatDoNotComeBack 93 = .ok (.invokevirtual 111, 3) := by decide +kernel
theorem dX0_orderThoseThatDoNotComeBack_96 : decode cX0_orderThoseThatDoNotComeBack 96 = .ok (.iinc 1 1, 3) := by decide +kernel
theorem dX0_orderThoseThatDoNotComeBack_99 : decode cX0_orderThoseThatDoNotComeBack 99 = .ok (.goto (-54), 3) := by decide +kernel
theorem dX0_orderThoseThatDoNotComeBack_102 : decode cX0_orderThoseThatDoNotComeBack 102 = .ok (.return_, 1) := by decide +kernel
theorem dX0_takeAway_0 : decode cX0_takeAway 0 = .ok (.aload_n 0, 1) := by decide +kernel
theorem dX0_takeAway_1 : decode cX0_takeAway 1 = .ok (.getfield 34, 3) := by decide +kernel
theorem dX0_takeAway_4 : decode cX0_takeAway 4 = .ok (.aload_n 0, 1) := by decide +kernel
theorem dX0_takeAway_5 : decode cX0_takeAway 5 = .ok (.getfield 38, 3) := by decide +kernel
theorem dX0_takeAway_8 : decode cX0_takeAway 8 = .ok (.if_icmp .ge 23, 3) := by decide +kernel
theorem dX0_takeAway_11 : decode cX0_takeAway 11 = .ok (.aload_n 0, 1) := by decide +kernel
theorem dX0_takeAway_12 : decode cX0_takeAway 12 = .ok (.getfield 25, 3) := by decide +kernel
theorem dX0_takeAway_15 : decode cX0_takeAway 15 = .ok (.aload_n 0, 1) := by decide +kernel
theorem dX0_takeAway_16 : decode cX0_takeAway 16 = .ok (.getfield 34, 3) := by decide +kernel
theorem dX0_takeAway_19 : decode cX0_takeAway 19 = .ok (.iload_n 1, 1) := by decide +kernel
theorem dX0_takeAway_20 : decode cX0_takeAway 20 = .ok (.iastore, 1) := by decide +kernel
theorem dX0_takeAway_21 : decode cX0_takeAway 21 = .ok (.aload_n 0, 1) := by decide +kernel
theorem dX0_takeAway_22 : decode cX0_takeAway 22 = .ok (.dup, 1) := by decide +kernel
theorem dX0_takeAway_23 : decode cX0_takeAway 23 = .ok (.getfield 34, 3) := by decide +kernel
theorem dX0_takeAway_26 : decode cX0_takeAway 26 = .ok (.iconst 1, 1) := by decide +kernel
theorem dX0_takeAway_27 : decode cX0_takeAway 27 = .ok (.iadd, 1) := by decide +kernel
theorem dX0_takeAway_28 : decode cX0_takeAway 28 = .ok (.putfield 34, 3) := by decide +kernel
theorem dX0_takeAway_31 : decode cX0_takeAway 31 = .ok (.return_, 1) := by decide +kernel
theorem dX0_findRounds_0 : decode cX0_findRounds 0 = .ok (.aload_n 0, 1) := by decide +kernel
theorem dX0_findRounds_1 : decode cX0_findRounds 1 = .ok (.iconst 0, 1) := by decide +kernel
theorem dX0_findRounds_2 : decode cX0_findRounds 2 = .ok (.putfield 50, 3) := by decide +kernel
theorem dX0_findRounds_5 : decode cX0_findRounds 5 = .ok (.aload_n 0, 1) := by decide +kernel
theorem dX0_findRounds_6 : decode cX0_findRounds 6 = .ok (.getfield 28, 3) := by decide +kernel
theorem dX0_findRounds_9 : decode cX0_findRounds 9 = .ok (.bipush (-9), 2) := by decide +kernel
theorem dX0_findRounds_11 : decode cX0_findRounds 11 = .ok (.invokestatic 91, 3) := by decide +kernel
theorem dX0_findRounds_14 : decode cX0_findRounds 14 = .ok (.iconst 0, 1) := by decide +kernel
theorem dX0_findRounds_15 : decode cX0_findRounds 15 = .ok (.istore_n 1, 1) := by decide +kernel
theorem dX0_findRounds_16 : decode cX0_findRounds 16 = .ok (.iload_n 1, 1) := by decide +kernel
theorem dX0_findRounds_17 : decode cX0_findRounds 17 = .ok (.aload_n 0, 1) := by decide +kernel
theorem dX0_findRounds_18 : decode cX0_findRounds 18 = .ok (.getfield 38, 3) := by decide +kernel
theorem dX0_findRounds_21 : decode cX0_findRounds 21 = .ok (.if_icmp .ge 44, 3) := by decide +kernel
theorem dX0_findRounds_24 : decode cX0_findRounds 24 = .ok (.aload_n 0, 1) := by decide +kernel
theorem dX0_findRounds_25 : decode cX0_findRounds 25 = .ok (.getfield 22, 3) := by decide +kernel
theorem dX0_findRounds_28 : decode cX0_findRounds 28 = .ok (.iload_n 1, 1) := by decide +kernel
theorem dX0_findRounds_29 : decode cX0_findRounds 29 = .ok (.iaload, 1) := by decide +kernel
theorem dX0_findRounds_30 : decode cX0_findRounds 30 = .ok (.ifCond .le 29, 3) := by decide +kernel
theorem dX0_findRounds_33 : decode cX0_findRounds 33 = .ok (.aload_n 0, 1) := by decide +kernel
theorem dX0_findRounds_34 : decode cX0_findRounds 34 = .ok (.getfield 28, 3) := by decide +kernel
theorem dX0_findRounds_37 : decode cX0_findRounds 37 = .ok (.iload_n 1, 1) := by decide +kernel
theorem dX0_findRounds_38 : decode cX0_findRounds 38 = .ok (.iaload, 1) := by decide +kernel
theorem dX0_findRounds_39 : decode cX0_findRounds 39 = .ok (.bipush (-9), 2) := by decide +kernel
theorem dX0_findRounds_41 : decode cX0_findRounds 41 = .ok (.if_icmp .ne 18, 3) := by decide +kernel
theorem dX0_findRounds_44 : decode cX0_findRounds 44 = .ok (.aload_n 0, 1) := by decide +kernel
theorem dX0_findRounds_45 : decode cX0_findRounds 45 = .ok (.dup, 1) := by decide +kernel
theorem dX0_findRounds_46 : decode cX0_findRounds 46 = .ok (.getfield 50, 3) := by decide +kernel
theorem dX0_findRounds_49 : decode cX0_findRounds 49 = .ok (.iconst 1, 1) := by decide +kernel
theorem dX0_findRounds_50 : decode cX0_findRounds 50 = .ok (.iadd, 1) := by decide +kernel
theorem dX0_findRounds_51 : decode cX0_findRounds 51 = .ok (.putfield 50, 3) := by decide +kernel
theorem dX0_findRounds_54 : decode cX0_findRounds 54 = .ok (.aload_n 0, 1) := by decide +kernel
theorem dX0_findRounds_55 : decode cX0_findRounds 55 = .ok (.iload_n 1, 1) := by decide +kernel
theorem dX0_findRounds_56 : decode cX0_findRounds 56 = .ok (.invokevirtual 119, 3) := by decide +kernel
theorem dX0_findRounds_59 : decode cX0_findRounds 59 = .ok (.iinc 1 1, 3) := by decide +kernel
theorem dX0_findRounds_62 : decode cX0_findRounds 62 = .ok (.goto (-46), 3) := by decide +kernel
theorem dX0_findRounds_65 : decode cX0_findRounds 65 = .ok (.return_, 1) := by decide +kernel
theorem dX0_markRound_0 : decode cX0_markRound 0 = .ok (.iload_n 1, 1) := by decide +kernel
theorem dX0_markRound_1 : decode cX0_markRound 1 = .ok (.istore_n 2, 1) := by decide +kernel
theorem dX0_markRound_2 : decode cX0_markRound 2 = .ok (.iconst 0, 1) := by decide +kernel
theorem dX0_markRound_3 : decode cX0_markRound 3 = .ok (.istore_n 3, 1) := by decide +kernel
theorem dX0_markRound_4 : decode cX0_markRound 4 = .ok (.iload_n 3, 1) := by decide +kernel
theorem dX0_markRound_5 : decode cX0_markRound 5 = .ok (.aload_n 0, 1) := by decide +kernel
theorem dX0_markRound_6 : decode cX0_markRound 6 = .ok (.getfield 38, 3) := by decide +kernel
theorem dX0_markRound_9 : decode cX0_markRound 9 = .ok (.if_icmp .ge 40, 3) := by decide +kernel
theorem dX0_markRound_12 : decode cX0_markRound 12 = .ok (.aload_n 0, 1) := by decide +kernel
theorem dX0_markRound_13 : decode cX0_markRound 13 = .ok (.getfield 28, 3) := by decide +kernel
theorem dX0_markRound_16 : decode cX0_markRound 16 = .ok (.iload_n 2, 1) := by decide +kernel
theorem dX0_markRound_17 : decode cX0_markRound 17 = .ok (.iaload, 1) := by decide +kernel
theorem dX0_markRound_18 : decode cX0_markRound 18 = .ok (.bipush (-9), 2) := by decide +kernel
theorem dX0_markRound_20 : decode cX0_markRound 20 = .ok (.if_icmp .ne 29, 3) := by decide +kernel
theorem dX0_markRound_23 : decode cX0_markRound 23 = .ok (.aload_n 0, 1) := by decide +kernel
theorem dX0_markRound_24 : decode cX0_markRound 24 = .ok (.getfield 28, 3) := by decide +kernel
theorem dX0_markRound_27 : decode cX0_markRound 27 = .ok (.iload_n 2, 1) := by decide +kernel
theorem dX0_markRound_28 : decode cX0_markRound 28 = .ok (.iload_n 1, 1) := by decide +kernel
theorem dX0_markRound_29 : decode cX0_markRound 29 = .ok (.iastore, 1) := by decide +kernel
theorem dX0_markRound_30 : decode cX0_markRound 30 = .ok (.aload_n 0, 1) := by decide +kernel
theorem dX0_markRound_31 : decode cX0_markRound 31 = .ok (.getfield 31, 3) := by decide +kernel
theorem dX0_markRound_34 : decode cX0_markRound 34 = .ok (.iload_n 2, 1) := by decide +kernel
theorem dX0_markRound_35 : decode cX0_markRound 35 = .ok (.iconst 0, 1) := by decide +kernel
theorem dX0_markRound_36 : decode cX0_markRound 36 = .ok (.iastore, 1) := by decide +kernel
theorem dX0_markRound_37 : decode cX0_markRound 37 = .ok (.aload_n 0, 1) := by decide +kernel
theorem dX0_markRound_38 : decode cX0_markRound 38 = .ok (.iload_n 2, 1) := by decide +kernel
theorem dX0_markRound_39 : decode cX0_markRound 39 = .ok (.invokevirtual 115, 3) := by decide +kernel
theorem dX0_markRound_42 : decode cX0_markRound 42 = .ok (.istore_n 2, 1) := by decide +kernel
theorem dX0_markRound_43 : decode cX0_markRound 43 = .ok (.iinc 3 1, 3) := by decide +kernel
theorem dX0_markRound_46 : decode cX0_markRound 46 = .ok (.goto (-42), 3) := by decide +kernel
theorem dX0_markRound_49 : decode cX0_markRound 49 = .ok (.return_, 1) := by decide +kernel
theorem dX0_findTails_0 : decode cX0_findTails 0 = .ok (.aload_n 0, 1) := by decide +kernel
theorem dX0_findTails_1 : decode cX0_findTails 1 = .ok (.getfield 34, 3) := by decide +kernel
theorem dX0_findTails_4 : decode cX0_findTails 4 = .ok (.iconst 1, 1) := by decide +kernel
theorem dX0_findTails_5 : decode cX0_findTails 5 = .ok (.isub, 1) := by decide +kernel
theorem dX0_findTails_6 : decode cX0_findTails 6 = .ok (.istore_n 1, 1) := by decide +kernel
theorem dX0_findTails_7 : decode cX0_findTails 7 = .ok (.iload_n 1, 1) := by decide +kernel
theorem dX0_findTails_8 : decode cX0_findTails 8 = .ok (.ifCond .lt 56, 3) := by decide +kernel
theorem dX0_findTails_11 : decode cX0_findTails 11 = .ok (.aload_n 0, 1) := by decide +kernel
theorem dX0_findTails_12 : decode cX0_findTails 12 = .ok (.getfield 25, 3) := by decide +kernel
theorem dX0_findTails_15 : decode cX0_findTails 15 = .ok (.iload_n 1, 1) := by decide +kernel
theorem dX0_findTails_16 : decode cX0_findTails 16 = .ok (.iaload, 1) := by decide +kernel
theorem dX0_findTails_17 : decode cX0_findTails 17 = .ok (.istore_n 2, 1) := by decide +kernel
theorem dX0_findTails_18 : decode cX0_findTails 18 = .ok (.aload_n 0, 1) := by decide +kernel
theorem dX0_findTails_19 : decode cX0_findTails 19 = .ok (.iload_n 2, 1) := by decide +kernel
theorem dX0_findTails_20 : decode cX0_findTails 20 = .ok (.invokevirtual 115, 3) := by decide +kernel
theorem dX0_findTails_23 : decode cX0_findTails 23 = .ok (.istore_n 3, 1) := by decide +kernel
theorem dX0_findTails_24 : decode cX0_findTails 24 = .ok (.aload_n 0, 1) := by decide +kernel
theorem dX0_findTails_25 : decode cX0_findTails 25 = .ok (.iload_n 2, 1) := by decide +kernel
theorem dX0_findTails_26 : decode cX0_findTails 26 = .ok (.invokevirtual 104, 3) := by decide +kernel
theorem dX0_findTails_29 : decode cX0_findTails 29 = .ok (.ifCond .eq 29, 3) := by decide +kernel
theorem dX0_findTails_32 : decode cX0_findTails 32 = .ok (.aload_n 0, 1) := by decide +kernel
theorem dX0_findTails_33 : decode cX0_findTails 33 = .ok (.getfield 31, 3) := by decide +kernel
theorem dX0_findTails_36 : decode cX0_findTails 36 = .ok (.iload_n 2, 1) := by decide +kernel
theorem dX0_findTails_37 : decode cX0_findTails 37 = .ok (.aload_n 0, 1) := by decide +kernel
theorem dX0_findTails_38 : decode cX0_findTails 38 = .ok (.getfield 31, 3) := by decide +kernel
theorem dX0_findTails_41 : decode cX0_findTails 41 = .ok (.iload_n 3, 1) := by decide +kernel
theorem dX0_findTails_42 : decode cX0_findTails 42 = .ok (.iaload, 1) := by decide +kernel
theorem dX0_findTails_43 : decode cX0_findTails 43 = .ok (.iconst 1, 1) := by decide +kernel
theorem dX0_findTails_44 : decode cX0_findTails 44 = .ok (.iadd, 1) := by decide +kernel
theorem dX0_findTails_45 : decode cX0_findTails 45 = .ok (.iastore, 1) := by decide +kernel
theorem dX0_findTails_46 : decode cX0_findTails 46 = .ok (.aload_n 0, 1) := by decide +kernel
theorem dX0_findTails_47 : decode cX0_findTails 47 = .ok (.getfield 28, 3) := by decide +kernel
theorem dX0_findTails_50 : decode cX0_findTails 50 = .ok (.iload_n 2, 1) := by decide +kernel
theorem dX0_findTails_51 : decode cX0_findTails 51 = .ok (.aload_n 0, 1) := by decide +kernel
theorem dX0_findTails_52 : decode cX0_findTails 52 = .ok (.getfield 28, 3) := by decide +kernel
theorem dX0_findTails_55 : decode cX0_findTails 55 = .ok (.iload_n 3, 1) := by decide +kernel
theorem dX0_findTails_56 : decode cX0_findTails 56 = .ok (.iaload, 1) := by decide +kernel
theorem dX0_findTails_57 : decode cX0_findTails 57 = .ok (.iastore, 1) := by decide +kernel
theorem dX0_findTails_58 : decode cX0_findTails 58 = .ok (.iinc 1 (-1), 3) := by decide +kernel
theorem dX0_findTails_61 : decode cX0_findTails 61 = .ok (.goto (-54), 3) := by decide +kernel
theorem dX0_findTails_64 : decode cX0_findTails 64 = .ok (.return_, 1) := by decide +kernel
theorem dX0_sumUp_0 : decode cX0_sumUp 0 = .ok (.aload_n 0, 1) := by decide +kernel
theorem dX0_sumUp_1 : decode cX0_sumUp 1 = .ok (.iconst 0, 1) := by decide +kernel
theorem dX0_sumUp_2 : decode cX0_sumUp 2 = .ok (.putfield 41, 3) := by decide +kernel
theorem dX0_sumUp_5 : decode cX0_sumUp 5 = .ok (.aload_n 0, 1) := by decide +kernel
theorem dX0_sumUp_6 : decode cX0_sumUp 6 = .ok (.iconst 0, 1) := by decide +kernel
theorem dX0_sumUp_7 : decode cX0_sumUp 7 = .ok (.putfield 47, 3) := by decide +kernel
theorem dX0_sumUp_10 : decode cX0_sumUp 10 = .ok (.aload_n 0, 1) := by decide +kernel
theorem dX0_sumUp_11 : decode cX0_sumUp 11 = .ok (.iconst 0, 1) := by decide +kernel
theorem dX0_sumUp_12 : decode cX0_sumUp 12 = .ok (.putfield 53, 3) := by decide +kernel
theorem dX0_sumUp_15 : decode cX0_sumUp 15 = .ok (.aload_n 0, 1) := by decide +kernel
theorem dX0_sumUp_16 : decode cX0_sumUp 16 = .ok (.iconst 0, 1) := by decide +kernel
theorem dX0_sumUp_17 : decode cX0_sumUp 17 = .ok (.putfield 56, 3) := by decide +kernel
theorem dX0_sumUp_20 : decode cX0_sumUp 20 = .ok (.iconst 0, 1) := by decide +kernel
theorem dX0_sumUp_21 : decode cX0_sumUp 21 = .ok (.istore_n 1, 1) := by decide +kernel
theorem dX0_sumUp_22 : decode cX0_sumUp 22 = .ok (.iload_n 1, 1) := by decide +kernel
theorem dX0_sumUp_23 : decode cX0_sumUp 23 = .ok (.aload_n 0, 1) := by decide +kernel
theorem dX0_sumUp_24 : decode cX0_sumUp 24 = .ok (.getfield 38, 3) := by decide +kernel
theorem dX0_sumUp_27 : decode cX0_sumUp 27 = .ok (.if_icmp .ge 75, 3) := by decide +kernel
theorem dX0_sumUp_30 : decode cX0_sumUp 30 = .ok (.aload_n 0, 1) := by decide +kernel
theorem dX0_sumUp_31 : decode cX0_sumUp 31 = .ok (.getfield 18, 3) := by decide +kernel
theorem dX0_sumUp_34 : decode cX0_sumUp 34 = .ok (.iload_n 1, 1) := by decide +kernel
theorem dX0_sumUp_35 : decode cX0_sumUp 35 = .ok (.iaload, 1) := by decide +kernel
theorem dX0_sumUp_36 : decode cX0_sumUp 36 = .ok (.iload_n 1, 1) := by decide +kernel
theorem dX0_sumUp_37 : decode cX0_sumUp 37 = .ok (.if_icmp .ne 13, 3) := by decide +kernel
theorem dX0_sumUp_40 : decode cX0_sumUp 40 = .ok (.aload_n 0, 1) := by decide +kernel
theorem dX0_sumUp_41 : decode cX0_sumUp 41 = .ok (.dup, 1) := by decide +kernel
theorem dX0_sumUp_42 : decode cX0_sumUp 42 = .ok (.getfield 41, 3) := by decide +kernel
theorem dX0_sumUp_45 : decode cX0_sumUp 45 = .ok (.iconst 1, 1) := by decide +kernel
theorem dX0_sumUp_46 : decode cX0_sumUp 46 = .ok (.iadd, 1) := by decide +kernel
theorem dX0_sumUp_47 : decode cX0_sumUp 47 = .ok (.putfield 41, 3) := by decide +kernel
theorem dX0_sumUp_50 : decode cX0_sumUp 50 = .ok (.aload_n 0, 1) := by decide +kernel
theorem dX0_sumUp_51 : decode cX0_sumUp 51 = .ok (.iload_n 1, 1) := by decide +kernel
theorem dX0_sumUp_52 : decode cX0_sumUp 52 = .ok (.invokevirtual 122, 3) := by decide +kernel
theorem dX0_sumUp_55 : decode cX0_sumUp 55 = .ok (.ifCond .eq 13, 3) := by decide +kernel
theorem dX0_sumUp_58 : decode cX0_sumUp 58 = .ok (.aload_n 0, 1) := by decide +kernel
theorem dX0_sumUp_59 : decode cX0_sumUp 59 = .ok (.dup, 1) := by decide +kernel
theorem dX0_sumUp_60 : decode cX0_sumUp 60 = .ok (.getfield 47, 3) := by decide +kernel
theorem dX0_sumUp_63 : decode cX0_sumUp 63 = .ok (.iconst 1, 1) := by decide +kernel
theorem dX0_sumUp_64 : decode cX0_sumUp 64 = .ok (.iadd, 1) := by decide +kernel
theorem dX0_sumUp_65 : decode cX0_sumUp 65 = .ok (.putfield 47, 3) := by decide +kernel
theorem dX0_sumUp_68 : decode cX0_sumUp 68 = .ok (.aload_n 0, 1) := by decide +kernel
theorem dX0_sumUp_69 : decode cX0_sumUp 69 = .ok (.getfield 31, 3) := by decide +kernel
theorem dX0_sumUp_72 : decode cX0_sumUp 72 = .ok (.iload_n 1, 1) := by decide +kernel
theorem dX0_sumUp_73 : decode cX0_sumUp 73 = .ok (.iaload, 1) := by decide +kernel
theorem dX0_sumUp_74 : decode cX0_sumUp 74 = .ok (.aload_n 0, 1) := by decide +kernel
theorem dX0_sumUp_75 : decode cX0_sumUp 75 = .ok (.getfield 53, 3) := by decide +kernel
theorem dX0_sumUp_78 : decode cX0_sumUp 78 = .ok (.if_icmp .le 18, 3) := by decide +kernel
theorem dX0_sumUp_81 : decode cX0_sumUp 81 = .ok (.aload_n 0, 1) := by decide +kernel
theorem dX0_sumUp_82 : decode cX0_sumUp 82 = .ok (.aload_n 0, 1) := by decide +kernel
theorem dX0_sumUp_83 : decode cX0_sumUp 83 = .ok (.getfield 31, 3) := by decide +kernel
theorem dX0_sumUp_86 : decode cX0_sumUp 86 = .ok (.iload_n 1, 1) := by decide +kernel
theorem dX0_sumUp_87 : decode cX0_sumUp 87 = .ok (.iaload, 1) := by decide +kernel
theorem dX0_sumUp_88 : decode cX0_sumUp 88 = .ok (.putfield 53, 3) := by decide +kernel
theorem dX0_sumUp_91 : decode cX0_sumUp 91 = .ok (.aload_n 0, 1) := by decide +kernel
theorem dX0_sumUp_92 : decode cX0_sumUp 92 = .ok (.iload_n 1, 1) := by decide +kernel
theorem dX0_sumUp_93 : decode cX0_sumUp 93 = .ok (.putfield 56, 3) := by decide +kernel
theorem dX0_sumUp_96 : decode cX0_sumUp 96 = .ok (.iinc 1 1, 3) := by decide +kernel
theorem dX0_sumUp_99 : decode cX0_sumUp 99 = .ok (.goto (-77), 3) := by decide +kernel
theorem dX0_sumUp_102 : decode cX0_sumUp 102 = .ok (.return_, 1) := by decide +kernel
theorem dX0_isRow_0 : decode cX0_isRow 0 = .ok (.iload_n 1, 1) := by decide +kernel
theorem dX0_isRow_1 : decode cX0_isRow 1 = .ok (.ifCond .lt 15, 3) := by decide +kernel
theorem dX0_isRow_4 : decode cX0_isRow 4 = .ok (.iload_n 1, 1) := by decide +kernel
theorem dX0_isRow_5 : decode cX0_isRow 5 = .ok (.aload_n 0, 1) := by decide +kernel
theorem dX0_isRow_6 : decode cX0_isRow 6 = .ok (.getfield 38, 3) := by decide +kernel
theorem dX0_isRow_9 : decode cX0_isRow 9 = .ok (.if_icmp .ge 7, 3) := by decide +kernel
theorem dX0_isRow_12 : decode cX0_isRow 12 = .ok (.iconst 1, 1) := by decide +kernel
theorem dX0_isRow_13 : decode cX0_isRow 13 = .ok (.goto 4, 3) := by decide +kernel
theorem dX0_isRow_16 : decode cX0_isRow 16 = .ok (.iconst 0, 1) := by decide +kernel
theorem dX0_isRow_17 : decode cX0_isRow 17 = .ok (.ireturn, 1) := by decide +kernel
theorem dX0_nextOf_0 : decode cX0_nextOf 0 = .ok (.aload_n 0, 1) := by decide +kernel
theorem dX0_nextOf_1 : decode cX0_nextOf 1 = .ok (.iload_n 1, 1) := by decide +kernel
theorem dX0_nextOf_2 : decode cX0_nextOf 2 = .ok (.invokevirtual 104, 3) := by decide +kernel
theorem dX0_nextOf_5 : decode cX0_nextOf 5 = .ok (.ifCond .eq 12, 3) := by decide +kernel
theorem dX0_nextOf_8 : decode cX0_nextOf 8 = .ok (.aload_n 0, 1) := by decide +kernel
theorem dX0_nextOf_9 : decode cX0_nextOf 9 = .ok (.getfield 18, 3) := by decide +kernel
theorem dX0_nextOf_12 : decode cX0_nextOf 12 = .ok (.iload_n 1, 1) := by decide +kernel
theorem dX0_nextOf_13 : decode cX0_nextOf 13 = .ok (.iaload, 1) := by decide +kernel
theorem dX0_nextOf_14 : decode cX0_nextOf 14 = .ok (.goto 4, 3) := by decide +kernel
theorem dX0_nextOf_17 : decode cX0_nextOf 17 = .ok (.iconst 0, 1) := by decide +kernel
theorem dX0_nextOf_18 : decode cX0_nextOf 18 = .ok (.ireturn, 1) := by decide +kernel
theorem dX0_tailOf_0 : decode cX0_tailOf 0 = .ok (.aload_n 0, 1) := by decide +kernel
theorem dX0_tailOf_1 : decode cX0_tailOf 1 = .ok (.iload_n 1, 1) := by decide +kernel
theorem dX0_tailOf_2 : decode cX0_tailOf 2 = .ok (.invokevirtual 104, 3) := by decide +kernel
theorem dX0_tailOf_5 : decode cX0_tailOf 5 = .ok (.ifCond .eq 12, 3) := by decide +kernel
theorem dX0_tailOf_8 : decode cX0_tailOf 8 = .ok (.aload_n 0, 1) := by decide +kernel
theorem dX0_tailOf_9 : decode cX0_tailOf 9 = .ok (.getfield 31, 3) := by decide +kernel
theorem dX0_tailOf_12 : decode cX0_tailOf 12 = .ok (.iload_n 1, 1) := by decide +kernel
theorem dX0_tailOf_13 : decode cX0_tailOf 13 = .ok (.iaload, 1) := by decide +kernel
theorem dX0_tailOf_14 : decode cX0_tailOf 14 = .ok (.goto 4, 3) := by decide +kernel
theorem dX0_tailOf_17 : decode cX0_tailOf 17 = .ok (.iconst 0, 1) := by decide +kernel
theorem dX0_tailOf_18 : decode cX0_tailOf 18 = .ok (.ireturn, 1) := by decide +kernel
theorem dX0_roundOf_0 : decode cX0_roundOf 0 = .ok (.aload_n 0, 1) := by decide +kernel
theorem dX0_roundOf_1 : decode cX0_roundOf 1 = .ok (.iload_n 1, 1) := by decide +kernel
theorem dX0_roundOf_2 : decode cX0_roundOf 2 = .ok (.invokevirtual 104, 3) := by decide +kernel
theorem dX0_roundOf_5 : decode cX0_roundOf 5 = .ok (.ifCond .eq 12, 3) := by decide +kernel
theorem dX0_roundOf_8 : decode cX0_roundOf 8 = .ok (.aload_n 0, 1) := by decide +kernel
theorem dX0_roundOf_9 : decode cX0_roundOf 9 = .ok (.getfield 28, 3) := by decide +kernel
theorem dX0_roundOf_12 : decode cX0_roundOf 12 = .ok (.iload_n 1, 1) := by decide +kernel
theorem dX0_roundOf_13 : decode cX0_roundOf 13 = .ok (.iaload, 1) := by decide +kernel
theorem dX0_roundOf_14 : decode cX0_roundOf 14 = .ok (.goto 4, 3) := by decide +kernel
theorem dX0_roundOf_17 : decode cX0_roundOf 17 = .ok (.iconst 0, 1) := by decide +kernel
theorem dX0_roundOf_18 : decode cX0_roundOf 18 = .ok (.istore_n 2, 1) := by decide +kernel
theorem dX0_roundOf_19 : decode cX0_roundOf 19 = .ok (.iconst 1, 1) := by decide +kernel
theorem dX0_roundOf_20 : decode cX0_roundOf 20 = .ok (.istore_n 3, 1) := by decide +kernel
theorem dX0_roundOf_21 : decode cX0_roundOf 21 = .ok (.aload_n 0, 1) := by decide +kernel
theorem dX0_roundOf_22 : decode cX0_roundOf 22 = .ok (.iload_n 2, 1) := by decide +kernel
theorem dX0_roundOf_23 : decode cX0_roundOf 23 = .ok (.invokevirtual 115, 3) := by decide +kernel
theorem dX0_roundOf_26 : decode cX0_roundOf 26 = .ok (.istore 4, 2) := by decide +kernel
theorem dX0_roundOf_28 : decode cX0_roundOf 28 = .ok (.iload 4, 2) := by decide +kernel
theorem dX0_roundOf_30 : decode cX0_roundOf 30 = .ok (.iload_n 2, 1) := by decide +kernel
theorem dX0_roundOf_31 : decode cX0_roundOf 31 = .ok (.if_icmp .eq 25, 3) := by decide +kernel
theorem dX0_roundOf_34 : decode cX0_roundOf 34 = .ok (.iload_n 3, 1) := by decide +kernel
theorem dX0_roundOf_35 : decode cX0_roundOf 35 = .ok (.aload_n 0, 1) := by decide +kernel
theorem dX0_roundOf_36 : decode cX0_roundOf 36 = .ok (.getfield 38, 3) := by decide +kernel
theorem dX0_roundOf_39 : decode cX0_roundOf 39 = .ok (.if_icmp .ge 17, 3) := by decide +kernel
theorem dX0_roundOf_42 : decode cX0_roundOf 42 = .ok (.iinc 3 1, 3) := by decide +kernel
theorem dX0_roundOf_45 : decode cX0_roundOf 45 = .ok (.aload_n 0, 1) := by decide +kernel
theorem dX0_roundOf_46 : decode cX0_roundOf 46 = .ok (.iload 4, 2) := by decide +kernel
theorem dX0_roundOf_48 : decode cX0_roundOf 48 = .ok (.invokevirtual 115, 3) := by decide +kernel
theorem dX0_roundOf_51 : decode cX0_roundOf 51 = .ok (.istore 4, 2) := by decide +kernel
theorem dX0_roundOf_53 : decode cX0_roundOf 53 = .ok (.goto (-25), 3) := by decide +kernel
theorem dX0_roundOf_56 : decode cX0_roundOf 56 = .ok (.iload_n 3, 1) := by decide +kernel
theorem dX0_roundOf_57 : decode cX0_roundOf 57 = .ok (.ireturn, 1) := by decide +kernel
theorem dX0_goesOut_0 : decode cX0_goesOut 0 = .ok (.aload_n 0, 1) := by decide +kernel
theorem dX0_goesOut_1 : decode cX0_goesOut 1 = .ok (.iload_n 1, 1) := by decide +kernel
theorem dX0_goesOut_2 : decode cX0_goesOut 2 = .ok (.invokevirtual 104, 3) := by decide +kernel
theorem dX0_goesOut_5 : decode cX0_goesOut 5 = .ok (.ifCond .eq 16, 3) := by decide +kernel
theorem dX0_goesOut_8 : decode cX0_goesOut 8 = .ok (.aload_n 0, 1) := by decide +kernel
theorem dX0_goesOut_9 : decode cX0_goesOut 9 = .ok (.getfield 28, 3) := by decide +kernel
theorem dX0_goesOut_12 : decode cX0_goesOut 12 = .ok (.iload_n 1, 1) := by decide +kernel
theorem dX0_goesOut_13 : decode cX0_goesOut 13 = .ok (.iaload, 1) := by decide +kernel
theorem dX0_goesOut_14 : decode cX0_goesOut 14 = .ok (.ifCond .ne 7, 3) := by decide +kernel
theorem dX0_goesOut_17 : decode cX0_goesOut 17 = .ok (.iconst 1, 1) := by decide +kernel
theorem dX0_goesOut_18 : decode cX0_goesOut 18 = .ok (.goto 4, 3) := by decide +kernel
theorem dX0_goesOut_21 : decode cX0_goesOut 21 = .ok (.iconst 0, 1) := by decide +kernel
theorem dX0_goesOut_22 : decode cX0_goesOut 22 = .ok (.ireturn, 1) := by decide +kernel
theorem dX0_behind_0 : decode cX0_behind 0 = .ok (.aload_n 0, 1) := by decide +kernel
theorem dX0_behind_1 : decode cX0_behind 1 = .ok (.iload_n 1, 1) := by decide +kernel
theorem dX0_behind_2 : decode cX0_behind 2 = .ok (.invokevirtual 125, 3) := by decide +kernel
theorem dX0_behind_5 : decode cX0_behind 5 = .ok (.istore 4, 2) := by decide +kernel
theorem dX0_behind_7 : decode cX0_behind 7 = .ok (.aload_n 0, 1) := by decide +kernel
theorem dX0_behind_8 : decode cX0_behind 8 = .ok (.iload_n 1, 1) := by decide +kernel
theorem dX0_behind_9 : decode cX0_behind 9 = .ok (.invokevirtual 128, 3) := by decide +kernel
theorem dX0_behind_12 : decode cX0_behind 12 = .ok (.istore 5, 2) := by decide +kernel
theorem dX0_behind_14 : decode cX0_behind 14 = .ok (.lload_n 2, 1) := by decide +kernel
theorem dX0_behind_15 : decode cX0_behind 15 = .ok (.lstore 6, 2) := by decide +kernel
theorem dX0_behind_17 : decode cX0_behind 17 = .ok (.lload 6, 2) := by decide +kernel
theorem dX0_behind_19 : decode cX0_behind 19 = .ok (.iload 4, 2) := by decide +kernel
theorem dX0_behind_21 : decode cX0_behind 21 = .ok (.i2l, 1) := by decide +kernel
theorem dX0_behind_22 : decode cX0_behind 22 = .ok (.lcmp, 1) := by decide +kernel
theorem dX0_behind_23 : decode cX0_behind 23 = .ok (.ifCond .le 24, 3) := by decide +kernel
theorem dX0_behind_26 : decode cX0_behind 26 = .ok (.iload 5, 2) := by decide +kernel
theorem dX0_behind_28 : decode cX0_behind 28 = .ok (.ifCond .le 19, 3) := by decide +kernel
theorem dX0_behind_31 : decode cX0_behind 31 = .ok (.iload 4, 2) := by decide +kernel
theorem dX0_behind_33 : decode cX0_behind 33 = .ok (.i2l, 1) := by decide +kernel
theorem dX0_behind_34 : decode cX0_behind 34 = .ok (.lload 6, 2) := by decide +kernel
theorem dX0_behind_36 : decode cX0_behind 36 = .ok (.iload 4, 2) := by decide +kernel
theorem dX0_behind_38 : decode cX0_behind 38 = .ok (.i2l, 1) := by decide +kernel
theorem dX0_behind_39 : decode cX0_behind 39 = .ok (.lsub, 1) := by decide +kernel
theorem dX0_behind_40 : decode cX0_behind 40 = .ok (.iload 5, 2) := by decide +kernel
theorem dX0_behind_42 : decode cX0_behind 42 = .ok (.i2l, 1) := by decide +kernel
theorem dX0_behind_43 : decode cX0_behind 43 = .ok (.lrem, 1) := by decide +kernel
theorem dX0_behind_44 : decode cX0_behind 44 = .ok (.ladd, 1) := by decide +kernel
theorem dX0_behind_45 : decode cX0_behind 45 = .ok (.lstore 6, 2) := by decide +kernel
theorem dX0_behind_47 : decode cX0_behind 47 = .ok (.iload_n 1, 1) := by decide +kernel
theorem dX0_behind_48 : decode cX0_behind 48 = .ok (.istore 8, 2) := by decide +kernel
theorem dX0_behind_50 : decode cX0_behind 50 = .ok (.iconst 0, 1) := by decide +kernel
theorem dX0_behind_51 : decode cX0_behind 51 = .ok (.istore 9, 2) := by decide +kernel
theorem dX0_behind_53 : decode cX0_behind 53 = .ok (.iload 9, 2) := by decide +kernel
theorem dX0_behind_55 : decode cX0_behind 55 = .ok (.i2l, 1) := by decide +kernel
theorem dX0_behind_56 : decode cX0_behind 56 = .ok (.lload 6, 2) := by decide +kernel
theorem dX0_behind_58 : decode cX0_behind 58 = .ok (.lcmp, 1) := by decide +kernel
theorem dX0_behind_59 : decode cX0_behind 59 = .ok (.ifCond .ge 26, 3) := by decide +kernel
theorem dX0_behind_62 : decode cX0_behind 62 = .ok (.iload 9, 2) := by decide +kernel
theorem dX0_behind_64 : decode cX0_behind 64 = .ok (.aload_n 0, 1) := by decide +kernel
theorem dX0_behind_65 : decode cX0_behind 65 = .ok (.getfield 38, 3) := by decide +kernel
theorem dX0_behind_68 : decode cX0_behind 68 = .ok (.if_icmp .ge 17, 3) := by decide +kernel
theorem dX0_behind_71 : decode cX0_behind 71 = .ok (.aload_n 0, 1) := by decide +kernel
theorem dX0_behind_72 : decode cX0_behind 72 = .ok (.iload 8, 2) := by decide +kernel
theorem dX0_behind_74 : decode cX0_behind 74 = .ok (.invokevirtual 115, 3) := by decide +kernel
theorem dX0_behind_77 : decode cX0_behind 77 = .ok (.istore 8, 2) := by decide +kernel
theorem dX0_behind_79 : decode cX0_behind 79 = .ok (.iinc 9 1, 3) := by decide +kernel
theorem dX0_behind_82 : decode cX0_behind 82 = .ok (.goto (-29), 3) := by decide +kernel
theorem dX0_behind_85 : decode cX0_behind 85 = .ok (.iload 8, 2) := by decide +kernel
theorem dX0_behind_87 : decode cX0_behind 87 = .ok (.ireturn, 1) := by decide +kernel
theorem dX0_comersOf_0 : decode cX0_comersOf 0 = .ok (.iconst 0, 1) := by decide +kernel
theorem dX0_comersOf_1 : decode cX0_comersOf 1 = .ok (.istore_n 2, 1) := by decide +kernel
theorem dX0_comersOf_2 : decode cX0_comersOf 2 = .ok (.iconst 0, 1) := by decide +kernel
theorem dX0_comersOf_3 : decode cX0_comersOf 3 = .ok (.istore_n 3, 1) := by decide +kernel
theorem dX0_comersOf_4 : decode cX0_comersOf 4 = .ok (.iload_n 3, 1) := by decide +kernel
theorem dX0_comersOf_5 : decode cX0_comersOf 5 = .ok (.aload_n 0, 1) := by decide +kernel
theorem dX0_comersOf_6 : decode cX0_comersOf 6 = .ok (.getfield 38, 3) := by decide +kernel
theorem dX0_comersOf_9 : decode cX0_comersOf 9 = .ok (.if_icmp .ge 22, 3) := by decide +kernel
theorem dX0_comersOf_12 : decode cX0_comersOf 12 = .ok (.aload_n 0, 1) := by decide +kernel
theorem dX0_comersOf_13 : decode cX0_comersOf 13 = .ok (.getfield 18, 3) := by decide +kernel
theorem dX0_comersOf_16 : decode cX0_comersOf 16 = .ok (.iload_n 3, 1) := by decide +kernel
theorem dX0_comersOf_17 : decode cX0_comersOf 17 = .ok (.iaload, 1) := by decide +kernel
theorem dX0_comersOf_18 : decode cX0_comersOf 18 = .ok (.iload_n 1, 1) := by decide +kernel
theorem dX0_comersOf_19 : decode cX0_comersOf 19 = .ok (.if_icmp .ne 6, 3) := by decide +kernel
theorem dX0_comersOf_22 : decode cX0_comersOf 22 = .ok (.iinc 2 1, 3) := by decide +kernel
theorem dX0_comersOf_25 : decode cX0_comersOf 25 = .ok (.iinc 3 1, 3) := by decide +kernel
theorem dX0_comersOf_28 : decode cX0_comersOf 28 = .ok (.goto (-24), 3) := by decide +kernel
theorem dX0_comersOf_31 : decode cX0_comersOf 31 = .ok (.iload_n 2, 1) := by decide +kernel
theorem dX0_comersOf_32 : decode cX0_comersOf 32 = .ok (.ireturn, 1) := by decide +kernel
theorem dX0_firstComerOf_0 : decode cX0_firstComerOf 0 = .ok (.iconst 0, 1) := by decide +kernel
theorem dX0_firstComerOf_1 : decode cX0_firstComerOf 1 = .ok (.istore_n 2, 1) := by decide +kernel
theorem dX0_firstComerOf_2 : decode cX0_firstComerOf 2 = .ok (.iload_n 2, 1) := by decide +kernel
theorem dX0_firstComerOf_3 : decode cX0_firstComerOf 3 = .ok (.aload_n 0, 1) := by decide +kernel
theorem dX0_firstComerOf_4 : decode cX0_firstComerOf 4 = .ok (.getfield 38, 3) := by decide +kernel
theorem dX0_firstComerOf_7 : decode cX0_firstComerOf 7 = .ok (.if_icmp .ge 21, 3) := by decide +kernel
theorem dX0_firstComerOf_10 : decode cX0_firstComerOf 10 = .ok (.aload_n 0, 1) := by decide +kernel
theorem dX0_firstComerOf_11 : decode cX0_firstComerOf 11 = .ok (.getfield 18, 3) := by decide +kernel
theorem dX0_firstComerOf_14 : decode cX0_firstComerOf 14 = .ok (.iload_n 2, 1) := by decide +kernel
theorem dX0_firstComerOf_15 : decode cX0_firstComerOf 15 = .ok (.iaload, 1) := by decide +kernel
theorem dX0_firstComerOf_16 : decode cX0_firstComerOf 16 = .ok (.iload_n 1, 1) := by decide +kernel
theorem dX0_firstComerOf_17 : decode cX0_firstComerOf 17 = .ok (.if_icmp .ne 5, 3) := by decide +kernel
theorem dX0_firstComerOf_20 : decode cX0_firstComerOf 20 = .ok (.iload_n 2, 1) := by decide +kernel
theorem dX0_firstComerOf_21 : decode cX0_firstComerOf 21 = .ok (.ireturn, 1) := by decide +kernel
theorem dX0_firstComerOf_22 : decode cX0_firstComerOf 22 = .ok (.iinc 2 1, 3) := by decide +kernel
theorem dX0_firstComerOf_25 : decode cX0_firstComerOf 25 = .ok (.goto (-23), 3) := by decide +kernel
theorem dX0_firstComerOf_28 : decode cX0_firstComerOf 28 = .ok (.bipush (-9), 2) := by decide +kernel
theorem dX0_firstComerOf_30 : decode cX0_firstComerOf 30 = .ok (.ireturn, 1) := by decide +kernel
theorem dX0_meeting_0 : decode cX0_meeting 0 = .ok (.iload_n 1, 1) := by decide +kernel
theorem dX0_meeting_1 : decode cX0_meeting 1 = .ok (.istore_n 3, 1) := by decide +kernel
theorem dX0_meeting_2 : decode cX0_meeting 2 = .ok (.iload_n 2, 1) := by decide +kernel
theorem dX0_meeting_3 : decode cX0_meeting 3 = .ok (.istore 4, 2) := by decide +kernel
theorem dX0_meeting_5 : decode cX0_meeting 5 = .ok (.iconst 0, 1) := by decide +kernel
theorem dX0_meeting_6 : decode cX0_meeting 6 = .ok (.istore 5, 2) := by decide +kernel
theorem dX0_meeting_8 : decode cX0_meeting 8 = .ok (.iload 5, 2) := by decide +kernel
theorem dX0_meeting_10 : decode cX0_meeting 10 = .ok (.aload_n 0, 1) := by decide +kernel
theorem dX0_meeting_11 : decode cX0_meeting 11 = .ok (.getfield 53, 3) := by decide +kernel
theorem dX0_meeting_14 : decode cX0_meeting 14 = .ok (.if_icmp .gt 32, 3) := by decide +kernel
theorem dX0_meeting_17 : decode cX0_meeting 17 = .ok (.iload_n 3, 1) := by decide +kernel
theorem dX0_meeting_18 : decode cX0_meeting 18 = .ok (.iload 4, 2) := by decide +kernel
theorem dX0_meeting_20 : decode cX0_meeting 20 = .ok (.if_icmp .ne 6, 3) := by decide +kernel
theorem dX0_meeting_23 : decode cX0_meeting 23 = .ok (.iload 5, 2) := by decide +kernel
theorem dX0_meeting_25 : decode cX0_meeting 25 = .ok (.ireturn, 1) := by decide +kernel
theorem dX0_meeting_26 : decode cX0_meeting 26 = .ok (.aload_n 0, 1) := by decide +kernel
theorem dX0_meeting_27 : decode cX0_meeting 27 = .ok (.iload_n 3, 1) := by decide +kernel
theorem dX0_meeting_28 : decode cX0_meeting 28 = .ok (.invokevirtual 115, 3) := by decide +kernel
theorem dX0_meeting_31 : decode cX0_meeting 31 = .ok (.istore_n 3, 1) := by decide +kernel
theorem dX0_meeting_32 : decode cX0_meeting 32 = .ok (.aload_n 0, 1) := by decide +kernel
theorem dX0_meeting_33 : decode cX0_meeting 33 = .ok (.iload 4, 2) := by decide +kernel
theorem dX0_meeting_35 : decode cX0_meeting 35 = .ok (.invokevirtual 115, 3) := by decide +kernel
theorem dX0_meeting_38 : decode cX0_meeting 38 = .ok (.istore 4, 2) := by decide +kernel
theorem dX0_meeting_40 : decode cX0_meeting 40 = .ok (.iinc 5 1, 3) := by decide +kernel
theorem dX0_meeting_43 : decode cX0_meeting 43 = .ok (.goto (-35), 3) := by decide +kernel
theorem dX0_meeting_46 : decode cX0_meeting 46 = .ok (.bipush (-9), 2) := by decide +kernel
theorem dX0_meeting_48 : decode cX0_meeting 48 = .ok (.ireturn, 1) := by decide +kernel
theorem dX0_leastSetToGoOut_0 : decode cX0_leastSetToGoOut 0 = .ok (.iconst 1, 1) := by decide +kernel
theorem dX0_leastSetToGoOut_1 : decode cX0_leastSetToGoOut 1 = .ok (.aload_n 0, 1) := by decide +kernel
theorem dX0_leastSetToGoOut_2 : decode cX0_leastSetToGoOut 2 = .ok (.getfield 12, 3) := by decide +kernel
theorem dX0_leastSetToGoOut_5 : decode cX0_leastSetToGoOut 5 = .ok (.getfield 67, 3) := by decide +kernel
theorem dX0_leastSetToGoOut_8 : decode cX0_leastSetToGoOut 8 = .ok (.ishl, 1) := by decide +kernel
theorem dX0_leastSetToGoOut_9 : decode cX0_leastSetToGoOut 9 = .ok (.iconst 1, 1) := by decide +kernel
theorem dX0_leastSetToGoOut_10 : decode cX0_leastSetToGoOut 10 = .ok (.isub, 1) := by decide +kernel
theorem dX0_leastSetToGoOut_11 : decode cX0_leastSetToGoOut 11 = .ok (.istore_n 2, 1) := by decide +kernel
theorem dX0_leastSetToGoOut_12 : decode cX0_leastSetToGoOut 12 = .ok (.iconst 0, 1) := by decide +kernel
theorem dX0_leastSetToGoOut_13 : decode cX0_leastSetToGoOut 13 = .ok (.istore_n 3, 1) := by decide +kernel
theorem dX0_leastSetToGoOut_14 : decode cX0_leastSetToGoOut 14 = .ok (.iload_n 3, 1) := by decide +kernel
theorem dX0_leastSetToGoOut_15 : decode cX0_leastSetToGoOut 15 = .ok (.aload_n 0, 1) := by decide +kernel
theorem dX0_leastSetToGoOut_16 : decode cX0_leastSetToGoOut 16 = .ok (.getfield 38, 3) := by decide +kernel
theorem dX0_leastSetToGoOut_19 : decode cX0_leastSetToGoOut 19 = .ok (.if_icmp .ge 56, 3) := by decide +kernel
theorem dX0_leastSetToGoOut_22 : decode cX0_leastSetToGoOut 22 = .ok (.aload_n 0, 1) := by decide +kernel
theorem dX0_leastSetToGoOut_23 : decode cX0_leastSetToGoOut 23 = .ok (.iload_n 3, 1) := by decide +kernel
theorem dX0_leastSetToGoOut_24 : decode cX0_leastSetToGoOut 24 = .ok (.invokevirtual 122, 3) := by decide +kernel
theorem dX0_leastSetToGoOut_27 : decode cX0_leastSetToGoOut 27 = .ok (.ifCond .eq 42, 3) := by decide +kernel
theorem dX0_leastSetToGoOut_30 : decode cX0_leastSetToGoOut 30 = .ok (.aload_n 0, 1) := by decide +kernel
theorem dX0_leastSetToGoOut_31 : decode cX0_leastSetToGoOut 31 = .ok (.iload_n 1, 1) := by decide +kernel
theorem dX0_leastSetToGoOut_32 : decode cX0_leastSetToGoOut 32 = .ok (.iload_n 3, 1) := by decide +kernel
theorem dX0_leastSetToGoOut_33 : decode cX0_leastSetToGoOut 33 = .ok (.invokevirtual 131, 3) := by decide +kernel
theorem dX0_leastSetToGoOut_36 : decode cX0_leastSetToGoOut 36 = .ok (.istore 4, 2) := by decide +kernel
theorem dX0_leastSetToGoOut_38 : decode cX0_leastSetToGoOut 38 = .ok (.iload 4, 2) := by decide +kernel
theorem dX0_leastSetToGoOut_40 : decode cX0_leastSetToGoOut 40 = .ok (.invokestatic 135, 3) := by decide +kernel
theorem dX0_leastSetToGoOut_43 : decode cX0_leastSetToGoOut 43 = .ok (.iload_n 2, 1) := by decide +kernel
theorem dX0_leastSetToGoOut_44 : decode cX0_leastSetToGoOut 44 = .ok (.invokestatic 135, 3) := by decide +kernel
theorem dX0_leastSetToGoOut_47 : decode cX0_leastSetToGoOut 47 = .ok (.isub, 1) := by decide +kernel
theorem dX0_leastSetToGoOut_48 : decode cX0_leastSetToGoOut 48 = .ok (.istore 5, 2) := by decide +kernel
theorem dX0_leastSetToGoOut_50 : decode cX0_leastSetToGoOut 50 = .ok (.iload 5, 2) := by decide +kernel
theorem dX0_leastSetToGoOut_52 : decode cX0_leastSetToGoOut 52 = .ok (.ifCond .lt 14, 3) := by decide +kernel
theorem dX0_leastSetToGoOut_55 : decode cX0_leastSetToGoOut 55 = .ok (.iload 5, 2) := by decide +kernel
theorem dX0_leastSetToGoOut_57 : decode cX0_leastSetToGoOut 57 = .ok (.ifCond .ne 12, 3) := by decide +kernel
theorem dX0_leastSetToGoOut_60 : decode cX0_leastSetToGoOut 60 = .ok (.iload 4, 2) := by decide +kernel
theorem dX0_leastSetToGoOut_62 : decode cX0_leastSetToGoOut 62 = .ok (.iload_n 2, 1) := by decide +kernel
theorem dX0_leastSetToGoOut_63 : decode cX0_leastSetToGoOut 63 = .ok (.if_icmp .ge 6, 3) := by decide +kernel
theorem dX0_leastSetToGoOut_66 : decode cX0_leastSetToGoOut 66 = .ok (.iload 4, 2) := by decide +kernel
theorem dX0_leastSetToGoOut_68 : decode cX0_leastSetToGoOut 68 = .ok (.istore_n 2, 1) := by decide +kernel
theorem dX0_leastSetToGoOut_69 : decode cX0_leastSetToGoOut 69 = .ok (.iinc 3 1, 3) := by decide +kernel
theorem dX0_leastSetToGoOut_72 : decode cX0_leastSetToGoOut 72 = .ok (.goto (-58), 3) := by decide +kernel
theorem dX0_leastSetToGoOut_75 : decode cX0_leastSetToGoOut 75 = .ok (.iload_n 2, 1) := by decide +kernel
theorem dX0_leastSetToGoOut_76 : decode cX0_leastSetToGoOut 76 = .ok (.ireturn, 1) := by decide +kernel
theorem dX0_unlikePlaces_0 : decode cX0_unlikePlaces 0 = .ok (.aload_n 0, 1) := by decide +kernel
theorem dX0_unlikePlaces_1 : decode cX0_unlikePlaces 1 = .ok (.getfield 12, 3) := by decide +kernel
theorem dX0_unlikePlaces_4 : decode cX0_unlikePlaces 4 = .ok (.getfield 70, 3) := by decide +kernel
theorem dX0_unlikePlaces_7 : decode cX0_unlikePlaces 7 = .ok (.iconst 2, 1) := by decide +kernel
theorem dX0_unlikePlaces_8 : decode cX0_unlikePlaces 8 = .ok (.if_icmp .ge 5, 3) := by decide +kernel
theorem dX0_unlikePlaces_11 : decode cX0_unlikePlaces 11 = .ok (.iconst 0, 1) := by decide +kernel
theorem dX0_unlikePlaces_12 : decode cX0_unlikePlaces 12 = .ok (.ireturn, 1) := by decide +kernel
theorem dX0_unlikePlaces_13 : decode cX0_unlikePlaces 13 = .ok (.iload_n 1, 1) := by decide +kernel
theorem dX0_unlikePlaces_14 : decode cX0_unlikePlaces 14 = .ok (.istore_n 3, 1) := by decide +kernel
theorem dX0_unlikePlaces_15 : decode cX0_unlikePlaces 15 = .ok (.iload_n 2, 1) := by decide +kernel
theorem dX0_unlikePlaces_16 : decode cX0_unlikePlaces 16 = .ok (.istore 4, 2) := by decide +kernel
theorem dX0_unlikePlaces_18 : decode cX0_unlikePlaces 18 = .ok (.iconst 0, 1) := by decide +kernel
theorem dX0_unlikePlaces_19 : decode cX0_unlikePlaces 19 = .ok (.istore 5, 2) := by decide +kernel
theorem dX0_unlikePlaces_21 : decode cX0_unlikePlaces 21 = .ok (.aload_n 0, 1) := by decide +kernel
theorem dX0_unlikePlaces_22 : decode cX0_unlikePlaces 22 = .ok (.getfield 12, 3) := by decide +kernel
theorem dX0_unlikePlaces_25 : decode cX0_unlikePlaces 25 = .ok (.getfield 67, 3) := by decide +kernel
theorem dX0_unlikePlaces_28 : decode cX0_unlikePlaces 28 = .ok (.iconst 1, 1) := by decide +kernel
theorem dX0_unlikePlaces_29 : decode cX0_unlikePlaces 29 = .ok (.isub, 1) := by decide +kernel
theorem dX0_unlikePlaces_30 : decode cX0_unlikePlaces 30 = .ok (.istore 6, 2) := by decide +kernel
theorem dX0_unlikePlaces_32 : decode cX0_unlikePlaces 32 = .ok (.iload 6, 2) := by decide +kernel
theorem dX0_unlikePlaces_34 : decode cX0_unlikePlaces 34 = .ok (.ifCond .lt 62, 3) := by decide +kernel
theorem dX0_unlikePlaces_37 : decode cX0_unlikePlaces 37 = .ok (.iload_n 3, 1) := by decide +kernel
theorem dX0_unlikePlaces_38 : decode cX0_unlikePlaces 38 = .ok (.aload_n 0, 1) := by decide +kernel
theorem dX0_unlikePlaces_39 : decode cX0_unlikePlaces 39 = .ok (.getfield 12, 3) := by decide +kernel
theorem dX0_unlikePlaces_42 : decode cX0_unlikePlaces 42 = .ok (.getfield 70, 3) := by decide +kernel
theorem dX0_unlikePlaces_45 : decode cX0_unlikePlaces 45 = .ok (.irem, 1) := by decide +kernel
theorem dX0_unlikePlaces_46 : decode cX0_unlikePlaces 46 = .ok (.iload 4, 2) := by decide +kernel
theorem dX0_unlikePlaces_48 : decode cX0_unlikePlaces 48 = .ok (.aload_n 0, 1) := by decide +kernel
theorem dX0_unlikePlaces_49 : decode cX0_unlikePlaces 49 = .ok (.getfield 12, 3) := by decide +kernel
theorem dX0_unlikePlaces_52 : decode cX0_unlikePlaces 52 = .ok (.getfield 70, 3) := by decide +kernel
theorem dX0_unlikePlaces_55 : decode cX0_unlikePlaces 55 = .ok (.irem, 1) := by decide +kernel
theorem dX0_unlikePlaces_56 : decode cX0_unlikePlaces 56 = .ok (.if_icmp .eq 12, 3) := by decide +kernel
theorem dX0_unlikePlaces_59 : decode cX0_unlikePlaces 59 = .ok (.iload 5, 2) := by decide +kernel
theorem dX0_unlikePlaces_61 : decode cX0_unlikePlaces 61 = .ok (.iconst 1, 1) := by decide +kernel
theorem dX0_unlikePlaces_62 : decode cX0_unlikePlaces 62 = .ok (.iload 6, 2) := by decide +kernel
theorem dX0_unlikePlaces_64 : decode cX0_unlikePlaces 64 = .ok (.ishl, 1) := by decide +kernel
theorem dX0_unlikePlaces_65 : decode cX0_unlikePlaces 65 = .ok (.ior, 1) := by decide +kernel
theorem dX0_unlikePlaces_66 : decode cX0_unlikePlaces 66 = .ok (.istore 5, 2) := by decide +kernel
theorem dX0_unlikePlaces_68 : decode cX0_unlikePlaces 68 = .ok (.iload_n 3, 1) := by decide +kernel
theorem dX0_unlikePlaces_69 : decode cX0_unlikePlaces 69 = .ok (.aload_n 0, 1) := by decide +kernel
theorem dX0_unlikePlaces_70 : decode cX0_unlikePlaces 70 = .ok (.getfield 12, 3) := by decide +kernel
theorem dX0_unlikePlaces_73 : decode cX0_unlikePlaces 73 = .ok (.getfield 70, 3) := by decide +kernel
theorem dX0_unlikePlaces_76 : decode cX0_unlikePlaces 76 = .ok (.idiv, 1) := by decide +kernel
theorem dX0_unlikePlaces_77 : decode cX0_unlikePlaces 77 = .ok (.istore_n 3, 1) := by decide +kernel
theorem dX0_unlikePlaces_78 : decode cX0_unlikePlaces 78 = .ok (.iload 4, 2) := by decide +kernel
theorem dX0_unlikePlaces_80 : decode cX0_unlikePlaces 80 = .ok (.aload_n 0, 1) := by decide +kernel
theorem dX0_unlikePlaces_81 : decode cX0_unlikePlaces 81 = .ok (.getfield 12, 3) := by decide +kernel
theorem dX0_unlikePlaces_84 : decode cX0_unlikePlaces 84 = .ok (.getfield 70, 3) := by decide +kernel
theorem dX0_unlikePlaces_87 : decode cX0_unlikePlaces 87 = .ok (.idiv, 1) := by decide +kernel
theorem dX0_unlikePlaces_88 : decode cX0_unlikePlaces 88 = .ok (.istore 4, 2) := by decide +kernel
theorem dX0_unlikePlaces_90 : decode cX0_unlikePlaces 90 = .ok (.iinc 6 (-1), 3) := by decide +kernel
theorem dX0_unlikePlaces_93 : decode cX0_unlikePlaces 93 = .ok (.goto (-61), 3) := by decide +kernel
theorem dX0_unlikePlaces_96 : decode cX0_unlikePlaces 96 = .ok (.iload 5, 2) := by decide +kernel
theorem dX0_unlikePlaces_98 : decode cX0_unlikePlaces 98 = .ok (.ireturn, 1) := by decide +kernel
theorem dX0_numberIn_0 : decode cX0_numberIn 0 = .ok (.aload_n 0, 1) := by decide +kernel
theorem dX0_numberIn_1 : decode cX0_numberIn 1 = .ok (.getfield 12, 3) := by decide +kernel
theorem dX0_numberIn_4 : decode cX0_numberIn 4 = .ok (.getfield 70, 3) := by decide +kernel
theorem dX0_numberIn_7 : decode cX0_numberIn 7 = .ok (.iconst 2, 1) := by decide +kernel
theorem dX0_numberIn_8 : decode cX0_numberIn 8 = .ok (.if_icmp .ge 5, 3) := by decide +kernel
theorem dX0_numberIn_11 : decode cX0_numberIn 11 = .ok (.iconst 0, 1) := by decide +kernel
theorem dX0_numberIn_12 : decode cX0_numberIn 12 = .ok (.ireturn, 1) := by decide +kernel
theorem dX0_numberIn_13 : decode cX0_numberIn 13 = .ok (.iload_n 1, 1) := by decide +kernel
theorem dX0_numberIn_14 : decode cX0_numberIn 14 = .ok (.istore_n 3, 1) := by decide +kernel
theorem dX0_numberIn_15 : decode cX0_numberIn 15 = .ok (.aload_n 0, 1) := by decide +kernel
theorem dX0_numberIn_16 : decode cX0_numberIn 16 = .ok (.getfield 12, 3) := by decide +kernel
theorem dX0_numberIn_19 : decode cX0_numberIn 19 = .ok (.getfield 67, 3) := by decide +kernel
theorem dX0_numberIn_22 : decode cX0_numberIn 22 = .ok (.iconst 1, 1) := by decide +kernel
theorem dX0_numberIn_23 : decode cX0_numberIn 23 = .ok (.isub, 1) := by decide +kernel
theorem dX0_numberIn_24 : decode cX0_numberIn 24 = .ok (.istore 4, 2) := by decide +kernel
theorem dX0_numberIn_26 : decode cX0_numberIn 26 = .ok (.iload 4, 2) := by decide +kernel
theorem dX0_numberIn_28 : decode cX0_numberIn 28 = .ok (.iload_n 2, 1) := by decide +kernel
theorem dX0_numberIn_29 : decode cX0_numberIn 29 = .ok (.if_icmp .le 19, 3) := by decide +kernel
theorem dX0_numberIn_32 : decode cX0_numberIn 32 = .ok (.iload_n 3, 1) := by decide +kernel
theorem dX0_numberIn_33 : decode cX0_numberIn 33 = .ok (.aload_n 0, 1) := by decide +kernel
theorem dX0_numberIn_34 : decode cX0_numberIn 34 = .ok (.getfield 12, 3) := by decide +kernel
theorem dX0_numberIn_37 : decode cX0_numberIn 37 = .ok (.getfield 70, 3) := by decide +kernel
theorem dX0_numberIn_40 : decode cX0_numberIn 40 = .ok (.idiv, 1) := by decide +kernel
theorem dX0_numberIn_41 : decode cX0_numberIn 41 = .ok (.istore_n 3, 1) := by decide +kernel
theorem dX0_numberIn_42 : decode cX0_numberIn 42 = .ok (.iinc 4 (-1), 3) := by decide +kernel
theorem dX0_numberIn_45 : decode cX0_numberIn 45 = .ok (.goto (-19), 3) := by decide +kernel
theorem dX0_numberIn_48 : decode cX0_numberIn 48 = .ok (.iload_n 3, 1) := by decide +kernel
theorem dX0_numberIn_49 : decode cX0_numberIn 49 = .ok (.aload_n 0, 1) := by decide +kernel
theorem dX0_numberIn_50 : decode cX0_numberIn 50 = .ok (.getfield 12, 3) := by decide +kernel
theorem dX0_numberIn_53 : decode cX0_numberIn 53 = .ok (.getfield 70, 3) := by decide +kernel
theorem dX0_numberIn_56 : decode cX0_numberIn 56 = .ok (.irem, 1) := by decide +kernel
theorem dX0_numberIn_57 : decode cX0_numberIn 57 = .ok (.ireturn, 1) := by decide +kernel
theorem dX1_init_0 : decode cX1_init 0 = .ok (.aload_n 0, 1) := by decide +kernel
theorem dX1_init_1 : decode cX1_init 1 = .ok (.invokespecial 3, 3) := by decide +kernel
theorem dX1_init_4 : decode cX1_init 4 = .ok (.aload_n 0, 1) := by decide +kernel
theorem dX1_init_5 : decode cX1_init 5 = .ok (.bipush (-9), 2) := by decide +kernel
theorem dX1_init_7 : decode cX1_init 7 = .ok (.putfield 9, 3) := by decide +kernel
theorem dX1_init_10 : decode cX1_init 10 = .ok (.aload_n 0, 1) := by decide +kernel
theorem dX1_init_11 : decode cX1_init 11 = .ok (.iconst 0, 1) := by decide +kernel
theorem dX1_init_12 : decode cX1_init 12 = .ok (.putfield 15, 3) := by decide +kernel
theorem dX1_init_15 : decode cX1_init 15 = .ok (.aload_n 0, 1) := by decide +kernel
theorem dX1_init_16 : decode cX1_init 16 = .ok (.iconst 0, 1) := by decide +kernel
theorem dX1_init_17 : decode cX1_init 17 = .ok (.putfield 18, 3) := by decide +kernel
theorem dX1_init_20 : decode cX1_init 20 = .ok (.return_, 1) := by decide +kernel
theorem dX1_areActs_0 : decode cX1_areActs 0 = .ok (.iconst 0, 1) := by decide +kernel
theorem dX1_areActs_1 : decode cX1_areActs 1 = .ok (.istore_n 3, 1) := by decide +kernel
theorem dX1_areActs_2 : decode cX1_areActs 2 = .ok (.iload_n 3, 1) := by decide +kernel
theorem dX1_areActs_3 : decode cX1_areActs 3 = .ok (.iload_n 2, 1) := by decide +kernel
theorem dX1_areActs_4 : decode cX1_areActs 4 = .ok (.if_icmp .ge 45, 3) := by decide +kernel
theorem dX1_areActs_7 : decode cX1_areActs 7 = .ok (.aload_n 0, 1) := by decide +kernel
theorem dX1_areActs_8 : decode cX1_areActs 8 = .ok (.iload_n 1, 1) := by decide +kernel
theorem dX1_areActs_9 : decode cX1_areActs 9 = .ok (.iconst 2, 1) := by decide +kernel
theorem dX1_areActs_10 : decode cX1_areActs 10 = .ok (.iload_n 3, 1) := by decide +kernel
theorem dX1_areActs_11 : decode cX1_areActs 11 = .ok (.imul, 1) := by decide +kernel
theorem dX1_areActs_12 : decode cX1_areActs 12 = .ok (.iadd, 1) := by decide +kernel
theorem dX1_areActs_13 : decode cX1_areActs 13 = .ok (.invokevirtual 21, 3) := by decide +kernel
theorem dX1_areActs_16 : decode cX1_areActs 16 = .ok (.istore 4, 2) := by decide +kernel
theorem dX1_areActs_18 : decode cX1_areActs 18 = .ok (.aload_n 0, 1) := by decide +kernel
theorem dX1_areActs_19 : decode cX1_areActs 19 = .ok (.iload_n 1, 1) := by decide +kernel
theorem dX1_areActs_20 : decode cX1_areActs 20 = .ok (.iconst 2, 1) := by decide +kernel
theorem dX1_areActs_21 : decode cX1_areActs 21 = .ok (.iload_n 3, 1) := by decide +kernel
theorem dX1_areActs_22 : decode cX1_areActs 22 = .ok (.imul, 1) := by decide +kernel
theorem dX1_areActs_23 : decode cX1_areActs 23 = .ok (.iadd, 1) := by decide +kernel
theorem dX1_areActs_24 : decode cX1_areActs 24 = .ok (.iconst 1, 1) := by decide +kernel
theorem dX1_areActs_25 : decode cX1_areActs 25 = .ok (.iadd, 1) := by decide +kernel
theorem dX1_areActs_26 : decode cX1_areActs 26 = .ok (.invokevirtual 21, 3) := by decide +kernel
theorem dX1_areActs_29 : decode cX1_areActs 29 = .ok (.istore 5, 2) := by decide +kernel
theorem dX1_areActs_31 : decode cX1_areActs 31 = .ok (.iload 4, 2) := by decide +kernel
theorem dX1_areActs_33 : decode cX1_areActs 33 = .ok (.iload 5, 2) := by decide +kernel
theorem dX1_areActs_35 : decode cX1_areActs 35 = .ok (.invokestatic 27, 3) := by decide +kernel
theorem dX1_areActs_38 : decode cX1_areActs 38 = .ok (.ifCond .ne 5, 3) := by decide +kernel
theorem dX1_areActs_41 : decode cX1_areActs 41 = .ok (.iconst 0, 1) := by decide +kernel
theorem dX1_areActs_42 : decode cX1_areActs 42 = .ok (.ireturn, 1) := by decide +kernel
theorem dX1_areActs_43 : decode cX1_areActs 43 = .ok (.iinc 3 1, 3) := by decide +kernel
theorem dX1_areActs_46 : decode cX1_areActs 46 = .ok (.goto (-44), 3) := by decide +kernel
theorem dX1_areActs_49 : decode cX1_areActs 49 = .ok (.iconst 1, 1) := by decide +kernel
theorem dX1_areActs_50 : decode cX1_areActs 50 = .ok (.ireturn, 1) := by decide +kernel
theorem dX1_isAct_0 : decode cX1_isAct 0 = .ok (.iload_n 1, 1) := by decide +kernel
theorem dX1_isAct_1 : decode cX1_isAct 1 = .ok (.bipush 9, 2) := by decide +kernel
theorem dX1_isAct_3 : decode cX1_isAct 3 = .ok (.if_icmp .ne 19, 3) := by decide +kernel
theorem dX1_isAct_6 : decode cX1_isAct 6 = .ok (.iload_n 0, 1) := by decide +kernel
theorem dX1_isAct_7 : decode cX1_isAct 7 = .ok (.ifCond .lt 13, 3) := by decide +kernel
theorem dX1_isAct_10 : decode cX1_isAct 10 = .ok (.iload_n 0, 1) := by decide +kernel
theorem dX1_isAct_11 : decode cX1_isAct 11 = .ok (.bipush 99, 2) := by decide +kernel
theorem dX1_isAct_13 : decode cX1_isAct 13 = .ok (.if_icmp .gt 7, 3) := by decide +kernel
theorem dX1_isAct_16 : decode cX1_isAct 16 = .ok (.iconst 1, 1) := by decide +kernel
theorem dX1_isAct_17 : decode cX1_isAct 17 = .ok (.goto 4, 3) := by decide +kernel
theorem dX1_isAct_20 : decode cX1_isAct 20 = .ok (.iconst 0, 1) := by decide +kernel
theorem dX1_isAct_21 : decode cX1_isAct 21 = .ok (.ireturn, 1) := by decide +kernel
theorem dX1_isAct_22 : decode cX1_isAct 22 = .ok (.iload_n 1, 1) := by decide +kernel
theorem dX1_isAct_23 : decode cX1_isAct 23 = .ok (.ifCond .lt 22, 3) := by decide +kernel
theorem dX1_isAct_26 : decode cX1_isAct 26 = .ok (.iload_n 1, 1) := by decide +kernel
theorem dX1_isAct_27 : decode cX1_isAct 27 = .ok (.iconst 5, 1) := by decide +kernel
theorem dX1_isAct_28 : decode cX1_isAct 28 = .ok (.if_icmp .ge 17, 3) := by decide +kernel
theorem dX1_isAct_31 : decode cX1_isAct 31 = .ok (.iload_n 0, 1) := by decide +kernel
theorem dX1_isAct_32 : decode cX1_isAct 32 = .ok (.ifCond .lt 13, 3) := by decide +kernel
theorem dX1_isAct_35 : decode cX1_isAct 35 = .ok (.iload_n 0, 1) := by decide +kernel
theorem dX1_isAct_36 : decode cX1_isAct 36 = .ok (.bipush 6, 2) := by decide +kernel
theorem dX1_isAct_38 : decode cX1_isAct 38 = .ok (.if_icmp .ge 7, 3) := by decide +kernel
theorem dX1_isAct_41 : decode cX1_isAct 41 = .ok (.iconst 1, 1) := by decide +kernel
theorem dX1_isAct_42 : decode cX1_isAct 42 = .ok (.goto 4, 3) := by decide +kernel
theorem dX1_isAct_45 : decode cX1_isAct 45 = .ok (.iconst 0, 1) := by decide +kernel
theorem dX1_isAct_46 : decode cX1_isAct 46 = .ok (.ireturn, 1) := by decide +kernel
theorem dX1_play_0 : decode cX1_play 0 = .ok (.aload_n 0, 1) := by decide +kernel
theorem dX1_play_1 : decode cX1_play 1 = .ok (.bipush (-9), 2) := by decide +kernel
theorem dX1_play_3 : decode cX1_play 3 = .ok (.putfield 9, 3) := by decide +kernel
theorem dX1_play_6 : decode cX1_play 6 = .ok (.aload_n 0, 1) := by decide +kernel
theorem dX1_play_7 : decode cX1_play 7 = .ok (.iconst 0, 1) := by decide +kernel
theorem dX1_play_8 : decode cX1_play 8 = .ok (.putfield 15, 3) := by decide +kernel
theorem dX1_play_11 : decode cX1_play 11 = .ok (.aload_n 0, 1) := by decide +kernel
theorem dX1_play_12 : decode cX1_play 12 = .ok (.iconst 0, 1) := by decide +kernel
theorem dX1_play_13 : decode cX1_play 13 = .ok (.putfield 18, 3) := by decide +kernel
theorem dX1_play_16 : decode cX1_play 16 = .ok (.iconst 0, 1) := by decide +kernel
theorem dX1_play_17 : decode cX1_play 17 = .ok (.istore 5, 2) := by decide +kernel
theorem dX1_play_19 : decode cX1_play 19 = .ok (.iload 5, 2) := by decide +kernel
theorem dX1_play_21 : decode cX1_play 21 = .ok (.iload 4, 2) := by decide +kernel
theorem dX1_play_23 : decode cX1_play 23 = .ok (.if_icmp .ge 74, 3) := by decide +kernel
theorem dX1_play_26 : decode cX1_play 26 = .ok (.aload_n 0, 1) := by decide +kernel
theorem dX1_play_27 : decode cX1_play 27 = .ok (.getfield 9, 3) := by decide +kernel
theorem dX1_play_30 : decode cX1_play 30 = .ok (.bipush (-9), 2) := by decide +kernel
theorem dX1_play_32 : decode cX1_play 32 = .ok (.if_icmp .ne 65, 3) := by decide +kernel
theorem dX1_play_35 : decode cX1_play 35 = .ok (.aload_n 0, 1) := by decide +kernel
theorem dX1_play_36 : decode cX1_play 36 = .ok (.aload_n 1, 1) := by decide +kernel
theorem dX1_play_37 : decode cX1_play 37 = .ok (.aload_n 2, 1) := by decide +kernel
theorem dX1_play_38 : decode cX1_play 38 = .ok (.iload_n 3, 1) := by decide +kernel
theorem dX1_play_39 : decode cX1_play 39 = .ok (.iconst 2, 1) := by decide +kernel
theorem dX1_play_40 : decode cX1_play 40 = .ok (.iload 5, 2) := by decide +kernel
theorem dX1_play_42 : decode cX1_play 42 = .ok (.imul, 1) := by decide +kernel
theorem dX1_play_43 : decode cX1_play 43 = .ok (.iadd, 1) := by decide +kernel
theorem dX1_play_44 : decode cX1_play 44 = .ok (.invokevirtual 21, 3) := by decide +kernel
theorem dX1_play_47 : decode cX1_play 47 = .ok (.aload_n 2, 1) := by decide +kernel
theorem dX1_play_48 : decode cX1_play 48 = .ok (.iload_n 3, 1) := by decide +kernel
theorem dX1_play_49 : decode cX1_play 49 = .ok (.iconst 2, 1) := by decide +kernel
theorem dX1_play_50 : decode cX1_play 50 = .ok (.iload 5, 2) := by decide +kernel
theorem dX1_play_52 : decode cX1_play 52 = .ok (.imul, 1) := by decide +kernel
theorem dX1_play_53 : decode cX1_play 53 = .ok (.iadd, 1) := by decide +kernel
theorem dX1_play_54 : decode cX1_play 54 = .ok (.iconst 1, 1) := by decide +kernel
theorem dX1_play_55 : decode cX1_play 55 = .ok (.iadd, 1) := by decide +kernel
theorem dX1_play_56 : decode cX1_play 56 = .ok (.invokevirtual 21, 3) := by decide +kernel
theorem dX1_play_59 : decode cX1_play 59 = .ok (.invokevirtual 31, 3) := by decide +kernel
theorem dX1_play_62 : decode cX1_play 62 = .ok (.ifCond .ne 12, 3) := by decide +kernel
theorem dX1_play_65 : decode cX1_play 65 = .ok (.aload_n 0, 1) := by decide +kernel
theorem dX1_play_66 : decode cX1_play 66 = .ok (.iload 5, 2) := by decide +kernel
theorem dX1_play_68 : decode cX1_play 68 = .ok (.putfield 9, 3) := by decide +kernel
theorem dX1_play_71 : decode cX1_play 71 = .ok (.goto 20, 3) := by decide +kernel
theorem dX1_play_74 : decode cX1_play 74 = .ok (.aload_n 1, 1) := by decide +kernel
theorem dX1_play_75 : decode cX1_play 75 = .ok (.invokevirtual 35, 3) := by decide +kernel
theorem dX1_play_78 : decode cX1_play 78 = .ok (.ifCond .eq 13, 3) := by decide +kernel
theorem dX1_play_81 : decode cX1_play 81 = .ok (.aload_n 0, 1) := by decide +kernel
theorem dX1_play_82 : decode cX1_play 82 = .ok (.dup, 1) := by decide +kernel
theorem dX1_play_83 : decode cX1_play 83 = .ok (.getfield 18, 3) := by decide +kernel
theorem dX1_play_86 : decode cX1_play 86 = .ok (.iconst 1, 1) := by decide +kernel
theorem dX1_play_87 : decode cX1_play 87 = .ok (.iadd, 1) := by decide +kernel
theorem dX1_play_88 : decode cX1_play 88 = .ok (.putfield 18, 3) := by decide +kernel
theorem dX1_play_91 : decode cX1_play 91 = .ok (.iinc 5 1, 3) := by decide +kernel
theorem dX1_play_94 : decode cX1_play 94 = .ok (.goto (-75), 3) := by decide +kernel
theorem dX1_play_97 : decode cX1_play 97 = .ok (.return_, 1) := by decide +kernel
theorem dX1_canDo_0 : decode cX1_canDo 0 = .ok (.iload_n 3, 1) := by decide +kernel
theorem dX1_canDo_1 : decode cX1_canDo 1 = .ok (.bipush 9, 2) := by decide +kernel
theorem dX1_canDo_3 : decode cX1_canDo 3 = .ok (.if_icmp .ne 20, 3) := by decide +kernel
theorem dX1_canDo_6 : decode cX1_canDo 6 = .ok (.aload_n 1, 1) := by decide +kernel
theorem dX1_canDo_7 : decode cX1_canDo 7 = .ok (.iload_n 2, 1) := by decide +kernel
theorem dX1_canDo_8 : decode cX1_canDo 8 = .ok (.invokevirtual 41, 3) := by decide +kernel
theorem dX1_canDo_11 : decode cX1_canDo 11 = .ok (.aload_n 0, 1) := by decide +kernel
theorem dX1_canDo_12 : decode cX1_canDo 12 = .ok (.dup, 1) := by decide +kernel
theorem dX1_canDo_13 : decode cX1_canDo 13 = .ok (.getfield 15, 3) := by decide +kernel
theorem dX1_canDo_16 : decode cX1_canDo 16 = .ok (.iload_n 2, 1) := by decide +kernel
theorem dX1_canDo_17 : decode cX1_canDo 17 = .ok (.iadd, 1) := by decide +kernel
theorem dX1_canDo_18 : decode cX1_canDo 18 = .ok (.putfield 15, 3) := by decide +kernel
theorem dX1_canDo_21 : decode cX1_canDo 21 = .ok (.iconst 1, 1) := by decide +kernel
theorem dX1_canDo_22 : decode cX1_canDo 22 = .ok (.ireturn, 1) := by decide +kernel
theorem dX1_canDo_23 : decode cX1_canDo 23 = .ok (.aload_n 1, 1) := by decide +kernel
theorem dX1_canDo_24 : decode cX1_canDo 24 = .ok (.iload_n 3, 1) := by decide +kernel
theorem dX1_canDo_25 : decode cX1_canDo 25 = .ok (.invokevirtual 45, 3) := by decide +kernel
theorem dX1_canDo_28 : decode cX1_canDo 28 = .ok (.ifCond .eq 11, 3) := by decide +kernel
theorem dX1_canDo_31 : decode cX1_canDo 31 = .ok (.aload_n 1, 1) := by decide +kernel
theorem dX1_canDo_32 : decode cX1_canDo 32 = .ok (.iload_n 2, 1) := by decide +kernel
theorem dX1_canDo_33 : decode cX1_canDo 33 = .ok (.invokevirtual 49, 3) := by decide +kernel
theorem dX1_canDo_36 : decode cX1_canDo 36 = .ok (.ifCond .ne 5, 3) := by decide +kernel
theorem dX1_canDo_39 : decode cX1_canDo 39 = .ok (.iconst 0, 1) := by decide +kernel
theorem dX1_canDo_40 : decode cX1_canDo 40 = .ok (.ireturn, 1) := by decide +kernel
theorem dX1_canDo_41 : decode cX1_canDo 41 = .ok (.aload_n 1, 1) := by decide +kernel
theorem dX1_canDo_42 : decode cX1_canDo 42 = .ok (.getfield 52, 3) := by decide +kernel
theorem dX1_canDo_45 : decode cX1_canDo 45 = .ok (.iload_n 3, 1) := by decide +kernel
theorem dX1_canDo_46 : decode cX1_canDo 46 = .ok (.iload_n 2, 1) := by decide +kernel
theorem dX1_canDo_47 : decode cX1_canDo 47 = .ok (.iastore, 1) := by decide +kernel
theorem dX1_canDo_48 : decode cX1_canDo 48 = .ok (.iconst 1, 1) := by decide +kernel
theorem dX1_canDo_49 : decode cX1_canDo 49 = .ok (.ireturn, 1) := by decide +kernel
theorem dX2_init_0 : decode cX2_init 0 = .ok (.aload_n 0, 1) := by decide +kernel
theorem dX2_init_1 : decode cX2_init 1 = .ok (.invokespecial 3, 3) := by decide +kernel
theorem dX2_init_4 : decode cX2_init 4 = .ok (.aload_n 0, 1) := by decide +kernel
theorem dX2_init_5 : decode cX2_init 5 = .ok (.bipush 8, 2) := by decide +kernel
theorem dX2_init_7 : decode cX2_init 7 = .ok (.newarray .int, 2) := by decide +kernel
theorem dX2_init_9 : decode cX2_init 9 = .ok (.putfield 9, 3) := by decide +kernel
theorem dX2_init_12 : decode cX2_init 12 = .ok (.aload_n 0, 1) := by decide +kernel
theorem dX2_init_13 : decode cX2_init 13 = .ok (.bipush 8, 2) := by decide +kernel
theorem dX2_init_15 : decode cX2_init 15 = .ok (.newarray .int, 2) := by decide +kernel
theorem dX2_init_17 : decode cX2_init 17 = .ok (.putfield 15, 3) := by decide +kernel
theorem dX2_init_20 : decode cX2_init 20 = .ok (.aload_n 0, 1) := by decide +kernel
theorem dX2_init_21 : decode cX2_init 21 = .ok (.bipush 8, 2) := by decide +kernel
theorem dX2_init_23 : decode cX2_init 23 = .ok (.newarray .int, 2) := by decide +kernel
theorem dX2_init_25 : decode cX2_init 25 = .ok (.putfield 18, 3) := by decide +kernel
theorem dX2_init_28 : decode cX2_init 28 = .ok (.aload_n 0, 1) := by decide +kernel
theorem dX2_init_29 : decode cX2_init 29 = .ok (.iconst 0, 1) := by decide +kernel
theorem dX2_init_30 : decode cX2_init 30 = .ok (.putfield 21, 3) := by decide +kernel
theorem dX2_init_33 : decode cX2_init 33 = .ok (.return_, 1) := by decide +kernel
theorem dX2_keep_0 : decode cX2_keep 0 = .ok (.aload_n 0, 1) := by decide +kernel
theorem dX2_keep_1 : decode cX2_keep 1 = .ok (.getfield 21, 3) := by decide +kernel
theorem dX2_keep_4 : decode cX2_keep 4 = .ok (.bipush 8, 2) := by decide +kernel
theorem dX2_keep_6 : decode cX2_keep 6 = .ok (.if_icmp .lt 6, 3) := by decide +kernel
theorem dX2_keep_9 : decode cX2_keep 9 = .ok (.bipush (-4), 2) := by decide +kernel
theorem dX2_keep_11 : decode cX2_keep 11 = .ok (.ireturn, 1) := by decide +kernel
theorem dX2_keep_12 : decode cX2_keep 12 = .ok (.aload_n 0, 1) := by decide +kernel
theorem dX2_keep_13 : decode cX2_keep 13 = .ok (.getfield 9, 3) := by decide +kernel
theorem dX2_keep_16 : decode cX2_keep 16 = .ok (.aload_n 0, 1) := by decide +kernel
theorem dX2_keep_17 : decode cX2_keep 17 = .ok (.getfield 21, 3) := by decide +kernel
theorem dX2_keep_20 : decode cX2_keep 20 = .ok (.iload_n 1, 1) := by decide +kernel
theorem dX2_keep_21 : decode cX2_keep 21 = .ok (.iastore, 1) := by decide +kernel
theorem dX2_keep_22 : decode cX2_keep 22 = .ok (.aload_n 0, 1) := by decide +kernel
theorem dX2_keep_23 : decode cX2_keep 23 = .ok (.getfield 15, 3) := by decide +kernel
theorem dX2_keep_26 : decode cX2_keep 26 = .ok (.aload_n 0, 1) := by decide +kernel
theorem dX2_keep_27 : decode cX2_keep 27 = .ok (.getfield 21, 3) := by decide +kernel
theorem dX2_keep_30 : decode cX2_keep 30 = .ok (.iload_n 2, 1) := by decide +kernel
theorem dX2_keep_31 : decode cX2_keep 31 = .ok (.iastore, 1) := by decide +kernel
theorem dX2_keep_32 : decode cX2_keep 32 = .ok (.aload_n 0, 1) := by decide +kernel
theorem dX2_keep_33 : decode cX2_keep 33 = .ok (.getfield 18, 3) := by decide +kernel
theorem dX2_keep_36 : decode cX2_keep 36 = .ok (.aload_n 0, 1) := by decide +kernel
theorem dX2_keep_37 : decode cX2_keep 37 = .ok (.getfield 21, 3) := by decide +kernel
theorem dX2_keep_40 : decode cX2_keep 40 = .ok (.iload_n 3, 1) := by decide +kernel
theorem dX2_keep_41 : decode cX2_keep 41 = .ok (.iastore, 1) := by decide +kernel
theorem dX2_keep_42 : decode cX2_keep 42 = .ok (.aload_n 0, 1) := by decide +kernel
theorem dX2_keep_43 : decode cX2_keep 43 = .ok (.dup, 1) := by decide +kernel
theorem dX2_keep_44 : decode cX2_keep 44 = .ok (.getfield 21, 3) := by decide +kernel
theorem dX2_keep_47 : decode cX2_keep 47 = .ok (.iconst 1, 1) := by decide +kernel
theorem dX2_keep_48 : decode cX2_keep 48 = .ok (.iadd, 1) := by decide +kernel
theorem dX2_keep_49 : decode cX2_keep 49 = .ok (.putfield 21, 3) := by decide +kernel
theorem dX2_keep_52 : decode cX2_keep 52 = .ok (.aload_n 0, 1) := by decide +kernel
theorem dX2_keep_53 : decode cX2_keep 53 = .ok (.getfield 21, 3) := by decide +kernel
theorem dX2_keep_56 : decode cX2_keep 56 = .ok (.iconst 1, 1) := by decide +kernel
theorem dX2_keep_57 : decode cX2_keep 57 = .ok (.isub, 1) := by decide +kernel
theorem dX2_keep_58 : decode cX2_keep 58 = .ok (.ireturn, 1) := by decide +kernel
theorem dX2_areSo_0 : decode cX2_areSo 0 = .ok (.aload_n 0, 1) := by decide +kernel
theorem dX2_areSo_1 : decode cX2_areSo 1 = .ok (.invokevirtual 25, 3) := by decide +kernel
theorem dX2_areSo_4 : decode cX2_areSo 4 = .ok (.istore_n 2, 1) := by decide +kernel
theorem dX2_areSo_5 : decode cX2_areSo 5 = .ok (.iconst 0, 1) := by decide +kernel
theorem dX2_areSo_6 : decode cX2_areSo 6 = .ok (.istore_n 3, 1) := by decide +kernel
theorem dX2_areSo_7 : decode cX2_areSo 7 = .ok (.iload_n 3, 1) := by decide +kernel
theorem dX2_areSo_8 : decode cX2_areSo 8 = .ok (.iload_n 2, 1) := by decide +kernel
theorem dX2_areSo_9 : decode cX2_areSo 9 = .ok (.if_icmp .gt 25, 3) := by decide +kernel
theorem dX2_areSo_12 : decode cX2_areSo 12 = .ok (.aload_n 0, 1) := by decide +kernel
theorem dX2_areSo_13 : decode cX2_areSo 13 = .ok (.iload_n 3, 1) := by decide +kernel
theorem dX2_areSo_14 : decode cX2_areSo 14 = .ok (.aload_n 1, 1) := by decide +kernel
theorem dX2_areSo_15 : decode cX2_areSo 15 = .ok (.invokevirtual 29, 3) := by decide +kernel
theorem dX2_areSo_18 : decode cX2_areSo 18 = .ok (.ifCond .ne 5, 3) := by decide +kernel
theorem dX2_areSo_21 : decode cX2_areSo 21 = .ok (.iconst 0, 1) := by decide +kernel
theorem dX2_areSo_22 : decode cX2_areSo 22 = .ok (.ireturn, 1) := by decide +kernel
theorem dX2_areSo_23 : decode cX2_areSo 23 = .ok (.aload_n 1, 1) := by decide +kernel
theorem dX2_areSo_24 : decode cX2_areSo 24 = .ok (.iconst 1, 1) := by decide +kernel
theorem dX2_areSo_25 : decode cX2_areSo 25 = .ok (.invokevirtual 33, 3) := by decide +kernel
theorem dX2_areSo_28 : decode cX2_areSo 28 = .ok (.iinc 3 1, 3) := by decide +kernel
theorem dX2_areSo_31 : decode cX2_areSo 31 = .ok (.goto (-24), 3) := by decide +kernel
theorem dX2_areSo_34 : decode cX2_areSo 34 = .ok (.iconst 1, 1) := by decide +kernel
theorem dX2_areSo_35 : decode cX2_areSo 35 = .ok (.ireturn, 1) := by decide +kernel
theorem dX2_lastTime_0 : decode cX2_lastTime 0 = .ok (.iconst 0, 1) := by decide +kernel
theorem dX2_lastTime_1 : decode cX2_lastTime 1 = .ok (.istore_n 1, 1) := by decide +kernel
theorem dX2_lastTime_2 : decode cX2_lastTime 2 = .ok (.iconst 0, 1) := by decide +kernel
theorem dX2_lastTime_3 : decode cX2_lastTime 3 = .ok (.istore_n 2, 1) := by decide +kernel
theorem dX2_lastTime_4 : decode cX2_lastTime 4 = .ok (.iload_n 2, 1) := by decide +kernel
theorem dX2_lastTime_5 : decode cX2_lastTime 5 = .ok (.aload_n 0, 1) := by decide +kernel
theorem dX2_lastTime_6 : decode cX2_lastTime 6 = .ok (.getfield 21, 3) := by decide +kernel
theorem dX2_lastTime_9 : decode cX2_lastTime 9 = .ok (.if_icmp .ge 20, 3) := by decide +kernel
theorem dX2_lastTime_12 : decode cX2_lastTime 12 = .ok (.iload_n 1, 1) := by decide +kernel
theorem dX2_lastTime_13 : decode cX2_lastTime 13 = .ok (.aload_n 0, 1) := by decide +kernel
theorem dX2_lastTime_14 : decode cX2_lastTime 14 = .ok (.getfield 9, 3) := by decide +kernel
theorem dX2_lastTime_17 : decode cX2_lastTime 17 = .ok (.iload_n 2, 1) := by decide +kernel
theorem dX2_lastTime_18 : decode cX2_lastTime 18 = .ok (.iaload, 1) := by decide +kernel
theorem dX2_lastTime_19 : decode cX2_lastTime 19 = .ok (.invokestatic 39, 3) := by decide +kernel
theorem dX2_lastTime_22 : decode cX2_lastTime 22 = .ok (.istore_n 1, 1) := by decide +kernel
theorem dX2_lastTime_23 : decode cX2_lastTime 23 = .ok (.iinc 2 1, 3) := by decide +kernel
theorem dX2_lastTime_26 : decode cX2_lastTime 26 = .ok (.goto (-22), 3) := by decide +kernel
theorem dX2_lastTime_29 : decode cX2_lastTime 29 = .ok (.iload_n 1, 1) := by decide +kernel
theorem dX2_lastTime_30 : decode cX2_lastTime 30 = .ok (.ireturn, 1) := by decide +kernel
theorem dX2_areSoAt_0 : decode cX2_areSoAt 0 = .ok (.iconst 0, 1) := by decide +kernel
theorem dX2_areSoAt_1 : decode cX2_areSoAt 1 = .ok (.istore_n 3, 1) := by decide +kernel
theorem dX2_areSoAt_2 : decode cX2_areSoAt 2 = .ok (.iload_n 3, 1) := by decide +kernel
theorem dX2_areSoAt_3 : decode cX2_areSoAt 3 = .ok (.aload_n 0, 1) := by decide +kernel
theorem dX2_areSoAt_4 : decode cX2_areSoAt 4 = .ok (.getfield 21, 3) := by decide +kernel
theorem dX2_areSoAt_7 : decode cX2_areSoAt 7 = .ok (.if_icmp .ge 40, 3) := by decide +kernel
theorem dX2_areSoAt_10 : decode cX2_areSoAt 10 = .ok (.aload_n 0, 1) := by decide +kernel
theorem dX2_areSoAt_11 : decode cX2_areSoAt 11 = .ok (.getfield 9, 3) := by decide +kernel
theorem dX2_areSoAt_14 : decode cX2_areSoAt 14 = .ok (.iload_n 3, 1) := by decide +kernel
theorem dX2_areSoAt_15 : decode cX2_areSoAt 15 = .ok (.iaload, 1) := by decide +kernel
theorem dX2_areSoAt_16 : decode cX2_areSoAt 16 = .ok (.iload_n 1, 1) := by decide +kernel
theorem dX2_areSoAt_17 : decode cX2_areSoAt 17 = .ok (.if_icmp .ne 24, 3) := by decide +kernel
theorem dX2_areSoAt_20 : decode cX2_areSoAt 20 = .ok (.aload_n 2, 1) := by decide +kernel
theorem dX2_areSoAt_21 : decode cX2_areSoAt 21 = .ok (.aload_n 0, 1) := by decide +kernel
theorem dX2_areSoAt_22 : decode cX2_areSoAt 22 = .ok (.getfield 15, 3) := by decide +kernel
theorem dX2_areSoAt_25 : decode cX2_areSoAt 25 = .ok (.iload_n 3, 1) := by decide +kernel
theorem dX2_areSoAt_26 : decode cX2_areSoAt 26 = .ok (.iaload, 1) := by decide +kernel
theorem dX2_areSoAt_27 : decode cX2_areSoAt 27 = .ok (.invokevirtual 45, 3) := by decide +kernel
theorem dX2_areSoAt_30 : decode cX2_areSoAt 30 = .ok (.aload_n 0, 1) := by decide +kernel
theorem dX2_areSoAt_31 : decode cX2_areSoAt 31 = .ok (.getfield 18, 3) := by decide +kernel
theorem dX2_areSoAt_34 : decode cX2_areSoAt 34 = .ok (.iload_n 3, 1) := by decide +kernel
theorem dX2_areSoAt_35 : decode cX2_areSoAt 35 = .ok (.iaload, 1) := by decide +kernel
theorem dX2_areSoAt_36 : decode cX2_areSoAt 36 = .ok (.if_icmp .eq 5, 3) := by decide +kernel
theorem dX2_areSoAt_39 : decode cX2_areSoAt 39 = .ok (.iconst 0, 1) := by decide +kernel
theorem dX2_areSoAt_40 : decode cX2_areSoAt 40 = .ok (.ireturn, 1) := by decide +kernel
theorem dX2_areSoAt_41 : decode cX2_areSoAt 41 = .ok (.iinc 3 1, 3) := by decide +kernel
theorem dX2_areSoAt_44 : decode cX2_areSoAt 44 = .ok (.goto (-42), 3) := by decide +kernel
theorem dX2_areSoAt_47 : decode cX2_areSoAt 47 = .ok (.iconst 1, 1) := by decide +kernel
theorem dX2_areSoAt_48 : decode cX2_areSoAt 48 = .ok (.ireturn, 1) := by decide +kernel
theorem dX3_init_0 : decode cX3_init 0 = .ok (.aload_n 0, 1) := by decide +kernel
theorem dX3_init_1 : decode cX3_init 1 = .ok (.invokespecial 3, 3) := by decide +kernel
theorem dX3_init_4 : decode cX3_init 4 = .ok (.aload_n 0, 1) := by decide +kernel
theorem dX3_init_5 : decode cX3_init 5 = .ok (.iconst 0, 1) := by decide +kernel
theorem dX3_init_6 : decode cX3_init 6 = .ok (.putfield 9, 3) := by decide +kernel
theorem dX3_init_9 : decode cX3_init 9 = .ok (.aload_n 0, 1) := by decide +kernel
theorem dX3_init_10 : decode cX3_init 10 = .ok (.iconst 0, 1) := by decide +kernel
theorem dX3_init_11 : decode cX3_init 11 = .ok (.putfield 15, 3) := by decide +kernel
theorem dX3_init_14 : decode cX3_init 14 = .ok (.aload_n 0, 1) := by decide +kernel
theorem dX3_init_15 : decode cX3_init 15 = .ok (.iconst 5, 1) := by decide +kernel
theorem dX3_init_16 : decode cX3_init 16 = .ok (.newarray .int, 2) := by decide +kernel
theorem dX3_init_18 : decode cX3_init 18 = .ok (.putfield 18, 3) := by decide +kernel
theorem dX3_init_21 : decode cX3_init 21 = .ok (.aload_n 0, 1) := by decide +kernel
theorem dX3_init_22 : decode cX3_init 22 = .ok (.iconst 5, 1) := by decide +kernel
theorem dX3_init_23 : decode cX3_init 23 = .ok (.newarray .int, 2) := by decide +kernel
theorem dX3_init_25 : decode cX3_init 25 = .ok (.putfield 22, 3) := by decide +kernel
theorem dX3_init_28 : decode cX3_init 28 = .ok (.aload_n 0, 1) := by decide +kernel
theorem dX3_init_29 : decode cX3_init 29 = .ok (.iconst 5, 1) := by decide +kernel
theorem dX3_init_30 : decode cX3_init 30 = .ok (.newarray .int, 2) := by decide +kernel
theorem dX3_init_32 : decode cX3_init 32 = .ok (.putfield 25, 3) := by decide +kernel
theorem dX3_init_35 : decode cX3_init 35 = .ok (.return_, 1) := by decide +kernel
theorem dX3_isNone_0 : decode cX3_isNone 0 = .ok (.aload_n 0, 1) := by decide +kernel
theorem dX3_isNone_1 : decode cX3_isNone 1 = .ok (.getfield 15, 3) := by decide +kernel
theorem dX3_isNone_4 : decode cX3_isNone 4 = .ok (.ifCond .ne 7, 3) := by decide +kernel
theorem dX3_isNone_7 : decode cX3_isNone 7 = .ok (.iconst 1, 1) := by decide +kernel
theorem dX3_isNone_8 : decode cX3_isNone 8 = .ok (.goto 4, 3) := by decide +kernel
theorem dX3_isNone_11 : decode cX3_isNone 11 = .ok (.iconst 0, 1) := by decide +kernel
theorem dX3_isNone_12 : decode cX3_isNone 12 = .ok (.ireturn, 1) := by decide +kernel
theorem dX3_has_0 : decode cX3_has 0 = .ok (.iload_n 1, 1) := by decide +kernel
theorem dX3_has_1 : decode cX3_has 1 = .ok (.ifCond .lt 15, 3) := by decide +kernel
theorem dX3_has_4 : decode cX3_has 4 = .ok (.iload_n 1, 1) := by decide +kernel
theorem dX3_has_5 : decode cX3_has 5 = .ok (.aload_n 0, 1) := by decide +kernel
theorem dX3_has_6 : decode cX3_has 6 = .ok (.getfield 15, 3) := by decide +kernel
theorem dX3_has_9 : decode cX3_has 9 = .ok (.if_icmp .ge 7, 3) := by decide +kernel
theorem dX3_has_12 : decode cX3_has 12 = .ok (.iconst 1, 1) := by decide +kernel
theorem dX3_has_13 : decode cX3_has 13 = .ok (.goto 4, 3) := by decide +kernel
theorem dX3_has_16 : decode cX3_has 16 = .ok (.iconst 0, 1) := by decide +kernel
theorem dX3_has_17 : decode cX3_has 17 = .ok (.ireturn, 1) := by decide +kernel
theorem dX3_numberAt_0 : decode cX3_numberAt 0 = .ok (.aload_n 0, 1) := by decide +kernel
theorem dX3_numberAt_1 : decode cX3_numberAt 1 = .ok (.iload_n 1, 1) := by decide +kernel
theorem dX3_numberAt_2 : decode cX3_numberAt 2 = .ok (.invokevirtual 28, 3) := by decide +kernel
theorem dX3_numberAt_5 : decode cX3_numberAt 5 = .ok (.ifCond .eq 12, 3) := by decide +kernel
theorem dX3_numberAt_8 : decode cX3_numberAt 8 = .ok (.aload_n 0, 1) := by decide +kernel
theorem dX3_numberAt_9 : decode cX3_numberAt 9 = .ok (.getfield 22, 3) := by decide +kernel
theorem dX3_numberAt_12 : decode cX3_numberAt 12 = .ok (.iload_n 1, 1) := by decide +kernel
theorem dX3_numberAt_13 : decode cX3_numberAt 13 = .ok (.iaload, 1) := by decide +kernel
theorem dX3_numberAt_14 : decode cX3_numberAt 14 = .ok (.goto 5, 3) := by decide +kernel
theorem dX3_numberAt_17 : decode cX3_numberAt 17 = .ok (.bipush (-9), 2) := by decide +kernel
theorem dX3_numberAt_19 : decode cX3_numberAt 19 = .ok (.ireturn, 1) := by decide +kernel
theorem dX3_isNumber_0 : decode cX3_isNumber 0 = .ok (.iload_n 1, 1) := by decide +kernel
theorem dX3_isNumber_1 : decode cX3_isNumber 1 = .ok (.ifCond .lt 15, 3) := by decide +kernel
theorem dX3_isNumber_4 : decode cX3_isNumber 4 = .ok (.iload_n 1, 1) := by decide +kernel
theorem dX3_isNumber_5 : decode cX3_isNumber 5 = .ok (.aload_n 0, 1) := by decide +kernel
theorem dX3_isNumber_6 : decode cX3_isNumber 6 = .ok (.getfield 9, 3) := by decide +kernel
theorem dX3_isNumber_9 : decode cX3_isNumber 9 = .ok (.if_icmp .ge 7, 3) := by decide +kernel
theorem dX3_isNumber_12 : decode cX3_isNumber 12 = .ok (.iconst 1, 1) := by decide +kernel
theorem dX3_isNumber_13 : decode cX3_isNumber 13 = .ok (.goto 4, 3) := by decide +kernel
theorem dX3_isNumber_16 : decode cX3_isNumber 16 = .ok (.iconst 0, 1) := by decide +kernel
theorem dX3_isNumber_17 : decode cX3_isNumber 17 = .ok (.ireturn, 1) := by decide +kernel
theorem dX3_takeAll_0 : decode cX3_takeAll 0 = .ok (.aload_n 0, 1) := by decide +kernel
theorem dX3_takeAll_1 : decode cX3_takeAll 1 = .ok (.aload_n 1, 1) := by decide +kernel
theorem dX3_takeAll_2 : decode cX3_takeAll 2 = .ok (.invokevirtual 32, 3) := by decide +kernel
theorem dX3_takeAll_5 : decode cX3_takeAll 5 = .ok (.aload_n 1, 1) := by decide +kernel
theorem dX3_takeAll_6 : decode cX3_takeAll 6 = .ok (.getfield 22, 3) := by decide +kernel
theorem dX3_takeAll_9 : decode cX3_takeAll 9 = .ok (.iconst 0, 1) := by decide +kernel
theorem dX3_takeAll_10 : decode cX3_takeAll 10 = .ok (.aload_n 0, 1) := by decide +kernel
theorem dX3_takeAll_11 : decode cX3_takeAll 11 = .ok (.getfield 22, 3) := by decide +kernel
theorem dX3_takeAll_14 : decode cX3_takeAll 14 = .ok (.iconst 0, 1) := by decide +kernel
theorem dX3_takeAll_15 : decode cX3_takeAll 15 = .ok (.iconst 5, 1) := by decide +kernel
theorem dX3_takeAll_16 : decode cX3_takeAll 16 = .ok (.invokestatic 36, 3) := by decide +kernel
theorem dX3_takeAll_19 : decode cX3_takeAll 19 = .ok (.return_, 1) := by decide +kernel
theorem dX3_takeKinds_0 : decode cX3_takeKinds 0 = .ok (.aload_n 0, 1) := by decide +kernel
theorem dX3_takeKinds_1 : decode cX3_takeKinds 1 = .ok (.aload_n 1, 1) := by decide +kernel
theorem dX3_takeKinds_2 : decode cX3_takeKinds 2 = .ok (.getfield 9, 3) := by decide +kernel
theorem dX3_takeKinds_5 : decode cX3_takeKinds 5 = .ok (.putfield 9, 3) := by decide +kernel
theorem dX3_takeKinds_8 : decode cX3_takeKinds 8 = .ok (.aload_n 0, 1) := by decide +kernel
theorem dX3_takeKinds_9 : decode cX3_takeKinds 9 = .ok (.aload_n 1, 1) := by decide +kernel
theorem dX3_takeKinds_10 : decode cX3_takeKinds 10 = .ok (.getfield 15, 3) := by decide +kernel
theorem dX3_takeKinds_13 : decode cX3_takeKinds 13 = .ok (.putfield 15, 3) := by decide +kernel
theorem dX3_takeKinds_16 : decode cX3_takeKinds 16 = .ok (.aload_n 1, 1) := by decide +kernel
theorem dX3_takeKinds_17 : decode cX3_takeKinds 17 = .ok (.getfield 18, 3) := by decide +kernel
theorem dX3_takeKinds_20 : decode cX3_takeKinds 20 = .ok (.iconst 0, 1) := by decide +kernel
theorem dX3_takeKinds_21 : decode cX3_takeKinds 21 = .ok (.aload_n 0, 1) := by decide +kernel
theorem dX3_takeKinds_22 : decode cX3_takeKinds 22 = .ok (.getfield 18, 3) := by decide +kernel
theorem dX3_takeKinds_25 : decode cX3_takeKinds 25 = .ok (.iconst 0, 1) := by decide +kernel
theorem dX3_takeKinds_26 : decode cX3_takeKinds 26 = .ok (.iconst 5, 1) := by decide +kernel
theorem dX3_takeKinds_27 : decode cX3_takeKinds 27 = .ok (.invokestatic 36, 3) := by decide +kernel
theorem dX3_takeKinds_30 : decode cX3_takeKinds 30 = .ok (.return_, 1) := by decide +kernel
theorem dX3_takeRow_0 : decode cX3_takeRow 0 = .ok (.iconst 0, 1) := by decide +kernel
theorem dX3_takeRow_1 : decode cX3_takeRow 1 = .ok (.istore_n 3, 1) := by decide +kernel
theorem dX3_takeRow_2 : decode cX3_takeRow 2 = .ok (.iload_n 3, 1) := by decide +kernel
theorem dX3_takeRow_3 : decode cX3_takeRow 3 = .ok (.aload_n 0, 1) := by decide +kernel
theorem dX3_takeRow_4 : decode cX3_takeRow 4 = .ok (.getfield 15, 3) := by decide +kernel
theorem dX3_takeRow_7 : decode cX3_takeRow 7 = .ok (.if_icmp .ge 37, 3) := by decide +kernel
theorem dX3_takeRow_10 : decode cX3_takeRow 10 = .ok (.aload_n 1, 1) := by decide +kernel
theorem dX3_takeRow_11 : decode cX3_takeRow 11 = .ok (.iload_n 2, 1) := by decide +kernel
theorem dX3_takeRow_12 : decode cX3_takeRow 12 = .ok (.iload_n 3, 1) := by decide +kernel
theorem dX3_takeRow_13 : decode cX3_takeRow 13 = .ok (.iadd, 1) := by decide +kernel
theorem dX3_takeRow_14 : decode cX3_takeRow 14 = .ok (.invokevirtual 42, 3) := by decide +kernel
theorem dX3_takeRow_17 : decode cX3_takeRow 17 = .ok (.istore 4, 2) := by decide +kernel
theorem dX3_takeRow_19 : decode cX3_takeRow 19 = .ok (.aload_n 0, 1) := by decide +kernel
theorem dX3_takeRow_20 : decode cX3_takeRow 20 = .ok (.iload 4, 2) := by decide +kernel
theorem dX3_takeRow_22 : decode cX3_takeRow 22 = .ok (.invokevirtual 48, 3) := by decide +kernel
theorem dX3_takeRow_25 : decode cX3_takeRow 25 = .ok (.ifCond .ne 5, 3) := by decide +kernel
theorem dX3_takeRow_28 : decode cX3_takeRow 28 = .ok (.iconst 0, 1) := by decide +kernel
theorem dX3_takeRow_29 : decode cX3_takeRow 29 = .ok (.ireturn, 1) := by decide +kernel
theorem dX3_takeRow_30 : decode cX3_takeRow 30 = .ok (.aload_n 0, 1) := by decide +kernel
theorem dX3_takeRow_31 : decode cX3_takeRow 31 = .ok (.getfield 22, 3) := by decide +kernel
theorem dX3_takeRow_34 : decode cX3_takeRow 34 = .ok (.iload_n 3, 1) := by decide +kernel
theorem dX3_takeRow_35 : decode cX3_takeRow 35 = .ok (.iload 4, 2) := by decide +kernel
theorem dX3_takeRow_37 : decode cX3_takeRow 37 = .ok (.iastore, 1) := by decide +kernel
theorem dX3_takeRow_38 : decode cX3_takeRow 38 = .ok (.iinc 3 1, 3) := by decide +kernel
theorem dX3_takeRow_41 : decode cX3_takeRow 41 = .ok (.goto (-39), 3) := by decide +kernel
theorem dX3_takeRow_44 : decode cX3_takeRow 44 = .ok (.iconst 1, 1) := by decide +kernel
theorem dX3_takeRow_45 : decode cX3_takeRow 45 = .ok (.ireturn, 1) := by decide +kernel
theorem dX3_takeFirstRow_0 : decode cX3_takeFirstRow 0 = .ok (.aload_n 0, 1) := by decide +kernel
theorem dX3_takeFirstRow_1 : decode cX3_takeFirstRow 1 = .ok (.getfield 22, 3) := by decide +kernel
theorem dX3_takeFirstRow_4 : decode cX3_takeFirstRow 4 = .ok (.iconst 0, 1) := by decide +kernel
theorem dX3_takeFirstRow_5 : decode cX3_takeFirstRow 5 = .ok (.invokestatic 51, 3) := by decide +kernel
theorem dX3_takeFirstRow_8 : decode cX3_takeFirstRow 8 = .ok (.return_, 1) := by decide +kernel
theorem dX3_takeNextRow_0 : decode cX3_takeNextRow 0 = .ok (.aload_n 0, 1) := by decide +kernel
theorem dX3_takeNextRow_1 : decode cX3_takeNextRow 1 = .ok (.getfield 15, 3) := by decide +kernel
theorem dX3_takeNextRow_4 : decode cX3_takeNextRow 4 = .ok (.iconst 1, 1) := by decide +kernel
theorem dX3_takeNextRow_5 : decode cX3_takeNextRow 5 = .ok (.isub, 1) := by decide +kernel
theorem dX3_takeNextRow_6 : decode cX3_takeNextRow 6 = .ok (.istore_n 1, 1) := by decide +kernel
theorem dX3_takeNextRow_7 : decode cX3_takeNextRow 7 = .ok (.iload_n 1, 1) := by decide +kernel
theorem dX3_takeNextRow_8 : decode cX3_takeNextRow 8 = .ok (.ifCond .lt 42, 3) := by decide +kernel
theorem dX3_takeNextRow_11 : decode cX3_takeNextRow 11 = .ok (.aload_n 0, 1) := by decide +kernel
theorem dX3_takeNextRow_12 : decode cX3_takeNextRow 12 = .ok (.getfield 22, 3) := by decide +kernel
theorem dX3_takeNextRow_15 : decode cX3_takeNextRow 15 = .ok (.iload_n 1, 1) := by decide +kernel
theorem dX3_takeNextRow_16 : decode cX3_takeNextRow 16 = .ok (.iaload, 1) := by decide +kernel
theorem dX3_takeNextRow_17 : decode cX3_takeNextRow 17 = .ok (.aload_n 0, 1) := by decide +kernel
theorem dX3_takeNextRow_18 : decode cX3_takeNextRow 18 = .ok (.getfield 9, 3) := by decide +kernel
theorem dX3_takeNextRow_21 : decode cX3_takeNextRow 21 = .ok (.iconst 1, 1) := by decide +kernel
theorem dX3_takeNextRow_22 : decode cX3_takeNextRow 22 = .ok (.isub, 1) := by decide +kernel
theorem dX3_takeNextRow_23 : decode cX3_takeNextRow 23 = .ok (.if_icmp .ge 14, 3) := by decide +kernel
theorem dX3_takeNextRow_26 : decode cX3_takeNextRow 26 = .ok (.aload_n 0, 1) := by decide +kernel
theorem dX3_takeNextRow_27 : decode cX3_takeNextRow 27 = .ok (.getfield 22, 3) := by decide +kernel
theorem dX3_takeNextRow_30 : decode cX3_takeNextRow 30 = .ok (.iload_n 1, 1) := by decide +kernel
theorem dX3_takeNextRow_31 : decode cX3_takeNextRow 31 = .ok (.dup2, 1) := by decide +kernel
theorem dX3_takeNextRow_32 : decode cX3_takeNextRow 32 = .ok (.iaload, 1) := by decide +kernel
theorem dX3_takeNextRow_33 : decode cX3_takeNextRow 33 = .ok (.iconst 1, 1) := by decide +kernel
theorem dX3_takeNextRow_34 : decode cX3_takeNextRow 34 = .ok (.iadd, 1) := by decide +kernel
theorem dX3_takeNextRow_35 : decode cX3_takeNextRow 35 = .ok (.iastore, 1) := by decide +kernel
theorem dX3_takeNextRow_36 : decode cX3_takeNextRow 36 = .ok (.return_, 1) := by decide +kernel
theorem dX3_takeNextRow_37 : decode cX3_takeNextRow 37 = .ok (.aload_n 0, 1) := by decide +kernel
theorem dX3_takeNextRow_38 : decode cX3_takeNextRow 38 = .ok (.getfield 22, 3) := by decide +kernel
theorem dX3_takeNextRow_41 : decode cX3_takeNextRow 41 = .ok (.iload_n 1, 1) := by decide +kernel
theorem dX3_takeNextRow_42 : decode cX3_takeNextRow 42 = .ok (.iconst 0, 1) := by decide +kernel
theorem dX3_takeNextRow_43 : decode cX3_takeNextRow 43 = .ok (.iastore, 1) := by decide +kernel
theorem dX3_takeNextRow_44 : decode cX3_takeNextRow 44 = .ok (.iinc 1 (-1), 3) := by decide +kernel
theorem dX3_takeNextRow_47 : decode cX3_takeNextRow 47 = .ok (.goto (-40), 3) := by decide +kernel
theorem dX3_takeNextRow_50 : decode cX3_takeNextRow 50 = .ok (.return_, 1) := by decide +kernel
theorem dX3_stepped_0 : decode cX3_stepped 0 = .ok (.aload_n 0, 1) := by decide +kernel
theorem dX3_stepped_1 : decode cX3_stepped 1 = .ok (.iload_n 1, 1) := by decide +kernel
theorem dX3_stepped_2 : decode cX3_stepped 2 = .ok (.iconst 1, 1) := by decide +kernel
theorem dX3_stepped_3 : decode cX3_stepped 3 = .ok (.invokevirtual 57, 3) := by decide +kernel
theorem dX3_stepped_6 : decode cX3_stepped 6 = .ok (.istore_n 2, 1) := by decide +kernel
theorem dX3_stepped_7 : decode cX3_stepped 7 = .ok (.aload_n 0, 1) := by decide +kernel
theorem dX3_stepped_8 : decode cX3_stepped 8 = .ok (.iload_n 1, 1) := by decide +kernel
theorem dX3_stepped_9 : decode cX3_stepped 9 = .ok (.iconst 2, 1) := by decide +kernel
theorem dX3_stepped_10 : decode cX3_stepped 10 = .ok (.invokevirtual 57, 3) := by decide +kernel
theorem dX3_stepped_13 : decode cX3_stepped 13 = .ok (.istore_n 3, 1) := by decide +kernel
theorem dX3_stepped_14 : decode cX3_stepped 14 = .ok (.aload_n 0, 1) := by decide +kernel
theorem dX3_stepped_15 : decode cX3_stepped 15 = .ok (.getfield 18, 3) := by decide +kernel
theorem dX3_stepped_18 : decode cX3_stepped 18 = .ok (.iload_n 1, 1) := by decide +kernel
theorem dX3_stepped_19 : decode cX3_stepped 19 = .ok (.iaload, 1) := by decide +kernel
theorem dX3_stepped_20 : decode cX3_stepped 20 = .ok (.lookupswitch 32 #[(0, 28), (1, 30)], 28) := by decide +kernel
theorem dX3_stepped_48 : decode cX3_stepped 48 = .ok (.iload_n 2, 1) := by decide +kernel
theorem dX3_stepped_49 : decode cX3_stepped 49 = .ok (.ireturn, 1) := by decide +kernel
theorem dX3_stepped_50 : decode cX3_stepped 50 = .ok (.iload_n 3, 1) := by decide +kernel
theorem dX3_stepped_51 : decode cX3_stepped 51 = .ok (.ireturn, 1) := by decide +kernel
theorem dX3_stepped_52 : decode cX3_stepped 52 = .ok (.iload_n 2, 1) := by decide +kernel
theorem dX3_stepped_53 : decode cX3_stepped 53 = .ok (.iload_n 3, 1) := by decide +kernel
theorem dX3_stepped_54 : decode cX3_stepped 54 = .ok (.iadd, 1) := by decide +kernel
theorem dX3_stepped_55 : decode cX3_stepped 55 = .ok (.aload_n 0, 1) := by decide +kernel
theorem dX3_stepped_56 : decode cX3_stepped 56 = .ok (.getfield 9, 3) := by decide +kernel
theorem dX3_stepped_59 : decode cX3_stepped 59 = .ok (.if_icmp .ge 9, 3) := by decide +kernel
theorem dX3_stepped_62 : decode cX3_stepped 62 = .ok (.iload_n 2, 1) := by decide +kernel
theorem dX3_stepped_63 : decode cX3_stepped 63 = .ok (.iload_n 3, 1) := by decide +kernel
theorem dX3_stepped_64 : decode cX3_stepped 64 = .ok (.iadd, 1) := by decide +kernel
theorem dX3_stepped_65 : decode cX3_stepped 65 = .ok (.goto 11, 3) := by decide +kernel
theorem dX3_stepped_68 : decode cX3_stepped 68 = .ok (.iload_n 2, 1) := by decide +kernel
theorem dX3_stepped_69 : decode cX3_stepped 69 = .ok (.iload_n 3, 1) := by decide +kernel
theorem dX3_stepped_70 : decode cX3_stepped 70 = .ok (.iadd, 1) := by decide +kernel
theorem dX3_stepped_71 : decode cX3_stepped 71 = .ok (.aload_n 0, 1) := by decide +kernel
theorem dX3_stepped_72 : decode cX3_stepped 72 = .ok (.getfield 9, 3) := by decide +kernel
theorem dX3_stepped_75 : decode cX3_stepped 75 = .ok (.isub, 1) := by decide +kernel
theorem dX3_stepped_76 : decode cX3_stepped 76 = .ok (.ireturn, 1) := by decide +kernel
theorem dX3_howFar_0 : decode cX3_howFar 0 = .ok (.iload_n 1, 1) := by decide +kernel
theorem dX3_howFar_1 : decode cX3_howFar 1 = .ok (.iload_n 2, 1) := by decide +kernel
theorem dX3_howFar_2 : decode cX3_howFar 2 = .ok (.iadd, 1) := by decide +kernel
theorem dX3_howFar_3 : decode cX3_howFar 3 = .ok (.aload_n 0, 1) := by decide +kernel
theorem dX3_howFar_4 : decode cX3_howFar 4 = .ok (.getfield 15, 3) := by decide +kernel
theorem dX3_howFar_7 : decode cX3_howFar 7 = .ok (.if_icmp .ge 9, 3) := by decide +kernel
theorem dX3_howFar_10 : decode cX3_howFar 10 = .ok (.iload_n 1, 1) := by decide +kernel
theorem dX3_howFar_11 : decode cX3_howFar 11 = .ok (.iload_n 2, 1) := by decide +kernel
theorem dX3_howFar_12 : decode cX3_howFar 12 = .ok (.iadd, 1) := by decide +kernel
theorem dX3_howFar_13 : decode cX3_howFar 13 = .ok (.goto 11, 3) := by decide +kernel
theorem dX3_howFar_16 : decode cX3_howFar 16 = .ok (.iload_n 1, 1) := by decide +kernel
theorem dX3_howFar_17 : decode cX3_howFar 17 = .ok (.iload_n 2, 1) := by decide +kernel
theorem dX3_howFar_18 : decode cX3_howFar 18 = .ok (.iadd, 1) := by decide +kernel
theorem dX3_howFar_19 : decode cX3_howFar 19 = .ok (.aload_n 0, 1) := by decide +kernel
theorem dX3_howFar_20 : decode cX3_howFar 20 = .ok (.getfield 15, 3) := by decide +kernel
theorem dX3_howFar_23 : decode cX3_howFar 23 = .ok (.isub, 1) := by decide +kernel
theorem dX3_howFar_24 : decode cX3_howFar 24 = .ok (.istore_n 3, 1) := by decide +kernel
theorem dX3_howFar_25 : decode cX3_howFar 25 = .ok (.aload_n 0, 1) := by decide +kernel
theorem dX3_howFar_26 : decode cX3_howFar 26 = .ok (.getfield 22, 3) := by decide +kernel
theorem dX3_howFar_29 : decode cX3_howFar 29 = .ok (.iload_n 1, 1) := by decide +kernel
theorem dX3_howFar_30 : decode cX3_howFar 30 = .ok (.iaload, 1) := by decide +kernel
theorem dX3_howFar_31 : decode cX3_howFar 31 = .ok (.aload_n 0, 1) := by decide +kernel
theorem dX3_howFar_32 : decode cX3_howFar 32 = .ok (.getfield 22, 3) := by decide +kernel
theorem dX3_howFar_35 : decode cX3_howFar 35 = .ok (.iload_n 3, 1) := by decide +kernel
theorem dX3_howFar_36 : decode cX3_howFar 36 = .ok (.iaload, 1) := by decide +kernel
theorem dX3_howFar_37 : decode cX3_howFar 37 = .ok (.isub, 1) := by decide +kernel
theorem dX3_howFar_38 : decode cX3_howFar 38 = .ok (.invokestatic 61, 3) := by decide +kernel
theorem dX3_howFar_41 : decode cX3_howFar 41 = .ok (.ireturn, 1) := by decide +kernel
theorem dX3_go_0 : decode cX3_go 0 = .ok (.iconst 0, 1) := by decide +kernel
theorem dX3_go_1 : decode cX3_go 1 = .ok (.istore_n 2, 1) := by decide +kernel
theorem dX3_go_2 : decode cX3_go 2 = .ok (.iload_n 2, 1) := by decide +kernel
theorem dX3_go_3 : decode cX3_go 3 = .ok (.iload_n 1, 1) := by decide +kernel
theorem dX3_go_4 : decode cX3_go 4 = .ok (.if_icmp .ge 53, 3) := by decide +kernel
theorem dX3_go_7 : decode cX3_go 7 = .ok (.iconst 0, 1) := by decide +kernel
theorem dX3_go_8 : decode cX3_go 8 = .ok (.istore_n 3, 1) := by decide +kernel
theorem dX3_go_9 : decode cX3_go 9 = .ok (.iload_n 3, 1) := by decide +kernel
theorem dX3_go_10 : decode cX3_go 10 = .ok (.aload_n 0, 1) := by decide +kernel
theorem dX3_go_11 : decode cX3_go 11 = .ok (.getfield 15, 3) := by decide +kernel
theorem dX3_go_14 : decode cX3_go 14 = .ok (.if_icmp .ge 20, 3) := by decide +kernel
theorem dX3_go_17 : decode cX3_go 17 = .ok (.aload_n 0, 1) := by decide +kernel
theorem dX3_go_18 : decode cX3_go 18 = .ok (.getfield 25, 3) := by decide +kernel
theorem dX3_go_21 : decode cX3_go 21 = .ok (.iload_n 3, 1) := by decide +kernel
theorem dX3_go_22 : decode cX3_go 22 = .ok (.aload_n 0, 1) := by decide +kernel
theorem dX3_go_23 : decode cX3_go 23 = .ok (.iload_n 3, 1) := by decide +kernel
theorem dX3_go_24 : decode cX3_go 24 = .ok (.invokevirtual 66, 3) := by decide +kernel
theorem dX3_go_27 : decode cX3_go 27 = .ok (.iastore, 1) := by decide +kernel
theorem dX3_go_28 : decode cX3_go 28 = .ok (.iinc 3 1, 3) := by decide +kernel
theorem dX3_go_31 : decode cX3_go 31 = .ok (.goto (-22), 3) := by decide +kernel
theorem dX3_go_34 : decode cX3_go 34 = .ok (.aload_n 0, 1) := by decide +kernel
theorem dX3_go_35 : decode cX3_go 35 = .ok (.getfield 25, 3) := by decide +kernel
theorem dX3_go_38 : decode cX3_go 38 = .ok (.iconst 0, 1) := by decide +kernel
theorem dX3_go_39 : decode cX3_go 39 = .ok (.aload_n 0, 1) := by decide +kernel
theorem dX3_go_40 : decode cX3_go 40 = .ok (.getfield 22, 3) := by decide +kernel
theorem dX3_go_43 : decode cX3_go 43 = .ok (.iconst 0, 1) := by decide +kernel
theorem dX3_go_44 : decode cX3_go 44 = .ok (.aload_n 0, 1) := by decide +kernel
theorem dX3_go_45 : decode cX3_go 45 = .ok (.getfield 15, 3) := by decide +kernel
theorem dX3_go_48 : decode cX3_go 48 = .ok (.invokestatic 36, 3) := by decide +kernel
theorem dX3_go_51 : decode cX3_go 51 = .ok (.iinc 2 1, 3) := by decide +kernel
theorem dX3_go_54 : decode cX3_go 54 = .ok (.goto (-52), 3) := by decide +kernel
theorem dX3_go_57 : decode cX3_go 57 = .ok (.return_, 1) := by decide +kernel
theorem dX3_zeros_0 : decode cX3_zeros 0 = .ok (.iconst 0, 1) := by decide +kernel
theorem dX3_zeros_1 : decode cX3_zeros 1 = .ok (.istore_n 1, 1) := by decide +kernel
theorem dX3_zeros_2 : decode cX3_zeros 2 = .ok (.iconst 0, 1) := by decide +kernel
theorem dX3_zeros_3 : decode cX3_zeros 3 = .ok (.istore_n 2, 1) := by decide +kernel
theorem dX3_zeros_4 : decode cX3_zeros 4 = .ok (.iload_n 2, 1) := by decide +kernel
theorem dX3_zeros_5 : decode cX3_zeros 5 = .ok (.aload_n 0, 1) := by decide +kernel
theorem dX3_zeros_6 : decode cX3_zeros 6 = .ok (.getfield 15, 3) := by decide +kernel
theorem dX3_zeros_9 : decode cX3_zeros 9 = .ok (.if_icmp .ge 21, 3) := by decide +kernel
theorem dX3_zeros_12 : decode cX3_zeros 12 = .ok (.aload_n 0, 1) := by decide +kernel
theorem dX3_zeros_13 : decode cX3_zeros 13 = .ok (.getfield 22, 3) := by decide +kernel
theorem dX3_zeros_16 : decode cX3_zeros 16 = .ok (.iload_n 2, 1) := by decide +kernel
theorem dX3_zeros_17 : decode cX3_zeros 17 = .ok (.iaload, 1) := by decide +kernel
theorem dX3_zeros_18 : decode cX3_zeros 18 = .ok (.ifCond .ne 6, 3) := by decide +kernel
theorem dX3_zeros_21 : decode cX3_zeros 21 = .ok (.iinc 1 1, 3) := by decide +kernel
theorem dX3_zeros_24 : decode cX3_zeros 24 = .ok (.iinc 2 1, 3) := by decide +kernel
theorem dX3_zeros_27 : decode cX3_zeros 27 = .ok (.goto (-23), 3) := by decide +kernel
theorem dX3_zeros_30 : decode cX3_zeros 30 = .ok (.iload_n 1, 1) := by decide +kernel
theorem dX3_zeros_31 : decode cX3_zeros 31 = .ok (.ireturn, 1) := by decide +kernel
theorem dX3_isOut_0 : decode cX3_isOut 0 = .ok (.aload_n 0, 1) := by decide +kernel
theorem dX3_isOut_1 : decode cX3_isOut 1 = .ok (.invokevirtual 69, 3) := by decide +kernel
theorem dX3_isOut_4 : decode cX3_isOut 4 = .ok (.aload_n 0, 1) := by decide +kernel
theorem dX3_isOut_5 : decode cX3_isOut 5 = .ok (.getfield 15, 3) := by decide +kernel
theorem dX3_isOut_8 : decode cX3_isOut 8 = .ok (.if_icmp .ne 7, 3) := by decide +kernel
theorem dX3_isOut_11 : decode cX3_isOut 11 = .ok (.iconst 1, 1) := by decide +kernel
theorem dX3_isOut_12 : decode cX3_isOut 12 = .ok (.goto 4, 3) := by decide +kernel
theorem dX3_isOut_15 : decode cX3_isOut 15 = .ok (.iconst 0, 1) := by decide +kernel
theorem dX3_isOut_16 : decode cX3_isOut 16 = .ok (.ireturn, 1) := by decide +kernel
theorem dX3_total_0 : decode cX3_total 0 = .ok (.iconst 0, 1) := by decide +kernel
theorem dX3_total_1 : decode cX3_total 1 = .ok (.istore_n 1, 1) := by decide +kernel
theorem dX3_total_2 : decode cX3_total 2 = .ok (.iconst 0, 1) := by decide +kernel
theorem dX3_total_3 : decode cX3_total 3 = .ok (.istore_n 2, 1) := by decide +kernel
theorem dX3_total_4 : decode cX3_total 4 = .ok (.iload_n 2, 1) := by decide +kernel
theorem dX3_total_5 : decode cX3_total 5 = .ok (.aload_n 0, 1) := by decide +kernel
theorem dX3_total_6 : decode cX3_total 6 = .ok (.getfield 15, 3) := by decide +kernel
theorem dX3_total_9 : decode cX3_total 9 = .ok (.if_icmp .ge 18, 3) := by decide +kernel
theorem dX3_total_12 : decode cX3_total 12 = .ok (.iload_n 1, 1) := by decide +kernel
theorem dX3_total_13 : decode cX3_total 13 = .ok (.aload_n 0, 1) := by decide +kernel
theorem dX3_total_14 : decode cX3_total 14 = .ok (.getfield 22, 3) := by decide +kernel
theorem dX3_total_17 : decode cX3_total 17 = .ok (.iload_n 2, 1) := by decide +kernel
theorem dX3_total_18 : decode cX3_total 18 = .ok (.iaload, 1) := by decide +kernel
theorem dX3_total_19 : decode cX3_total 19 = .ok (.iadd, 1) := by decide +kernel
theorem dX3_total_20 : decode cX3_total 20 = .ok (.istore_n 1, 1) := by decide +kernel
theorem dX3_total_21 : decode cX3_total 21 = .ok (.iinc 2 1, 3) := by decide +kernel
theorem dX3_total_24 : decode cX3_total 24 = .ok (.goto (-20), 3) := by decide +kernel
theorem dX3_total_27 : decode cX3_total 27 = .ok (.iload_n 1, 1) := by decide +kernel
theorem dX3_total_28 : decode cX3_total 28 = .ok (.ireturn, 1) := by decide +kernel
theorem dX3_code_0 : decode cX3_code 0 = .ok (.iconst 0, 1) := by decide +kernel
theorem dX3_code_1 : decode cX3_code 1 = .ok (.istore_n 1, 1) := by decide +kernel
theorem dX3_code_2 : decode cX3_code 2 = .ok (.iconst 0, 1) := by decide +kernel
theorem dX3_code_3 : decode cX3_code 3 = .ok (.istore_n 2, 1) := by decide +kernel
theorem dX3_code_4 : decode cX3_code 4 = .ok (.iload_n 2, 1) := by decide +kernel
theorem dX3_code_5 : decode cX3_code 5 = .ok (.aload_n 0, 1) := by decide +kernel
theorem dX3_code_6 : decode cX3_code 6 = .ok (.getfield 15, 3) := by decide +kernel
theorem dX3_code_9 : decode cX3_code 9 = .ok (.if_icmp .ge 23, 3) := by decide +kernel
theorem dX3_code_12 : decode cX3_code 12 = .ok (.iload_n 1, 1) := by decide +kernel
theorem dX3_code_13 : decode cX3_code 13 = .ok (.aload_n 0, 1) := by decide +kernel
theorem dX3_code_14 : decode cX3_code 14 = .ok (.getfield 9, 3) := by decide +kernel
theorem dX3_code_17 : decode cX3_code 17 = .ok (.imul, 1) := by decide +kernel
theorem dX3_code_18 : decode cX3_code 18 = .ok (.aload_n 0, 1) := by decide +kernel
theorem dX3_code_19 : decode cX3_code 19 = .ok (.getfield 22, 3) := by decide +kernel
theorem dX3_code_22 : decode cX3_code 22 = .ok (.iload_n 2, 1) := by decide +kernel
theorem dX3_code_23 : decode cX3_code 23 = .ok (.iaload, 1) := by decide +kernel
theorem dX3_code_24 : decode cX3_code 24 = .ok (.iadd, 1) := by decide +kernel
theorem dX3_code_25 : decode cX3_code 25 = .ok (.istore_n 1, 1) := by decide +kernel
theorem dX3_code_26 : decode cX3_code 26 = .ok (.iinc 2 1, 3) := by decide +kernel
theorem dX3_code_29 : decode cX3_code 29 = .ok (.goto (-25), 3) := by decide +kernel
theorem dX3_code_32 : decode cX3_code 32 = .ok (.iload_n 1, 1) := by decide +kernel
theorem dX3_code_33 : decode cX3_code 33 = .ok (.ireturn, 1) := by decide +kernel
theorem dX3_steppedCode_0 : decode cX3_steppedCode 0 = .ok (.iconst 0, 1) := by decide +kernel
theorem dX3_steppedCode_1 : decode cX3_steppedCode 1 = .ok (.istore_n 1, 1) := by decide +kernel
theorem dX3_steppedCode_2 : decode cX3_steppedCode 2 = .ok (.iconst 0, 1) := by decide +kernel
theorem dX3_steppedCode_3 : decode cX3_steppedCode 3 = .ok (.istore_n 2, 1) := by decide +kernel
theorem dX3_steppedCode_4 : decode cX3_steppedCode 4 = .ok (.iload_n 2, 1) := by decide +kernel
theorem dX3_steppedCode_5 : decode cX3_steppedCode 5 = .ok (.aload_n 0, 1) := by decide +kernel
theorem dX3_steppedCode_6 : decode cX3_steppedCode 6 = .ok (.getfield 15, 3) := by decide +kernel
theorem dX3_steppedCode_9 : decode cX3_steppedCode 9 = .ok (.if_icmp .ge 22, 3) := by decide +kernel
theorem dX3_steppedCode_12 : decode cX3_steppedCode 12 = .ok (.iload_n 1, 1) := by decide +kernel
theorem dX3_steppedCode_13 : decode cX3_steppedCode 13 = .ok (.aload_n 0, 1) := by decide +kernel
theorem dX3_steppedCode_14 : decode cX3_steppedCode 14 = .ok (.getfield 9, 3) := by decide +kernel
theorem dX3_steppedCode_17 : decode cX3_steppedCode 17 = .ok (.imul, 1) := by decide +kernel
theorem dX3_steppedCode_18 : decode cX3_steppedCode 18 = .ok (.aload_n 0, 1) := by decide +kernel
theorem dX3_steppedCode_19 : decode cX3_steppedCode 19 = .ok (.iload_n 2, 1) := by decide +kernel
theorem dX3_steppedCode_20 : decode cX3_steppedCode 20 = .ok (.invokevirtual 66, 3) := by decide +kernel
theorem dX3_steppedCode_23 : decode cX3_steppedCode 23 = .ok (.iadd, 1) := by decide +kernel
theorem dX3_steppedCode_24 : decode cX3_steppedCode 24 = .ok (.istore_n 1, 1) := by decide +kernel
theorem dX3_steppedCode_25 : decode cX3_steppedCode 25 = .ok (.iinc 2 1, 3) := by decide +kernel
theorem dX3_steppedCode_28 : decode cX3_steppedCode 28 = .ok (.goto (-24), 3) := by decide +kernel
theorem dX3_steppedCode_31 : decode cX3_steppedCode 31 = .ok (.iload_n 1, 1) := by decide +kernel
theorem dX3_steppedCode_32 : decode cX3_steppedCode 32 = .ok (.ireturn, 1) := by decide +kernel
theorem dX4_init_0 : decode cX4_init 0 = .ok (.aload_n 0, 1) := by decide +kernel
theorem dX4_init_1 : decode cX4_init 1 = .ok (.invokespecial 3, 3) := by decide +kernel
theorem dX4_init_4 : decode cX4_init 4 = .ok (.aload_n 0, 1) := by decide +kernel
theorem dX4_init_5 : decode cX4_init 5 = .ok (.iconst (-1), 1) := by decide +kernel
theorem dX4_init_6 : decode cX4_init 6 = .ok (.putfield 11, 3) := by decide +kernel
theorem dX4_init_9 : decode cX4_init 9 = .ok (.aload_n 0, 1) := by decide +kernel
theorem dX4_init_10 : decode cX4_init 10 = .ok (.iconst 0, 1) := by decide +kernel
theorem dX4_init_11 : decode cX4_init 11 = .ok (.putfield 15, 3) := by decide +kernel
theorem dX4_init_14 : decode cX4_init 14 = .ok (.aload_n 0, 1) := by decide +kernel
theorem dX4_init_15 : decode cX4_init 15 = .ok (.bipush 60, 2) := by decide +kernel
theorem dX4_init_17 : decode cX4_init 17 = .ok (.newarray .int, 2) := by decide +kernel
theorem dX4_init_19 : decode cX4_init 19 = .ok (.putfield 18, 3) := by decide +kernel
theorem dX4_init_22 : decode cX4_init 22 = .ok (.return_, 1) := by decide +kernel
theorem dX4_hasNothing_0 : decode cX4_hasNothing 0 = .ok (.aload_n 0, 1) := by decide +kernel
theorem dX4_hasNothing_1 : decode cX4_hasNothing 1 = .ok (.getfield 11, 3) := by decide +kernel
theorem dX4_hasNothing_4 : decode cX4_hasNothing 4 = .ok (.iconst (-1), 1) := by decide +kernel
theorem dX4_hasNothing_5 : decode cX4_hasNothing 5 = .ok (.if_icmp .ne 7, 3) := by decide +kernel
theorem dX4_hasNothing_8 : decode cX4_hasNothing 8 = .ok (.iconst 1, 1) := by decide +kernel
theorem dX4_hasNothing_9 : decode cX4_hasNothing 9 = .ok (.goto 4, 3) := by decide +kernel
theorem dX4_hasNothing_12 : decode cX4_hasNothing 12 = .ok (.iconst 0, 1) := by decide +kernel
theorem dX4_hasNothing_13 : decode cX4_hasNothing 13 = .ok (.ireturn, 1) := by decide +kernel
theorem dX4_renew_0 : decode cX4_renew 0 = .ok (.aload_n 0, 1) := by decide +kernel
theorem dX4_renew_1 : decode cX4_renew 1 = .ok (.iload_n 1, 1) := by decide +kernel
theorem dX4_renew_2 : decode cX4_renew 2 = .ok (.putfield 11, 3) := by decide +kernel
theorem dX4_renew_5 : decode cX4_renew 5 = .ok (.aload_n 0, 1) := by decide +kernel
theorem dX4_renew_6 : decode cX4_renew 6 = .ok (.iload_n 2, 1) := by decide +kernel
theorem dX4_renew_7 : decode cX4_renew 7 = .ok (.putfield 15, 3) := by decide +kernel
theorem dX4_renew_10 : decode cX4_renew 10 = .ok (.aload_n 0, 1) := by decide +kernel
theorem dX4_renew_11 : decode cX4_renew 11 = .ok (.getfield 18, 3) := by decide +kernel
theorem dX4_renew_14 : decode cX4_renew 14 = .ok (.iconst 0, 1) := by decide +kernel
theorem dX4_renew_15 : decode cX4_renew 15 = .ok (.invokestatic 22, 3) := by decide +kernel
theorem dX4_renew_18 : decode cX4_renew 18 = .ok (.return_, 1) := by decide +kernel
theorem dX4_drop_0 : decode cX4_drop 0 = .ok (.aload_n 0, 1) := by decide +kernel
theorem dX4_drop_1 : decode cX4_drop 1 = .ok (.iconst (-1), 1) := by decide +kernel
theorem dX4_drop_2 : decode cX4_drop 2 = .ok (.putfield 11, 3) := by decide +kernel
theorem dX4_drop_5 : decode cX4_drop 5 = .ok (.aload_n 0, 1) := by decide +kernel
theorem dX4_drop_6 : decode cX4_drop 6 = .ok (.iconst 0, 1) := by decide +kernel
theorem dX4_drop_7 : decode cX4_drop 7 = .ok (.putfield 15, 3) := by decide +kernel
theorem dX4_drop_10 : decode cX4_drop 10 = .ok (.return_, 1) := by decide +kernel
theorem dX4_faultAs_0 : decode cX4_faultAs 0 = .ok (.aload_n 0, 1) := by decide +kernel
theorem dX4_faultAs_1 : decode cX4_faultAs 1 = .ok (.invokevirtual 28, 3) := by decide +kernel
theorem dX4_faultAs_4 : decode cX4_faultAs 4 = .ok (.ifCond .ne 15, 3) := by decide +kernel
theorem dX4_faultAs_7 : decode cX4_faultAs 7 = .ok (.aload_n 0, 1) := by decide +kernel
theorem dX4_faultAs_8 : decode cX4_faultAs 8 = .ok (.getfield 11, 3) := by decide +kernel
theorem dX4_faultAs_11 : decode cX4_faultAs 11 = .ok (.iload_n 1, 1) := by decide +kernel
theorem dX4_faultAs_12 : decode cX4_faultAs 12 = .ok (.if_icmp .eq 7, 3) := by decide +kernel
theorem dX4_faultAs_15 : decode cX4_faultAs 15 = .ok (.iconst 2, 1) := by decide +kernel
theorem dX4_faultAs_16 : decode cX4_faultAs 16 = .ok (.goto 9, 3) := by decide +kernel
theorem dX4_faultAs_19 : decode cX4_faultAs 19 = .ok (.aload_n 0, 1) := by decide +kernel
theorem dX4_faultAs_20 : decode cX4_faultAs 20 = .ok (.iload_n 2, 1) := by decide +kernel
theorem dX4_faultAs_21 : decode cX4_faultAs 21 = .ok (.iload_n 3, 1) := by decide +kernel
theorem dX4_faultAs_22 : decode cX4_faultAs 22 = .ok (.invokevirtual 32, 3) := by decide +kernel
theorem dX4_faultAs_25 : decode cX4_faultAs 25 = .ok (.ireturn, 1) := by decide +kernel
theorem dX4_faultOf_0 : decode cX4_faultOf 0 = .ok (.aload_n 0, 1) := by decide +kernel
theorem dX4_faultOf_1 : decode cX4_faultOf 1 = .ok (.invokevirtual 28, 3) := by decide +kernel
theorem dX4_faultOf_4 : decode cX4_faultOf 4 = .ok (.ifCond .eq 5, 3) := by decide +kernel
theorem dX4_faultOf_7 : decode cX4_faultOf 7 = .ok (.iconst 1, 1) := by decide +kernel
theorem dX4_faultOf_8 : decode cX4_faultOf 8 = .ok (.ireturn, 1) := by decide +kernel
theorem dX4_faultOf_9 : decode cX4_faultOf 9 = .ok (.iload_n 2, 1) := by decide +kernel
theorem dX4_faultOf_10 : decode cX4_faultOf 10 = .ok (.ifCond .ge 5, 3) := by decide +kernel
theorem dX4_faultOf_13 : decode cX4_faultOf 13 = .ok (.iconst 4, 1) := by decide +kernel
theorem dX4_faultOf_14 : decode cX4_faultOf 14 = .ok (.ireturn, 1) := by decide +kernel
theorem dX4_faultOf_15 : decode cX4_faultOf 15 = .ok (.aload_n 0, 1) := by decide +kernel
theorem dX4_faultOf_16 : decode cX4_faultOf 16 = .ok (.iload_n 1, 1) := by decide +kernel
theorem dX4_faultOf_17 : decode cX4_faultOf 17 = .ok (.iload_n 2, 1) := by decide +kernel
theorem dX4_faultOf_18 : decode cX4_faultOf 18 = .ok (.invokevirtual 36, 3) := by decide +kernel
theorem dX4_faultOf_21 : decode cX4_faultOf 21 = .ok (.ifCond .eq 7, 3) := by decide +kernel
theorem dX4_faultOf_24 : decode cX4_faultOf 24 = .ok (.iconst 0, 1) := by decide +kernel
theorem dX4_faultOf_25 : decode cX4_faultOf 25 = .ok (.goto 4, 3) := by decide +kernel
theorem dX4_faultOf_28 : decode cX4_faultOf 28 = .ok (.iconst 3, 1) := by decide +kernel
theorem dX4_faultOf_29 : decode cX4_faultOf 29 = .ok (.ireturn, 1) := by decide +kernel
theorem dX4_faultOfCopy_0 : decode cX4_faultOfCopy 0 = .ok (.aload_n 0, 1) := by decide +kernel
theorem dX4_faultOfCopy_1 : decode cX4_faultOfCopy 1 = .ok (.invokevirtual 28, 3) := by decide +kernel
theorem dX4_faultOfCopy_4 : decode cX4_faultOfCopy 4 = .ok (.ifCond .ne 10, 3) := by decide +kernel
theorem dX4_faultOfCopy_7 : decode cX4_faultOfCopy 7 = .ok (.aload_n 2, 1) := by decide +kernel
theorem dX4_faultOfCopy_8 : decode cX4_faultOfCopy 8 = .ok (.invokevirtual 28, 3) := by decide +kernel
theorem dX4_faultOfCopy_11 : decode cX4_faultOfCopy 11 = .ok (.ifCond .eq 5, 3) := by decide +kernel
theorem dX4_faultOfCopy_14 : decode cX4_faultOfCopy 14 = .ok (.iconst 1, 1) := by decide +kernel
theorem dX4_faultOfCopy_15 : decode cX4_faultOfCopy 15 = .ok (.ireturn, 1) := by decide +kernel
theorem dX4_faultOfCopy_16 : decode cX4_faultOfCopy 16 = .ok (.aload_n 0, 1) := by decide +kernel
theorem dX4_faultOfCopy_17 : decode cX4_faultOfCopy 17 = .ok (.getfield 11, 3) := by decide +kernel
theorem dX4_faultOfCopy_20 : decode cX4_faultOfCopy 20 = .ok (.aload_n 2, 1) := by decide +kernel
theorem dX4_faultOfCopy_21 : decode cX4_faultOfCopy 21 = .ok (.getfield 11, 3) := by decide +kernel
theorem dX4_faultOfCopy_24 : decode cX4_faultOfCopy 24 = .ok (.if_icmp .eq 5, 3) := by decide +kernel
theorem dX4_faultOfCopy_27 : decode cX4_faultOfCopy 27 = .ok (.iconst 2, 1) := by decide +kernel
theorem dX4_faultOfCopy_28 : decode cX4_faultOfCopy 28 = .ok (.ireturn, 1) := by decide +kernel
theorem dX4_faultOfCopy_29 : decode cX4_faultOfCopy 29 = .ok (.aload_n 0, 1) := by decide +kernel
theorem dX4_faultOfCopy_30 : decode cX4_faultOfCopy 30 = .ok (.iload_n 1, 1) := by decide +kernel
theorem dX4_faultOfCopy_31 : decode cX4_faultOfCopy 31 = .ok (.iload 4, 2) := by decide +kernel
theorem dX4_faultOfCopy_33 : decode cX4_faultOfCopy 33 = .ok (.invokevirtual 36, 3) := by decide +kernel
theorem dX4_faultOfCopy_36 : decode cX4_faultOfCopy 36 = .ok (.ifCond .eq 17, 3) := by decide +kernel
theorem dX4_faultOfCopy_39 : decode cX4_faultOfCopy 39 = .ok (.aload_n 2, 1) := by decide +kernel
theorem dX4_faultOfCopy_40 : decode cX4_faultOfCopy 40 = .ok (.iload_n 3, 1) := by decide +kernel
theorem dX4_faultOfCopy_41 : decode cX4_faultOfCopy 41 = .ok (.iload 4, 2) := by decide +kernel
theorem dX4_faultOfCopy_43 : decode cX4_faultOfCopy 43 = .ok (.invokevirtual 36, 3) := by decide +kernel
theorem dX4_faultOfCopy_46 : decode cX4_faultOfCopy 46 = .ok (.ifCond .eq 7, 3) := by decide +kernel
theorem dX4_faultOfCopy_49 : decode cX4_faultOfCopy 49 = .ok (.iconst 0, 1) := by decide +kernel
theorem dX4_faultOfCopy_50 : decode cX4_faultOfCopy 50 = .ok (.goto 4, 3) := by decide +kernel
theorem dX4_faultOfCopy_53 : decode cX4_faultOfCopy 53 = .ok (.iconst 3, 1) := by decide +kernel
theorem dX4_faultOfCopy_54 : decode cX4_faultOfCopy 54 = .ok (.ireturn, 1) := by decide +kernel
theorem dX4_spans_0 : decode cX4_spans 0 = .ok (.iload_n 2, 1) := by decide +kernel
theorem dX4_spans_1 : decode cX4_spans 1 = .ok (.ifCond .lt 29, 3) := by decide +kernel
theorem dX4_spans_4 : decode cX4_spans 4 = .ok (.iload_n 1, 1) := by decide +kernel
theorem dX4_spans_5 : decode cX4_spans 5 = .ok (.ifCond .lt 25, 3) := by decide +kernel
theorem dX4_spans_8 : decode cX4_spans 8 = .ok (.iload_n 1, 1) := by decide +kernel
theorem dX4_spans_9 : decode cX4_spans 9 = .ok (.aload_n 0, 1) := by decide +kernel
theorem dX4_spans_10 : decode cX4_spans 10 = .ok (.getfield 15, 3) := by decide +kernel
theorem dX4_spans_13 : decode cX4_spans 13 = .ok (.if_icmp .gt 17, 3) := by decide +kernel
theorem dX4_spans_16 : decode cX4_spans 16 = .ok (.iload_n 2, 1) := by decide +kernel
theorem dX4_spans_17 : decode cX4_spans 17 = .ok (.aload_n 0, 1) := by decide +kernel
theorem dX4_spans_18 : decode cX4_spans 18 = .ok (.getfield 15, 3) := by decide +kernel
theorem dX4_spans_21 : decode cX4_spans 21 = .ok (.iload_n 1, 1) := by decide +kernel
theorem dX4_spans_22 : decode cX4_spans 22 = .ok (.isub, 1) := by decide +kernel
theorem dX4_spans_23 : decode cX4_spans 23 = .ok (.if_icmp .gt 7, 3) := by decide +kernel
theorem dX4_spans_26 : decode cX4_spans 26 = .ok (.iconst 1, 1) := by decide +kernel
theorem dX4_spans_27 : decode cX4_spans 27 = .ok (.goto 4, 3) := by decide +kernel
theorem dX4_spans_30 : decode cX4_spans 30 = .ok (.iconst 0, 1) := by decide +kernel
theorem dX4_spans_31 : decode cX4_spans 31 = .ok (.ireturn, 1) := by decide +kernel
theorem dX4_at_0 : decode cX4_at 0 = .ok (.iload_n 1, 1) := by decide +kernel
theorem dX4_at_1 : decode cX4_at 1 = .ok (.ifCond .lt 20, 3) := by decide +kernel
theorem dX4_at_4 : decode cX4_at 4 = .ok (.iload_n 1, 1) := by decide +kernel
theorem dX4_at_5 : decode cX4_at 5 = .ok (.aload_n 0, 1) := by decide +kernel
theorem dX4_at_6 : decode cX4_at 6 = .ok (.getfield 15, 3) := by decide +kernel
theorem dX4_at_9 : decode cX4_at 9 = .ok (.if_icmp .ge 12, 3) := by decide +kernel
theorem dX4_at_12 : decode cX4_at 12 = .ok (.aload_n 0, 1) := by decide +kernel
theorem dX4_at_13 : decode cX4_at 13 = .ok (.getfield 18, 3) := by decide +kernel
theorem dX4_at_16 : decode cX4_at 16 = .ok (.iload_n 1, 1) := by decide +kernel
theorem dX4_at_17 : decode cX4_at 17 = .ok (.iaload, 1) := by decide +kernel
theorem dX4_at_18 : decode cX4_at 18 = .ok (.goto 4, 3) := by decide +kernel
theorem dX4_at_21 : decode cX4_at 21 = .ok (.iconst 0, 1) := by decide +kernel
theorem dX4_at_22 : decode cX4_at 22 = .ok (.ireturn, 1) := by decide +kernel
theorem dX4_change_0 : decode cX4_change 0 = .ok (.iload_n 1, 1) := by decide +kernel
theorem dX4_change_1 : decode cX4_change 1 = .ok (.ifCond .lt 22, 3) := by decide +kernel
theorem dX4_change_4 : decode cX4_change 4 = .ok (.iload_n 1, 1) := by decide +kernel
theorem dX4_change_5 : decode cX4_change 5 = .ok (.aload_n 0, 1) := by decide +kernel
theorem dX4_change_6 : decode cX4_change 6 = .ok (.getfield 15, 3) := by decide +kernel
theorem dX4_change_9 : decode cX4_change 9 = .ok (.if_icmp .ge 14, 3) := by decide +kernel
theorem dX4_change_12 : decode cX4_change 12 = .ok (.aload_n 0, 1) := by decide +kernel
theorem dX4_change_13 : decode cX4_change 13 = .ok (.getfield 18, 3) := by decide +kernel
theorem dX4_change_16 : decode cX4_change 16 = .ok (.iload_n 1, 1) := by decide +kernel
theorem dX4_change_17 : decode cX4_change 17 = .ok (.aload_n 0, 1) := by decide +kernel
theorem dX4_change_18 : decode cX4_change 18 = .ok (.iload_n 2, 1) := by decide +kernel
theorem dX4_change_19 : decode cX4_change 19 = .ok (.invokevirtual 40, 3) := by decide +kernel
theorem dX4_change_22 : decode cX4_change 22 = .ok (.iastore, 1) := by decide +kernel
theorem dX4_change_23 : decode cX4_change 23 = .ok (.return_, 1) := by decide +kernel
theorem dX4_cut_0 : decode cX4_cut 0 = .ok (.aload_n 0, 1) := by decide +kernel
theorem dX4_cut_1 : decode cX4_cut 1 = .ok (.getfield 11, 3) := by decide +kernel
theorem dX4_cut_4 : decode cX4_cut 4 = .ok (.lookupswitch 34 #[(0, 28), (1, 31)], 28) := by decide +kernel
theorem dX4_cut_32 : decode cX4_cut 32 = .ok (.iload_n 1, 1) := by decide +kernel
theorem dX4_cut_33 : decode cX4_cut 33 = .ok (.i2b, 1) := by decide +kernel
theorem dX4_cut_34 : decode cX4_cut 34 = .ok (.ireturn, 1) := by decide +kernel
theorem dX4_cut_35 : decode cX4_cut 35 = .ok (.iload_n 1, 1) := by decide +kernel
theorem dX4_cut_36 : decode cX4_cut 36 = .ok (.i2s, 1) := by decide +kernel
theorem dX4_cut_37 : decode cX4_cut 37 = .ok (.ireturn, 1) := by decide +kernel
theorem dX4_cut_38 : decode cX4_cut 38 = .ok (.iload_n 1, 1) := by decide +kernel
theorem dX4_cut_39 : decode cX4_cut 39 = .ok (.ireturn, 1) := by decide +kernel
theorem dX5_init_0 : decode cX5_init 0 = .ok (.aload_n 0, 1) := by decide +kernel
theorem dX5_init_1 : decode cX5_init 1 = .ok (.invokespecial 3, 3) := by decide +kernel
theorem dX5_init_4 : decode cX5_init 4 = .ok (.aload_n 0, 1) := by decide +kernel
theorem dX5_init_5 : decode cX5_init 5 = .ok (.iconst 0, 1) := by decide +kernel
theorem dX5_init_6 : decode cX5_init 6 = .ok (.newarray .int, 2) := by decide +kernel
theorem dX5_init_8 : decode cX5_init 8 = .ok (.putfield 9, 3) := by decide +kernel
theorem dX5_init_11 : decode cX5_init 11 = .ok (.aload_n 0, 1) := by decide +kernel
theorem dX5_init_12 : decode cX5_init 12 = .ok (.iconst 0, 1) := by decide +kernel
theorem dX5_init_13 : decode cX5_init 13 = .ok (.newarray .int, 2) := by decide +kernel
theorem dX5_init_15 : decode cX5_init 15 = .ok (.putfield 15, 3) := by decide +kernel
theorem dX5_init_18 : decode cX5_init 18 = .ok (.aload_n 0, 1) := by decide +kernel
theorem dX5_init_19 : decode cX5_init 19 = .ok (.iconst 0, 1) := by decide +kernel
theorem dX5_init_20 : decode cX5_init 20 = .ok (.newarray .int, 2) := by decide +kernel
theorem dX5_init_22 : decode cX5_init 22 = .ok (.putfield 18, 3) := by decide +kernel
theorem dX5_init_25 : decode cX5_init 25 = .ok (.aload_n 0, 1) := by decide +kernel
theorem dX5_init_26 : decode cX5_init 26 = .ok (.iconst 0, 1) := by decide +kernel
theorem dX5_init_27 : decode cX5_init 27 = .ok (.putfield 21, 3) := by decide +kernel
theorem dX5_init_30 : decode cX5_init 30 = .ok (.aload_n 0, 1) := by decide +kernel
theorem dX5_init_31 : decode cX5_init 31 = .ok (.bipush (-9), 2) := by decide +kernel
theorem dX5_init_33 : decode cX5_init 33 = .ok (.putfield 25, 3) := by decide +kernel
theorem dX5_init_36 : decode cX5_init 36 = .ok (.return_, 1) := by decide +kernel
theorem dX5_forget_0 : decode cX5_forget 0 = .ok (.aload_n 0, 1) := by decide +kernel
theorem dX5_forget_1 : decode cX5_forget 1 = .ok (.bipush (-9), 2) := by decide +kernel
theorem dX5_forget_3 : decode cX5_forget 3 = .ok (.putfield 25, 3) := by decide +kernel
theorem dX5_forget_6 : decode cX5_forget 6 = .ok (.return_, 1) := by decide +kernel
theorem dX5_goTo_0 : decode cX5_goTo 0 = .ok (.aload_n 0, 1) := by decide +kernel
theorem dX5_goTo_1 : decode cX5_goTo 1 = .ok (.getfield 25, 3) := by decide +kernel
theorem dX5_goTo_4 : decode cX5_goTo 4 = .ok (.bipush (-9), 2) := by decide +kernel
theorem dX5_goTo_6 : decode cX5_goTo 6 = .ok (.if_icmp .eq 11, 3) := by decide +kernel
theorem dX5_goTo_9 : decode cX5_goTo 9 = .ok (.aload_n 0, 1) := by decide +kernel
theorem dX5_goTo_10 : decode cX5_goTo 10 = .ok (.getfield 25, 3) := by decide +kernel
theorem dX5_goTo_13 : decode cX5_goTo 13 = .ok (.iload_n 2, 1) := by decide +kernel
theorem dX5_goTo_14 : decode cX5_goTo 14 = .ok (.if_icmp .le 8, 3) := by decide +kernel
theorem dX5_goTo_17 : decode cX5_goTo 17 = .ok (.aload_n 0, 1) := by decide +kernel
theorem dX5_goTo_18 : decode cX5_goTo 18 = .ok (.aload_n 1, 1) := by decide +kernel
theorem dX5_goTo_19 : decode cX5_goTo 19 = .ok (.invokevirtual 28, 3) := by decide +kernel
theorem dX5_goTo_22 : decode cX5_goTo 22 = .ok (.aload_n 0, 1) := by decide +kernel
theorem dX5_goTo_23 : decode cX5_goTo 23 = .ok (.getfield 25, 3) := by decide +kernel
theorem dX5_goTo_26 : decode cX5_goTo 26 = .ok (.istore_n 3, 1) := by decide +kernel
theorem dX5_goTo_27 : decode cX5_goTo 27 = .ok (.iload_n 3, 1) := by decide +kernel
theorem dX5_goTo_28 : decode cX5_goTo 28 = .ok (.iload_n 2, 1) := by decide +kernel
theorem dX5_goTo_29 : decode cX5_goTo 29 = .ok (.if_icmp .ge 14, 3) := by decide +kernel
theorem dX5_goTo_32 : decode cX5_goTo 32 = .ok (.aload_n 0, 1) := by decide +kernel
theorem dX5_goTo_33 : decode cX5_goTo 33 = .ok (.aload_n 1, 1) := by decide +kernel
theorem dX5_goTo_34 : decode cX5_goTo 34 = .ok (.invokevirtual 32, 3) := by decide +kernel
theorem dX5_goTo_37 : decode cX5_goTo 37 = .ok (.iinc 3 1, 3) := by decide +kernel
theorem dX5_goTo_40 : decode cX5_goTo 40 = .ok (.goto (-13), 3) := by decide +kernel
theorem dX5_goTo_43 : decode cX5_goTo 43 = .ok (.aload_n 0, 1) := by decide +kernel
theorem dX5_goTo_44 : decode cX5_goTo 44 = .ok (.iload_n 2, 1) := by decide +kernel
theorem dX5_goTo_45 : decode cX5_goTo 45 = .ok (.putfield 25, 3) := by decide +kernel
theorem dX5_goTo_48 : decode cX5_goTo 48 = .ok (.return_, 1) := by decide +kernel
theorem dX5_begin_0 : decode cX5_begin 0 = .ok (.aload_n 0, 1) := by decide +kernel
theorem dX5_begin_1 : decode cX5_begin 1 = .ok (.getfield 9, 3) := by decide +kernel
theorem dX5_begin_4 : decode cX5_begin 4 = .ok (.arraylength, 1) := by decide +kernel
theorem dX5_begin_5 : decode cX5_begin 5 = .ok (.aload_n 1, 1) := by decide +kernel
theorem dX5_begin_6 : decode cX5_begin 6 = .ok (.getfield 35, 3) := by decide +kernel
theorem dX5_begin_9 : decode cX5_begin 9 = .ok (.if_icmp .ge 33, 3) := by decide +kernel
theorem dX5_begin_12 : decode cX5_begin 12 = .ok (.aload_n 0, 1) := by decide +kernel
theorem dX5_begin_13 : decode cX5_begin 13 = .ok (.aload_n 1, 1) := by decide +kernel
theorem dX5_begin_14 : decode cX5_begin 14 = .ok (.getfield 35, 3) := by decide +kernel
theorem dX5_begin_17 : decode cX5_begin 17 = .ok (.newarray .int, 2) := by decide +kernel
theorem dX5_begin_19 : decode cX5_begin 19 = .ok (.putfield 9, 3) := by decide +kernel
theorem dX5_begin_22 : decode cX5_begin 22 = .ok (.aload_n 0, 1) := by decide +kernel
theorem dX5_begin_23 : decode cX5_begin 23 = .ok (.aload_n 1, 1) := by decide +kernel
theorem dX5_begin_24 : decode cX5_begin 24 = .ok (.getfield 35, 3) := by decide +kernel
theorem dX5_begin_27 : decode cX5_begin 27 = .ok (.newarray .int, 2) := by decide +kernel
theorem dX5_begin_29 : decode cX5_begin 29 = .ok (.putfield 15, 3) := by decide +kernel
theorem dX5_begin_32 : decode cX5_begin 32 = .ok (.aload_n 0, 1) := by decide +kernel
theorem dX5_begin_33 : decode cX5_begin 33 = .ok (.aload_n 1, 1) := by decide +kernel
theorem dX5_begin_34 : decode cX5_begin 34 = .ok (.getfield 35, 3) := by decide +kernel
theorem dX5_begin_37 : decode cX5_begin 37 = .ok (.newarray .int, 2) := by decide +kernel
theorem dX5_begin_39 : decode cX5_begin 39 = .ok (.putfield 18, 3) := by decide +kernel
theorem dX5_begin_42 : decode cX5_begin 42 = .ok (.iconst 0, 1) := by decide +kernel
theorem dX5_begin_43 : decode cX5_begin 43 = .ok (.istore_n 2, 1) := by decide +kernel
theorem dX5_begin_44 : decode cX5_begin 44 = .ok (.iload_n 2, 1) := by decide +kernel
theorem dX5_begin_45 : decode cX5_begin 45 = .ok (.aload_n 1, 1) := by decide +kernel
theorem dX5_begin_46 : decode cX5_begin 46 = .ok (.getfield 35, 3) := by decide +kernel
theorem dX5_begin_49 : decode cX5_begin 49 = .ok (.if_icmp .ge 23, 3) := by decide +kernel
theorem dX5_begin_52 : decode cX5_begin 52 = .ok (.aload_n 0, 1) := by decide +kernel
theorem dX5_begin_53 : decode cX5_begin 53 = .ok (.getfield 9, 3) := by decide +kernel
theorem dX5_begin_56 : decode cX5_begin 56 = .ok (.iload_n 2, 1) := by decide +kernel
theorem dX5_begin_57 : decode cX5_begin 57 = .ok (.iload_n 2, 1) := by decide +kernel
theorem dX5_begin_58 : decode cX5_begin 58 = .ok (.iastore, 1) := by decide +kernel
theorem dX5_begin_59 : decode cX5_begin 59 = .ok (.aload_n 0, 1) := by decide +kernel
theorem dX5_begin_60 : decode cX5_begin 60 = .ok (.getfield 15, 3) := by decide +kernel
theorem dX5_begin_63 : decode cX5_begin 63 = .ok (.iload_n 2, 1) := by decide +kernel
theorem dX5_begin_64 : decode cX5_begin 64 = .ok (.iconst 1, 1) := by decide +kernel
theorem dX5_begin_65 : decode cX5_begin 65 = .ok (.iastore, 1) := by decide +kernel
theorem dX5_begin_66 : decode cX5_begin 66 = .ok (.iinc 2 1, 3) := by decide +kernel
theorem dX5_begin_69 : decode cX5_begin 69 = .ok (.goto (-25), 3) := by decide +kernel
theorem dX5_begin_72 : decode cX5_begin 72 = .ok (.aload_n 0, 1) := by decide +kernel
theorem dX5_begin_73 : decode cX5_begin 73 = .ok (.aload_n 1, 1) := by decide +kernel
theorem dX5_begin_74 : decode cX5_begin 74 = .ok (.getfield 35, 3) := by decide +kernel
theorem dX5_begin_77 : decode cX5_begin 77 = .ok (.putfield 21, 3) := by decide +kernel
theorem dX5_begin_80 : decode cX5_begin 80 = .ok (.aload_n 0, 1) := by decide +kernel
theorem dX5_begin_81 : decode cX5_begin 81 = .ok (.iconst 0, 1) := by decide +kernel
theorem dX5_begin_82 : decode cX5_begin 82 = .ok (.putfield 25, 3) := by decide +kernel
theorem dX5_begin_85 : decode cX5_begin 85 = .ok (.return_, 1) := by decide +kernel
theorem dX5_stepAll_0 : decode cX5_stepAll 0 = .ok (.iconst 0, 1) := by decide +kernel
theorem dX5_stepAll_1 : decode cX5_stepAll 1 = .ok (.istore_n 2, 1) := by decide +kernel
theorem dX5_stepAll_2 : decode cX5_stepAll 2 = .ok (.iconst 0, 1) := by decide +kernel
theorem dX5_stepAll_3 : decode cX5_stepAll 3 = .ok (.istore_n 3, 1) := by decide +kernel
theorem dX5_stepAll_4 : decode cX5_stepAll 4 = .ok (.iload_n 3, 1) := by decide +kernel
theorem dX5_stepAll_5 : decode cX5_stepAll 5 = .ok (.aload_n 0, 1) := by decide +kernel
theorem dX5_stepAll_6 : decode cX5_stepAll 6 = .ok (.getfield 21, 3) := by decide +kernel
theorem dX5_stepAll_9 : decode cX5_stepAll 9 = .ok (.if_icmp .ge 97, 3) := by decide +kernel
theorem dX5_stepAll_12 : decode cX5_stepAll 12 = .ok (.aload_n 1, 1) := by decide +kernel
theorem dX5_stepAll_13 : decode cX5_stepAll 13 = .ok (.aload_n 0, 1) := by decide +kernel
theorem dX5_stepAll_14 : decode cX5_stepAll 14 = .ok (.getfield 9, 3) := by decide +kernel
theorem dX5_stepAll_17 : decode cX5_stepAll 17 = .ok (.iload_n 3, 1) := by decide +kernel
theorem dX5_stepAll_18 : decode cX5_stepAll 18 = .ok (.iaload, 1) := by decide +kernel
theorem dX5_stepAll_19 : decode cX5_stepAll 19 = .ok (.invokevirtual 40, 3) := by decide +kernel
theorem dX5_stepAll_22 : decode cX5_stepAll 22 = .ok (.istore 4, 2) := by decide +kernel
theorem dX5_stepAll_24 : decode cX5_stepAll 24 = .ok (.aload_n 0, 1) := by decide +kernel
theorem dX5_stepAll_25 : decode cX5_stepAll 25 = .ok (.iload 4, 2) := by decide +kernel
theorem dX5_stepAll_27 : decode cX5_stepAll 27 = .ok (.iload_n 2, 1) := by decide +kernel
theorem dX5_stepAll_28 : decode cX5_stepAll 28 = .ok (.invokevirtual 44, 3) := by decide +kernel
theorem dX5_stepAll_31 : decode cX5_stepAll 31 = .ok (.istore 5, 2) := by decide +kernel
theorem dX5_stepAll_33 : decode cX5_stepAll 33 = .ok (.iload 5, 2) := by decide +kernel
theorem dX5_stepAll_35 : decode cX5_stepAll 35 = .ok (.bipush (-9), 2) := by decide +kernel
theorem dX5_stepAll_37 : decode cX5_stepAll 37 = .ok (.if_icmp .eq 22, 3) := by decide +kernel
theorem dX5_stepAll_40 : decode cX5_stepAll 40 = .ok (.aload_n 0, 1) := by decide +kernel
theorem dX5_stepAll_41 : decode cX5_stepAll 41 = .ok (.getfield 15, 3) := by decide +kernel
theorem dX5_stepAll_44 : decode cX5_stepAll 44 = .ok (.iload 5, 2) := by decide +kernel
theorem dX5_stepAll_46 : decode cX5_stepAll 46 = .ok (.dup2, 1) := by decide +kernel
theorem dX5_stepAll_47 : decode cX5_stepAll 47 = .ok (.iaload, 1) := by decide +kernel
theorem dX5_stepAll_48 : decode cX5_stepAll 48 = .ok (.aload_n 0, 1) := by decide +kernel
theorem dX5_stepAll_49 : decode cX5_stepAll 49 = .ok (.getfield 15, 3) := by decide +kernel
theorem dX5_stepAll_52 : decode cX5_stepAll 52 = .ok (.iload_n 3, 1) := by decide +kernel
theorem dX5_stepAll_53 : decode cX5_stepAll 53 = .ok (.iaload, 1) := by decide +kernel
theorem dX5_stepAll_54 : decode cX5_stepAll 54 = .ok (.iadd, 1) := by decide +kernel
theorem dX5_stepAll_55 : decode cX5_stepAll 55 = .ok (.iastore, 1) := by decide +kernel
theorem dX5_stepAll_56 : decode cX5_stepAll 56 = .ok (.goto 44, 3) := by decide +kernel
theorem dX5_stepAll_59 : decode cX5_stepAll 59 = .ok (.iload 4, 2) := by decide +kernel
theorem dX5_stepAll_61 : decode cX5_stepAll 61 = .ok (.aload_n 0, 1) := by decide +kernel
theorem dX5_stepAll_62 : decode cX5_stepAll 62 = .ok (.getfield 18, 3) := by decide +kernel
theorem dX5_stepAll_65 : decode cX5_stepAll 65 = .ok (.arraylength, 1) := by decide +kernel
theorem dX5_stepAll_66 : decode cX5_stepAll 66 = .ok (.if_icmp .ge 34, 3) := by decide +kernel
theorem dX5_stepAll_69 : decode cX5_stepAll 69 = .ok (.aload_n 0, 1) := by decide +kernel
theorem dX5_stepAll_70 : decode cX5_stepAll 70 = .ok (.getfield 18, 3) := by decide +kernel
theorem dX5_stepAll_73 : decode cX5_stepAll 73 = .ok (.iload 4, 2) := by decide +kernel
theorem dX5_stepAll_75 : decode cX5_stepAll 75 = .ok (.iload_n 2, 1) := by decide +kernel
theorem dX5_stepAll_76 : decode cX5_stepAll 76 = .ok (.iastore, 1) := by decide +kernel
theorem dX5_stepAll_77 : decode cX5_stepAll 77 = .ok (.aload_n 0, 1) := by decide +kernel
theorem dX5_stepAll_78 : decode cX5_stepAll 78 = .ok (.getfield 9, 3) := by decide +kernel
theorem dX5_stepAll_81 : decode cX5_stepAll 81 = .ok (.iload_n 2, 1) := by decide +kernel
theorem dX5_stepAll_82 : decode cX5_stepAll 82 = .ok (.iload 4, 2) := by decide +kernel
theorem dX5_stepAll_84 : decode cX5_stepAll 84 = .ok (.iastore, 1) := by decide +kernel
theorem dX5_stepAll_85 : decode cX5_stepAll 85 = .ok (.aload_n 0, 1) := by decide +kernel
theorem dX5_stepAll_86 : decode cX5_stepAll 86 = .ok (.getfield 15, 3) := by decide +kernel
theorem dX5_stepAll_89 : decode cX5_stepAll 89 = .ok (.iload_n 2, 1) := by decide +kernel
theorem dX5_stepAll_90 : decode cX5_stepAll 90 = .ok (.aload_n 0, 1) := by decide +kernel
theorem dX5_stepAll_91 : decode cX5_stepAll 91 = .ok (.getfield 15, 3) := by decide +kernel
theorem dX5_stepAll_94 : decode cX5_stepAll 94 = .ok (.iload_n 3, 1) := by decide +kernel
theorem dX5_stepAll_95 : decode cX5_stepAll 95 = .ok (.iaload, 1) := by decide +kernel
theorem dX5_stepAll_96 : decode cX5_stepAll 96 = .ok (.iastore, 1) := by decide +kernel
theorem dX5_stepAll_97 : decode cX5_stepAll 97 = .ok (.iinc 2 1, 3) := by decide +kernel
theorem dX5_stepAll_100 : decode cX5_stepAll 100 = .ok (.iinc 3 1, 3) := by decide +kernel
theorem dX5_stepAll_103 : decode cX5_stepAll 103 = .ok (.goto (-99), 3) := by decide +kernel
theorem dX5_stepAll_106 : decode cX5_stepAll 106 = .ok (.aload_n 0, 1) := by decide +kernel
theorem dX5_stepAll_107 : decode cX5_stepAll 107 = .ok (.iload_n 2, 1) := by decide +kernel
theorem dX5_stepAll_108 : decode cX5_stepAll 108 = .ok (.putfield 21, 3) := by decide +kernel
theorem dX5_stepAll_111 : decode cX5_stepAll 111 = .ok (.return_, 1) := by decide +kernel
theorem dX5_whereKept_0 : decode cX5_whereKept 0 = .ok (.iload_n 1, 1) := by decide +kernel
theorem dX5_whereKept_1 : decode cX5_whereKept 1 = .ok (.aload_n 0, 1) := by decide +kernel
theorem dX5_whereKept_2 : decode cX5_whereKept 2 = .ok (.getfield 18, 3) := by decide +kernel
theorem dX5_whereKept_5 : decode cX5_whereKept 5 = .ok (.arraylength, 1) := by decide +kernel
theorem dX5_whereKept_6 : decode cX5_whereKept 6 = .ok (.if_icmp .ge 12, 3) := by decide +kernel
theorem dX5_whereKept_9 : decode cX5_whereKept 9 = .ok (.aload_n 0, 1) := by decide +kernel
theorem dX5_whereKept_10 : decode cX5_whereKept 10 = .ok (.getfield 18, 3) := by decide +kernel
theorem dX5_whereKept_13 : decode cX5_whereKept 13 = .ok (.iload_n 1, 1) := by decide +kernel
theorem dX5_whereKept_14 : decode cX5_whereKept 14 = .ok (.iaload, 1) := by decide +kernel
theorem dX5_whereKept_15 : decode cX5_whereKept 15 = .ok (.goto 5, 3) := by decide +kernel
theorem dX5_whereKept_18 : decode cX5_whereKept 18 = .ok (.bipush (-9), 2) := by decide +kernel
theorem dX5_whereKept_20 : decode cX5_whereKept 20 = .ok (.istore_n 3, 1) := by decide +kernel
theorem dX5_whereKept_21 : decode cX5_whereKept 21 = .ok (.iload_n 3, 1) := by decide +kernel
theorem dX5_whereKept_22 : decode cX5_whereKept 22 = .ok (.ifCond .lt 22, 3) := by decide +kernel
theorem dX5_whereKept_25 : decode cX5_whereKept 25 = .ok (.iload_n 3, 1) := by decide +kernel
theorem dX5_whereKept_26 : decode cX5_whereKept 26 = .ok (.iload_n 2, 1) := by decide +kernel
theorem dX5_whereKept_27 : decode cX5_whereKept 27 = .ok (.if_icmp .ge 17, 3) := by decide +kernel
theorem dX5_whereKept_30 : decode cX5_whereKept 30 = .ok (.aload_n 0, 1) := by decide +kernel
theorem dX5_whereKept_31 : decode cX5_whereKept 31 = .ok (.getfield 9, 3) := by decide +kernel
theorem dX5_whereKept_34 : decode cX5_whereKept 34 = .ok (.iload_n 3, 1) := by decide +kernel
theorem dX5_whereKept_35 : decode cX5_whereKept 35 = .ok (.iaload, 1) := by decide +kernel
theorem dX5_whereKept_36 : decode cX5_whereKept 36 = .ok (.iload_n 1, 1) := by decide +kernel
theorem dX5_whereKept_37 : decode cX5_whereKept 37 = .ok (.if_icmp .ne 7, 3) := by decide +kernel
theorem dX5_whereKept_40 : decode cX5_whereKept 40 = .ok (.iload_n 3, 1) := by decide +kernel
theorem dX5_whereKept_41 : decode cX5_whereKept 41 = .ok (.goto 5, 3) := by decide +kernel
theorem dX5_whereKept_44 : decode cX5_whereKept 44 = .ok (.bipush (-9), 2) := by decide +kernel
theorem dX5_whereKept_46 : decode cX5_whereKept 46 = .ok (.ireturn, 1) := by decide +kernel
theorem dX5_howMany_0 : decode cX5_howMany 0 = .ok (.iconst 0, 1) := by decide +kernel
theorem dX5_howMany_1 : decode cX5_howMany 1 = .ok (.istore 4, 2) := by decide +kernel
theorem dX5_howMany_3 : decode cX5_howMany 3 = .ok (.iconst 0, 1) := by decide +kernel
theorem dX5_howMany_4 : decode cX5_howMany 4 = .ok (.istore 5, 2) := by decide +kernel
theorem dX5_howMany_6 : decode cX5_howMany 6 = .ok (.iload 5, 2) := by decide +kernel
