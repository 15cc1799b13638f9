theorem dX11_thrown_0 : decode cX11_thrown 0 = .ok (.aload_n 0, 1) := by decide +kernel
theorem dX11_thrown_1 : decode cX11_thrown 1 = .ok (.getfield 3, 3) := by decide +kernel
theorem dX11_thrown_4 : decode cX11_thrown 4 = .ok (.ireturn, 1) := by decide +kernel
theorem dX11_throwsIf_0 : decode cX11_throwsIf 0 = .ok (.iload_n 1, 1) := by decide +kernel
theorem dX11_throwsIf_1 : decode cX11_throwsIf 1 = .ok (.ifCond .eq 8, 3) := by decide +kernel
theorem dX11_throwsIf_4 : decode cX11_throwsIf 4 = .ok (.aload_n 0, 1) := by decide +kernel
theorem dX11_throwsIf_5 : decode cX11_throwsIf 5 = .ok (.iload_n 2, 1) := by decide +kernel
theorem dX11_throwsIf_6 : decode cX11_throwsIf 6 = .ok (.putfield 3, 3) := by decide +kernel
theorem dX11_throwsIf_9 : decode cX11_throwsIf 9 = .ok (.iload_n 1, 1) := by decide +kernel
theorem dX11_throwsIf_10 : decode cX11_throwsIf 10 = .ok (.ireturn, 1) := by decide +kernel
theorem dX11_in_0 : decode cX11_in 0 = .ok (.iload_n 0, 1) := by decide +kernel
theorem dX11_in_1 : decode cX11_in 1 = .ok (.iload_n 1, 1) := by decide +kernel
theorem dX11_in_2 : decode cX11_in 2 = .ok (.if_icmp .lt 12, 3) := by decide +kernel
theorem dX11_in_5 : decode cX11_in 5 = .ok (.iload_n 0, 1) := by decide +kernel
theorem dX11_in_6 : decode cX11_in 6 = .ok (.iload_n 2, 1) := by decide +kernel
theorem dX11_in_7 : decode cX11_in 7 = .ok (.if_icmp .gt 7, 3) := by decide +kernel
theorem dX11_in_10 : decode cX11_in 10 = .ok (.iconst 1, 1) := by decide +kernel
theorem dX11_in_11 : decode cX11_in 11 = .ok (.goto 4, 3) := by decide +kernel
theorem dX11_in_14 : decode cX11_in 14 = .ok (.iconst 0, 1) := by decide +kernel
theorem dX11_in_15 : decode cX11_in 15 = .ok (.ireturn, 1) := by decide +kernel
theorem dX11_has_0 : decode cX11_has 0 = .ok (.iload_n 0, 1) := by decide +kernel
theorem dX11_has_1 : decode cX11_has 1 = .ok (.iload_n 1, 1) := by decide +kernel
theorem dX11_has_2 : decode cX11_has 2 = .ok (.ishr, 1) := by decide +kernel
theorem dX11_has_3 : decode cX11_has 3 = .ok (.iconst 1, 1) := by decide +kernel
theorem dX11_has_4 : decode cX11_has 4 = .ok (.iand, 1) := by decide +kernel
theorem dX11_has_5 : decode cX11_has 5 = .ok (.iconst 1, 1) := by decide +kernel
theorem dX11_has_6 : decode cX11_has 6 = .ok (.if_icmp .ne 7, 3) := by decide +kernel
theorem dX11_has_9 : decode cX11_has 9 = .ok (.iconst 1, 1) := by decide +kernel
theorem dX11_has_10 : decode cX11_has 10 = .ok (.goto 4, 3) := by decide +kernel
theorem dX11_has_13 : decode cX11_has 13 = .ok (.iconst 0, 1) := by decide +kernel
theorem dX11_has_14 : decode cX11_has 14 = .ok (.ireturn, 1) := by decide +kernel
theorem dX11_init_0 : decode cX11_init 0 = .ok (.aload_n 0, 1) := by decide +kernel
theorem dX11_init_1 : decode cX11_init 1 = .ok (.invokespecial 7, 3) := by decide +kernel
theorem dX11_init_4 : decode cX11_init 4 = .ok (.aload_n 0, 1) := by decide +kernel
theorem dX11_init_5 : decode cX11_init 5 = .ok (.sipush 1158, 3) := by decide +kernel
theorem dX11_init_8 : decode cX11_init 8 = .ok (.newarray .int, 2) := by decide +kernel
theorem dX11_init_10 : decode cX11_init 10 = .ok (.putfield 13, 3) := by decide +kernel
theorem dX11_init_13 : decode cX11_init 13 = .ok (.aload_n 0, 1) := by decide +kernel
theorem dX11_init_14 : decode cX11_init 14 = .ok (.sipush 1158, 3) := by decide +kernel
theorem dX11_init_17 : decode cX11_init 17 = .ok (.newarray .int, 2) := by decide +kernel
theorem dX11_init_19 : decode cX11_init 19 = .ok (.putfield 17, 3) := by decide +kernel
theorem dX11_init_22 : decode cX11_init 22 = .ok (.aload_n 0, 1) := by decide +kernel
theorem dX11_init_23 : decode cX11_init 23 = .ok (.sipush 9264, 3) := by decide +kernel
theorem dX11_init_26 : decode cX11_init 26 = .ok (.newarray .int, 2) := by decide +kernel
theorem dX11_init_28 : decode cX11_init 28 = .ok (.putfield 20, 3) := by decide +kernel
theorem dX11_init_31 : decode cX11_init 31 = .ok (.aload_n 0, 1) := by decide +kernel
theorem dX11_init_32 : decode cX11_init 32 = .ok (.sipush 900, 3) := by decide +kernel
theorem dX11_init_35 : decode cX11_init 35 = .ok (.newarray .byte, 2) := by decide +kernel
theorem dX11_init_37 : decode cX11_init 37 = .ok (.putfield 23, 3) := by decide +kernel
theorem dX11_init_40 : decode cX11_init 40 = .ok (.aload_n 0, 1) := by decide +kernel
theorem dX11_init_41 : decode cX11_init 41 = .ok (.iconst 5, 1) := by decide +kernel
theorem dX11_init_42 : decode cX11_init 42 = .ok (.newarray .int, 2) := by decide +kernel
theorem dX11_init_44 : decode cX11_init 44 = .ok (.putfield 27, 3) := by decide +kernel
theorem dX11_init_47 : decode cX11_init 47 = .ok (.aload_n 0, 1) := by decide +kernel
theorem dX11_init_48 : decode cX11_init 48 = .ok (.iconst (-1), 1) := by decide +kernel
theorem dX11_init_49 : decode cX11_init 49 = .ok (.putfield 30, 3) := by decide +kernel
theorem dX11_init_52 : decode cX11_init 52 = .ok (.aload_n 0, 1) := by decide +kernel
theorem dX11_init_53 : decode cX11_init 53 = .ok (.bipush 13, 2) := by decide +kernel
theorem dX11_init_55 : decode cX11_init 55 = .ok (.newarray .int, 2) := by decide +kernel
theorem dX11_init_57 : decode cX11_init 57 = .ok (.putfield 33, 3) := by decide +kernel
theorem dX11_init_60 : decode cX11_init 60 = .ok (.aload_n 0, 1) := by decide +kernel
theorem dX11_init_61 : decode cX11_init 61 = .ok (.iconst 5, 1) := by decide +kernel
theorem dX11_init_62 : decode cX11_init 62 = .ok (.newarray .int, 2) := by decide +kernel
theorem dX11_init_64 : decode cX11_init 64 = .ok (.putfield 36, 3) := by decide +kernel
theorem dX11_init_67 : decode cX11_init 67 = .ok (.aload_n 0, 1) := by decide +kernel
theorem dX11_init_68 : decode cX11_init 68 = .ok (.iconst 5, 1) := by decide +kernel
theorem dX11_init_69 : decode cX11_init 69 = .ok (.newarray .int, 2) := by decide +kernel
theorem dX11_init_71 : decode cX11_init 71 = .ok (.putfield 39, 3) := by decide +kernel
theorem dX11_init_74 : decode cX11_init 74 = .ok (.aload_n 0, 1) := by decide +kernel
theorem dX11_init_75 : decode cX11_init 75 = .ok (.bipush 10, 2) := by decide +kernel
theorem dX11_init_77 : decode cX11_init 77 = .ok (.newarray .int, 2) := by decide +kernel
theorem dX11_init_79 : decode cX11_init 79 = .ok (.putfield 42, 3) := by decide +kernel
theorem dX11_init_82 : decode cX11_init 82 = .ok (.aload_n 0, 1) := by decide +kernel
theorem dX11_init_83 : decode cX11_init 83 = .ok (.bipush 30, 2) := by decide +kernel
theorem dX11_init_85 : decode cX11_init 85 = .ok (.newarray .int, 2) := by decide +kernel
theorem dX11_init_87 : decode cX11_init 87 = .ok (.putfield 45, 3) := by decide +kernel
theorem dX11_init_90 : decode cX11_init 90 = .ok (.aload_n 0, 1) := by decide +kernel
theorem dX11_init_91 : decode cX11_init 91 = .ok (.iconst 5, 1) := by decide +kernel
theorem dX11_init_92 : decode cX11_init 92 = .ok (.newarray .int, 2) := by decide +kernel
theorem dX11_init_94 : decode cX11_init 94 = .ok (.putfield 48, 3) := by decide +kernel
theorem dX11_init_97 : decode cX11_init 97 = .ok (.aload_n 0, 1) := by decide +kernel
theorem dX11_init_98 : decode cX11_init 98 = .ok (.bipush 60, 2) := by decide +kernel
theorem dX11_init_100 : decode cX11_init 100 = .ok (.newarray .int, 2) := by decide +kernel
theorem dX11_init_102 : decode cX11_init 102 = .ok (.putfield 51, 3) := by decide +kernel
theorem dX11_init_105 : decode cX11_init 105 = .ok (.aload_n 0, 1) := by decide +kernel
theorem dX11_init_106 : decode cX11_init 106 = .ok (.sipush 200, 3) := by decide +kernel
theorem dX11_init_109 : decode cX11_init 109 = .ok (.newarray .byte, 2) := by decide +kernel
theorem dX11_init_111 : decode cX11_init 111 = .ok (.putfield 54, 3) := by decide +kernel
theorem dX11_init_114 : decode cX11_init 114 = .ok (.aload_n 0, 1) := by decide +kernel
theorem dX11_init_115 : decode cX11_init 115 = .ok (.invokevirtual 57, 3) := by decide +kernel
theorem dX11_init_118 : decode cX11_init 118 = .ok (.return_, 1) := by decide +kernel
theorem dX11_begins_0 : decode cX11_begins 0 = .ok (.iconst 0, 1) := by decide +kernel
theorem dX11_begins_1 : decode cX11_begins 1 = .ok (.istore_n 1, 1) := by decide +kernel
theorem dX11_begins_2 : decode cX11_begins 2 = .ok (.iload_n 1, 1) := by decide +kernel
theorem dX11_begins_3 : decode cX11_begins 3 = .ok (.sipush 1158, 3) := by decide +kernel
theorem dX11_begins_6 : decode cX11_begins 6 = .ok (.if_icmp .ge 16, 3) := by decide +kernel
theorem dX11_begins_9 : decode cX11_begins 9 = .ok (.aload_n 0, 1) := by decide +kernel
theorem dX11_begins_10 : decode cX11_begins 10 = .ok (.getfield 13, 3) := by decide +kernel
theorem dX11_begins_13 : decode cX11_begins 13 = .ok (.iload_n 1, 1) := by decide +kernel
theorem dX11_begins_14 : decode cX11_begins 14 = .ok (.iconst 0, 1) := by decide +kernel
theorem dX11_begins_15 : decode cX11_begins 15 = .ok (.iastore, 1) := by decide +kernel
theorem dX11_begins_16 : decode cX11_begins 16 = .ok (.iinc 1 1, 3) := by decide +kernel
theorem dX11_begins_19 : decode cX11_begins 19 = .ok (.goto (-17), 3) := by decide +kernel
theorem dX11_begins_22 : decode cX11_begins 22 = .ok (.aload_n 0, 1) := by decide +kernel
theorem dX11_begins_23 : decode cX11_begins 23 = .ok (.getfield 13, 3) := by decide +kernel
theorem dX11_begins_26 : decode cX11_begins 26 = .ok (.iconst 5, 1) := by decide +kernel
theorem dX11_begins_27 : decode cX11_begins 27 = .ok (.bipush 8, 2) := by decide +kernel
theorem dX11_begins_29 : decode cX11_begins 29 = .ok (.iastore, 1) := by decide +kernel
theorem dX11_begins_30 : decode cX11_begins 30 = .ok (.iconst 0, 1) := by decide +kernel
theorem dX11_begins_31 : decode cX11_begins 31 = .ok (.istore_n 1, 1) := by decide +kernel
theorem dX11_begins_32 : decode cX11_begins 32 = .ok (.iload_n 1, 1) := by decide +kernel
theorem dX11_begins_33 : decode cX11_begins 33 = .ok (.iconst 5, 1) := by decide +kernel
theorem dX11_begins_34 : decode cX11_begins 34 = .ok (.if_icmp .ge 19, 3) := by decide +kernel
theorem dX11_begins_37 : decode cX11_begins 37 = .ok (.aload_n 0, 1) := by decide +kernel
theorem dX11_begins_38 : decode cX11_begins 38 = .ok (.getfield 13, 3) := by decide +kernel
theorem dX11_begins_41 : decode cX11_begins 41 = .ok (.bipush 33, 2) := by decide +kernel
theorem dX11_begins_43 : decode cX11_begins 43 = .ok (.iload_n 1, 1) := by decide +kernel
theorem dX11_begins_44 : decode cX11_begins 44 = .ok (.iadd, 1) := by decide +kernel
theorem dX11_begins_45 : decode cX11_begins 45 = .ok (.iload_n 1, 1) := by decide +kernel
theorem dX11_begins_46 : decode cX11_begins 46 = .ok (.iastore, 1) := by decide +kernel
theorem dX11_begins_47 : decode cX11_begins 47 = .ok (.iinc 1 1, 3) := by decide +kernel
theorem dX11_begins_50 : decode cX11_begins 50 = .ok (.goto (-18), 3) := by decide +kernel
theorem dX11_begins_53 : decode cX11_begins 53 = .ok (.aload_n 0, 1) := by decide +kernel
theorem dX11_begins_54 : decode cX11_begins 54 = .ok (.iconst 0, 1) := by decide +kernel
theorem dX11_begins_55 : decode cX11_begins 55 = .ok (.putfield 60, 3) := by decide +kernel
theorem dX11_begins_58 : decode cX11_begins 58 = .ok (.return_, 1) := by decide +kernel
theorem dX11_copies_0 : decode cX11_copies 0 = .ok (.iconst 0, 1) := by decide +kernel
theorem dX11_copies_1 : decode cX11_copies 1 = .ok (.istore 5, 2) := by decide +kernel
theorem dX11_copies_3 : decode cX11_copies 3 = .ok (.iload 5, 2) := by decide +kernel
theorem dX11_copies_5 : decode cX11_copies 5 = .ok (.sipush 1158, 3) := by decide +kernel
theorem dX11_copies_8 : decode cX11_copies 8 = .ok (.if_icmp .ge 22, 3) := by decide +kernel
theorem dX11_copies_11 : decode cX11_copies 11 = .ok (.aload_n 3, 1) := by decide +kernel
theorem dX11_copies_12 : decode cX11_copies 12 = .ok (.iload 4, 2) := by decide +kernel
theorem dX11_copies_14 : decode cX11_copies 14 = .ok (.iload 5, 2) := by decide +kernel
theorem dX11_copies_16 : decode cX11_copies 16 = .ok (.iadd, 1) := by decide +kernel
theorem dX11_copies_17 : decode cX11_copies 17 = .ok (.aload_n 1, 1) := by decide +kernel
theorem dX11_copies_18 : decode cX11_copies 18 = .ok (.iload_n 2, 1) := by decide +kernel
theorem dX11_copies_19 : decode cX11_copies 19 = .ok (.iload 5, 2) := by decide +kernel
theorem dX11_copies_21 : decode cX11_copies 21 = .ok (.iadd, 1) := by decide +kernel
theorem dX11_copies_22 : decode cX11_copies 22 = .ok (.iaload, 1) := by decide +kernel
theorem dX11_copies_23 : decode cX11_copies 23 = .ok (.iastore, 1) := by decide +kernel
theorem dX11_copies_24 : decode cX11_copies 24 = .ok (.iinc 5 1, 3) := by decide +kernel
theorem dX11_copies_27 : decode cX11_copies 27 = .ok (.goto (-24), 3) := by decide +kernel
theorem dX11_copies_30 : decode cX11_copies 30 = .ok (.return_, 1) := by decide +kernel
theorem dX11_keeps_0 : decode cX11_keeps 0 = .ok (.aload_n 0, 1) := by decide +kernel
theorem dX11_keeps_1 : decode cX11_keeps 1 = .ok (.getfield 60, 3) := by decide +kernel
theorem dX11_keeps_4 : decode cX11_keeps 4 = .ok (.bipush 8, 2) := by decide +kernel
theorem dX11_keeps_6 : decode cX11_keeps 6 = .ok (.if_icmp .ne 46, 3) := by decide +kernel
theorem dX11_keeps_9 : decode cX11_keeps 9 = .ok (.sipush 1158, 3) := by decide +kernel
theorem dX11_keeps_12 : decode cX11_keeps 12 = .ok (.istore_n 1, 1) := by decide +kernel
theorem dX11_keeps_13 : decode cX11_keeps 13 = .ok (.iload_n 1, 1) := by decide +kernel
theorem dX11_keeps_14 : decode cX11_keeps 14 = .ok (.sipush 9264, 3) := by decide +kernel
theorem dX11_keeps_17 : decode cX11_keeps 17 = .ok (.if_icmp .ge 25, 3) := by decide +kernel
theorem dX11_keeps_20 : decode cX11_keeps 20 = .ok (.aload_n 0, 1) := by decide +kernel
theorem dX11_keeps_21 : decode cX11_keeps 21 = .ok (.getfield 20, 3) := by decide +kernel
theorem dX11_keeps_24 : decode cX11_keeps 24 = .ok (.iload_n 1, 1) := by decide +kernel
theorem dX11_keeps_25 : decode cX11_keeps 25 = .ok (.sipush 1158, 3) := by decide +kernel
theorem dX11_keeps_28 : decode cX11_keeps 28 = .ok (.isub, 1) := by decide +kernel
theorem dX11_keeps_29 : decode cX11_keeps 29 = .ok (.aload_n 0, 1) := by decide +kernel
theorem dX11_keeps_30 : decode cX11_keeps 30 = .ok (.getfield 20, 3) := by decide +kernel
theorem dX11_keeps_33 : decode cX11_keeps 33 = .ok (.iload_n 1, 1) := by decide +kernel
theorem dX11_keeps_34 : decode cX11_keeps 34 = .ok (.iaload, 1) := by decide +kernel
theorem dX11_keeps_35 : decode cX11_keeps 35 = .ok (.iastore, 1) := by decide +kernel
theorem dX11_keeps_36 : decode cX11_keeps 36 = .ok (.iinc 1 1, 3) := by decide +kernel
theorem dX11_keeps_39 : decode cX11_keeps 39 = .ok (.goto (-26), 3) := by decide +kernel
theorem dX11_keeps_42 : decode cX11_keeps 42 = .ok (.aload_n 0, 1) := by decide +kernel
theorem dX11_keeps_43 : decode cX11_keeps 43 = .ok (.dup, 1) := by decide +kernel
theorem dX11_keeps_44 : decode cX11_keeps 44 = .ok (.getfield 60, 3) := by decide +kernel
theorem dX11_keeps_47 : decode cX11_keeps 47 = .ok (.iconst 1, 1) := by decide +kernel
theorem dX11_keeps_48 : decode cX11_keeps 48 = .ok (.isub, 1) := by decide +kernel
theorem dX11_keeps_49 : decode cX11_keeps 49 = .ok (.putfield 60, 3) := by decide +kernel
theorem dX11_keeps_52 : decode cX11_keeps 52 = .ok (.aload_n 0, 1) := by decide +kernel
theorem dX11_keeps_53 : decode cX11_keeps 53 = .ok (.aload_n 0, 1) := by decide +kernel
theorem dX11_keeps_54 : decode cX11_keeps 54 = .ok (.getfield 13, 3) := by decide +kernel
theorem dX11_keeps_57 : decode cX11_keeps 57 = .ok (.iconst 0, 1) := by decide +kernel
theorem dX11_keeps_58 : decode cX11_keeps 58 = .ok (.aload_n 0, 1) := by decide +kernel
theorem dX11_keeps_59 : decode cX11_keeps 59 = .ok (.getfield 20, 3) := by decide +kernel
theorem dX11_keeps_62 : decode cX11_keeps 62 = .ok (.sipush 1158, 3) := by decide +kernel
theorem dX11_keeps_65 : decode cX11_keeps 65 = .ok (.aload_n 0, 1) := by decide +kernel
theorem dX11_keeps_66 : decode cX11_keeps 66 = .ok (.getfield 60, 3) := by decide +kernel
theorem dX11_keeps_69 : decode cX11_keeps 69 = .ok (.imul, 1) := by decide +kernel
theorem dX11_keeps_70 : decode cX11_keeps 70 = .ok (.invokevirtual 63, 3) := by decide +kernel
theorem dX11_keeps_73 : decode cX11_keeps 73 = .ok (.aload_n 0, 1) := by decide +kernel
theorem dX11_keeps_74 : decode cX11_keeps 74 = .ok (.dup, 1) := by decide +kernel
theorem dX11_keeps_75 : decode cX11_keeps 75 = .ok (.getfield 60, 3) := by decide +kernel
theorem dX11_keeps_78 : decode cX11_keeps 78 = .ok (.iconst 1, 1) := by decide +kernel
theorem dX11_keeps_79 : decode cX11_keeps 79 = .ok (.iadd, 1) := by decide +kernel
theorem dX11_keeps_80 : decode cX11_keeps 80 = .ok (.putfield 60, 3) := by decide +kernel
theorem dX11_keeps_83 : decode cX11_keeps 83 = .ok (.return_, 1) := by decide +kernel
theorem dX11_undo_0 : decode cX11_undo 0 = .ok (.aload_n 0, 1) := by decide +kernel
theorem dX11_undo_1 : decode cX11_undo 1 = .ok (.iconst 0, 1) := by decide +kernel
theorem dX11_undo_2 : decode cX11_undo 2 = .ok (.putfield 3, 3) := by decide +kernel
theorem dX11_undo_5 : decode cX11_undo 5 = .ok (.aload_n 0, 1) := by decide +kernel
theorem dX11_undo_6 : decode cX11_undo 6 = .ok (.getfield 60, 3) := by decide +kernel
theorem dX11_undo_9 : decode cX11_undo 9 = .ok (.ifCond .ne 5, 3) := by decide +kernel
theorem dX11_undo_12 : decode cX11_undo 12 = .ok (.iconst (-1), 1) := by decide +kernel
theorem dX11_undo_13 : decode cX11_undo 13 = .ok (.ireturn, 1) := by decide +kernel
theorem dX11_undo_14 : decode cX11_undo 14 = .ok (.aload_n 0, 1) := by decide +kernel
theorem dX11_undo_15 : decode cX11_undo 15 = .ok (.dup, 1) := by decide +kernel
theorem dX11_undo_16 : decode cX11_undo 16 = .ok (.getfield 60, 3) := by decide +kernel
theorem dX11_undo_19 : decode cX11_undo 19 = .ok (.iconst 1, 1) := by decide +kernel
theorem dX11_undo_20 : decode cX11_undo 20 = .ok (.isub, 1) := by decide +kernel
theorem dX11_undo_21 : decode cX11_undo 21 = .ok (.putfield 60, 3) := by decide +kernel
theorem dX11_undo_24 : decode cX11_undo 24 = .ok (.aload_n 0, 1) := by decide +kernel
theorem dX11_undo_25 : decode cX11_undo 25 = .ok (.aload_n 0, 1) := by decide +kernel
theorem dX11_undo_26 : decode cX11_undo 26 = .ok (.getfield 20, 3) := by decide +kernel
theorem dX11_undo_29 : decode cX11_undo 29 = .ok (.sipush 1158, 3) := by decide +kernel
theorem dX11_undo_32 : decode cX11_undo 32 = .ok (.aload_n 0, 1) := by decide +kernel
theorem dX11_undo_33 : decode cX11_undo 33 = .ok (.getfield 60, 3) := by decide +kernel
theorem dX11_undo_36 : decode cX11_undo 36 = .ok (.imul, 1) := by decide +kernel
theorem dX11_undo_37 : decode cX11_undo 37 = .ok (.aload_n 0, 1) := by decide +kernel
theorem dX11_undo_38 : decode cX11_undo 38 = .ok (.getfield 13, 3) := by decide +kernel
theorem dX11_undo_41 : decode cX11_undo 41 = .ok (.iconst 0, 1) := by decide +kernel
theorem dX11_undo_42 : decode cX11_undo 42 = .ok (.invokevirtual 63, 3) := by decide +kernel
theorem dX11_undo_45 : decode cX11_undo 45 = .ok (.aload_n 0, 1) := by decide +kernel
theorem dX11_undo_46 : decode cX11_undo 46 = .ok (.getfield 60, 3) := by decide +kernel
theorem dX11_undo_49 : decode cX11_undo 49 = .ok (.ireturn, 1) := by decide +kernel
theorem dX11_undoDepth_0 : decode cX11_undoDepth 0 = .ok (.aload_n 0, 1) := by decide +kernel
theorem dX11_undoDepth_1 : decode cX11_undoDepth 1 = .ok (.iconst 0, 1) := by decide +kernel
theorem dX11_undoDepth_2 : decode cX11_undoDepth 2 = .ok (.putfield 3, 3) := by decide +kernel
theorem dX11_undoDepth_5 : decode cX11_undoDepth 5 = .ok (.aload_n 0, 1) := by decide +kernel
theorem dX11_undoDepth_6 : decode cX11_undoDepth 6 = .ok (.getfield 60, 3) := by decide +kernel
theorem dX11_undoDepth_9 : decode cX11_undoDepth 9 = .ok (.ireturn, 1) := by decide +kernel
theorem dX11_places_0 : decode cX11_places 0 = .ok (.aload_n 0, 1) := by decide +kernel
theorem dX11_places_1 : decode cX11_places 1 = .ok (.getfield 13, 3) := by decide +kernel
theorem dX11_places_4 : decode cX11_places 4 = .ok (.iconst 0, 1) := by decide +kernel
theorem dX11_places_5 : decode cX11_places 5 = .ok (.iaload, 1) := by decide +kernel
theorem dX11_places_6 : decode cX11_places 6 = .ok (.ireturn, 1) := by decide +kernel
theorem dX11_carriers_0 : decode cX11_carriers 0 = .ok (.aload_n 0, 1) := by decide +kernel
theorem dX11_carriers_1 : decode cX11_carriers 1 = .ok (.getfield 13, 3) := by decide +kernel
theorem dX11_carriers_4 : decode cX11_carriers 4 = .ok (.iconst 1, 1) := by decide +kernel
theorem dX11_carriers_5 : decode cX11_carriers 5 = .ok (.iaload, 1) := by decide +kernel
theorem dX11_carriers_6 : decode cX11_carriers 6 = .ok (.ireturn, 1) := by decide +kernel
theorem dX11_letters_0 : decode cX11_letters 0 = .ok (.aload_n 0, 1) := by decide +kernel
theorem dX11_letters_1 : decode cX11_letters 1 = .ok (.getfield 13, 3) := by decide +kernel
theorem dX11_letters_4 : decode cX11_letters 4 = .ok (.iconst 2, 1) := by decide +kernel
theorem dX11_letters_5 : decode cX11_letters 5 = .ok (.iaload, 1) := by decide +kernel
theorem dX11_letters_6 : decode cX11_letters 6 = .ok (.ireturn, 1) := by decide +kernel
theorem dX11_of_0 : decode cX11_of 0 = .ok (.aload_n 0, 1) := by decide +kernel
theorem dX11_of_1 : decode cX11_of 1 = .ok (.getfield 13, 3) := by decide +kernel
theorem dX11_of_4 : decode cX11_of 4 = .ok (.sipush 498, 3) := by decide +kernel
theorem dX11_of_7 : decode cX11_of 7 = .ok (.bipush 10, 2) := by decide +kernel
theorem dX11_of_9 : decode cX11_of 9 = .ok (.iload_n 1, 1) := by decide +kernel
theorem dX11_of_10 : decode cX11_of 10 = .ok (.imul, 1) := by decide +kernel
theorem dX11_of_11 : decode cX11_of 11 = .ok (.iadd, 1) := by decide +kernel
theorem dX11_of_12 : decode cX11_of 12 = .ok (.iload_n 2, 1) := by decide +kernel
theorem dX11_of_13 : decode cX11_of 13 = .ok (.iadd, 1) := by decide +kernel
theorem dX11_of_14 : decode cX11_of 14 = .ok (.iaload, 1) := by decide +kernel
theorem dX11_of_15 : decode cX11_of 15 = .ok (.ireturn, 1) := by decide +kernel
theorem dX11_sets_0 : decode cX11_sets 0 = .ok (.aload_n 0, 1) := by decide +kernel
theorem dX11_sets_1 : decode cX11_sets 1 = .ok (.getfield 13, 3) := by decide +kernel
theorem dX11_sets_4 : decode cX11_sets 4 = .ok (.sipush 498, 3) := by decide +kernel
theorem dX11_sets_7 : decode cX11_sets 7 = .ok (.bipush 10, 2) := by decide +kernel
theorem dX11_sets_9 : decode cX11_sets 9 = .ok (.iload_n 1, 1) := by decide +kernel
theorem dX11_sets_10 : decode cX11_sets 10 = .ok (.imul, 1) := by decide +kernel
theorem dX11_sets_11 : decode cX11_sets 11 = .ok (.iadd, 1) := by decide +kernel
theorem dX11_sets_12 : decode cX11_sets 12 = .ok (.iload_n 2, 1) := by decide +kernel
theorem dX11_sets_13 : decode cX11_sets 13 = .ok (.iadd, 1) := by decide +kernel
theorem dX11_sets_14 : decode cX11_sets 14 = .ok (.iload_n 3, 1) := by decide +kernel
theorem dX11_sets_15 : decode cX11_sets 15 = .ok (.iastore, 1) := by decide +kernel
theorem dX11_sets_16 : decode cX11_sets 16 = .ok (.return_, 1) := by decide +kernel
theorem dX11_isIn_0 : decode cX11_isIn 0 = .ok (.aload_n 0, 1) := by decide +kernel
theorem dX11_isIn_1 : decode cX11_isIn 1 = .ok (.iload_n 1, 1) := by decide +kernel
theorem dX11_isIn_2 : decode cX11_isIn 2 = .ok (.iconst 3, 1) := by decide +kernel
theorem dX11_isIn_3 : decode cX11_isIn 3 = .ok (.invokevirtual 67, 3) := by decide +kernel
theorem dX11_isIn_6 : decode cX11_isIn 6 = .ok (.iload_n 2, 1) := by decide +kernel
theorem dX11_isIn_7 : decode cX11_isIn 7 = .ok (.if_icmp .ne 17, 3) := by decide +kernel
theorem dX11_isIn_10 : decode cX11_isIn 10 = .ok (.aload_n 0, 1) := by decide +kernel
theorem dX11_isIn_11 : decode cX11_isIn 11 = .ok (.iload_n 1, 1) := by decide +kernel
theorem dX11_isIn_12 : decode cX11_isIn 12 = .ok (.iconst 4, 1) := by decide +kernel
theorem dX11_isIn_13 : decode cX11_isIn 13 = .ok (.invokevirtual 67, 3) := by decide +kernel
theorem dX11_isIn_16 : decode cX11_isIn 16 = .ok (.iload_n 3, 1) := by decide +kernel
theorem dX11_isIn_17 : decode cX11_isIn 17 = .ok (.if_icmp .ne 7, 3) := by decide +kernel
theorem dX11_isIn_20 : decode cX11_isIn 20 = .ok (.iconst 1, 1) := by decide +kernel
theorem dX11_isIn_21 : decode cX11_isIn 21 = .ok (.goto 4, 3) := by decide +kernel
theorem dX11_isIn_24 : decode cX11_isIn 24 = .ok (.iconst 0, 1) := by decide +kernel
theorem dX11_isIn_25 : decode cX11_isIn 25 = .ok (.ireturn, 1) := by decide +kernel
theorem dX11_lies_0 : decode cX11_lies 0 = .ok (.aload_n 0, 1) := by decide +kernel
theorem dX11_lies_1 : decode cX11_lies 1 = .ok (.iload_n 1, 1) := by decide +kernel
theorem dX11_lies_2 : decode cX11_lies 2 = .ok (.iconst 3, 1) := by decide +kernel
theorem dX11_lies_3 : decode cX11_lies 3 = .ok (.iload_n 2, 1) := by decide +kernel
theorem dX11_lies_4 : decode cX11_lies 4 = .ok (.invokevirtual 71, 3) := by decide +kernel
theorem dX11_lies_7 : decode cX11_lies 7 = .ok (.aload_n 0, 1) := by decide +kernel
theorem dX11_lies_8 : decode cX11_lies 8 = .ok (.iload_n 1, 1) := by decide +kernel
theorem dX11_lies_9 : decode cX11_lies 9 = .ok (.iconst 4, 1) := by decide +kernel
theorem dX11_lies_10 : decode cX11_lies 10 = .ok (.iload_n 3, 1) := by decide +kernel
theorem dX11_lies_11 : decode cX11_lies 11 = .ok (.invokevirtual 71, 3) := by decide +kernel
theorem dX11_lies_14 : decode cX11_lies 14 = .ok (.return_, 1) := by decide +kernel
theorem dX11_isTown_0 : decode cX11_isTown 0 = .ok (.iload_n 1, 1) := by decide +kernel
theorem dX11_isTown_1 : decode cX11_isTown 1 = .ok (.iconst 0, 1) := by decide +kernel
theorem dX11_isTown_2 : decode cX11_isTown 2 = .ok (.aload_n 0, 1) := by decide +kernel
theorem dX11_isTown_3 : decode cX11_isTown 3 = .ok (.invokevirtual 75, 3) := by decide +kernel
theorem dX11_isTown_6 : decode cX11_isTown 6 = .ok (.iconst 1, 1) := by decide +kernel
theorem dX11_isTown_7 : decode cX11_isTown 7 = .ok (.isub, 1) := by decide +kernel
theorem dX11_isTown_8 : decode cX11_isTown 8 = .ok (.invokestatic 79, 3) := by decide +kernel
theorem dX11_isTown_11 : decode cX11_isTown 11 = .ok (.ifCond .eq 20, 3) := by decide +kernel
theorem dX11_isTown_14 : decode cX11_isTown 14 = .ok (.aload_n 0, 1) := by decide +kernel
theorem dX11_isTown_15 : decode cX11_isTown 15 = .ok (.getfield 13, 3) := by decide +kernel
theorem dX11_isTown_18 : decode cX11_isTown 18 = .ok (.bipush 8, 2) := by decide +kernel
theorem dX11_isTown_20 : decode cX11_isTown 20 = .ok (.iload_n 1, 1) := by decide +kernel
theorem dX11_isTown_21 : decode cX11_isTown 21 = .ok (.iadd, 1) := by decide +kernel
theorem dX11_isTown_22 : decode cX11_isTown 22 = .ok (.iaload, 1) := by decide +kernel
theorem dX11_isTown_23 : decode cX11_isTown 23 = .ok (.iconst 1, 1) := by decide +kernel
theorem dX11_isTown_24 : decode cX11_isTown 24 = .ok (.if_icmp .ne 7, 3) := by decide +kernel
theorem dX11_isTown_27 : decode cX11_isTown 27 = .ok (.iconst 1, 1) := by decide +kernel
theorem dX11_isTown_28 : decode cX11_isTown 28 = .ok (.goto 4, 3) := by decide +kernel
theorem dX11_isTown_31 : decode cX11_isTown 31 = .ok (.iconst 0, 1) := by decide +kernel
theorem dX11_isTown_32 : decode cX11_isTown 32 = .ok (.ireturn, 1) := by decide +kernel
theorem dX11_routeAt_0 : decode cX11_routeAt 0 = .ok (.bipush 43, 2) := by decide +kernel
theorem dX11_routeAt_2 : decode cX11_routeAt 2 = .ok (.bipush 13, 2) := by decide +kernel
theorem dX11_routeAt_4 : decode cX11_routeAt 4 = .ok (.bipush 7, 2) := by decide +kernel
theorem dX11_routeAt_6 : decode cX11_routeAt 6 = .ok (.iload_n 1, 1) := by decide +kernel
theorem dX11_routeAt_7 : decode cX11_routeAt 7 = .ok (.imul, 1) := by decide +kernel
theorem dX11_routeAt_8 : decode cX11_routeAt 8 = .ok (.iload_n 2, 1) := by decide +kernel
theorem dX11_routeAt_9 : decode cX11_routeAt 9 = .ok (.iadd, 1) := by decide +kernel
theorem dX11_routeAt_10 : decode cX11_routeAt 10 = .ok (.imul, 1) := by decide +kernel
theorem dX11_routeAt_11 : decode cX11_routeAt 11 = .ok (.iadd, 1) := by decide +kernel
theorem dX11_routeAt_12 : decode cX11_routeAt 12 = .ok (.ireturn, 1) := by decide +kernel
theorem dX11_stopIn_0 : decode cX11_stopIn 0 = .ok (.aload_n 0, 1) := by decide +kernel
theorem dX11_stopIn_1 : decode cX11_stopIn 1 = .ok (.iload_n 1, 1) := by decide +kernel
theorem dX11_stopIn_2 : decode cX11_stopIn 2 = .ok (.iload_n 2, 1) := by decide +kernel
theorem dX11_stopIn_3 : decode cX11_stopIn 3 = .ok (.bipush 24, 2) := by decide +kernel
theorem dX11_stopIn_5 : decode cX11_stopIn 5 = .ok (.idiv, 1) := by decide +kernel
theorem dX11_stopIn_6 : decode cX11_stopIn 6 = .ok (.bipush 7, 2) := by decide +kernel
theorem dX11_stopIn_8 : decode cX11_stopIn 8 = .ok (.irem, 1) := by decide +kernel
theorem dX11_stopIn_9 : decode cX11_stopIn 9 = .ok (.invokevirtual 83, 3) := by decide +kernel
theorem dX11_stopIn_12 : decode cX11_stopIn 12 = .ok (.istore_n 3, 1) := by decide +kernel
theorem dX11_stopIn_13 : decode cX11_stopIn 13 = .ok (.iconst 0, 1) := by decide +kernel
theorem dX11_stopIn_14 : decode cX11_stopIn 14 = .ok (.istore 4, 2) := by decide +kernel
theorem dX11_stopIn_16 : decode cX11_stopIn 16 = .ok (.iload 4, 2) := by decide +kernel
theorem dX11_stopIn_18 : decode cX11_stopIn 18 = .ok (.aload_n 0, 1) := by decide +kernel
theorem dX11_stopIn_19 : decode cX11_stopIn 19 = .ok (.getfield 13, 3) := by decide +kernel
theorem dX11_stopIn_22 : decode cX11_stopIn 22 = .ok (.iload_n 3, 1) := by decide +kernel
theorem dX11_stopIn_23 : decode cX11_stopIn 23 = .ok (.iaload, 1) := by decide +kernel
theorem dX11_stopIn_24 : decode cX11_stopIn 24 = .ok (.if_icmp .ge 43, 3) := by decide +kernel
theorem dX11_stopIn_27 : decode cX11_stopIn 27 = .ok (.aload_n 0, 1) := by decide +kernel
theorem dX11_stopIn_28 : decode cX11_stopIn 28 = .ok (.getfield 13, 3) := by decide +kernel
theorem dX11_stopIn_31 : decode cX11_stopIn 31 = .ok (.iload_n 3, 1) := by decide +kernel
theorem dX11_stopIn_32 : decode cX11_stopIn 32 = .ok (.iconst 1, 1) := by decide +kernel
theorem dX11_stopIn_33 : decode cX11_stopIn 33 = .ok (.iadd, 1) := by decide +kernel
theorem dX11_stopIn_34 : decode cX11_stopIn 34 = .ok (.iconst 2, 1) := by decide +kernel
theorem dX11_stopIn_35 : decode cX11_stopIn 35 = .ok (.iload 4, 2) := by decide +kernel
theorem dX11_stopIn_37 : decode cX11_stopIn 37 = .ok (.imul, 1) := by decide +kernel
theorem dX11_stopIn_38 : decode cX11_stopIn 38 = .ok (.iadd, 1) := by decide +kernel
theorem dX11_stopIn_39 : decode cX11_stopIn 39 = .ok (.iaload, 1) := by decide +kernel
theorem dX11_stopIn_40 : decode cX11_stopIn 40 = .ok (.iload_n 2, 1) := by decide +kernel
theorem dX11_stopIn_41 : decode cX11_stopIn 41 = .ok (.bipush 24, 2) := by decide +kernel
theorem dX11_stopIn_43 : decode cX11_stopIn 43 = .ok (.irem, 1) := by decide +kernel
theorem dX11_stopIn_44 : decode cX11_stopIn 44 = .ok (.if_icmp .ne 17, 3) := by decide +kernel
theorem dX11_stopIn_47 : decode cX11_stopIn 47 = .ok (.aload_n 0, 1) := by decide +kernel
theorem dX11_stopIn_48 : decode cX11_stopIn 48 = .ok (.getfield 13, 3) := by decide +kernel
theorem dX11_stopIn_51 : decode cX11_stopIn 51 = .ok (.iload_n 3, 1) := by decide +kernel
theorem dX11_stopIn_52 : decode cX11_stopIn 52 = .ok (.iconst 2, 1) := by decide +kernel
theorem dX11_stopIn_53 : decode cX11_stopIn 53 = .ok (.iadd, 1) := by decide +kernel
theorem dX11_stopIn_54 : decode cX11_stopIn 54 = .ok (.iconst 2, 1) := by decide +kernel
theorem dX11_stopIn_55 : decode cX11_stopIn 55 = .ok (.iload 4, 2) := by decide +kernel
theorem dX11_stopIn_57 : decode cX11_stopIn 57 = .ok (.imul, 1) := by decide +kernel
theorem dX11_stopIn_58 : decode cX11_stopIn 58 = .ok (.iadd, 1) := by decide +kernel
theorem dX11_stopIn_59 : decode cX11_stopIn 59 = .ok (.iaload, 1) := by decide +kernel
theorem dX11_stopIn_60 : decode cX11_stopIn 60 = .ok (.ireturn, 1) := by decide +kernel
theorem dX11_stopIn_61 : decode cX11_stopIn 61 = .ok (.iinc 4 1, 3) := by decide +kernel
theorem dX11_stopIn_64 : decode cX11_stopIn 64 = .ok (.goto (-48), 3) := by decide +kernel
theorem dX11_stopIn_67 : decode cX11_stopIn 67 = .ok (.iconst (-1), 1) := by decide +kernel
theorem dX11_stopIn_68 : decode cX11_stopIn 68 = .ok (.ireturn, 1) := by decide +kernel
theorem dX11_placeIn_0 : decode cX11_placeIn 0 = .ok (.aload_n 0, 1) := by decide +kernel
theorem dX11_placeIn_1 : decode cX11_placeIn 1 = .ok (.getfield 13, 3) := by decide +kernel
theorem dX11_placeIn_4 : decode cX11_placeIn 4 = .ok (.bipush 38, 2) := by decide +kernel
theorem dX11_placeIn_6 : decode cX11_placeIn 6 = .ok (.iload_n 1, 1) := by decide +kernel
theorem dX11_placeIn_7 : decode cX11_placeIn 7 = .ok (.iadd, 1) := by decide +kernel
theorem dX11_placeIn_8 : decode cX11_placeIn 8 = .ok (.iaload, 1) := by decide +kernel
theorem dX11_placeIn_9 : decode cX11_placeIn 9 = .ok (.iconst 1, 1) := by decide +kernel
theorem dX11_placeIn_10 : decode cX11_placeIn 10 = .ok (.if_icmp .ne 7, 3) := by decide +kernel
theorem dX11_placeIn_13 : decode cX11_placeIn 13 = .ok (.iconst (-1), 1) := by decide +kernel
theorem dX11_placeIn_14 : decode cX11_placeIn 14 = .ok (.goto 9, 3) := by decide +kernel
theorem dX11_placeIn_17 : decode cX11_placeIn 17 = .ok (.aload_n 0, 1) := by decide +kernel
theorem dX11_placeIn_18 : decode cX11_placeIn 18 = .ok (.iload_n 1, 1) := by decide +kernel
theorem dX11_placeIn_19 : decode cX11_placeIn 19 = .ok (.iload_n 2, 1) := by decide +kernel
theorem dX11_placeIn_20 : decode cX11_placeIn 20 = .ok (.invokevirtual 86, 3) := by decide +kernel
theorem dX11_placeIn_23 : decode cX11_placeIn 23 = .ok (.ireturn, 1) := by decide +kernel
theorem dX11_append_0 : decode cX11_append 0 = .ok (.aload_n 0, 1) := by decide +kernel
theorem dX11_append_1 : decode cX11_append 1 = .ok (.iconst 0, 1) := by decide +kernel
theorem dX11_append_2 : decode cX11_append 2 = .ok (.putfield 3, 3) := by decide +kernel
theorem dX11_append_5 : decode cX11_append 5 = .ok (.aload_n 0, 1) := by decide +kernel
theorem dX11_append_6 : decode cX11_append 6 = .ok (.getfield 89, 3) := by decide +kernel
theorem dX11_append_9 : decode cX11_append 9 = .ok (.bipush 20, 2) := by decide +kernel
theorem dX11_append_11 : decode cX11_append 11 = .ok (.iadd, 1) := by decide +kernel
theorem dX11_append_12 : decode cX11_append 12 = .ok (.sipush 900, 3) := by decide +kernel
theorem dX11_append_15 : decode cX11_append 15 = .ok (.if_icmp .le 5, 3) := by decide +kernel
theorem dX11_append_18 : decode cX11_append 18 = .ok (.iconst (-1), 1) := by decide +kernel
theorem dX11_append_19 : decode cX11_append 19 = .ok (.ireturn, 1) := by decide +kernel
theorem dX11_append_20 : decode cX11_append 20 = .ok (.aload_n 0, 1) := by decide +kernel
theorem dX11_append_21 : decode cX11_append 21 = .ok (.getfield 27, 3) := by decide +kernel
theorem dX11_append_24 : decode cX11_append 24 = .ok (.iconst 0, 1) := by decide +kernel
theorem dX11_append_25 : decode cX11_append 25 = .ok (.iload_n 1, 1) := by decide +kernel
theorem dX11_append_26 : decode cX11_append 26 = .ok (.iastore, 1) := by decide +kernel
theorem dX11_append_27 : decode cX11_append 27 = .ok (.aload_n 0, 1) := by decide +kernel
theorem dX11_append_28 : decode cX11_append 28 = .ok (.getfield 27, 3) := by decide +kernel
theorem dX11_append_31 : decode cX11_append 31 = .ok (.iconst 1, 1) := by decide +kernel
theorem dX11_append_32 : decode cX11_append 32 = .ok (.iload_n 2, 1) := by decide +kernel
theorem dX11_append_33 : decode cX11_append 33 = .ok (.iastore, 1) := by decide +kernel
theorem dX11_append_34 : decode cX11_append 34 = .ok (.aload_n 0, 1) := by decide +kernel
theorem dX11_append_35 : decode cX11_append 35 = .ok (.getfield 27, 3) := by decide +kernel
theorem dX11_append_38 : decode cX11_append 38 = .ok (.iconst 2, 1) := by decide +kernel
theorem dX11_append_39 : decode cX11_append 39 = .ok (.iload_n 3, 1) := by decide +kernel
theorem dX11_append_40 : decode cX11_append 40 = .ok (.iastore, 1) := by decide +kernel
theorem dX11_append_41 : decode cX11_append 41 = .ok (.aload_n 0, 1) := by decide +kernel
theorem dX11_append_42 : decode cX11_append 42 = .ok (.getfield 27, 3) := by decide +kernel
theorem dX11_append_45 : decode cX11_append 45 = .ok (.iconst 3, 1) := by decide +kernel
theorem dX11_append_46 : decode cX11_append 46 = .ok (.iload 4, 2) := by decide +kernel
theorem dX11_append_48 : decode cX11_append 48 = .ok (.iastore, 1) := by decide +kernel
theorem dX11_append_49 : decode cX11_append 49 = .ok (.aload_n 0, 1) := by decide +kernel
theorem dX11_append_50 : decode cX11_append 50 = .ok (.getfield 27, 3) := by decide +kernel
theorem dX11_append_53 : decode cX11_append 53 = .ok (.iconst 4, 1) := by decide +kernel
theorem dX11_append_54 : decode cX11_append 54 = .ok (.iload 5, 2) := by decide +kernel
theorem dX11_append_56 : decode cX11_append 56 = .ok (.iastore, 1) := by decide +kernel
theorem dX11_append_57 : decode cX11_append 57 = .ok (.iconst 0, 1) := by decide +kernel
theorem dX11_append_58 : decode cX11_append 58 = .ok (.istore 6, 2) := by decide +kernel
theorem dX11_append_60 : decode cX11_append 60 = .ok (.iload 6, 2) := by decide +kernel
theorem dX11_append_62 : decode cX11_append 62 = .ok (.bipush 20, 2) := by decide +kernel
theorem dX11_append_64 : decode cX11_append 64 = .ok (.if_icmp .ge 42, 3) := by decide +kernel
theorem dX11_append_67 : decode cX11_append 67 = .ok (.aload_n 0, 1) := by decide +kernel
theorem dX11_append_68 : decode cX11_append 68 = .ok (.getfield 23, 3) := by decide +kernel
theorem dX11_append_71 : decode cX11_append 71 = .ok (.aload_n 0, 1) := by decide +kernel
theorem dX11_append_72 : decode cX11_append 72 = .ok (.getfield 89, 3) := by decide +kernel
theorem dX11_append_75 : decode cX11_append 75 = .ok (.iload 6, 2) := by decide +kernel
theorem dX11_append_77 : decode cX11_append 77 = .ok (.iadd, 1) := by decide +kernel
theorem dX11_append_78 : decode cX11_append 78 = .ok (.aload_n 0, 1) := by decide +kernel
theorem dX11_append_79 : decode cX11_append 79 = .ok (.getfield 27, 3) := by decide +kernel
theorem dX11_append_82 : decode cX11_append 82 = .ok (.iload 6, 2) := by decide +kernel
theorem dX11_append_84 : decode cX11_append 84 = .ok (.iconst 4, 1) := by decide +kernel
theorem dX11_append_85 : decode cX11_append 85 = .ok (.idiv, 1) := by decide +kernel
theorem dX11_append_86 : decode cX11_append 86 = .ok (.iaload, 1) := by decide +kernel
theorem dX11_append_87 : decode cX11_append 87 = .ok (.bipush 24, 2) := by decide +kernel
theorem dX11_append_89 : decode cX11_append 89 = .ok (.bipush 8, 2) := by decide +kernel
theorem dX11_append_91 : decode cX11_append 91 = .ok (.iload 6, 2) := by decide +kernel
theorem dX11_append_93 : decode cX11_append 93 = .ok (.iconst 4, 1) := by decide +kernel
theorem dX11_append_94 : decode cX11_append 94 = .ok (.irem, 1) := by decide +kernel
theorem dX11_append_95 : decode cX11_append 95 = .ok (.imul, 1) := by decide +kernel
theorem dX11_append_96 : decode cX11_append 96 = .ok (.isub, 1) := by decide +kernel
theorem dX11_append_97 : decode cX11_append 97 = .ok (.ishr, 1) := by decide +kernel
theorem dX11_append_98 : decode cX11_append 98 = .ok (.i2b, 1) := by decide +kernel
theorem dX11_append_99 : decode cX11_append 99 = .ok (.bastore, 1) := by decide +kernel
theorem dX11_append_100 : decode cX11_append 100 = .ok (.iinc 6 1, 3) := by decide +kernel
theorem dX11_append_103 : decode cX11_append 103 = .ok (.goto (-43), 3) := by decide +kernel
theorem dX11_append_106 : decode cX11_append 106 = .ok (.aload_n 0, 1) := by decide +kernel
theorem dX11_append_107 : decode cX11_append 107 = .ok (.dup, 1) := by decide +kernel
theorem dX11_append_108 : decode cX11_append 108 = .ok (.getfield 89, 3) := by decide +kernel
theorem dX11_append_111 : decode cX11_append 111 = .ok (.bipush 20, 2) := by decide +kernel
theorem dX11_append_113 : decode cX11_append 113 = .ok (.iadd, 1) := by decide +kernel
theorem dX11_append_114 : decode cX11_append 114 = .ok (.putfield 89, 3) := by decide +kernel
theorem dX11_append_117 : decode cX11_append 117 = .ok (.aload_n 0, 1) := by decide +kernel
theorem dX11_append_118 : decode cX11_append 118 = .ok (.getfield 89, 3) := by decide +kernel
theorem dX11_append_121 : decode cX11_append 121 = .ok (.ireturn, 1) := by decide +kernel
theorem dX11_truncate_0 : decode cX11_truncate 0 = .ok (.aload_n 0, 1) := by decide +kernel
theorem dX11_truncate_1 : decode cX11_truncate 1 = .ok (.iconst 0, 1) := by decide +kernel
theorem dX11_truncate_2 : decode cX11_truncate 2 = .ok (.putfield 3, 3) := by decide +kernel
theorem dX11_truncate_5 : decode cX11_truncate 5 = .ok (.iload_n 1, 1) := by decide +kernel
theorem dX11_truncate_6 : decode cX11_truncate 6 = .ok (.ifCond .lt 11, 3) := by decide +kernel
theorem dX11_truncate_9 : decode cX11_truncate 9 = .ok (.iload_n 1, 1) := by decide +kernel
theorem dX11_truncate_10 : decode cX11_truncate 10 = .ok (.aload_n 0, 1) := by decide +kernel
theorem dX11_truncate_11 : decode cX11_truncate 11 = .ok (.getfield 89, 3) := by decide +kernel
theorem dX11_truncate_14 : decode cX11_truncate 14 = .ok (.if_icmp .le 5, 3) := by decide +kernel
theorem dX11_truncate_17 : decode cX11_truncate 17 = .ok (.iconst 0, 1) := by decide +kernel
theorem dX11_truncate_18 : decode cX11_truncate 18 = .ok (.ireturn, 1) := by decide +kernel
theorem dX11_truncate_19 : decode cX11_truncate 19 = .ok (.aload_n 0, 1) := by decide +kernel
theorem dX11_truncate_20 : decode cX11_truncate 20 = .ok (.iload_n 1, 1) := by decide +kernel
theorem dX11_truncate_21 : decode cX11_truncate 21 = .ok (.putfield 89, 3) := by decide +kernel
theorem dX11_truncate_24 : decode cX11_truncate 24 = .ok (.iconst 1, 1) := by decide +kernel
theorem dX11_truncate_25 : decode cX11_truncate 25 = .ok (.ireturn, 1) := by decide +kernel
theorem dX11_errorOffset_0 : decode cX11_errorOffset 0 = .ok (.aload_n 0, 1) := by decide +kernel
theorem dX11_errorOffset_1 : decode cX11_errorOffset 1 = .ok (.iconst 0, 1) := by decide +kernel
theorem dX11_errorOffset_2 : decode cX11_errorOffset 2 = .ok (.putfield 3, 3) := by decide +kernel
theorem dX11_errorOffset_5 : decode cX11_errorOffset 5 = .ok (.aload_n 0, 1) := by decide +kernel
theorem dX11_errorOffset_6 : decode cX11_errorOffset 6 = .ok (.getfield 30, 3) := by decide +kernel
theorem dX11_errorOffset_9 : decode cX11_errorOffset 9 = .ok (.ireturn, 1) := by decide +kernel
theorem dX11_errorKind_0 : decode cX11_errorKind 0 = .ok (.aload_n 0, 1) := by decide +kernel
theorem dX11_errorKind_1 : decode cX11_errorKind 1 = .ok (.iconst 0, 1) := by decide +kernel
theorem dX11_errorKind_2 : decode cX11_errorKind 2 = .ok (.putfield 3, 3) := by decide +kernel
theorem dX11_errorKind_5 : decode cX11_errorKind 5 = .ok (.aload_n 0, 1) := by decide +kernel
theorem dX11_errorKind_6 : decode cX11_errorKind 6 = .ok (.getfield 92, 3) := by decide +kernel
theorem dX11_errorKind_9 : decode cX11_errorKind 9 = .ok (.ireturn, 1) := by decide +kernel
theorem dX11_hasFailed_0 : decode cX11_hasFailed 0 = .ok (.aload_n 0, 1) := by decide +kernel
theorem dX11_hasFailed_1 : decode cX11_hasFailed 1 = .ok (.getfield 95, 3) := by decide +kernel
theorem dX11_hasFailed_4 : decode cX11_hasFailed 4 = .ok (.iconst (-1), 1) := by decide +kernel
theorem dX11_hasFailed_5 : decode cX11_hasFailed 5 = .ok (.if_icmp .eq 7, 3) := by decide +kernel
theorem dX11_hasFailed_8 : decode cX11_hasFailed 8 = .ok (.iconst 1, 1) := by decide +kernel
theorem dX11_hasFailed_9 : decode cX11_hasFailed 9 = .ok (.goto 4, 3) := by decide +kernel
theorem dX11_hasFailed_12 : decode cX11_hasFailed 12 = .ok (.iconst 0, 1) := by decide +kernel
theorem dX11_hasFailed_13 : decode cX11_hasFailed 13 = .ok (.ireturn, 1) := by decide +kernel
theorem dX11_isAt_0 : decode cX11_isAt 0 = .ok (.aload_n 0, 1) := by decide +kernel
theorem dX11_isAt_1 : decode cX11_isAt 1 = .ok (.getfield 98, 3) := by decide +kernel
theorem dX11_isAt_4 : decode cX11_isAt 4 = .ok (.aload_n 0, 1) := by decide +kernel
theorem dX11_isAt_5 : decode cX11_isAt 5 = .ok (.getfield 101, 3) := by decide +kernel
theorem dX11_isAt_8 : decode cX11_isAt 8 = .ok (.if_icmp .ge 33, 3) := by decide +kernel
theorem dX11_isAt_11 : decode cX11_isAt 11 = .ok (.aload_n 0, 1) := by decide +kernel
theorem dX11_isAt_12 : decode cX11_isAt 12 = .ok (.getfield 23, 3) := by decide +kernel
theorem dX11_isAt_15 : decode cX11_isAt 15 = .ok (.aload_n 0, 1) := by decide +kernel
theorem dX11_isAt_16 : decode cX11_isAt 16 = .ok (.getfield 98, 3) := by decide +kernel
theorem dX11_isAt_19 : decode cX11_isAt 19 = .ok (.baload, 1) := by decide +kernel
theorem dX11_isAt_20 : decode cX11_isAt 20 = .ok (.iload_n 1, 1) := by decide +kernel
theorem dX11_isAt_21 : decode cX11_isAt 21 = .ok (.if_icmp .lt 20, 3) := by decide +kernel
theorem dX11_isAt_24 : decode cX11_isAt 24 = .ok (.aload_n 0, 1) := by decide +kernel
theorem dX11_isAt_25 : decode cX11_isAt 25 = .ok (.getfield 23, 3) := by decide +kernel
theorem dX11_isAt_28 : decode cX11_isAt 28 = .ok (.aload_n 0, 1) := by decide +kernel
theorem dX11_isAt_29 : decode cX11_isAt 29 = .ok (.getfield 98, 3) := by decide +kernel
theorem dX11_isAt_32 : decode cX11_isAt 32 = .ok (.baload, 1) := by decide +kernel
theorem dX11_isAt_33 : decode cX11_isAt 33 = .ok (.iload_n 2, 1) := by decide +kernel
theorem dX11_isAt_34 : decode cX11_isAt 34 = .ok (.if_icmp .gt 7, 3) := by decide +kernel
theorem dX11_isAt_37 : decode cX11_isAt 37 = .ok (.iconst 1, 1) := by decide +kernel
theorem dX11_isAt_38 : decode cX11_isAt 38 = .ok (.goto 4, 3) := by decide +kernel
theorem dX11_isAt_41 : decode cX11_isAt 41 = .ok (.iconst 0, 1) := by decide +kernel
theorem dX11_isAt_42 : decode cX11_isAt 42 = .ok (.ireturn, 1) := by decide +kernel
theorem dX11_blanks_0 : decode cX11_blanks 0 = .ok (.aload_n 0, 1) := by decide +kernel
theorem dX11_blanks_1 : decode cX11_blanks 1 = .ok (.invokevirtual 104, 3) := by decide +kernel
theorem dX11_blanks_4 : decode cX11_blanks 4 = .ok (.ifCond .eq 4, 3) := by decide +kernel
theorem dX11_blanks_7 : decode cX11_blanks 7 = .ok (.return_, 1) := by decide +kernel
theorem dX11_blanks_8 : decode cX11_blanks 8 = .ok (.aload_n 0, 1) := by decide +kernel
theorem dX11_blanks_9 : decode cX11_blanks 9 = .ok (.bipush 9, 2) := by decide +kernel
theorem dX11_blanks_11 : decode cX11_blanks 11 = .ok (.bipush 10, 2) := by decide +kernel
theorem dX11_blanks_13 : decode cX11_blanks 13 = .ok (.invokevirtual 108, 3) := by decide +kernel
theorem dX11_blanks_16 : decode cX11_blanks 16 = .ok (.ifCond .ne 14, 3) := by decide +kernel
theorem dX11_blanks_19 : decode cX11_blanks 19 = .ok (.aload_n 0, 1) := by decide +kernel
theorem dX11_blanks_20 : decode cX11_blanks 20 = .ok (.bipush 32, 2) := by decide +kernel
theorem dX11_blanks_22 : decode cX11_blanks 22 = .ok (.bipush 32, 2) := by decide +kernel
theorem dX11_blanks_24 : decode cX11_blanks 24 = .ok (.invokevirtual 108, 3) := by decide +kernel
theorem dX11_blanks_27 : decode cX11_blanks 27 = .ok (.ifCond .eq 16, 3) := by decide +kernel
theorem dX11_blanks_30 : decode cX11_blanks 30 = .ok (.aload_n 0, 1) := by decide +kernel
theorem dX11_blanks_31 : decode cX11_blanks 31 = .ok (.dup, 1) := by decide +kernel
theorem dX11_blanks_32 : decode cX11_blanks 32 = .ok (.getfield 98, 3) := by decide +kernel
theorem dX11_blanks_35 : decode cX11_blanks 35 = .ok (.iconst 1, 1) := by decide +kernel
theorem dX11_blanks_36 : decode cX11_blanks 36 = .ok (.iadd, 1) := by decide +kernel
theorem dX11_blanks_37 : decode cX11_blanks 37 = .ok (.putfield 98, 3) := by decide +kernel
theorem dX11_blanks_40 : decode cX11_blanks 40 = .ok (.goto (-32), 3) := by decide +kernel
theorem dX11_blanks_43 : decode cX11_blanks 43 = .ok (.aload_n 0, 1) := by decide +kernel
theorem dX11_blanks_44 : decode cX11_blanks 44 = .ok (.aload_n 0, 1) := by decide +kernel
theorem dX11_blanks_45 : decode cX11_blanks 45 = .ok (.getfield 98, 3) := by decide +kernel
theorem dX11_blanks_48 : decode cX11_blanks 48 = .ok (.putfield 112, 3) := by decide +kernel
theorem dX11_blanks_51 : decode cX11_blanks 51 = .ok (.return_, 1) := by decide +kernel
theorem dX11_must_0 : decode cX11_must 0 = .ok (.iload_n 1, 1) := by decide +kernel
theorem dX11_must_1 : decode cX11_must 1 = .ok (.ifCond .ne 10, 3) := by decide +kernel
theorem dX11_must_4 : decode cX11_must 4 = .ok (.aload_n 0, 1) := by decide +kernel
theorem dX11_must_5 : decode cX11_must 5 = .ok (.invokevirtual 104, 3) := by decide +kernel
theorem dX11_must_8 : decode cX11_must 8 = .ok (.ifCond .eq 4, 3) := by decide +kernel
theorem dX11_must_11 : decode cX11_must 11 = .ok (.return_, 1) := by decide +kernel
theorem dX11_must_12 : decode cX11_must 12 = .ok (.aload_n 0, 1) := by decide +kernel
theorem dX11_must_13 : decode cX11_must 13 = .ok (.aload_n 0, 1) := by decide +kernel
theorem dX11_must_14 : decode cX11_must 14 = .ok (.getfield 112, 3) := by decide +kernel
theorem dX11_must_17 : decode cX11_must 17 = .ok (.putfield 95, 3) := by decide +kernel
theorem dX11_must_20 : decode cX11_must 20 = .ok (.aload_n 0, 1) := by decide +kernel
theorem dX11_must_21 : decode cX11_must 21 = .ok (.iload_n 2, 1) := by decide +kernel
theorem dX11_must_22 : decode cX11_must 22 = .ok (.putfield 115, 3) := by decide +kernel
theorem dX11_must_25 : decode cX11_must 25 = .ok (.return_, 1) := by decide +kernel
theorem dX11_wordHere_0 : decode cX11_wordHere 0 = .ok (.aload_n 0, 1) := by decide +kernel
theorem dX11_wordHere_1 : decode cX11_wordHere 1 = .ok (.invokevirtual 118, 3) := by decide +kernel
theorem dX11_wordHere_4 : decode cX11_wordHere 4 = .ok (.aload_n 0, 1) := by decide +kernel
theorem dX11_wordHere_5 : decode cX11_wordHere 5 = .ok (.getfield 98, 3) := by decide +kernel
theorem dX11_wordHere_8 : decode cX11_wordHere 8 = .ok (.istore_n 1, 1) := by decide +kernel
theorem dX11_wordHere_9 : decode cX11_wordHere 9 = .ok (.iload_n 1, 1) := by decide +kernel
theorem dX11_wordHere_10 : decode cX11_wordHere 10 = .ok (.aload_n 0, 1) := by decide +kernel
theorem dX11_wordHere_11 : decode cX11_wordHere 11 = .ok (.getfield 101, 3) := by decide +kernel
theorem dX11_wordHere_14 : decode cX11_wordHere 14 = .ok (.if_icmp .ge 31, 3) := by decide +kernel
theorem dX11_wordHere_17 : decode cX11_wordHere 17 = .ok (.aload_n 0, 1) := by decide +kernel
theorem dX11_wordHere_18 : decode cX11_wordHere 18 = .ok (.getfield 23, 3) := by decide +kernel
theorem dX11_wordHere_21 : decode cX11_wordHere 21 = .ok (.iload_n 1, 1) := by decide +kernel
theorem dX11_wordHere_22 : decode cX11_wordHere 22 = .ok (.baload, 1) := by decide +kernel
theorem dX11_wordHere_23 : decode cX11_wordHere 23 = .ok (.bipush 97, 2) := by decide +kernel
theorem dX11_wordHere_25 : decode cX11_wordHere 25 = .ok (.if_icmp .lt 20, 3) := by decide +kernel
theorem dX11_wordHere_28 : decode cX11_wordHere 28 = .ok (.aload_n 0, 1) := by decide +kernel
theorem dX11_wordHere_29 : decode cX11_wordHere 29 = .ok (.getfield 23, 3) := by decide +kernel
theorem dX11_wordHere_32 : decode cX11_wordHere 32 = .ok (.iload_n 1, 1) := by decide +kernel
theorem dX11_wordHere_33 : decode cX11_wordHere 33 = .ok (.baload, 1) := by decide +kernel
theorem dX11_wordHere_34 : decode cX11_wordHere 34 = .ok (.bipush 122, 2) := by decide +kernel
theorem dX11_wordHere_36 : decode cX11_wordHere 36 = .ok (.if_icmp .gt 9, 3) := by decide +kernel
theorem dX11_wordHere_39 : decode cX11_wordHere 39 = .ok (.iinc 1 1, 3) := by decide +kernel
theorem dX11_wordHere_42 : decode cX11_wordHere 42 = .ok (.goto (-33), 3) := by decide +kernel
theorem dX11_wordHere_45 : decode cX11_wordHere 45 = .ok (.iload_n 1, 1) := by decide +kernel
theorem dX11_wordHere_46 : decode cX11_wordHere 46 = .ok (.aload_n 0, 1) := by decide +kernel
theorem dX11_wordHere_47 : decode cX11_wordHere 47 = .ok (.getfield 98, 3) := by decide +kernel
theorem dX11_wordHere_50 : decode cX11_wordHere 50 = .ok (.isub, 1) := by decide +kernel
theorem dX11_wordHere_51 : decode cX11_wordHere 51 = .ok (.ireturn, 1) := by decide +kernel
theorem dX11_takes_0 : decode cX11_takes 0 = .ok (.aload_n 0, 1) := by decide +kernel
theorem dX11_takes_1 : decode cX11_takes 1 = .ok (.invokevirtual 104, 3) := by decide +kernel
theorem dX11_takes_4 : decode cX11_takes 4 = .ok (.ifCond .ne 18, 3) := by decide +kernel
theorem dX11_takes_7 : decode cX11_takes 7 = .ok (.aload_n 0, 1) := by decide +kernel
theorem dX11_takes_8 : decode cX11_takes 8 = .ok (.invokevirtual 121, 3) := by decide +kernel
theorem dX11_takes_11 : decode cX11_takes 11 = .ok (.aload_n 1, 1) := by decide +kernel
theorem dX11_takes_12 : decode cX11_takes 12 = .ok (.invokevirtual 124, 3) := by decide +kernel
theorem dX11_takes_15 : decode cX11_takes 15 = .ok (.if_icmp .ne 7, 3) := by decide +kernel
theorem dX11_takes_18 : decode cX11_takes 18 = .ok (.iconst 1, 1) := by decide +kernel
theorem dX11_takes_19 : decode cX11_takes 19 = .ok (.goto 4, 3) := by decide +kernel
theorem dX11_takes_22 : decode cX11_takes 22 = .ok (.iconst 0, 1) := by decide +kernel
theorem dX11_takes_23 : decode cX11_takes 23 = .ok (.istore_n 2, 1) := by decide +kernel
theorem dX11_takes_24 : decode cX11_takes 24 = .ok (.iconst 0, 1) := by decide +kernel
theorem dX11_takes_25 : decode cX11_takes 25 = .ok (.istore_n 3, 1) := by decide +kernel
theorem dX11_takes_26 : decode cX11_takes 26 = .ok (.iload_n 2, 1) := by decide +kernel
theorem dX11_takes_27 : decode cX11_takes 27 = .ok (.ifCond .eq 42, 3) := by decide +kernel
theorem dX11_takes_30 : decode cX11_takes 30 = .ok (.iload_n 3, 1) := by decide +kernel
theorem dX11_takes_31 : decode cX11_takes 31 = .ok (.aload_n 1, 1) := by decide +kernel
theorem dX11_takes_32 : decode cX11_takes 32 = .ok (.invokevirtual 124, 3) := by decide +kernel
theorem dX11_takes_35 : decode cX11_takes 35 = .ok (.if_icmp .ge 34, 3) := by decide +kernel
theorem dX11_takes_38 : decode cX11_takes 38 = .ok (.aload_n 0, 1) := by decide +kernel
theorem dX11_takes_39 : decode cX11_takes 39 = .ok (.getfield 23, 3) := by decide +kernel
theorem dX11_takes_42 : decode cX11_takes 42 = .ok (.aload_n 0, 1) := by decide +kernel
theorem dX11_takes_43 : decode cX11_takes 43 = .ok (.getfield 98, 3) := by decide +kernel
theorem dX11_takes_46 : decode cX11_takes 46 = .ok (.iload_n 3, 1) := by decide +kernel
theorem dX11_takes_47 : decode cX11_takes 47 = .ok (.iadd, 1) := by decide +kernel
theorem dX11_takes_48 : decode cX11_takes 48 = .ok (.baload, 1) := by decide +kernel
theorem dX11_takes_49 : decode cX11_takes 49 = .ok (.aload_n 1, 1) := by decide +kernel
theorem dX11_takes_50 : decode cX11_takes 50 = .ok (.iload_n 3, 1) := by decide +kernel
theorem dX11_takes_51 : decode cX11_takes 51 = .ok (.invokevirtual 129, 3) := by decide +kernel
theorem dX11_takes_54 : decode cX11_takes 54 = .ok (.if_icmp .ne 7, 3) := by decide +kernel
theorem dX11_takes_57 : decode cX11_takes 57 = .ok (.iconst 1, 1) := by decide +kernel
theorem dX11_takes_58 : decode cX11_takes 58 = .ok (.goto 4, 3) := by decide +kernel
theorem dX11_takes_61 : decode cX11_takes 61 = .ok (.iconst 0, 1) := by decide +kernel
theorem dX11_takes_62 : decode cX11_takes 62 = .ok (.istore_n 2, 1) := by decide +kernel
theorem dX11_takes_63 : decode cX11_takes 63 = .ok (.iinc 3 1, 3) := by decide +kernel
theorem dX11_takes_66 : decode cX11_takes 66 = .ok (.goto (-40), 3) := by decide +kernel
theorem dX11_takes_69 : decode cX11_takes 69 = .ok (.iload_n 2, 1) := by decide +kernel
theorem dX11_takes_70 : decode cX11_takes 70 = .ok (.ifCond .eq 16, 3) := by decide +kernel
theorem dX11_takes_73 : decode cX11_takes 73 = .ok (.aload_n 0, 1) := by decide +kernel
theorem dX11_takes_74 : decode cX11_takes 74 = .ok (.dup, 1) := by decide +kernel
theorem dX11_takes_75 : decode cX11_takes 75 = .ok (.getfield 98, 3) := by decide +kernel
theorem dX11_takes_78 : decode cX11_takes 78 = .ok (.aload_n 1, 1) := by decide +kernel
theorem dX11_takes_79 : decode cX11_takes 79 = .ok (.invokevirtual 124, 3) := by decide +kernel
theorem dX11_takes_82 : decode cX11_takes 82 = .ok (.iadd, 1) := by decide +kernel
theorem dX11_takes_83 : decode cX11_takes 83 = .ok (.putfield 98, 3) := by decide +kernel
theorem dX11_takes_86 : decode cX11_takes 86 = .ok (.iload_n 2, 1) := by decide +kernel
theorem dX11_takes_87 : decode cX11_takes 87 = .ok (.ireturn, 1) := by decide +kernel
theorem dX11_number_0 : decode cX11_number 0 = .ok (.aload_n 0, 1) := by decide +kernel
theorem dX11_number_1 : decode cX11_number 1 = .ok (.invokevirtual 118, 3) := by decide +kernel
theorem dX11_number_4 : decode cX11_number 4 = .ok (.aload_n 0, 1) := by decide +kernel
theorem dX11_number_5 : decode cX11_number 5 = .ok (.aload_n 0, 1) := by decide +kernel
theorem dX11_number_6 : decode cX11_number 6 = .ok (.bipush 48, 2) := by decide +kernel
theorem dX11_number_8 : decode cX11_number 8 = .ok (.bipush 57, 2) := by decide +kernel
theorem dX11_number_10 : decode cX11_number 10 = .ok (.invokevirtual 108, 3) := by decide +kernel
theorem dX11_number_13 : decode cX11_number 13 = .ok (.iconst 1, 1) := by decide +kernel
theorem dX11_number_14 : decode cX11_number 14 = .ok (.invokevirtual 133, 3) := by decide +kernel
theorem dX11_number_17 : decode cX11_number 17 = .ok (.aload_n 0, 1) := by decide +kernel
theorem dX11_number_18 : decode cX11_number 18 = .ok (.invokevirtual 104, 3) := by decide +kernel
theorem dX11_number_21 : decode cX11_number 21 = .ok (.ifCond .eq 5, 3) := by decide +kernel
theorem dX11_number_24 : decode cX11_number 24 = .ok (.iload_n 1, 1) := by decide +kernel
theorem dX11_number_25 : decode cX11_number 25 = .ok (.ireturn, 1) := by decide +kernel
theorem dX11_number_26 : decode cX11_number 26 = .ok (.iconst 0, 1) := by decide +kernel
theorem dX11_number_27 : decode cX11_number 27 = .ok (.istore_n 3, 1) := by decide +kernel
theorem dX11_number_28 : decode cX11_number 28 = .ok (.aload_n 0, 1) := by decide +kernel
theorem dX11_number_29 : decode cX11_number 29 = .ok (.bipush 48, 2) := by decide +kernel
theorem dX11_number_31 : decode cX11_number 31 = .ok (.bipush 57, 2) := by decide +kernel
theorem dX11_number_33 : decode cX11_number 33 = .ok (.invokevirtual 108, 3) := by decide +kernel
theorem dX11_number_36 : decode cX11_number 36 = .ok (.ifCond .eq 47, 3) := by decide +kernel
theorem dX11_number_39 : decode cX11_number 39 = .ok (.aload_n 0, 1) := by decide +kernel
theorem dX11_number_40 : decode cX11_number 40 = .ok (.getfield 98, 3) := by decide +kernel
theorem dX11_number_43 : decode cX11_number 43 = .ok (.aload_n 0, 1) := by decide +kernel
theorem dX11_number_44 : decode cX11_number 44 = .ok (.getfield 112, 3) := by decide +kernel
theorem dX11_number_47 : decode cX11_number 47 = .ok (.isub, 1) := by decide +kernel
theorem dX11_number_48 : decode cX11_number 48 = .ok (.iconst 3, 1) := by decide +kernel
theorem dX11_number_49 : decode cX11_number 49 = .ok (.if_icmp .ge 21, 3) := by decide +kernel
theorem dX11_number_52 : decode cX11_number 52 = .ok (.bipush 10, 2) := by decide +kernel
theorem dX11_number_54 : decode cX11_number 54 = .ok (.iload_n 3, 1) := by decide +kernel
theorem dX11_number_55 : decode cX11_number 55 = .ok (.imul, 1) := by decide +kernel
theorem dX11_number_56 : decode cX11_number 56 = .ok (.aload_n 0, 1) := by decide +kernel
theorem dX11_number_57 : decode cX11_number 57 = .ok (.getfield 23, 3) := by decide +kernel
theorem dX11_number_60 : decode cX11_number 60 = .ok (.aload_n 0, 1) := by decide +kernel
theorem dX11_number_61 : decode cX11_number 61 = .ok (.getfield 98, 3) := by decide +kernel
theorem dX11_number_64 : decode cX11_number 64 = .ok (.baload, 1) := by decide +kernel
theorem dX11_number_65 : decode cX11_number 65 = .ok (.iadd, 1) := by decide +kernel
theorem dX11_number_66 : decode cX11_number 66 = .ok (.bipush 48, 2) := by decide +kernel
theorem dX11_number_68 : decode cX11_number 68 = .ok (.isub, 1) := by decide +kernel
theorem dX11_number_69 : decode cX11_number 69 = .ok (.istore_n 3, 1) := by decide +kernel
theorem dX11_number_70 : decode cX11_number 70 = .ok (.aload_n 0, 1) := by decide +kernel
theorem dX11_number_71 : decode cX11_number 71 = .ok (.dup, 1) := by decide +kernel
theorem dX11_number_72 : decode cX11_number 72 = .ok (.getfield 98, 3) := by decide +kernel
theorem dX11_number_75 : decode cX11_number 75 = .ok (.iconst 1, 1) := by decide +kernel
theorem dX11_number_76 : decode cX11_number 76 = .ok (.iadd, 1) := by decide +kernel
theorem dX11_number_77 : decode cX11_number 77 = .ok (.putfield 98, 3) := by decide +kernel
theorem dX11_number_80 : decode cX11_number 80 = .ok (.goto (-52), 3) := by decide +kernel
theorem dX11_number_83 : decode cX11_number 83 = .ok (.aload_n 0, 1) := by decide +kernel
theorem dX11_number_84 : decode cX11_number 84 = .ok (.aload_n 0, 1) := by decide +kernel
theorem dX11_number_85 : decode cX11_number 85 = .ok (.getfield 98, 3) := by decide +kernel
theorem dX11_number_88 : decode cX11_number 88 = .ok (.aload_n 0, 1) := by decide +kernel
theorem dX11_number_89 : decode cX11_number 89 = .ok (.getfield 112, 3) := by decide +kernel
theorem dX11_number_92 : decode cX11_number 92 = .ok (.isub, 1) := by decide +kernel
theorem dX11_number_93 : decode cX11_number 93 = .ok (.iconst 3, 1) := by decide +kernel
theorem dX11_number_94 : decode cX11_number 94 = .ok (.if_icmp .gt 16, 3) := by decide +kernel
theorem dX11_number_97 : decode cX11_number 97 = .ok (.iload_n 3, 1) := by decide +kernel
theorem dX11_number_98 : decode cX11_number 98 = .ok (.iload_n 1, 1) := by decide +kernel
theorem dX11_number_99 : decode cX11_number 99 = .ok (.iload_n 2, 1) := by decide +kernel
theorem dX11_number_100 : decode cX11_number 100 = .ok (.invokestatic 79, 3) := by decide +kernel
theorem dX11_number_103 : decode cX11_number 103 = .ok (.ifCond .eq 7, 3) := by decide +kernel
theorem dX11_number_106 : decode cX11_number 106 = .ok (.iconst 1, 1) := by decide +kernel
theorem dX11_number_107 : decode cX11_number 107 = .ok (.goto 4, 3) := by decide +kernel
theorem dX11_number_110 : decode cX11_number 110 = .ok (.iconst 0, 1) := by decide +kernel
theorem dX11_number_111 : decode cX11_number 111 = .ok (.iconst 2, 1) := by decide +kernel
theorem dX11_number_112 : decode cX11_number 112 = .ok (.invokevirtual 133, 3) := by decide +kernel
theorem dX11_number_115 : decode cX11_number 115 = .ok (.aload_n 0, 1) := by decide +kernel
theorem dX11_number_116 : decode cX11_number 116 = .ok (.invokevirtual 104, 3) := by decide +kernel
theorem dX11_number_119 : decode cX11_number 119 = .ok (.ifCond .eq 7, 3) := by decide +kernel
theorem dX11_number_122 : decode cX11_number 122 = .ok (.iload_n 1, 1) := by decide +kernel
theorem dX11_number_123 : decode cX11_number 123 = .ok (.goto 4, 3) := by decide +kernel
theorem dX11_number_126 : decode cX11_number 126 = .ok (.iload_n 3, 1) := by decide +kernel
theorem dX11_number_127 : decode cX11_number 127 = .ok (.ireturn, 1) := by decide +kernel
theorem dX11_seesName_0 : decode cX11_seesName 0 = .ok (.aload_n 0, 1) := by decide +kernel
theorem dX11_seesName_1 : decode cX11_seesName 1 = .ok (.invokevirtual 121, 3) := by decide +kernel
theorem dX11_seesName_4 : decode cX11_seesName 4 = .ok (.istore_n 1, 1) := by decide +kernel
theorem dX11_seesName_5 : decode cX11_seesName 5 = .ok (.aload_n 0, 1) := by decide +kernel
theorem dX11_seesName_6 : decode cX11_seesName 6 = .ok (.iload_n 1, 1) := by decide +kernel
theorem dX11_seesName_7 : decode cX11_seesName 7 = .ok (.iconst 1, 1) := by decide +kernel
theorem dX11_seesName_8 : decode cX11_seesName 8 = .ok (.bipush 6, 2) := by decide +kernel
theorem dX11_seesName_10 : decode cX11_seesName 10 = .ok (.invokestatic 79, 3) := by decide +kernel
theorem dX11_seesName_13 : decode cX11_seesName 13 = .ok (.iconst 1, 1) := by decide +kernel
theorem dX11_seesName_14 : decode cX11_seesName 14 = .ok (.invokevirtual 133, 3) := by decide +kernel
theorem dX11_seesName_17 : decode cX11_seesName 17 = .ok (.iconst 0, 1) := by decide +kernel
theorem dX11_seesName_18 : decode cX11_seesName 18 = .ok (.istore_n 2, 1) := by decide +kernel
theorem dX11_seesName_19 : decode cX11_seesName 19 = .ok (.iconst 0, 1) := by decide +kernel
theorem dX11_seesName_20 : decode cX11_seesName 20 = .ok (.istore_n 3, 1) := by decide +kernel
theorem dX11_seesName_21 : decode cX11_seesName 21 = .ok (.iload_n 3, 1) := by decide +kernel
theorem dX11_seesName_22 : decode cX11_seesName 22 = .ok (.iload_n 1, 1) := by decide +kernel
theorem dX11_seesName_23 : decode cX11_seesName 23 = .ok (.if_icmp .ge 38, 3) := by decide +kernel
theorem dX11_seesName_26 : decode cX11_seesName 26 = .ok (.aload_n 0, 1) := by decide +kernel
theorem dX11_seesName_27 : decode cX11_seesName 27 = .ok (.invokevirtual 104, 3) := by decide +kernel
theorem dX11_seesName_30 : decode cX11_seesName 30 = .ok (.ifCond .ne 31, 3) := by decide +kernel
theorem dX11_seesName_33 : decode cX11_seesName 33 = .ok (.bipush 27, 2) := by decide +kernel
theorem dX11_seesName_35 : decode cX11_seesName 35 = .ok (.iload_n 2, 1) := by decide +kernel
theorem dX11_seesName_36 : decode cX11_seesName 36 = .ok (.imul, 1) := by decide +kernel
theorem dX11_seesName_37 : decode cX11_seesName 37 = .ok (.aload_n 0, 1) := by decide +kernel
theorem dX11_seesName_38 : decode cX11_seesName 38 = .ok (.getfield 23, 3) := by decide +kernel
theorem dX11_seesName_41 : decode cX11_seesName 41 = .ok (.aload_n 0, 1) := by decide +kernel
theorem dX11_seesName_42 : decode cX11_seesName 42 = .ok (.getfield 98, 3) := by decide +kernel
theorem dX11_seesName_45 : decode cX11_seesName 45 = .ok (.iload_n 3, 1) := by decide +kernel
theorem dX11_seesName_46 : decode cX11_seesName 46 = .ok (.iadd, 1) := by decide +kernel
theorem dX11_seesName_47 : decode cX11_seesName 47 = .ok (.baload, 1) := by decide +kernel
theorem dX11_seesName_48 : decode cX11_seesName 48 = .ok (.iadd, 1) := by decide +kernel
theorem dX11_seesName_49 : decode cX11_seesName 49 = .ok (.bipush 97, 2) := by decide +kernel
theorem dX11_seesName_51 : decode cX11_seesName 51 = .ok (.isub, 1) := by decide +kernel
theorem dX11_seesName_52 : decode cX11_seesName 52 = .ok (.iconst 1, 1) := by decide +kernel
theorem dX11_seesName_53 : decode cX11_seesName 53 = .ok (.iadd, 1) := by decide +kernel
theorem dX11_seesName_54 : decode cX11_seesName 54 = .ok (.istore_n 2, 1) := by decide +kernel
theorem dX11_seesName_55 : decode cX11_seesName 55 = .ok (.iinc 3 1, 3) := by decide +kernel
theorem dX11_seesName_58 : decode cX11_seesName 58 = .ok (.goto (-37), 3) := by decide +kernel
theorem dX11_seesName_61 : decode cX11_seesName 61 = .ok (.iload_n 2, 1) := by decide +kernel
theorem dX11_seesName_62 : decode cX11_seesName 62 = .ok (.ireturn, 1) := by decide +kernel
theorem dX11_passesName_0 : decode cX11_passesName 0 = .ok (.aload_n 0, 1) := by decide +kernel
theorem dX11_passesName_1 : decode cX11_passesName 1 = .ok (.invokevirtual 104, 3) := by decide +kernel
theorem dX11_passesName_4 : decode cX11_passesName 4 = .ok (.ifCond .ne 16, 3) := by decide +kernel
theorem dX11_passesName_7 : decode cX11_passesName 7 = .ok (.aload_n 0, 1) := by decide +kernel
theorem dX11_passesName_8 : decode cX11_passesName 8 = .ok (.dup, 1) := by decide +kernel
theorem dX11_passesName_9 : decode cX11_passesName 9 = .ok (.getfield 98, 3) := by decide +kernel
theorem dX11_passesName_12 : decode cX11_passesName 12 = .ok (.aload_n 0, 1) := by decide +kernel
theorem dX11_passesName_13 : decode cX11_passesName 13 = .ok (.invokevirtual 121, 3) := by decide +kernel
theorem dX11_passesName_16 : decode cX11_passesName 16 = .ok (.iadd, 1) := by decide +kernel
theorem dX11_passesName_17 : decode cX11_passesName 17 = .ok (.putfield 98, 3) := by decide +kernel
theorem dX11_passesName_20 : decode cX11_passesName 20 = .ok (.return_, 1) := by decide +kernel
theorem dX11_find_0 : decode cX11_find 0 = .ok (.iconst 0, 1) := by decide +kernel
theorem dX11_find_1 : decode cX11_find 1 = .ok (.istore 4, 2) := by decide +kernel
theorem dX11_find_3 : decode cX11_find 3 = .ok (.iload 4, 2) := by decide +kernel
theorem dX11_find_5 : decode cX11_find 5 = .ok (.iload_n 2, 1) := by decide +kernel
theorem dX11_find_6 : decode cX11_find 6 = .ok (.if_icmp .ge 25, 3) := by decide +kernel
theorem dX11_find_9 : decode cX11_find 9 = .ok (.aload_n 0, 1) := by decide +kernel
theorem dX11_find_10 : decode cX11_find 10 = .ok (.getfield 13, 3) := by decide +kernel
theorem dX11_find_13 : decode cX11_find 13 = .ok (.iload_n 1, 1) := by decide +kernel
theorem dX11_find_14 : decode cX11_find 14 = .ok (.iload 4, 2) := by decide +kernel
theorem dX11_find_16 : decode cX11_find 16 = .ok (.iadd, 1) := by decide +kernel
theorem dX11_find_17 : decode cX11_find 17 = .ok (.iaload, 1) := by decide +kernel
theorem dX11_find_18 : decode cX11_find 18 = .ok (.iload_n 3, 1) := by decide +kernel
theorem dX11_find_19 : decode cX11_find 19 = .ok (.if_icmp .ne 6, 3) := by decide +kernel
theorem dX11_find_22 : decode cX11_find 22 = .ok (.iload 4, 2) := by decide +kernel
theorem dX11_find_24 : decode cX11_find 24 = .ok (.ireturn, 1) := by decide +kernel
theorem dX11_find_25 : decode cX11_find 25 = .ok (.iinc 4 1, 3) := by decide +kernel
theorem dX11_find_28 : decode cX11_find 28 = .ok (.goto (-25), 3) := by decide +kernel
theorem dX11_find_31 : decode cX11_find 31 = .ok (.iconst (-1), 1) := by decide +kernel
theorem dX11_find_32 : decode cX11_find 32 = .ok (.ireturn, 1) := by decide +kernel
theorem dX11_readNew_0 : decode cX11_readNew 0 = .ok (.aload_n 0, 1) := by decide +kernel
theorem dX11_readNew_1 : decode cX11_readNew 1 = .ok (.invokevirtual 137, 3) := by decide +kernel
theorem dX11_readNew_4 : decode cX11_readNew 4 = .ok (.istore_n 3, 1) := by decide +kernel
theorem dX11_readNew_5 : decode cX11_readNew 5 = .ok (.aload_n 0, 1) := by decide +kernel
theorem dX11_readNew_6 : decode cX11_readNew 6 = .ok (.aload_n 0, 1) := by decide +kernel
theorem dX11_readNew_7 : decode cX11_readNew 7 = .ok (.iload_n 1, 1) := by decide +kernel
theorem dX11_readNew_8 : decode cX11_readNew 8 = .ok (.aload_n 0, 1) := by decide +kernel
theorem dX11_readNew_9 : decode cX11_readNew 9 = .ok (.getfield 13, 3) := by decide +kernel
theorem dX11_readNew_12 : decode cX11_readNew 12 = .ok (.iload_n 2, 1) := by decide +kernel
theorem dX11_readNew_13 : decode cX11_readNew 13 = .ok (.iaload, 1) := by decide +kernel
theorem dX11_readNew_14 : decode cX11_readNew 14 = .ok (.iload_n 3, 1) := by decide +kernel
theorem dX11_readNew_15 : decode cX11_readNew 15 = .ok (.invokevirtual 140, 3) := by decide +kernel
theorem dX11_readNew_18 : decode cX11_readNew 18 = .ok (.iconst (-1), 1) := by decide +kernel
theorem dX11_readNew_19 : decode cX11_readNew 19 = .ok (.if_icmp .ne 7, 3) := by decide +kernel
theorem dX11_readNew_22 : decode cX11_readNew 22 = .ok (.iconst 1, 1) := by decide +kernel
theorem dX11_readNew_23 : decode cX11_readNew 23 = .ok (.goto 4, 3) := by decide +kernel
theorem dX11_readNew_26 : decode cX11_readNew 26 = .ok (.iconst 0, 1) := by decide +kernel
theorem dX11_readNew_27 : decode cX11_readNew 27 = .ok (.iconst 3, 1) := by decide +kernel
theorem dX11_readNew_28 : decode cX11_readNew 28 = .ok (.invokevirtual 133, 3) := by decide +kernel
theorem dX11_readNew_31 : decode cX11_readNew 31 = .ok (.aload_n 0, 1) := by decide +kernel
theorem dX11_readNew_32 : decode cX11_readNew 32 = .ok (.invokevirtual 144, 3) := by decide +kernel
theorem dX11_readNew_35 : decode cX11_readNew 35 = .ok (.aload_n 0, 1) := by decide +kernel
theorem dX11_readNew_36 : decode cX11_readNew 36 = .ok (.invokevirtual 104, 3) := by decide +kernel
theorem dX11_readNew_39 : decode cX11_readNew 39 = .ok (.ifCond .eq 4, 3) := by decide +kernel
theorem dX11_readNew_42 : decode cX11_readNew 42 = .ok (.return_, 1) := by decide +kernel
theorem dX11_readNew_43 : decode cX11_readNew 43 = .ok (.aload_n 0, 1) := by decide +kernel
theorem dX11_readNew_44 : decode cX11_readNew 44 = .ok (.getfield 13, 3) := by decide +kernel
theorem dX11_readNew_47 : decode cX11_readNew 47 = .ok (.iload_n 1, 1) := by decide +kernel
theorem dX11_readNew_48 : decode cX11_readNew 48 = .ok (.aload_n 0, 1) := by decide +kernel
theorem dX11_readNew_49 : decode cX11_readNew 49 = .ok (.getfield 13, 3) := by decide +kernel
theorem dX11_readNew_52 : decode cX11_readNew 52 = .ok (.iload_n 2, 1) := by decide +kernel
theorem dX11_readNew_53 : decode cX11_readNew 53 = .ok (.iaload, 1) := by decide +kernel
theorem dX11_readNew_54 : decode cX11_readNew 54 = .ok (.iadd, 1) := by decide +kernel
theorem dX11_readNew_55 : decode cX11_readNew 55 = .ok (.iload_n 3, 1) := by decide +kernel
theorem dX11_readNew_56 : decode cX11_readNew 56 = .ok (.iastore, 1) := by decide +kernel
theorem dX11_readNew_57 : decode cX11_readNew 57 = .ok (.aload_n 0, 1) := by decide +kernel
theorem dX11_readNew_58 : decode cX11_readNew 58 = .ok (.getfield 13, 3) := by decide +kernel
theorem dX11_readNew_61 : decode cX11_readNew 61 = .ok (.iload_n 2, 1) := by decide +kernel
theorem dX11_readNew_62 : decode cX11_readNew 62 = .ok (.dup2, 1) := by decide +kernel
theorem dX11_readNew_63 : decode cX11_readNew 63 = .ok (.iaload, 1) := by decide +kernel
theorem dX11_readNew_64 : decode cX11_readNew 64 = .ok (.iconst 1, 1) := by decide +kernel
theorem dX11_readNew_65 : decode cX11_readNew 65 = .ok (.iadd, 1) := by decide +kernel
theorem dX11_readNew_66 : decode cX11_readNew 66 = .ok (.iastore, 1) := by decide +kernel
theorem dX11_readNew_67 : decode cX11_readNew 67 = .ok (.return_, 1) := by decide +kernel
theorem dX11_readPlace_0 : decode cX11_readPlace 0 = .ok (.aload_n 0, 1) := by decide +kernel
theorem dX11_readPlace_1 : decode cX11_readPlace 1 = .ok (.iload_n 1, 1) := by decide +kernel
theorem dX11_readPlace_2 : decode cX11_readPlace 2 = .ok (.putfield 112, 3) := by decide +kernel
theorem dX11_readPlace_5 : decode cX11_readPlace 5 = .ok (.aload_n 0, 1) := by decide +kernel
theorem dX11_readPlace_6 : decode cX11_readPlace 6 = .ok (.aload_n 0, 1) := by decide +kernel
theorem dX11_readPlace_7 : decode cX11_readPlace 7 = .ok (.invokevirtual 75, 3) := by decide +kernel
theorem dX11_readPlace_10 : decode cX11_readPlace 10 = .ok (.bipush 10, 2) := by decide +kernel
theorem dX11_readPlace_12 : decode cX11_readPlace 12 = .ok (.if_icmp .ge 7, 3) := by decide +kernel
theorem dX11_readPlace_15 : decode cX11_readPlace 15 = .ok (.iconst 1, 1) := by decide +kernel
theorem dX11_readPlace_16 : decode cX11_readPlace 16 = .ok (.goto 4, 3) := by decide +kernel
theorem dX11_readPlace_19 : decode cX11_readPlace 19 = .ok (.iconst 0, 1) := by decide +kernel
theorem dX11_readPlace_20 : decode cX11_readPlace 20 = .ok (.iconst 4, 1) := by decide +kernel
theorem dX11_readPlace_21 : decode cX11_readPlace 21 = .ok (.invokevirtual 133, 3) := by decide +kernel
theorem dX11_readPlace_24 : decode cX11_readPlace 24 = .ok (.aload_n 0, 1) := by decide +kernel
theorem dX11_readPlace_25 : decode cX11_readPlace 25 = .ok (.invokevirtual 104, 3) := by decide +kernel
theorem dX11_readPlace_28 : decode cX11_readPlace 28 = .ok (.ifCond .eq 4, 3) := by decide +kernel
theorem dX11_readPlace_31 : decode cX11_readPlace 31 = .ok (.return_, 1) := by decide +kernel
theorem dX11_readPlace_32 : decode cX11_readPlace 32 = .ok (.aload_n 0, 1) := by decide +kernel
theorem dX11_readPlace_33 : decode cX11_readPlace 33 = .ok (.getfield 13, 3) := by decide +kernel
theorem dX11_readPlace_36 : decode cX11_readPlace 36 = .ok (.bipush 8, 2) := by decide +kernel
theorem dX11_readPlace_38 : decode cX11_readPlace 38 = .ok (.aload_n 0, 1) := by decide +kernel
theorem dX11_readPlace_39 : decode cX11_readPlace 39 = .ok (.invokevirtual 75, 3) := by decide +kernel
theorem dX11_readPlace_42 : decode cX11_readPlace 42 = .ok (.iadd, 1) := by decide +kernel
theorem dX11_readPlace_43 : decode cX11_readPlace 43 = .ok (.iload_n 2, 1) := by decide +kernel
theorem dX11_readPlace_44 : decode cX11_readPlace 44 = .ok (.ifCond .eq 7, 3) := by decide +kernel
theorem dX11_readPlace_47 : decode cX11_readPlace 47 = .ok (.iconst 1, 1) := by decide +kernel
theorem dX11_readPlace_48 : decode cX11_readPlace 48 = .ok (.goto 4, 3) := by decide +kernel
theorem dX11_readPlace_51 : decode cX11_readPlace 51 = .ok (.iconst 0, 1) := by decide +kernel
theorem dX11_readPlace_52 : decode cX11_readPlace 52 = .ok (.iastore, 1) := by decide +kernel
theorem dX11_readPlace_53 : decode cX11_readPlace 53 = .ok (.aload_n 0, 1) := by decide +kernel
theorem dX11_readPlace_54 : decode cX11_readPlace 54 = .ok (.bipush 18, 2) := by decide +kernel
theorem dX11_readPlace_56 : decode cX11_readPlace 56 = .ok (.iconst 0, 1) := by decide +kernel
theorem dX11_readPlace_57 : decode cX11_readPlace 57 = .ok (.invokevirtual 147, 3) := by decide +kernel
theorem dX11_readPlace_60 : decode cX11_readPlace 60 = .ok (.return_, 1) := by decide +kernel
theorem dX11_readCarrier_0 : decode cX11_readCarrier 0 = .ok (.aload_n 0, 1) := by decide +kernel
theorem dX11_readCarrier_1 : decode cX11_readCarrier 1 = .ok (.iload_n 1, 1) := by decide +kernel
theorem dX11_readCarrier_2 : decode cX11_readCarrier 2 = .ok (.putfield 112, 3) := by decide +kernel
theorem dX11_readCarrier_5 : decode cX11_readCarrier 5 = .ok (.aload_n 0, 1) := by decide +kernel
theorem dX11_readCarrier_6 : decode cX11_readCarrier 6 = .ok (.aload_n 0, 1) := by decide +kernel
theorem dX11_readCarrier_7 : decode cX11_readCarrier 7 = .ok (.invokevirtual 151, 3) := by decide +kernel
theorem dX11_readCarrier_10 : decode cX11_readCarrier 10 = .ok (.iconst 5, 1) := by decide +kernel
theorem dX11_readCarrier_11 : decode cX11_readCarrier 11 = .ok (.if_icmp .ge 7, 3) := by decide +kernel
theorem dX11_readCarrier_14 : decode cX11_readCarrier 14 = .ok (.iconst 1, 1) := by decide +kernel
theorem dX11_readCarrier_15 : decode cX11_readCarrier 15 = .ok (.goto 4, 3) := by decide +kernel
theorem dX11_readCarrier_18 : decode cX11_readCarrier 18 = .ok (.iconst 0, 1) := by decide +kernel
theorem dX11_readCarrier_19 : decode cX11_readCarrier 19 = .ok (.iconst 4, 1) := by decide +kernel
theorem dX11_readCarrier_20 : decode cX11_readCarrier 20 = .ok (.invokevirtual 133, 3) := by decide +kernel
theorem dX11_readCarrier_23 : decode cX11_readCarrier 23 = .ok (.aload_n 0, 1) := by decide +kernel
theorem dX11_readCarrier_24 : decode cX11_readCarrier 24 = .ok (.invokevirtual 104, 3) := by decide +kernel
theorem dX11_readCarrier_27 : decode cX11_readCarrier 27 = .ok (.ifCond .ne 10, 3) := by decide +kernel
theorem dX11_readCarrier_30 : decode cX11_readCarrier 30 = .ok (.aload_n 0, 1) := by decide +kernel
theorem dX11_readCarrier_31 : decode cX11_readCarrier 31 = .ok (.bipush 28, 2) := by decide +kernel
theorem dX11_readCarrier_33 : decode cX11_readCarrier 33 = .ok (.iconst 1, 1) := by decide +kernel
theorem dX11_readCarrier_34 : decode cX11_readCarrier 34 = .ok (.invokevirtual 147, 3) := by decide +kernel
theorem dX11_readCarrier_37 : decode cX11_readCarrier 37 = .ok (.return_, 1) := by decide +kernel
theorem dX11_readPlaceName_0 : decode cX11_readPlaceName 0 = .ok (.aload_n 0, 1) := by decide +kernel
theorem dX11_readPlaceName_1 : decode cX11_readPlaceName 1 = .ok (.bipush 18, 2) := by decide +kernel
theorem dX11_readPlaceName_3 : decode cX11_readPlaceName 3 = .ok (.aload_n 0, 1) := by decide +kernel
theorem dX11_readPlaceName_4 : decode cX11_readPlaceName 4 = .ok (.invokevirtual 75, 3) := by decide +kernel
theorem dX11_readPlaceName_7 : decode cX11_readPlaceName 7 = .ok (.aload_n 0, 1) := by decide +kernel
theorem dX11_readPlaceName_8 : decode cX11_readPlaceName 8 = .ok (.invokevirtual 137, 3) := by decide +kernel
theorem dX11_readPlaceName_11 : decode cX11_readPlaceName 11 = .ok (.invokevirtual 140, 3) := by decide +kernel
theorem dX11_readPlaceName_14 : decode cX11_readPlaceName 14 = .ok (.istore_n 1, 1) := by decide +kernel
theorem dX11_readPlaceName_15 : decode cX11_readPlaceName 15 = .ok (.aload_n 0, 1) := by decide +kernel
theorem dX11_readPlaceName_16 : decode cX11_readPlaceName 16 = .ok (.iload_n 1, 1) := by decide +kernel
theorem dX11_readPlaceName_17 : decode cX11_readPlaceName 17 = .ok (.iconst (-1), 1) := by decide +kernel
theorem dX11_readPlaceName_18 : decode cX11_readPlaceName 18 = .ok (.if_icmp .eq 7, 3) := by decide +kernel
theorem dX11_readPlaceName_21 : decode cX11_readPlaceName 21 = .ok (.iconst 1, 1) := by decide +kernel
theorem dX11_readPlaceName_22 : decode cX11_readPlaceName 22 = .ok (.goto 4, 3) := by decide +kernel
theorem dX11_readPlaceName_25 : decode cX11_readPlaceName 25 = .ok (.iconst 0, 1) := by decide +kernel
theorem dX11_readPlaceName_26 : decode cX11_readPlaceName 26 = .ok (.iconst 3, 1) := by decide +kernel
theorem dX11_readPlaceName_27 : decode cX11_readPlaceName 27 = .ok (.invokevirtual 133, 3) := by decide +kernel
theorem dX11_readPlaceName_30 : decode cX11_readPlaceName 30 = .ok (.aload_n 0, 1) := by decide +kernel
theorem dX11_readPlaceName_31 : decode cX11_readPlaceName 31 = .ok (.invokevirtual 144, 3) := by decide +kernel
theorem dX11_readPlaceName_34 : decode cX11_readPlaceName 34 = .ok (.iload_n 1, 1) := by decide +kernel
theorem dX11_readPlaceName_35 : decode cX11_readPlaceName 35 = .ok (.ireturn, 1) := by decide +kernel
theorem dX11_readStops_0 : decode cX11_readStops 0 = .ok (.aload_n 0, 1) := by decide +kernel
theorem dX11_readStops_1 : decode cX11_readStops 1 = .ok (.getfield 33, 3) := by decide +kernel
theorem dX11_readStops_4 : decode cX11_readStops 4 = .ok (.iconst 0, 1) := by decide +kernel
theorem dX11_readStops_5 : decode cX11_readStops 5 = .ok (.iconst 0, 1) := by decide +kernel
theorem dX11_readStops_6 : decode cX11_readStops 6 = .ok (.iastore, 1) := by decide +kernel
theorem dX11_readStops_7 : decode cX11_readStops 7 = .ok (.iconst 0, 1) := by decide +kernel
theorem dX11_readStops_8 : decode cX11_readStops 8 = .ok (.istore_n 1, 1) := by decide +kernel
theorem dX11_readStops_9 : decode cX11_readStops 9 = .ok (.aload_n 0, 1) := by decide +kernel
theorem dX11_readStops_10 : decode cX11_readStops 10 = .ok (.invokevirtual 118, 3) := by decide +kernel
theorem dX11_readStops_13 : decode cX11_readStops 13 = .ok (.aload_n 0, 1) := by decide +kernel
theorem dX11_readStops_14 : decode cX11_readStops 14 = .ok (.aload_n 0, 1) := by decide +kernel
theorem dX11_readStops_15 : decode cX11_readStops 15 = .ok (.bipush 48, 2) := by decide +kernel
theorem dX11_readStops_17 : decode cX11_readStops 17 = .ok (.bipush 57, 2) := by decide +kernel
theorem dX11_readStops_19 : decode cX11_readStops 19 = .ok (.invokevirtual 108, 3) := by decide +kernel
theorem dX11_readStops_22 : decode cX11_readStops 22 = .ok (.ifCond .eq 14, 3) := by decide +kernel
theorem dX11_readStops_25 : decode cX11_readStops 25 = .ok (.aload_n 0, 1) := by decide +kernel
theorem dX11_readStops_26 : decode cX11_readStops 26 = .ok (.getfield 33, 3) := by decide +kernel
theorem dX11_readStops_29 : decode cX11_readStops 29 = .ok (.iconst 0, 1) := by decide +kernel
theorem dX11_readStops_30 : decode cX11_readStops 30 = .ok (.iaload, 1) := by decide +kernel
theorem dX11_readStops_31 : decode cX11_readStops 31 = .ok (.bipush 6, 2) := by decide +kernel
theorem dX11_readStops_33 : decode cX11_readStops 33 = .ok (.if_icmp .ge 7, 3) := by decide +kernel
theorem dX11_readStops_36 : decode cX11_readStops 36 = .ok (.iconst 1, 1) := by decide +kernel
theorem dX11_readStops_37 : decode cX11_readStops 37 = .ok (.goto 4, 3) := by decide +kernel
theorem dX11_readStops_40 : decode cX11_readStops 40 = .ok (.iconst 0, 1) := by decide +kernel
theorem dX11_readStops_41 : decode cX11_readStops 41 = .ok (.iconst 4, 1) := by decide +kernel
theorem dX11_readStops_42 : decode cX11_readStops 42 = .ok (.invokevirtual 133, 3) := by decide +kernel
theorem dX11_readStops_45 : decode cX11_readStops 45 = .ok (.aload_n 0, 1) := by decide +kernel
theorem dX11_readStops_46 : decode cX11_readStops 46 = .ok (.iload_n 1, 1) := by decide +kernel
theorem dX11_readStops_47 : decode cX11_readStops 47 = .ok (.bipush 23, 2) := by decide +kernel
theorem dX11_readStops_49 : decode cX11_readStops 49 = .ok (.invokevirtual 154, 3) := by decide +kernel
theorem dX11_readStops_52 : decode cX11_readStops 52 = .ok (.istore_n 2, 1) := by decide +kernel
theorem dX11_readStops_53 : decode cX11_readStops 53 = .ok (.aload_n 0, 1) := by decide +kernel
theorem dX11_readStops_54 : decode cX11_readStops 54 = .ok (.invokevirtual 157, 3) := by decide +kernel
theorem dX11_readStops_57 : decode cX11_readStops 57 = .ok (.istore_n 3, 1) := by decide +kernel
theorem dX11_readStops_58 : decode cX11_readStops 58 = .ok (.aload_n 0, 1) := by decide +kernel
theorem dX11_readStops_59 : decode cX11_readStops 59 = .ok (.invokevirtual 104, 3) := by decide +kernel
theorem dX11_readStops_62 : decode cX11_readStops 62 = .ok (.ifCond .eq 4, 3) := by decide +kernel
theorem dX11_readStops_65 : decode cX11_readStops 65 = .ok (.return_, 1) := by decide +kernel
theorem dX11_readStops_66 : decode cX11_readStops 66 = .ok (.aload_n 0, 1) := by decide +kernel
theorem dX11_readStops_67 : decode cX11_readStops 67 = .ok (.getfield 33, 3) := by decide +kernel
theorem dX11_readStops_70 : decode cX11_readStops 70 = .ok (.iconst 1, 1) := by decide +kernel
theorem dX11_readStops_71 : decode cX11_readStops 71 = .ok (.iconst 2, 1) := by decide +kernel
theorem dX11_readStops_72 : decode cX11_readStops 72 = .ok (.aload_n 0, 1) := by decide +kernel
theorem dX11_readStops_73 : decode cX11_readStops 73 = .ok (.getfield 33, 3) := by decide +kernel
theorem dX11_readStops_76 : decode cX11_readStops 76 = .ok (.iconst 0, 1) := by decide +kernel
theorem dX11_readStops_77 : decode cX11_readStops 77 = .ok (.iaload, 1) := by decide +kernel
theorem dX11_readStops_78 : decode cX11_readStops 78 = .ok (.imul, 1) := by decide +kernel
theorem dX11_readStops_79 : decode cX11_readStops 79 = .ok (.iadd, 1) := by decide +kernel
theorem dX11_readStops_80 : decode cX11_readStops 80 = .ok (.iload_n 2, 1) := by decide +kernel
theorem dX11_readStops_81 : decode cX11_readStops 81 = .ok (.iastore, 1) := by decide +kernel
theorem dX11_readStops_82 : decode cX11_readStops 82 = .ok (.aload_n 0, 1) := by decide +kernel
theorem dX11_readStops_83 : decode cX11_readStops 83 = .ok (.getfield 33, 3) := by decide +kernel
theorem dX11_readStops_86 : decode cX11_readStops 86 = .ok (.iconst 2, 1) := by decide +kernel
theorem dX11_readStops_87 : decode cX11_readStops 87 = .ok (.iconst 2, 1) := by decide +kernel
theorem dX11_readStops_88 : decode cX11_readStops 88 = .ok (.aload_n 0, 1) := by decide +kernel
theorem dX11_readStops_89 : decode cX11_readStops 89 = .ok (.getfield 33, 3) := by decide +kernel
theorem dX11_readStops_92 : decode cX11_readStops 92 = .ok (.iconst 0, 1) := by decide +kernel
theorem dX11_readStops_93 : decode cX11_readStops 93 = .ok (.iaload, 1) := by decide +kernel
theorem dX11_readStops_94 : decode cX11_readStops 94 = .ok (.imul, 1) := by decide +kernel
theorem dX11_readStops_95 : decode cX11_readStops 95 = .ok (.iadd, 1) := by decide +kernel
theorem dX11_readStops_96 : decode cX11_readStops 96 = .ok (.iload_n 3, 1) := by decide +kernel
theorem dX11_readStops_97 : decode cX11_readStops 97 = .ok (.iastore, 1) := by decide +kernel
theorem dX11_readStops_98 : decode cX11_readStops 98 = .ok (.aload_n 0, 1) := by decide +kernel
theorem dX11_readStops_99 : decode cX11_readStops 99 = .ok (.getfield 33, 3) := by decide +kernel
theorem dX11_readStops_102 : decode cX11_readStops 102 = .ok (.iconst 0, 1) := by decide +kernel
theorem dX11_readStops_103 : decode cX11_readStops 103 = .ok (.dup2, 1) := by decide +kernel
theorem dX11_readStops_104 : decode cX11_readStops 104 = .ok (.iaload, 1) := by decide +kernel
theorem dX11_readStops_105 : decode cX11_readStops 105 = .ok (.iconst 1, 1) := by decide +kernel
theorem dX11_readStops_106 : decode cX11_readStops 106 = .ok (.iadd, 1) := by decide +kernel
theorem dX11_readStops_107 : decode cX11_readStops 107 = .ok (.iastore, 1) := by decide +kernel
theorem dX11_readStops_108 : decode cX11_readStops 108 = .ok (.iload_n 2, 1) := by decide +kernel
theorem dX11_readStops_109 : decode cX11_readStops 109 = .ok (.iconst 1, 1) := by decide +kernel
theorem dX11_readStops_110 : decode cX11_readStops 110 = .ok (.iadd, 1) := by decide +kernel
theorem dX11_readStops_111 : decode cX11_readStops 111 = .ok (.istore_n 1, 1) := by decide +kernel
theorem dX11_readStops_112 : decode cX11_readStops 112 = .ok (.aload_n 0, 1) := by decide +kernel
theorem dX11_readStops_113 : decode cX11_readStops 113 = .ok (.invokevirtual 118, 3) := by decide +kernel
theorem dX11_readStops_116 : decode cX11_readStops 116 = .ok (.aload_n 0, 1) := by decide +kernel
theorem dX11_readStops_117 : decode cX11_readStops 117 = .ok (.bipush 48, 2) := by decide +kernel
theorem dX11_readStops_119 : decode cX11_readStops 119 = .ok (.bipush 57, 2) := by decide +kernel
theorem dX11_readStops_121 : decode cX11_readStops 121 = .ok (.invokevirtual 108, 3) := by decide +kernel
theorem dX11_readStops_124 : decode cX11_readStops 124 = .ok (.ifCond .ne (-115), 3) := by decide +kernel
theorem dX11_readStops_127 : decode cX11_readStops 127 = .ok (.return_, 1) := by decide +kernel
theorem dX11_readRoute_0 : decode cX11_readRoute 0 = .ok (.aload_n 0, 1) := by decide +kernel
theorem dX11_readRoute_1 : decode cX11_readRoute 1 = .ok (.iload_n 1, 1) := by decide +kernel
theorem dX11_readRoute_2 : decode cX11_readRoute 2 = .ok (.putfield 112, 3) := by decide +kernel
theorem dX11_readRoute_5 : decode cX11_readRoute 5 = .ok (.aload_n 0, 1) := by decide +kernel
theorem dX11_readRoute_6 : decode cX11_readRoute 6 = .ok (.aload_n 0, 1) := by decide +kernel
theorem dX11_readRoute_7 : decode cX11_readRoute 7 = .ok (.invokevirtual 151, 3) := by decide +kernel
theorem dX11_readRoute_10 : decode cX11_readRoute 10 = .ok (.ifCond .le 7, 3) := by decide +kernel
theorem dX11_readRoute_13 : decode cX11_readRoute 13 = .ok (.iconst 1, 1) := by decide +kernel
theorem dX11_readRoute_14 : decode cX11_readRoute 14 = .ok (.goto 4, 3) := by decide +kernel
theorem dX11_readRoute_17 : decode cX11_readRoute 17 = .ok (.iconst 0, 1) := by decide +kernel
theorem dX11_readRoute_18 : decode cX11_readRoute 18 = .ok (.iconst 1, 1) := by decide +kernel
theorem dX11_readRoute_19 : decode cX11_readRoute 19 = .ok (.invokevirtual 133, 3) := by decide +kernel
theorem dX11_readRoute_22 : decode cX11_readRoute 22 = .ok (.aload_n 0, 1) := by decide +kernel
theorem dX11_readRoute_23 : decode cX11_readRoute 23 = .ok (.iconst 1, 1) := by decide +kernel
theorem dX11_readRoute_24 : decode cX11_readRoute 24 = .ok (.bipush 127, 2) := by decide +kernel
theorem dX11_readRoute_26 : decode cX11_readRoute 26 = .ok (.invokevirtual 154, 3) := by decide +kernel
theorem dX11_readRoute_29 : decode cX11_readRoute 29 = .ok (.istore_n 2, 1) := by decide +kernel
theorem dX11_readRoute_30 : decode cX11_readRoute 30 = .ok (.aload_n 0, 1) := by decide +kernel
theorem dX11_readRoute_31 : decode cX11_readRoute 31 = .ok (.invokevirtual 104, 3) := by decide +kernel
theorem dX11_readRoute_34 : decode cX11_readRoute 34 = .ok (.ifCond .eq 4, 3) := by decide +kernel
theorem dX11_readRoute_37 : decode cX11_readRoute 37 = .ok (.return_, 1) := by decide +kernel
theorem dX11_readRoute_38 : decode cX11_readRoute 38 = .ok (.aload_n 0, 1) := by decide +kernel
theorem dX11_readRoute_39 : decode cX11_readRoute 39 = .ok (.invokevirtual 151, 3) := by decide +kernel
theorem dX11_readRoute_42 : decode cX11_readRoute 42 = .ok (.iconst 1, 1) := by decide +kernel
theorem dX11_readRoute_43 : decode cX11_readRoute 43 = .ok (.isub, 1) := by decide +kernel
theorem dX11_readRoute_44 : decode cX11_readRoute 44 = .ok (.istore_n 3, 1) := by decide +kernel
theorem dX11_readRoute_45 : decode cX11_readRoute 45 = .ok (.iconst 0, 1) := by decide +kernel
theorem dX11_readRoute_46 : decode cX11_readRoute 46 = .ok (.istore 4, 2) := by decide +kernel
theorem dX11_readRoute_48 : decode cX11_readRoute 48 = .ok (.iload 4, 2) := by decide +kernel
theorem dX11_readRoute_50 : decode cX11_readRoute 50 = .ok (.bipush 7, 2) := by decide +kernel
theorem dX11_readRoute_52 : decode cX11_readRoute 52 = .ok (.if_icmp .ge 43, 3) := by decide +kernel
theorem dX11_readRoute_55 : decode cX11_readRoute 55 = .ok (.aload_n 0, 1) := by decide +kernel
theorem dX11_readRoute_56 : decode cX11_readRoute 56 = .ok (.iload_n 2, 1) := by decide +kernel
theorem dX11_readRoute_57 : decode cX11_readRoute 57 = .ok (.iload 4, 2) := by decide +kernel
theorem dX11_readRoute_59 : decode cX11_readRoute 59 = .ok (.invokestatic 160, 3) := by decide +kernel
theorem dX11_readRoute_62 : decode cX11_readRoute 62 = .ok (.ifCond .eq 18, 3) := by decide +kernel
theorem dX11_readRoute_65 : decode cX11_readRoute 65 = .ok (.aload_n 0, 1) := by decide +kernel
theorem dX11_readRoute_66 : decode cX11_readRoute 66 = .ok (.getfield 13, 3) := by decide +kernel
theorem dX11_readRoute_69 : decode cX11_readRoute 69 = .ok (.aload_n 0, 1) := by decide +kernel
theorem dX11_readRoute_70 : decode cX11_readRoute 70 = .ok (.iload_n 3, 1) := by decide +kernel
theorem dX11_readRoute_71 : decode cX11_readRoute 71 = .ok (.iload 4, 2) := by decide +kernel
theorem dX11_readRoute_73 : decode cX11_readRoute 73 = .ok (.invokevirtual 83, 3) := by decide +kernel
theorem dX11_readRoute_76 : decode cX11_readRoute 76 = .ok (.iaload, 1) := by decide +kernel
theorem dX11_readRoute_77 : decode cX11_readRoute 77 = .ok (.ifCond .ne 7, 3) := by decide +kernel
theorem dX11_readRoute_80 : decode cX11_readRoute 80 = .ok (.iconst 1, 1) := by decide +kernel
theorem dX11_readRoute_81 : decode cX11_readRoute 81 = .ok (.goto 4, 3) := by decide +kernel
theorem dX11_readRoute_84 : decode cX11_readRoute 84 = .ok (.iconst 0, 1) := by decide +kernel
theorem dX11_readRoute_85 : decode cX11_readRoute 85 = .ok (.iconst 2, 1) := by decide +kernel
theorem dX11_readRoute_86 : decode cX11_readRoute 86 = .ok (.invokevirtual 133, 3) := by decide +kernel
theorem dX11_readRoute_89 : decode cX11_readRoute 89 = .ok (.iinc 4 1, 3) := by decide +kernel
theorem dX11_readRoute_92 : decode cX11_readRoute 92 = .ok (.goto (-44), 3) := by decide +kernel
theorem dX11_readRoute_95 : decode cX11_readRoute 95 = .ok (.aload_n 0, 1) := by decide +kernel
theorem dX11_readRoute_96 : decode cX11_readRoute 96 = .ok (.invokevirtual 163, 3) := by decide +kernel
theorem dX11_readRoute_99 : decode cX11_readRoute 99 = .ok (.aload_n 0, 1) := by decide +kernel
theorem dX11_readRoute_100 : decode cX11_readRoute 100 = .ok (.invokevirtual 104, 3) := by decide +kernel
theorem dX11_readRoute_103 : decode cX11_readRoute 103 = .ok (.ifCond .eq 4, 3) := by decide +kernel
theorem dX11_readRoute_106 : decode cX11_readRoute 106 = .ok (.return_, 1) := by decide +kernel
theorem dX11_readRoute_107 : decode cX11_readRoute 107 = .ok (.iconst 0, 1) := by decide +kernel
theorem dX11_readRoute_108 : decode cX11_readRoute 108 = .ok (.istore 4, 2) := by decide +kernel
theorem dX11_readRoute_110 : decode cX11_readRoute 110 = .ok (.iload 4, 2) := by decide +kernel
theorem dX11_readRoute_112 : decode cX11_readRoute 112 = .ok (.bipush 7, 2) := by decide +kernel
theorem dX11_readRoute_114 : decode cX11_readRoute 114 = .ok (.if_icmp .ge 56, 3) := by decide +kernel
theorem dX11_readRoute_117 : decode cX11_readRoute 117 = .ok (.iconst 0, 1) := by decide +kernel
theorem dX11_readRoute_118 : decode cX11_readRoute 118 = .ok (.istore 5, 2) := by decide +kernel
theorem dX11_readRoute_120 : decode cX11_readRoute 120 = .ok (.iload 5, 2) := by decide +kernel
theorem dX11_readRoute_122 : decode cX11_readRoute 122 = .ok (.bipush 13, 2) := by decide +kernel
theorem dX11_readRoute_124 : decode cX11_readRoute 124 = .ok (.if_icmp .ge 40, 3) := by decide +kernel
theorem dX11_readRoute_127 : decode cX11_readRoute 127 = .ok (.iload_n 2, 1) := by decide +kernel
theorem dX11_readRoute_128 : decode cX11_readRoute 128 = .ok (.iload 4, 2) := by decide +kernel
theorem dX11_readRoute_130 : decode cX11_readRoute 130 = .ok (.invokestatic 160, 3) := by decide +kernel
theorem dX11_readRoute_133 : decode cX11_readRoute 133 = .ok (.ifCond .eq 31, 3) := by decide +kernel
theorem dX11_readRoute_136 : decode cX11_readRoute 136 = .ok (.aload_n 0, 1) := by decide +kernel
theorem dX11_readRoute_137 : decode cX11_readRoute 137 = .ok (.getfield 13, 3) := by decide +kernel
theorem dX11_readRoute_140 : decode cX11_readRoute 140 = .ok (.aload_n 0, 1) := by decide +kernel
theorem dX11_readRoute_141 : decode cX11_readRoute 141 = .ok (.iload_n 3, 1) := by decide +kernel
theorem dX11_readRoute_142 : decode cX11_readRoute 142 = .ok (.iload 4, 2) := by decide +kernel
theorem dX11_readRoute_144 : decode cX11_readRoute 144 = .ok (.invokevirtual 83, 3) := by decide +kernel
theorem dX11_readRoute_147 : decode cX11_readRoute 147 = .ok (.iload 5, 2) := by decide +kernel
theorem dX11_readRoute_149 : decode cX11_readRoute 149 = .ok (.iadd, 1) := by decide +kernel
theorem dX11_readRoute_150 : decode cX11_readRoute 150 = .ok (.aload_n 0, 1) := by decide +kernel
theorem dX11_readRoute_151 : decode cX11_readRoute 151 = .ok (.getfield 33, 3) := by decide +kernel
theorem dX11_readRoute_154 : decode cX11_readRoute 154 = .ok (.iload 5, 2) := by decide +kernel
theorem dX11_readRoute_156 : decode cX11_readRoute 156 = .ok (.iaload, 1) := by decide +kernel
theorem dX11_readRoute_157 : decode cX11_readRoute 157 = .ok (.iastore, 1) := by decide +kernel
theorem dX11_readRoute_158 : decode cX11_readRoute 158 = .ok (.iinc 5 1, 3) := by decide +kernel
theorem dX11_readRoute_161 : decode cX11_readRoute 161 = .ok (.goto (-41), 3) := by decide +kernel
theorem dX11_readRoute_164 : decode cX11_readRoute 164 = .ok (.iinc 4 1, 3) := by decide +kernel
theorem dX11_readRoute_167 : decode cX11_readRoute 167 = .ok (.goto (-57), 3) := by decide +kernel
theorem dX11_readRoute_170 : decode cX11_readRoute 170 = .ok (.return_, 1) := by decide +kernel
theorem dX11_readVillage_0 : decode cX11_readVillage 0 = .ok (.aload_n 0, 1) := by decide +kernel
theorem dX11_readVillage_1 : decode cX11_readVillage 1 = .ok (.bipush 18, 2) := by decide +kernel
theorem dX11_readVillage_3 : decode cX11_readVillage 3 = .ok (.aload_n 0, 1) := by decide +kernel
theorem dX11_readVillage_4 : decode cX11_readVillage 4 = .ok (.invokevirtual 75, 3) := by decide +kernel
theorem dX11_readVillage_7 : decode cX11_readVillage 7 = .ok (.aload_n 0, 1) := by decide +kernel
theorem dX11_readVillage_8 : decode cX11_readVillage 8 = .ok (.invokevirtual 137, 3) := by decide +kernel
theorem dX11_readVillage_11 : decode cX11_readVillage 11 = .ok (.invokevirtual 140, 3) := by decide +kernel
theorem dX11_readVillage_14 : decode cX11_readVillage 14 = .ok (.istore_n 2, 1) := by decide +kernel
theorem dX11_readVillage_15 : decode cX11_readVillage 15 = .ok (.aload_n 0, 1) := by decide +kernel
theorem dX11_readVillage_16 : decode cX11_readVillage 16 = .ok (.aload_n 0, 1) := by decide +kernel
theorem dX11_readVillage_17 : decode cX11_readVillage 17 = .ok (.iload_n 2, 1) := by decide +kernel
theorem dX11_readVillage_18 : decode cX11_readVillage 18 = .ok (.invokevirtual 166, 3) := by decide +kernel
theorem dX11_readVillage_21 : decode cX11_readVillage 21 = .ok (.ifCond .eq 12, 3) := by decide +kernel
theorem dX11_readVillage_24 : decode cX11_readVillage 24 = .ok (.iload_n 2, 1) := by decide +kernel
theorem dX11_readVillage_25 : decode cX11_readVillage 25 = .ok (.iload_n 1, 1) := by decide +kernel
theorem dX11_readVillage_26 : decode cX11_readVillage 26 = .ok (.if_icmp .eq 7, 3) := by decide +kernel
theorem dX11_readVillage_29 : decode cX11_readVillage 29 = .ok (.iconst 1, 1) := by decide +kernel
theorem dX11_readVillage_30 : decode cX11_readVillage 30 = .ok (.goto 4, 3) := by decide +kernel
theorem dX11_readVillage_33 : decode cX11_readVillage 33 = .ok (.iconst 0, 1) := by decide +kernel
theorem dX11_readVillage_34 : decode cX11_readVillage 34 = .ok (.iconst 3, 1) := by decide +kernel
theorem dX11_readVillage_35 : decode cX11_readVillage 35 = .ok (.invokevirtual 133, 3) := by decide +kernel
theorem dX11_readVillage_38 : decode cX11_readVillage 38 = .ok (.aload_n 0, 1) := by decide +kernel
theorem dX11_readVillage_39 : decode cX11_readVillage 39 = .ok (.invokevirtual 144, 3) := by decide +kernel
theorem dX11_readVillage_42 : decode cX11_readVillage 42 = .ok (.iload_n 2, 1) := by decide +kernel
theorem dX11_readVillage_43 : decode cX11_readVillage 43 = .ok (.ireturn, 1) := by decide +kernel
theorem dX11_readLetter_0 : decode cX11_readLetter 0 = .ok (.aload_n 0, 1) := by decide +kernel
theorem dX11_readLetter_1 : decode cX11_readLetter 1 = .ok (.iload_n 1, 1) := by decide +kernel
theorem dX11_readLetter_2 : decode cX11_readLetter 2 = .ok (.putfield 112, 3) := by decide +kernel
theorem dX11_readLetter_5 : decode cX11_readLetter 5 = .ok (.aload_n 0, 1) := by decide +kernel
theorem dX11_readLetter_6 : decode cX11_readLetter 6 = .ok (.aload_n 0, 1) := by decide +kernel
theorem dX11_readLetter_7 : decode cX11_readLetter 7 = .ok (.invokevirtual 170, 3) := by decide +kernel
theorem dX11_readLetter_10 : decode cX11_readLetter 10 = .ok (.bipush 30, 2) := by decide +kernel
theorem dX11_readLetter_12 : decode cX11_readLetter 12 = .ok (.if_icmp .ge 7, 3) := by decide +kernel
theorem dX11_readLetter_15 : decode cX11_readLetter 15 = .ok (.iconst 1, 1) := by decide +kernel
theorem dX11_readLetter_16 : decode cX11_readLetter 16 = .ok (.goto 4, 3) := by decide +kernel
theorem dX11_readLetter_19 : decode cX11_readLetter 19 = .ok (.iconst 0, 1) := by decide +kernel
theorem dX11_readLetter_20 : decode cX11_readLetter 20 = .ok (.iconst 4, 1) := by decide +kernel
theorem dX11_readLetter_21 : decode cX11_readLetter 21 = .ok (.invokevirtual 133, 3) := by decide +kernel
theorem dX11_readLetter_24 : decode cX11_readLetter 24 = .ok (.aload_n 0, 1) := by decide +kernel
theorem dX11_readLetter_25 : decode cX11_readLetter 25 = .ok (.invokevirtual 104, 3) := by decide +kernel
theorem dX11_readLetter_28 : decode cX11_readLetter 28 = .ok (.ifCond .eq 4, 3) := by decide +kernel
theorem dX11_readLetter_31 : decode cX11_readLetter 31 = .ok (.return_, 1) := by decide +kernel
theorem dX11_readLetter_32 : decode cX11_readLetter 32 = .ok (.aload_n 0, 1) := by decide +kernel
theorem dX11_readLetter_33 : decode cX11_readLetter 33 = .ok (.iconst (-1), 1) := by decide +kernel
theorem dX11_readLetter_34 : decode cX11_readLetter 34 = .ok (.invokevirtual 173, 3) := by decide +kernel
theorem dX11_readLetter_37 : decode cX11_readLetter 37 = .ok (.istore_n 2, 1) := by decide +kernel
theorem dX11_readLetter_38 : decode cX11_readLetter 38 = .ok (.aload_n 0, 1) := by decide +kernel
theorem dX11_readLetter_39 : decode cX11_readLetter 39 = .ok (.iload_n 2, 1) := by decide +kernel
theorem dX11_readLetter_40 : decode cX11_readLetter 40 = .ok (.invokevirtual 173, 3) := by decide +kernel
theorem dX11_readLetter_43 : decode cX11_readLetter 43 = .ok (.istore_n 3, 1) := by decide +kernel
theorem dX11_readLetter_44 : decode cX11_readLetter 44 = .ok (.aload_n 0, 1) := by decide +kernel
theorem dX11_readLetter_45 : decode cX11_readLetter 45 = .ok (.ldc 177, 2) := by decide +kernel
theorem dX11_readLetter_47 : decode cX11_readLetter 47 = .ok (.invokevirtual 179, 3) := by decide +kernel
theorem dX11_readLetter_50 : decode cX11_readLetter 50 = .ok (.ifCond .eq 14, 3) := by decide +kernel
theorem dX11_readLetter_53 : decode cX11_readLetter 53 = .ok (.aload_n 0, 1) := by decide +kernel
theorem dX11_readLetter_54 : decode cX11_readLetter 54 = .ok (.iconst 1, 1) := by decide +kernel
theorem dX11_readLetter_55 : decode cX11_readLetter 55 = .ok (.sipush 999, 3) := by decide +kernel
theorem dX11_readLetter_58 : decode cX11_readLetter 58 = .ok (.invokevirtual 154, 3) := by decide +kernel
theorem dX11_readLetter_61 : decode cX11_readLetter 61 = .ok (.goto 4, 3) := by decide +kernel
theorem dX11_readLetter_64 : decode cX11_readLetter 64 = .ok (.iconst 0, 1) := by decide +kernel
theorem dX11_readLetter_65 : decode cX11_readLetter 65 = .ok (.istore 4, 2) := by decide +kernel
theorem dX11_readLetter_67 : decode cX11_readLetter 67 = .ok (.aload_n 0, 1) := by decide +kernel
theorem dX11_readLetter_68 : decode cX11_readLetter 68 = .ok (.invokevirtual 104, 3) := by decide +kernel
theorem dX11_readLetter_71 : decode cX11_readLetter 71 = .ok (.ifCond .ne 12, 3) := by decide +kernel
theorem dX11_readLetter_74 : decode cX11_readLetter 74 = .ok (.aload_n 0, 1) := by decide +kernel
theorem dX11_readLetter_75 : decode cX11_readLetter 75 = .ok (.iload_n 2, 1) := by decide +kernel
theorem dX11_readLetter_76 : decode cX11_readLetter 76 = .ok (.iload_n 3, 1) := by decide +kernel
theorem dX11_readLetter_77 : decode cX11_readLetter 77 = .ok (.iload 4, 2) := by decide +kernel
theorem dX11_readLetter_79 : decode cX11_readLetter 79 = .ok (.invokevirtual 183, 3) := by decide +kernel
theorem dX11_readLetter_82 : decode cX11_readLetter 82 = .ok (.pop, 1) := by decide +kernel
theorem dX11_readLetter_83 : decode cX11_readLetter 83 = .ok (.return_, 1) := by decide +kernel
theorem dX11_readLine_0 : decode cX11_readLine 0 = .ok (.aload_n 0, 1) := by decide +kernel
theorem dX11_readLine_1 : decode cX11_readLine 1 = .ok (.getfield 112, 3) := by decide +kernel
theorem dX11_readLine_4 : decode cX11_readLine 4 = .ok (.istore_n 1, 1) := by decide +kernel
theorem dX11_readLine_5 : decode cX11_readLine 5 = .ok (.aload_n 0, 1) := by decide +kernel
theorem dX11_readLine_6 : decode cX11_readLine 6 = .ok (.ldc 186, 2) := by decide +kernel
theorem dX11_readLine_8 : decode cX11_readLine 8 = .ok (.invokevirtual 179, 3) := by decide +kernel
theorem dX11_readLine_11 : decode cX11_readLine 11 = .ok (.ifCond .eq 12, 3) := by decide +kernel
theorem dX11_readLine_14 : decode cX11_readLine 14 = .ok (.aload_n 0, 1) := by decide +kernel
theorem dX11_readLine_15 : decode cX11_readLine 15 = .ok (.iload_n 1, 1) := by decide +kernel
theorem dX11_readLine_16 : decode cX11_readLine 16 = .ok (.iconst 1, 1) := by decide +kernel
theorem dX11_readLine_17 : decode cX11_readLine 17 = .ok (.invokevirtual 188, 3) := by decide +kernel
theorem dX11_readLine_20 : decode cX11_readLine 20 = .ok (.goto 103, 3) := by decide +kernel
theorem dX11_readLine_23 : decode cX11_readLine 23 = .ok (.aload_n 0, 1) := by decide +kernel
theorem dX11_readLine_24 : decode cX11_readLine 24 = .ok (.ldc 192, 2) := by decide +kernel
theorem dX11_readLine_26 : decode cX11_readLine 26 = .ok (.invokevirtual 179, 3) := by decide +kernel
theorem dX11_readLine_29 : decode cX11_readLine 29 = .ok (.ifCond .eq 12, 3) := by decide +kernel
theorem dX11_readLine_32 : decode cX11_readLine 32 = .ok (.aload_n 0, 1) := by decide +kernel
theorem dX11_readLine_33 : decode cX11_readLine 33 = .ok (.iload_n 1, 1) := by decide +kernel
theorem dX11_readLine_34 : decode cX11_readLine 34 = .ok (.iconst 0, 1) := by decide +kernel
theorem dX11_readLine_35 : decode cX11_readLine 35 = .ok (.invokevirtual 188, 3) := by decide +kernel
theorem dX11_readLine_38 : decode cX11_readLine 38 = .ok (.goto 85, 3) := by decide +kernel
theorem dX11_readLine_41 : decode cX11_readLine 41 = .ok (.aload_n 0, 1) := by decide +kernel
theorem dX11_readLine_42 : decode cX11_readLine 42 = .ok (.ldc 194, 2) := by decide +kernel
theorem dX11_readLine_44 : decode cX11_readLine 44 = .ok (.invokevirtual 179, 3) := by decide +kernel
theorem dX11_readLine_47 : decode cX11_readLine 47 = .ok (.ifCond .eq 11, 3) := by decide +kernel
theorem dX11_readLine_50 : decode cX11_readLine 50 = .ok (.aload_n 0, 1) := by decide +kernel
theorem dX11_readLine_51 : decode cX11_readLine 51 = .ok (.iload_n 1, 1) := by decide +kernel
theorem dX11_readLine_52 : decode cX11_readLine 52 = .ok (.invokevirtual 196, 3) := by decide +kernel
theorem dX11_readLine_55 : decode cX11_readLine 55 = .ok (.goto 68, 3) := by decide +kernel
theorem dX11_readLine_58 : decode cX11_readLine 58 = .ok (.aload_n 0, 1) := by decide +kernel
theorem dX11_readLine_59 : decode cX11_readLine 59 = .ok (.ldc 200, 2) := by decide +kernel
theorem dX11_readLine_61 : decode cX11_readLine 61 = .ok (.invokevirtual 179, 3) := by decide +kernel
theorem dX11_readLine_64 : decode cX11_readLine 64 = .ok (.ifCond .eq 11, 3) := by decide +kernel
theorem dX11_readLine_67 : decode cX11_readLine 67 = .ok (.aload_n 0, 1) := by decide +kernel
theorem dX11_readLine_68 : decode cX11_readLine 68 = .ok (.iload_n 1, 1) := by decide +kernel
theorem dX11_readLine_69 : decode cX11_readLine 69 = .ok (.invokevirtual 202, 3) := by decide +kernel
theorem dX11_readLine_72 : decode cX11_readLine 72 = .ok (.goto 51, 3) := by decide +kernel
theorem dX11_readLine_75 : decode cX11_readLine 75 = .ok (.aload_n 0, 1) := by decide +kernel
theorem dX11_readLine_76 : decode cX11_readLine 76 = .ok (.ldc 205, 2) := by decide +kernel
theorem dX11_readLine_78 : decode cX11_readLine 78 = .ok (.invokevirtual 179, 3) := by decide +kernel
theorem dX11_readLine_81 : decode cX11_readLine 81 = .ok (.ifCond .eq 19, 3) := by decide +kernel
theorem dX11_readLine_84 : decode cX11_readLine 84 = .ok (.aload_n 0, 1) := by decide +kernel
theorem dX11_readLine_85 : decode cX11_readLine 85 = .ok (.getfield 13, 3) := by decide +kernel
theorem dX11_readLine_88 : decode cX11_readLine 88 = .ok (.iconst 5, 1) := by decide +kernel
theorem dX11_readLine_89 : decode cX11_readLine 89 = .ok (.aload_n 0, 1) := by decide +kernel
theorem dX11_readLine_90 : decode cX11_readLine 90 = .ok (.iconst 1, 1) := by decide +kernel
theorem dX11_readLine_91 : decode cX11_readLine 91 = .ok (.bipush 20, 2) := by decide +kernel
theorem dX11_readLine_93 : decode cX11_readLine 93 = .ok (.invokevirtual 154, 3) := by decide +kernel
theorem dX11_readLine_96 : decode cX11_readLine 96 = .ok (.iastore, 1) := by decide +kernel
theorem dX11_readLine_97 : decode cX11_readLine 97 = .ok (.goto 26, 3) := by decide +kernel
theorem dX11_readLine_100 : decode cX11_readLine 100 = .ok (.aload_n 0, 1) := by decide +kernel
theorem dX11_readLine_101 : decode cX11_readLine 101 = .ok (.ldc 207, 2) := by decide +kernel
theorem dX11_readLine_103 : decode cX11_readLine 103 = .ok (.invokevirtual 179, 3) := by decide +kernel
theorem dX11_readLine_106 : decode cX11_readLine 106 = .ok (.ifCond .eq 11, 3) := by decide +kernel
theorem dX11_readLine_109 : decode cX11_readLine 109 = .ok (.aload_n 0, 1) := by decide +kernel
theorem dX11_readLine_110 : decode cX11_readLine 110 = .ok (.iload_n 1, 1) := by decide +kernel
theorem dX11_readLine_111 : decode cX11_readLine 111 = .ok (.invokevirtual 209, 3) := by decide +kernel
theorem dX11_readLine_114 : decode cX11_readLine 114 = .ok (.goto 9, 3) := by decide +kernel
theorem dX11_readLine_117 : decode cX11_readLine 117 = .ok (.aload_n 0, 1) := by decide +kernel
theorem dX11_readLine_118 : decode cX11_readLine 118 = .ok (.iconst 0, 1) := by decide +kernel
theorem dX11_readLine_119 : decode cX11_readLine 119 = .ok (.iconst 1, 1) := by decide +kernel
theorem dX11_readLine_120 : decode cX11_readLine 120 = .ok (.invokevirtual 133, 3) := by decide +kernel
theorem dX11_readLine_123 : decode cX11_readLine 123 = .ok (.aload_n 0, 1) := by decide +kernel
theorem dX11_readLine_124 : decode cX11_readLine 124 = .ok (.invokevirtual 118, 3) := by decide +kernel
theorem dX11_readLine_127 : decode cX11_readLine 127 = .ok (.aload_n 0, 1) := by decide +kernel
theorem dX11_readLine_128 : decode cX11_readLine 128 = .ok (.aload_n 0, 1) := by decide +kernel
theorem dX11_readLine_129 : decode cX11_readLine 129 = .ok (.bipush 59, 2) := by decide +kernel
theorem dX11_readLine_131 : decode cX11_readLine 131 = .ok (.bipush 59, 2) := by decide +kernel
theorem dX11_readLine_133 : decode cX11_readLine 133 = .ok (.invokevirtual 108, 3) := by decide +kernel
theorem dX11_readLine_136 : decode cX11_readLine 136 = .ok (.iconst 1, 1) := by decide +kernel
theorem dX11_readLine_137 : decode cX11_readLine 137 = .ok (.invokevirtual 133, 3) := by decide +kernel
theorem dX11_readLine_140 : decode cX11_readLine 140 = .ok (.aload_n 0, 1) := by decide +kernel
theorem dX11_readLine_141 : decode cX11_readLine 141 = .ok (.dup, 1) := by decide +kernel
theorem dX11_readLine_142 : decode cX11_readLine 142 = .ok (.getfield 98, 3) := by decide +kernel
theorem dX11_readLine_145 : decode cX11_readLine 145 = .ok (.iconst 1, 1) := by decide +kernel
theorem dX11_readLine_146 : decode cX11_readLine 146 = .ok (.iadd, 1) := by decide +kernel
theorem dX11_readLine_147 : decode cX11_readLine 147 = .ok (.putfield 98, 3) := by decide +kernel
theorem dX11_readLine_150 : decode cX11_readLine 150 = .ok (.aload_n 0, 1) := by decide +kernel
theorem dX11_readLine_151 : decode cX11_readLine 151 = .ok (.invokevirtual 118, 3) := by decide +kernel
theorem dX11_readLine_154 : decode cX11_readLine 154 = .ok (.return_, 1) := by decide +kernel
theorem dX11_load_0 : decode cX11_load 0 = .ok (.aload_n 0, 1) := by decide +kernel
theorem dX11_load_1 : decode cX11_load 1 = .ok (.iconst 0, 1) := by decide +kernel
theorem dX11_load_2 : decode cX11_load 2 = .ok (.putfield 3, 3) := by decide +kernel
theorem dX11_load_5 : decode cX11_load 5 = .ok (.aload_n 0, 1) := by decide +kernel
theorem dX11_load_6 : decode cX11_load 6 = .ok (.aload_n 0, 1) := by decide +kernel
theorem dX11_load_7 : decode cX11_load 7 = .ok (.getfield 89, 3) := by decide +kernel
theorem dX11_load_10 : decode cX11_load 10 = .ok (.putfield 101, 3) := by decide +kernel
theorem dX11_load_13 : decode cX11_load 13 = .ok (.aload_n 0, 1) := by decide +kernel
theorem dX11_load_14 : decode cX11_load 14 = .ok (.iconst 0, 1) := by decide +kernel
theorem dX11_load_15 : decode cX11_load 15 = .ok (.putfield 89, 3) := by decide +kernel
theorem dX11_load_18 : decode cX11_load 18 = .ok (.aload_n 0, 1) := by decide +kernel
theorem dX11_load_19 : decode cX11_load 19 = .ok (.iconst 0, 1) := by decide +kernel
theorem dX11_load_20 : decode cX11_load 20 = .ok (.putfield 98, 3) := by decide +kernel
theorem dX11_load_23 : decode cX11_load 23 = .ok (.aload_n 0, 1) := by decide +kernel
theorem dX11_load_24 : decode cX11_load 24 = .ok (.iconst (-1), 1) := by decide +kernel
theorem dX11_load_25 : decode cX11_load 25 = .ok (.putfield 95, 3) := by decide +kernel
theorem dX11_load_28 : decode cX11_load 28 = .ok (.aload_n 0, 1) := by decide +kernel
theorem dX11_load_29 : decode cX11_load 29 = .ok (.iconst 0, 1) := by decide +kernel
theorem dX11_load_30 : decode cX11_load 30 = .ok (.putfield 115, 3) := by decide +kernel
theorem dX11_load_33 : decode cX11_load 33 = .ok (.aload_n 0, 1) := by decide +kernel
theorem dX11_load_34 : decode cX11_load 34 = .ok (.aload_n 0, 1) := by decide +kernel
theorem dX11_load_35 : decode cX11_load 35 = .ok (.getfield 13, 3) := by decide +kernel
theorem dX11_load_38 : decode cX11_load 38 = .ok (.iconst 0, 1) := by decide +kernel
theorem dX11_load_39 : decode cX11_load 39 = .ok (.aload_n 0, 1) := by decide +kernel
theorem dX11_load_40 : decode cX11_load 40 = .ok (.getfield 17, 3) := by decide +kernel
theorem dX11_load_43 : decode cX11_load 43 = .ok (.iconst 0, 1) := by decide +kernel
theorem dX11_load_44 : decode cX11_load 44 = .ok (.invokevirtual 63, 3) := by decide +kernel
theorem dX11_load_47 : decode cX11_load 47 = .ok (.aload_n 0, 1) := by decide +kernel
theorem dX11_load_48 : decode cX11_load 48 = .ok (.getfield 60, 3) := by decide +kernel
theorem dX11_load_51 : decode cX11_load 51 = .ok (.istore_n 1, 1) := by decide +kernel
theorem dX11_load_52 : decode cX11_load 52 = .ok (.aload_n 0, 1) := by decide +kernel
theorem dX11_load_53 : decode cX11_load 53 = .ok (.invokevirtual 57, 3) := by decide +kernel
theorem dX11_load_56 : decode cX11_load 56 = .ok (.aload_n 0, 1) := by decide +kernel
theorem dX11_load_57 : decode cX11_load 57 = .ok (.invokevirtual 118, 3) := by decide +kernel
theorem dX11_load_60 : decode cX11_load 60 = .ok (.aload_n 0, 1) := by decide +kernel
theorem dX11_load_61 : decode cX11_load 61 = .ok (.invokevirtual 104, 3) := by decide +kernel
theorem dX11_load_64 : decode cX11_load 64 = .ok (.ifCond .ne 21, 3) := by decide +kernel
theorem dX11_load_67 : decode cX11_load 67 = .ok (.aload_n 0, 1) := by decide +kernel
theorem dX11_load_68 : decode cX11_load 68 = .ok (.getfield 98, 3) := by decide +kernel
theorem dX11_load_71 : decode cX11_load 71 = .ok (.aload_n 0, 1) := by decide +kernel
theorem dX11_load_72 : decode cX11_load 72 = .ok (.getfield 101, 3) := by decide +kernel
theorem dX11_load_75 : decode cX11_load 75 = .ok (.if_icmp .ge 10, 3) := by decide +kernel
theorem dX11_load_78 : decode cX11_load 78 = .ok (.aload_n 0, 1) := by decide +kernel
theorem dX11_load_79 : decode cX11_load 79 = .ok (.invokevirtual 212, 3) := by decide +kernel
theorem dX11_load_82 : decode cX11_load 82 = .ok (.goto (-22), 3) := by decide +kernel
theorem dX11_load_85 : decode cX11_load 85 = .ok (.aload_n 0, 1) := by decide +kernel
theorem dX11_load_86 : decode cX11_load 86 = .ok (.aload_n 0, 1) := by decide +kernel
theorem dX11_load_87 : decode cX11_load 87 = .ok (.getfield 95, 3) := by decide +kernel
theorem dX11_load_90 : decode cX11_load 90 = .ok (.putfield 30, 3) := by decide +kernel
theorem dX11_load_93 : decode cX11_load 93 = .ok (.aload_n 0, 1) := by decide +kernel
theorem dX11_load_94 : decode cX11_load 94 = .ok (.aload_n 0, 1) := by decide +kernel
theorem dX11_load_95 : decode cX11_load 95 = .ok (.getfield 115, 3) := by decide +kernel
theorem dX11_load_98 : decode cX11_load 98 = .ok (.putfield 92, 3) := by decide +kernel
theorem dX11_load_101 : decode cX11_load 101 = .ok (.aload_n 0, 1) := by decide +kernel
theorem dX11_load_102 : decode cX11_load 102 = .ok (.aload_n 0, 1) := by decide +kernel
theorem dX11_load_103 : decode cX11_load 103 = .ok (.invokevirtual 104, 3) := by decide +kernel
theorem dX11_load_106 : decode cX11_load 106 = .ok (.iconst 1, 1) := by decide +kernel
theorem dX11_load_107 : decode cX11_load 107 = .ok (.invokevirtual 215, 3) := by decide +kernel
theorem dX11_load_110 : decode cX11_load 110 = .ok (.ifCond .eq 24, 3) := by decide +kernel
theorem dX11_load_113 : decode cX11_load 113 = .ok (.aload_n 0, 1) := by decide +kernel
theorem dX11_load_114 : decode cX11_load 114 = .ok (.aload_n 0, 1) := by decide +kernel
theorem dX11_load_115 : decode cX11_load 115 = .ok (.getfield 17, 3) := by decide +kernel
theorem dX11_load_118 : decode cX11_load 118 = .ok (.iconst 0, 1) := by decide +kernel
theorem dX11_load_119 : decode cX11_load 119 = .ok (.aload_n 0, 1) := by decide +kernel
theorem dX11_load_120 : decode cX11_load 120 = .ok (.getfield 13, 3) := by decide +kernel
theorem dX11_load_123 : decode cX11_load 123 = .ok (.iconst 0, 1) := by decide +kernel
theorem dX11_load_124 : decode cX11_load 124 = .ok (.invokevirtual 63, 3) := by decide +kernel
theorem dX11_load_127 : decode cX11_load 127 = .ok (.aload_n 0, 1) := by decide +kernel
theorem dX11_load_128 : decode cX11_load 128 = .ok (.iload_n 1, 1) := by decide +kernel
theorem dX11_load_129 : decode cX11_load 129 = .ok (.putfield 60, 3) := by decide +kernel
theorem dX11_load_132 : decode cX11_load 132 = .ok (.iconst 0, 1) := by decide +kernel
theorem dX11_load_133 : decode cX11_load 133 = .ok (.ireturn, 1) := by decide +kernel
theorem dX11_load_134 : decode cX11_load 134 = .ok (.iconst 0, 1) := by decide +kernel
theorem dX11_load_135 : decode cX11_load 135 = .ok (.istore_n 2, 1) := by decide +kernel
theorem dX11_load_136 : decode cX11_load 136 = .ok (.iload_n 2, 1) := by decide +kernel
theorem dX11_load_137 : decode cX11_load 137 = .ok (.aload_n 0, 1) := by decide +kernel
theorem dX11_load_138 : decode cX11_load 138 = .ok (.invokevirtual 170, 3) := by decide +kernel
theorem dX11_load_141 : decode cX11_load 141 = .ok (.if_icmp .ge 14, 3) := by decide +kernel
theorem dX11_load_144 : decode cX11_load 144 = .ok (.aload_n 0, 1) := by decide +kernel
theorem dX11_load_145 : decode cX11_load 145 = .ok (.iload_n 2, 1) := by decide +kernel
theorem dX11_load_146 : decode cX11_load 146 = .ok (.invokevirtual 219, 3) := by decide +kernel
theorem dX11_load_149 : decode cX11_load 149 = .ok (.iinc 2 1, 3) := by decide +kernel
theorem dX11_load_152 : decode cX11_load 152 = .ok (.goto (-16), 3) := by decide +kernel
theorem dX11_load_155 : decode cX11_load 155 = .ok (.aload_n 0, 1) := by decide +kernel
theorem dX11_load_156 : decode cX11_load 156 = .ok (.invokevirtual 75, 3) := by decide +kernel
theorem dX11_load_159 : decode cX11_load 159 = .ok (.ireturn, 1) := by decide +kernel
theorem dX11_posts_0 : decode cX11_posts 0 = .ok (.aload_n 0, 1) := by decide +kernel
theorem dX11_posts_1 : decode cX11_posts 1 = .ok (.invokevirtual 170, 3) := by decide +kernel
theorem dX11_posts_4 : decode cX11_posts 4 = .ok (.istore 4, 2) := by decide +kernel
theorem dX11_posts_6 : decode cX11_posts 6 = .ok (.aload_n 0, 1) := by decide +kernel
theorem dX11_posts_7 : decode cX11_posts 7 = .ok (.getfield 13, 3) := by decide +kernel
theorem dX11_posts_10 : decode cX11_posts 10 = .ok (.iconst 2, 1) := by decide +kernel
theorem dX11_posts_11 : decode cX11_posts 11 = .ok (.dup2, 1) := by decide +kernel
theorem dX11_posts_12 : decode cX11_posts 12 = .ok (.iaload, 1) := by decide +kernel
theorem dX11_posts_13 : decode cX11_posts 13 = .ok (.iconst 1, 1) := by decide +kernel
theorem dX11_posts_14 : decode cX11_posts 14 = .ok (.iadd, 1) := by decide +kernel
theorem dX11_posts_15 : decode cX11_posts 15 = .ok (.iastore, 1) := by decide +kernel
theorem dX11_posts_16 : decode cX11_posts 16 = .ok (.aload_n 0, 1) := by decide +kernel
theorem dX11_posts_17 : decode cX11_posts 17 = .ok (.iload 4, 2) := by decide +kernel
theorem dX11_posts_19 : decode cX11_posts 19 = .ok (.iconst 0, 1) := by decide +kernel
theorem dX11_posts_20 : decode cX11_posts 20 = .ok (.iload_n 1, 1) := by decide +kernel
theorem dX11_posts_21 : decode cX11_posts 21 = .ok (.invokevirtual 71, 3) := by decide +kernel
theorem dX11_posts_24 : decode cX11_posts 24 = .ok (.aload_n 0, 1) := by decide +kernel
theorem dX11_posts_25 : decode cX11_posts 25 = .ok (.iload 4, 2) := by decide +kernel
theorem dX11_posts_27 : decode cX11_posts 27 = .ok (.iconst 1, 1) := by decide +kernel
theorem dX11_posts_28 : decode cX11_posts 28 = .ok (.iload_n 2, 1) := by decide +kernel
theorem dX11_posts_29 : decode cX11_posts 29 = .ok (.invokevirtual 71, 3) := by decide +kernel
theorem dX11_posts_32 : decode cX11_posts 32 = .ok (.aload_n 0, 1) := by decide +kernel
theorem dX11_posts_33 : decode cX11_posts 33 = .ok (.iload 4, 2) := by decide +kernel
theorem dX11_posts_35 : decode cX11_posts 35 = .ok (.iconst 2, 1) := by decide +kernel
theorem dX11_posts_36 : decode cX11_posts 36 = .ok (.iload_n 3, 1) := by decide +kernel
theorem dX11_posts_37 : decode cX11_posts 37 = .ok (.invokevirtual 71, 3) := by decide +kernel
theorem dX11_posts_40 : decode cX11_posts 40 = .ok (.aload_n 0, 1) := by decide +kernel
theorem dX11_posts_41 : decode cX11_posts 41 = .ok (.iload 4, 2) := by decide +kernel
theorem dX11_posts_43 : decode cX11_posts 43 = .ok (.iconst 0, 1) := by decide +kernel
theorem dX11_posts_44 : decode cX11_posts 44 = .ok (.iload_n 1, 1) := by decide +kernel
theorem dX11_posts_45 : decode cX11_posts 45 = .ok (.invokevirtual 222, 3) := by decide +kernel
theorem dX11_posts_48 : decode cX11_posts 48 = .ok (.aload_n 0, 1) := by decide +kernel
theorem dX11_posts_49 : decode cX11_posts 49 = .ok (.iload 4, 2) := by decide +kernel
theorem dX11_posts_51 : decode cX11_posts 51 = .ok (.iconst 5, 1) := by decide +kernel
theorem dX11_posts_52 : decode cX11_posts 52 = .ok (.aload_n 0, 1) := by decide +kernel
theorem dX11_posts_53 : decode cX11_posts 53 = .ok (.getfield 13, 3) := by decide +kernel
theorem dX11_posts_56 : decode cX11_posts 56 = .ok (.bipush 6, 2) := by decide +kernel
theorem dX11_posts_58 : decode cX11_posts 58 = .ok (.iaload, 1) := by decide +kernel
theorem dX11_posts_59 : decode cX11_posts 59 = .ok (.invokevirtual 71, 3) := by decide +kernel
theorem dX11_posts_62 : decode cX11_posts 62 = .ok (.aload_n 0, 1) := by decide +kernel
theorem dX11_posts_63 : decode cX11_posts 63 = .ok (.iload 4, 2) := by decide +kernel
theorem dX11_posts_65 : decode cX11_posts 65 = .ok (.bipush 6, 2) := by decide +kernel
theorem dX11_posts_67 : decode cX11_posts 67 = .ok (.iconst (-1), 1) := by decide +kernel
theorem dX11_posts_68 : decode cX11_posts 68 = .ok (.invokevirtual 71, 3) := by decide +kernel
theorem dX11_posts_71 : decode cX11_posts 71 = .ok (.aload_n 0, 1) := by decide +kernel
theorem dX11_posts_72 : decode cX11_posts 72 = .ok (.iload 4, 2) := by decide +kernel
theorem dX11_posts_74 : decode cX11_posts 74 = .ok (.bipush 7, 2) := by decide +kernel
theorem dX11_posts_76 : decode cX11_posts 76 = .ok (.iconst (-1), 1) := by decide +kernel
theorem dX11_posts_77 : decode cX11_posts 77 = .ok (.invokevirtual 71, 3) := by decide +kernel
theorem dX11_posts_80 : decode cX11_posts 80 = .ok (.aload_n 0, 1) := by decide +kernel
theorem dX11_posts_81 : decode cX11_posts 81 = .ok (.iload 4, 2) := by decide +kernel
theorem dX11_posts_83 : decode cX11_posts 83 = .ok (.bipush 8, 2) := by decide +kernel
theorem dX11_posts_85 : decode cX11_posts 85 = .ok (.iconst 0, 1) := by decide +kernel
theorem dX11_posts_86 : decode cX11_posts 86 = .ok (.invokevirtual 71, 3) := by decide +kernel
theorem dX11_posts_89 : decode cX11_posts 89 = .ok (.aload_n 0, 1) := by decide +kernel
theorem dX11_posts_90 : decode cX11_posts 90 = .ok (.iload 4, 2) := by decide +kernel
theorem dX11_posts_92 : decode cX11_posts 92 = .ok (.bipush 9, 2) := by decide +kernel
theorem dX11_posts_94 : decode cX11_posts 94 = .ok (.iconst 0, 1) := by decide +kernel
theorem dX11_posts_95 : decode cX11_posts 95 = .ok (.invokevirtual 71, 3) := by decide +kernel
theorem dX11_posts_98 : decode cX11_posts 98 = .ok (.iload 4, 2) := by decide +kernel
theorem dX11_posts_100 : decode cX11_posts 100 = .ok (.ireturn, 1) := by decide +kernel
theorem dX11_promises_0 : decode cX11_promises 0 = .ok (.aload_n 0, 1) := by decide +kernel
theorem dX11_promises_1 : decode cX11_promises 1 = .ok (.iconst 0, 1) := by decide +kernel
theorem dX11_promises_2 : decode cX11_promises 2 = .ok (.iconst 1, 1) := by decide +kernel
theorem dX11_promises_3 : decode cX11_promises 3 = .ok (.aload_n 0, 1) := by decide +kernel
theorem dX11_promises_4 : decode cX11_promises 4 = .ok (.iload_n 1, 1) := by decide +kernel
theorem dX11_promises_5 : decode cX11_promises 5 = .ok (.iconst 0, 1) := by decide +kernel
theorem dX11_promises_6 : decode cX11_promises 6 = .ok (.invokevirtual 67, 3) := by decide +kernel
theorem dX11_promises_9 : decode cX11_promises 9 = .ok (.ishl, 1) := by decide +kernel
theorem dX11_promises_10 : decode cX11_promises 10 = .ok (.aload_n 0, 1) := by decide +kernel
theorem dX11_promises_11 : decode cX11_promises 11 = .ok (.getfield 13, 3) := by decide +kernel
theorem dX11_promises_14 : decode cX11_promises 14 = .ok (.bipush 6, 2) := by decide +kernel
theorem dX11_promises_16 : decode cX11_promises 16 = .ok (.iaload, 1) := by decide +kernel
theorem dX11_promises_17 : decode cX11_promises 17 = .ok (.invokevirtual 225, 3) := by decide +kernel
theorem dX11_promises_20 : decode cX11_promises 20 = .ok (.aload_n 0, 1) := by decide +kernel
theorem dX11_promises_21 : decode cX11_promises 21 = .ok (.iload_n 1, 1) := by decide +kernel
theorem dX11_promises_22 : decode cX11_promises 22 = .ok (.bipush 6, 2) := by decide +kernel
theorem dX11_promises_24 : decode cX11_promises 24 = .ok (.aload_n 0, 1) := by decide +kernel
theorem dX11_promises_25 : decode cX11_promises 25 = .ok (.getfield 42, 3) := by decide +kernel
theorem dX11_promises_28 : decode cX11_promises 28 = .ok (.aload_n 0, 1) := by decide +kernel
theorem dX11_promises_29 : decode cX11_promises 29 = .ok (.iload_n 1, 1) := by decide +kernel
theorem dX11_promises_30 : decode cX11_promises 30 = .ok (.iconst 1, 1) := by decide +kernel
theorem dX11_promises_31 : decode cX11_promises 31 = .ok (.invokevirtual 67, 3) := by decide +kernel
theorem dX11_promises_34 : decode cX11_promises 34 = .ok (.iaload, 1) := by decide +kernel
theorem dX11_promises_35 : decode cX11_promises 35 = .ok (.invokevirtual 71, 3) := by decide +kernel
theorem dX11_promises_38 : decode cX11_promises 38 = .ok (.return_, 1) := by decide +kernel
theorem dX11_swaps_0 : decode cX11_swaps 0 = .ok (.iconst 0, 1) := by decide +kernel
theorem dX11_swaps_1 : decode cX11_swaps 1 = .ok (.istore_n 3, 1) := by decide +kernel
theorem dX11_swaps_2 : decode cX11_swaps 2 = .ok (.iload_n 3, 1) := by decide +kernel
theorem dX11_swaps_3 : decode cX11_swaps 3 = .ok (.aload_n 0, 1) := by decide +kernel
theorem dX11_swaps_4 : decode cX11_swaps 4 = .ok (.invokevirtual 75, 3) := by decide +kernel
theorem dX11_swaps_7 : decode cX11_swaps 7 = .ok (.if_icmp .ge 92, 3) := by decide +kernel
theorem dX11_swaps_10 : decode cX11_swaps 10 = .ok (.iconst (-1), 1) := by decide +kernel
theorem dX11_swaps_11 : decode cX11_swaps 11 = .ok (.istore 4, 2) := by decide +kernel
theorem dX11_swaps_13 : decode cX11_swaps 13 = .ok (.iconst (-1), 1) := by decide +kernel
theorem dX11_swaps_14 : decode cX11_swaps 14 = .ok (.istore 5, 2) := by decide +kernel
theorem dX11_swaps_16 : decode cX11_swaps 16 = .ok (.iconst 0, 1) := by decide +kernel
theorem dX11_swaps_17 : decode cX11_swaps 17 = .ok (.istore 6, 2) := by decide +kernel
theorem dX11_swaps_19 : decode cX11_swaps 19 = .ok (.iload 6, 2) := by decide +kernel
theorem dX11_swaps_21 : decode cX11_swaps 21 = .ok (.aload_n 0, 1) := by decide +kernel
theorem dX11_swaps_22 : decode cX11_swaps 22 = .ok (.invokevirtual 151, 3) := by decide +kernel
theorem dX11_swaps_25 : decode cX11_swaps 25 = .ok (.if_icmp .ge 68, 3) := by decide +kernel
theorem dX11_swaps_28 : decode cX11_swaps 28 = .ok (.aload_n 0, 1) := by decide +kernel
theorem dX11_swaps_29 : decode cX11_swaps 29 = .ok (.iload_n 3, 1) := by decide +kernel
theorem dX11_swaps_30 : decode cX11_swaps 30 = .ok (.invokevirtual 166, 3) := by decide +kernel
theorem dX11_swaps_33 : decode cX11_swaps 33 = .ok (.ifCond .ne 60, 3) := by decide +kernel
theorem dX11_swaps_36 : decode cX11_swaps 36 = .ok (.aload_n 0, 1) := by decide +kernel
theorem dX11_swaps_37 : decode cX11_swaps 37 = .ok (.iload 6, 2) := by decide +kernel
theorem dX11_swaps_39 : decode cX11_swaps 39 = .ok (.iload_n 1, 1) := by decide +kernel
theorem dX11_swaps_40 : decode cX11_swaps 40 = .ok (.invokevirtual 228, 3) := by decide +kernel
theorem dX11_swaps_43 : decode cX11_swaps 43 = .ok (.iload_n 3, 1) := by decide +kernel
theorem dX11_swaps_44 : decode cX11_swaps 44 = .ok (.if_icmp .eq 6, 3) := by decide +kernel
theorem dX11_swaps_47 : decode cX11_swaps 47 = .ok (.goto 40, 3) := by decide +kernel
theorem dX11_swaps_50 : decode cX11_swaps 50 = .ok (.iload 4, 2) := by decide +kernel
theorem dX11_swaps_52 : decode cX11_swaps 52 = .ok (.iconst (-1), 1) := by decide +kernel
theorem dX11_swaps_53 : decode cX11_swaps 53 = .ok (.if_icmp .ne 10, 3) := by decide +kernel
theorem dX11_swaps_56 : decode cX11_swaps 56 = .ok (.iload 6, 2) := by decide +kernel
theorem dX11_swaps_58 : decode cX11_swaps 58 = .ok (.istore 4, 2) := by decide +kernel
theorem dX11_swaps_60 : decode cX11_swaps 60 = .ok (.goto 23, 3) := by decide +kernel
theorem dX11_swaps_63 : decode cX11_swaps 63 = .ok (.aload_n 2, 1) := by decide +kernel
theorem dX11_swaps_64 : decode cX11_swaps 64 = .ok (.iload 6, 2) := by decide +kernel
theorem dX11_swaps_66 : decode cX11_swaps 66 = .ok (.iaload, 1) := by decide +kernel
theorem dX11_swaps_67 : decode cX11_swaps 67 = .ok (.istore 7, 2) := by decide +kernel
theorem dX11_swaps_69 : decode cX11_swaps 69 = .ok (.aload_n 2, 1) := by decide +kernel
theorem dX11_swaps_70 : decode cX11_swaps 70 = .ok (.iload 6, 2) := by decide +kernel
theorem dX11_swaps_72 : decode cX11_swaps 72 = .ok (.aload_n 2, 1) := by decide +kernel
theorem dX11_swaps_73 : decode cX11_swaps 73 = .ok (.iload 5, 2) := by decide +kernel
theorem dX11_swaps_75 : decode cX11_swaps 75 = .ok (.iaload, 1) := by decide +kernel
theorem dX11_swaps_76 : decode cX11_swaps 76 = .ok (.iastore, 1) := by decide +kernel
theorem dX11_swaps_77 : decode cX11_swaps 77 = .ok (.aload_n 2, 1) := by decide +kernel
theorem dX11_swaps_78 : decode cX11_swaps 78 = .ok (.iload 5, 2) := by decide +kernel
theorem dX11_swaps_80 : decode cX11_swaps 80 = .ok (.iload 7, 2) := by decide +kernel
theorem dX11_swaps_82 : decode cX11_swaps 82 = .ok (.iastore, 1) := by decide +kernel
theorem dX11_swaps_83 : decode cX11_swaps 83 = .ok (.iload 6, 2) := by decide +kernel
theorem dX11_swaps_85 : decode cX11_swaps 85 = .ok (.istore 5, 2) := by decide +kernel
theorem dX11_swaps_87 : decode cX11_swaps 87 = .ok (.iinc 6 1, 3) := by decide +kernel
theorem dX11_swaps_90 : decode cX11_swaps 90 = .ok (.goto (-71), 3) := by decide +kernel
theorem dX11_swaps_93 : decode cX11_swaps 93 = .ok (.iinc 3 1, 3) := by decide +kernel
theorem dX11_swaps_96 : decode cX11_swaps 96 = .ok (.goto (-94), 3) := by decide +kernel
theorem dX11_swaps_99 : decode cX11_swaps 99 = .ok (.return_, 1) := by decide +kernel
theorem dX11_takesSacks_0 : decode cX11_takesSacks 0 = .ok (.iconst 0, 1) := by decide +kernel
theorem dX11_takesSacks_1 : decode cX11_takesSacks 1 = .ok (.istore_n 1, 1) := by decide +kernel
theorem dX11_takesSacks_2 : decode cX11_takesSacks 2 = .ok (.iload_n 1, 1) := by decide +kernel
theorem dX11_takesSacks_3 : decode cX11_takesSacks 3 = .ok (.iconst 5, 1) := by decide +kernel
theorem dX11_takesSacks_4 : decode cX11_takesSacks 4 = .ok (.if_icmp .ge 24, 3) := by decide +kernel
theorem dX11_takesSacks_7 : decode cX11_takesSacks 7 = .ok (.aload_n 0, 1) := by decide +kernel
theorem dX11_takesSacks_8 : decode cX11_takesSacks 8 = .ok (.getfield 39, 3) := by decide +kernel
theorem dX11_takesSacks_11 : decode cX11_takesSacks 11 = .ok (.iload_n 1, 1) := by decide +kernel
theorem dX11_takesSacks_12 : decode cX11_takesSacks 12 = .ok (.aload_n 0, 1) := by decide +kernel
theorem dX11_takesSacks_13 : decode cX11_takesSacks 13 = .ok (.getfield 13, 3) := by decide +kernel
theorem dX11_takesSacks_16 : decode cX11_takesSacks 16 = .ok (.bipush 33, 2) := by decide +kernel
theorem dX11_takesSacks_18 : decode cX11_takesSacks 18 = .ok (.iload_n 1, 1) := by decide +kernel
theorem dX11_takesSacks_19 : decode cX11_takesSacks 19 = .ok (.iadd, 1) := by decide +kernel
theorem dX11_takesSacks_20 : decode cX11_takesSacks 20 = .ok (.iaload, 1) := by decide +kernel
theorem dX11_takesSacks_21 : decode cX11_takesSacks 21 = .ok (.iastore, 1) := by decide +kernel
theorem dX11_takesSacks_22 : decode cX11_takesSacks 22 = .ok (.iinc 1 1, 3) := by decide +kernel
theorem dX11_takesSacks_25 : decode cX11_takesSacks 25 = .ok (.goto (-23), 3) := by decide +kernel
theorem dX11_takesSacks_28 : decode cX11_takesSacks 28 = .ok (.return_, 1) := by decide +kernel
theorem dX11_laysArrivals_0 : decode cX11_laysArrivals 0 = .ok (.aload_n 0, 1) := by decide +kernel
theorem dX11_laysArrivals_1 : decode cX11_laysArrivals 1 = .ok (.invokevirtual 231, 3) := by decide +kernel
theorem dX11_laysArrivals_4 : decode cX11_laysArrivals 4 = .ok (.aload_n 0, 1) := by decide +kernel
theorem dX11_laysArrivals_5 : decode cX11_laysArrivals 5 = .ok (.iload_n 1, 1) := by decide +kernel
theorem dX11_laysArrivals_6 : decode cX11_laysArrivals 6 = .ok (.iload_n 2, 1) := by decide +kernel
theorem dX11_laysArrivals_7 : decode cX11_laysArrivals 7 = .ok (.iload_n 3, 1) := by decide +kernel
theorem dX11_laysArrivals_8 : decode cX11_laysArrivals 8 = .ok (.invokevirtual 234, 3) := by decide +kernel
theorem dX11_laysArrivals_11 : decode cX11_laysArrivals 11 = .ok (.return_, 1) := by decide +kernel
theorem dX11_laysArrivalsBy_0 : decode cX11_laysArrivalsBy 0 = .ok (.iload_n 1, 1) := by decide +kernel
theorem dX11_laysArrivalsBy_1 : decode cX11_laysArrivalsBy 1 = .ok (.istore 4, 2) := by decide +kernel
theorem dX11_laysArrivalsBy_3 : decode cX11_laysArrivalsBy 3 = .ok (.iload_n 2, 1) := by decide +kernel
theorem dX11_laysArrivalsBy_4 : decode cX11_laysArrivalsBy 4 = .ok (.istore 5, 2) := by decide +kernel
theorem dX11_laysArrivalsBy_6 : decode cX11_laysArrivalsBy 6 = .ok (.iconst 0, 1) := by decide +kernel
theorem dX11_laysArrivalsBy_7 : decode cX11_laysArrivalsBy 7 = .ok (.istore 6, 2) := by decide +kernel
theorem dX11_laysArrivalsBy_9 : decode cX11_laysArrivalsBy 9 = .ok (.iload 6, 2) := by decide +kernel
theorem dX11_laysArrivalsBy_11 : decode cX11_laysArrivalsBy 11 = .ok (.bipush 10, 2) := by decide +kernel
theorem dX11_laysArrivalsBy_13 : decode cX11_laysArrivalsBy 13 = .ok (.if_icmp .ge 17, 3) := by decide +kernel
theorem dX11_laysArrivalsBy_16 : decode cX11_laysArrivalsBy 16 = .ok (.aload_n 0, 1) := by decide +kernel
theorem dX11_laysArrivalsBy_17 : decode cX11_laysArrivalsBy 17 = .ok (.getfield 42, 3) := by decide +kernel
theorem dX11_laysArrivalsBy_20 : decode cX11_laysArrivalsBy 20 = .ok (.iload 6, 2) := by decide +kernel
theorem dX11_laysArrivalsBy_22 : decode cX11_laysArrivalsBy 22 = .ok (.iconst (-1), 1) := by decide +kernel
theorem dX11_laysArrivalsBy_23 : decode cX11_laysArrivalsBy 23 = .ok (.iastore, 1) := by decide +kernel
theorem dX11_laysArrivalsBy_24 : decode cX11_laysArrivalsBy 24 = .ok (.iinc 6 1, 3) := by decide +kernel
theorem dX11_laysArrivalsBy_27 : decode cX11_laysArrivalsBy 27 = .ok (.goto (-18), 3) := by decide +kernel
theorem dX11_laysArrivalsBy_30 : decode cX11_laysArrivalsBy 30 = .ok (.iconst 0, 1) := by decide +kernel
theorem dX11_laysArrivalsBy_31 : decode cX11_laysArrivalsBy 31 = .ok (.istore 6, 2) := by decide +kernel
theorem dX11_laysArrivalsBy_33 : decode cX11_laysArrivalsBy 33 = .ok (.iload 6, 2) := by decide +kernel
theorem dX11_laysArrivalsBy_35 : decode cX11_laysArrivalsBy 35 = .ok (.iconst 5, 1) := by decide +kernel
theorem dX11_laysArrivalsBy_36 : decode cX11_laysArrivalsBy 36 = .ok (.if_icmp .ge 23, 3) := by decide +kernel
theorem dX11_laysArrivalsBy_39 : decode cX11_laysArrivalsBy 39 = .ok (.aload_n 0, 1) := by decide +kernel
theorem dX11_laysArrivalsBy_40 : decode cX11_laysArrivalsBy 40 = .ok (.getfield 36, 3) := by decide +kernel
theorem dX11_laysArrivalsBy_43 : decode cX11_laysArrivalsBy 43 = .ok (.iload 6, 2) := by decide +kernel
theorem dX11_laysArrivalsBy_45 : decode cX11_laysArrivalsBy 45 = .ok (.aload_n 0, 1) := by decide +kernel
theorem dX11_laysArrivalsBy_46 : decode cX11_laysArrivalsBy 46 = .ok (.getfield 39, 3) := by decide +kernel
theorem dX11_laysArrivalsBy_49 : decode cX11_laysArrivalsBy 49 = .ok (.iload 6, 2) := by decide +kernel
theorem dX11_laysArrivalsBy_51 : decode cX11_laysArrivalsBy 51 = .ok (.iaload, 1) := by decide +kernel
theorem dX11_laysArrivalsBy_52 : decode cX11_laysArrivalsBy 52 = .ok (.iastore, 1) := by decide +kernel
theorem dX11_laysArrivalsBy_53 : decode cX11_laysArrivalsBy 53 = .ok (.iinc 6 1, 3) := by decide +kernel
theorem dX11_laysArrivalsBy_56 : decode cX11_laysArrivalsBy 56 = .ok (.goto (-23), 3) := by decide +kernel
theorem dX11_laysArrivalsBy_59 : decode cX11_laysArrivalsBy 59 = .ok (.iload_n 3, 1) := by decide +kernel
theorem dX11_laysArrivalsBy_60 : decode cX11_laysArrivalsBy 60 = .ok (.istore 6, 2) := by decide +kernel
theorem dX11_laysArrivalsBy_62 : decode cX11_laysArrivalsBy 62 = .ok (.iload 6, 2) := by decide +kernel
theorem dX11_laysArrivalsBy_64 : decode cX11_laysArrivalsBy 64 = .ok (.iload_n 3, 1) := by decide +kernel
theorem dX11_laysArrivalsBy_65 : decode cX11_laysArrivalsBy 65 = .ok (.sipush 240, 3) := by decide +kernel
theorem dX11_laysArrivalsBy_68 : decode cX11_laysArrivalsBy 68 = .ok (.iadd, 1) := by decide +kernel
theorem dX11_laysArrivalsBy_69 : decode cX11_laysArrivalsBy 69 = .ok (.if_icmp .ge 189, 3) := by decide +kernel
theorem dX11_laysArrivalsBy_72 : decode cX11_laysArrivalsBy 72 = .ok (.aload_n 0, 1) := by decide +kernel
theorem dX11_laysArrivalsBy_73 : decode cX11_laysArrivalsBy 73 = .ok (.iload 6, 2) := by decide +kernel
theorem dX11_laysArrivalsBy_75 : decode cX11_laysArrivalsBy 75 = .ok (.aload_n 0, 1) := by decide +kernel
theorem dX11_laysArrivalsBy_76 : decode cX11_laysArrivalsBy 76 = .ok (.getfield 36, 3) := by decide +kernel
theorem dX11_laysArrivalsBy_79 : decode cX11_laysArrivalsBy 79 = .ok (.invokevirtual 237, 3) := by decide +kernel
theorem dX11_laysArrivalsBy_82 : decode cX11_laysArrivalsBy 82 = .ok (.iconst 0, 1) := by decide +kernel
theorem dX11_laysArrivalsBy_83 : decode cX11_laysArrivalsBy 83 = .ok (.istore 7, 2) := by decide +kernel
theorem dX11_laysArrivalsBy_85 : decode cX11_laysArrivalsBy 85 = .ok (.iload 7, 2) := by decide +kernel
theorem dX11_laysArrivalsBy_87 : decode cX11_laysArrivalsBy 87 = .ok (.aload_n 0, 1) := by decide +kernel
theorem dX11_laysArrivalsBy_88 : decode cX11_laysArrivalsBy 88 = .ok (.invokevirtual 151, 3) := by decide +kernel
theorem dX11_laysArrivalsBy_91 : decode cX11_laysArrivalsBy 91 = .ok (.if_icmp .ge 52, 3) := by decide +kernel
theorem dX11_laysArrivalsBy_94 : decode cX11_laysArrivalsBy 94 = .ok (.aload_n 0, 1) := by decide +kernel
theorem dX11_laysArrivalsBy_95 : decode cX11_laysArrivalsBy 95 = .ok (.iload 7, 2) := by decide +kernel
theorem dX11_laysArrivalsBy_97 : decode cX11_laysArrivalsBy 97 = .ok (.iload 6, 2) := by decide +kernel
theorem dX11_laysArrivalsBy_99 : decode cX11_laysArrivalsBy 99 = .ok (.invokevirtual 228, 3) := by decide +kernel
theorem dX11_laysArrivalsBy_102 : decode cX11_laysArrivalsBy 102 = .ok (.istore 8, 2) := by decide +kernel
theorem dX11_laysArrivalsBy_104 : decode cX11_laysArrivalsBy 104 = .ok (.aload_n 0, 1) := by decide +kernel
theorem dX11_laysArrivalsBy_105 : decode cX11_laysArrivalsBy 105 = .ok (.iload 8, 2) := by decide +kernel
theorem dX11_laysArrivalsBy_107 : decode cX11_laysArrivalsBy 107 = .ok (.invokevirtual 166, 3) := by decide +kernel
theorem dX11_laysArrivalsBy_110 : decode cX11_laysArrivalsBy 110 = .ok (.ifCond .eq 27, 3) := by decide +kernel
theorem dX11_laysArrivalsBy_113 : decode cX11_laysArrivalsBy 113 = .ok (.iload 4, 2) := by decide +kernel
theorem dX11_laysArrivalsBy_115 : decode cX11_laysArrivalsBy 115 = .ok (.aload_n 0, 1) := by decide +kernel
theorem dX11_laysArrivalsBy_116 : decode cX11_laysArrivalsBy 116 = .ok (.getfield 36, 3) := by decide +kernel
theorem dX11_laysArrivalsBy_119 : decode cX11_laysArrivalsBy 119 = .ok (.iload 7, 2) := by decide +kernel
theorem dX11_laysArrivalsBy_121 : decode cX11_laysArrivalsBy 121 = .ok (.iaload, 1) := by decide +kernel
theorem dX11_laysArrivalsBy_122 : decode cX11_laysArrivalsBy 122 = .ok (.invokestatic 160, 3) := by decide +kernel
theorem dX11_laysArrivalsBy_125 : decode cX11_laysArrivalsBy 125 = .ok (.ifCond .eq 12, 3) := by decide +kernel
theorem dX11_laysArrivalsBy_128 : decode cX11_laysArrivalsBy 128 = .ok (.iload 5, 2) := by decide +kernel
theorem dX11_laysArrivalsBy_130 : decode cX11_laysArrivalsBy 130 = .ok (.iconst 1, 1) := by decide +kernel
theorem dX11_laysArrivalsBy_131 : decode cX11_laysArrivalsBy 131 = .ok (.iload 8, 2) := by decide +kernel
theorem dX11_laysArrivalsBy_133 : decode cX11_laysArrivalsBy 133 = .ok (.ishl, 1) := by decide +kernel
theorem dX11_laysArrivalsBy_134 : decode cX11_laysArrivalsBy 134 = .ok (.ior, 1) := by decide +kernel
theorem dX11_laysArrivalsBy_135 : decode cX11_laysArrivalsBy 135 = .ok (.istore 5, 2) := by decide +kernel
theorem dX11_laysArrivalsBy_137 : decode cX11_laysArrivalsBy 137 = .ok (.iinc 7 1, 3) := by decide +kernel
theorem dX11_laysArrivalsBy_140 : decode cX11_laysArrivalsBy 140 = .ok (.goto (-55), 3) := by decide +kernel
theorem dX11_laysArrivalsBy_143 : decode cX11_laysArrivalsBy 143 = .ok (.iconst 0, 1) := by decide +kernel
theorem dX11_laysArrivalsBy_144 : decode cX11_laysArrivalsBy 144 = .ok (.istore 7, 2) := by decide +kernel
theorem dX11_laysArrivalsBy_146 : decode cX11_laysArrivalsBy 146 = .ok (.iload 7, 2) := by decide +kernel
theorem dX11_laysArrivalsBy_148 : decode cX11_laysArrivalsBy 148 = .ok (.aload_n 0, 1) := by decide +kernel
theorem dX11_laysArrivalsBy_149 : decode cX11_laysArrivalsBy 149 = .ok (.invokevirtual 151, 3) := by decide +kernel
theorem dX11_laysArrivalsBy_152 : decode cX11_laysArrivalsBy 152 = .ok (.if_icmp .ge 52, 3) := by decide +kernel
theorem dX11_laysArrivalsBy_155 : decode cX11_laysArrivalsBy 155 = .ok (.aload_n 0, 1) := by decide +kernel
theorem dX11_laysArrivalsBy_156 : decode cX11_laysArrivalsBy 156 = .ok (.iload 7, 2) := by decide +kernel
theorem dX11_laysArrivalsBy_158 : decode cX11_laysArrivalsBy 158 = .ok (.iload 6, 2) := by decide +kernel
theorem dX11_laysArrivalsBy_160 : decode cX11_laysArrivalsBy 160 = .ok (.invokevirtual 228, 3) := by decide +kernel
theorem dX11_laysArrivalsBy_163 : decode cX11_laysArrivalsBy 163 = .ok (.istore 8, 2) := by decide +kernel
theorem dX11_laysArrivalsBy_165 : decode cX11_laysArrivalsBy 165 = .ok (.aload_n 0, 1) := by decide +kernel
theorem dX11_laysArrivalsBy_166 : decode cX11_laysArrivalsBy 166 = .ok (.iload 8, 2) := by decide +kernel
theorem dX11_laysArrivalsBy_168 : decode cX11_laysArrivalsBy 168 = .ok (.invokevirtual 166, 3) := by decide +kernel
theorem dX11_laysArrivalsBy_171 : decode cX11_laysArrivalsBy 171 = .ok (.ifCond .eq 27, 3) := by decide +kernel
theorem dX11_laysArrivalsBy_174 : decode cX11_laysArrivalsBy 174 = .ok (.iload 5, 2) := by decide +kernel
theorem dX11_laysArrivalsBy_176 : decode cX11_laysArrivalsBy 176 = .ok (.iload 8, 2) := by decide +kernel
theorem dX11_laysArrivalsBy_178 : decode cX11_laysArrivalsBy 178 = .ok (.invokestatic 160, 3) := by decide +kernel
theorem dX11_laysArrivalsBy_181 : decode cX11_laysArrivalsBy 181 = .ok (.ifCond .eq 17, 3) := by decide +kernel
theorem dX11_laysArrivalsBy_184 : decode cX11_laysArrivalsBy 184 = .ok (.iload 4, 2) := by decide +kernel
theorem dX11_laysArrivalsBy_186 : decode cX11_laysArrivalsBy 186 = .ok (.iconst 1, 1) := by decide +kernel
theorem dX11_laysArrivalsBy_187 : decode cX11_laysArrivalsBy 187 = .ok (.aload_n 0, 1) := by decide +kernel
theorem dX11_laysArrivalsBy_188 : decode cX11_laysArrivalsBy 188 = .ok (.getfield 36, 3) := by decide +kernel
theorem dX11_laysArrivalsBy_191 : decode cX11_laysArrivalsBy 191 = .ok (.iload 7, 2) := by decide +kernel
theorem dX11_laysArrivalsBy_193 : decode cX11_laysArrivalsBy 193 = .ok (.iaload, 1) := by decide +kernel
theorem dX11_laysArrivalsBy_194 : decode cX11_laysArrivalsBy 194 = .ok (.ishl, 1) := by decide +kernel
theorem dX11_laysArrivalsBy_195 : decode cX11_laysArrivalsBy 195 = .ok (.ior, 1) := by decide +kernel
theorem dX11_laysArrivalsBy_196 : decode cX11_laysArrivalsBy 196 = .ok (.istore 4, 2) := by decide +kernel
theorem dX11_laysArrivalsBy_198 : decode cX11_laysArrivalsBy 198 = .ok (.iinc 7 1, 3) := by decide +kernel
theorem dX11_laysArrivalsBy_201 : decode cX11_laysArrivalsBy 201 = .ok (.goto (-55), 3) := by decide +kernel
theorem dX11_laysArrivalsBy_204 : decode cX11_laysArrivalsBy 204 = .ok (.iconst 0, 1) := by decide +kernel
theorem dX11_laysArrivalsBy_205 : decode cX11_laysArrivalsBy 205 = .ok (.istore 7, 2) := by decide +kernel
theorem dX11_laysArrivalsBy_207 : decode cX11_laysArrivalsBy 207 = .ok (.iload 7, 2) := by decide +kernel
theorem dX11_laysArrivalsBy_209 : decode cX11_laysArrivalsBy 209 = .ok (.aload_n 0, 1) := by decide +kernel
theorem dX11_laysArrivalsBy_210 : decode cX11_laysArrivalsBy 210 = .ok (.invokevirtual 75, 3) := by decide +kernel
theorem dX11_laysArrivalsBy_213 : decode cX11_laysArrivalsBy 213 = .ok (.if_icmp .ge 39, 3) := by decide +kernel
theorem dX11_laysArrivalsBy_216 : decode cX11_laysArrivalsBy 216 = .ok (.aload_n 0, 1) := by decide +kernel
theorem dX11_laysArrivalsBy_217 : decode cX11_laysArrivalsBy 217 = .ok (.getfield 42, 3) := by decide +kernel
theorem dX11_laysArrivalsBy_220 : decode cX11_laysArrivalsBy 220 = .ok (.iload 7, 2) := by decide +kernel
theorem dX11_laysArrivalsBy_222 : decode cX11_laysArrivalsBy 222 = .ok (.iaload, 1) := by decide +kernel
theorem dX11_laysArrivalsBy_223 : decode cX11_laysArrivalsBy 223 = .ok (.iconst (-1), 1) := by decide +kernel
theorem dX11_laysArrivalsBy_224 : decode cX11_laysArrivalsBy 224 = .ok (.if_icmp .ne 22, 3) := by decide +kernel
theorem dX11_laysArrivalsBy_227 : decode cX11_laysArrivalsBy 227 = .ok (.iload 5, 2) := by decide +kernel
theorem dX11_laysArrivalsBy_229 : decode cX11_laysArrivalsBy 229 = .ok (.iload 7, 2) := by decide +kernel
theorem dX11_laysArrivalsBy_231 : decode cX11_laysArrivalsBy 231 = .ok (.invokestatic 160, 3) := by decide +kernel
theorem dX11_laysArrivalsBy_234 : decode cX11_laysArrivalsBy 234 = .ok (.ifCond .eq 12, 3) := by decide +kernel
theorem dX11_laysArrivalsBy_237 : decode cX11_laysArrivalsBy 237 = .ok (.aload_n 0, 1) := by decide +kernel
theorem dX11_laysArrivalsBy_238 : decode cX11_laysArrivalsBy 238 = .ok (.getfield 42, 3) := by decide +kernel
theorem dX11_laysArrivalsBy_241 : decode cX11_laysArrivalsBy 241 = .ok (.iload 7, 2) := by decide +kernel
theorem dX11_laysArrivalsBy_243 : decode cX11_laysArrivalsBy 243 = .ok (.iload 6, 2) := by decide +kernel
theorem dX11_laysArrivalsBy_245 : decode cX11_laysArrivalsBy 245 = .ok (.iastore, 1) := by decide +kernel
theorem dX11_laysArrivalsBy_246 : decode cX11_laysArrivalsBy 246 = .ok (.iinc 7 1, 3) := by decide +kernel
theorem dX11_laysArrivalsBy_249 : decode cX11_laysArrivalsBy 249 = .ok (.goto (-42), 3) := by decide +kernel
theorem dX11_laysArrivalsBy_252 : decode cX11_laysArrivalsBy 252 = .ok (.iinc 6 1, 3) := by decide +kernel
theorem dX11_laysArrivalsBy_255 : decode cX11_laysArrivalsBy 255 = .ok (.goto (-193), 3) := by decide +kernel
theorem dX11_laysArrivalsBy_258 : decode cX11_laysArrivalsBy 258 = .ok (.return_, 1) := by decide +kernel
theorem dX11_writes_0 : decode cX11_writes 0 = .ok (.aload_n 0, 1) := by decide +kernel
theorem dX11_writes_1 : decode cX11_writes 1 = .ok (.iload_n 1, 1) := by decide +kernel
theorem dX11_writes_2 : decode cX11_writes 2 = .ok (.iconst 2, 1) := by decide +kernel
theorem dX11_writes_3 : decode cX11_writes 3 = .ok (.invokevirtual 67, 3) := by decide +kernel
theorem dX11_writes_6 : decode cX11_writes 6 = .ok (.ifCond .ne 4, 3) := by decide +kernel
theorem dX11_writes_9 : decode cX11_writes 9 = .ok (.return_, 1) := by decide +kernel
theorem dX11_writes_10 : decode cX11_writes 10 = .ok (.aload_n 0, 1) := by decide +kernel
theorem dX11_writes_11 : decode cX11_writes 11 = .ok (.getfield 13, 3) := by decide +kernel
theorem dX11_writes_14 : decode cX11_writes 14 = .ok (.iconst 4, 1) := by decide +kernel
theorem dX11_writes_15 : decode cX11_writes 15 = .ok (.iaload, 1) := by decide +kernel
theorem dX11_writes_16 : decode cX11_writes 16 = .ok (.bipush 60, 2) := by decide +kernel
theorem dX11_writes_18 : decode cX11_writes 18 = .ok (.if_icmp .ge 13, 3) := by decide +kernel
theorem dX11_writes_21 : decode cX11_writes 21 = .ok (.aload_n 0, 1) := by decide +kernel
theorem dX11_writes_22 : decode cX11_writes 22 = .ok (.getfield 13, 3) := by decide +kernel
theorem dX11_writes_25 : decode cX11_writes 25 = .ok (.iconst 4, 1) := by decide +kernel
theorem dX11_writes_26 : decode cX11_writes 26 = .ok (.dup2, 1) := by decide +kernel
theorem dX11_writes_27 : decode cX11_writes 27 = .ok (.iaload, 1) := by decide +kernel
theorem dX11_writes_28 : decode cX11_writes 28 = .ok (.iconst 1, 1) := by decide +kernel
theorem dX11_writes_29 : decode cX11_writes 29 = .ok (.iadd, 1) := by decide +kernel
theorem dX11_writes_30 : decode cX11_writes 30 = .ok (.iastore, 1) := by decide +kernel
theorem dX11_writes_31 : decode cX11_writes 31 = .ok (.sipush 299, 3) := by decide +kernel
theorem dX11_writes_34 : decode cX11_writes 34 = .ok (.istore 5, 2) := by decide +kernel
theorem dX11_writes_36 : decode cX11_writes 36 = .ok (.iload 5, 2) := by decide +kernel
theorem dX11_writes_38 : decode cX11_writes 38 = .ok (.iconst 5, 1) := by decide +kernel
theorem dX11_writes_39 : decode cX11_writes 39 = .ok (.if_icmp .lt 33, 3) := by decide +kernel
theorem dX11_writes_42 : decode cX11_writes 42 = .ok (.aload_n 0, 1) := by decide +kernel
theorem dX11_writes_43 : decode cX11_writes 43 = .ok (.getfield 13, 3) := by decide +kernel
theorem dX11_writes_46 : decode cX11_writes 46 = .ok (.sipush 858, 3) := by decide +kernel
theorem dX11_writes_49 : decode cX11_writes 49 = .ok (.iload 5, 2) := by decide +kernel
theorem dX11_writes_51 : decode cX11_writes 51 = .ok (.iadd, 1) := by decide +kernel
theorem dX11_writes_52 : decode cX11_writes 52 = .ok (.aload_n 0, 1) := by decide +kernel
theorem dX11_writes_53 : decode cX11_writes 53 = .ok (.getfield 13, 3) := by decide +kernel
theorem dX11_writes_56 : decode cX11_writes 56 = .ok (.sipush 858, 3) := by decide +kernel
theorem dX11_writes_59 : decode cX11_writes 59 = .ok (.iload 5, 2) := by decide +kernel
theorem dX11_writes_61 : decode cX11_writes 61 = .ok (.iadd, 1) := by decide +kernel
theorem dX11_writes_62 : decode cX11_writes 62 = .ok (.iconst 5, 1) := by decide +kernel
theorem dX11_writes_63 : decode cX11_writes 63 = .ok (.isub, 1) := by decide +kernel
theorem dX11_writes_64 : decode cX11_writes 64 = .ok (.iaload, 1) := by decide +kernel
theorem dX11_writes_65 : decode cX11_writes 65 = .ok (.iastore, 1) := by decide +kernel
theorem dX11_writes_66 : decode cX11_writes 66 = .ok (.iinc 5 (-1), 3) := by decide +kernel
theorem dX11_writes_69 : decode cX11_writes 69 = .ok (.goto (-33), 3) := by decide +kernel
theorem dX11_writes_72 : decode cX11_writes 72 = .ok (.aload_n 0, 1) := by decide +kernel
theorem dX11_writes_73 : decode cX11_writes 73 = .ok (.getfield 13, 3) := by decide +kernel
theorem dX11_writes_76 : decode cX11_writes 76 = .ok (.sipush 858, 3) := by decide +kernel
theorem dX11_writes_79 : decode cX11_writes 79 = .ok (.aload_n 0, 1) := by decide +kernel
theorem dX11_writes_80 : decode cX11_writes 80 = .ok (.getfield 13, 3) := by decide +kernel
theorem dX11_writes_83 : decode cX11_writes 83 = .ok (.bipush 6, 2) := by decide +kernel
theorem dX11_writes_85 : decode cX11_writes 85 = .ok (.iaload, 1) := by decide +kernel
theorem dX11_writes_86 : decode cX11_writes 86 = .ok (.iastore, 1) := by decide +kernel
theorem dX11_writes_87 : decode cX11_writes 87 = .ok (.aload_n 0, 1) := by decide +kernel
theorem dX11_writes_88 : decode cX11_writes 88 = .ok (.getfield 13, 3) := by decide +kernel
theorem dX11_writes_91 : decode cX11_writes 91 = .ok (.sipush 859, 3) := by decide +kernel
theorem dX11_writes_94 : decode cX11_writes 94 = .ok (.iload_n 1, 1) := by decide +kernel
theorem dX11_writes_95 : decode cX11_writes 95 = .ok (.iastore, 1) := by decide +kernel
theorem dX11_writes_96 : decode cX11_writes 96 = .ok (.aload_n 0, 1) := by decide +kernel
theorem dX11_writes_97 : decode cX11_writes 97 = .ok (.getfield 13, 3) := by decide +kernel
theorem dX11_writes_100 : decode cX11_writes 100 = .ok (.sipush 860, 3) := by decide +kernel
theorem dX11_writes_103 : decode cX11_writes 103 = .ok (.iload_n 2, 1) := by decide +kernel
theorem dX11_writes_104 : decode cX11_writes 104 = .ok (.iastore, 1) := by decide +kernel
theorem dX11_writes_105 : decode cX11_writes 105 = .ok (.aload_n 0, 1) := by decide +kernel
theorem dX11_writes_106 : decode cX11_writes 106 = .ok (.getfield 13, 3) := by decide +kernel
theorem dX11_writes_109 : decode cX11_writes 109 = .ok (.sipush 861, 3) := by decide +kernel
theorem dX11_writes_112 : decode cX11_writes 112 = .ok (.iload_n 3, 1) := by decide +kernel
theorem dX11_writes_113 : decode cX11_writes 113 = .ok (.iastore, 1) := by decide +kernel
theorem dX11_writes_114 : decode cX11_writes 114 = .ok (.aload_n 0, 1) := by decide +kernel
theorem dX11_writes_115 : decode cX11_writes 115 = .ok (.getfield 13, 3) := by decide +kernel
theorem dX11_writes_118 : decode cX11_writes 118 = .ok (.sipush 862, 3) := by decide +kernel
theorem dX11_writes_121 : decode cX11_writes 121 = .ok (.iload 4, 2) := by decide +kernel
theorem dX11_writes_123 : decode cX11_writes 123 = .ok (.iastore, 1) := by decide +kernel
theorem dX11_writes_124 : decode cX11_writes 124 = .ok (.return_, 1) := by decide +kernel
theorem dX11_carrierWith_0 : decode cX11_carrierWith 0 = .ok (.iconst 0, 1) := by decide +kernel
theorem dX11_carrierWith_1 : decode cX11_carrierWith 1 = .ok (.istore_n 2, 1) := by decide +kernel
theorem dX11_carrierWith_2 : decode cX11_carrierWith 2 = .ok (.aload_n 0, 1) := by decide +kernel
theorem dX11_carrierWith_3 : decode cX11_carrierWith 3 = .ok (.getfield 13, 3) := by decide +kernel
theorem dX11_carrierWith_6 : decode cX11_carrierWith 6 = .ok (.bipush 33, 2) := by decide +kernel
theorem dX11_carrierWith_8 : decode cX11_carrierWith 8 = .ok (.iload_n 2, 1) := by decide +kernel
theorem dX11_carrierWith_9 : decode cX11_carrierWith 9 = .ok (.iadd, 1) := by decide +kernel
theorem dX11_carrierWith_10 : decode cX11_carrierWith 10 = .ok (.iaload, 1) := by decide +kernel
theorem dX11_carrierWith_11 : decode cX11_carrierWith 11 = .ok (.iload_n 1, 1) := by decide +kernel
theorem dX11_carrierWith_12 : decode cX11_carrierWith 12 = .ok (.if_icmp .eq 9, 3) := by decide +kernel
theorem dX11_carrierWith_15 : decode cX11_carrierWith 15 = .ok (.iinc 2 1, 3) := by decide +kernel
theorem dX11_carrierWith_18 : decode cX11_carrierWith 18 = .ok (.goto (-16), 3) := by decide +kernel
theorem dX11_carrierWith_21 : decode cX11_carrierWith 21 = .ok (.iload_n 2, 1) := by decide +kernel
theorem dX11_carrierWith_22 : decode cX11_carrierWith 22 = .ok (.ireturn, 1) := by decide +kernel
theorem dX11_traces_0 : decode cX11_traces 0 = .ok (.aload_n 0, 1) := by decide +kernel
theorem dX11_traces_1 : decode cX11_traces 1 = .ok (.iload_n 1, 1) := by decide +kernel
theorem dX11_traces_2 : decode cX11_traces 2 = .ok (.bipush 9, 2) := by decide +kernel
theorem dX11_traces_4 : decode cX11_traces 4 = .ok (.aload_n 0, 1) := by decide +kernel
theorem dX11_traces_5 : decode cX11_traces 5 = .ok (.iload_n 1, 1) := by decide +kernel
theorem dX11_traces_6 : decode cX11_traces 6 = .ok (.bipush 9, 2) := by decide +kernel
theorem dX11_traces_8 : decode cX11_traces 8 = .ok (.invokevirtual 67, 3) := by decide +kernel
theorem dX11_traces_11 : decode cX11_traces 11 = .ok (.iconst 1, 1) := by decide +kernel
theorem dX11_traces_12 : decode cX11_traces 12 = .ok (.iload_n 2, 1) := by decide +kernel
theorem dX11_traces_13 : decode cX11_traces 13 = .ok (.ishl, 1) := by decide +kernel
theorem dX11_traces_14 : decode cX11_traces 14 = .ok (.ior, 1) := by decide +kernel
theorem dX11_traces_15 : decode cX11_traces 15 = .ok (.invokevirtual 71, 3) := by decide +kernel
theorem dX11_traces_18 : decode cX11_traces 18 = .ok (.return_, 1) := by decide +kernel
theorem dX11_carriersHere_0 : decode cX11_carriersHere 0 = .ok (.iconst 0, 1) := by decide +kernel
theorem dX11_carriersHere_1 : decode cX11_carriersHere 1 = .ok (.istore_n 2, 1) := by decide +kernel
theorem dX11_carriersHere_2 : decode cX11_carriersHere 2 = .ok (.iconst 0, 1) := by decide +kernel
theorem dX11_carriersHere_3 : decode cX11_carriersHere 3 = .ok (.istore_n 3, 1) := by decide +kernel
theorem dX11_carriersHere_4 : decode cX11_carriersHere 4 = .ok (.iload_n 3, 1) := by decide +kernel
theorem dX11_carriersHere_5 : decode cX11_carriersHere 5 = .ok (.aload_n 0, 1) := by decide +kernel
theorem dX11_carriersHere_6 : decode cX11_carriersHere 6 = .ok (.invokevirtual 151, 3) := by decide +kernel
theorem dX11_carriersHere_9 : decode cX11_carriersHere 9 = .ok (.if_icmp .ge 35, 3) := by decide +kernel
theorem dX11_carriersHere_12 : decode cX11_carriersHere 12 = .ok (.iload_n 2, 1) := by decide +kernel
theorem dX11_carriersHere_13 : decode cX11_carriersHere 13 = .ok (.aload_n 0, 1) := by decide +kernel
theorem dX11_carriersHere_14 : decode cX11_carriersHere 14 = .ok (.iload_n 3, 1) := by decide +kernel
theorem dX11_carriersHere_15 : decode cX11_carriersHere 15 = .ok (.aload_n 0, 1) := by decide +kernel
theorem dX11_carriersHere_16 : decode cX11_carriersHere 16 = .ok (.getfield 13, 3) := by decide +kernel
theorem dX11_carriersHere_19 : decode cX11_carriersHere 19 = .ok (.bipush 6, 2) := by decide +kernel
theorem dX11_carriersHere_21 : decode cX11_carriersHere 21 = .ok (.iaload, 1) := by decide +kernel
theorem dX11_carriersHere_22 : decode cX11_carriersHere 22 = .ok (.invokevirtual 228, 3) := by decide +kernel
theorem dX11_carriersHere_25 : decode cX11_carriersHere 25 = .ok (.iload_n 1, 1) := by decide +kernel
theorem dX11_carriersHere_26 : decode cX11_carriersHere 26 = .ok (.if_icmp .ne 9, 3) := by decide +kernel
theorem dX11_carriersHere_29 : decode cX11_carriersHere 29 = .ok (.iconst 1, 1) := by decide +kernel
theorem dX11_carriersHere_30 : decode cX11_carriersHere 30 = .ok (.iload_n 3, 1) := by decide +kernel
theorem dX11_carriersHere_31 : decode cX11_carriersHere 31 = .ok (.ishl, 1) := by decide +kernel
theorem dX11_carriersHere_32 : decode cX11_carriersHere 32 = .ok (.goto 4, 3) := by decide +kernel
theorem dX11_carriersHere_35 : decode cX11_carriersHere 35 = .ok (.iconst 0, 1) := by decide +kernel
theorem dX11_carriersHere_36 : decode cX11_carriersHere 36 = .ok (.ior, 1) := by decide +kernel
theorem dX11_carriersHere_37 : decode cX11_carriersHere 37 = .ok (.istore_n 2, 1) := by decide +kernel
theorem dX11_carriersHere_38 : decode cX11_carriersHere 38 = .ok (.iinc 3 1, 3) := by decide +kernel
theorem dX11_carriersHere_41 : decode cX11_carriersHere 41 = .ok (.goto (-37), 3) := by decide +kernel
theorem dX11_carriersHere_44 : decode cX11_carriersHere 44 = .ok (.iload_n 2, 1) := by decide +kernel
theorem dX11_carriersHere_45 : decode cX11_carriersHere 45 = .ok (.ireturn, 1) := by decide +kernel
theorem dX11_swapsNow_0 : decode cX11_swapsNow 0 = .ok (.aload_n 0, 1) := by decide +kernel
theorem dX11_swapsNow_1 : decode cX11_swapsNow 1 = .ok (.invokevirtual 231, 3) := by decide +kernel
theorem dX11_swapsNow_4 : decode cX11_swapsNow 4 = .ok (.aload_n 0, 1) := by decide +kernel
theorem dX11_swapsNow_5 : decode cX11_swapsNow 5 = .ok (.aload_n 0, 1) := by decide +kernel
theorem dX11_swapsNow_6 : decode cX11_swapsNow 6 = .ok (.getfield 13, 3) := by decide +kernel
theorem dX11_swapsNow_9 : decode cX11_swapsNow 9 = .ok (.bipush 6, 2) := by decide +kernel
theorem dX11_swapsNow_11 : decode cX11_swapsNow 11 = .ok (.iaload, 1) := by decide +kernel
theorem dX11_swapsNow_12 : decode cX11_swapsNow 12 = .ok (.aload_n 0, 1) := by decide +kernel
theorem dX11_swapsNow_13 : decode cX11_swapsNow 13 = .ok (.getfield 39, 3) := by decide +kernel
theorem dX11_swapsNow_16 : decode cX11_swapsNow 16 = .ok (.invokevirtual 237, 3) := by decide +kernel
theorem dX11_swapsNow_19 : decode cX11_swapsNow 19 = .ok (.iconst 0, 1) := by decide +kernel
theorem dX11_swapsNow_20 : decode cX11_swapsNow 20 = .ok (.istore_n 1, 1) := by decide +kernel
theorem dX11_swapsNow_21 : decode cX11_swapsNow 21 = .ok (.iload_n 1, 1) := by decide +kernel
theorem dX11_swapsNow_22 : decode cX11_swapsNow 22 = .ok (.iconst 5, 1) := by decide +kernel
theorem dX11_swapsNow_23 : decode cX11_swapsNow 23 = .ok (.if_icmp .ge 24, 3) := by decide +kernel
theorem dX11_swapsNow_26 : decode cX11_swapsNow 26 = .ok (.aload_n 0, 1) := by decide +kernel
theorem dX11_swapsNow_27 : decode cX11_swapsNow 27 = .ok (.getfield 13, 3) := by decide +kernel
theorem dX11_swapsNow_30 : decode cX11_swapsNow 30 = .ok (.bipush 33, 2) := by decide +kernel
theorem dX11_swapsNow_32 : decode cX11_swapsNow 32 = .ok (.iload_n 1, 1) := by decide +kernel
theorem dX11_swapsNow_33 : decode cX11_swapsNow 33 = .ok (.iadd, 1) := by decide +kernel
theorem dX11_swapsNow_34 : decode cX11_swapsNow 34 = .ok (.aload_n 0, 1) := by decide +kernel
theorem dX11_swapsNow_35 : decode cX11_swapsNow 35 = .ok (.getfield 39, 3) := by decide +kernel
theorem dX11_swapsNow_38 : decode cX11_swapsNow 38 = .ok (.iload_n 1, 1) := by decide +kernel
theorem dX11_swapsNow_39 : decode cX11_swapsNow 39 = .ok (.iaload, 1) := by decide +kernel
theorem dX11_swapsNow_40 : decode cX11_swapsNow 40 = .ok (.iastore, 1) := by decide +kernel
theorem dX11_swapsNow_41 : decode cX11_swapsNow 41 = .ok (.iinc 1 1, 3) := by decide +kernel
theorem dX11_swapsNow_44 : decode cX11_swapsNow 44 = .ok (.goto (-23), 3) := by decide +kernel
theorem dX11_swapsNow_47 : decode cX11_swapsNow 47 = .ok (.iconst 0, 1) := by decide +kernel
theorem dX11_swapsNow_48 : decode cX11_swapsNow 48 = .ok (.istore_n 1, 1) := by decide +kernel
theorem dX11_swapsNow_49 : decode cX11_swapsNow 49 = .ok (.iload_n 1, 1) := by decide +kernel
theorem dX11_swapsNow_50 : decode cX11_swapsNow 50 = .ok (.aload_n 0, 1) := by decide +kernel
theorem dX11_swapsNow_51 : decode cX11_swapsNow 51 = .ok (.invokevirtual 75, 3) := by decide +kernel
theorem dX11_swapsNow_54 : decode cX11_swapsNow 54 = .ok (.if_icmp .ge 127, 3) := by decide +kernel
theorem dX11_swapsNow_57 : decode cX11_swapsNow 57 = .ok (.aload_n 0, 1) := by decide +kernel
theorem dX11_swapsNow_58 : decode cX11_swapsNow 58 = .ok (.iload_n 1, 1) := by decide +kernel
theorem dX11_swapsNow_59 : decode cX11_swapsNow 59 = .ok (.invokevirtual 166, 3) := by decide +kernel
theorem dX11_swapsNow_62 : decode cX11_swapsNow 62 = .ok (.ifCond .eq 7, 3) := by decide +kernel
theorem dX11_swapsNow_65 : decode cX11_swapsNow 65 = .ok (.iconst 0, 1) := by decide +kernel
theorem dX11_swapsNow_66 : decode cX11_swapsNow 66 = .ok (.goto 8, 3) := by decide +kernel
theorem dX11_swapsNow_69 : decode cX11_swapsNow 69 = .ok (.aload_n 0, 1) := by decide +kernel
theorem dX11_swapsNow_70 : decode cX11_swapsNow 70 = .ok (.iload_n 1, 1) := by decide +kernel
theorem dX11_swapsNow_71 : decode cX11_swapsNow 71 = .ok (.invokevirtual 241, 3) := by decide +kernel
theorem dX11_swapsNow_74 : decode cX11_swapsNow 74 = .ok (.istore_n 2, 1) := by decide +kernel
theorem dX11_swapsNow_75 : decode cX11_swapsNow 75 = .ok (.iload_n 2, 1) := by decide +kernel
theorem dX11_swapsNow_76 : decode cX11_swapsNow 76 = .ok (.invokestatic 244, 3) := by decide +kernel
theorem dX11_swapsNow_79 : decode cX11_swapsNow 79 = .ok (.iconst 2, 1) := by decide +kernel
theorem dX11_swapsNow_80 : decode cX11_swapsNow 80 = .ok (.if_icmp .ge 6, 3) := by decide +kernel
theorem dX11_swapsNow_83 : decode cX11_swapsNow 83 = .ok (.goto 92, 3) := by decide +kernel
theorem dX11_swapsNow_86 : decode cX11_swapsNow 86 = .ok (.aload_n 0, 1) := by decide +kernel
theorem dX11_swapsNow_87 : decode cX11_swapsNow 87 = .ok (.getfield 13, 3) := by decide +kernel
theorem dX11_swapsNow_90 : decode cX11_swapsNow 90 = .ok (.bipush 7, 2) := by decide +kernel
theorem dX11_swapsNow_92 : decode cX11_swapsNow 92 = .ok (.dup2, 1) := by decide +kernel
theorem dX11_swapsNow_93 : decode cX11_swapsNow 93 = .ok (.iaload, 1) := by decide +kernel
theorem dX11_swapsNow_94 : decode cX11_swapsNow 94 = .ok (.iconst 1, 1) := by decide +kernel
theorem dX11_swapsNow_95 : decode cX11_swapsNow 95 = .ok (.iadd, 1) := by decide +kernel
theorem dX11_swapsNow_96 : decode cX11_swapsNow 96 = .ok (.iastore, 1) := by decide +kernel
theorem dX11_swapsNow_97 : decode cX11_swapsNow 97 = .ok (.iconst 0, 1) := by decide +kernel
theorem dX11_swapsNow_98 : decode cX11_swapsNow 98 = .ok (.istore_n 3, 1) := by decide +kernel
theorem dX11_swapsNow_99 : decode cX11_swapsNow 99 = .ok (.iload_n 3, 1) := by decide +kernel
theorem dX11_swapsNow_100 : decode cX11_swapsNow 100 = .ok (.aload_n 0, 1) := by decide +kernel
theorem dX11_swapsNow_101 : decode cX11_swapsNow 101 = .ok (.invokevirtual 170, 3) := by decide +kernel
theorem dX11_swapsNow_104 : decode cX11_swapsNow 104 = .ok (.if_icmp .ge 71, 3) := by decide +kernel
theorem dX11_swapsNow_107 : decode cX11_swapsNow 107 = .ok (.aload_n 0, 1) := by decide +kernel
theorem dX11_swapsNow_108 : decode cX11_swapsNow 108 = .ok (.iload_n 3, 1) := by decide +kernel
theorem dX11_swapsNow_109 : decode cX11_swapsNow 109 = .ok (.iconst 3, 1) := by decide +kernel
theorem dX11_swapsNow_110 : decode cX11_swapsNow 110 = .ok (.invokevirtual 67, 3) := by decide +kernel
theorem dX11_swapsNow_113 : decode cX11_swapsNow 113 = .ok (.iconst 1, 1) := by decide +kernel
theorem dX11_swapsNow_114 : decode cX11_swapsNow 114 = .ok (.if_icmp .ne 55, 3) := by decide +kernel
theorem dX11_swapsNow_117 : decode cX11_swapsNow 117 = .ok (.iload_n 2, 1) := by decide +kernel
theorem dX11_swapsNow_118 : decode cX11_swapsNow 118 = .ok (.aload_n 0, 1) := by decide +kernel
theorem dX11_swapsNow_119 : decode cX11_swapsNow 119 = .ok (.aload_n 0, 1) := by decide +kernel
theorem dX11_swapsNow_120 : decode cX11_swapsNow 120 = .ok (.iload_n 3, 1) := by decide +kernel
theorem dX11_swapsNow_121 : decode cX11_swapsNow 121 = .ok (.iconst 4, 1) := by decide +kernel
theorem dX11_swapsNow_122 : decode cX11_swapsNow 122 = .ok (.invokevirtual 67, 3) := by decide +kernel
theorem dX11_swapsNow_125 : decode cX11_swapsNow 125 = .ok (.invokevirtual 249, 3) := by decide +kernel
theorem dX11_swapsNow_128 : decode cX11_swapsNow 128 = .ok (.invokestatic 160, 3) := by decide +kernel
theorem dX11_swapsNow_131 : decode cX11_swapsNow 131 = .ok (.ifCond .ne 6, 3) := by decide +kernel
theorem dX11_swapsNow_134 : decode cX11_swapsNow 134 = .ok (.goto 35, 3) := by decide +kernel
theorem dX11_swapsNow_137 : decode cX11_swapsNow 137 = .ok (.aload_n 0, 1) := by decide +kernel
theorem dX11_swapsNow_138 : decode cX11_swapsNow 138 = .ok (.iload_n 3, 1) := by decide +kernel
theorem dX11_swapsNow_139 : decode cX11_swapsNow 139 = .ok (.aload_n 0, 1) := by decide +kernel
theorem dX11_swapsNow_140 : decode cX11_swapsNow 140 = .ok (.aload_n 0, 1) := by decide +kernel
theorem dX11_swapsNow_141 : decode cX11_swapsNow 141 = .ok (.iload_n 3, 1) := by decide +kernel
theorem dX11_swapsNow_142 : decode cX11_swapsNow 142 = .ok (.iconst 4, 1) := by decide +kernel
theorem dX11_swapsNow_143 : decode cX11_swapsNow 143 = .ok (.invokevirtual 67, 3) := by decide +kernel
theorem dX11_swapsNow_146 : decode cX11_swapsNow 146 = .ok (.invokevirtual 249, 3) := by decide +kernel
theorem dX11_swapsNow_149 : decode cX11_swapsNow 149 = .ok (.invokevirtual 252, 3) := by decide +kernel
theorem dX11_swapsNow_152 : decode cX11_swapsNow 152 = .ok (.aload_n 0, 1) := by decide +kernel
theorem dX11_swapsNow_153 : decode cX11_swapsNow 153 = .ok (.iload_n 3, 1) := by decide +kernel
theorem dX11_swapsNow_154 : decode cX11_swapsNow 154 = .ok (.iconst 3, 1) := by decide +kernel
theorem dX11_swapsNow_155 : decode cX11_swapsNow 155 = .ok (.aload_n 0, 1) := by decide +kernel
theorem dX11_swapsNow_156 : decode cX11_swapsNow 156 = .ok (.aload_n 0, 1) := by decide +kernel
theorem dX11_swapsNow_157 : decode cX11_swapsNow 157 = .ok (.iload_n 3, 1) := by decide +kernel
theorem dX11_swapsNow_158 : decode cX11_swapsNow 158 = .ok (.iconst 4, 1) := by decide +kernel
theorem dX11_swapsNow_159 : decode cX11_swapsNow 159 = .ok (.invokevirtual 67, 3) := by decide +kernel
theorem dX11_swapsNow_162 : decode cX11_swapsNow 162 = .ok (.invokevirtual 249, 3) := by decide +kernel
theorem dX11_swapsNow_165 : decode cX11_swapsNow 165 = .ok (.iload_n 1, 1) := by decide +kernel
theorem dX11_swapsNow_166 : decode cX11_swapsNow 166 = .ok (.invokevirtual 255, 3) := by decide +kernel
theorem dX11_swapsNow_169 : decode cX11_swapsNow 169 = .ok (.iinc 3 1, 3) := by decide +kernel
theorem dX11_swapsNow_172 : decode cX11_swapsNow 172 = .ok (.goto (-73), 3) := by decide +kernel
theorem dX11_swapsNow_175 : decode cX11_swapsNow 175 = .ok (.iinc 1 1, 3) := by decide +kernel
theorem dX11_swapsNow_178 : decode cX11_swapsNow 178 = .ok (.goto (-129), 3) := by decide +kernel
theorem dX11_swapsNow_181 : decode cX11_swapsNow 181 = .ok (.return_, 1) := by decide +kernel
theorem dX11_laysWays_0 : decode cX11_laysWays 0 = .ok (.iconst 0, 1) := by decide +kernel
theorem dX11_laysWays_1 : decode cX11_laysWays 1 = .ok (.istore_n 3, 1) := by decide +kernel
theorem dX11_laysWays_2 : decode cX11_laysWays 2 = .ok (.iload_n 3, 1) := by decide +kernel
theorem dX11_laysWays_3 : decode cX11_laysWays 3 = .ok (.iconst 5, 1) := by decide +kernel
theorem dX11_laysWays_4 : decode cX11_laysWays 4 = .ok (.if_icmp .gt 109, 3) := by decide +kernel
theorem dX11_laysWays_7 : decode cX11_laysWays 7 = .ok (.iload_n 3, 1) := by decide +kernel
theorem dX11_laysWays_8 : decode cX11_laysWays 8 = .ok (.iconst 5, 1) := by decide +kernel
theorem dX11_laysWays_9 : decode cX11_laysWays 9 = .ok (.if_icmp .ge 26, 3) := by decide +kernel
theorem dX11_laysWays_12 : decode cX11_laysWays 12 = .ok (.iload_n 3, 1) := by decide +kernel
theorem dX11_laysWays_13 : decode cX11_laysWays 13 = .ok (.aload_n 0, 1) := by decide +kernel
theorem dX11_laysWays_14 : decode cX11_laysWays 14 = .ok (.invokevirtual 151, 3) := by decide +kernel
theorem dX11_laysWays_17 : decode cX11_laysWays 17 = .ok (.if_icmp .ge 90, 3) := by decide +kernel
theorem dX11_laysWays_20 : decode cX11_laysWays 20 = .ok (.iload_n 2, 1) := by decide +kernel
theorem dX11_laysWays_21 : decode cX11_laysWays 21 = .ok (.aload_n 0, 1) := by decide +kernel
theorem dX11_laysWays_22 : decode cX11_laysWays 22 = .ok (.iload_n 3, 1) := by decide +kernel
theorem dX11_laysWays_23 : decode cX11_laysWays 23 = .ok (.invokevirtual 249, 3) := by decide +kernel
theorem dX11_laysWays_26 : decode cX11_laysWays 26 = .ok (.invokestatic 160, 3) := by decide +kernel
theorem dX11_laysWays_29 : decode cX11_laysWays 29 = .ok (.ifCond .ne 6, 3) := by decide +kernel
theorem dX11_laysWays_32 : decode cX11_laysWays 32 = .ok (.goto 75, 3) := by decide +kernel
theorem dX11_laysWays_35 : decode cX11_laysWays 35 = .ok (.aload_n 0, 1) := by decide +kernel
theorem dX11_laysWays_36 : decode cX11_laysWays 36 = .ok (.iload_n 3, 1) := by decide +kernel
theorem dX11_laysWays_37 : decode cX11_laysWays 37 = .ok (.iconst 5, 1) := by decide +kernel
theorem dX11_laysWays_38 : decode cX11_laysWays 38 = .ok (.if_icmp .ge 9, 3) := by decide +kernel
theorem dX11_laysWays_41 : decode cX11_laysWays 41 = .ok (.iconst 1, 1) := by decide +kernel
theorem dX11_laysWays_42 : decode cX11_laysWays 42 = .ok (.iload_n 3, 1) := by decide +kernel
theorem dX11_laysWays_43 : decode cX11_laysWays 43 = .ok (.ishl, 1) := by decide +kernel
theorem dX11_laysWays_44 : decode cX11_laysWays 44 = .ok (.goto 4, 3) := by decide +kernel
theorem dX11_laysWays_47 : decode cX11_laysWays 47 = .ok (.iconst 0, 1) := by decide +kernel
theorem dX11_laysWays_48 : decode cX11_laysWays 48 = .ok (.iload_n 3, 1) := by decide +kernel
theorem dX11_laysWays_49 : decode cX11_laysWays 49 = .ok (.iconst 5, 1) := by decide +kernel
theorem dX11_laysWays_50 : decode cX11_laysWays 50 = .ok (.if_icmp .ge 7, 3) := by decide +kernel
theorem dX11_laysWays_53 : decode cX11_laysWays 53 = .ok (.iconst 0, 1) := by decide +kernel
theorem dX11_laysWays_54 : decode cX11_laysWays 54 = .ok (.goto 6, 3) := by decide +kernel
theorem dX11_laysWays_57 : decode cX11_laysWays 57 = .ok (.iconst 1, 1) := by decide +kernel
theorem dX11_laysWays_58 : decode cX11_laysWays 58 = .ok (.iload_n 1, 1) := by decide +kernel
theorem dX11_laysWays_59 : decode cX11_laysWays 59 = .ok (.ishl, 1) := by decide +kernel
theorem dX11_laysWays_60 : decode cX11_laysWays 60 = .ok (.aload_n 0, 1) := by decide +kernel
theorem dX11_laysWays_61 : decode cX11_laysWays 61 = .ok (.getfield 13, 3) := by decide +kernel
theorem dX11_laysWays_64 : decode cX11_laysWays 64 = .ok (.bipush 6, 2) := by decide +kernel
theorem dX11_laysWays_66 : decode cX11_laysWays 66 = .ok (.iaload, 1) := by decide +kernel
theorem dX11_laysWays_67 : decode cX11_laysWays 67 = .ok (.iconst 1, 1) := by decide +kernel
theorem dX11_laysWays_68 : decode cX11_laysWays 68 = .ok (.iadd, 1) := by decide +kernel
theorem dX11_laysWays_69 : decode cX11_laysWays 69 = .ok (.invokevirtual 225, 3) := by decide +kernel
theorem dX11_laysWays_72 : decode cX11_laysWays 72 = .ok (.iconst 0, 1) := by decide +kernel
theorem dX11_laysWays_73 : decode cX11_laysWays 73 = .ok (.istore 4, 2) := by decide +kernel
theorem dX11_laysWays_75 : decode cX11_laysWays 75 = .ok (.iload 4, 2) := by decide +kernel
theorem dX11_laysWays_77 : decode cX11_laysWays 77 = .ok (.bipush 10, 2) := by decide +kernel
theorem dX11_laysWays_79 : decode cX11_laysWays 79 = .ok (.if_icmp .ge 28, 3) := by decide +kernel
theorem dX11_laysWays_82 : decode cX11_laysWays 82 = .ok (.aload_n 0, 1) := by decide +kernel
theorem dX11_laysWays_83 : decode cX11_laysWays 83 = .ok (.getfield 51, 3) := by decide +kernel
theorem dX11_laysWays_86 : decode cX11_laysWays 86 = .ok (.bipush 10, 2) := by decide +kernel
theorem dX11_laysWays_88 : decode cX11_laysWays 88 = .ok (.iload_n 3, 1) := by decide +kernel
theorem dX11_laysWays_89 : decode cX11_laysWays 89 = .ok (.imul, 1) := by decide +kernel
theorem dX11_laysWays_90 : decode cX11_laysWays 90 = .ok (.iload 4, 2) := by decide +kernel
theorem dX11_laysWays_92 : decode cX11_laysWays 92 = .ok (.iadd, 1) := by decide +kernel
theorem dX11_laysWays_93 : decode cX11_laysWays 93 = .ok (.aload_n 0, 1) := by decide +kernel
theorem dX11_laysWays_94 : decode cX11_laysWays 94 = .ok (.getfield 42, 3) := by decide +kernel
theorem dX11_laysWays_97 : decode cX11_laysWays 97 = .ok (.iload 4, 2) := by decide +kernel
theorem dX11_laysWays_99 : decode cX11_laysWays 99 = .ok (.iaload, 1) := by decide +kernel
theorem dX11_laysWays_100 : decode cX11_laysWays 100 = .ok (.iastore, 1) := by decide +kernel
theorem dX11_laysWays_101 : decode cX11_laysWays 101 = .ok (.iinc 4 1, 3) := by decide +kernel
theorem dX11_laysWays_104 : decode cX11_laysWays 104 = .ok (.goto (-29), 3) := by decide +kernel
theorem dX11_laysWays_107 : decode cX11_laysWays 107 = .ok (.iinc 3 1, 3) := by decide +kernel
theorem dX11_laysWays_110 : decode cX11_laysWays 110 = .ok (.goto (-108), 3) := by decide +kernel
theorem dX11_laysWays_113 : decode cX11_laysWays 113 = .ok (.return_, 1) := by decide +kernel
theorem dX11_bestSack_0 : decode cX11_bestSack 0 = .ok (.aload_n 0, 1) := by decide +kernel
theorem dX11_bestSack_1 : decode cX11_bestSack 1 = .ok (.iload_n 1, 1) := by decide +kernel
theorem dX11_bestSack_2 : decode cX11_bestSack 2 = .ok (.iconst 1, 1) := by decide +kernel
theorem dX11_bestSack_3 : decode cX11_bestSack 3 = .ok (.invokevirtual 67, 3) := by decide +kernel
theorem dX11_bestSack_6 : decode cX11_bestSack 6 = .ok (.istore_n 3, 1) := by decide +kernel
theorem dX11_bestSack_7 : decode cX11_bestSack 7 = .ok (.iconst (-1), 1) := by decide +kernel
theorem dX11_bestSack_8 : decode cX11_bestSack 8 = .ok (.istore 4, 2) := by decide +kernel
theorem dX11_bestSack_10 : decode cX11_bestSack 10 = .ok (.iconst 0, 1) := by decide +kernel
theorem dX11_bestSack_11 : decode cX11_bestSack 11 = .ok (.istore 5, 2) := by decide +kernel
theorem dX11_bestSack_13 : decode cX11_bestSack 13 = .ok (.iload 5, 2) := by decide +kernel
theorem dX11_bestSack_15 : decode cX11_bestSack 15 = .ok (.aload_n 0, 1) := by decide +kernel
theorem dX11_bestSack_16 : decode cX11_bestSack 16 = .ok (.invokevirtual 151, 3) := by decide +kernel
theorem dX11_bestSack_19 : decode cX11_bestSack 19 = .ok (.if_icmp .ge 88, 3) := by decide +kernel
theorem dX11_bestSack_22 : decode cX11_bestSack 22 = .ok (.aload_n 0, 1) := by decide +kernel
theorem dX11_bestSack_23 : decode cX11_bestSack 23 = .ok (.getfield 51, 3) := by decide +kernel
theorem dX11_bestSack_26 : decode cX11_bestSack 26 = .ok (.bipush 10, 2) := by decide +kernel
theorem dX11_bestSack_28 : decode cX11_bestSack 28 = .ok (.iload 5, 2) := by decide +kernel
theorem dX11_bestSack_30 : decode cX11_bestSack 30 = .ok (.imul, 1) := by decide +kernel
theorem dX11_bestSack_31 : decode cX11_bestSack 31 = .ok (.iload_n 3, 1) := by decide +kernel
theorem dX11_bestSack_32 : decode cX11_bestSack 32 = .ok (.iadd, 1) := by decide +kernel
theorem dX11_bestSack_33 : decode cX11_bestSack 33 = .ok (.iaload, 1) := by decide +kernel
theorem dX11_bestSack_34 : decode cX11_bestSack 34 = .ok (.istore 6, 2) := by decide +kernel
theorem dX11_bestSack_36 : decode cX11_bestSack 36 = .ok (.iload_n 2, 1) := by decide +kernel
theorem dX11_bestSack_37 : decode cX11_bestSack 37 = .ok (.aload_n 0, 1) := by decide +kernel
theorem dX11_bestSack_38 : decode cX11_bestSack 38 = .ok (.iload 5, 2) := by decide +kernel
theorem dX11_bestSack_40 : decode cX11_bestSack 40 = .ok (.invokevirtual 249, 3) := by decide +kernel
theorem dX11_bestSack_43 : decode cX11_bestSack 43 = .ok (.invokestatic 160, 3) := by decide +kernel
theorem dX11_bestSack_46 : decode cX11_bestSack 46 = .ok (.ifCond .eq 55, 3) := by decide +kernel
theorem dX11_bestSack_49 : decode cX11_bestSack 49 = .ok (.aload_n 0, 1) := by decide +kernel
theorem dX11_bestSack_50 : decode cX11_bestSack 50 = .ok (.getfield 48, 3) := by decide +kernel
theorem dX11_bestSack_53 : decode cX11_bestSack 53 = .ok (.iload 5, 2) := by decide +kernel
theorem dX11_bestSack_55 : decode cX11_bestSack 55 = .ok (.iaload, 1) := by decide +kernel
theorem dX11_bestSack_56 : decode cX11_bestSack 56 = .ok (.aload_n 0, 1) := by decide +kernel
theorem dX11_bestSack_57 : decode cX11_bestSack 57 = .ok (.getfield 13, 3) := by decide +kernel
theorem dX11_bestSack_60 : decode cX11_bestSack 60 = .ok (.iconst 5, 1) := by decide +kernel
theorem dX11_bestSack_61 : decode cX11_bestSack 61 = .ok (.iaload, 1) := by decide +kernel
theorem dX11_bestSack_62 : decode cX11_bestSack 62 = .ok (.if_icmp .lt 6, 3) := by decide +kernel
theorem dX11_bestSack_65 : decode cX11_bestSack 65 = .ok (.goto 36, 3) := by decide +kernel
theorem dX11_bestSack_68 : decode cX11_bestSack 68 = .ok (.iload 6, 2) := by decide +kernel
theorem dX11_bestSack_70 : decode cX11_bestSack 70 = .ok (.iconst (-1), 1) := by decide +kernel
theorem dX11_bestSack_71 : decode cX11_bestSack 71 = .ok (.if_icmp .eq 30, 3) := by decide +kernel
theorem dX11_bestSack_74 : decode cX11_bestSack 74 = .ok (.iload 4, 2) := by decide +kernel
theorem dX11_bestSack_76 : decode cX11_bestSack 76 = .ok (.iconst (-1), 1) := by decide +kernel
theorem dX11_bestSack_77 : decode cX11_bestSack 77 = .ok (.if_icmp .eq 20, 3) := by decide +kernel
theorem dX11_bestSack_80 : decode cX11_bestSack 80 = .ok (.iload 6, 2) := by decide +kernel
theorem dX11_bestSack_82 : decode cX11_bestSack 82 = .ok (.aload_n 0, 1) := by decide +kernel
theorem dX11_bestSack_83 : decode cX11_bestSack 83 = .ok (.getfield 51, 3) := by decide +kernel
theorem dX11_bestSack_86 : decode cX11_bestSack 86 = .ok (.bipush 10, 2) := by decide +kernel
theorem dX11_bestSack_88 : decode cX11_bestSack 88 = .ok (.iload 4, 2) := by decide +kernel
theorem dX11_bestSack_90 : decode cX11_bestSack 90 = .ok (.imul, 1) := by decide +kernel
theorem dX11_bestSack_91 : decode cX11_bestSack 91 = .ok (.iload_n 3, 1) := by decide +kernel
theorem dX11_bestSack_92 : decode cX11_bestSack 92 = .ok (.iadd, 1) := by decide +kernel
theorem dX11_bestSack_93 : decode cX11_bestSack 93 = .ok (.iaload, 1) := by decide +kernel
theorem dX11_bestSack_94 : decode cX11_bestSack 94 = .ok (.if_icmp .ge 7, 3) := by decide +kernel
theorem dX11_bestSack_97 : decode cX11_bestSack 97 = .ok (.iload 5, 2) := by decide +kernel
theorem dX11_bestSack_99 : decode cX11_bestSack 99 = .ok (.istore 4, 2) := by decide +kernel
theorem dX11_bestSack_101 : decode cX11_bestSack 101 = .ok (.iinc 5 1, 3) := by decide +kernel
theorem dX11_bestSack_104 : decode cX11_bestSack 104 = .ok (.goto (-91), 3) := by decide +kernel
theorem dX11_bestSack_107 : decode cX11_bestSack 107 = .ok (.aload_n 0, 1) := by decide +kernel
theorem dX11_bestSack_108 : decode cX11_bestSack 108 = .ok (.getfield 51, 3) := by decide +kernel
theorem dX11_bestSack_111 : decode cX11_bestSack 111 = .ok (.bipush 50, 2) := by decide +kernel
theorem dX11_bestSack_113 : decode cX11_bestSack 113 = .ok (.iload_n 3, 1) := by decide +kernel
theorem dX11_bestSack_114 : decode cX11_bestSack 114 = .ok (.iadd, 1) := by decide +kernel
theorem dX11_bestSack_115 : decode cX11_bestSack 115 = .ok (.iaload, 1) := by decide +kernel
theorem dX11_bestSack_116 : decode cX11_bestSack 116 = .ok (.istore 5, 2) := by decide +kernel
theorem dX11_bestSack_118 : decode cX11_bestSack 118 = .ok (.iload 4, 2) := by decide +kernel
theorem dX11_bestSack_120 : decode cX11_bestSack 120 = .ok (.iconst (-1), 1) := by decide +kernel
theorem dX11_bestSack_121 : decode cX11_bestSack 121 = .ok (.if_icmp .eq 31, 3) := by decide +kernel
theorem dX11_bestSack_124 : decode cX11_bestSack 124 = .ok (.iload 5, 2) := by decide +kernel
theorem dX11_bestSack_126 : decode cX11_bestSack 126 = .ok (.iconst (-1), 1) := by decide +kernel
theorem dX11_bestSack_127 : decode cX11_bestSack 127 = .ok (.if_icmp .eq 20, 3) := by decide +kernel
theorem dX11_bestSack_130 : decode cX11_bestSack 130 = .ok (.aload_n 0, 1) := by decide +kernel
theorem dX11_bestSack_131 : decode cX11_bestSack 131 = .ok (.getfield 51, 3) := by decide +kernel
theorem dX11_bestSack_134 : decode cX11_bestSack 134 = .ok (.bipush 10, 2) := by decide +kernel
theorem dX11_bestSack_136 : decode cX11_bestSack 136 = .ok (.iload 4, 2) := by decide +kernel
theorem dX11_bestSack_138 : decode cX11_bestSack 138 = .ok (.imul, 1) := by decide +kernel
theorem dX11_bestSack_139 : decode cX11_bestSack 139 = .ok (.iload_n 3, 1) := by decide +kernel
theorem dX11_bestSack_140 : decode cX11_bestSack 140 = .ok (.iadd, 1) := by decide +kernel
theorem dX11_bestSack_141 : decode cX11_bestSack 141 = .ok (.iaload, 1) := by decide +kernel
theorem dX11_bestSack_142 : decode cX11_bestSack 142 = .ok (.iload 5, 2) := by decide +kernel
theorem dX11_bestSack_144 : decode cX11_bestSack 144 = .ok (.if_icmp .gt 8, 3) := by decide +kernel
theorem dX11_bestSack_147 : decode cX11_bestSack 147 = .ok (.iload 4, 2) := by decide +kernel
theorem dX11_bestSack_149 : decode cX11_bestSack 149 = .ok (.goto 4, 3) := by decide +kernel
theorem dX11_bestSack_152 : decode cX11_bestSack 152 = .ok (.iconst (-1), 1) := by decide +kernel
theorem dX11_bestSack_153 : decode cX11_bestSack 153 = .ok (.ireturn, 1) := by decide +kernel
theorem dX11_delivers_0 : decode cX11_delivers 0 = .ok (.iconst 0, 1) := by decide +kernel
theorem dX11_delivers_1 : decode cX11_delivers 1 = .ok (.istore_n 2, 1) := by decide +kernel
theorem dX11_delivers_2 : decode cX11_delivers 2 = .ok (.iconst 0, 1) := by decide +kernel
theorem dX11_delivers_3 : decode cX11_delivers 3 = .ok (.istore_n 3, 1) := by decide +kernel
theorem dX11_delivers_4 : decode cX11_delivers 4 = .ok (.iload_n 3, 1) := by decide +kernel
theorem dX11_delivers_5 : decode cX11_delivers 5 = .ok (.aload_n 0, 1) := by decide +kernel
theorem dX11_delivers_6 : decode cX11_delivers 6 = .ok (.invokevirtual 170, 3) := by decide +kernel
theorem dX11_delivers_9 : decode cX11_delivers 9 = .ok (.if_icmp .ge 80, 3) := by decide +kernel
theorem dX11_delivers_12 : decode cX11_delivers 12 = .ok (.aload_n 0, 1) := by decide +kernel
theorem dX11_delivers_13 : decode cX11_delivers 13 = .ok (.getfield 45, 3) := by decide +kernel
theorem dX11_delivers_16 : decode cX11_delivers 16 = .ok (.iload_n 3, 1) := by decide +kernel
theorem dX11_delivers_17 : decode cX11_delivers 17 = .ok (.iaload, 1) := by decide +kernel
theorem dX11_delivers_18 : decode cX11_delivers 18 = .ok (.ifCond .lt 65, 3) := by decide +kernel
theorem dX11_delivers_21 : decode cX11_delivers 21 = .ok (.aload_n 0, 1) := by decide +kernel
theorem dX11_delivers_22 : decode cX11_delivers 22 = .ok (.iload_n 3, 1) := by decide +kernel
theorem dX11_delivers_23 : decode cX11_delivers 23 = .ok (.iconst 1, 1) := by decide +kernel
theorem dX11_delivers_24 : decode cX11_delivers 24 = .ok (.invokevirtual 67, 3) := by decide +kernel
theorem dX11_delivers_27 : decode cX11_delivers 27 = .ok (.iload_n 1, 1) := by decide +kernel
theorem dX11_delivers_28 : decode cX11_delivers 28 = .ok (.if_icmp .eq 6, 3) := by decide +kernel
theorem dX11_delivers_31 : decode cX11_delivers 31 = .ok (.goto 52, 3) := by decide +kernel
theorem dX11_delivers_34 : decode cX11_delivers 34 = .ok (.aload_n 0, 1) := by decide +kernel
theorem dX11_delivers_35 : decode cX11_delivers 35 = .ok (.iload_n 3, 1) := by decide +kernel
theorem dX11_delivers_36 : decode cX11_delivers 36 = .ok (.iconst 2, 1) := by decide +kernel
theorem dX11_delivers_37 : decode cX11_delivers 37 = .ok (.iload_n 1, 1) := by decide +kernel
theorem dX11_delivers_38 : decode cX11_delivers 38 = .ok (.invokevirtual 222, 3) := by decide +kernel
theorem dX11_delivers_41 : decode cX11_delivers 41 = .ok (.aload_n 0, 1) := by decide +kernel
theorem dX11_delivers_42 : decode cX11_delivers 42 = .ok (.iload_n 3, 1) := by decide +kernel
theorem dX11_delivers_43 : decode cX11_delivers 43 = .ok (.bipush 7, 2) := by decide +kernel
theorem dX11_delivers_45 : decode cX11_delivers 45 = .ok (.aload_n 0, 1) := by decide +kernel
theorem dX11_delivers_46 : decode cX11_delivers 46 = .ok (.getfield 13, 3) := by decide +kernel
theorem dX11_delivers_49 : decode cX11_delivers 49 = .ok (.bipush 6, 2) := by decide +kernel
theorem dX11_delivers_51 : decode cX11_delivers 51 = .ok (.iaload, 1) := by decide +kernel
theorem dX11_delivers_52 : decode cX11_delivers 52 = .ok (.invokevirtual 71, 3) := by decide +kernel
theorem dX11_delivers_55 : decode cX11_delivers 55 = .ok (.aload_n 0, 1) := by decide +kernel
theorem dX11_delivers_56 : decode cX11_delivers 56 = .ok (.iload_n 3, 1) := by decide +kernel
theorem dX11_delivers_57 : decode cX11_delivers 57 = .ok (.iconst 2, 1) := by decide +kernel
theorem dX11_delivers_58 : decode cX11_delivers 58 = .ok (.aload_n 0, 1) := by decide +kernel
theorem dX11_delivers_59 : decode cX11_delivers 59 = .ok (.aload_n 0, 1) := by decide +kernel
theorem dX11_delivers_60 : decode cX11_delivers 60 = .ok (.getfield 45, 3) := by decide +kernel
theorem dX11_delivers_63 : decode cX11_delivers 63 = .ok (.iload_n 3, 1) := by decide +kernel
theorem dX11_delivers_64 : decode cX11_delivers 64 = .ok (.iaload, 1) := by decide +kernel
theorem dX11_delivers_65 : decode cX11_delivers 65 = .ok (.invokevirtual 249, 3) := by decide +kernel
theorem dX11_delivers_68 : decode cX11_delivers 68 = .ok (.iload_n 1, 1) := by decide +kernel
theorem dX11_delivers_69 : decode cX11_delivers 69 = .ok (.invokevirtual 255, 3) := by decide +kernel
theorem dX11_delivers_72 : decode cX11_delivers 72 = .ok (.aload_n 0, 1) := by decide +kernel
theorem dX11_delivers_73 : decode cX11_delivers 73 = .ok (.getfield 45, 3) := by decide +kernel
theorem dX11_delivers_76 : decode cX11_delivers 76 = .ok (.iload_n 3, 1) := by decide +kernel
theorem dX11_delivers_77 : decode cX11_delivers 77 = .ok (.bipush (-2), 2) := by decide +kernel
theorem dX11_delivers_79 : decode cX11_delivers 79 = .ok (.iastore, 1) := by decide +kernel
theorem dX11_delivers_80 : decode cX11_delivers 80 = .ok (.iinc 2 1, 3) := by decide +kernel
theorem dX11_delivers_83 : decode cX11_delivers 83 = .ok (.iinc 3 1, 3) := by decide +kernel
theorem dX11_delivers_86 : decode cX11_delivers 86 = .ok (.goto (-82), 3) := by decide +kernel
theorem dX11_delivers_89 : decode cX11_delivers 89 = .ok (.iload_n 2, 1) := by decide +kernel
theorem dX11_delivers_90 : decode cX11_delivers 90 = .ok (.ireturn, 1) := by decide +kernel
theorem dX11_sorts_0 : decode cX11_sorts 0 = .ok (.aload_n 0, 1) := by decide +kernel
theorem dX11_sorts_1 : decode cX11_sorts 1 = .ok (.iload_n 1, 1) := by decide +kernel
theorem dX11_sorts_2 : decode cX11_sorts 2 = .ok (.iload_n 3, 1) := by decide +kernel
theorem dX11_sorts_3 : decode cX11_sorts 3 = .ok (.invokevirtual 259, 3) := by decide +kernel
theorem dX11_sorts_6 : decode cX11_sorts 6 = .ok (.istore 4, 2) := by decide +kernel
theorem dX11_sorts_8 : decode cX11_sorts 8 = .ok (.iload 4, 2) := by decide +kernel
theorem dX11_sorts_10 : decode cX11_sorts 10 = .ok (.iconst (-1), 1) := by decide +kernel
theorem dX11_sorts_11 : decode cX11_sorts 11 = .ok (.if_icmp .ne 38, 3) := by decide +kernel
theorem dX11_sorts_14 : decode cX11_sorts 14 = .ok (.aload_n 0, 1) := by decide +kernel
theorem dX11_sorts_15 : decode cX11_sorts 15 = .ok (.iload_n 1, 1) := by decide +kernel
theorem dX11_sorts_16 : decode cX11_sorts 16 = .ok (.iconst 0, 1) := by decide +kernel
theorem dX11_sorts_17 : decode cX11_sorts 17 = .ok (.iload_n 2, 1) := by decide +kernel
theorem dX11_sorts_18 : decode cX11_sorts 18 = .ok (.invokevirtual 222, 3) := by decide +kernel
theorem dX11_sorts_21 : decode cX11_sorts 21 = .ok (.aload_n 0, 1) := by decide +kernel
theorem dX11_sorts_22 : decode cX11_sorts 22 = .ok (.getfield 45, 3) := by decide +kernel
theorem dX11_sorts_25 : decode cX11_sorts 25 = .ok (.iload_n 1, 1) := by decide +kernel
theorem dX11_sorts_26 : decode cX11_sorts 26 = .ok (.iaload, 1) := by decide +kernel
theorem dX11_sorts_27 : decode cX11_sorts 27 = .ok (.iconst (-1), 1) := by decide +kernel
theorem dX11_sorts_28 : decode cX11_sorts 28 = .ok (.if_icmp .eq 20, 3) := by decide +kernel
theorem dX11_sorts_31 : decode cX11_sorts 31 = .ok (.aload_n 0, 1) := by decide +kernel
theorem dX11_sorts_32 : decode cX11_sorts 32 = .ok (.iload_n 1, 1) := by decide +kernel
theorem dX11_sorts_33 : decode cX11_sorts 33 = .ok (.iconst 1, 1) := by decide +kernel
theorem dX11_sorts_34 : decode cX11_sorts 34 = .ok (.aload_n 0, 1) := by decide +kernel
theorem dX11_sorts_35 : decode cX11_sorts 35 = .ok (.aload_n 0, 1) := by decide +kernel
theorem dX11_sorts_36 : decode cX11_sorts 36 = .ok (.getfield 45, 3) := by decide +kernel
theorem dX11_sorts_39 : decode cX11_sorts 39 = .ok (.iload_n 1, 1) := by decide +kernel
theorem dX11_sorts_40 : decode cX11_sorts 40 = .ok (.iaload, 1) := by decide +kernel
theorem dX11_sorts_41 : decode cX11_sorts 41 = .ok (.invokevirtual 249, 3) := by decide +kernel
theorem dX11_sorts_44 : decode cX11_sorts 44 = .ok (.iload_n 2, 1) := by decide +kernel
theorem dX11_sorts_45 : decode cX11_sorts 45 = .ok (.invokevirtual 255, 3) := by decide +kernel
theorem dX11_sorts_48 : decode cX11_sorts 48 = .ok (.return_, 1) := by decide +kernel
theorem dX11_sorts_49 : decode cX11_sorts 49 = .ok (.aload_n 0, 1) := by decide +kernel
theorem dX11_sorts_50 : decode cX11_sorts 50 = .ok (.iload_n 1, 1) := by decide +kernel
theorem dX11_sorts_51 : decode cX11_sorts 51 = .ok (.iconst 1, 1) := by decide +kernel
theorem dX11_sorts_52 : decode cX11_sorts 52 = .ok (.iload 4, 2) := by decide +kernel
theorem dX11_sorts_54 : decode cX11_sorts 54 = .ok (.invokevirtual 222, 3) := by decide +kernel
theorem dX11_sorts_57 : decode cX11_sorts 57 = .ok (.aload_n 0, 1) := by decide +kernel
theorem dX11_sorts_58 : decode cX11_sorts 58 = .ok (.getfield 48, 3) := by decide +kernel
theorem dX11_sorts_61 : decode cX11_sorts 61 = .ok (.iload 4, 2) := by decide +kernel
theorem dX11_sorts_63 : decode cX11_sorts 63 = .ok (.dup2, 1) := by decide +kernel
theorem dX11_sorts_64 : decode cX11_sorts 64 = .ok (.iaload, 1) := by decide +kernel
theorem dX11_sorts_65 : decode cX11_sorts 65 = .ok (.iconst 1, 1) := by decide +kernel
theorem dX11_sorts_66 : decode cX11_sorts 66 = .ok (.iadd, 1) := by decide +kernel
theorem dX11_sorts_67 : decode cX11_sorts 67 = .ok (.iastore, 1) := by decide +kernel
theorem dX11_sorts_68 : decode cX11_sorts 68 = .ok (.aload_n 0, 1) := by decide +kernel
theorem dX11_sorts_69 : decode cX11_sorts 69 = .ok (.iload_n 1, 1) := by decide +kernel
theorem dX11_sorts_70 : decode cX11_sorts 70 = .ok (.aload_n 0, 1) := by decide +kernel
theorem dX11_sorts_71 : decode cX11_sorts 71 = .ok (.iload 4, 2) := by decide +kernel
theorem dX11_sorts_73 : decode cX11_sorts 73 = .ok (.invokevirtual 249, 3) := by decide +kernel
theorem dX11_sorts_76 : decode cX11_sorts 76 = .ok (.invokevirtual 252, 3) := by decide +kernel
theorem dX11_sorts_79 : decode cX11_sorts 79 = .ok (.aload_n 0, 1) := by decide +kernel
theorem dX11_sorts_80 : decode cX11_sorts 80 = .ok (.getfield 45, 3) := by decide +kernel
theorem dX11_sorts_83 : decode cX11_sorts 83 = .ok (.iload_n 1, 1) := by decide +kernel
theorem dX11_sorts_84 : decode cX11_sorts 84 = .ok (.iaload, 1) := by decide +kernel
theorem dX11_sorts_85 : decode cX11_sorts 85 = .ok (.iload 4, 2) := by decide +kernel
theorem dX11_sorts_87 : decode cX11_sorts 87 = .ok (.if_icmp .eq 16, 3) := by decide +kernel
theorem dX11_sorts_90 : decode cX11_sorts 90 = .ok (.aload_n 0, 1) := by decide +kernel
theorem dX11_sorts_91 : decode cX11_sorts 91 = .ok (.iload_n 1, 1) := by decide +kernel
theorem dX11_sorts_92 : decode cX11_sorts 92 = .ok (.iconst 0, 1) := by decide +kernel
theorem dX11_sorts_93 : decode cX11_sorts 93 = .ok (.aload_n 0, 1) := by decide +kernel
theorem dX11_sorts_94 : decode cX11_sorts 94 = .ok (.iload 4, 2) := by decide +kernel
theorem dX11_sorts_96 : decode cX11_sorts 96 = .ok (.invokevirtual 249, 3) := by decide +kernel
theorem dX11_sorts_99 : decode cX11_sorts 99 = .ok (.iload_n 2, 1) := by decide +kernel
theorem dX11_sorts_100 : decode cX11_sorts 100 = .ok (.invokevirtual 255, 3) := by decide +kernel
theorem dX11_sorts_103 : decode cX11_sorts 103 = .ok (.return_, 1) := by decide +kernel
theorem dX11_visits_0 : decode cX11_visits 0 = .ok (.aload_n 0, 1) := by decide +kernel
theorem dX11_visits_1 : decode cX11_visits 1 = .ok (.iload_n 1, 1) := by decide +kernel
theorem dX11_visits_2 : decode cX11_visits 2 = .ok (.invokevirtual 241, 3) := by decide +kernel
theorem dX11_visits_5 : decode cX11_visits 5 = .ok (.istore_n 2, 1) := by decide +kernel
theorem dX11_visits_6 : decode cX11_visits 6 = .ok (.iload_n 2, 1) := by decide +kernel
theorem dX11_visits_7 : decode cX11_visits 7 = .ok (.ifCond .ne 5, 3) := by decide +kernel
theorem dX11_visits_10 : decode cX11_visits 10 = .ok (.iconst 0, 1) := by decide +kernel
theorem dX11_visits_11 : decode cX11_visits 11 = .ok (.ireturn, 1) := by decide +kernel
theorem dX11_visits_12 : decode cX11_visits 12 = .ok (.iconst 0, 1) := by decide +kernel
theorem dX11_visits_13 : decode cX11_visits 13 = .ok (.istore_n 3, 1) := by decide +kernel
theorem dX11_visits_14 : decode cX11_visits 14 = .ok (.iload_n 3, 1) := by decide +kernel
theorem dX11_visits_15 : decode cX11_visits 15 = .ok (.iconst 5, 1) := by decide +kernel
theorem dX11_visits_16 : decode cX11_visits 16 = .ok (.if_icmp .ge 16, 3) := by decide +kernel
theorem dX11_visits_19 : decode cX11_visits 19 = .ok (.aload_n 0, 1) := by decide +kernel
theorem dX11_visits_20 : decode cX11_visits 20 = .ok (.getfield 48, 3) := by decide +kernel
theorem dX11_visits_23 : decode cX11_visits 23 = .ok (.iload_n 3, 1) := by decide +kernel
theorem dX11_visits_24 : decode cX11_visits 24 = .ok (.iconst 0, 1) := by decide +kernel
theorem dX11_visits_25 : decode cX11_visits 25 = .ok (.iastore, 1) := by decide +kernel
theorem dX11_visits_26 : decode cX11_visits 26 = .ok (.iinc 3 1, 3) := by decide +kernel
theorem dX11_visits_29 : decode cX11_visits 29 = .ok (.goto (-15), 3) := by decide +kernel
theorem dX11_visits_32 : decode cX11_visits 32 = .ok (.iconst 0, 1) := by decide +kernel
theorem dX11_visits_33 : decode cX11_visits 33 = .ok (.istore_n 3, 1) := by decide +kernel
theorem dX11_visits_34 : decode cX11_visits 34 = .ok (.iload_n 3, 1) := by decide +kernel
theorem dX11_visits_35 : decode cX11_visits 35 = .ok (.aload_n 0, 1) := by decide +kernel
theorem dX11_visits_36 : decode cX11_visits 36 = .ok (.invokevirtual 170, 3) := by decide +kernel
theorem dX11_visits_39 : decode cX11_visits 39 = .ok (.if_icmp .ge 79, 3) := by decide +kernel
theorem dX11_visits_42 : decode cX11_visits 42 = .ok (.aload_n 0, 1) := by decide +kernel
theorem dX11_visits_43 : decode cX11_visits 43 = .ok (.iload_n 3, 1) := by decide +kernel
theorem dX11_visits_44 : decode cX11_visits 44 = .ok (.iconst 3, 1) := by decide +kernel
theorem dX11_visits_45 : decode cX11_visits 45 = .ok (.invokevirtual 67, 3) := by decide +kernel
theorem dX11_visits_48 : decode cX11_visits 48 = .ok (.iconst 1, 1) := by decide +kernel
theorem dX11_visits_49 : decode cX11_visits 49 = .ok (.if_icmp .ne 24, 3) := by decide +kernel
theorem dX11_visits_52 : decode cX11_visits 52 = .ok (.iload_n 2, 1) := by decide +kernel
theorem dX11_visits_53 : decode cX11_visits 53 = .ok (.aload_n 0, 1) := by decide +kernel
theorem dX11_visits_54 : decode cX11_visits 54 = .ok (.aload_n 0, 1) := by decide +kernel
theorem dX11_visits_55 : decode cX11_visits 55 = .ok (.iload_n 3, 1) := by decide +kernel
theorem dX11_visits_56 : decode cX11_visits 56 = .ok (.iconst 4, 1) := by decide +kernel
theorem dX11_visits_57 : decode cX11_visits 57 = .ok (.invokevirtual 67, 3) := by decide +kernel
theorem dX11_visits_60 : decode cX11_visits 60 = .ok (.invokevirtual 249, 3) := by decide +kernel
theorem dX11_visits_63 : decode cX11_visits 63 = .ok (.invokestatic 160, 3) := by decide +kernel
theorem dX11_visits_66 : decode cX11_visits 66 = .ok (.ifCond .eq 7, 3) := by decide +kernel
theorem dX11_visits_69 : decode cX11_visits 69 = .ok (.iconst 1, 1) := by decide +kernel
theorem dX11_visits_70 : decode cX11_visits 70 = .ok (.goto 4, 3) := by decide +kernel
theorem dX11_visits_73 : decode cX11_visits 73 = .ok (.iconst 0, 1) := by decide +kernel
theorem dX11_visits_74 : decode cX11_visits 74 = .ok (.istore 4, 2) := by decide +kernel
theorem dX11_visits_76 : decode cX11_visits 76 = .ok (.aload_n 0, 1) := by decide +kernel
theorem dX11_visits_77 : decode cX11_visits 77 = .ok (.getfield 45, 3) := by decide +kernel
theorem dX11_visits_80 : decode cX11_visits 80 = .ok (.iload_n 3, 1) := by decide +kernel
theorem dX11_visits_81 : decode cX11_visits 81 = .ok (.iload 4, 2) := by decide +kernel
theorem dX11_visits_83 : decode cX11_visits 83 = .ok (.ifCond .eq 12, 3) := by decide +kernel
theorem dX11_visits_86 : decode cX11_visits 86 = .ok (.aload_n 0, 1) := by decide +kernel
theorem dX11_visits_87 : decode cX11_visits 87 = .ok (.iload_n 3, 1) := by decide +kernel
theorem dX11_visits_88 : decode cX11_visits 88 = .ok (.iconst 4, 1) := by decide +kernel
theorem dX11_visits_89 : decode cX11_visits 89 = .ok (.invokevirtual 67, 3) := by decide +kernel
theorem dX11_visits_92 : decode cX11_visits 92 = .ok (.goto 19, 3) := by decide +kernel
theorem dX11_visits_95 : decode cX11_visits 95 = .ok (.aload_n 0, 1) := by decide +kernel
theorem dX11_visits_96 : decode cX11_visits 96 = .ok (.iload_n 3, 1) := by decide +kernel
theorem dX11_visits_97 : decode cX11_visits 97 = .ok (.iconst 0, 1) := by decide +kernel
theorem dX11_visits_98 : decode cX11_visits 98 = .ok (.iload_n 1, 1) := by decide +kernel
theorem dX11_visits_99 : decode cX11_visits 99 = .ok (.invokevirtual 262, 3) := by decide +kernel
theorem dX11_visits_102 : decode cX11_visits 102 = .ok (.ifCond .eq 7, 3) := by decide +kernel
theorem dX11_visits_105 : decode cX11_visits 105 = .ok (.iconst (-1), 1) := by decide +kernel
theorem dX11_visits_106 : decode cX11_visits 106 = .ok (.goto 5, 3) := by decide +kernel
theorem dX11_visits_109 : decode cX11_visits 109 = .ok (.bipush (-2), 2) := by decide +kernel
theorem dX11_visits_111 : decode cX11_visits 111 = .ok (.iastore, 1) := by decide +kernel
theorem dX11_visits_112 : decode cX11_visits 112 = .ok (.iinc 3 1, 3) := by decide +kernel
theorem dX11_visits_115 : decode cX11_visits 115 = .ok (.goto (-81), 3) := by decide +kernel
theorem dX11_visits_118 : decode cX11_visits 118 = .ok (.aload_n 0, 1) := by decide +kernel
theorem dX11_visits_119 : decode cX11_visits 119 = .ok (.iload_n 1, 1) := by decide +kernel
theorem dX11_visits_120 : decode cX11_visits 120 = .ok (.invokevirtual 265, 3) := by decide +kernel
theorem dX11_visits_123 : decode cX11_visits 123 = .ok (.istore_n 3, 1) := by decide +kernel
theorem dX11_visits_124 : decode cX11_visits 124 = .ok (.aload_n 0, 1) := by decide +kernel
theorem dX11_visits_125 : decode cX11_visits 125 = .ok (.iload_n 1, 1) := by decide +kernel
theorem dX11_visits_126 : decode cX11_visits 126 = .ok (.iload_n 2, 1) := by decide +kernel
theorem dX11_visits_127 : decode cX11_visits 127 = .ok (.invokevirtual 268, 3) := by decide +kernel
theorem dX11_visits_130 : decode cX11_visits 130 = .ok (.iconst 0, 1) := by decide +kernel
theorem dX11_visits_131 : decode cX11_visits 131 = .ok (.istore 4, 2) := by decide +kernel
theorem dX11_visits_133 : decode cX11_visits 133 = .ok (.iload 4, 2) := by decide +kernel
theorem dX11_visits_135 : decode cX11_visits 135 = .ok (.aload_n 0, 1) := by decide +kernel
theorem dX11_visits_136 : decode cX11_visits 136 = .ok (.invokevirtual 170, 3) := by decide +kernel
theorem dX11_visits_139 : decode cX11_visits 139 = .ok (.if_icmp .ge 29, 3) := by decide +kernel
theorem dX11_visits_142 : decode cX11_visits 142 = .ok (.aload_n 0, 1) := by decide +kernel
theorem dX11_visits_143 : decode cX11_visits 143 = .ok (.getfield 45, 3) := by decide +kernel
theorem dX11_visits_146 : decode cX11_visits 146 = .ok (.iload 4, 2) := by decide +kernel
theorem dX11_visits_148 : decode cX11_visits 148 = .ok (.iaload, 1) := by decide +kernel
theorem dX11_visits_149 : decode cX11_visits 149 = .ok (.bipush (-2), 2) := by decide +kernel
theorem dX11_visits_151 : decode cX11_visits 151 = .ok (.if_icmp .eq 11, 3) := by decide +kernel
theorem dX11_visits_154 : decode cX11_visits 154 = .ok (.aload_n 0, 1) := by decide +kernel
theorem dX11_visits_155 : decode cX11_visits 155 = .ok (.iload 4, 2) := by decide +kernel
theorem dX11_visits_157 : decode cX11_visits 157 = .ok (.iload_n 1, 1) := by decide +kernel
theorem dX11_visits_158 : decode cX11_visits 158 = .ok (.iload_n 2, 1) := by decide +kernel
theorem dX11_visits_159 : decode cX11_visits 159 = .ok (.invokevirtual 271, 3) := by decide +kernel
theorem dX11_visits_162 : decode cX11_visits 162 = .ok (.iinc 4 1, 3) := by decide +kernel
theorem dX11_visits_165 : decode cX11_visits 165 = .ok (.goto (-32), 3) := by decide +kernel
theorem dX11_visits_168 : decode cX11_visits 168 = .ok (.iload_n 3, 1) := by decide +kernel
theorem dX11_visits_169 : decode cX11_visits 169 = .ok (.ireturn, 1) := by decide +kernel
theorem dX11_passesHour_0 : decode cX11_passesHour 0 = .ok (.aload_n 0, 1) := by decide +kernel
theorem dX11_passesHour_1 : decode cX11_passesHour 1 = .ok (.invokevirtual 274, 3) := by decide +kernel
theorem dX11_passesHour_4 : decode cX11_passesHour 4 = .ok (.iconst 0, 1) := by decide +kernel
theorem dX11_passesHour_5 : decode cX11_passesHour 5 = .ok (.istore_n 1, 1) := by decide +kernel
theorem dX11_passesHour_6 : decode cX11_passesHour 6 = .ok (.iconst 0, 1) := by decide +kernel
theorem dX11_passesHour_7 : decode cX11_passesHour 7 = .ok (.istore_n 2, 1) := by decide +kernel
theorem dX11_passesHour_8 : decode cX11_passesHour 8 = .ok (.iload_n 2, 1) := by decide +kernel
theorem dX11_passesHour_9 : decode cX11_passesHour 9 = .ok (.aload_n 0, 1) := by decide +kernel
theorem dX11_passesHour_10 : decode cX11_passesHour 10 = .ok (.invokevirtual 75, 3) := by decide +kernel
theorem dX11_passesHour_13 : decode cX11_passesHour 13 = .ok (.if_icmp .ge 25, 3) := by decide +kernel
theorem dX11_passesHour_16 : decode cX11_passesHour 16 = .ok (.aload_n 0, 1) := by decide +kernel
theorem dX11_passesHour_17 : decode cX11_passesHour 17 = .ok (.iload_n 2, 1) := by decide +kernel
theorem dX11_passesHour_18 : decode cX11_passesHour 18 = .ok (.invokevirtual 166, 3) := by decide +kernel
theorem dX11_passesHour_21 : decode cX11_passesHour 21 = .ok (.ifCond .eq 11, 3) := by decide +kernel
theorem dX11_passesHour_24 : decode cX11_passesHour 24 = .ok (.iload_n 1, 1) := by decide +kernel
theorem dX11_passesHour_25 : decode cX11_passesHour 25 = .ok (.aload_n 0, 1) := by decide +kernel
theorem dX11_passesHour_26 : decode cX11_passesHour 26 = .ok (.iload_n 2, 1) := by decide +kernel
theorem dX11_passesHour_27 : decode cX11_passesHour 27 = .ok (.invokevirtual 277, 3) := by decide +kernel
theorem dX11_passesHour_30 : decode cX11_passesHour 30 = .ok (.iadd, 1) := by decide +kernel
theorem dX11_passesHour_31 : decode cX11_passesHour 31 = .ok (.istore_n 1, 1) := by decide +kernel
theorem dX11_passesHour_32 : decode cX11_passesHour 32 = .ok (.iinc 2 1, 3) := by decide +kernel
theorem dX11_passesHour_35 : decode cX11_passesHour 35 = .ok (.goto (-27), 3) := by decide +kernel
theorem dX11_passesHour_38 : decode cX11_passesHour 38 = .ok (.aload_n 0, 1) := by decide +kernel
theorem dX11_passesHour_39 : decode cX11_passesHour 39 = .ok (.getfield 13, 3) := by decide +kernel
theorem dX11_passesHour_42 : decode cX11_passesHour 42 = .ok (.bipush 6, 2) := by decide +kernel
theorem dX11_passesHour_44 : decode cX11_passesHour 44 = .ok (.dup2, 1) := by decide +kernel
theorem dX11_passesHour_45 : decode cX11_passesHour 45 = .ok (.iaload, 1) := by decide +kernel
theorem dX11_passesHour_46 : decode cX11_passesHour 46 = .ok (.iconst 1, 1) := by decide +kernel
theorem dX11_passesHour_47 : decode cX11_passesHour 47 = .ok (.iadd, 1) := by decide +kernel
theorem dX11_passesHour_48 : decode cX11_passesHour 48 = .ok (.iastore, 1) := by decide +kernel
theorem dX11_passesHour_49 : decode cX11_passesHour 49 = .ok (.iload_n 1, 1) := by decide +kernel
theorem dX11_passesHour_50 : decode cX11_passesHour 50 = .ok (.ireturn, 1) := by decide +kernel
theorem dX11_noPlace_0 : decode cX11_noPlace 0 = .ok (.aload_n 0, 1) := by decide +kernel
theorem dX11_noPlace_1 : decode cX11_noPlace 1 = .ok (.iload_n 1, 1) := by decide +kernel
theorem dX11_noPlace_2 : decode cX11_noPlace 2 = .ok (.iconst 0, 1) := by decide +kernel
theorem dX11_noPlace_3 : decode cX11_noPlace 3 = .ok (.aload_n 0, 1) := by decide +kernel
theorem dX11_noPlace_4 : decode cX11_noPlace 4 = .ok (.invokevirtual 75, 3) := by decide +kernel
theorem dX11_noPlace_7 : decode cX11_noPlace 7 = .ok (.iconst 1, 1) := by decide +kernel
theorem dX11_noPlace_8 : decode cX11_noPlace 8 = .ok (.isub, 1) := by decide +kernel
theorem dX11_noPlace_9 : decode cX11_noPlace 9 = .ok (.invokestatic 79, 3) := by decide +kernel
theorem dX11_noPlace_12 : decode cX11_noPlace 12 = .ok (.ifCond .ne 7, 3) := by decide +kernel
theorem dX11_noPlace_15 : decode cX11_noPlace 15 = .ok (.iconst 1, 1) := by decide +kernel
theorem dX11_noPlace_16 : decode cX11_noPlace 16 = .ok (.goto 4, 3) := by decide +kernel
theorem dX11_noPlace_19 : decode cX11_noPlace 19 = .ok (.iconst 0, 1) := by decide +kernel
theorem dX11_noPlace_20 : decode cX11_noPlace 20 = .ok (.iconst 1, 1) := by decide +kernel
theorem dX11_noPlace_21 : decode cX11_noPlace 21 = .ok (.invokevirtual 215, 3) := by decide +kernel
theorem dX11_noPlace_24 : decode cX11_noPlace 24 = .ok (.ireturn, 1) := by decide +kernel
theorem dX11_noCarrier_0 : decode cX11_noCarrier 0 = .ok (.aload_n 0, 1) := by decide +kernel
theorem dX11_noCarrier_1 : decode cX11_noCarrier 1 = .ok (.iload_n 1, 1) := by decide +kernel
theorem dX11_noCarrier_2 : decode cX11_noCarrier 2 = .ok (.iconst 0, 1) := by decide +kernel
theorem dX11_noCarrier_3 : decode cX11_noCarrier 3 = .ok (.aload_n 0, 1) := by decide +kernel
theorem dX11_noCarrier_4 : decode cX11_noCarrier 4 = .ok (.invokevirtual 151, 3) := by decide +kernel
theorem dX11_noCarrier_7 : decode cX11_noCarrier 7 = .ok (.iconst 1, 1) := by decide +kernel
theorem dX11_noCarrier_8 : decode cX11_noCarrier 8 = .ok (.isub, 1) := by decide +kernel
theorem dX11_noCarrier_9 : decode cX11_noCarrier 9 = .ok (.invokestatic 79, 3) := by decide +kernel
theorem dX11_noCarrier_12 : decode cX11_noCarrier 12 = .ok (.ifCond .ne 7, 3) := by decide +kernel
theorem dX11_noCarrier_15 : decode cX11_noCarrier 15 = .ok (.iconst 1, 1) := by decide +kernel
theorem dX11_noCarrier_16 : decode cX11_noCarrier 16 = .ok (.goto 4, 3) := by decide +kernel
theorem dX11_noCarrier_19 : decode cX11_noCarrier 19 = .ok (.iconst 0, 1) := by decide +kernel
theorem dX11_noCarrier_20 : decode cX11_noCarrier 20 = .ok (.iconst 1, 1) := by decide +kernel
theorem dX11_noCarrier_21 : decode cX11_noCarrier 21 = .ok (.invokevirtual 215, 3) := by decide +kernel
theorem dX11_noCarrier_24 : decode cX11_noCarrier 24 = .ok (.ireturn, 1) := by decide +kernel
theorem dX11_noLetter_0 : decode cX11_noLetter 0 = .ok (.aload_n 0, 1) := by decide +kernel
theorem dX11_noLetter_1 : decode cX11_noLetter 1 = .ok (.iload_n 1, 1) := by decide +kernel
theorem dX11_noLetter_2 : decode cX11_noLetter 2 = .ok (.iconst 0, 1) := by decide +kernel
theorem dX11_noLetter_3 : decode cX11_noLetter 3 = .ok (.aload_n 0, 1) := by decide +kernel
theorem dX11_noLetter_4 : decode cX11_noLetter 4 = .ok (.invokevirtual 170, 3) := by decide +kernel
theorem dX11_noLetter_7 : decode cX11_noLetter 7 = .ok (.iconst 1, 1) := by decide +kernel
theorem dX11_noLetter_8 : decode cX11_noLetter 8 = .ok (.isub, 1) := by decide +kernel
theorem dX11_noLetter_9 : decode cX11_noLetter 9 = .ok (.invokestatic 79, 3) := by decide +kernel
theorem dX11_noLetter_12 : decode cX11_noLetter 12 = .ok (.ifCond .ne 7, 3) := by decide +kernel
theorem dX11_noLetter_15 : decode cX11_noLetter 15 = .ok (.iconst 1, 1) := by decide +kernel
theorem dX11_noLetter_16 : decode cX11_noLetter 16 = .ok (.goto 4, 3) := by decide +kernel
theorem dX11_noLetter_19 : decode cX11_noLetter 19 = .ok (.iconst 0, 1) := by decide +kernel
theorem dX11_noLetter_20 : decode cX11_noLetter 20 = .ok (.iconst 1, 1) := by decide +kernel
theorem dX11_noLetter_21 : decode cX11_noLetter 21 = .ok (.invokevirtual 215, 3) := by decide +kernel
theorem dX11_noLetter_24 : decode cX11_noLetter 24 = .ok (.ireturn, 1) := by decide +kernel
theorem dX11_noLost_0 : decode cX11_noLost 0 = .ok (.aload_n 0, 1) := by decide +kernel
theorem dX11_noLost_1 : decode cX11_noLost 1 = .ok (.iload_n 1, 1) := by decide +kernel
theorem dX11_noLost_2 : decode cX11_noLost 2 = .ok (.iconst 0, 1) := by decide +kernel
theorem dX11_noLost_3 : decode cX11_noLost 3 = .ok (.aload_n 0, 1) := by decide +kernel
theorem dX11_noLost_4 : decode cX11_noLost 4 = .ok (.getfield 13, 3) := by decide +kernel
theorem dX11_noLost_7 : decode cX11_noLost 7 = .ok (.iconst 3, 1) := by decide +kernel
theorem dX11_noLost_8 : decode cX11_noLost 8 = .ok (.iaload, 1) := by decide +kernel
theorem dX11_noLost_9 : decode cX11_noLost 9 = .ok (.iconst 1, 1) := by decide +kernel
theorem dX11_noLost_10 : decode cX11_noLost 10 = .ok (.isub, 1) := by decide +kernel
theorem dX11_noLost_11 : decode cX11_noLost 11 = .ok (.invokestatic 79, 3) := by decide +kernel
theorem dX11_noLost_14 : decode cX11_noLost 14 = .ok (.ifCond .ne 7, 3) := by decide +kernel
theorem dX11_noLost_17 : decode cX11_noLost 17 = .ok (.iconst 1, 1) := by decide +kernel
theorem dX11_noLost_18 : decode cX11_noLost 18 = .ok (.goto 4, 3) := by decide +kernel
theorem dX11_noLost_21 : decode cX11_noLost 21 = .ok (.iconst 0, 1) := by decide +kernel
theorem dX11_noLost_22 : decode cX11_noLost 22 = .ok (.iconst 1, 1) := by decide +kernel
theorem dX11_noLost_23 : decode cX11_noLost 23 = .ok (.invokevirtual 215, 3) := by decide +kernel
theorem dX11_noLost_26 : decode cX11_noLost 26 = .ok (.ireturn, 1) := by decide +kernel
theorem dX11_noPair_0 : decode cX11_noPair 0 = .ok (.aload_n 0, 1) := by decide +kernel
theorem dX11_noPair_1 : decode cX11_noPair 1 = .ok (.aload_n 0, 1) := by decide +kernel
theorem dX11_noPair_2 : decode cX11_noPair 2 = .ok (.iload_n 1, 1) := by decide +kernel
theorem dX11_noPair_3 : decode cX11_noPair 3 = .ok (.invokevirtual 166, 3) := by decide +kernel
theorem dX11_noPair_6 : decode cX11_noPair 6 = .ok (.ifCond .eq 16, 3) := by decide +kernel
theorem dX11_noPair_9 : decode cX11_noPair 9 = .ok (.aload_n 0, 1) := by decide +kernel
theorem dX11_noPair_10 : decode cX11_noPair 10 = .ok (.iload_n 2, 1) := by decide +kernel
theorem dX11_noPair_11 : decode cX11_noPair 11 = .ok (.invokevirtual 166, 3) := by decide +kernel
theorem dX11_noPair_14 : decode cX11_noPair 14 = .ok (.ifCond .eq 8, 3) := by decide +kernel
theorem dX11_noPair_17 : decode cX11_noPair 17 = .ok (.iload_n 1, 1) := by decide +kernel
theorem dX11_noPair_18 : decode cX11_noPair 18 = .ok (.iload_n 2, 1) := by decide +kernel
theorem dX11_noPair_19 : decode cX11_noPair 19 = .ok (.if_icmp .ne 7, 3) := by decide +kernel
theorem dX11_noPair_22 : decode cX11_noPair 22 = .ok (.iconst 1, 1) := by decide +kernel
theorem dX11_noPair_23 : decode cX11_noPair 23 = .ok (.goto 4, 3) := by decide +kernel
theorem dX11_noPair_26 : decode cX11_noPair 26 = .ok (.iconst 0, 1) := by decide +kernel
theorem dX11_noPair_27 : decode cX11_noPair 27 = .ok (.iconst 1, 1) := by decide +kernel
theorem dX11_noPair_28 : decode cX11_noPair 28 = .ok (.invokevirtual 215, 3) := by decide +kernel
theorem dX11_noPair_31 : decode cX11_noPair 31 = .ok (.ireturn, 1) := by decide +kernel
theorem dX11_villages_0 : decode cX11_villages 0 = .ok (.iconst 0, 1) := by decide +kernel
theorem dX11_villages_1 : decode cX11_villages 1 = .ok (.istore_n 1, 1) := by decide +kernel
theorem dX11_villages_2 : decode cX11_villages 2 = .ok (.iconst 0, 1) := by decide +kernel
theorem dX11_villages_3 : decode cX11_villages 3 = .ok (.istore_n 2, 1) := by decide +kernel
theorem dX11_villages_4 : decode cX11_villages 4 = .ok (.iload_n 2, 1) := by decide +kernel
theorem dX11_villages_5 : decode cX11_villages 5 = .ok (.aload_n 0, 1) := by decide +kernel
theorem dX11_villages_6 : decode cX11_villages 6 = .ok (.invokevirtual 75, 3) := by decide +kernel
theorem dX11_villages_9 : decode cX11_villages 9 = .ok (.if_icmp .ge 25, 3) := by decide +kernel
theorem dX11_villages_12 : decode cX11_villages 12 = .ok (.iload_n 1, 1) := by decide +kernel
theorem dX11_villages_13 : decode cX11_villages 13 = .ok (.aload_n 0, 1) := by decide +kernel
theorem dX11_villages_14 : decode cX11_villages 14 = .ok (.iload_n 2, 1) := by decide +kernel
theorem dX11_villages_15 : decode cX11_villages 15 = .ok (.invokevirtual 166, 3) := by decide +kernel
theorem dX11_villages_18 : decode cX11_villages 18 = .ok (.ifCond .eq 7, 3) := by decide +kernel
theorem dX11_villages_21 : decode cX11_villages 21 = .ok (.iconst 1, 1) := by decide +kernel
theorem dX11_villages_22 : decode cX11_villages 22 = .ok (.goto 4, 3) := by decide +kernel
theorem dX11_villages_25 : decode cX11_villages 25 = .ok (.iconst 0, 1) := by decide +kernel
theorem dX11_villages_26 : decode cX11_villages 26 = .ok (.iadd, 1) := by decide +kernel
theorem dX11_villages_27 : decode cX11_villages 27 = .ok (.istore_n 1, 1) := by decide +kernel
theorem dX11_villages_28 : decode cX11_villages 28 = .ok (.iinc 2 1, 3) := by decide +kernel
theorem dX11_villages_31 : decode cX11_villages 31 = .ok (.goto (-27), 3) := by decide +kernel
theorem dX11_villages_34 : decode cX11_villages 34 = .ok (.iload_n 1, 1) := by decide +kernel
theorem dX11_villages_35 : decode cX11_villages 35 = .ok (.ireturn, 1) := by decide +kernel
theorem dX11_count_0 : decode cX11_count 0 = .ok (.aload_n 0, 1) := by decide +kernel
theorem dX11_count_1 : decode cX11_count 1 = .ok (.iconst 0, 1) := by decide +kernel
theorem dX11_count_2 : decode cX11_count 2 = .ok (.putfield 3, 3) := by decide +kernel
theorem dX11_count_5 : decode cX11_count 5 = .ok (.aload_n 0, 1) := by decide +kernel
theorem dX11_count_6 : decode cX11_count 6 = .ok (.iload_n 1, 1) := by decide +kernel
theorem dX11_count_7 : decode cX11_count 7 = .ok (.iconst 0, 1) := by decide +kernel
theorem dX11_count_8 : decode cX11_count 8 = .ok (.bipush 8, 2) := by decide +kernel
theorem dX11_count_10 : decode cX11_count 10 = .ok (.invokestatic 79, 3) := by decide +kernel
theorem dX11_count_13 : decode cX11_count 13 = .ok (.ifCond .ne 7, 3) := by decide +kernel
theorem dX11_count_16 : decode cX11_count 16 = .ok (.iconst 1, 1) := by decide +kernel
theorem dX11_count_17 : decode cX11_count 17 = .ok (.goto 4, 3) := by decide +kernel
theorem dX11_count_20 : decode cX11_count 20 = .ok (.iconst 0, 1) := by decide +kernel
theorem dX11_count_21 : decode cX11_count 21 = .ok (.iconst 1, 1) := by decide +kernel
theorem dX11_count_22 : decode cX11_count 22 = .ok (.invokevirtual 215, 3) := by decide +kernel
theorem dX11_count_25 : decode cX11_count 25 = .ok (.ifCond .eq 5, 3) := by decide +kernel
theorem dX11_count_28 : decode cX11_count 28 = .ok (.iconst 0, 1) := by decide +kernel
theorem dX11_count_29 : decode cX11_count 29 = .ok (.ireturn, 1) := by decide +kernel
theorem dX11_count_30 : decode cX11_count 30 = .ok (.iload_n 1, 1) := by decide +kernel
theorem dX11_count_31 : decode cX11_count 31 = .ok (.tableswitch 94 0 7 #[45, 50, 55, 60, 65, 72, 79, 86], 45) := by decide +kernel
theorem dX11_count_76 : decode cX11_count 76 = .ok (.aload_n 0, 1) := by decide +kernel
theorem dX11_count_77 : decode cX11_count 77 = .ok (.invokevirtual 75, 3) := by decide +kernel
theorem dX11_count_80 : decode cX11_count 80 = .ok (.ireturn, 1) := by decide +kernel
theorem dX11_count_81 : decode cX11_count 81 = .ok (.aload_n 0, 1) := by decide +kernel
theorem dX11_count_82 : decode cX11_count 82 = .ok (.invokevirtual 280, 3) := by decide +kernel
theorem dX11_count_85 : decode cX11_count 85 = .ok (.ireturn, 1) := by decide +kernel
theorem dX11_count_86 : decode cX11_count 86 = .ok (.aload_n 0, 1) := by decide +kernel
theorem dX11_count_87 : decode cX11_count 87 = .ok (.invokevirtual 151, 3) := by decide +kernel
theorem dX11_count_90 : decode cX11_count 90 = .ok (.ireturn, 1) := by decide +kernel
theorem dX11_count_91 : decode cX11_count 91 = .ok (.aload_n 0, 1) := by decide +kernel
theorem dX11_count_92 : decode cX11_count 92 = .ok (.invokevirtual 170, 3) := by decide +kernel
theorem dX11_count_95 : decode cX11_count 95 = .ok (.ireturn, 1) := by decide +kernel
theorem dX11_count_96 : decode cX11_count 96 = .ok (.aload_n 0, 1) := by decide +kernel
theorem dX11_count_97 : decode cX11_count 97 = .ok (.getfield 13, 3) := by decide +kernel
theorem dX11_count_100 : decode cX11_count 100 = .ok (.iconst 3, 1) := by decide +kernel
theorem dX11_count_101 : decode cX11_count 101 = .ok (.iaload, 1) := by decide +kernel
theorem dX11_count_102 : decode cX11_count 102 = .ok (.ireturn, 1) := by decide +kernel
theorem dX11_count_103 : decode cX11_count 103 = .ok (.aload_n 0, 1) := by decide +kernel
theorem dX11_count_104 : decode cX11_count 104 = .ok (.getfield 13, 3) := by decide +kernel
theorem dX11_count_107 : decode cX11_count 107 = .ok (.iconst 4, 1) := by decide +kernel
theorem dX11_count_108 : decode cX11_count 108 = .ok (.iaload, 1) := by decide +kernel
theorem dX11_count_109 : decode cX11_count 109 = .ok (.ireturn, 1) := by decide +kernel
theorem dX11_count_110 : decode cX11_count 110 = .ok (.aload_n 0, 1) := by decide +kernel
theorem dX11_count_111 : decode cX11_count 111 = .ok (.getfield 13, 3) := by decide +kernel
theorem dX11_count_114 : decode cX11_count 114 = .ok (.iconst 5, 1) := by decide +kernel
theorem dX11_count_115 : decode cX11_count 115 = .ok (.iaload, 1) := by decide +kernel
theorem dX11_count_116 : decode cX11_count 116 = .ok (.ireturn, 1) := by decide +kernel
theorem dX11_count_117 : decode cX11_count 117 = .ok (.aload_n 0, 1) := by decide +kernel
theorem dX11_count_118 : decode cX11_count 118 = .ok (.getfield 13, 3) := by decide +kernel
theorem dX11_count_121 : decode cX11_count 121 = .ok (.bipush 6, 2) := by decide +kernel
theorem dX11_count_123 : decode cX11_count 123 = .ok (.iaload, 1) := by decide +kernel
theorem dX11_count_124 : decode cX11_count 124 = .ok (.ireturn, 1) := by decide +kernel
theorem dX11_count_125 : decode cX11_count 125 = .ok (.aload_n 0, 1) := by decide +kernel
theorem dX11_count_126 : decode cX11_count 126 = .ok (.getfield 13, 3) := by decide +kernel
theorem dX11_count_129 : decode cX11_count 129 = .ok (.bipush 7, 2) := by decide +kernel
theorem dX11_count_131 : decode cX11_count 131 = .ok (.iaload, 1) := by decide +kernel
theorem dX11_count_132 : decode cX11_count 132 = .ok (.ireturn, 1) := by decide +kernel
theorem dX11_isVillage_0 : decode cX11_isVillage 0 = .ok (.aload_n 0, 1) := by decide +kernel
theorem dX11_isVillage_1 : decode cX11_isVillage 1 = .ok (.iconst 0, 1) := by decide +kernel
theorem dX11_isVillage_2 : decode cX11_isVillage 2 = .ok (.putfield 3, 3) := by decide +kernel
theorem dX11_isVillage_5 : decode cX11_isVillage 5 = .ok (.aload_n 0, 1) := by decide +kernel
theorem dX11_isVillage_6 : decode cX11_isVillage 6 = .ok (.iload_n 1, 1) := by decide +kernel
theorem dX11_isVillage_7 : decode cX11_isVillage 7 = .ok (.invokevirtual 283, 3) := by decide +kernel
theorem dX11_isVillage_10 : decode cX11_isVillage 10 = .ok (.ifCond .ne 15, 3) := by decide +kernel
theorem dX11_isVillage_13 : decode cX11_isVillage 13 = .ok (.aload_n 0, 1) := by decide +kernel
theorem dX11_isVillage_14 : decode cX11_isVillage 14 = .ok (.iload_n 1, 1) := by decide +kernel
theorem dX11_isVillage_15 : decode cX11_isVillage 15 = .ok (.invokevirtual 166, 3) := by decide +kernel
theorem dX11_isVillage_18 : decode cX11_isVillage 18 = .ok (.ifCond .eq 7, 3) := by decide +kernel
theorem dX11_isVillage_21 : decode cX11_isVillage 21 = .ok (.iconst 1, 1) := by decide +kernel
theorem dX11_isVillage_22 : decode cX11_isVillage 22 = .ok (.goto 4, 3) := by decide +kernel
theorem dX11_isVillage_25 : decode cX11_isVillage 25 = .ok (.iconst 0, 1) := by decide +kernel
theorem dX11_isVillage_26 : decode cX11_isVillage 26 = .ok (.ireturn, 1) := by decide +kernel
theorem dX11_placeNamed_0 : decode cX11_placeNamed 0 = .ok (.aload_n 0, 1) := by decide +kernel
theorem dX11_placeNamed_1 : decode cX11_placeNamed 1 = .ok (.iconst 0, 1) := by decide +kernel
theorem dX11_placeNamed_2 : decode cX11_placeNamed 2 = .ok (.putfield 3, 3) := by decide +kernel
theorem dX11_placeNamed_5 : decode cX11_placeNamed 5 = .ok (.aload_n 0, 1) := by decide +kernel
theorem dX11_placeNamed_6 : decode cX11_placeNamed 6 = .ok (.getfield 89, 3) := by decide +kernel
theorem dX11_placeNamed_9 : decode cX11_placeNamed 9 = .ok (.istore_n 1, 1) := by decide +kernel
theorem dX11_placeNamed_10 : decode cX11_placeNamed 10 = .ok (.aload_n 0, 1) := by decide +kernel
theorem dX11_placeNamed_11 : decode cX11_placeNamed 11 = .ok (.iconst 0, 1) := by decide +kernel
theorem dX11_placeNamed_12 : decode cX11_placeNamed 12 = .ok (.putfield 89, 3) := by decide +kernel
theorem dX11_placeNamed_15 : decode cX11_placeNamed 15 = .ok (.iload_n 1, 1) := by decide +kernel
theorem dX11_placeNamed_16 : decode cX11_placeNamed 16 = .ok (.iconst 1, 1) := by decide +kernel
theorem dX11_placeNamed_17 : decode cX11_placeNamed 17 = .ok (.bipush 6, 2) := by decide +kernel
theorem dX11_placeNamed_19 : decode cX11_placeNamed 19 = .ok (.invokestatic 79, 3) := by decide +kernel
theorem dX11_placeNamed_22 : decode cX11_placeNamed 22 = .ok (.ifCond .ne 5, 3) := by decide +kernel
theorem dX11_placeNamed_25 : decode cX11_placeNamed 25 = .ok (.iconst (-1), 1) := by decide +kernel
theorem dX11_placeNamed_26 : decode cX11_placeNamed 26 = .ok (.ireturn, 1) := by decide +kernel
theorem dX11_placeNamed_27 : decode cX11_placeNamed 27 = .ok (.iconst 0, 1) := by decide +kernel
theorem dX11_placeNamed_28 : decode cX11_placeNamed 28 = .ok (.istore_n 2, 1) := by decide +kernel
theorem dX11_placeNamed_29 : decode cX11_placeNamed 29 = .ok (.iconst 0, 1) := by decide +kernel
theorem dX11_placeNamed_30 : decode cX11_placeNamed 30 = .ok (.istore_n 3, 1) := by decide +kernel
theorem dX11_placeNamed_31 : decode cX11_placeNamed 31 = .ok (.iload_n 3, 1) := by decide +kernel
theorem dX11_placeNamed_32 : decode cX11_placeNamed 32 = .ok (.iload_n 1, 1) := by decide +kernel
theorem dX11_placeNamed_33 : decode cX11_placeNamed 33 = .ok (.if_icmp .ge 44, 3) := by decide +kernel
theorem dX11_placeNamed_36 : decode cX11_placeNamed 36 = .ok (.aload_n 0, 1) := by decide +kernel
theorem dX11_placeNamed_37 : decode cX11_placeNamed 37 = .ok (.getfield 23, 3) := by decide +kernel
theorem dX11_placeNamed_40 : decode cX11_placeNamed 40 = .ok (.iload_n 3, 1) := by decide +kernel
theorem dX11_placeNamed_41 : decode cX11_placeNamed 41 = .ok (.baload, 1) := by decide +kernel
theorem dX11_placeNamed_42 : decode cX11_placeNamed 42 = .ok (.bipush 97, 2) := by decide +kernel
theorem dX11_placeNamed_44 : decode cX11_placeNamed 44 = .ok (.bipush 122, 2) := by decide +kernel
theorem dX11_placeNamed_46 : decode cX11_placeNamed 46 = .ok (.invokestatic 79, 3) := by decide +kernel
theorem dX11_placeNamed_49 : decode cX11_placeNamed 49 = .ok (.ifCond .ne 5, 3) := by decide +kernel
theorem dX11_placeNamed_52 : decode cX11_placeNamed 52 = .ok (.iconst (-1), 1) := by decide +kernel
theorem dX11_placeNamed_53 : decode cX11_placeNamed 53 = .ok (.ireturn, 1) := by decide +kernel
theorem dX11_placeNamed_54 : decode cX11_placeNamed 54 = .ok (.bipush 27, 2) := by decide +kernel
theorem dX11_placeNamed_56 : decode cX11_placeNamed 56 = .ok (.iload_n 2, 1) := by decide +kernel
theorem dX11_placeNamed_57 : decode cX11_placeNamed 57 = .ok (.imul, 1) := by decide +kernel
theorem dX11_placeNamed_58 : decode cX11_placeNamed 58 = .ok (.aload_n 0, 1) := by decide +kernel
theorem dX11_placeNamed_59 : decode cX11_placeNamed 59 = .ok (.getfield 23, 3) := by decide +kernel
theorem dX11_placeNamed_62 : decode cX11_placeNamed 62 = .ok (.iload_n 3, 1) := by decide +kernel
theorem dX11_placeNamed_63 : decode cX11_placeNamed 63 = .ok (.baload, 1) := by decide +kernel
theorem dX11_placeNamed_64 : decode cX11_placeNamed 64 = .ok (.iadd, 1) := by decide +kernel
theorem dX11_placeNamed_65 : decode cX11_placeNamed 65 = .ok (.bipush 97, 2) := by decide +kernel
theorem dX11_placeNamed_67 : decode cX11_placeNamed 67 = .ok (.isub, 1) := by decide +kernel
theorem dX11_placeNamed_68 : decode cX11_placeNamed 68 = .ok (.iconst 1, 1) := by decide +kernel
theorem dX11_placeNamed_69 : decode cX11_placeNamed 69 = .ok (.iadd, 1) := by decide +kernel
theorem dX11_placeNamed_70 : decode cX11_placeNamed 70 = .ok (.istore_n 2, 1) := by decide +kernel
theorem dX11_placeNamed_71 : decode cX11_placeNamed 71 = .ok (.iinc 3 1, 3) := by decide +kernel
theorem dX11_placeNamed_74 : decode cX11_placeNamed 74 = .ok (.goto (-43), 3) := by decide +kernel
theorem dX11_placeNamed_77 : decode cX11_placeNamed 77 = .ok (.aload_n 0, 1) := by decide +kernel
theorem dX11_placeNamed_78 : decode cX11_placeNamed 78 = .ok (.bipush 18, 2) := by decide +kernel
theorem dX11_placeNamed_80 : decode cX11_placeNamed 80 = .ok (.aload_n 0, 1) := by decide +kernel
theorem dX11_placeNamed_81 : decode cX11_placeNamed 81 = .ok (.invokevirtual 75, 3) := by decide +kernel
theorem dX11_placeNamed_84 : decode cX11_placeNamed 84 = .ok (.iload_n 2, 1) := by decide +kernel
theorem dX11_placeNamed_85 : decode cX11_placeNamed 85 = .ok (.invokevirtual 140, 3) := by decide +kernel
theorem dX11_placeNamed_88 : decode cX11_placeNamed 88 = .ok (.ireturn, 1) := by decide +kernel
theorem dX11_stop_0 : decode cX11_stop 0 = .ok (.aload_n 0, 1) := by decide +kernel
theorem dX11_stop_1 : decode cX11_stop 1 = .ok (.iconst 0, 1) := by decide +kernel
theorem dX11_stop_2 : decode cX11_stop 2 = .ok (.putfield 3, 3) := by decide +kernel
theorem dX11_stop_5 : decode cX11_stop 5 = .ok (.aload_n 0, 1) := by decide +kernel
theorem dX11_stop_6 : decode cX11_stop 6 = .ok (.iload_n 1, 1) := by decide +kernel
theorem dX11_stop_7 : decode cX11_stop 7 = .ok (.invokevirtual 286, 3) := by decide +kernel
theorem dX11_stop_10 : decode cX11_stop 10 = .ok (.ifCond .ne 26, 3) := by decide +kernel
theorem dX11_stop_13 : decode cX11_stop 13 = .ok (.aload_n 0, 1) := by decide +kernel
theorem dX11_stop_14 : decode cX11_stop 14 = .ok (.iload_n 2, 1) := by decide +kernel
theorem dX11_stop_15 : decode cX11_stop 15 = .ok (.iconst 0, 1) := by decide +kernel
theorem dX11_stop_16 : decode cX11_stop 16 = .ok (.bipush 6, 2) := by decide +kernel
theorem dX11_stop_18 : decode cX11_stop 18 = .ok (.invokestatic 79, 3) := by decide +kernel
theorem dX11_stop_21 : decode cX11_stop 21 = .ok (.ifCond .ne 7, 3) := by decide +kernel
theorem dX11_stop_24 : decode cX11_stop 24 = .ok (.iconst 1, 1) := by decide +kernel
theorem dX11_stop_25 : decode cX11_stop 25 = .ok (.goto 4, 3) := by decide +kernel
theorem dX11_stop_28 : decode cX11_stop 28 = .ok (.iconst 0, 1) := by decide +kernel
theorem dX11_stop_29 : decode cX11_stop 29 = .ok (.iconst 2, 1) := by decide +kernel
theorem dX11_stop_30 : decode cX11_stop 30 = .ok (.invokevirtual 215, 3) := by decide +kernel
theorem dX11_stop_33 : decode cX11_stop 33 = .ok (.ifCond .eq 5, 3) := by decide +kernel
theorem dX11_stop_36 : decode cX11_stop 36 = .ok (.iconst 0, 1) := by decide +kernel
theorem dX11_stop_37 : decode cX11_stop 37 = .ok (.ireturn, 1) := by decide +kernel
theorem dX11_stop_38 : decode cX11_stop 38 = .ok (.aload_n 0, 1) := by decide +kernel
theorem dX11_stop_39 : decode cX11_stop 39 = .ok (.iload_n 1, 1) := by decide +kernel
theorem dX11_stop_40 : decode cX11_stop 40 = .ok (.iload_n 2, 1) := by decide +kernel
theorem dX11_stop_41 : decode cX11_stop 41 = .ok (.invokevirtual 83, 3) := by decide +kernel
theorem dX11_stop_44 : decode cX11_stop 44 = .ok (.istore 4, 2) := by decide +kernel
theorem dX11_stop_46 : decode cX11_stop 46 = .ok (.iload_n 3, 1) := by decide +kernel
theorem dX11_stop_47 : decode cX11_stop 47 = .ok (.iconst 0, 1) := by decide +kernel
theorem dX11_stop_48 : decode cX11_stop 48 = .ok (.aload_n 0, 1) := by decide +kernel
theorem dX11_stop_49 : decode cX11_stop 49 = .ok (.getfield 13, 3) := by decide +kernel
theorem dX11_stop_52 : decode cX11_stop 52 = .ok (.iload 4, 2) := by decide +kernel
theorem dX11_stop_54 : decode cX11_stop 54 = .ok (.iaload, 1) := by decide +kernel
theorem dX11_stop_55 : decode cX11_stop 55 = .ok (.iconst 1, 1) := by decide +kernel
theorem dX11_stop_56 : decode cX11_stop 56 = .ok (.isub, 1) := by decide +kernel
theorem dX11_stop_57 : decode cX11_stop 57 = .ok (.invokestatic 79, 3) := by decide +kernel
theorem dX11_stop_60 : decode cX11_stop 60 = .ok (.ifCond .eq 36, 3) := by decide +kernel
theorem dX11_stop_63 : decode cX11_stop 63 = .ok (.bipush 100, 2) := by decide +kernel
theorem dX11_stop_65 : decode cX11_stop 65 = .ok (.aload_n 0, 1) := by decide +kernel
theorem dX11_stop_66 : decode cX11_stop 66 = .ok (.getfield 13, 3) := by decide +kernel
theorem dX11_stop_69 : decode cX11_stop 69 = .ok (.iload 4, 2) := by decide +kernel
theorem dX11_stop_71 : decode cX11_stop 71 = .ok (.iconst 1, 1) := by decide +kernel
theorem dX11_stop_72 : decode cX11_stop 72 = .ok (.iadd, 1) := by decide +kernel
theorem dX11_stop_73 : decode cX11_stop 73 = .ok (.iconst 2, 1) := by decide +kernel
theorem dX11_stop_74 : decode cX11_stop 74 = .ok (.iload_n 3, 1) := by decide +kernel
theorem dX11_stop_75 : decode cX11_stop 75 = .ok (.imul, 1) := by decide +kernel
theorem dX11_stop_76 : decode cX11_stop 76 = .ok (.iadd, 1) := by decide +kernel
theorem dX11_stop_77 : decode cX11_stop 77 = .ok (.iaload, 1) := by decide +kernel
theorem dX11_stop_78 : decode cX11_stop 78 = .ok (.imul, 1) := by decide +kernel
theorem dX11_stop_79 : decode cX11_stop 79 = .ok (.aload_n 0, 1) := by decide +kernel
theorem dX11_stop_80 : decode cX11_stop 80 = .ok (.getfield 13, 3) := by decide +kernel
theorem dX11_stop_83 : decode cX11_stop 83 = .ok (.iload 4, 2) := by decide +kernel
theorem dX11_stop_85 : decode cX11_stop 85 = .ok (.iconst 2, 1) := by decide +kernel
theorem dX11_stop_86 : decode cX11_stop 86 = .ok (.iadd, 1) := by decide +kernel
theorem dX11_stop_87 : decode cX11_stop 87 = .ok (.iconst 2, 1) := by decide +kernel
theorem dX11_stop_88 : decode cX11_stop 88 = .ok (.iload_n 3, 1) := by decide +kernel
theorem dX11_stop_89 : decode cX11_stop 89 = .ok (.imul, 1) := by decide +kernel
theorem dX11_stop_90 : decode cX11_stop 90 = .ok (.iadd, 1) := by decide +kernel
theorem dX11_stop_91 : decode cX11_stop 91 = .ok (.iaload, 1) := by decide +kernel
theorem dX11_stop_92 : decode cX11_stop 92 = .ok (.iadd, 1) := by decide +kernel
theorem dX11_stop_93 : decode cX11_stop 93 = .ok (.goto 4, 3) := by decide +kernel
theorem dX11_stop_96 : decode cX11_stop 96 = .ok (.iconst (-1), 1) := by decide +kernel
theorem dX11_stop_97 : decode cX11_stop 97 = .ok (.ireturn, 1) := by decide +kernel
theorem dX11_placeOf_0 : decode cX11_placeOf 0 = .ok (.aload_n 0, 1) := by decide +kernel
theorem dX11_placeOf_1 : decode cX11_placeOf 1 = .ok (.iconst 0, 1) := by decide +kernel
theorem dX11_placeOf_2 : decode cX11_placeOf 2 = .ok (.putfield 3, 3) := by decide +kernel
theorem dX11_placeOf_5 : decode cX11_placeOf 5 = .ok (.aload_n 0, 1) := by decide +kernel
theorem dX11_placeOf_6 : decode cX11_placeOf 6 = .ok (.iload_n 1, 1) := by decide +kernel
theorem dX11_placeOf_7 : decode cX11_placeOf 7 = .ok (.invokevirtual 286, 3) := by decide +kernel
theorem dX11_placeOf_10 : decode cX11_placeOf 10 = .ok (.ifCond .eq 7, 3) := by decide +kernel
theorem dX11_placeOf_13 : decode cX11_placeOf 13 = .ok (.iconst 0, 1) := by decide +kernel
theorem dX11_placeOf_14 : decode cX11_placeOf 14 = .ok (.goto 15, 3) := by decide +kernel
theorem dX11_placeOf_17 : decode cX11_placeOf 17 = .ok (.aload_n 0, 1) := by decide +kernel
theorem dX11_placeOf_18 : decode cX11_placeOf 18 = .ok (.iload_n 1, 1) := by decide +kernel
theorem dX11_placeOf_19 : decode cX11_placeOf 19 = .ok (.aload_n 0, 1) := by decide +kernel
theorem dX11_placeOf_20 : decode cX11_placeOf 20 = .ok (.getfield 13, 3) := by decide +kernel
theorem dX11_placeOf_23 : decode cX11_placeOf 23 = .ok (.bipush 6, 2) := by decide +kernel
theorem dX11_placeOf_25 : decode cX11_placeOf 25 = .ok (.iaload, 1) := by decide +kernel
theorem dX11_placeOf_26 : decode cX11_placeOf 26 = .ok (.invokevirtual 228, 3) := by decide +kernel
theorem dX11_placeOf_29 : decode cX11_placeOf 29 = .ok (.ireturn, 1) := by decide +kernel
theorem dX11_nextStop_0 : decode cX11_nextStop 0 = .ok (.aload_n 0, 1) := by decide +kernel
theorem dX11_nextStop_1 : decode cX11_nextStop 1 = .ok (.iconst 0, 1) := by decide +kernel
theorem dX11_nextStop_2 : decode cX11_nextStop 2 = .ok (.putfield 3, 3) := by decide +kernel
theorem dX11_nextStop_5 : decode cX11_nextStop 5 = .ok (.aload_n 0, 1) := by decide +kernel
theorem dX11_nextStop_6 : decode cX11_nextStop 6 = .ok (.iload_n 1, 1) := by decide +kernel
theorem dX11_nextStop_7 : decode cX11_nextStop 7 = .ok (.invokevirtual 286, 3) := by decide +kernel
theorem dX11_nextStop_10 : decode cX11_nextStop 10 = .ok (.ifCond .eq 5, 3) := by decide +kernel
theorem dX11_nextStop_13 : decode cX11_nextStop 13 = .ok (.iconst 0, 1) := by decide +kernel
theorem dX11_nextStop_14 : decode cX11_nextStop 14 = .ok (.ireturn, 1) := by decide +kernel
theorem dX11_nextStop_15 : decode cX11_nextStop 15 = .ok (.iconst 0, 1) := by decide +kernel
theorem dX11_nextStop_16 : decode cX11_nextStop 16 = .ok (.istore_n 2, 1) := by decide +kernel
theorem dX11_nextStop_17 : decode cX11_nextStop 17 = .ok (.iload_n 2, 1) := by decide +kernel
theorem dX11_nextStop_18 : decode cX11_nextStop 18 = .ok (.sipush 168, 3) := by decide +kernel
theorem dX11_nextStop_21 : decode cX11_nextStop 21 = .ok (.if_icmp .ge 29, 3) := by decide +kernel
theorem dX11_nextStop_24 : decode cX11_nextStop 24 = .ok (.aload_n 0, 1) := by decide +kernel
theorem dX11_nextStop_25 : decode cX11_nextStop 25 = .ok (.iload_n 1, 1) := by decide +kernel
theorem dX11_nextStop_26 : decode cX11_nextStop 26 = .ok (.aload_n 0, 1) := by decide +kernel
theorem dX11_nextStop_27 : decode cX11_nextStop 27 = .ok (.getfield 13, 3) := by decide +kernel
theorem dX11_nextStop_30 : decode cX11_nextStop 30 = .ok (.bipush 6, 2) := by decide +kernel
theorem dX11_nextStop_32 : decode cX11_nextStop 32 = .ok (.iaload, 1) := by decide +kernel
theorem dX11_nextStop_33 : decode cX11_nextStop 33 = .ok (.iload_n 2, 1) := by decide +kernel
theorem dX11_nextStop_34 : decode cX11_nextStop 34 = .ok (.iadd, 1) := by decide +kernel
theorem dX11_nextStop_35 : decode cX11_nextStop 35 = .ok (.invokevirtual 86, 3) := by decide +kernel
theorem dX11_nextStop_38 : decode cX11_nextStop 38 = .ok (.iconst (-1), 1) := by decide +kernel
theorem dX11_nextStop_39 : decode cX11_nextStop 39 = .ok (.if_icmp .eq 5, 3) := by decide +kernel
theorem dX11_nextStop_42 : decode cX11_nextStop 42 = .ok (.iload_n 2, 1) := by decide +kernel
theorem dX11_nextStop_43 : decode cX11_nextStop 43 = .ok (.ireturn, 1) := by decide +kernel
theorem dX11_nextStop_44 : decode cX11_nextStop 44 = .ok (.iinc 2 1, 3) := by decide +kernel
theorem dX11_nextStop_47 : decode cX11_nextStop 47 = .ok (.goto (-30), 3) := by decide +kernel
theorem dX11_nextStop_50 : decode cX11_nextStop 50 = .ok (.iconst (-1), 1) := by decide +kernel
theorem dX11_nextStop_51 : decode cX11_nextStop 51 = .ok (.ireturn, 1) := by decide +kernel
theorem dX11_isOnStrike_0 : decode cX11_isOnStrike 0 = .ok (.aload_n 0, 1) := by decide +kernel
theorem dX11_isOnStrike_1 : decode cX11_isOnStrike 1 = .ok (.iconst 0, 1) := by decide +kernel
theorem dX11_isOnStrike_2 : decode cX11_isOnStrike 2 = .ok (.putfield 3, 3) := by decide +kernel
theorem dX11_isOnStrike_5 : decode cX11_isOnStrike 5 = .ok (.aload_n 0, 1) := by decide +kernel
theorem dX11_isOnStrike_6 : decode cX11_isOnStrike 6 = .ok (.iload_n 1, 1) := by decide +kernel
theorem dX11_isOnStrike_7 : decode cX11_isOnStrike 7 = .ok (.invokevirtual 286, 3) := by decide +kernel
theorem dX11_isOnStrike_10 : decode cX11_isOnStrike 10 = .ok (.ifCond .ne 20, 3) := by decide +kernel
theorem dX11_isOnStrike_13 : decode cX11_isOnStrike 13 = .ok (.aload_n 0, 1) := by decide +kernel
theorem dX11_isOnStrike_14 : decode cX11_isOnStrike 14 = .ok (.getfield 13, 3) := by decide +kernel
theorem dX11_isOnStrike_17 : decode cX11_isOnStrike 17 = .ok (.bipush 38, 2) := by decide +kernel
theorem dX11_isOnStrike_19 : decode cX11_isOnStrike 19 = .ok (.iload_n 1, 1) := by decide +kernel
theorem dX11_isOnStrike_20 : decode cX11_isOnStrike 20 = .ok (.iadd, 1) := by decide +kernel
theorem dX11_isOnStrike_21 : decode cX11_isOnStrike 21 = .ok (.iaload, 1) := by decide +kernel
theorem dX11_isOnStrike_22 : decode cX11_isOnStrike 22 = .ok (.iconst 1, 1) := by decide +kernel
theorem dX11_isOnStrike_23 : decode cX11_isOnStrike 23 = .ok (.if_icmp .ne 7, 3) := by decide +kernel
theorem dX11_isOnStrike_26 : decode cX11_isOnStrike 26 = .ok (.iconst 1, 1) := by decide +kernel
theorem dX11_isOnStrike_27 : decode cX11_isOnStrike 27 = .ok (.goto 4, 3) := by decide +kernel
theorem dX11_isOnStrike_30 : decode cX11_isOnStrike 30 = .ok (.iconst 0, 1) := by decide +kernel
theorem dX11_isOnStrike_31 : decode cX11_isOnStrike 31 = .ok (.ireturn, 1) := by decide +kernel
theorem dX11_carriersAt_0 : decode cX11_carriersAt 0 = .ok (.aload_n 0, 1) := by decide +kernel
theorem dX11_carriersAt_1 : decode cX11_carriersAt 1 = .ok (.iconst 0, 1) := by decide +kernel
theorem dX11_carriersAt_2 : decode cX11_carriersAt 2 = .ok (.putfield 3, 3) := by decide +kernel
theorem dX11_carriersAt_5 : decode cX11_carriersAt 5 = .ok (.aload_n 0, 1) := by decide +kernel
theorem dX11_carriersAt_6 : decode cX11_carriersAt 6 = .ok (.iload_n 1, 1) := by decide +kernel
theorem dX11_carriersAt_7 : decode cX11_carriersAt 7 = .ok (.invokevirtual 283, 3) := by decide +kernel
theorem dX11_carriersAt_10 : decode cX11_carriersAt 10 = .ok (.ifCond .eq 5, 3) := by decide +kernel
theorem dX11_carriersAt_13 : decode cX11_carriersAt 13 = .ok (.iconst 0, 1) := by decide +kernel
theorem dX11_carriersAt_14 : decode cX11_carriersAt 14 = .ok (.ireturn, 1) := by decide +kernel
theorem dX11_carriersAt_15 : decode cX11_carriersAt 15 = .ok (.iconst 0, 1) := by decide +kernel
theorem dX11_carriersAt_16 : decode cX11_carriersAt 16 = .ok (.istore_n 2, 1) := by decide +kernel
theorem dX11_carriersAt_17 : decode cX11_carriersAt 17 = .ok (.iconst 0, 1) := by decide +kernel
theorem dX11_carriersAt_18 : decode cX11_carriersAt 18 = .ok (.istore_n 3, 1) := by decide +kernel
theorem dX11_carriersAt_19 : decode cX11_carriersAt 19 = .ok (.iload_n 3, 1) := by decide +kernel
theorem dX11_carriersAt_20 : decode cX11_carriersAt 20 = .ok (.aload_n 0, 1) := by decide +kernel
theorem dX11_carriersAt_21 : decode cX11_carriersAt 21 = .ok (.invokevirtual 151, 3) := by decide +kernel
theorem dX11_carriersAt_24 : decode cX11_carriersAt 24 = .ok (.if_icmp .ge 47, 3) := by decide +kernel
theorem dX11_carriersAt_27 : decode cX11_carriersAt 27 = .ok (.iconst 0, 1) := by decide +kernel
theorem dX11_carriersAt_28 : decode cX11_carriersAt 28 = .ok (.istore 4, 2) := by decide +kernel
theorem dX11_carriersAt_30 : decode cX11_carriersAt 30 = .ok (.iload 4, 2) := by decide +kernel
theorem dX11_carriersAt_32 : decode cX11_carriersAt 32 = .ok (.sipush 168, 3) := by decide +kernel
theorem dX11_carriersAt_35 : decode cX11_carriersAt 35 = .ok (.if_icmp .ge 30, 3) := by decide +kernel
theorem dX11_carriersAt_38 : decode cX11_carriersAt 38 = .ok (.iload_n 2, 1) := by decide +kernel
theorem dX11_carriersAt_39 : decode cX11_carriersAt 39 = .ok (.aload_n 0, 1) := by decide +kernel
theorem dX11_carriersAt_40 : decode cX11_carriersAt 40 = .ok (.iload_n 3, 1) := by decide +kernel
theorem dX11_carriersAt_41 : decode cX11_carriersAt 41 = .ok (.iload 4, 2) := by decide +kernel
theorem dX11_carriersAt_43 : decode cX11_carriersAt 43 = .ok (.invokevirtual 86, 3) := by decide +kernel
theorem dX11_carriersAt_46 : decode cX11_carriersAt 46 = .ok (.iload_n 1, 1) := by decide +kernel
theorem dX11_carriersAt_47 : decode cX11_carriersAt 47 = .ok (.if_icmp .ne 9, 3) := by decide +kernel
theorem dX11_carriersAt_50 : decode cX11_carriersAt 50 = .ok (.iconst 1, 1) := by decide +kernel
theorem dX11_carriersAt_51 : decode cX11_carriersAt 51 = .ok (.iload_n 3, 1) := by decide +kernel
theorem dX11_carriersAt_52 : decode cX11_carriersAt 52 = .ok (.ishl, 1) := by decide +kernel
theorem dX11_carriersAt_53 : decode cX11_carriersAt 53 = .ok (.goto 4, 3) := by decide +kernel
theorem dX11_carriersAt_56 : decode cX11_carriersAt 56 = .ok (.iconst 0, 1) := by decide +kernel
theorem dX11_carriersAt_57 : decode cX11_carriersAt 57 = .ok (.ior, 1) := by decide +kernel
theorem dX11_carriersAt_58 : decode cX11_carriersAt 58 = .ok (.istore_n 2, 1) := by decide +kernel
theorem dX11_carriersAt_59 : decode cX11_carriersAt 59 = .ok (.iinc 4 1, 3) := by decide +kernel
theorem dX11_carriersAt_62 : decode cX11_carriersAt 62 = .ok (.goto (-32), 3) := by decide +kernel
theorem dX11_carriersAt_65 : decode cX11_carriersAt 65 = .ok (.iinc 3 1, 3) := by decide +kernel
theorem dX11_carriersAt_68 : decode cX11_carriersAt 68 = .ok (.goto (-49), 3) := by decide +kernel
theorem dX11_carriersAt_71 : decode cX11_carriersAt 71 = .ok (.iload_n 2, 1) := by decide +kernel
theorem dX11_carriersAt_72 : decode cX11_carriersAt 72 = .ok (.ireturn, 1) := by decide +kernel
theorem dX11_meetings_0 : decode cX11_meetings 0 = .ok (.aload_n 0, 1) := by decide +kernel
theorem dX11_meetings_1 : decode cX11_meetings 1 = .ok (.iconst 0, 1) := by decide +kernel
theorem dX11_meetings_2 : decode cX11_meetings 2 = .ok (.putfield 3, 3) := by decide +kernel
theorem dX11_meetings_5 : decode cX11_meetings 5 = .ok (.iconst 0, 1) := by decide +kernel
theorem dX11_meetings_6 : decode cX11_meetings 6 = .ok (.istore_n 1, 1) := by decide +kernel
theorem dX11_meetings_7 : decode cX11_meetings 7 = .ok (.iconst 0, 1) := by decide +kernel
theorem dX11_meetings_8 : decode cX11_meetings 8 = .ok (.istore_n 2, 1) := by decide +kernel
theorem dX11_meetings_9 : decode cX11_meetings 9 = .ok (.iload_n 2, 1) := by decide +kernel
theorem dX11_meetings_10 : decode cX11_meetings 10 = .ok (.sipush 168, 3) := by decide +kernel
theorem dX11_meetings_13 : decode cX11_meetings 13 = .ok (.if_icmp .ge 89, 3) := by decide +kernel
theorem dX11_meetings_16 : decode cX11_meetings 16 = .ok (.iconst 0, 1) := by decide +kernel
theorem dX11_meetings_17 : decode cX11_meetings 17 = .ok (.istore_n 3, 1) := by decide +kernel
theorem dX11_meetings_18 : decode cX11_meetings 18 = .ok (.iload_n 3, 1) := by decide +kernel
theorem dX11_meetings_19 : decode cX11_meetings 19 = .ok (.aload_n 0, 1) := by decide +kernel
theorem dX11_meetings_20 : decode cX11_meetings 20 = .ok (.invokevirtual 75, 3) := by decide +kernel
theorem dX11_meetings_23 : decode cX11_meetings 23 = .ok (.if_icmp .ge 73, 3) := by decide +kernel
theorem dX11_meetings_26 : decode cX11_meetings 26 = .ok (.iconst 0, 1) := by decide +kernel
theorem dX11_meetings_27 : decode cX11_meetings 27 = .ok (.istore 4, 2) := by decide +kernel
theorem dX11_meetings_29 : decode cX11_meetings 29 = .ok (.iconst 0, 1) := by decide +kernel
theorem dX11_meetings_30 : decode cX11_meetings 30 = .ok (.istore 5, 2) := by decide +kernel
theorem dX11_meetings_32 : decode cX11_meetings 32 = .ok (.iload 5, 2) := by decide +kernel
theorem dX11_meetings_34 : decode cX11_meetings 34 = .ok (.aload_n 0, 1) := by decide +kernel
theorem dX11_meetings_35 : decode cX11_meetings 35 = .ok (.invokevirtual 151, 3) := by decide +kernel
theorem dX11_meetings_38 : decode cX11_meetings 38 = .ok (.if_icmp .ge 38, 3) := by decide +kernel
theorem dX11_meetings_41 : decode cX11_meetings 41 = .ok (.aload_n 0, 1) := by decide +kernel
theorem dX11_meetings_42 : decode cX11_meetings 42 = .ok (.iload_n 3, 1) := by decide +kernel
theorem dX11_meetings_43 : decode cX11_meetings 43 = .ok (.invokevirtual 166, 3) := by decide +kernel
theorem dX11_meetings_46 : decode cX11_meetings 46 = .ok (.ifCond .ne 30, 3) := by decide +kernel
theorem dX11_meetings_49 : decode cX11_meetings 49 = .ok (.iload 4, 2) := by decide +kernel
theorem dX11_meetings_51 : decode cX11_meetings 51 = .ok (.aload_n 0, 1) := by decide +kernel
theorem dX11_meetings_52 : decode cX11_meetings 52 = .ok (.iload 5, 2) := by decide +kernel
theorem dX11_meetings_54 : decode cX11_meetings 54 = .ok (.iload_n 2, 1) := by decide +kernel
theorem dX11_meetings_55 : decode cX11_meetings 55 = .ok (.invokevirtual 86, 3) := by decide +kernel
theorem dX11_meetings_58 : decode cX11_meetings 58 = .ok (.iload_n 3, 1) := by decide +kernel
theorem dX11_meetings_59 : decode cX11_meetings 59 = .ok (.if_icmp .ne 7, 3) := by decide +kernel
theorem dX11_meetings_62 : decode cX11_meetings 62 = .ok (.iconst 1, 1) := by decide +kernel
theorem dX11_meetings_63 : decode cX11_meetings 63 = .ok (.goto 4, 3) := by decide +kernel
theorem dX11_meetings_66 : decode cX11_meetings 66 = .ok (.iconst 0, 1) := by decide +kernel
theorem dX11_meetings_67 : decode cX11_meetings 67 = .ok (.iadd, 1) := by decide +kernel
theorem dX11_meetings_68 : decode cX11_meetings 68 = .ok (.istore 4, 2) := by decide +kernel
theorem dX11_meetings_70 : decode cX11_meetings 70 = .ok (.iinc 5 1, 3) := by decide +kernel
theorem dX11_meetings_73 : decode cX11_meetings 73 = .ok (.goto (-41), 3) := by decide +kernel
theorem dX11_meetings_76 : decode cX11_meetings 76 = .ok (.iload_n 1, 1) := by decide +kernel
theorem dX11_meetings_77 : decode cX11_meetings 77 = .ok (.iload 4, 2) := by decide +kernel
theorem dX11_meetings_79 : decode cX11_meetings 79 = .ok (.iconst 1, 1) := by decide +kernel
theorem dX11_meetings_80 : decode cX11_meetings 80 = .ok (.if_icmp .le 7, 3) := by decide +kernel
theorem dX11_meetings_83 : decode cX11_meetings 83 = .ok (.iconst 1, 1) := by decide +kernel
theorem dX11_meetings_84 : decode cX11_meetings 84 = .ok (.goto 4, 3) := by decide +kernel
theorem dX11_meetings_87 : decode cX11_meetings 87 = .ok (.iconst 0, 1) := by decide +kernel
theorem dX11_meetings_88 : decode cX11_meetings 88 = .ok (.iadd, 1) := by decide +kernel
theorem dX11_meetings_89 : decode cX11_meetings 89 = .ok (.istore_n 1, 1) := by decide +kernel
theorem dX11_meetings_90 : decode cX11_meetings 90 = .ok (.iinc 3 1, 3) := by decide +kernel
theorem dX11_meetings_93 : decode cX11_meetings 93 = .ok (.goto (-75), 3) := by decide +kernel
theorem dX11_meetings_96 : decode cX11_meetings 96 = .ok (.iinc 2 1, 3) := by decide +kernel
theorem dX11_meetings_99 : decode cX11_meetings 99 = .ok (.goto (-90), 3) := by decide +kernel
theorem dX11_meetings_102 : decode cX11_meetings 102 = .ok (.iload_n 1, 1) := by decide +kernel
theorem dX11_meetings_103 : decode cX11_meetings 103 = .ok (.ireturn, 1) := by decide +kernel
theorem dX11_sackOf_0 : decode cX11_sackOf 0 = .ok (.aload_n 0, 1) := by decide +kernel
theorem dX11_sackOf_1 : decode cX11_sackOf 1 = .ok (.iconst 0, 1) := by decide +kernel
theorem dX11_sackOf_2 : decode cX11_sackOf 2 = .ok (.putfield 3, 3) := by decide +kernel
theorem dX11_sackOf_5 : decode cX11_sackOf 5 = .ok (.aload_n 0, 1) := by decide +kernel
theorem dX11_sackOf_6 : decode cX11_sackOf 6 = .ok (.iload_n 1, 1) := by decide +kernel
theorem dX11_sackOf_7 : decode cX11_sackOf 7 = .ok (.invokevirtual 286, 3) := by decide +kernel
theorem dX11_sackOf_10 : decode cX11_sackOf 10 = .ok (.ifCond .eq 7, 3) := by decide +kernel
theorem dX11_sackOf_13 : decode cX11_sackOf 13 = .ok (.iconst 0, 1) := by decide +kernel
theorem dX11_sackOf_14 : decode cX11_sackOf 14 = .ok (.goto 12, 3) := by decide +kernel
theorem dX11_sackOf_17 : decode cX11_sackOf 17 = .ok (.aload_n 0, 1) := by decide +kernel
theorem dX11_sackOf_18 : decode cX11_sackOf 18 = .ok (.getfield 13, 3) := by decide +kernel
theorem dX11_sackOf_21 : decode cX11_sackOf 21 = .ok (.bipush 33, 2) := by decide +kernel
theorem dX11_sackOf_23 : decode cX11_sackOf 23 = .ok (.iload_n 1, 1) := by decide +kernel
theorem dX11_sackOf_24 : decode cX11_sackOf 24 = .ok (.iadd, 1) := by decide +kernel
theorem dX11_sackOf_25 : decode cX11_sackOf 25 = .ok (.iaload, 1) := by decide +kernel
theorem dX11_sackOf_26 : decode cX11_sackOf 26 = .ok (.ireturn, 1) := by decide +kernel
theorem dX11_carrierOf_0 : decode cX11_carrierOf 0 = .ok (.aload_n 0, 1) := by decide +kernel
theorem dX11_carrierOf_1 : decode cX11_carrierOf 1 = .ok (.iconst 0, 1) := by decide +kernel
theorem dX11_carrierOf_2 : decode cX11_carrierOf 2 = .ok (.putfield 3, 3) := by decide +kernel
theorem dX11_carrierOf_5 : decode cX11_carrierOf 5 = .ok (.aload_n 0, 1) := by decide +kernel
theorem dX11_carrierOf_6 : decode cX11_carrierOf 6 = .ok (.iload_n 1, 1) := by decide +kernel
theorem dX11_carrierOf_7 : decode cX11_carrierOf 7 = .ok (.invokevirtual 286, 3) := by decide +kernel
theorem dX11_carrierOf_10 : decode cX11_carrierOf 10 = .ok (.ifCond .eq 7, 3) := by decide +kernel
theorem dX11_carrierOf_13 : decode cX11_carrierOf 13 = .ok (.iconst 0, 1) := by decide +kernel
theorem dX11_carrierOf_14 : decode cX11_carrierOf 14 = .ok (.goto 8, 3) := by decide +kernel
theorem dX11_carrierOf_17 : decode cX11_carrierOf 17 = .ok (.aload_n 0, 1) := by decide +kernel
theorem dX11_carrierOf_18 : decode cX11_carrierOf 18 = .ok (.iload_n 1, 1) := by decide +kernel
theorem dX11_carrierOf_19 : decode cX11_carrierOf 19 = .ok (.invokevirtual 249, 3) := by decide +kernel
theorem dX11_carrierOf_22 : decode cX11_carrierOf 22 = .ok (.ireturn, 1) := by decide +kernel
theorem dX11_manyIn_0 : decode cX11_manyIn 0 = .ok (.iconst 0, 1) := by decide +kernel
theorem dX11_manyIn_1 : decode cX11_manyIn 1 = .ok (.istore_n 3, 1) := by decide +kernel
theorem dX11_manyIn_2 : decode cX11_manyIn 2 = .ok (.iconst 0, 1) := by decide +kernel
theorem dX11_manyIn_3 : decode cX11_manyIn 3 = .ok (.istore 4, 2) := by decide +kernel
theorem dX11_manyIn_5 : decode cX11_manyIn 5 = .ok (.iload 4, 2) := by decide +kernel
theorem dX11_manyIn_7 : decode cX11_manyIn 7 = .ok (.aload_n 0, 1) := by decide +kernel
theorem dX11_manyIn_8 : decode cX11_manyIn 8 = .ok (.invokevirtual 170, 3) := by decide +kernel
theorem dX11_manyIn_11 : decode cX11_manyIn 11 = .ok (.if_icmp .ge 28, 3) := by decide +kernel
theorem dX11_manyIn_14 : decode cX11_manyIn 14 = .ok (.iload_n 3, 1) := by decide +kernel
theorem dX11_manyIn_15 : decode cX11_manyIn 15 = .ok (.aload_n 0, 1) := by decide +kernel
theorem dX11_manyIn_16 : decode cX11_manyIn 16 = .ok (.iload 4, 2) := by decide +kernel
theorem dX11_manyIn_18 : decode cX11_manyIn 18 = .ok (.iload_n 1, 1) := by decide +kernel
theorem dX11_manyIn_19 : decode cX11_manyIn 19 = .ok (.iload_n 2, 1) := by decide +kernel
theorem dX11_manyIn_20 : decode cX11_manyIn 20 = .ok (.invokevirtual 262, 3) := by decide +kernel
theorem dX11_manyIn_23 : decode cX11_manyIn 23 = .ok (.ifCond .eq 7, 3) := by decide +kernel
theorem dX11_manyIn_26 : decode cX11_manyIn 26 = .ok (.iconst 1, 1) := by decide +kernel
theorem dX11_manyIn_27 : decode cX11_manyIn 27 = .ok (.goto 4, 3) := by decide +kernel
theorem dX11_manyIn_30 : decode cX11_manyIn 30 = .ok (.iconst 0, 1) := by decide +kernel
theorem dX11_manyIn_31 : decode cX11_manyIn 31 = .ok (.iadd, 1) := by decide +kernel
theorem dX11_manyIn_32 : decode cX11_manyIn 32 = .ok (.istore_n 3, 1) := by decide +kernel
theorem dX11_manyIn_33 : decode cX11_manyIn 33 = .ok (.iinc 4 1, 3) := by decide +kernel
theorem dX11_manyIn_36 : decode cX11_manyIn 36 = .ok (.goto (-31), 3) := by decide +kernel
theorem dX11_manyIn_39 : decode cX11_manyIn 39 = .ok (.iload_n 3, 1) := by decide +kernel
theorem dX11_manyIn_40 : decode cX11_manyIn 40 = .ok (.ireturn, 1) := by decide +kernel
theorem dX11_nthIn_0 : decode cX11_nthIn 0 = .ok (.iload_n 3, 1) := by decide +kernel
theorem dX11_nthIn_1 : decode cX11_nthIn 1 = .ok (.istore 4, 2) := by decide +kernel
theorem dX11_nthIn_3 : decode cX11_nthIn 3 = .ok (.iconst 0, 1) := by decide +kernel
theorem dX11_nthIn_4 : decode cX11_nthIn 4 = .ok (.istore 5, 2) := by decide +kernel
theorem dX11_nthIn_6 : decode cX11_nthIn 6 = .ok (.iload 5, 2) := by decide +kernel
theorem dX11_nthIn_8 : decode cX11_nthIn 8 = .ok (.aload_n 0, 1) := by decide +kernel
theorem dX11_nthIn_9 : decode cX11_nthIn 9 = .ok (.invokevirtual 170, 3) := by decide +kernel
theorem dX11_nthIn_12 : decode cX11_nthIn 12 = .ok (.if_icmp .ge 34, 3) := by decide +kernel
theorem dX11_nthIn_15 : decode cX11_nthIn 15 = .ok (.aload_n 0, 1) := by decide +kernel
theorem dX11_nthIn_16 : decode cX11_nthIn 16 = .ok (.iload 5, 2) := by decide +kernel
theorem dX11_nthIn_18 : decode cX11_nthIn 18 = .ok (.iload_n 1, 1) := by decide +kernel
theorem dX11_nthIn_19 : decode cX11_nthIn 19 = .ok (.iload_n 2, 1) := by decide +kernel
theorem dX11_nthIn_20 : decode cX11_nthIn 20 = .ok (.invokevirtual 262, 3) := by decide +kernel
theorem dX11_nthIn_23 : decode cX11_nthIn 23 = .ok (.ifCond .ne 6, 3) := by decide +kernel
theorem dX11_nthIn_26 : decode cX11_nthIn 26 = .ok (.goto 14, 3) := by decide +kernel
theorem dX11_nthIn_29 : decode cX11_nthIn 29 = .ok (.iload 4, 2) := by decide +kernel
theorem dX11_nthIn_31 : decode cX11_nthIn 31 = .ok (.ifCond .ne 6, 3) := by decide +kernel
theorem dX11_nthIn_34 : decode cX11_nthIn 34 = .ok (.iload 5, 2) := by decide +kernel
theorem dX11_nthIn_36 : decode cX11_nthIn 36 = .ok (.ireturn, 1) := by decide +kernel
theorem dX11_nthIn_37 : decode cX11_nthIn 37 = .ok (.iinc 4 (-1), 3) := by decide +kernel
theorem dX11_nthIn_40 : decode cX11_nthIn 40 = .ok (.iinc 5 1, 3) := by decide +kernel
theorem dX11_nthIn_43 : decode cX11_nthIn 43 = .ok (.goto (-37), 3) := by decide +kernel
theorem dX11_nthIn_46 : decode cX11_nthIn 46 = .ok (.iconst (-1), 1) := by decide +kernel
theorem dX11_nthIn_47 : decode cX11_nthIn 47 = .ok (.ireturn, 1) := by decide +kernel
theorem dX11_valueIn_0 : decode cX11_valueIn 0 = .ok (.iconst 0, 1) := by decide +kernel
theorem dX11_valueIn_1 : decode cX11_valueIn 1 = .ok (.istore_n 3, 1) := by decide +kernel
theorem dX11_valueIn_2 : decode cX11_valueIn 2 = .ok (.iconst 0, 1) := by decide +kernel
theorem dX11_valueIn_3 : decode cX11_valueIn 3 = .ok (.istore 4, 2) := by decide +kernel
theorem dX11_valueIn_5 : decode cX11_valueIn 5 = .ok (.iload 4, 2) := by decide +kernel
theorem dX11_valueIn_7 : decode cX11_valueIn 7 = .ok (.aload_n 0, 1) := by decide +kernel
theorem dX11_valueIn_8 : decode cX11_valueIn 8 = .ok (.invokevirtual 170, 3) := by decide +kernel
theorem dX11_valueIn_11 : decode cX11_valueIn 11 = .ok (.if_icmp .ge 34, 3) := by decide +kernel
theorem dX11_valueIn_14 : decode cX11_valueIn 14 = .ok (.iload_n 3, 1) := by decide +kernel
theorem dX11_valueIn_15 : decode cX11_valueIn 15 = .ok (.aload_n 0, 1) := by decide +kernel
theorem dX11_valueIn_16 : decode cX11_valueIn 16 = .ok (.iload 4, 2) := by decide +kernel
theorem dX11_valueIn_18 : decode cX11_valueIn 18 = .ok (.iload_n 1, 1) := by decide +kernel
theorem dX11_valueIn_19 : decode cX11_valueIn 19 = .ok (.iload_n 2, 1) := by decide +kernel
theorem dX11_valueIn_20 : decode cX11_valueIn 20 = .ok (.invokevirtual 262, 3) := by decide +kernel
theorem dX11_valueIn_23 : decode cX11_valueIn 23 = .ok (.ifCond .eq 13, 3) := by decide +kernel
theorem dX11_valueIn_26 : decode cX11_valueIn 26 = .ok (.aload_n 0, 1) := by decide +kernel
theorem dX11_valueIn_27 : decode cX11_valueIn 27 = .ok (.iload 4, 2) := by decide +kernel
theorem dX11_valueIn_29 : decode cX11_valueIn 29 = .ok (.iconst 2, 1) := by decide +kernel
theorem dX11_valueIn_30 : decode cX11_valueIn 30 = .ok (.invokevirtual 67, 3) := by decide +kernel
theorem dX11_valueIn_33 : decode cX11_valueIn 33 = .ok (.goto 4, 3) := by decide +kernel
theorem dX11_valueIn_36 : decode cX11_valueIn 36 = .ok (.iconst 0, 1) := by decide +kernel
theorem dX11_valueIn_37 : decode cX11_valueIn 37 = .ok (.iadd, 1) := by decide +kernel
theorem dX11_valueIn_38 : decode cX11_valueIn 38 = .ok (.istore_n 3, 1) := by decide +kernel
theorem dX11_valueIn_39 : decode cX11_valueIn 39 = .ok (.iinc 4 1, 3) := by decide +kernel
theorem dX11_valueIn_42 : decode cX11_valueIn 42 = .ok (.goto (-37), 3) := by decide +kernel
theorem dX11_valueIn_45 : decode cX11_valueIn 45 = .ok (.iload_n 3, 1) := by decide +kernel
theorem dX11_valueIn_46 : decode cX11_valueIn 46 = .ok (.ireturn, 1) := by decide +kernel
theorem dX11_sackCount_0 : decode cX11_sackCount 0 = .ok (.aload_n 0, 1) := by decide +kernel
theorem dX11_sackCount_1 : decode cX11_sackCount 1 = .ok (.iconst 0, 1) := by decide +kernel
theorem dX11_sackCount_2 : decode cX11_sackCount 2 = .ok (.putfield 3, 3) := by decide +kernel
theorem dX11_sackCount_5 : decode cX11_sackCount 5 = .ok (.aload_n 0, 1) := by decide +kernel
theorem dX11_sackCount_6 : decode cX11_sackCount 6 = .ok (.iload_n 1, 1) := by decide +kernel
theorem dX11_sackCount_7 : decode cX11_sackCount 7 = .ok (.invokevirtual 286, 3) := by decide +kernel
theorem dX11_sackCount_10 : decode cX11_sackCount 10 = .ok (.ifCond .eq 7, 3) := by decide +kernel
theorem dX11_sackCount_13 : decode cX11_sackCount 13 = .ok (.iconst 0, 1) := by decide +kernel
theorem dX11_sackCount_14 : decode cX11_sackCount 14 = .ok (.goto 9, 3) := by decide +kernel
theorem dX11_sackCount_17 : decode cX11_sackCount 17 = .ok (.aload_n 0, 1) := by decide +kernel
theorem dX11_sackCount_18 : decode cX11_sackCount 18 = .ok (.iconst 1, 1) := by decide +kernel
theorem dX11_sackCount_19 : decode cX11_sackCount 19 = .ok (.iload_n 1, 1) := by decide +kernel
theorem dX11_sackCount_20 : decode cX11_sackCount 20 = .ok (.invokevirtual 289, 3) := by decide +kernel
theorem dX11_sackCount_23 : decode cX11_sackCount 23 = .ok (.ireturn, 1) := by decide +kernel
theorem dX11_sackLetter_0 : decode cX11_sackLetter 0 = .ok (.aload_n 0, 1) := by decide +kernel
theorem dX11_sackLetter_1 : decode cX11_sackLetter 1 = .ok (.iconst 0, 1) := by decide +kernel
theorem dX11_sackLetter_2 : decode cX11_sackLetter 2 = .ok (.putfield 3, 3) := by decide +kernel
theorem dX11_sackLetter_5 : decode cX11_sackLetter 5 = .ok (.aload_n 0, 1) := by decide +kernel
theorem dX11_sackLetter_6 : decode cX11_sackLetter 6 = .ok (.iload_n 1, 1) := by decide +kernel
theorem dX11_sackLetter_7 : decode cX11_sackLetter 7 = .ok (.invokevirtual 286, 3) := by decide +kernel
theorem dX11_sackLetter_10 : decode cX11_sackLetter 10 = .ok (.ifCond .eq 7, 3) := by decide +kernel
theorem dX11_sackLetter_13 : decode cX11_sackLetter 13 = .ok (.iconst 0, 1) := by decide +kernel
theorem dX11_sackLetter_14 : decode cX11_sackLetter 14 = .ok (.goto 10, 3) := by decide +kernel
theorem dX11_sackLetter_17 : decode cX11_sackLetter 17 = .ok (.aload_n 0, 1) := by decide +kernel
theorem dX11_sackLetter_18 : decode cX11_sackLetter 18 = .ok (.iconst 1, 1) := by decide +kernel
theorem dX11_sackLetter_19 : decode cX11_sackLetter 19 = .ok (.iload_n 1, 1) := by decide +kernel
theorem dX11_sackLetter_20 : decode cX11_sackLetter 20 = .ok (.iload_n 2, 1) := by decide +kernel
theorem dX11_sackLetter_21 : decode cX11_sackLetter 21 = .ok (.invokevirtual 292, 3) := by decide +kernel
theorem dX11_sackLetter_24 : decode cX11_sackLetter 24 = .ok (.ireturn, 1) := by decide +kernel
theorem dX11_sackValue_0 : decode cX11_sackValue 0 = .ok (.aload_n 0, 1) := by decide +kernel
theorem dX11_sackValue_1 : decode cX11_sackValue 1 = .ok (.iconst 0, 1) := by decide +kernel
theorem dX11_sackValue_2 : decode cX11_sackValue 2 = .ok (.putfield 3, 3) := by decide +kernel
theorem dX11_sackValue_5 : decode cX11_sackValue 5 = .ok (.aload_n 0, 1) := by decide +kernel
theorem dX11_sackValue_6 : decode cX11_sackValue 6 = .ok (.iload_n 1, 1) := by decide +kernel
theorem dX11_sackValue_7 : decode cX11_sackValue 7 = .ok (.invokevirtual 286, 3) := by decide +kernel
theorem dX11_sackValue_10 : decode cX11_sackValue 10 = .ok (.ifCond .eq 7, 3) := by decide +kernel
theorem dX11_sackValue_13 : decode cX11_sackValue 13 = .ok (.iconst 0, 1) := by decide +kernel
theorem dX11_sackValue_14 : decode cX11_sackValue 14 = .ok (.goto 9, 3) := by decide +kernel
theorem dX11_sackValue_17 : decode cX11_sackValue 17 = .ok (.aload_n 0, 1) := by decide +kernel
theorem dX11_sackValue_18 : decode cX11_sackValue 18 = .ok (.iconst 1, 1) := by decide +kernel
theorem dX11_sackValue_19 : decode cX11_sackValue 19 = .ok (.iload_n 1, 1) := by decide +kernel
theorem dX11_sackValue_20 : decode cX11_sackValue 20 = .ok (.invokevirtual 295, 3) := by decide +kernel
theorem dX11_sackValue_23 : decode cX11_sackValue 23 = .ok (.ireturn, 1) := by decide +kernel
theorem dX11_officeCount_0 : decode cX11_officeCount 0 = .ok (.aload_n 0, 1) := by decide +kernel
theorem dX11_officeCount_1 : decode cX11_officeCount 1 = .ok (.iconst 0, 1) := by decide +kernel
theorem dX11_officeCount_2 : decode cX11_officeCount 2 = .ok (.putfield 3, 3) := by decide +kernel
theorem dX11_officeCount_5 : decode cX11_officeCount 5 = .ok (.aload_n 0, 1) := by decide +kernel
theorem dX11_officeCount_6 : decode cX11_officeCount 6 = .ok (.iload_n 1, 1) := by decide +kernel
theorem dX11_officeCount_7 : decode cX11_officeCount 7 = .ok (.invokevirtual 283, 3) := by decide +kernel
theorem dX11_officeCount_10 : decode cX11_officeCount 10 = .ok (.ifCond .eq 7, 3) := by decide +kernel
theorem dX11_officeCount_13 : decode cX11_officeCount 13 = .ok (.iconst 0, 1) := by decide +kernel
theorem dX11_officeCount_14 : decode cX11_officeCount 14 = .ok (.goto 9, 3) := by decide +kernel
theorem dX11_officeCount_17 : decode cX11_officeCount 17 = .ok (.aload_n 0, 1) := by decide +kernel
theorem dX11_officeCount_18 : decode cX11_officeCount 18 = .ok (.iconst 0, 1) := by decide +kernel
theorem dX11_officeCount_19 : decode cX11_officeCount 19 = .ok (.iload_n 1, 1) := by decide +kernel
theorem dX11_officeCount_20 : decode cX11_officeCount 20 = .ok (.invokevirtual 289, 3) := by decide +kernel
theorem dX11_officeCount_23 : decode cX11_officeCount 23 = .ok (.ireturn, 1) := by decide +kernel
theorem dX11_officeLetter_0 : decode cX11_officeLetter 0 = .ok (.aload_n 0, 1) := by decide +kernel
theorem dX11_officeLetter_1 : decode cX11_officeLetter 1 = .ok (.iconst 0, 1) := by decide +kernel
theorem dX11_officeLetter_2 : decode cX11_officeLetter 2 = .ok (.putfield 3, 3) := by decide +kernel
theorem dX11_officeLetter_5 : decode cX11_officeLetter 5 = .ok (.aload_n 0, 1) := by decide +kernel
theorem dX11_officeLetter_6 : decode cX11_officeLetter 6 = .ok (.iload_n 1, 1) := by decide +kernel
theorem dX11_officeLetter_7 : decode cX11_officeLetter 7 = .ok (.invokevirtual 283, 3) := by decide +kernel
theorem dX11_officeLetter_10 : decode cX11_officeLetter 10 = .ok (.ifCond .eq 7, 3) := by decide +kernel
theorem dX11_officeLetter_13 : decode cX11_officeLetter 13 = .ok (.iconst 0, 1) := by decide +kernel
theorem dX11_officeLetter_14 : decode cX11_officeLetter 14 = .ok (.goto 10, 3) := by decide +kernel
theorem dX11_officeLetter_17 : decode cX11_officeLetter 17 = .ok (.aload_n 0, 1) := by decide +kernel
theorem dX11_officeLetter_18 : decode cX11_officeLetter 18 = .ok (.iconst 0, 1) := by decide +kernel
theorem dX11_officeLetter_19 : decode cX11_officeLetter 19 = .ok (.iload_n 1, 1) := by decide +kernel
theorem dX11_officeLetter_20 : decode cX11_officeLetter 20 = .ok (.iload_n 2, 1) := by decide +kernel
theorem dX11_officeLetter_21 : decode cX11_officeLetter 21 = .ok (.invokevirtual 292, 3) := by decide +kernel
theorem dX11_officeLetter_24 : decode cX11_officeLetter 24 = .ok (.ireturn, 1) := by decide +kernel
theorem dX11_letter_0 : decode cX11_letter 0 = .ok (.aload_n 0, 1) := by decide +kernel
theorem dX11_letter_1 : decode cX11_letter 1 = .ok (.iconst 0, 1) := by decide +kernel
theorem dX11_letter_2 : decode cX11_letter 2 = .ok (.putfield 3, 3) := by decide +kernel
theorem dX11_letter_5 : decode cX11_letter 5 = .ok (.aload_n 0, 1) := by decide +kernel
theorem dX11_letter_6 : decode cX11_letter 6 = .ok (.iload_n 1, 1) := by decide +kernel
theorem dX11_letter_7 : decode cX11_letter 7 = .ok (.invokevirtual 298, 3) := by decide +kernel
theorem dX11_letter_10 : decode cX11_letter 10 = .ok (.ifCond .ne 26, 3) := by decide +kernel
theorem dX11_letter_13 : decode cX11_letter 13 = .ok (.aload_n 0, 1) := by decide +kernel
theorem dX11_letter_14 : decode cX11_letter 14 = .ok (.iload_n 2, 1) := by decide +kernel
theorem dX11_letter_15 : decode cX11_letter 15 = .ok (.iconst 0, 1) := by decide +kernel
theorem dX11_letter_16 : decode cX11_letter 16 = .ok (.bipush 8, 2) := by decide +kernel
theorem dX11_letter_18 : decode cX11_letter 18 = .ok (.invokestatic 79, 3) := by decide +kernel
theorem dX11_letter_21 : decode cX11_letter 21 = .ok (.ifCond .ne 7, 3) := by decide +kernel
theorem dX11_letter_24 : decode cX11_letter 24 = .ok (.iconst 1, 1) := by decide +kernel
theorem dX11_letter_25 : decode cX11_letter 25 = .ok (.goto 4, 3) := by decide +kernel
theorem dX11_letter_28 : decode cX11_letter 28 = .ok (.iconst 0, 1) := by decide +kernel
theorem dX11_letter_29 : decode cX11_letter 29 = .ok (.iconst 2, 1) := by decide +kernel
theorem dX11_letter_30 : decode cX11_letter 30 = .ok (.invokevirtual 215, 3) := by decide +kernel
theorem dX11_letter_33 : decode cX11_letter 33 = .ok (.ifCond .eq 7, 3) := by decide +kernel
theorem dX11_letter_36 : decode cX11_letter 36 = .ok (.iconst 0, 1) := by decide +kernel
theorem dX11_letter_37 : decode cX11_letter 37 = .ok (.goto 9, 3) := by decide +kernel
theorem dX11_letter_40 : decode cX11_letter 40 = .ok (.aload_n 0, 1) := by decide +kernel
theorem dX11_letter_41 : decode cX11_letter 41 = .ok (.iload_n 1, 1) := by decide +kernel
theorem dX11_letter_42 : decode cX11_letter 42 = .ok (.iload_n 2, 1) := by decide +kernel
theorem dX11_letter_43 : decode cX11_letter 43 = .ok (.invokevirtual 67, 3) := by decide +kernel
theorem dX11_letter_46 : decode cX11_letter 46 = .ok (.ireturn, 1) := by decide +kernel
theorem dX11_trace_0 : decode cX11_trace 0 = .ok (.aload_n 0, 1) := by decide +kernel
theorem dX11_trace_1 : decode cX11_trace 1 = .ok (.iconst 0, 1) := by decide +kernel
theorem dX11_trace_2 : decode cX11_trace 2 = .ok (.putfield 3, 3) := by decide +kernel
theorem dX11_trace_5 : decode cX11_trace 5 = .ok (.aload_n 0, 1) := by decide +kernel
theorem dX11_trace_6 : decode cX11_trace 6 = .ok (.iload_n 1, 1) := by decide +kernel
theorem dX11_trace_7 : decode cX11_trace 7 = .ok (.invokevirtual 298, 3) := by decide +kernel
theorem dX11_trace_10 : decode cX11_trace 10 = .ok (.ifCond .eq 7, 3) := by decide +kernel
theorem dX11_trace_13 : decode cX11_trace 13 = .ok (.iconst 0, 1) := by decide +kernel
theorem dX11_trace_14 : decode cX11_trace 14 = .ok (.goto 10, 3) := by decide +kernel
theorem dX11_trace_17 : decode cX11_trace 17 = .ok (.aload_n 0, 1) := by decide +kernel
theorem dX11_trace_18 : decode cX11_trace 18 = .ok (.iload_n 1, 1) := by decide +kernel
theorem dX11_trace_19 : decode cX11_trace 19 = .ok (.bipush 9, 2) := by decide +kernel
theorem dX11_trace_21 : decode cX11_trace 21 = .ok (.invokevirtual 67, 3) := by decide +kernel
theorem dX11_trace_24 : decode cX11_trace 24 = .ok (.ireturn, 1) := by decide +kernel
theorem dX11_suspects_0 : decode cX11_suspects 0 = .ok (.aload_n 0, 1) := by decide +kernel
theorem dX11_suspects_1 : decode cX11_suspects 1 = .ok (.iconst 0, 1) := by decide +kernel
theorem dX11_suspects_2 : decode cX11_suspects 2 = .ok (.putfield 3, 3) := by decide +kernel
theorem dX11_suspects_5 : decode cX11_suspects 5 = .ok (.aload_n 0, 1) := by decide +kernel
theorem dX11_suspects_6 : decode cX11_suspects 6 = .ok (.iload_n 1, 1) := by decide +kernel
theorem dX11_suspects_7 : decode cX11_suspects 7 = .ok (.invokevirtual 298, 3) := by decide +kernel
theorem dX11_suspects_10 : decode cX11_suspects 10 = .ok (.ifCond .ne 13, 3) := by decide +kernel
theorem dX11_suspects_13 : decode cX11_suspects 13 = .ok (.aload_n 0, 1) := by decide +kernel
theorem dX11_suspects_14 : decode cX11_suspects 14 = .ok (.iload_n 1, 1) := by decide +kernel
theorem dX11_suspects_15 : decode cX11_suspects 15 = .ok (.iconst 3, 1) := by decide +kernel
theorem dX11_suspects_16 : decode cX11_suspects 16 = .ok (.invokevirtual 67, 3) := by decide +kernel
theorem dX11_suspects_19 : decode cX11_suspects 19 = .ok (.iconst 3, 1) := by decide +kernel
theorem dX11_suspects_20 : decode cX11_suspects 20 = .ok (.if_icmp .eq 5, 3) := by decide +kernel
theorem dX11_suspects_23 : decode cX11_suspects 23 = .ok (.iconst 0, 1) := by decide +kernel
theorem dX11_suspects_24 : decode cX11_suspects 24 = .ok (.ireturn, 1) := by decide +kernel
theorem dX11_suspects_25 : decode cX11_suspects 25 = .ok (.aload_n 0, 1) := by decide +kernel
theorem dX11_suspects_26 : decode cX11_suspects 26 = .ok (.iload_n 1, 1) := by decide +kernel
theorem dX11_suspects_27 : decode cX11_suspects 27 = .ok (.iconst 2, 1) := by decide +kernel
theorem dX11_suspects_28 : decode cX11_suspects 28 = .ok (.invokevirtual 67, 3) := by decide +kernel
theorem dX11_suspects_31 : decode cX11_suspects 31 = .ok (.ifCond .ne 13, 3) := by decide +kernel
theorem dX11_suspects_34 : decode cX11_suspects 34 = .ok (.aload_n 0, 1) := by decide +kernel
theorem dX11_suspects_35 : decode cX11_suspects 35 = .ok (.iload_n 1, 1) := by decide +kernel
theorem dX11_suspects_36 : decode cX11_suspects 36 = .ok (.bipush 9, 2) := by decide +kernel
theorem dX11_suspects_38 : decode cX11_suspects 38 = .ok (.invokevirtual 67, 3) := by decide +kernel
theorem dX11_suspects_41 : decode cX11_suspects 41 = .ok (.goto 22, 3) := by decide +kernel
theorem dX11_suspects_44 : decode cX11_suspects 44 = .ok (.iconst 1, 1) := by decide +kernel
theorem dX11_suspects_45 : decode cX11_suspects 45 = .ok (.aload_n 0, 1) := by decide +kernel
theorem dX11_suspects_46 : decode cX11_suspects 46 = .ok (.getfield 13, 3) := by decide +kernel
theorem dX11_suspects_49 : decode cX11_suspects 49 = .ok (.sipush 798, 3) := by decide +kernel
theorem dX11_suspects_52 : decode cX11_suspects 52 = .ok (.iconst 2, 1) := by decide +kernel
theorem dX11_suspects_53 : decode cX11_suspects 53 = .ok (.aload_n 0, 1) := by decide +kernel
theorem dX11_suspects_54 : decode cX11_suspects 54 = .ok (.iload_n 1, 1) := by decide +kernel
theorem dX11_suspects_55 : decode cX11_suspects 55 = .ok (.iconst 4, 1) := by decide +kernel
theorem dX11_suspects_56 : decode cX11_suspects 56 = .ok (.invokevirtual 67, 3) := by decide +kernel
theorem dX11_suspects_59 : decode cX11_suspects 59 = .ok (.imul, 1) := by decide +kernel
theorem dX11_suspects_60 : decode cX11_suspects 60 = .ok (.iadd, 1) := by decide +kernel
theorem dX11_suspects_61 : decode cX11_suspects 61 = .ok (.iaload, 1) := by decide +kernel
theorem dX11_suspects_62 : decode cX11_suspects 62 = .ok (.ishl, 1) := by decide +kernel
theorem dX11_suspects_63 : decode cX11_suspects 63 = .ok (.ireturn, 1) := by decide +kernel
theorem dX11_comesLate_0 : decode cX11_comesLate 0 = .ok (.aload_n 0, 1) := by decide +kernel
theorem dX11_comesLate_1 : decode cX11_comesLate 1 = .ok (.iload_n 1, 1) := by decide +kernel
theorem dX11_comesLate_2 : decode cX11_comesLate 2 = .ok (.bipush 6, 2) := by decide +kernel
theorem dX11_comesLate_4 : decode cX11_comesLate 4 = .ok (.invokevirtual 67, 3) := by decide +kernel
theorem dX11_comesLate_7 : decode cX11_comesLate 7 = .ok (.istore_n 2, 1) := by decide +kernel
theorem dX11_comesLate_8 : decode cX11_comesLate 8 = .ok (.iload_n 2, 1) := by decide +kernel
theorem dX11_comesLate_9 : decode cX11_comesLate 9 = .ok (.iconst (-1), 1) := by decide +kernel
theorem dX11_comesLate_10 : decode cX11_comesLate 10 = .ok (.if_icmp .eq 38, 3) := by decide +kernel
theorem dX11_comesLate_13 : decode cX11_comesLate 13 = .ok (.aload_n 0, 1) := by decide +kernel
theorem dX11_comesLate_14 : decode cX11_comesLate 14 = .ok (.iload_n 1, 1) := by decide +kernel
theorem dX11_comesLate_15 : decode cX11_comesLate 15 = .ok (.iconst 3, 1) := by decide +kernel
theorem dX11_comesLate_16 : decode cX11_comesLate 16 = .ok (.invokevirtual 67, 3) := by decide +kernel
theorem dX11_comesLate_19 : decode cX11_comesLate 19 = .ok (.iconst 2, 1) := by decide +kernel
theorem dX11_comesLate_20 : decode cX11_comesLate 20 = .ok (.if_icmp .ne 13, 3) := by decide +kernel
theorem dX11_comesLate_23 : decode cX11_comesLate 23 = .ok (.aload_n 0, 1) := by decide +kernel
theorem dX11_comesLate_24 : decode cX11_comesLate 24 = .ok (.iload_n 1, 1) := by decide +kernel
theorem dX11_comesLate_25 : decode cX11_comesLate 25 = .ok (.bipush 7, 2) := by decide +kernel
theorem dX11_comesLate_27 : decode cX11_comesLate 27 = .ok (.invokevirtual 67, 3) := by decide +kernel
theorem dX11_comesLate_30 : decode cX11_comesLate 30 = .ok (.goto 10, 3) := by decide +kernel
theorem dX11_comesLate_33 : decode cX11_comesLate 33 = .ok (.aload_n 0, 1) := by decide +kernel
theorem dX11_comesLate_34 : decode cX11_comesLate 34 = .ok (.getfield 13, 3) := by decide +kernel
theorem dX11_comesLate_37 : decode cX11_comesLate 37 = .ok (.bipush 6, 2) := by decide +kernel
theorem dX11_comesLate_39 : decode cX11_comesLate 39 = .ok (.iaload, 1) := by decide +kernel
theorem dX11_comesLate_40 : decode cX11_comesLate 40 = .ok (.iload_n 2, 1) := by decide +kernel
theorem dX11_comesLate_41 : decode cX11_comesLate 41 = .ok (.if_icmp .le 7, 3) := by decide +kernel
theorem dX11_comesLate_44 : decode cX11_comesLate 44 = .ok (.iconst 1, 1) := by decide +kernel
theorem dX11_comesLate_45 : decode cX11_comesLate 45 = .ok (.goto 4, 3) := by decide +kernel
theorem dX11_comesLate_48 : decode cX11_comesLate 48 = .ok (.iconst 0, 1) := by decide +kernel
theorem dX11_comesLate_49 : decode cX11_comesLate 49 = .ok (.ireturn, 1) := by decide +kernel
theorem dX11_isLate_0 : decode cX11_isLate 0 = .ok (.aload_n 0, 1) := by decide +kernel
theorem dX11_isLate_1 : decode cX11_isLate 1 = .ok (.iconst 0, 1) := by decide +kernel
theorem dX11_isLate_2 : decode cX11_isLate 2 = .ok (.putfield 3, 3) := by decide +kernel
theorem dX11_isLate_5 : decode cX11_isLate 5 = .ok (.aload_n 0, 1) := by decide +kernel
theorem dX11_isLate_6 : decode cX11_isLate 6 = .ok (.iload_n 1, 1) := by decide +kernel
theorem dX11_isLate_7 : decode cX11_isLate 7 = .ok (.invokevirtual 298, 3) := by decide +kernel
theorem dX11_isLate_10 : decode cX11_isLate 10 = .ok (.ifCond .ne 15, 3) := by decide +kernel
theorem dX11_isLate_13 : decode cX11_isLate 13 = .ok (.aload_n 0, 1) := by decide +kernel
theorem dX11_isLate_14 : decode cX11_isLate 14 = .ok (.iload_n 1, 1) := by decide +kernel
theorem dX11_isLate_15 : decode cX11_isLate 15 = .ok (.invokevirtual 301, 3) := by decide +kernel
theorem dX11_isLate_18 : decode cX11_isLate 18 = .ok (.ifCond .eq 7, 3) := by decide +kernel
theorem dX11_isLate_21 : decode cX11_isLate 21 = .ok (.iconst 1, 1) := by decide +kernel
theorem dX11_isLate_22 : decode cX11_isLate 22 = .ok (.goto 4, 3) := by decide +kernel
theorem dX11_isLate_25 : decode cX11_isLate 25 = .ok (.iconst 0, 1) := by decide +kernel
theorem dX11_isLate_26 : decode cX11_isLate 26 = .ok (.ireturn, 1) := by decide +kernel
theorem dX11_isSo_0 : decode cX11_isSo 0 = .ok (.iload_n 2, 1) := by decide +kernel
theorem dX11_isSo_1 : decode cX11_isSo 1 = .ok (.tableswitch 110 4 8 #[35, 50, 56, 73, 90], 35) := by decide +kernel
theorem dX11_isSo_36 : decode cX11_isSo 36 = .ok (.aload_n 0, 1) := by decide +kernel
theorem dX11_isSo_37 : decode cX11_isSo 37 = .ok (.iload_n 1, 1) := by decide +kernel
theorem dX11_isSo_38 : decode cX11_isSo 38 = .ok (.iconst 2, 1) := by decide +kernel
theorem dX11_isSo_39 : decode cX11_isSo 39 = .ok (.invokevirtual 67, 3) := by decide +kernel
theorem dX11_isSo_42 : decode cX11_isSo 42 = .ok (.ifCond .eq 7, 3) := by decide +kernel
theorem dX11_isSo_45 : decode cX11_isSo 45 = .ok (.iconst 1, 1) := by decide +kernel
theorem dX11_isSo_46 : decode cX11_isSo 46 = .ok (.goto 4, 3) := by decide +kernel
theorem dX11_isSo_49 : decode cX11_isSo 49 = .ok (.iconst 0, 1) := by decide +kernel
theorem dX11_isSo_50 : decode cX11_isSo 50 = .ok (.ireturn, 1) := by decide +kernel
theorem dX11_isSo_51 : decode cX11_isSo 51 = .ok (.aload_n 0, 1) := by decide +kernel
theorem dX11_isSo_52 : decode cX11_isSo 52 = .ok (.iload_n 1, 1) := by decide +kernel
theorem dX11_isSo_53 : decode cX11_isSo 53 = .ok (.invokevirtual 301, 3) := by decide +kernel
theorem dX11_isSo_56 : decode cX11_isSo 56 = .ok (.ireturn, 1) := by decide +kernel
theorem dX11_isSo_57 : decode cX11_isSo 57 = .ok (.aload_n 0, 1) := by decide +kernel
theorem dX11_isSo_58 : decode cX11_isSo 58 = .ok (.iload_n 1, 1) := by decide +kernel
theorem dX11_isSo_59 : decode cX11_isSo 59 = .ok (.bipush 6, 2) := by decide +kernel
theorem dX11_isSo_61 : decode cX11_isSo 61 = .ok (.invokevirtual 67, 3) := by decide +kernel
theorem dX11_isSo_64 : decode cX11_isSo 64 = .ok (.iconst (-1), 1) := by decide +kernel
theorem dX11_isSo_65 : decode cX11_isSo 65 = .ok (.if_icmp .ne 7, 3) := by decide +kernel
theorem dX11_isSo_68 : decode cX11_isSo 68 = .ok (.iconst 1, 1) := by decide +kernel
theorem dX11_isSo_69 : decode cX11_isSo 69 = .ok (.goto 4, 3) := by decide +kernel
theorem dX11_isSo_72 : decode cX11_isSo 72 = .ok (.iconst 0, 1) := by decide +kernel
theorem dX11_isSo_73 : decode cX11_isSo 73 = .ok (.ireturn, 1) := by decide +kernel
theorem dX11_isSo_74 : decode cX11_isSo 74 = .ok (.aload_n 0, 1) := by decide +kernel
theorem dX11_isSo_75 : decode cX11_isSo 75 = .ok (.iload_n 1, 1) := by decide +kernel
theorem dX11_isSo_76 : decode cX11_isSo 76 = .ok (.bipush 8, 2) := by decide +kernel
theorem dX11_isSo_78 : decode cX11_isSo 78 = .ok (.invokevirtual 67, 3) := by decide +kernel
theorem dX11_isSo_81 : decode cX11_isSo 81 = .ok (.iconst 1, 1) := by decide +kernel
theorem dX11_isSo_82 : decode cX11_isSo 82 = .ok (.if_icmp .ne 7, 3) := by decide +kernel
theorem dX11_isSo_85 : decode cX11_isSo 85 = .ok (.iconst 1, 1) := by decide +kernel
theorem dX11_isSo_86 : decode cX11_isSo 86 = .ok (.goto 4, 3) := by decide +kernel
theorem dX11_isSo_89 : decode cX11_isSo 89 = .ok (.iconst 0, 1) := by decide +kernel
theorem dX11_isSo_90 : decode cX11_isSo 90 = .ok (.ireturn, 1) := by decide +kernel
theorem dX11_isSo_91 : decode cX11_isSo 91 = .ok (.aload_n 0, 1) := by decide +kernel
theorem dX11_isSo_92 : decode cX11_isSo 92 = .ok (.iload_n 1, 1) := by decide +kernel
theorem dX11_isSo_93 : decode cX11_isSo 93 = .ok (.bipush 9, 2) := by decide +kernel
theorem dX11_isSo_95 : decode cX11_isSo 95 = .ok (.invokevirtual 67, 3) := by decide +kernel
theorem dX11_isSo_98 : decode cX11_isSo 98 = .ok (.invokestatic 244, 3) := by decide +kernel
theorem dX11_isSo_101 : decode cX11_isSo 101 = .ok (.iconst 1, 1) := by decide +kernel
theorem dX11_isSo_102 : decode cX11_isSo 102 = .ok (.if_icmp .le 7, 3) := by decide +kernel
theorem dX11_isSo_105 : decode cX11_isSo 105 = .ok (.iconst 1, 1) := by decide +kernel
theorem dX11_isSo_106 : decode cX11_isSo 106 = .ok (.goto 4, 3) := by decide +kernel
theorem dX11_isSo_109 : decode cX11_isSo 109 = .ok (.iconst 0, 1) := by decide +kernel
theorem dX11_isSo_110 : decode cX11_isSo 110 = .ok (.ireturn, 1) := by decide +kernel
theorem dX11_isSo_111 : decode cX11_isSo 111 = .ok (.aload_n 0, 1) := by decide +kernel
theorem dX11_isSo_112 : decode cX11_isSo 112 = .ok (.iload_n 1, 1) := by decide +kernel
theorem dX11_isSo_113 : decode cX11_isSo 113 = .ok (.iconst 3, 1) := by decide +kernel
theorem dX11_isSo_114 : decode cX11_isSo 114 = .ok (.invokevirtual 67, 3) := by decide +kernel
theorem dX11_isSo_117 : decode cX11_isSo 117 = .ok (.iload_n 2, 1) := by decide +kernel
theorem dX11_isSo_118 : decode cX11_isSo 118 = .ok (.if_icmp .ne 7, 3) := by decide +kernel
theorem dX11_isSo_121 : decode cX11_isSo 121 = .ok (.iconst 1, 1) := by decide +kernel
theorem dX11_isSo_122 : decode cX11_isSo 122 = .ok (.goto 4, 3) := by decide +kernel
theorem dX11_isSo_125 : decode cX11_isSo 125 = .ok (.iconst 0, 1) := by decide +kernel
theorem dX11_isSo_126 : decode cX11_isSo 126 = .ok (.ireturn, 1) := by decide +kernel
theorem dX11_letters__0 : decode cX11_letters_ 0 = .ok (.aload_n 0, 1) := by decide +kernel
theorem dX11_letters__1 : decode cX11_letters_ 1 = .ok (.iconst 0, 1) := by decide +kernel
theorem dX11_letters__2 : decode cX11_letters_ 2 = .ok (.putfield 3, 3) := by decide +kernel
theorem dX11_letters__5 : decode cX11_letters_ 5 = .ok (.aload_n 0, 1) := by decide +kernel
theorem dX11_letters__6 : decode cX11_letters_ 6 = .ok (.iload_n 1, 1) := by decide +kernel
theorem dX11_letters__7 : decode cX11_letters_ 7 = .ok (.iconst 0, 1) := by decide +kernel
theorem dX11_letters__8 : decode cX11_letters_ 8 = .ok (.bipush 8, 2) := by decide +kernel
theorem dX11_letters__10 : decode cX11_letters_ 10 = .ok (.invokestatic 79, 3) := by decide +kernel
theorem dX11_letters__13 : decode cX11_letters_ 13 = .ok (.ifCond .ne 7, 3) := by decide +kernel
theorem dX11_letters__16 : decode cX11_letters_ 16 = .ok (.iconst 1, 1) := by decide +kernel
theorem dX11_letters__17 : decode cX11_letters_ 17 = .ok (.goto 4, 3) := by decide +kernel
theorem dX11_letters__20 : decode cX11_letters_ 20 = .ok (.iconst 0, 1) := by decide +kernel
theorem dX11_letters__21 : decode cX11_letters_ 21 = .ok (.iconst 1, 1) := by decide +kernel
theorem dX11_letters__22 : decode cX11_letters_ 22 = .ok (.invokevirtual 215, 3) := by decide +kernel
theorem dX11_letters__25 : decode cX11_letters_ 25 = .ok (.ifCond .eq 5, 3) := by decide +kernel
theorem dX11_letters__28 : decode cX11_letters_ 28 = .ok (.iconst 0, 1) := by decide +kernel
theorem dX11_letters__29 : decode cX11_letters_ 29 = .ok (.ireturn, 1) := by decide +kernel
theorem dX11_letters__30 : decode cX11_letters_ 30 = .ok (.iconst 0, 1) := by decide +kernel
theorem dX11_letters__31 : decode cX11_letters_ 31 = .ok (.istore_n 2, 1) := by decide +kernel
theorem dX11_letters__32 : decode cX11_letters_ 32 = .ok (.iconst 0, 1) := by decide +kernel
theorem dX11_letters__33 : decode cX11_letters_ 33 = .ok (.istore_n 3, 1) := by decide +kernel
theorem dX11_letters__34 : decode cX11_letters_ 34 = .ok (.iload_n 3, 1) := by decide +kernel
theorem dX11_letters__35 : decode cX11_letters_ 35 = .ok (.aload_n 0, 1) := by decide +kernel
theorem dX11_letters__36 : decode cX11_letters_ 36 = .ok (.invokevirtual 170, 3) := by decide +kernel
theorem dX11_letters__39 : decode cX11_letters_ 39 = .ok (.if_icmp .ge 26, 3) := by decide +kernel
theorem dX11_letters__42 : decode cX11_letters_ 42 = .ok (.iload_n 2, 1) := by decide +kernel
theorem dX11_letters__43 : decode cX11_letters_ 43 = .ok (.aload_n 0, 1) := by decide +kernel
theorem dX11_letters__44 : decode cX11_letters_ 44 = .ok (.iload_n 3, 1) := by decide +kernel
theorem dX11_letters__45 : decode cX11_letters_ 45 = .ok (.iload_n 1, 1) := by decide +kernel
theorem dX11_letters__46 : decode cX11_letters_ 46 = .ok (.invokevirtual 304, 3) := by decide +kernel
theorem dX11_letters__49 : decode cX11_letters_ 49 = .ok (.ifCond .eq 7, 3) := by decide +kernel
theorem dX11_letters__52 : decode cX11_letters_ 52 = .ok (.iconst 1, 1) := by decide +kernel
theorem dX11_letters__53 : decode cX11_letters_ 53 = .ok (.goto 4, 3) := by decide +kernel
theorem dX11_letters__56 : decode cX11_letters_ 56 = .ok (.iconst 0, 1) := by decide +kernel
theorem dX11_letters__57 : decode cX11_letters_ 57 = .ok (.iadd, 1) := by decide +kernel
theorem dX11_letters__58 : decode cX11_letters_ 58 = .ok (.istore_n 2, 1) := by decide +kernel
theorem dX11_letters__59 : decode cX11_letters_ 59 = .ok (.iinc 3 1, 3) := by decide +kernel
theorem dX11_letters__62 : decode cX11_letters_ 62 = .ok (.goto (-28), 3) := by decide +kernel
theorem dX11_letters__65 : decode cX11_letters_ 65 = .ok (.iload_n 2, 1) := by decide +kernel
theorem dX11_letters__66 : decode cX11_letters_ 66 = .ok (.ireturn, 1) := by decide +kernel
theorem dX11_punctuality_0 : decode cX11_punctuality 0 = .ok (.aload_n 0, 1) := by decide +kernel
theorem dX11_punctuality_1 : decode cX11_punctuality 1 = .ok (.iconst 0, 1) := by decide +kernel
theorem dX11_punctuality_2 : decode cX11_punctuality 2 = .ok (.putfield 3, 3) := by decide +kernel
theorem dX11_punctuality_5 : decode cX11_punctuality 5 = .ok (.iconst 0, 1) := by decide +kernel
theorem dX11_punctuality_6 : decode cX11_punctuality 6 = .ok (.istore_n 1, 1) := by decide +kernel
theorem dX11_punctuality_7 : decode cX11_punctuality 7 = .ok (.iconst 0, 1) := by decide +kernel
theorem dX11_punctuality_8 : decode cX11_punctuality 8 = .ok (.istore_n 2, 1) := by decide +kernel
theorem dX11_punctuality_9 : decode cX11_punctuality 9 = .ok (.iconst 0, 1) := by decide +kernel
theorem dX11_punctuality_10 : decode cX11_punctuality 10 = .ok (.istore_n 3, 1) := by decide +kernel
theorem dX11_punctuality_11 : decode cX11_punctuality 11 = .ok (.iload_n 3, 1) := by decide +kernel
theorem dX11_punctuality_12 : decode cX11_punctuality 12 = .ok (.aload_n 0, 1) := by decide +kernel
theorem dX11_punctuality_13 : decode cX11_punctuality 13 = .ok (.invokevirtual 170, 3) := by decide +kernel
theorem dX11_punctuality_16 : decode cX11_punctuality 16 = .ok (.if_icmp .ge 41, 3) := by decide +kernel
theorem dX11_punctuality_19 : decode cX11_punctuality 19 = .ok (.aload_n 0, 1) := by decide +kernel
theorem dX11_punctuality_20 : decode cX11_punctuality 20 = .ok (.iload_n 3, 1) := by decide +kernel
theorem dX11_punctuality_21 : decode cX11_punctuality 21 = .ok (.iconst 3, 1) := by decide +kernel
theorem dX11_punctuality_22 : decode cX11_punctuality 22 = .ok (.invokevirtual 67, 3) := by decide +kernel
theorem dX11_punctuality_25 : decode cX11_punctuality 25 = .ok (.iconst 2, 1) := by decide +kernel
theorem dX11_punctuality_26 : decode cX11_punctuality 26 = .ok (.if_icmp .eq 6, 3) := by decide +kernel
theorem dX11_punctuality_29 : decode cX11_punctuality 29 = .ok (.goto 22, 3) := by decide +kernel
theorem dX11_punctuality_32 : decode cX11_punctuality 32 = .ok (.iinc 1 1, 3) := by decide +kernel
theorem dX11_punctuality_35 : decode cX11_punctuality 35 = .ok (.iload_n 2, 1) := by decide +kernel
theorem dX11_punctuality_36 : decode cX11_punctuality 36 = .ok (.aload_n 0, 1) := by decide +kernel
theorem dX11_punctuality_37 : decode cX11_punctuality 37 = .ok (.iload_n 3, 1) := by decide +kernel
theorem dX11_punctuality_38 : decode cX11_punctuality 38 = .ok (.invokevirtual 301, 3) := by decide +kernel
theorem dX11_punctuality_41 : decode cX11_punctuality 41 = .ok (.ifCond .eq 7, 3) := by decide +kernel
theorem dX11_punctuality_44 : decode cX11_punctuality 44 = .ok (.iconst 0, 1) := by decide +kernel
theorem dX11_punctuality_45 : decode cX11_punctuality 45 = .ok (.goto 4, 3) := by decide +kernel
theorem dX11_punctuality_48 : decode cX11_punctuality 48 = .ok (.iconst 1, 1) := by decide +kernel
theorem dX11_punctuality_49 : decode cX11_punctuality 49 = .ok (.iadd, 1) := by decide +kernel
theorem dX11_punctuality_50 : decode cX11_punctuality 50 = .ok (.istore_n 2, 1) := by decide +kernel
theorem dX11_punctuality_51 : decode cX11_punctuality 51 = .ok (.iinc 3 1, 3) := by decide +kernel
theorem dX11_punctuality_54 : decode cX11_punctuality 54 = .ok (.goto (-43), 3) := by decide +kernel
theorem dX11_punctuality_57 : decode cX11_punctuality 57 = .ok (.iload_n 1, 1) := by decide +kernel
theorem dX11_punctuality_58 : decode cX11_punctuality 58 = .ok (.ifCond .ne 7, 3) := by decide +kernel
theorem dX11_punctuality_61 : decode cX11_punctuality 61 = .ok (.dconst 0, 1) := by decide +kernel
theorem dX11_punctuality_62 : decode cX11_punctuality 62 = .ok (.goto 8, 3) := by decide +kernel
theorem dX11_punctuality_65 : decode cX11_punctuality 65 = .ok (.iload_n 2, 1) := by decide +kernel
theorem dX11_punctuality_66 : decode cX11_punctuality 66 = .ok (.i2d, 1) := by decide +kernel
theorem dX11_punctuality_67 : decode cX11_punctuality 67 = .ok (.iload_n 1, 1) := by decide +kernel
theorem dX11_punctuality_68 : decode cX11_punctuality 68 = .ok (.i2d, 1) := by decide +kernel
theorem dX11_punctuality_69 : decode cX11_punctuality 69 = .ok (.ddiv, 1) := by decide +kernel
theorem dX11_punctuality_70 : decode cX11_punctuality 70 = .ok (.dreturn, 1) := by decide +kernel
theorem dX11_arrivalBy_0 : decode cX11_arrivalBy 0 = .ok (.aload_n 0, 1) := by decide +kernel
theorem dX11_arrivalBy_1 : decode cX11_arrivalBy 1 = .ok (.iconst 0, 1) := by decide +kernel
theorem dX11_arrivalBy_2 : decode cX11_arrivalBy 2 = .ok (.iconst 1, 1) := by decide +kernel
theorem dX11_arrivalBy_3 : decode cX11_arrivalBy 3 = .ok (.iload_n 1, 1) := by decide +kernel
theorem dX11_arrivalBy_4 : decode cX11_arrivalBy 4 = .ok (.ishl, 1) := by decide +kernel
theorem dX11_arrivalBy_5 : decode cX11_arrivalBy 5 = .ok (.aload_n 0, 1) := by decide +kernel
theorem dX11_arrivalBy_6 : decode cX11_arrivalBy 6 = .ok (.getfield 13, 3) := by decide +kernel
theorem dX11_arrivalBy_9 : decode cX11_arrivalBy 9 = .ok (.bipush 6, 2) := by decide +kernel
theorem dX11_arrivalBy_11 : decode cX11_arrivalBy 11 = .ok (.iaload, 1) := by decide +kernel
theorem dX11_arrivalBy_12 : decode cX11_arrivalBy 12 = .ok (.invokevirtual 225, 3) := by decide +kernel
theorem dX11_arrivalBy_15 : decode cX11_arrivalBy 15 = .ok (.aload_n 0, 1) := by decide +kernel
theorem dX11_arrivalBy_16 : decode cX11_arrivalBy 16 = .ok (.getfield 42, 3) := by decide +kernel
theorem dX11_arrivalBy_19 : decode cX11_arrivalBy 19 = .ok (.iload_n 2, 1) := by decide +kernel
theorem dX11_arrivalBy_20 : decode cX11_arrivalBy 20 = .ok (.iaload, 1) := by decide +kernel
theorem dX11_arrivalBy_21 : decode cX11_arrivalBy 21 = .ok (.ireturn, 1) := by decide +kernel
theorem dX11_promise_0 : decode cX11_promise 0 = .ok (.aload_n 0, 1) := by decide +kernel
theorem dX11_promise_1 : decode cX11_promise 1 = .ok (.iconst 0, 1) := by decide +kernel
theorem dX11_promise_2 : decode cX11_promise 2 = .ok (.putfield 3, 3) := by decide +kernel
theorem dX11_promise_5 : decode cX11_promise 5 = .ok (.aload_n 0, 1) := by decide +kernel
theorem dX11_promise_6 : decode cX11_promise 6 = .ok (.iload_n 1, 1) := by decide +kernel
theorem dX11_promise_7 : decode cX11_promise 7 = .ok (.iload_n 2, 1) := by decide +kernel
theorem dX11_promise_8 : decode cX11_promise 8 = .ok (.invokevirtual 307, 3) := by decide +kernel
theorem dX11_promise_11 : decode cX11_promise 11 = .ok (.ifCond .eq 5, 3) := by decide +kernel
theorem dX11_promise_14 : decode cX11_promise 14 = .ok (.iconst 0, 1) := by decide +kernel
theorem dX11_promise_15 : decode cX11_promise 15 = .ok (.ireturn, 1) := by decide +kernel
theorem dX11_promise_16 : decode cX11_promise 16 = .ok (.aload_n 0, 1) := by decide +kernel
theorem dX11_promise_17 : decode cX11_promise 17 = .ok (.iload_n 1, 1) := by decide +kernel
theorem dX11_promise_18 : decode cX11_promise 18 = .ok (.iload_n 2, 1) := by decide +kernel
theorem dX11_promise_19 : decode cX11_promise 19 = .ok (.invokevirtual 310, 3) := by decide +kernel
theorem dX11_promise_22 : decode cX11_promise 22 = .ok (.istore_n 3, 1) := by decide +kernel
theorem dX11_promise_23 : decode cX11_promise 23 = .ok (.iload_n 3, 1) := by decide +kernel
theorem dX11_promise_24 : decode cX11_promise 24 = .ok (.iconst (-1), 1) := by decide +kernel
theorem dX11_promise_25 : decode cX11_promise 25 = .ok (.if_icmp .ne 7, 3) := by decide +kernel
theorem dX11_promise_28 : decode cX11_promise 28 = .ok (.iconst (-1), 1) := by decide +kernel
theorem dX11_promise_29 : decode cX11_promise 29 = .ok (.goto 12, 3) := by decide +kernel
theorem dX11_promise_32 : decode cX11_promise 32 = .ok (.iload_n 3, 1) := by decide +kernel
theorem dX11_promise_33 : decode cX11_promise 33 = .ok (.aload_n 0, 1) := by decide +kernel
theorem dX11_promise_34 : decode cX11_promise 34 = .ok (.getfield 13, 3) := by decide +kernel
theorem dX11_promise_37 : decode cX11_promise 37 = .ok (.bipush 6, 2) := by decide +kernel
theorem dX11_promise_39 : decode cX11_promise 39 = .ok (.iaload, 1) := by decide +kernel
theorem dX11_promise_40 : decode cX11_promise 40 = .ok (.isub, 1) := by decide +kernel
theorem dX11_promise_41 : decode cX11_promise 41 = .ok (.ireturn, 1) := by decide +kernel
theorem dX11_promisedDays_0 : decode cX11_promisedDays 0 = .ok (.aload_n 0, 1) := by decide +kernel
theorem dX11_promisedDays_1 : decode cX11_promisedDays 1 = .ok (.iconst 0, 1) := by decide +kernel
theorem dX11_promisedDays_2 : decode cX11_promisedDays 2 = .ok (.putfield 3, 3) := by decide +kernel
theorem dX11_promisedDays_5 : decode cX11_promisedDays 5 = .ok (.aload_n 0, 1) := by decide +kernel
theorem dX11_promisedDays_6 : decode cX11_promisedDays 6 = .ok (.iload_n 1, 1) := by decide +kernel
theorem dX11_promisedDays_7 : decode cX11_promisedDays 7 = .ok (.iload_n 2, 1) := by decide +kernel
theorem dX11_promisedDays_8 : decode cX11_promisedDays 8 = .ok (.invokevirtual 307, 3) := by decide +kernel
theorem dX11_promisedDays_11 : decode cX11_promisedDays 11 = .ok (.ifCond .eq 5, 3) := by decide +kernel
theorem dX11_promisedDays_14 : decode cX11_promisedDays 14 = .ok (.iconst 0, 1) := by decide +kernel
theorem dX11_promisedDays_15 : decode cX11_promisedDays 15 = .ok (.ireturn, 1) := by decide +kernel
theorem dX11_promisedDays_16 : decode cX11_promisedDays 16 = .ok (.aload_n 0, 1) := by decide +kernel
theorem dX11_promisedDays_17 : decode cX11_promisedDays 17 = .ok (.iload_n 1, 1) := by decide +kernel
theorem dX11_promisedDays_18 : decode cX11_promisedDays 18 = .ok (.iload_n 2, 1) := by decide +kernel
theorem dX11_promisedDays_19 : decode cX11_promisedDays 19 = .ok (.invokevirtual 310, 3) := by decide +kernel
theorem dX11_promisedDays_22 : decode cX11_promisedDays 22 = .ok (.istore_n 3, 1) := by decide +kernel
theorem dX11_promisedDays_23 : decode cX11_promisedDays 23 = .ok (.iload_n 3, 1) := by decide +kernel
theorem dX11_promisedDays_24 : decode cX11_promisedDays 24 = .ok (.iconst (-1), 1) := by decide +kernel
theorem dX11_promisedDays_25 : decode cX11_promisedDays 25 = .ok (.if_icmp .ne 7, 3) := by decide +kernel
theorem dX11_promisedDays_28 : decode cX11_promisedDays 28 = .ok (.iconst (-1), 1) := by decide +kernel
theorem dX11_promisedDays_29 : decode cX11_promisedDays 29 = .ok (.goto 18, 3) := by decide +kernel
theorem dX11_promisedDays_32 : decode cX11_promisedDays 32 = .ok (.iload_n 3, 1) := by decide +kernel
theorem dX11_promisedDays_33 : decode cX11_promisedDays 33 = .ok (.bipush 24, 2) := by decide +kernel
theorem dX11_promisedDays_35 : decode cX11_promisedDays 35 = .ok (.idiv, 1) := by decide +kernel
theorem dX11_promisedDays_36 : decode cX11_promisedDays 36 = .ok (.aload_n 0, 1) := by decide +kernel
theorem dX11_promisedDays_37 : decode cX11_promisedDays 37 = .ok (.getfield 13, 3) := by decide +kernel
theorem dX11_promisedDays_40 : decode cX11_promisedDays 40 = .ok (.bipush 6, 2) := by decide +kernel
theorem dX11_promisedDays_42 : decode cX11_promisedDays 42 = .ok (.iaload, 1) := by decide +kernel
theorem dX11_promisedDays_43 : decode cX11_promisedDays 43 = .ok (.bipush 24, 2) := by decide +kernel
theorem dX11_promisedDays_45 : decode cX11_promisedDays 45 = .ok (.idiv, 1) := by decide +kernel
theorem dX11_promisedDays_46 : decode cX11_promisedDays 46 = .ok (.isub, 1) := by decide +kernel
theorem dX11_promisedDays_47 : decode cX11_promisedDays 47 = .ok (.ireturn, 1) := by decide +kernel
theorem dX11_reach_0 : decode cX11_reach 0 = .ok (.aload_n 0, 1) := by decide +kernel
theorem dX11_reach_1 : decode cX11_reach 1 = .ok (.iconst 0, 1) := by decide +kernel
theorem dX11_reach_2 : decode cX11_reach 2 = .ok (.putfield 3, 3) := by decide +kernel
theorem dX11_reach_5 : decode cX11_reach 5 = .ok (.aload_n 0, 1) := by decide +kernel
theorem dX11_reach_6 : decode cX11_reach 6 = .ok (.aload_n 0, 1) := by decide +kernel
theorem dX11_reach_7 : decode cX11_reach 7 = .ok (.iload_n 1, 1) := by decide +kernel
theorem dX11_reach_8 : decode cX11_reach 8 = .ok (.invokevirtual 166, 3) := by decide +kernel
theorem dX11_reach_11 : decode cX11_reach 11 = .ok (.ifCond .ne 7, 3) := by decide +kernel
theorem dX11_reach_14 : decode cX11_reach 14 = .ok (.iconst 1, 1) := by decide +kernel
theorem dX11_reach_15 : decode cX11_reach 15 = .ok (.goto 4, 3) := by decide +kernel
theorem dX11_reach_18 : decode cX11_reach 18 = .ok (.iconst 0, 1) := by decide +kernel
theorem dX11_reach_19 : decode cX11_reach 19 = .ok (.iconst 1, 1) := by decide +kernel
theorem dX11_reach_20 : decode cX11_reach 20 = .ok (.invokevirtual 215, 3) := by decide +kernel
theorem dX11_reach_23 : decode cX11_reach 23 = .ok (.ifCond .eq 5, 3) := by decide +kernel
theorem dX11_reach_26 : decode cX11_reach 26 = .ok (.iconst 0, 1) := by decide +kernel
theorem dX11_reach_27 : decode cX11_reach 27 = .ok (.ireturn, 1) := by decide +kernel
theorem dX11_reach_28 : decode cX11_reach 28 = .ok (.aload_n 0, 1) := by decide +kernel
theorem dX11_reach_29 : decode cX11_reach 29 = .ok (.iconst 0, 1) := by decide +kernel
theorem dX11_reach_30 : decode cX11_reach 30 = .ok (.iconst 1, 1) := by decide +kernel
theorem dX11_reach_31 : decode cX11_reach 31 = .ok (.iload_n 1, 1) := by decide +kernel
theorem dX11_reach_32 : decode cX11_reach 32 = .ok (.ishl, 1) := by decide +kernel
theorem dX11_reach_33 : decode cX11_reach 33 = .ok (.aload_n 0, 1) := by decide +kernel
theorem dX11_reach_34 : decode cX11_reach 34 = .ok (.getfield 13, 3) := by decide +kernel
theorem dX11_reach_37 : decode cX11_reach 37 = .ok (.bipush 6, 2) := by decide +kernel
theorem dX11_reach_39 : decode cX11_reach 39 = .ok (.iaload, 1) := by decide +kernel
theorem dX11_reach_40 : decode cX11_reach 40 = .ok (.invokevirtual 225, 3) := by decide +kernel
theorem dX11_reach_43 : decode cX11_reach 43 = .ok (.iconst 0, 1) := by decide +kernel
theorem dX11_reach_44 : decode cX11_reach 44 = .ok (.istore_n 2, 1) := by decide +kernel
theorem dX11_reach_45 : decode cX11_reach 45 = .ok (.iconst 0, 1) := by decide +kernel
theorem dX11_reach_46 : decode cX11_reach 46 = .ok (.istore_n 3, 1) := by decide +kernel
theorem dX11_reach_47 : decode cX11_reach 47 = .ok (.iload_n 3, 1) := by decide +kernel
theorem dX11_reach_48 : decode cX11_reach 48 = .ok (.aload_n 0, 1) := by decide +kernel
theorem dX11_reach_49 : decode cX11_reach 49 = .ok (.invokevirtual 75, 3) := by decide +kernel
theorem dX11_reach_52 : decode cX11_reach 52 = .ok (.if_icmp .ge 42, 3) := by decide +kernel
theorem dX11_reach_55 : decode cX11_reach 55 = .ok (.iload_n 2, 1) := by decide +kernel
theorem dX11_reach_56 : decode cX11_reach 56 = .ok (.iload_n 3, 1) := by decide +kernel
theorem dX11_reach_57 : decode cX11_reach 57 = .ok (.iload_n 1, 1) := by decide +kernel
theorem dX11_reach_58 : decode cX11_reach 58 = .ok (.if_icmp .eq 27, 3) := by decide +kernel
theorem dX11_reach_61 : decode cX11_reach 61 = .ok (.aload_n 0, 1) := by decide +kernel
theorem dX11_reach_62 : decode cX11_reach 62 = .ok (.iload_n 3, 1) := by decide +kernel
theorem dX11_reach_63 : decode cX11_reach 63 = .ok (.invokevirtual 166, 3) := by decide +kernel
theorem dX11_reach_66 : decode cX11_reach 66 = .ok (.ifCond .eq 19, 3) := by decide +kernel
theorem dX11_reach_69 : decode cX11_reach 69 = .ok (.aload_n 0, 1) := by decide +kernel
theorem dX11_reach_70 : decode cX11_reach 70 = .ok (.getfield 42, 3) := by decide +kernel
theorem dX11_reach_73 : decode cX11_reach 73 = .ok (.iload_n 3, 1) := by decide +kernel
theorem dX11_reach_74 : decode cX11_reach 74 = .ok (.iaload, 1) := by decide +kernel
theorem dX11_reach_75 : decode cX11_reach 75 = .ok (.iconst (-1), 1) := by decide +kernel
theorem dX11_reach_76 : decode cX11_reach 76 = .ok (.if_icmp .eq 9, 3) := by decide +kernel
theorem dX11_reach_79 : decode cX11_reach 79 = .ok (.iconst 1, 1) := by decide +kernel
theorem dX11_reach_80 : decode cX11_reach 80 = .ok (.iload_n 3, 1) := by decide +kernel
theorem dX11_reach_81 : decode cX11_reach 81 = .ok (.ishl, 1) := by decide +kernel
theorem dX11_reach_82 : decode cX11_reach 82 = .ok (.goto 4, 3) := by decide +kernel
theorem dX11_reach_85 : decode cX11_reach 85 = .ok (.iconst 0, 1) := by decide +kernel
theorem dX11_reach_86 : decode cX11_reach 86 = .ok (.ior, 1) := by decide +kernel
theorem dX11_reach_87 : decode cX11_reach 87 = .ok (.istore_n 2, 1) := by decide +kernel
theorem dX11_reach_88 : decode cX11_reach 88 = .ok (.iinc 3 1, 3) := by decide +kernel
theorem dX11_reach_91 : decode cX11_reach 91 = .ok (.goto (-44), 3) := by decide +kernel
theorem dX11_reach_94 : decode cX11_reach 94 = .ok (.iload_n 2, 1) := by decide +kernel
theorem dX11_reach_95 : decode cX11_reach 95 = .ok (.ireturn, 1) := by decide +kernel
theorem dX11_bestWait_0 : decode cX11_bestWait 0 = .ok (.aload_n 0, 1) := by decide +kernel
theorem dX11_bestWait_1 : decode cX11_bestWait 1 = .ok (.iconst 0, 1) := by decide +kernel
theorem dX11_bestWait_2 : decode cX11_bestWait 2 = .ok (.putfield 3, 3) := by decide +kernel
theorem dX11_bestWait_5 : decode cX11_bestWait 5 = .ok (.aload_n 0, 1) := by decide +kernel
theorem dX11_bestWait_6 : decode cX11_bestWait 6 = .ok (.iload_n 1, 1) := by decide +kernel
theorem dX11_bestWait_7 : decode cX11_bestWait 7 = .ok (.iload_n 2, 1) := by decide +kernel
theorem dX11_bestWait_8 : decode cX11_bestWait 8 = .ok (.invokevirtual 307, 3) := by decide +kernel
theorem dX11_bestWait_11 : decode cX11_bestWait 11 = .ok (.ifCond .eq 5, 3) := by decide +kernel
theorem dX11_bestWait_14 : decode cX11_bestWait 14 = .ok (.iconst 0, 1) := by decide +kernel
theorem dX11_bestWait_15 : decode cX11_bestWait 15 = .ok (.ireturn, 1) := by decide +kernel
theorem dX11_bestWait_16 : decode cX11_bestWait 16 = .ok (.iconst (-1), 1) := by decide +kernel
theorem dX11_bestWait_17 : decode cX11_bestWait 17 = .ok (.istore_n 3, 1) := by decide +kernel
theorem dX11_bestWait_18 : decode cX11_bestWait 18 = .ok (.iconst 0, 1) := by decide +kernel
theorem dX11_bestWait_19 : decode cX11_bestWait 19 = .ok (.istore 4, 2) := by decide +kernel
theorem dX11_bestWait_21 : decode cX11_bestWait 21 = .ok (.aload_n 0, 1) := by decide +kernel
theorem dX11_bestWait_22 : decode cX11_bestWait 22 = .ok (.invokevirtual 231, 3) := by decide +kernel
theorem dX11_bestWait_25 : decode cX11_bestWait 25 = .ok (.iconst 0, 1) := by decide +kernel
theorem dX11_bestWait_26 : decode cX11_bestWait 26 = .ok (.istore 5, 2) := by decide +kernel
theorem dX11_bestWait_28 : decode cX11_bestWait 28 = .ok (.iload 5, 2) := by decide +kernel
theorem dX11_bestWait_30 : decode cX11_bestWait 30 = .ok (.sipush 168, 3) := by decide +kernel
theorem dX11_bestWait_33 : decode cX11_bestWait 33 = .ok (.if_icmp .ge 91, 3) := by decide +kernel
theorem dX11_bestWait_36 : decode cX11_bestWait 36 = .ok (.aload_n 0, 1) := by decide +kernel
theorem dX11_bestWait_37 : decode cX11_bestWait 37 = .ok (.getfield 13, 3) := by decide +kernel
theorem dX11_bestWait_40 : decode cX11_bestWait 40 = .ok (.bipush 6, 2) := by decide +kernel
theorem dX11_bestWait_42 : decode cX11_bestWait 42 = .ok (.iaload, 1) := by decide +kernel
theorem dX11_bestWait_43 : decode cX11_bestWait 43 = .ok (.iload 5, 2) := by decide +kernel
theorem dX11_bestWait_45 : decode cX11_bestWait 45 = .ok (.iadd, 1) := by decide +kernel
theorem dX11_bestWait_46 : decode cX11_bestWait 46 = .ok (.istore 6, 2) := by decide +kernel
theorem dX11_bestWait_48 : decode cX11_bestWait 48 = .ok (.aload_n 0, 1) := by decide +kernel
theorem dX11_bestWait_49 : decode cX11_bestWait 49 = .ok (.iconst 0, 1) := by decide +kernel
theorem dX11_bestWait_50 : decode cX11_bestWait 50 = .ok (.iconst 1, 1) := by decide +kernel
theorem dX11_bestWait_51 : decode cX11_bestWait 51 = .ok (.iload_n 1, 1) := by decide +kernel
theorem dX11_bestWait_52 : decode cX11_bestWait 52 = .ok (.ishl, 1) := by decide +kernel
theorem dX11_bestWait_53 : decode cX11_bestWait 53 = .ok (.iload 6, 2) := by decide +kernel
theorem dX11_bestWait_55 : decode cX11_bestWait 55 = .ok (.invokevirtual 234, 3) := by decide +kernel
theorem dX11_bestWait_58 : decode cX11_bestWait 58 = .ok (.aload_n 0, 1) := by decide +kernel
theorem dX11_bestWait_59 : decode cX11_bestWait 59 = .ok (.getfield 42, 3) := by decide +kernel
theorem dX11_bestWait_62 : decode cX11_bestWait 62 = .ok (.iload_n 2, 1) := by decide +kernel
theorem dX11_bestWait_63 : decode cX11_bestWait 63 = .ok (.iaload, 1) := by decide +kernel
theorem dX11_bestWait_64 : decode cX11_bestWait 64 = .ok (.iconst (-1), 1) := by decide +kernel
theorem dX11_bestWait_65 : decode cX11_bestWait 65 = .ok (.if_icmp .ne 7, 3) := by decide +kernel
theorem dX11_bestWait_68 : decode cX11_bestWait 68 = .ok (.iconst (-1), 1) := by decide +kernel
theorem dX11_bestWait_69 : decode cX11_bestWait 69 = .ok (.goto 12, 3) := by decide +kernel
theorem dX11_bestWait_72 : decode cX11_bestWait 72 = .ok (.aload_n 0, 1) := by decide +kernel
theorem dX11_bestWait_73 : decode cX11_bestWait 73 = .ok (.getfield 42, 3) := by decide +kernel
theorem dX11_bestWait_76 : decode cX11_bestWait 76 = .ok (.iload_n 2, 1) := by decide +kernel
theorem dX11_bestWait_77 : decode cX11_bestWait 77 = .ok (.iaload, 1) := by decide +kernel
theorem dX11_bestWait_78 : decode cX11_bestWait 78 = .ok (.iload 6, 2) := by decide +kernel
theorem dX11_bestWait_80 : decode cX11_bestWait 80 = .ok (.isub, 1) := by decide +kernel
theorem dX11_bestWait_81 : decode cX11_bestWait 81 = .ok (.istore 7, 2) := by decide +kernel
theorem dX11_bestWait_83 : decode cX11_bestWait 83 = .ok (.iload 7, 2) := by decide +kernel
theorem dX11_bestWait_85 : decode cX11_bestWait 85 = .ok (.iconst (-1), 1) := by decide +kernel
theorem dX11_bestWait_86 : decode cX11_bestWait 86 = .ok (.if_icmp .eq 22, 3) := by decide +kernel
theorem dX11_bestWait_89 : decode cX11_bestWait 89 = .ok (.iload_n 3, 1) := by decide +kernel
theorem dX11_bestWait_90 : decode cX11_bestWait 90 = .ok (.iconst (-1), 1) := by decide +kernel
theorem dX11_bestWait_91 : decode cX11_bestWait 91 = .ok (.if_icmp .eq 10, 3) := by decide +kernel
theorem dX11_bestWait_94 : decode cX11_bestWait 94 = .ok (.iload 7, 2) := by decide +kernel
theorem dX11_bestWait_96 : decode cX11_bestWait 96 = .ok (.iload 4, 2) := by decide +kernel
theorem dX11_bestWait_98 : decode cX11_bestWait 98 = .ok (.if_icmp .ge 10, 3) := by decide +kernel
theorem dX11_bestWait_101 : decode cX11_bestWait 101 = .ok (.iload 5, 2) := by decide +kernel
theorem dX11_bestWait_103 : decode cX11_bestWait 103 = .ok (.istore_n 3, 1) := by decide +kernel
theorem dX11_bestWait_104 : decode cX11_bestWait 104 = .ok (.iload 7, 2) := by decide +kernel
theorem dX11_bestWait_106 : decode cX11_bestWait 106 = .ok (.istore 4, 2) := by decide +kernel
theorem dX11_bestWait_108 : decode cX11_bestWait 108 = .ok (.aload_n 0, 1) := by decide +kernel
theorem dX11_bestWait_109 : decode cX11_bestWait 109 = .ok (.iload 6, 2) := by decide +kernel
theorem dX11_bestWait_111 : decode cX11_bestWait 111 = .ok (.aload_n 0, 1) := by decide +kernel
theorem dX11_bestWait_112 : decode cX11_bestWait 112 = .ok (.getfield 39, 3) := by decide +kernel
theorem dX11_bestWait_115 : decode cX11_bestWait 115 = .ok (.invokevirtual 237, 3) := by decide +kernel
theorem dX11_bestWait_118 : decode cX11_bestWait 118 = .ok (.iinc 5 1, 3) := by decide +kernel
theorem dX11_bestWait_121 : decode cX11_bestWait 121 = .ok (.goto (-93), 3) := by decide +kernel
theorem dX11_bestWait_124 : decode cX11_bestWait 124 = .ok (.iload_n 3, 1) := by decide +kernel
theorem dX11_bestWait_125 : decode cX11_bestWait 125 = .ok (.ireturn, 1) := by decide +kernel
theorem dX11_expected_0 : decode cX11_expected 0 = .ok (.aload_n 0, 1) := by decide +kernel
theorem dX11_expected_1 : decode cX11_expected 1 = .ok (.iconst 0, 1) := by decide +kernel
theorem dX11_expected_2 : decode cX11_expected 2 = .ok (.putfield 3, 3) := by decide +kernel
theorem dX11_expected_5 : decode cX11_expected 5 = .ok (.aload_n 0, 1) := by decide +kernel
theorem dX11_expected_6 : decode cX11_expected 6 = .ok (.iload_n 1, 1) := by decide +kernel
theorem dX11_expected_7 : decode cX11_expected 7 = .ok (.invokevirtual 298, 3) := by decide +kernel
theorem dX11_expected_10 : decode cX11_expected 10 = .ok (.ifCond .eq 5, 3) := by decide +kernel
theorem dX11_expected_13 : decode cX11_expected 13 = .ok (.iconst 0, 1) := by decide +kernel
theorem dX11_expected_14 : decode cX11_expected 14 = .ok (.ireturn, 1) := by decide +kernel
theorem dX11_expected_15 : decode cX11_expected 15 = .ok (.aload_n 0, 1) := by decide +kernel
theorem dX11_expected_16 : decode cX11_expected 16 = .ok (.iload_n 1, 1) := by decide +kernel
theorem dX11_expected_17 : decode cX11_expected 17 = .ok (.iconst 3, 1) := by decide +kernel
theorem dX11_expected_18 : decode cX11_expected 18 = .ok (.invokevirtual 67, 3) := by decide +kernel
theorem dX11_expected_21 : decode cX11_expected 21 = .ok (.istore_n 2, 1) := by decide +kernel
theorem dX11_expected_22 : decode cX11_expected 22 = .ok (.iload_n 2, 1) := by decide +kernel
theorem dX11_expected_23 : decode cX11_expected 23 = .ok (.ifCond .eq 10, 3) := by decide +kernel
theorem dX11_expected_26 : decode cX11_expected 26 = .ok (.iload_n 2, 1) := by decide +kernel
theorem dX11_expected_27 : decode cX11_expected 27 = .ok (.iconst 1, 1) := by decide +kernel
theorem dX11_expected_28 : decode cX11_expected 28 = .ok (.if_icmp .eq 5, 3) := by decide +kernel
theorem dX11_expected_31 : decode cX11_expected 31 = .ok (.iconst (-1), 1) := by decide +kernel
theorem dX11_expected_32 : decode cX11_expected 32 = .ok (.ireturn, 1) := by decide +kernel
theorem dX11_expected_33 : decode cX11_expected 33 = .ok (.iconst 1, 1) := by decide +kernel
theorem dX11_expected_34 : decode cX11_expected 34 = .ok (.aload_n 0, 1) := by decide +kernel
theorem dX11_expected_35 : decode cX11_expected 35 = .ok (.iload_n 1, 1) := by decide +kernel
theorem dX11_expected_36 : decode cX11_expected 36 = .ok (.iconst 4, 1) := by decide +kernel
theorem dX11_expected_37 : decode cX11_expected 37 = .ok (.invokevirtual 67, 3) := by decide +kernel
theorem dX11_expected_40 : decode cX11_expected 40 = .ok (.ishl, 1) := by decide +kernel
theorem dX11_expected_41 : decode cX11_expected 41 = .ok (.istore_n 3, 1) := by decide +kernel
theorem dX11_expected_42 : decode cX11_expected 42 = .ok (.aload_n 0, 1) := by decide +kernel
theorem dX11_expected_43 : decode cX11_expected 43 = .ok (.iload_n 2, 1) := by decide +kernel
theorem dX11_expected_44 : decode cX11_expected 44 = .ok (.iconst 1, 1) := by decide +kernel
theorem dX11_expected_45 : decode cX11_expected 45 = .ok (.if_icmp .ne 7, 3) := by decide +kernel
theorem dX11_expected_48 : decode cX11_expected 48 = .ok (.iload_n 3, 1) := by decide +kernel
theorem dX11_expected_49 : decode cX11_expected 49 = .ok (.goto 4, 3) := by decide +kernel
theorem dX11_expected_52 : decode cX11_expected 52 = .ok (.iconst 0, 1) := by decide +kernel
theorem dX11_expected_53 : decode cX11_expected 53 = .ok (.iload_n 2, 1) := by decide +kernel
theorem dX11_expected_54 : decode cX11_expected 54 = .ok (.iconst 1, 1) := by decide +kernel
theorem dX11_expected_55 : decode cX11_expected 55 = .ok (.if_icmp .ne 7, 3) := by decide +kernel
theorem dX11_expected_58 : decode cX11_expected 58 = .ok (.iconst 0, 1) := by decide +kernel
theorem dX11_expected_59 : decode cX11_expected 59 = .ok (.goto 4, 3) := by decide +kernel
theorem dX11_expected_62 : decode cX11_expected 62 = .ok (.iload_n 3, 1) := by decide +kernel
theorem dX11_expected_63 : decode cX11_expected 63 = .ok (.aload_n 0, 1) := by decide +kernel
theorem dX11_expected_64 : decode cX11_expected 64 = .ok (.getfield 13, 3) := by decide +kernel
theorem dX11_expected_67 : decode cX11_expected 67 = .ok (.bipush 6, 2) := by decide +kernel
theorem dX11_expected_69 : decode cX11_expected 69 = .ok (.iaload, 1) := by decide +kernel
theorem dX11_expected_70 : decode cX11_expected 70 = .ok (.invokevirtual 225, 3) := by decide +kernel
theorem dX11_expected_73 : decode cX11_expected 73 = .ok (.aload_n 0, 1) := by decide +kernel
theorem dX11_expected_74 : decode cX11_expected 74 = .ok (.getfield 42, 3) := by decide +kernel
theorem dX11_expected_77 : decode cX11_expected 77 = .ok (.aload_n 0, 1) := by decide +kernel
theorem dX11_expected_78 : decode cX11_expected 78 = .ok (.iload_n 1, 1) := by decide +kernel
theorem dX11_expected_79 : decode cX11_expected 79 = .ok (.iconst 1, 1) := by decide +kernel
theorem dX11_expected_80 : decode cX11_expected 80 = .ok (.invokevirtual 67, 3) := by decide +kernel
theorem dX11_expected_83 : decode cX11_expected 83 = .ok (.iaload, 1) := by decide +kernel
theorem dX11_expected_84 : decode cX11_expected 84 = .ok (.istore 4, 2) := by decide +kernel
theorem dX11_expected_86 : decode cX11_expected 86 = .ok (.iload 4, 2) := by decide +kernel
theorem dX11_expected_88 : decode cX11_expected 88 = .ok (.iconst (-1), 1) := by decide +kernel
theorem dX11_expected_89 : decode cX11_expected 89 = .ok (.if_icmp .ne 7, 3) := by decide +kernel
theorem dX11_expected_92 : decode cX11_expected 92 = .ok (.iconst (-1), 1) := by decide +kernel
theorem dX11_expected_93 : decode cX11_expected 93 = .ok (.goto 13, 3) := by decide +kernel
theorem dX11_expected_96 : decode cX11_expected 96 = .ok (.iload 4, 2) := by decide +kernel
theorem dX11_expected_98 : decode cX11_expected 98 = .ok (.aload_n 0, 1) := by decide +kernel
theorem dX11_expected_99 : decode cX11_expected 99 = .ok (.getfield 13, 3) := by decide +kernel
theorem dX11_expected_102 : decode cX11_expected 102 = .ok (.bipush 6, 2) := by decide +kernel
theorem dX11_expected_104 : decode cX11_expected 104 = .ok (.iaload, 1) := by decide +kernel
theorem dX11_expected_105 : decode cX11_expected 105 = .ok (.isub, 1) := by decide +kernel
theorem dX11_expected_106 : decode cX11_expected 106 = .ok (.ireturn, 1) := by decide +kernel
theorem dX11_receipt_0 : decode cX11_receipt 0 = .ok (.aload_n 0, 1) := by decide +kernel
theorem dX11_receipt_1 : decode cX11_receipt 1 = .ok (.iconst 0, 1) := by decide +kernel
theorem dX11_receipt_2 : decode cX11_receipt 2 = .ok (.putfield 3, 3) := by decide +kernel
theorem dX11_receipt_5 : decode cX11_receipt 5 = .ok (.aload_n 0, 1) := by decide +kernel
theorem dX11_receipt_6 : decode cX11_receipt 6 = .ok (.iload_n 2, 1) := by decide +kernel
theorem dX11_receipt_7 : decode cX11_receipt 7 = .ok (.iconst 0, 1) := by decide +kernel
theorem dX11_receipt_8 : decode cX11_receipt 8 = .ok (.iconst 4, 1) := by decide +kernel
theorem dX11_receipt_9 : decode cX11_receipt 9 = .ok (.invokestatic 79, 3) := by decide +kernel
theorem dX11_receipt_12 : decode cX11_receipt 12 = .ok (.ifCond .ne 7, 3) := by decide +kernel
theorem dX11_receipt_15 : decode cX11_receipt 15 = .ok (.iconst 1, 1) := by decide +kernel
theorem dX11_receipt_16 : decode cX11_receipt 16 = .ok (.goto 4, 3) := by decide +kernel
theorem dX11_receipt_19 : decode cX11_receipt 19 = .ok (.iconst 0, 1) := by decide +kernel
theorem dX11_receipt_20 : decode cX11_receipt 20 = .ok (.iconst 1, 1) := by decide +kernel
theorem dX11_receipt_21 : decode cX11_receipt 21 = .ok (.invokevirtual 215, 3) := by decide +kernel
theorem dX11_receipt_24 : decode cX11_receipt 24 = .ok (.ifCond .eq 5, 3) := by decide +kernel
theorem dX11_receipt_27 : decode cX11_receipt 27 = .ok (.iconst 0, 1) := by decide +kernel
theorem dX11_receipt_28 : decode cX11_receipt 28 = .ok (.ireturn, 1) := by decide +kernel
theorem dX11_receipt_29 : decode cX11_receipt 29 = .ok (.iload_n 1, 1) := by decide +kernel
theorem dX11_receipt_30 : decode cX11_receipt 30 = .ok (.iconst 0, 1) := by decide +kernel
theorem dX11_receipt_31 : decode cX11_receipt 31 = .ok (.aload_n 0, 1) := by decide +kernel
theorem dX11_receipt_32 : decode cX11_receipt 32 = .ok (.getfield 13, 3) := by decide +kernel
theorem dX11_receipt_35 : decode cX11_receipt 35 = .ok (.iconst 4, 1) := by decide +kernel
theorem dX11_receipt_36 : decode cX11_receipt 36 = .ok (.iaload, 1) := by decide +kernel
theorem dX11_receipt_37 : decode cX11_receipt 37 = .ok (.iconst 1, 1) := by decide +kernel
theorem dX11_receipt_38 : decode cX11_receipt 38 = .ok (.isub, 1) := by decide +kernel
theorem dX11_receipt_39 : decode cX11_receipt 39 = .ok (.invokestatic 79, 3) := by decide +kernel
theorem dX11_receipt_42 : decode cX11_receipt 42 = .ok (.ifCond .eq 20, 3) := by decide +kernel
theorem dX11_receipt_45 : decode cX11_receipt 45 = .ok (.aload_n 0, 1) := by decide +kernel
theorem dX11_receipt_46 : decode cX11_receipt 46 = .ok (.getfield 13, 3) := by decide +kernel
theorem dX11_receipt_49 : decode cX11_receipt 49 = .ok (.sipush 858, 3) := by decide +kernel
theorem dX11_receipt_52 : decode cX11_receipt 52 = .ok (.iconst 5, 1) := by decide +kernel
theorem dX11_receipt_53 : decode cX11_receipt 53 = .ok (.iload_n 1, 1) := by decide +kernel
theorem dX11_receipt_54 : decode cX11_receipt 54 = .ok (.imul, 1) := by decide +kernel
theorem dX11_receipt_55 : decode cX11_receipt 55 = .ok (.iadd, 1) := by decide +kernel
theorem dX11_receipt_56 : decode cX11_receipt 56 = .ok (.iload_n 2, 1) := by decide +kernel
theorem dX11_receipt_57 : decode cX11_receipt 57 = .ok (.iadd, 1) := by decide +kernel
theorem dX11_receipt_58 : decode cX11_receipt 58 = .ok (.iaload, 1) := by decide +kernel
theorem dX11_receipt_59 : decode cX11_receipt 59 = .ok (.goto 4, 3) := by decide +kernel
theorem dX11_receipt_62 : decode cX11_receipt 62 = .ok (.iconst (-1), 1) := by decide +kernel
theorem dX11_receipt_63 : decode cX11_receipt 63 = .ok (.ireturn, 1) := by decide +kernel
theorem dX11_lastReceipt_0 : decode cX11_lastReceipt 0 = .ok (.aload_n 0, 1) := by decide +kernel
theorem dX11_lastReceipt_1 : decode cX11_lastReceipt 1 = .ok (.iconst 0, 1) := by decide +kernel
theorem dX11_lastReceipt_2 : decode cX11_lastReceipt 2 = .ok (.putfield 3, 3) := by decide +kernel
theorem dX11_lastReceipt_5 : decode cX11_lastReceipt 5 = .ok (.aload_n 0, 1) := by decide +kernel
theorem dX11_lastReceipt_6 : decode cX11_lastReceipt 6 = .ok (.iload_n 1, 1) := by decide +kernel
theorem dX11_lastReceipt_7 : decode cX11_lastReceipt 7 = .ok (.invokevirtual 298, 3) := by decide +kernel
theorem dX11_lastReceipt_10 : decode cX11_lastReceipt 10 = .ok (.ifCond .eq 5, 3) := by decide +kernel
theorem dX11_lastReceipt_13 : decode cX11_lastReceipt 13 = .ok (.iconst 0, 1) := by decide +kernel
theorem dX11_lastReceipt_14 : decode cX11_lastReceipt 14 = .ok (.ireturn, 1) := by decide +kernel
theorem dX11_lastReceipt_15 : decode cX11_lastReceipt 15 = .ok (.iconst 0, 1) := by decide +kernel
theorem dX11_lastReceipt_16 : decode cX11_lastReceipt 16 = .ok (.istore_n 2, 1) := by decide +kernel
theorem dX11_lastReceipt_17 : decode cX11_lastReceipt 17 = .ok (.iload_n 2, 1) := by decide +kernel
theorem dX11_lastReceipt_18 : decode cX11_lastReceipt 18 = .ok (.aload_n 0, 1) := by decide +kernel
theorem dX11_lastReceipt_19 : decode cX11_lastReceipt 19 = .ok (.getfield 13, 3) := by decide +kernel
theorem dX11_lastReceipt_22 : decode cX11_lastReceipt 22 = .ok (.iconst 4, 1) := by decide +kernel
theorem dX11_lastReceipt_23 : decode cX11_lastReceipt 23 = .ok (.iaload, 1) := by decide +kernel
theorem dX11_lastReceipt_24 : decode cX11_lastReceipt 24 = .ok (.if_icmp .ge 29, 3) := by decide +kernel
theorem dX11_lastReceipt_27 : decode cX11_lastReceipt 27 = .ok (.aload_n 0, 1) := by decide +kernel
theorem dX11_lastReceipt_28 : decode cX11_lastReceipt 28 = .ok (.getfield 13, 3) := by decide +kernel
theorem dX11_lastReceipt_31 : decode cX11_lastReceipt 31 = .ok (.sipush 858, 3) := by decide +kernel
theorem dX11_lastReceipt_34 : decode cX11_lastReceipt 34 = .ok (.iconst 5, 1) := by decide +kernel
theorem dX11_lastReceipt_35 : decode cX11_lastReceipt 35 = .ok (.iload_n 2, 1) := by decide +kernel
theorem dX11_lastReceipt_36 : decode cX11_lastReceipt 36 = .ok (.imul, 1) := by decide +kernel
theorem dX11_lastReceipt_37 : decode cX11_lastReceipt 37 = .ok (.iadd, 1) := by decide +kernel
theorem dX11_lastReceipt_38 : decode cX11_lastReceipt 38 = .ok (.iconst 1, 1) := by decide +kernel
theorem dX11_lastReceipt_39 : decode cX11_lastReceipt 39 = .ok (.iadd, 1) := by decide +kernel
theorem dX11_lastReceipt_40 : decode cX11_lastReceipt 40 = .ok (.iaload, 1) := by decide +kernel
theorem dX11_lastReceipt_41 : decode cX11_lastReceipt 41 = .ok (.iload_n 1, 1) := by decide +kernel
theorem dX11_lastReceipt_42 : decode cX11_lastReceipt 42 = .ok (.if_icmp .ne 5, 3) := by decide +kernel
theorem dX11_lastReceipt_45 : decode cX11_lastReceipt 45 = .ok (.iload_n 2, 1) := by decide +kernel
theorem dX11_lastReceipt_46 : decode cX11_lastReceipt 46 = .ok (.ireturn, 1) := by decide +kernel
theorem dX11_lastReceipt_47 : decode cX11_lastReceipt 47 = .ok (.iinc 2 1, 3) := by decide +kernel
theorem dX11_lastReceipt_50 : decode cX11_lastReceipt 50 = .ok (.goto (-33), 3) := by decide +kernel
theorem dX11_lastReceipt_53 : decode cX11_lastReceipt 53 = .ok (.iconst (-1), 1) := by decide +kernel
theorem dX11_lastReceipt_54 : decode cX11_lastReceipt 54 = .ok (.ireturn, 1) := by decide +kernel
theorem dX11_lostSack_0 : decode cX11_lostSack 0 = .ok (.aload_n 0, 1) := by decide +kernel
theorem dX11_lostSack_1 : decode cX11_lostSack 1 = .ok (.iconst 0, 1) := by decide +kernel
theorem dX11_lostSack_2 : decode cX11_lostSack 2 = .ok (.putfield 3, 3) := by decide +kernel
theorem dX11_lostSack_5 : decode cX11_lostSack 5 = .ok (.aload_n 0, 1) := by decide +kernel
theorem dX11_lostSack_6 : decode cX11_lostSack 6 = .ok (.iload_n 1, 1) := by decide +kernel
theorem dX11_lostSack_7 : decode cX11_lostSack 7 = .ok (.invokevirtual 313, 3) := by decide +kernel
theorem dX11_lostSack_10 : decode cX11_lostSack 10 = .ok (.ifCond .ne 25, 3) := by decide +kernel
theorem dX11_lostSack_13 : decode cX11_lostSack 13 = .ok (.aload_n 0, 1) := by decide +kernel
theorem dX11_lostSack_14 : decode cX11_lostSack 14 = .ok (.iload_n 2, 1) := by decide +kernel
theorem dX11_lostSack_15 : decode cX11_lostSack 15 = .ok (.iconst 0, 1) := by decide +kernel
theorem dX11_lostSack_16 : decode cX11_lostSack 16 = .ok (.iconst 3, 1) := by decide +kernel
theorem dX11_lostSack_17 : decode cX11_lostSack 17 = .ok (.invokestatic 79, 3) := by decide +kernel
theorem dX11_lostSack_20 : decode cX11_lostSack 20 = .ok (.ifCond .ne 7, 3) := by decide +kernel
theorem dX11_lostSack_23 : decode cX11_lostSack 23 = .ok (.iconst 1, 1) := by decide +kernel
theorem dX11_lostSack_24 : decode cX11_lostSack 24 = .ok (.goto 4, 3) := by decide +kernel
theorem dX11_lostSack_27 : decode cX11_lostSack 27 = .ok (.iconst 0, 1) := by decide +kernel
theorem dX11_lostSack_28 : decode cX11_lostSack 28 = .ok (.iconst 2, 1) := by decide +kernel
theorem dX11_lostSack_29 : decode cX11_lostSack 29 = .ok (.invokevirtual 215, 3) := by decide +kernel
theorem dX11_lostSack_32 : decode cX11_lostSack 32 = .ok (.ifCond .eq 5, 3) := by decide +kernel
theorem dX11_lostSack_35 : decode cX11_lostSack 35 = .ok (.iconst 0, 1) := by decide +kernel
theorem dX11_lostSack_36 : decode cX11_lostSack 36 = .ok (.ireturn, 1) := by decide +kernel
theorem dX11_lostSack_37 : decode cX11_lostSack 37 = .ok (.iload_n 2, 1) := by decide +kernel
theorem dX11_lostSack_38 : decode cX11_lostSack 38 = .ok (.iconst 2, 1) := by decide +kernel
theorem dX11_lostSack_39 : decode cX11_lostSack 39 = .ok (.if_icmp .ge 20, 3) := by decide +kernel
theorem dX11_lostSack_42 : decode cX11_lostSack 42 = .ok (.aload_n 0, 1) := by decide +kernel
theorem dX11_lostSack_43 : decode cX11_lostSack 43 = .ok (.getfield 13, 3) := by decide +kernel
theorem dX11_lostSack_46 : decode cX11_lostSack 46 = .ok (.sipush 798, 3) := by decide +kernel
theorem dX11_lostSack_49 : decode cX11_lostSack 49 = .ok (.iconst 2, 1) := by decide +kernel
theorem dX11_lostSack_50 : decode cX11_lostSack 50 = .ok (.iload_n 1, 1) := by decide +kernel
theorem dX11_lostSack_51 : decode cX11_lostSack 51 = .ok (.imul, 1) := by decide +kernel
theorem dX11_lostSack_52 : decode cX11_lostSack 52 = .ok (.iadd, 1) := by decide +kernel
theorem dX11_lostSack_53 : decode cX11_lostSack 53 = .ok (.iload_n 2, 1) := by decide +kernel
theorem dX11_lostSack_54 : decode cX11_lostSack 54 = .ok (.iadd, 1) := by decide +kernel
theorem dX11_lostSack_55 : decode cX11_lostSack 55 = .ok (.iaload, 1) := by decide +kernel
theorem dX11_lostSack_56 : decode cX11_lostSack 56 = .ok (.goto 23, 3) := by decide +kernel
theorem dX11_lostSack_59 : decode cX11_lostSack 59 = .ok (.iload_n 2, 1) := by decide +kernel
theorem dX11_lostSack_60 : decode cX11_lostSack 60 = .ok (.iconst 2, 1) := by decide +kernel
theorem dX11_lostSack_61 : decode cX11_lostSack 61 = .ok (.if_icmp .ne 12, 3) := by decide +kernel
theorem dX11_lostSack_64 : decode cX11_lostSack 64 = .ok (.aload_n 0, 1) := by decide +kernel
theorem dX11_lostSack_65 : decode cX11_lostSack 65 = .ok (.iconst 3, 1) := by decide +kernel
theorem dX11_lostSack_66 : decode cX11_lostSack 66 = .ok (.iload_n 1, 1) := by decide +kernel
theorem dX11_lostSack_67 : decode cX11_lostSack 67 = .ok (.invokevirtual 289, 3) := by decide +kernel
theorem dX11_lostSack_70 : decode cX11_lostSack 70 = .ok (.goto 9, 3) := by decide +kernel
theorem dX11_lostSack_73 : decode cX11_lostSack 73 = .ok (.aload_n 0, 1) := by decide +kernel
theorem dX11_lostSack_74 : decode cX11_lostSack 74 = .ok (.iconst 3, 1) := by decide +kernel
theorem dX11_lostSack_75 : decode cX11_lostSack 75 = .ok (.iload_n 1, 1) := by decide +kernel
theorem dX11_lostSack_76 : decode cX11_lostSack 76 = .ok (.invokevirtual 295, 3) := by decide +kernel
theorem dX11_lostSack_79 : decode cX11_lostSack 79 = .ok (.ireturn, 1) := by decide +kernel
theorem dX11_post_0 : decode cX11_post 0 = .ok (.aload_n 0, 1) := by decide +kernel
theorem dX11_post_1 : decode cX11_post 1 = .ok (.iconst 0, 1) := by decide +kernel
theorem dX11_post_2 : decode cX11_post 2 = .ok (.putfield 3, 3) := by decide +kernel
theorem dX11_post_5 : decode cX11_post 5 = .ok (.aload_n 0, 1) := by decide +kernel
theorem dX11_post_6 : decode cX11_post 6 = .ok (.iload_n 1, 1) := by decide +kernel
theorem dX11_post_7 : decode cX11_post 7 = .ok (.iload_n 2, 1) := by decide +kernel
theorem dX11_post_8 : decode cX11_post 8 = .ok (.invokevirtual 307, 3) := by decide +kernel
theorem dX11_post_11 : decode cX11_post 11 = .ok (.ifCond .ne 49, 3) := by decide +kernel
theorem dX11_post_14 : decode cX11_post 14 = .ok (.aload_n 0, 1) := by decide +kernel
theorem dX11_post_15 : decode cX11_post 15 = .ok (.iload_n 3, 1) := by decide +kernel
theorem dX11_post_16 : decode cX11_post 16 = .ok (.iconst 0, 1) := by decide +kernel
theorem dX11_post_17 : decode cX11_post 17 = .ok (.sipush 999, 3) := by decide +kernel
theorem dX11_post_20 : decode cX11_post 20 = .ok (.invokestatic 79, 3) := by decide +kernel
theorem dX11_post_23 : decode cX11_post 23 = .ok (.ifCond .ne 7, 3) := by decide +kernel
theorem dX11_post_26 : decode cX11_post 26 = .ok (.iconst 1, 1) := by decide +kernel
theorem dX11_post_27 : decode cX11_post 27 = .ok (.goto 4, 3) := by decide +kernel
theorem dX11_post_30 : decode cX11_post 30 = .ok (.iconst 0, 1) := by decide +kernel
theorem dX11_post_31 : decode cX11_post 31 = .ok (.iconst 1, 1) := by decide +kernel
theorem dX11_post_32 : decode cX11_post 32 = .ok (.invokevirtual 215, 3) := by decide +kernel
theorem dX11_post_35 : decode cX11_post 35 = .ok (.ifCond .ne 25, 3) := by decide +kernel
theorem dX11_post_38 : decode cX11_post 38 = .ok (.aload_n 0, 1) := by decide +kernel
theorem dX11_post_39 : decode cX11_post 39 = .ok (.aload_n 0, 1) := by decide +kernel
theorem dX11_post_40 : decode cX11_post 40 = .ok (.invokevirtual 170, 3) := by decide +kernel
theorem dX11_post_43 : decode cX11_post 43 = .ok (.bipush 30, 2) := by decide +kernel
theorem dX11_post_45 : decode cX11_post 45 = .ok (.if_icmp .ne 7, 3) := by decide +kernel
theorem dX11_post_48 : decode cX11_post 48 = .ok (.iconst 1, 1) := by decide +kernel
theorem dX11_post_49 : decode cX11_post 49 = .ok (.goto 4, 3) := by decide +kernel
theorem dX11_post_52 : decode cX11_post 52 = .ok (.iconst 0, 1) := by decide +kernel
theorem dX11_post_53 : decode cX11_post 53 = .ok (.iconst 2, 1) := by decide +kernel
theorem dX11_post_54 : decode cX11_post 54 = .ok (.invokevirtual 215, 3) := by decide +kernel
theorem dX11_post_57 : decode cX11_post 57 = .ok (.ifCond .eq 5, 3) := by decide +kernel
theorem dX11_post_60 : decode cX11_post 60 = .ok (.iconst 0, 1) := by decide +kernel
theorem dX11_post_61 : decode cX11_post 61 = .ok (.ireturn, 1) := by decide +kernel
theorem dX11_post_62 : decode cX11_post 62 = .ok (.aload_n 0, 1) := by decide +kernel
theorem dX11_post_63 : decode cX11_post 63 = .ok (.invokevirtual 316, 3) := by decide +kernel
theorem dX11_post_66 : decode cX11_post 66 = .ok (.aload_n 0, 1) := by decide +kernel
theorem dX11_post_67 : decode cX11_post 67 = .ok (.iload_n 1, 1) := by decide +kernel
theorem dX11_post_68 : decode cX11_post 68 = .ok (.iload_n 2, 1) := by decide +kernel
theorem dX11_post_69 : decode cX11_post 69 = .ok (.iload_n 3, 1) := by decide +kernel
theorem dX11_post_70 : decode cX11_post 70 = .ok (.invokevirtual 183, 3) := by decide +kernel
theorem dX11_post_73 : decode cX11_post 73 = .ok (.istore 4, 2) := by decide +kernel
theorem dX11_post_75 : decode cX11_post 75 = .ok (.aload_n 0, 1) := by decide +kernel
theorem dX11_post_76 : decode cX11_post 76 = .ok (.iload 4, 2) := by decide +kernel
theorem dX11_post_78 : decode cX11_post 78 = .ok (.invokevirtual 219, 3) := by decide +kernel
theorem dX11_post_81 : decode cX11_post 81 = .ok (.iload 4, 2) := by decide +kernel
theorem dX11_post_83 : decode cX11_post 83 = .ok (.ireturn, 1) := by decide +kernel
theorem dX11_run_0 : decode cX11_run 0 = .ok (.aload_n 0, 1) := by decide +kernel
theorem dX11_run_1 : decode cX11_run 1 = .ok (.iconst 0, 1) := by decide +kernel
theorem dX11_run_2 : decode cX11_run 2 = .ok (.putfield 3, 3) := by decide +kernel
theorem dX11_run_5 : decode cX11_run 5 = .ok (.aload_n 0, 1) := by decide +kernel
theorem dX11_run_6 : decode cX11_run 6 = .ok (.iload_n 1, 1) := by decide +kernel
theorem dX11_run_7 : decode cX11_run 7 = .ok (.iconst 1, 1) := by decide +kernel
theorem dX11_run_8 : decode cX11_run 8 = .ok (.sipush 168, 3) := by decide +kernel
theorem dX11_run_11 : decode cX11_run 11 = .ok (.invokestatic 79, 3) := by decide +kernel
theorem dX11_run_14 : decode cX11_run 14 = .ok (.ifCond .ne 7, 3) := by decide +kernel
theorem dX11_run_17 : decode cX11_run 17 = .ok (.iconst 1, 1) := by decide +kernel
theorem dX11_run_18 : decode cX11_run 18 = .ok (.goto 4, 3) := by decide +kernel
theorem dX11_run_21 : decode cX11_run 21 = .ok (.iconst 0, 1) := by decide +kernel
theorem dX11_run_22 : decode cX11_run 22 = .ok (.iconst 1, 1) := by decide +kernel
theorem dX11_run_23 : decode cX11_run 23 = .ok (.invokevirtual 215, 3) := by decide +kernel
theorem dX11_run_26 : decode cX11_run 26 = .ok (.ifCond .eq 5, 3) := by decide +kernel
theorem dX11_run_29 : decode cX11_run 29 = .ok (.iconst 0, 1) := by decide +kernel
theorem dX11_run_30 : decode cX11_run 30 = .ok (.ireturn, 1) := by decide +kernel
theorem dX11_run_31 : decode cX11_run 31 = .ok (.aload_n 0, 1) := by decide +kernel
theorem dX11_run_32 : decode cX11_run 32 = .ok (.invokevirtual 316, 3) := by decide +kernel
theorem dX11_run_35 : decode cX11_run 35 = .ok (.iconst 0, 1) := by decide +kernel
theorem dX11_run_36 : decode cX11_run 36 = .ok (.istore_n 2, 1) := by decide +kernel
theorem dX11_run_37 : decode cX11_run 37 = .ok (.iconst 0, 1) := by decide +kernel
theorem dX11_run_38 : decode cX11_run 38 = .ok (.istore_n 3, 1) := by decide +kernel
theorem dX11_run_39 : decode cX11_run 39 = .ok (.iload_n 3, 1) := by decide +kernel
theorem dX11_run_40 : decode cX11_run 40 = .ok (.iload_n 1, 1) := by decide +kernel
theorem dX11_run_41 : decode cX11_run 41 = .ok (.if_icmp .ge 16, 3) := by decide +kernel
theorem dX11_run_44 : decode cX11_run 44 = .ok (.iload_n 2, 1) := by decide +kernel
theorem dX11_run_45 : decode cX11_run 45 = .ok (.aload_n 0, 1) := by decide +kernel
theorem dX11_run_46 : decode cX11_run 46 = .ok (.invokevirtual 319, 3) := by decide +kernel
theorem dX11_run_49 : decode cX11_run 49 = .ok (.iadd, 1) := by decide +kernel
theorem dX11_run_50 : decode cX11_run 50 = .ok (.istore_n 2, 1) := by decide +kernel
theorem dX11_run_51 : decode cX11_run 51 = .ok (.iinc 3 1, 3) := by decide +kernel
theorem dX11_run_54 : decode cX11_run 54 = .ok (.goto (-15), 3) := by decide +kernel
theorem dX11_run_57 : decode cX11_run 57 = .ok (.iload_n 2, 1) := by decide +kernel
theorem dX11_run_58 : decode cX11_run 58 = .ok (.ireturn, 1) := by decide +kernel
theorem dX11_lose_0 : decode cX11_lose 0 = .ok (.aload_n 0, 1) := by decide +kernel
theorem dX11_lose_1 : decode cX11_lose 1 = .ok (.iconst 0, 1) := by decide +kernel
theorem dX11_lose_2 : decode cX11_lose 2 = .ok (.putfield 3, 3) := by decide +kernel
theorem dX11_lose_5 : decode cX11_lose 5 = .ok (.aload_n 0, 1) := by decide +kernel
theorem dX11_lose_6 : decode cX11_lose 6 = .ok (.iload_n 1, 1) := by decide +kernel
theorem dX11_lose_7 : decode cX11_lose 7 = .ok (.invokevirtual 286, 3) := by decide +kernel
theorem dX11_lose_10 : decode cX11_lose 10 = .ok (.ifCond .eq 5, 3) := by decide +kernel
theorem dX11_lose_13 : decode cX11_lose 13 = .ok (.iconst 0, 1) := by decide +kernel
theorem dX11_lose_14 : decode cX11_lose 14 = .ok (.ireturn, 1) := by decide +kernel
theorem dX11_lose_15 : decode cX11_lose 15 = .ok (.aload_n 0, 1) := by decide +kernel
theorem dX11_lose_16 : decode cX11_lose 16 = .ok (.invokevirtual 316, 3) := by decide +kernel
theorem dX11_lose_19 : decode cX11_lose 19 = .ok (.aload_n 0, 1) := by decide +kernel
theorem dX11_lose_20 : decode cX11_lose 20 = .ok (.getfield 13, 3) := by decide +kernel
theorem dX11_lose_23 : decode cX11_lose 23 = .ok (.bipush 33, 2) := by decide +kernel
theorem dX11_lose_25 : decode cX11_lose 25 = .ok (.iload_n 1, 1) := by decide +kernel
theorem dX11_lose_26 : decode cX11_lose 26 = .ok (.iadd, 1) := by decide +kernel
theorem dX11_lose_27 : decode cX11_lose 27 = .ok (.iaload, 1) := by decide +kernel
theorem dX11_lose_28 : decode cX11_lose 28 = .ok (.istore_n 2, 1) := by decide +kernel
theorem dX11_lose_29 : decode cX11_lose 29 = .ok (.aload_n 0, 1) := by decide +kernel
theorem dX11_lose_30 : decode cX11_lose 30 = .ok (.iconst 1, 1) := by decide +kernel
theorem dX11_lose_31 : decode cX11_lose 31 = .ok (.iload_n 2, 1) := by decide +kernel
theorem dX11_lose_32 : decode cX11_lose 32 = .ok (.invokevirtual 289, 3) := by decide +kernel
theorem dX11_lose_35 : decode cX11_lose 35 = .ok (.istore_n 3, 1) := by decide +kernel
theorem dX11_lose_36 : decode cX11_lose 36 = .ok (.iload_n 3, 1) := by decide +kernel
theorem dX11_lose_37 : decode cX11_lose 37 = .ok (.ifCond .ne 5, 3) := by decide +kernel
theorem dX11_lose_40 : decode cX11_lose 40 = .ok (.iconst 0, 1) := by decide +kernel
theorem dX11_lose_41 : decode cX11_lose 41 = .ok (.ireturn, 1) := by decide +kernel
theorem dX11_lose_42 : decode cX11_lose 42 = .ok (.aload_n 0, 1) := by decide +kernel
theorem dX11_lose_43 : decode cX11_lose 43 = .ok (.getfield 13, 3) := by decide +kernel
theorem dX11_lose_46 : decode cX11_lose 46 = .ok (.iconst 3, 1) := by decide +kernel
theorem dX11_lose_47 : decode cX11_lose 47 = .ok (.iaload, 1) := by decide +kernel
theorem dX11_lose_48 : decode cX11_lose 48 = .ok (.istore 4, 2) := by decide +kernel
theorem dX11_lose_50 : decode cX11_lose 50 = .ok (.aload_n 0, 1) := by decide +kernel
theorem dX11_lose_51 : decode cX11_lose 51 = .ok (.getfield 13, 3) := by decide +kernel
theorem dX11_lose_54 : decode cX11_lose 54 = .ok (.iconst 3, 1) := by decide +kernel
theorem dX11_lose_55 : decode cX11_lose 55 = .ok (.dup2, 1) := by decide +kernel
theorem dX11_lose_56 : decode cX11_lose 56 = .ok (.iaload, 1) := by decide +kernel
theorem dX11_lose_57 : decode cX11_lose 57 = .ok (.iconst 1, 1) := by decide +kernel
theorem dX11_lose_58 : decode cX11_lose 58 = .ok (.iadd, 1) := by decide +kernel
theorem dX11_lose_59 : decode cX11_lose 59 = .ok (.iastore, 1) := by decide +kernel
theorem dX11_lose_60 : decode cX11_lose 60 = .ok (.aload_n 0, 1) := by decide +kernel
theorem dX11_lose_61 : decode cX11_lose 61 = .ok (.getfield 13, 3) := by decide +kernel
theorem dX11_lose_64 : decode cX11_lose 64 = .ok (.sipush 798, 3) := by decide +kernel
theorem dX11_lose_67 : decode cX11_lose 67 = .ok (.iconst 2, 1) := by decide +kernel
theorem dX11_lose_68 : decode cX11_lose 68 = .ok (.iload 4, 2) := by decide +kernel
theorem dX11_lose_70 : decode cX11_lose 70 = .ok (.imul, 1) := by decide +kernel
theorem dX11_lose_71 : decode cX11_lose 71 = .ok (.iadd, 1) := by decide +kernel
theorem dX11_lose_72 : decode cX11_lose 72 = .ok (.iload_n 1, 1) := by decide +kernel
theorem dX11_lose_73 : decode cX11_lose 73 = .ok (.iastore, 1) := by decide +kernel
theorem dX11_lose_74 : decode cX11_lose 74 = .ok (.aload_n 0, 1) := by decide +kernel
theorem dX11_lose_75 : decode cX11_lose 75 = .ok (.getfield 13, 3) := by decide +kernel
theorem dX11_lose_78 : decode cX11_lose 78 = .ok (.sipush 798, 3) := by decide +kernel
theorem dX11_lose_81 : decode cX11_lose 81 = .ok (.iconst 2, 1) := by decide +kernel
theorem dX11_lose_82 : decode cX11_lose 82 = .ok (.iload 4, 2) := by decide +kernel
theorem dX11_lose_84 : decode cX11_lose 84 = .ok (.imul, 1) := by decide +kernel
theorem dX11_lose_85 : decode cX11_lose 85 = .ok (.iadd, 1) := by decide +kernel
theorem dX11_lose_86 : decode cX11_lose 86 = .ok (.iconst 1, 1) := by decide +kernel
theorem dX11_lose_87 : decode cX11_lose 87 = .ok (.iadd, 1) := by decide +kernel
theorem dX11_lose_88 : decode cX11_lose 88 = .ok (.aload_n 0, 1) := by decide +kernel
theorem dX11_lose_89 : decode cX11_lose 89 = .ok (.getfield 13, 3) := by decide +kernel
theorem dX11_lose_92 : decode cX11_lose 92 = .ok (.bipush 6, 2) := by decide +kernel
theorem dX11_lose_94 : decode cX11_lose 94 = .ok (.iaload, 1) := by decide +kernel
theorem dX11_lose_95 : decode cX11_lose 95 = .ok (.iastore, 1) := by decide +kernel
theorem dX11_lose_96 : decode cX11_lose 96 = .ok (.iconst 0, 1) := by decide +kernel
theorem dX11_lose_97 : decode cX11_lose 97 = .ok (.istore 5, 2) := by decide +kernel
theorem dX11_lose_99 : decode cX11_lose 99 = .ok (.iload 5, 2) := by decide +kernel
theorem dX11_lose_101 : decode cX11_lose 101 = .ok (.aload_n 0, 1) := by decide +kernel
theorem dX11_lose_102 : decode cX11_lose 102 = .ok (.invokevirtual 170, 3) := by decide +kernel
theorem dX11_lose_105 : decode cX11_lose 105 = .ok (.if_icmp .ge 41, 3) := by decide +kernel
theorem dX11_lose_108 : decode cX11_lose 108 = .ok (.aload_n 0, 1) := by decide +kernel
theorem dX11_lose_109 : decode cX11_lose 109 = .ok (.iload 5, 2) := by decide +kernel
theorem dX11_lose_111 : decode cX11_lose 111 = .ok (.iconst 1, 1) := by decide +kernel
theorem dX11_lose_112 : decode cX11_lose 112 = .ok (.iload_n 2, 1) := by decide +kernel
theorem dX11_lose_113 : decode cX11_lose 113 = .ok (.invokevirtual 262, 3) := by decide +kernel
theorem dX11_lose_116 : decode cX11_lose 116 = .ok (.ifCond .ne 6, 3) := by decide +kernel
theorem dX11_lose_119 : decode cX11_lose 119 = .ok (.goto 21, 3) := by decide +kernel
theorem dX11_lose_122 : decode cX11_lose 122 = .ok (.aload_n 0, 1) := by decide +kernel
theorem dX11_lose_123 : decode cX11_lose 123 = .ok (.iload 5, 2) := by decide +kernel
theorem dX11_lose_125 : decode cX11_lose 125 = .ok (.iconst 3, 1) := by decide +kernel
theorem dX11_lose_126 : decode cX11_lose 126 = .ok (.iload 4, 2) := by decide +kernel
theorem dX11_lose_128 : decode cX11_lose 128 = .ok (.invokevirtual 222, 3) := by decide +kernel
theorem dX11_lose_131 : decode cX11_lose 131 = .ok (.aload_n 0, 1) := by decide +kernel
theorem dX11_lose_132 : decode cX11_lose 132 = .ok (.iload 5, 2) := by decide +kernel
theorem dX11_lose_134 : decode cX11_lose 134 = .ok (.iconst 4, 1) := by decide +kernel
theorem dX11_lose_135 : decode cX11_lose 135 = .ok (.iload_n 1, 1) := by decide +kernel
theorem dX11_lose_136 : decode cX11_lose 136 = .ok (.iconst (-1), 1) := by decide +kernel
theorem dX11_lose_137 : decode cX11_lose 137 = .ok (.invokevirtual 255, 3) := by decide +kernel
theorem dX11_lose_140 : decode cX11_lose 140 = .ok (.iinc 5 1, 3) := by decide +kernel
theorem dX11_lose_143 : decode cX11_lose 143 = .ok (.goto (-44), 3) := by decide +kernel
theorem dX11_lose_146 : decode cX11_lose 146 = .ok (.iload_n 3, 1) := by decide +kernel
theorem dX11_lose_147 : decode cX11_lose 147 = .ok (.ireturn, 1) := by decide +kernel
theorem dX11_find__0 : decode cX11_find_ 0 = .ok (.aload_n 0, 1) := by decide +kernel
theorem dX11_find__1 : decode cX11_find_ 1 = .ok (.iconst 0, 1) := by decide +kernel
theorem dX11_find__2 : decode cX11_find_ 2 = .ok (.putfield 3, 3) := by decide +kernel
theorem dX11_find__5 : decode cX11_find_ 5 = .ok (.aload_n 0, 1) := by decide +kernel
theorem dX11_find__6 : decode cX11_find_ 6 = .ok (.iload_n 1, 1) := by decide +kernel
theorem dX11_find__7 : decode cX11_find_ 7 = .ok (.invokevirtual 313, 3) := by decide +kernel
theorem dX11_find__10 : decode cX11_find_ 10 = .ok (.ifCond .ne 24, 3) := by decide +kernel
theorem dX11_find__13 : decode cX11_find_ 13 = .ok (.aload_n 0, 1) := by decide +kernel
theorem dX11_find__14 : decode cX11_find_ 14 = .ok (.aload_n 0, 1) := by decide +kernel
theorem dX11_find__15 : decode cX11_find_ 15 = .ok (.iload_n 2, 1) := by decide +kernel
theorem dX11_find__16 : decode cX11_find_ 16 = .ok (.invokevirtual 166, 3) := by decide +kernel
theorem dX11_find__19 : decode cX11_find_ 19 = .ok (.ifCond .ne 7, 3) := by decide +kernel
theorem dX11_find__22 : decode cX11_find_ 22 = .ok (.iconst 1, 1) := by decide +kernel
theorem dX11_find__23 : decode cX11_find_ 23 = .ok (.goto 4, 3) := by decide +kernel
theorem dX11_find__26 : decode cX11_find_ 26 = .ok (.iconst 0, 1) := by decide +kernel
theorem dX11_find__27 : decode cX11_find_ 27 = .ok (.iconst 2, 1) := by decide +kernel
theorem dX11_find__28 : decode cX11_find_ 28 = .ok (.invokevirtual 215, 3) := by decide +kernel
theorem dX11_find__31 : decode cX11_find_ 31 = .ok (.ifCond .eq 5, 3) := by decide +kernel
theorem dX11_find__34 : decode cX11_find_ 34 = .ok (.iconst 0, 1) := by decide +kernel
theorem dX11_find__35 : decode cX11_find_ 35 = .ok (.ireturn, 1) := by decide +kernel
theorem dX11_find__36 : decode cX11_find_ 36 = .ok (.aload_n 0, 1) := by decide +kernel
theorem dX11_find__37 : decode cX11_find_ 37 = .ok (.invokevirtual 316, 3) := by decide +kernel
theorem dX11_find__40 : decode cX11_find_ 40 = .ok (.aload_n 0, 1) := by decide +kernel
theorem dX11_find__41 : decode cX11_find_ 41 = .ok (.iconst 3, 1) := by decide +kernel
theorem dX11_find__42 : decode cX11_find_ 42 = .ok (.iload_n 1, 1) := by decide +kernel
theorem dX11_find__43 : decode cX11_find_ 43 = .ok (.invokevirtual 289, 3) := by decide +kernel
theorem dX11_find__46 : decode cX11_find_ 46 = .ok (.istore_n 3, 1) := by decide +kernel
theorem dX11_find__47 : decode cX11_find_ 47 = .ok (.iconst 0, 1) := by decide +kernel
theorem dX11_find__48 : decode cX11_find_ 48 = .ok (.istore 4, 2) := by decide +kernel
theorem dX11_find__50 : decode cX11_find_ 50 = .ok (.iload 4, 2) := by decide +kernel
theorem dX11_find__52 : decode cX11_find_ 52 = .ok (.aload_n 0, 1) := by decide +kernel
theorem dX11_find__53 : decode cX11_find_ 53 = .ok (.invokevirtual 170, 3) := by decide +kernel
theorem dX11_find__56 : decode cX11_find_ 56 = .ok (.if_icmp .ge 125, 3) := by decide +kernel
theorem dX11_find__59 : decode cX11_find_ 59 = .ok (.aload_n 0, 1) := by decide +kernel
theorem dX11_find__60 : decode cX11_find_ 60 = .ok (.iload 4, 2) := by decide +kernel
theorem dX11_find__62 : decode cX11_find_ 62 = .ok (.iconst 3, 1) := by decide +kernel
theorem dX11_find__63 : decode cX11_find_ 63 = .ok (.iload_n 1, 1) := by decide +kernel
theorem dX11_find__64 : decode cX11_find_ 64 = .ok (.invokevirtual 262, 3) := by decide +kernel
theorem dX11_find__67 : decode cX11_find_ 67 = .ok (.ifCond .eq 70, 3) := by decide +kernel
theorem dX11_find__70 : decode cX11_find_ 70 = .ok (.aload_n 0, 1) := by decide +kernel
theorem dX11_find__71 : decode cX11_find_ 71 = .ok (.iload 4, 2) := by decide +kernel
theorem dX11_find__73 : decode cX11_find_ 73 = .ok (.iconst 1, 1) := by decide +kernel
theorem dX11_find__74 : decode cX11_find_ 74 = .ok (.invokevirtual 67, 3) := by decide +kernel
theorem dX11_find__77 : decode cX11_find_ 77 = .ok (.iload_n 2, 1) := by decide +kernel
theorem dX11_find__78 : decode cX11_find_ 78 = .ok (.if_icmp .ne 7, 3) := by decide +kernel
theorem dX11_find__81 : decode cX11_find_ 81 = .ok (.iconst 1, 1) := by decide +kernel
theorem dX11_find__82 : decode cX11_find_ 82 = .ok (.goto 4, 3) := by decide +kernel
theorem dX11_find__85 : decode cX11_find_ 85 = .ok (.iconst 0, 1) := by decide +kernel
theorem dX11_find__86 : decode cX11_find_ 86 = .ok (.istore 5, 2) := by decide +kernel
theorem dX11_find__88 : decode cX11_find_ 88 = .ok (.aload_n 0, 1) := by decide +kernel
theorem dX11_find__89 : decode cX11_find_ 89 = .ok (.iload 4, 2) := by decide +kernel
theorem dX11_find__91 : decode cX11_find_ 91 = .ok (.iload 5, 2) := by decide +kernel
theorem dX11_find__93 : decode cX11_find_ 93 = .ok (.ifCond .eq 7, 3) := by decide +kernel
theorem dX11_find__96 : decode cX11_find_ 96 = .ok (.iconst 2, 1) := by decide +kernel
theorem dX11_find__97 : decode cX11_find_ 97 = .ok (.goto 4, 3) := by decide +kernel
theorem dX11_find__100 : decode cX11_find_ 100 = .ok (.iconst 0, 1) := by decide +kernel
theorem dX11_find__101 : decode cX11_find_ 101 = .ok (.iload_n 2, 1) := by decide +kernel
theorem dX11_find__102 : decode cX11_find_ 102 = .ok (.invokevirtual 222, 3) := by decide +kernel
theorem dX11_find__105 : decode cX11_find_ 105 = .ok (.iload 5, 2) := by decide +kernel
theorem dX11_find__107 : decode cX11_find_ 107 = .ok (.ifCond .eq 18, 3) := by decide +kernel
theorem dX11_find__110 : decode cX11_find_ 110 = .ok (.aload_n 0, 1) := by decide +kernel
theorem dX11_find__111 : decode cX11_find_ 111 = .ok (.iload 4, 2) := by decide +kernel
theorem dX11_find__113 : decode cX11_find_ 113 = .ok (.bipush 7, 2) := by decide +kernel
theorem dX11_find__115 : decode cX11_find_ 115 = .ok (.aload_n 0, 1) := by decide +kernel
theorem dX11_find__116 : decode cX11_find_ 116 = .ok (.getfield 13, 3) := by decide +kernel
theorem dX11_find__119 : decode cX11_find_ 119 = .ok (.bipush 6, 2) := by decide +kernel
theorem dX11_find__121 : decode cX11_find_ 121 = .ok (.iaload, 1) := by decide +kernel
theorem dX11_find__122 : decode cX11_find_ 122 = .ok (.invokevirtual 71, 3) := by decide +kernel
theorem dX11_find__125 : decode cX11_find_ 125 = .ok (.aload_n 0, 1) := by decide +kernel
theorem dX11_find__126 : decode cX11_find_ 126 = .ok (.iload 4, 2) := by decide +kernel
theorem dX11_find__128 : decode cX11_find_ 128 = .ok (.iconst 5, 1) := by decide +kernel
theorem dX11_find__129 : decode cX11_find_ 129 = .ok (.iconst (-1), 1) := by decide +kernel
theorem dX11_find__130 : decode cX11_find_ 130 = .ok (.iload_n 2, 1) := by decide +kernel
theorem dX11_find__131 : decode cX11_find_ 131 = .ok (.invokevirtual 255, 3) := by decide +kernel
theorem dX11_find__134 : decode cX11_find_ 134 = .ok (.goto 41, 3) := by decide +kernel
theorem dX11_find__137 : decode cX11_find_ 137 = .ok (.aload_n 0, 1) := by decide +kernel
theorem dX11_find__138 : decode cX11_find_ 138 = .ok (.iload 4, 2) := by decide +kernel
theorem dX11_find__140 : decode cX11_find_ 140 = .ok (.iconst 3, 1) := by decide +kernel
theorem dX11_find__141 : decode cX11_find_ 141 = .ok (.invokevirtual 67, 3) := by decide +kernel
theorem dX11_find__144 : decode cX11_find_ 144 = .ok (.iconst 3, 1) := by decide +kernel
theorem dX11_find__145 : decode cX11_find_ 145 = .ok (.if_icmp .ne 30, 3) := by decide +kernel
theorem dX11_find__148 : decode cX11_find_ 148 = .ok (.aload_n 0, 1) := by decide +kernel
theorem dX11_find__149 : decode cX11_find_ 149 = .ok (.iload 4, 2) := by decide +kernel
theorem dX11_find__151 : decode cX11_find_ 151 = .ok (.iconst 4, 1) := by decide +kernel
theorem dX11_find__152 : decode cX11_find_ 152 = .ok (.invokevirtual 67, 3) := by decide +kernel
theorem dX11_find__155 : decode cX11_find_ 155 = .ok (.iload_n 1, 1) := by decide +kernel
theorem dX11_find__156 : decode cX11_find_ 156 = .ok (.if_icmp .le 19, 3) := by decide +kernel
theorem dX11_find__159 : decode cX11_find_ 159 = .ok (.aload_n 0, 1) := by decide +kernel
theorem dX11_find__160 : decode cX11_find_ 160 = .ok (.iload 4, 2) := by decide +kernel
theorem dX11_find__162 : decode cX11_find_ 162 = .ok (.iconst 4, 1) := by decide +kernel
theorem dX11_find__163 : decode cX11_find_ 163 = .ok (.aload_n 0, 1) := by decide +kernel
theorem dX11_find__164 : decode cX11_find_ 164 = .ok (.iload 4, 2) := by decide +kernel
theorem dX11_find__166 : decode cX11_find_ 166 = .ok (.iconst 4, 1) := by decide +kernel
theorem dX11_find__167 : decode cX11_find_ 167 = .ok (.invokevirtual 67, 3) := by decide +kernel
theorem dX11_find__170 : decode cX11_find_ 170 = .ok (.iconst 1, 1) := by decide +kernel
theorem dX11_find__171 : decode cX11_find_ 171 = .ok (.isub, 1) := by decide +kernel
theorem dX11_find__172 : decode cX11_find_ 172 = .ok (.invokevirtual 71, 3) := by decide +kernel
theorem dX11_find__175 : decode cX11_find_ 175 = .ok (.iinc 4 1, 3) := by decide +kernel
theorem dX11_find__178 : decode cX11_find_ 178 = .ok (.goto (-128), 3) := by decide +kernel
theorem dX11_find__181 : decode cX11_find_ 181 = .ok (.aload_n 0, 1) := by decide +kernel
theorem dX11_find__182 : decode cX11_find_ 182 = .ok (.getfield 13, 3) := by decide +kernel
theorem dX11_find__185 : decode cX11_find_ 185 = .ok (.iconst 3, 1) := by decide +kernel
theorem dX11_find__186 : decode cX11_find_ 186 = .ok (.dup2, 1) := by decide +kernel
theorem dX11_find__187 : decode cX11_find_ 187 = .ok (.iaload, 1) := by decide +kernel
theorem dX11_find__188 : decode cX11_find_ 188 = .ok (.iconst 1, 1) := by decide +kernel
theorem dX11_find__189 : decode cX11_find_ 189 = .ok (.isub, 1) := by decide +kernel
theorem dX11_find__190 : decode cX11_find_ 190 = .ok (.iastore, 1) := by decide +kernel
theorem dX11_find__191 : decode cX11_find_ 191 = .ok (.iconst 2, 1) := by decide +kernel
theorem dX11_find__192 : decode cX11_find_ 192 = .ok (.iload_n 1, 1) := by decide +kernel
theorem dX11_find__193 : decode cX11_find_ 193 = .ok (.imul, 1) := by decide +kernel
theorem dX11_find__194 : decode cX11_find_ 194 = .ok (.istore 4, 2) := by decide +kernel
theorem dX11_find__196 : decode cX11_find_ 196 = .ok (.iload 4, 2) := by decide +kernel
theorem dX11_find__198 : decode cX11_find_ 198 = .ok (.iconst 2, 1) := by decide +kernel
theorem dX11_find__199 : decode cX11_find_ 199 = .ok (.aload_n 0, 1) := by decide +kernel
theorem dX11_find__200 : decode cX11_find_ 200 = .ok (.getfield 13, 3) := by decide +kernel
theorem dX11_find__203 : decode cX11_find_ 203 = .ok (.iconst 3, 1) := by decide +kernel
theorem dX11_find__204 : decode cX11_find_ 204 = .ok (.iaload, 1) := by decide +kernel
theorem dX11_find__205 : decode cX11_find_ 205 = .ok (.imul, 1) := by decide +kernel
theorem dX11_find__206 : decode cX11_find_ 206 = .ok (.if_icmp .ge 33, 3) := by decide +kernel
theorem dX11_find__209 : decode cX11_find_ 209 = .ok (.aload_n 0, 1) := by decide +kernel
theorem dX11_find__210 : decode cX11_find_ 210 = .ok (.getfield 13, 3) := by decide +kernel
theorem dX11_find__213 : decode cX11_find_ 213 = .ok (.sipush 798, 3) := by decide +kernel
theorem dX11_find__216 : decode cX11_find_ 216 = .ok (.iload 4, 2) := by decide +kernel
theorem dX11_find__218 : decode cX11_find_ 218 = .ok (.iadd, 1) := by decide +kernel
theorem dX11_find__219 : decode cX11_find_ 219 = .ok (.aload_n 0, 1) := by decide +kernel
theorem dX11_find__220 : decode cX11_find_ 220 = .ok (.getfield 13, 3) := by decide +kernel
theorem dX11_find__223 : decode cX11_find_ 223 = .ok (.sipush 798, 3) := by decide +kernel
theorem dX11_find__226 : decode cX11_find_ 226 = .ok (.iload 4, 2) := by decide +kernel
theorem dX11_find__228 : decode cX11_find_ 228 = .ok (.iadd, 1) := by decide +kernel
theorem dX11_find__229 : decode cX11_find_ 229 = .ok (.iconst 2, 1) := by decide +kernel
theorem dX11_find__230 : decode cX11_find_ 230 = .ok (.iadd, 1) := by decide +kernel
theorem dX11_find__231 : decode cX11_find_ 231 = .ok (.iaload, 1) := by decide +kernel
theorem dX11_find__232 : decode cX11_find_ 232 = .ok (.iastore, 1) := by decide +kernel
theorem dX11_find__233 : decode cX11_find_ 233 = .ok (.iinc 4 1, 3) := by decide +kernel
theorem dX11_find__236 : decode cX11_find_ 236 = .ok (.goto (-40), 3) := by decide +kernel
theorem dX11_find__239 : decode cX11_find_ 239 = .ok (.iload_n 3, 1) := by decide +kernel
theorem dX11_find__240 : decode cX11_find_ 240 = .ok (.ireturn, 1) := by decide +kernel
theorem dX11_claim_0 : decode cX11_claim 0 = .ok (.aload_n 0, 1) := by decide +kernel
theorem dX11_claim_1 : decode cX11_claim 1 = .ok (.iconst 0, 1) := by decide +kernel
theorem dX11_claim_2 : decode cX11_claim 2 = .ok (.putfield 3, 3) := by decide +kernel
theorem dX11_claim_5 : decode cX11_claim 5 = .ok (.aload_n 0, 1) := by decide +kernel
theorem dX11_claim_6 : decode cX11_claim 6 = .ok (.iload_n 1, 1) := by decide +kernel
theorem dX11_claim_7 : decode cX11_claim 7 = .ok (.invokevirtual 298, 3) := by decide +kernel
theorem dX11_claim_10 : decode cX11_claim 10 = .ok (.ifCond .eq 5, 3) := by decide +kernel
theorem dX11_claim_13 : decode cX11_claim 13 = .ok (.iconst 0, 1) := by decide +kernel
theorem dX11_claim_14 : decode cX11_claim 14 = .ok (.ireturn, 1) := by decide +kernel
theorem dX11_claim_15 : decode cX11_claim 15 = .ok (.aload_n 0, 1) := by decide +kernel
theorem dX11_claim_16 : decode cX11_claim 16 = .ok (.iload_n 1, 1) := by decide +kernel
theorem dX11_claim_17 : decode cX11_claim 17 = .ok (.iconst 3, 1) := by decide +kernel
theorem dX11_claim_18 : decode cX11_claim 18 = .ok (.invokevirtual 67, 3) := by decide +kernel
theorem dX11_claim_21 : decode cX11_claim 21 = .ok (.iconst 3, 1) := by decide +kernel
theorem dX11_claim_22 : decode cX11_claim 22 = .ok (.if_icmp .ne 26, 3) := by decide +kernel
theorem dX11_claim_25 : decode cX11_claim 25 = .ok (.aload_n 0, 1) := by decide +kernel
theorem dX11_claim_26 : decode cX11_claim 26 = .ok (.iload_n 1, 1) := by decide +kernel
theorem dX11_claim_27 : decode cX11_claim 27 = .ok (.iconst 2, 1) := by decide +kernel
theorem dX11_claim_28 : decode cX11_claim 28 = .ok (.invokevirtual 67, 3) := by decide +kernel
theorem dX11_claim_31 : decode cX11_claim 31 = .ok (.ifCond .eq 17, 3) := by decide +kernel
theorem dX11_claim_34 : decode cX11_claim 34 = .ok (.aload_n 0, 1) := by decide +kernel
theorem dX11_claim_35 : decode cX11_claim 35 = .ok (.iload_n 1, 1) := by decide +kernel
theorem dX11_claim_36 : decode cX11_claim 36 = .ok (.bipush 8, 2) := by decide +kernel
theorem dX11_claim_38 : decode cX11_claim 38 = .ok (.invokevirtual 67, 3) := by decide +kernel
theorem dX11_claim_41 : decode cX11_claim 41 = .ok (.ifCond .ne 7, 3) := by decide +kernel
theorem dX11_claim_44 : decode cX11_claim 44 = .ok (.iconst 1, 1) := by decide +kernel
theorem dX11_claim_45 : decode cX11_claim 45 = .ok (.goto 4, 3) := by decide +kernel
theorem dX11_claim_48 : decode cX11_claim 48 = .ok (.iconst 0, 1) := by decide +kernel
theorem dX11_claim_49 : decode cX11_claim 49 = .ok (.istore_n 2, 1) := by decide +kernel
theorem dX11_claim_50 : decode cX11_claim 50 = .ok (.aload_n 0, 1) := by decide +kernel
theorem dX11_claim_51 : decode cX11_claim 51 = .ok (.iload_n 2, 1) := by decide +kernel
theorem dX11_claim_52 : decode cX11_claim 52 = .ok (.ifCond .eq 35, 3) := by decide +kernel
theorem dX11_claim_55 : decode cX11_claim 55 = .ok (.aload_n 0, 1) := by decide +kernel
theorem dX11_claim_56 : decode cX11_claim 56 = .ok (.getfield 13, 3) := by decide +kernel
theorem dX11_claim_59 : decode cX11_claim 59 = .ok (.bipush 6, 2) := by decide +kernel
theorem dX11_claim_61 : decode cX11_claim 61 = .ok (.iaload, 1) := by decide +kernel
theorem dX11_claim_62 : decode cX11_claim 62 = .ok (.aload_n 0, 1) := by decide +kernel
theorem dX11_claim_63 : decode cX11_claim 63 = .ok (.getfield 13, 3) := by decide +kernel
theorem dX11_claim_66 : decode cX11_claim 66 = .ok (.sipush 798, 3) := by decide +kernel
theorem dX11_claim_69 : decode cX11_claim 69 = .ok (.iconst 2, 1) := by decide +kernel
theorem dX11_claim_70 : decode cX11_claim 70 = .ok (.aload_n 0, 1) := by decide +kernel
theorem dX11_claim_71 : decode cX11_claim 71 = .ok (.iload_n 1, 1) := by decide +kernel
theorem dX11_claim_72 : decode cX11_claim 72 = .ok (.iconst 4, 1) := by decide +kernel
theorem dX11_claim_73 : decode cX11_claim 73 = .ok (.invokevirtual 67, 3) := by decide +kernel
theorem dX11_claim_76 : decode cX11_claim 76 = .ok (.imul, 1) := by decide +kernel
theorem dX11_claim_77 : decode cX11_claim 77 = .ok (.iadd, 1) := by decide +kernel
theorem dX11_claim_78 : decode cX11_claim 78 = .ok (.iconst 1, 1) := by decide +kernel
theorem dX11_claim_79 : decode cX11_claim 79 = .ok (.iadd, 1) := by decide +kernel
theorem dX11_claim_80 : decode cX11_claim 80 = .ok (.iaload, 1) := by decide +kernel
theorem dX11_claim_81 : decode cX11_claim 81 = .ok (.isub, 1) := by decide +kernel
theorem dX11_claim_82 : decode cX11_claim 82 = .ok (.bipush 72, 2) := by decide +kernel
theorem dX11_claim_84 : decode cX11_claim 84 = .ok (.if_icmp .ge 7, 3) := by decide +kernel
theorem dX11_claim_87 : decode cX11_claim 87 = .ok (.iconst 1, 1) := by decide +kernel
theorem dX11_claim_88 : decode cX11_claim 88 = .ok (.goto 4, 3) := by decide +kernel
theorem dX11_claim_91 : decode cX11_claim 91 = .ok (.iconst 0, 1) := by decide +kernel
theorem dX11_claim_92 : decode cX11_claim 92 = .ok (.iconst 2, 1) := by decide +kernel
theorem dX11_claim_93 : decode cX11_claim 93 = .ok (.invokevirtual 215, 3) := by decide +kernel
theorem dX11_claim_96 : decode cX11_claim 96 = .ok (.ifCond .eq 5, 3) := by decide +kernel
theorem dX11_claim_99 : decode cX11_claim 99 = .ok (.iconst 0, 1) := by decide +kernel
theorem dX11_claim_100 : decode cX11_claim 100 = .ok (.ireturn, 1) := by decide +kernel
theorem dX11_claim_101 : decode cX11_claim 101 = .ok (.aload_n 0, 1) := by decide +kernel
theorem dX11_claim_102 : decode cX11_claim 102 = .ok (.invokevirtual 316, 3) := by decide +kernel
theorem dX11_claim_105 : decode cX11_claim 105 = .ok (.aload_n 0, 1) := by decide +kernel
theorem dX11_claim_106 : decode cX11_claim 106 = .ok (.iload_n 1, 1) := by decide +kernel
theorem dX11_claim_107 : decode cX11_claim 107 = .ok (.bipush 8, 2) := by decide +kernel
theorem dX11_claim_109 : decode cX11_claim 109 = .ok (.iconst 1, 1) := by decide +kernel
theorem dX11_claim_110 : decode cX11_claim 110 = .ok (.invokevirtual 71, 3) := by decide +kernel
theorem dX11_claim_113 : decode cX11_claim 113 = .ok (.aload_n 0, 1) := by decide +kernel
theorem dX11_claim_114 : decode cX11_claim 114 = .ok (.iload_n 1, 1) := by decide +kernel
theorem dX11_claim_115 : decode cX11_claim 115 = .ok (.iconst 2, 1) := by decide +kernel
theorem dX11_claim_116 : decode cX11_claim 116 = .ok (.invokevirtual 67, 3) := by decide +kernel
theorem dX11_claim_119 : decode cX11_claim 119 = .ok (.ireturn, 1) := by decide +kernel
theorem dX11_strike_0 : decode cX11_strike 0 = .ok (.aload_n 0, 1) := by decide +kernel
theorem dX11_strike_1 : decode cX11_strike 1 = .ok (.iconst 0, 1) := by decide +kernel
theorem dX11_strike_2 : decode cX11_strike 2 = .ok (.putfield 3, 3) := by decide +kernel
theorem dX11_strike_5 : decode cX11_strike 5 = .ok (.aload_n 0, 1) := by decide +kernel
theorem dX11_strike_6 : decode cX11_strike 6 = .ok (.iload_n 1, 1) := by decide +kernel
theorem dX11_strike_7 : decode cX11_strike 7 = .ok (.invokevirtual 286, 3) := by decide +kernel
theorem dX11_strike_10 : decode cX11_strike 10 = .ok (.ifCond .eq 5, 3) := by decide +kernel
theorem dX11_strike_13 : decode cX11_strike 13 = .ok (.iconst 0, 1) := by decide +kernel
theorem dX11_strike_14 : decode cX11_strike 14 = .ok (.ireturn, 1) := by decide +kernel
theorem dX11_strike_15 : decode cX11_strike 15 = .ok (.aload_n 0, 1) := by decide +kernel
theorem dX11_strike_16 : decode cX11_strike 16 = .ok (.invokevirtual 316, 3) := by decide +kernel
theorem dX11_strike_19 : decode cX11_strike 19 = .ok (.aload_n 0, 1) := by decide +kernel
theorem dX11_strike_20 : decode cX11_strike 20 = .ok (.getfield 13, 3) := by decide +kernel
theorem dX11_strike_23 : decode cX11_strike 23 = .ok (.bipush 38, 2) := by decide +kernel
theorem dX11_strike_25 : decode cX11_strike 25 = .ok (.iload_n 1, 1) := by decide +kernel
theorem dX11_strike_26 : decode cX11_strike 26 = .ok (.iadd, 1) := by decide +kernel
theorem dX11_strike_27 : decode cX11_strike 27 = .ok (.iaload, 1) := by decide +kernel
theorem dX11_strike_28 : decode cX11_strike 28 = .ok (.iconst 1, 1) := by decide +kernel
theorem dX11_strike_29 : decode cX11_strike 29 = .ok (.if_icmp .ne 7, 3) := by decide +kernel
theorem dX11_strike_32 : decode cX11_strike 32 = .ok (.iconst 1, 1) := by decide +kernel
theorem dX11_strike_33 : decode cX11_strike 33 = .ok (.goto 4, 3) := by decide +kernel
theorem dX11_strike_36 : decode cX11_strike 36 = .ok (.iconst 0, 1) := by decide +kernel
theorem dX11_strike_37 : decode cX11_strike 37 = .ok (.istore_n 3, 1) := by decide +kernel
theorem dX11_strike_38 : decode cX11_strike 38 = .ok (.aload_n 0, 1) := by decide +kernel
theorem dX11_strike_39 : decode cX11_strike 39 = .ok (.getfield 13, 3) := by decide +kernel
theorem dX11_strike_42 : decode cX11_strike 42 = .ok (.bipush 38, 2) := by decide +kernel
theorem dX11_strike_44 : decode cX11_strike 44 = .ok (.iload_n 1, 1) := by decide +kernel
theorem dX11_strike_45 : decode cX11_strike 45 = .ok (.iadd, 1) := by decide +kernel
theorem dX11_strike_46 : decode cX11_strike 46 = .ok (.iload_n 2, 1) := by decide +kernel
theorem dX11_strike_47 : decode cX11_strike 47 = .ok (.ifCond .eq 7, 3) := by decide +kernel
theorem dX11_strike_50 : decode cX11_strike 50 = .ok (.iconst 1, 1) := by decide +kernel
theorem dX11_strike_51 : decode cX11_strike 51 = .ok (.goto 4, 3) := by decide +kernel
theorem dX11_strike_54 : decode cX11_strike 54 = .ok (.iconst 0, 1) := by decide +kernel
theorem dX11_strike_55 : decode cX11_strike 55 = .ok (.iastore, 1) := by decide +kernel
theorem dX11_strike_56 : decode cX11_strike 56 = .ok (.iload_n 3, 1) := by decide +kernel
theorem dX11_strike_57 : decode cX11_strike 57 = .ok (.ireturn, 1) := by decide +kernel
theorem dX11_setCapacity_0 : decode cX11_setCapacity 0 = .ok (.aload_n 0, 1) := by decide +kernel
theorem dX11_setCapacity_1 : decode cX11_setCapacity 1 = .ok (.iconst 0, 1) := by decide +kernel
theorem dX11_setCapacity_2 : decode cX11_setCapacity 2 = .ok (.putfield 3, 3) := by decide +kernel
theorem dX11_setCapacity_5 : decode cX11_setCapacity 5 = .ok (.aload_n 0, 1) := by decide +kernel
theorem dX11_setCapacity_6 : decode cX11_setCapacity 6 = .ok (.iload_n 1, 1) := by decide +kernel
theorem dX11_setCapacity_7 : decode cX11_setCapacity 7 = .ok (.iconst 1, 1) := by decide +kernel
theorem dX11_setCapacity_8 : decode cX11_setCapacity 8 = .ok (.bipush 20, 2) := by decide +kernel
theorem dX11_setCapacity_10 : decode cX11_setCapacity 10 = .ok (.invokestatic 79, 3) := by decide +kernel
theorem dX11_setCapacity_13 : decode cX11_setCapacity 13 = .ok (.ifCond .ne 7, 3) := by decide +kernel
theorem dX11_setCapacity_16 : decode cX11_setCapacity 16 = .ok (.iconst 1, 1) := by decide +kernel
theorem dX11_setCapacity_17 : decode cX11_setCapacity 17 = .ok (.goto 4, 3) := by decide +kernel
theorem dX11_setCapacity_20 : decode cX11_setCapacity 20 = .ok (.iconst 0, 1) := by decide +kernel
theorem dX11_setCapacity_21 : decode cX11_setCapacity 21 = .ok (.iconst 1, 1) := by decide +kernel
theorem dX11_setCapacity_22 : decode cX11_setCapacity 22 = .ok (.invokevirtual 215, 3) := by decide +kernel
theorem dX11_setCapacity_25 : decode cX11_setCapacity 25 = .ok (.ifCond .eq 5, 3) := by decide +kernel
theorem dX11_setCapacity_28 : decode cX11_setCapacity 28 = .ok (.iconst 0, 1) := by decide +kernel
theorem dX11_setCapacity_29 : decode cX11_setCapacity 29 = .ok (.ireturn, 1) := by decide +kernel
theorem dX11_setCapacity_30 : decode cX11_setCapacity 30 = .ok (.aload_n 0, 1) := by decide +kernel
theorem dX11_setCapacity_31 : decode cX11_setCapacity 31 = .ok (.invokevirtual 316, 3) := by decide +kernel
theorem dX11_setCapacity_34 : decode cX11_setCapacity 34 = .ok (.aload_n 0, 1) := by decide +kernel
theorem dX11_setCapacity_35 : decode cX11_setCapacity 35 = .ok (.getfield 13, 3) := by decide +kernel
theorem dX11_setCapacity_38 : decode cX11_setCapacity 38 = .ok (.iconst 5, 1) := by decide +kernel
theorem dX11_setCapacity_39 : decode cX11_setCapacity 39 = .ok (.iaload, 1) := by decide +kernel
theorem dX11_setCapacity_40 : decode cX11_setCapacity 40 = .ok (.istore_n 2, 1) := by decide +kernel
theorem dX11_setCapacity_41 : decode cX11_setCapacity 41 = .ok (.aload_n 0, 1) := by decide +kernel
theorem dX11_setCapacity_42 : decode cX11_setCapacity 42 = .ok (.getfield 13, 3) := by decide +kernel
theorem dX11_setCapacity_45 : decode cX11_setCapacity 45 = .ok (.iconst 5, 1) := by decide +kernel
theorem dX11_setCapacity_46 : decode cX11_setCapacity 46 = .ok (.iload_n 1, 1) := by decide +kernel
theorem dX11_setCapacity_47 : decode cX11_setCapacity 47 = .ok (.iastore, 1) := by decide +kernel
theorem dX11_setCapacity_48 : decode cX11_setCapacity 48 = .ok (.iload_n 2, 1) := by decide +kernel
theorem dX11_setCapacity_49 : decode cX11_setCapacity 49 = .ok (.ireturn, 1) := by decide +kernel
theorem dX11_says_0 : decode cX11_says 0 = .ok (.aload_n 0, 1) := by decide +kernel
theorem dX11_says_1 : decode cX11_says 1 = .ok (.getfield 54, 3) := by decide +kernel
theorem dX11_says_4 : decode cX11_says 4 = .ok (.aload_n 0, 1) := by decide +kernel
theorem dX11_says_5 : decode cX11_says 5 = .ok (.getfield 322, 3) := by decide +kernel
theorem dX11_says_8 : decode cX11_says 8 = .ok (.iload_n 1, 1) := by decide +kernel
theorem dX11_says_9 : decode cX11_says 9 = .ok (.i2b, 1) := by decide +kernel
theorem dX11_says_10 : decode cX11_says 10 = .ok (.bastore, 1) := by decide +kernel
theorem dX11_says_11 : decode cX11_says 11 = .ok (.aload_n 0, 1) := by decide +kernel
theorem dX11_says_12 : decode cX11_says 12 = .ok (.dup, 1) := by decide +kernel
theorem dX11_says_13 : decode cX11_says 13 = .ok (.getfield 322, 3) := by decide +kernel
theorem dX11_says_16 : decode cX11_says 16 = .ok (.iconst 1, 1) := by decide +kernel
theorem dX11_says_17 : decode cX11_says 17 = .ok (.iadd, 1) := by decide +kernel
theorem dX11_says_18 : decode cX11_says 18 = .ok (.putfield 322, 3) := by decide +kernel
theorem dX11_says_21 : decode cX11_says 21 = .ok (.return_, 1) := by decide +kernel
theorem dX11_saysWord_0 : decode cX11_saysWord 0 = .ok (.iconst 0, 1) := by decide +kernel
theorem dX11_saysWord_1 : decode cX11_saysWord 1 = .ok (.istore_n 2, 1) := by decide +kernel
theorem dX11_saysWord_2 : decode cX11_saysWord 2 = .ok (.iload_n 2, 1) := by decide +kernel
theorem dX11_saysWord_3 : decode cX11_saysWord 3 = .ok (.aload_n 1, 1) := by decide +kernel
theorem dX11_saysWord_4 : decode cX11_saysWord 4 = .ok (.invokevirtual 124, 3) := by decide +kernel
theorem dX11_saysWord_7 : decode cX11_saysWord 7 = .ok (.if_icmp .ge 18, 3) := by decide +kernel
theorem dX11_saysWord_10 : decode cX11_saysWord 10 = .ok (.aload_n 0, 1) := by decide +kernel
theorem dX11_saysWord_11 : decode cX11_saysWord 11 = .ok (.aload_n 1, 1) := by decide +kernel
theorem dX11_saysWord_12 : decode cX11_saysWord 12 = .ok (.iload_n 2, 1) := by decide +kernel
theorem dX11_saysWord_13 : decode cX11_saysWord 13 = .ok (.invokevirtual 129, 3) := by decide +kernel
theorem dX11_saysWord_16 : decode cX11_saysWord 16 = .ok (.invokevirtual 325, 3) := by decide +kernel
theorem dX11_saysWord_19 : decode cX11_saysWord 19 = .ok (.iinc 2 1, 3) := by decide +kernel
theorem dX11_saysWord_22 : decode cX11_saysWord 22 = .ok (.goto (-20), 3) := by decide +kernel
theorem dX11_saysWord_25 : decode cX11_saysWord 25 = .ok (.return_, 1) := by decide +kernel
theorem dX11_saysName_0 : decode cX11_saysName 0 = .ok (.iload_n 1, 1) := by decide +kernel
theorem dX11_saysName_1 : decode cX11_saysName 1 = .ok (.bipush 26, 2) := by decide +kernel
theorem dX11_saysName_3 : decode cX11_saysName 3 = .ok (.if_icmp .le 13, 3) := by decide +kernel
theorem dX11_saysName_6 : decode cX11_saysName 6 = .ok (.aload_n 0, 1) := by decide +kernel
theorem dX11_saysName_7 : decode cX11_saysName 7 = .ok (.iload_n 1, 1) := by decide +kernel
theorem dX11_saysName_8 : decode cX11_saysName 8 = .ok (.iconst 1, 1) := by decide +kernel
theorem dX11_saysName_9 : decode cX11_saysName 9 = .ok (.isub, 1) := by decide +kernel
theorem dX11_saysName_10 : decode cX11_saysName 10 = .ok (.bipush 27, 2) := by decide +kernel
theorem dX11_saysName_12 : decode cX11_saysName 12 = .ok (.idiv, 1) := by decide +kernel
theorem dX11_saysName_13 : decode cX11_saysName 13 = .ok (.invokevirtual 328, 3) := by decide +kernel
theorem dX11_saysName_16 : decode cX11_saysName 16 = .ok (.aload_n 0, 1) := by decide +kernel
theorem dX11_saysName_17 : decode cX11_saysName 17 = .ok (.bipush 97, 2) := by decide +kernel
theorem dX11_saysName_19 : decode cX11_saysName 19 = .ok (.iload_n 1, 1) := by decide +kernel
theorem dX11_saysName_20 : decode cX11_saysName 20 = .ok (.iconst 1, 1) := by decide +kernel
theorem dX11_saysName_21 : decode cX11_saysName 21 = .ok (.isub, 1) := by decide +kernel
theorem dX11_saysName_22 : decode cX11_saysName 22 = .ok (.bipush 27, 2) := by decide +kernel
theorem dX11_saysName_24 : decode cX11_saysName 24 = .ok (.irem, 1) := by decide +kernel
theorem dX11_saysName_25 : decode cX11_saysName 25 = .ok (.iadd, 1) := by decide +kernel
theorem dX11_saysName_26 : decode cX11_saysName 26 = .ok (.invokevirtual 325, 3) := by decide +kernel
theorem dX11_saysName_29 : decode cX11_saysName 29 = .ok (.return_, 1) := by decide +kernel
theorem dX11_saysNumber_0 : decode cX11_saysNumber 0 = .ok (.iload_n 1, 1) := by decide +kernel
theorem dX11_saysNumber_1 : decode cX11_saysNumber 1 = .ok (.bipush 9, 2) := by decide +kernel
theorem dX11_saysNumber_3 : decode cX11_saysNumber 3 = .ok (.if_icmp .le 14, 3) := by decide +kernel
theorem dX11_saysNumber_6 : decode cX11_saysNumber 6 = .ok (.aload_n 0, 1) := by decide +kernel
theorem dX11_saysNumber_7 : decode cX11_saysNumber 7 = .ok (.bipush 48, 2) := by decide +kernel
theorem dX11_saysNumber_9 : decode cX11_saysNumber 9 = .ok (.iload_n 1, 1) := by decide +kernel
theorem dX11_saysNumber_10 : decode cX11_saysNumber 10 = .ok (.bipush 10, 2) := by decide +kernel
theorem dX11_saysNumber_12 : decode cX11_saysNumber 12 = .ok (.idiv, 1) := by decide +kernel
theorem dX11_saysNumber_13 : decode cX11_saysNumber 13 = .ok (.iadd, 1) := by decide +kernel
theorem dX11_saysNumber_14 : decode cX11_saysNumber 14 = .ok (.invokevirtual 325, 3) := by decide +kernel
theorem dX11_saysNumber_17 : decode cX11_saysNumber 17 = .ok (.aload_n 0, 1) := by decide +kernel
theorem dX11_saysNumber_18 : decode cX11_saysNumber 18 = .ok (.bipush 48, 2) := by decide +kernel
theorem dX11_saysNumber_20 : decode cX11_saysNumber 20 = .ok (.iload_n 1, 1) := by decide +kernel
theorem dX11_saysNumber_21 : decode cX11_saysNumber 21 = .ok (.bipush 10, 2) := by decide +kernel
theorem dX11_saysNumber_23 : decode cX11_saysNumber 23 = .ok (.irem, 1) := by decide +kernel
theorem dX11_saysNumber_24 : decode cX11_saysNumber 24 = .ok (.iadd, 1) := by decide +kernel
theorem dX11_saysNumber_25 : decode cX11_saysNumber 25 = .ok (.invokevirtual 325, 3) := by decide +kernel
theorem dX11_saysNumber_28 : decode cX11_saysNumber 28 = .ok (.return_, 1) := by decide +kernel
theorem dX11_formatLetter_0 : decode cX11_formatLetter 0 = .ok (.aload_n 0, 1) := by decide +kernel
theorem dX11_formatLetter_1 : decode cX11_formatLetter 1 = .ok (.iconst 0, 1) := by decide +kernel
theorem dX11_formatLetter_2 : decode cX11_formatLetter 2 = .ok (.putfield 3, 3) := by decide +kernel
theorem dX11_formatLetter_5 : decode cX11_formatLetter 5 = .ok (.aload_n 0, 1) := by decide +kernel
theorem dX11_formatLetter_6 : decode cX11_formatLetter 6 = .ok (.iload_n 1, 1) := by decide +kernel
theorem dX11_formatLetter_7 : decode cX11_formatLetter 7 = .ok (.invokevirtual 298, 3) := by decide +kernel
theorem dX11_formatLetter_10 : decode cX11_formatLetter 10 = .ok (.ifCond .eq 5, 3) := by decide +kernel
theorem dX11_formatLetter_13 : decode cX11_formatLetter 13 = .ok (.iconst 0, 1) := by decide +kernel
theorem dX11_formatLetter_14 : decode cX11_formatLetter 14 = .ok (.ireturn, 1) := by decide +kernel
theorem dX11_formatLetter_15 : decode cX11_formatLetter 15 = .ok (.aload_n 0, 1) := by decide +kernel
theorem dX11_formatLetter_16 : decode cX11_formatLetter 16 = .ok (.iconst 0, 1) := by decide +kernel
theorem dX11_formatLetter_17 : decode cX11_formatLetter 17 = .ok (.putfield 322, 3) := by decide +kernel
theorem dX11_formatLetter_20 : decode cX11_formatLetter 20 = .ok (.aload_n 0, 1) := by decide +kernel
theorem dX11_formatLetter_21 : decode cX11_formatLetter 21 = .ok (.aload_n 0, 1) := by decide +kernel
theorem dX11_formatLetter_22 : decode cX11_formatLetter 22 = .ok (.getfield 13, 3) := by decide +kernel
theorem dX11_formatLetter_25 : decode cX11_formatLetter 25 = .ok (.bipush 18, 2) := by decide +kernel
theorem dX11_formatLetter_27 : decode cX11_formatLetter 27 = .ok (.aload_n 0, 1) := by decide +kernel
theorem dX11_formatLetter_28 : decode cX11_formatLetter 28 = .ok (.iload_n 1, 1) := by decide +kernel
theorem dX11_formatLetter_29 : decode cX11_formatLetter 29 = .ok (.iconst 0, 1) := by decide +kernel
theorem dX11_formatLetter_30 : decode cX11_formatLetter 30 = .ok (.invokevirtual 67, 3) := by decide +kernel
theorem dX11_formatLetter_33 : decode cX11_formatLetter 33 = .ok (.iadd, 1) := by decide +kernel
theorem dX11_formatLetter_34 : decode cX11_formatLetter 34 = .ok (.iaload, 1) := by decide +kernel
theorem dX11_formatLetter_35 : decode cX11_formatLetter 35 = .ok (.invokevirtual 328, 3) := by decide +kernel
theorem dX11_formatLetter_38 : decode cX11_formatLetter 38 = .ok (.aload_n 0, 1) := by decide +kernel
theorem dX11_formatLetter_39 : decode cX11_formatLetter 39 = .ok (.bipush 62, 2) := by decide +kernel
theorem dX11_formatLetter_41 : decode cX11_formatLetter 41 = .ok (.invokevirtual 325, 3) := by decide +kernel
theorem dX11_formatLetter_44 : decode cX11_formatLetter 44 = .ok (.aload_n 0, 1) := by decide +kernel
theorem dX11_formatLetter_45 : decode cX11_formatLetter 45 = .ok (.aload_n 0, 1) := by decide +kernel
theorem dX11_formatLetter_46 : decode cX11_formatLetter 46 = .ok (.getfield 13, 3) := by decide +kernel
theorem dX11_formatLetter_49 : decode cX11_formatLetter 49 = .ok (.bipush 18, 2) := by decide +kernel
theorem dX11_formatLetter_51 : decode cX11_formatLetter 51 = .ok (.aload_n 0, 1) := by decide +kernel
theorem dX11_formatLetter_52 : decode cX11_formatLetter 52 = .ok (.iload_n 1, 1) := by decide +kernel
theorem dX11_formatLetter_53 : decode cX11_formatLetter 53 = .ok (.iconst 1, 1) := by decide +kernel
theorem dX11_formatLetter_54 : decode cX11_formatLetter 54 = .ok (.invokevirtual 67, 3) := by decide +kernel
theorem dX11_formatLetter_57 : decode cX11_formatLetter 57 = .ok (.iadd, 1) := by decide +kernel
theorem dX11_formatLetter_58 : decode cX11_formatLetter 58 = .ok (.iaload, 1) := by decide +kernel
theorem dX11_formatLetter_59 : decode cX11_formatLetter 59 = .ok (.invokevirtual 328, 3) := by decide +kernel
theorem dX11_formatLetter_62 : decode cX11_formatLetter 62 = .ok (.aload_n 0, 1) := by decide +kernel
theorem dX11_formatLetter_63 : decode cX11_formatLetter 63 = .ok (.bipush 32, 2) := by decide +kernel
theorem dX11_formatLetter_65 : decode cX11_formatLetter 65 = .ok (.invokevirtual 325, 3) := by decide +kernel
theorem dX11_formatLetter_68 : decode cX11_formatLetter 68 = .ok (.aload_n 0, 1) := by decide +kernel
theorem dX11_formatLetter_69 : decode cX11_formatLetter 69 = .ok (.iload_n 1, 1) := by decide +kernel
theorem dX11_formatLetter_70 : decode cX11_formatLetter 70 = .ok (.iconst 3, 1) := by decide +kernel
theorem dX11_formatLetter_71 : decode cX11_formatLetter 71 = .ok (.invokevirtual 67, 3) := by decide +kernel
theorem dX11_formatLetter_74 : decode cX11_formatLetter 74 = .ok (.tableswitch 84 0 2 #[26, 54, 74], 26) := by decide +kernel
theorem dX11_formatLetter_100 : decode cX11_formatLetter 100 = .ok (.aload_n 0, 1) := by decide +kernel
theorem dX11_formatLetter_101 : decode cX11_formatLetter 101 = .ok (.ldc_w 331, 3) := by decide +kernel
theorem dX11_formatLetter_104 : decode cX11_formatLetter 104 = .ok (.invokevirtual 333, 3) := by decide +kernel
theorem dX11_formatLetter_107 : decode cX11_formatLetter 107 = .ok (.aload_n 0, 1) := by decide +kernel
theorem dX11_formatLetter_108 : decode cX11_formatLetter 108 = .ok (.aload_n 0, 1) := by decide +kernel
theorem dX11_formatLetter_109 : decode cX11_formatLetter 109 = .ok (.getfield 13, 3) := by decide +kernel
theorem dX11_formatLetter_112 : decode cX11_formatLetter 112 = .ok (.bipush 18, 2) := by decide +kernel
theorem dX11_formatLetter_114 : decode cX11_formatLetter 114 = .ok (.aload_n 0, 1) := by decide +kernel
theorem dX11_formatLetter_115 : decode cX11_formatLetter 115 = .ok (.iload_n 1, 1) := by decide +kernel
theorem dX11_formatLetter_116 : decode cX11_formatLetter 116 = .ok (.iconst 4, 1) := by decide +kernel
theorem dX11_formatLetter_117 : decode cX11_formatLetter 117 = .ok (.invokevirtual 67, 3) := by decide +kernel
theorem dX11_formatLetter_120 : decode cX11_formatLetter 120 = .ok (.iadd, 1) := by decide +kernel
theorem dX11_formatLetter_121 : decode cX11_formatLetter 121 = .ok (.iaload, 1) := by decide +kernel
theorem dX11_formatLetter_122 : decode cX11_formatLetter 122 = .ok (.invokevirtual 328, 3) := by decide +kernel
theorem dX11_formatLetter_125 : decode cX11_formatLetter 125 = .ok (.goto 40, 3) := by decide +kernel
theorem dX11_formatLetter_128 : decode cX11_formatLetter 128 = .ok (.aload_n 0, 1) := by decide +kernel
theorem dX11_formatLetter_129 : decode cX11_formatLetter 129 = .ok (.ldc_w 337, 3) := by decide +kernel
theorem dX11_formatLetter_132 : decode cX11_formatLetter 132 = .ok (.invokevirtual 333, 3) := by decide +kernel
theorem dX11_formatLetter_135 : decode cX11_formatLetter 135 = .ok (.aload_n 0, 1) := by decide +kernel
theorem dX11_formatLetter_136 : decode cX11_formatLetter 136 = .ok (.aload_n 0, 1) := by decide +kernel
theorem dX11_formatLetter_137 : decode cX11_formatLetter 137 = .ok (.iload_n 1, 1) := by decide +kernel
theorem dX11_formatLetter_138 : decode cX11_formatLetter 138 = .ok (.iconst 4, 1) := by decide +kernel
theorem dX11_formatLetter_139 : decode cX11_formatLetter 139 = .ok (.invokevirtual 67, 3) := by decide +kernel
theorem dX11_formatLetter_142 : decode cX11_formatLetter 142 = .ok (.invokevirtual 339, 3) := by decide +kernel
theorem dX11_formatLetter_145 : decode cX11_formatLetter 145 = .ok (.goto 20, 3) := by decide +kernel
theorem dX11_formatLetter_148 : decode cX11_formatLetter 148 = .ok (.aload_n 0, 1) := by decide +kernel
theorem dX11_formatLetter_149 : decode cX11_formatLetter 149 = .ok (.ldc_w 342, 3) := by decide +kernel
theorem dX11_formatLetter_152 : decode cX11_formatLetter 152 = .ok (.invokevirtual 333, 3) := by decide +kernel
theorem dX11_formatLetter_155 : decode cX11_formatLetter 155 = .ok (.goto 10, 3) := by decide +kernel
theorem dX11_formatLetter_158 : decode cX11_formatLetter 158 = .ok (.aload_n 0, 1) := by decide +kernel
theorem dX11_formatLetter_159 : decode cX11_formatLetter 159 = .ok (.ldc_w 344, 3) := by decide +kernel
theorem dX11_formatLetter_162 : decode cX11_formatLetter 162 = .ok (.invokevirtual 333, 3) := by decide +kernel
theorem dX11_formatLetter_165 : decode cX11_formatLetter 165 = .ok (.aload_n 0, 1) := by decide +kernel
theorem dX11_formatLetter_166 : decode cX11_formatLetter 166 = .ok (.iload_n 1, 1) := by decide +kernel
theorem dX11_formatLetter_167 : decode cX11_formatLetter 167 = .ok (.invokevirtual 301, 3) := by decide +kernel
theorem dX11_formatLetter_170 : decode cX11_formatLetter 170 = .ok (.ifCond .eq 10, 3) := by decide +kernel
theorem dX11_formatLetter_173 : decode cX11_formatLetter 173 = .ok (.aload_n 0, 1) := by decide +kernel
theorem dX11_formatLetter_174 : decode cX11_formatLetter 174 = .ok (.ldc_w 346, 3) := by decide +kernel
theorem dX11_formatLetter_177 : decode cX11_formatLetter 177 = .ok (.invokevirtual 333, 3) := by decide +kernel
theorem dX11_formatLetter_180 : decode cX11_formatLetter 180 = .ok (.aload_n 0, 1) := by decide +kernel
theorem dX11_formatLetter_181 : decode cX11_formatLetter 181 = .ok (.getfield 322, 3) := by decide +kernel
theorem dX11_formatLetter_184 : decode cX11_formatLetter 184 = .ok (.ireturn, 1) := by decide +kernel
theorem dX11_formatCarrier_0 : decode cX11_formatCarrier 0 = .ok (.aload_n 0, 1) := by decide +kernel
theorem dX11_formatCarrier_1 : decode cX11_formatCarrier 1 = .ok (.iconst 0, 1) := by decide +kernel
theorem dX11_formatCarrier_2 : decode cX11_formatCarrier 2 = .ok (.putfield 3, 3) := by decide +kernel
theorem dX11_formatCarrier_5 : decode cX11_formatCarrier 5 = .ok (.aload_n 0, 1) := by decide +kernel
theorem dX11_formatCarrier_6 : decode cX11_formatCarrier 6 = .ok (.iload_n 1, 1) := by decide +kernel
theorem dX11_formatCarrier_7 : decode cX11_formatCarrier 7 = .ok (.invokevirtual 286, 3) := by decide +kernel
theorem dX11_formatCarrier_10 : decode cX11_formatCarrier 10 = .ok (.ifCond .eq 5, 3) := by decide +kernel
theorem dX11_formatCarrier_13 : decode cX11_formatCarrier 13 = .ok (.iconst 0, 1) := by decide +kernel
theorem dX11_formatCarrier_14 : decode cX11_formatCarrier 14 = .ok (.ireturn, 1) := by decide +kernel
theorem dX11_formatCarrier_15 : decode cX11_formatCarrier 15 = .ok (.aload_n 0, 1) := by decide +kernel
theorem dX11_formatCarrier_16 : decode cX11_formatCarrier 16 = .ok (.getfield 13, 3) := by decide +kernel
theorem dX11_formatCarrier_19 : decode cX11_formatCarrier 19 = .ok (.bipush 33, 2) := by decide +kernel
theorem dX11_formatCarrier_21 : decode cX11_formatCarrier 21 = .ok (.iload_n 1, 1) := by decide +kernel
theorem dX11_formatCarrier_22 : decode cX11_formatCarrier 22 = .ok (.iadd, 1) := by decide +kernel
theorem dX11_formatCarrier_23 : decode cX11_formatCarrier 23 = .ok (.iaload, 1) := by decide +kernel
theorem dX11_formatCarrier_24 : decode cX11_formatCarrier 24 = .ok (.istore_n 2, 1) := by decide +kernel
theorem dX11_formatCarrier_25 : decode cX11_formatCarrier 25 = .ok (.aload_n 0, 1) := by decide +kernel
theorem dX11_formatCarrier_26 : decode cX11_formatCarrier 26 = .ok (.iconst 0, 1) := by decide +kernel
theorem dX11_formatCarrier_27 : decode cX11_formatCarrier 27 = .ok (.putfield 322, 3) := by decide +kernel
theorem dX11_formatCarrier_30 : decode cX11_formatCarrier 30 = .ok (.aload_n 0, 1) := by decide +kernel
theorem dX11_formatCarrier_31 : decode cX11_formatCarrier 31 = .ok (.aload_n 0, 1) := by decide +kernel
theorem dX11_formatCarrier_32 : decode cX11_formatCarrier 32 = .ok (.getfield 13, 3) := by decide +kernel
theorem dX11_formatCarrier_35 : decode cX11_formatCarrier 35 = .ok (.bipush 28, 2) := by decide +kernel
theorem dX11_formatCarrier_37 : decode cX11_formatCarrier 37 = .ok (.iload_n 1, 1) := by decide +kernel
theorem dX11_formatCarrier_38 : decode cX11_formatCarrier 38 = .ok (.iadd, 1) := by decide +kernel
theorem dX11_formatCarrier_39 : decode cX11_formatCarrier 39 = .ok (.iaload, 1) := by decide +kernel
theorem dX11_formatCarrier_40 : decode cX11_formatCarrier 40 = .ok (.invokevirtual 328, 3) := by decide +kernel
theorem dX11_formatCarrier_43 : decode cX11_formatCarrier 43 = .ok (.aload_n 0, 1) := by decide +kernel
theorem dX11_formatCarrier_44 : decode cX11_formatCarrier 44 = .ok (.bipush 58, 2) := by decide +kernel
theorem dX11_formatCarrier_46 : decode cX11_formatCarrier 46 = .ok (.invokevirtual 325, 3) := by decide +kernel
theorem dX11_formatCarrier_49 : decode cX11_formatCarrier 49 = .ok (.aload_n 0, 1) := by decide +kernel
theorem dX11_formatCarrier_50 : decode cX11_formatCarrier 50 = .ok (.bipush 32, 2) := by decide +kernel
theorem dX11_formatCarrier_52 : decode cX11_formatCarrier 52 = .ok (.invokevirtual 325, 3) := by decide +kernel
theorem dX11_formatCarrier_55 : decode cX11_formatCarrier 55 = .ok (.aload_n 0, 1) := by decide +kernel
theorem dX11_formatCarrier_56 : decode cX11_formatCarrier 56 = .ok (.iload_n 2, 1) := by decide +kernel
theorem dX11_formatCarrier_57 : decode cX11_formatCarrier 57 = .ok (.invokevirtual 339, 3) := by decide +kernel
theorem dX11_formatCarrier_60 : decode cX11_formatCarrier 60 = .ok (.iconst 0, 1) := by decide +kernel
theorem dX11_formatCarrier_61 : decode cX11_formatCarrier 61 = .ok (.istore_n 3, 1) := by decide +kernel
theorem dX11_formatCarrier_62 : decode cX11_formatCarrier 62 = .ok (.iload_n 3, 1) := by decide +kernel
theorem dX11_formatCarrier_63 : decode cX11_formatCarrier 63 = .ok (.aload_n 0, 1) := by decide +kernel
theorem dX11_formatCarrier_64 : decode cX11_formatCarrier 64 = .ok (.invokevirtual 170, 3) := by decide +kernel
theorem dX11_formatCarrier_67 : decode cX11_formatCarrier 67 = .ok (.if_icmp .ge 48, 3) := by decide +kernel
theorem dX11_formatCarrier_70 : decode cX11_formatCarrier 70 = .ok (.aload_n 0, 1) := by decide +kernel
theorem dX11_formatCarrier_71 : decode cX11_formatCarrier 71 = .ok (.iload_n 3, 1) := by decide +kernel
theorem dX11_formatCarrier_72 : decode cX11_formatCarrier 72 = .ok (.iconst 1, 1) := by decide +kernel
theorem dX11_formatCarrier_73 : decode cX11_formatCarrier 73 = .ok (.iload_n 2, 1) := by decide +kernel
theorem dX11_formatCarrier_74 : decode cX11_formatCarrier 74 = .ok (.invokevirtual 262, 3) := by decide +kernel
theorem dX11_formatCarrier_77 : decode cX11_formatCarrier 77 = .ok (.ifCond .ne 6, 3) := by decide +kernel
theorem dX11_formatCarrier_80 : decode cX11_formatCarrier 80 = .ok (.goto 29, 3) := by decide +kernel
theorem dX11_formatCarrier_83 : decode cX11_formatCarrier 83 = .ok (.aload_n 0, 1) := by decide +kernel
theorem dX11_formatCarrier_84 : decode cX11_formatCarrier 84 = .ok (.bipush 32, 2) := by decide +kernel
theorem dX11_formatCarrier_86 : decode cX11_formatCarrier 86 = .ok (.invokevirtual 325, 3) := by decide +kernel
theorem dX11_formatCarrier_89 : decode cX11_formatCarrier 89 = .ok (.aload_n 0, 1) := by decide +kernel
theorem dX11_formatCarrier_90 : decode cX11_formatCarrier 90 = .ok (.iload_n 3, 1) := by decide +kernel
theorem dX11_formatCarrier_91 : decode cX11_formatCarrier 91 = .ok (.invokevirtual 339, 3) := by decide +kernel
theorem dX11_formatCarrier_94 : decode cX11_formatCarrier 94 = .ok (.aload_n 0, 1) := by decide +kernel
theorem dX11_formatCarrier_95 : decode cX11_formatCarrier 95 = .ok (.iload_n 3, 1) := by decide +kernel
theorem dX11_formatCarrier_96 : decode cX11_formatCarrier 96 = .ok (.iconst 2, 1) := by decide +kernel
theorem dX11_formatCarrier_97 : decode cX11_formatCarrier 97 = .ok (.invokevirtual 67, 3) := by decide +kernel
theorem dX11_formatCarrier_100 : decode cX11_formatCarrier 100 = .ok (.ifCond .eq 9, 3) := by decide +kernel
theorem dX11_formatCarrier_103 : decode cX11_formatCarrier 103 = .ok (.aload_n 0, 1) := by decide +kernel
theorem dX11_formatCarrier_104 : decode cX11_formatCarrier 104 = .ok (.bipush 42, 2) := by decide +kernel
theorem dX11_formatCarrier_106 : decode cX11_formatCarrier 106 = .ok (.invokevirtual 325, 3) := by decide +kernel
theorem dX11_formatCarrier_109 : decode cX11_formatCarrier 109 = .ok (.iinc 3 1, 3) := by decide +kernel
theorem dX11_formatCarrier_112 : decode cX11_formatCarrier 112 = .ok (.goto (-50), 3) := by decide +kernel
theorem dX11_formatCarrier_115 : decode cX11_formatCarrier 115 = .ok (.aload_n 0, 1) := by decide +kernel
theorem dX11_formatCarrier_116 : decode cX11_formatCarrier 116 = .ok (.getfield 322, 3) := by decide +kernel
theorem dX11_formatCarrier_119 : decode cX11_formatCarrier 119 = .ok (.ireturn, 1) := by decide +kernel
theorem dX11_formattedByte_0 : decode cX11_formattedByte 0 = .ok (.aload_n 0, 1) := by decide +kernel
theorem dX11_formattedByte_1 : decode cX11_formattedByte 1 = .ok (.iconst 0, 1) := by decide +kernel
theorem dX11_formattedByte_2 : decode cX11_formattedByte 2 = .ok (.putfield 3, 3) := by decide +kernel
theorem dX11_formattedByte_5 : decode cX11_formattedByte 5 = .ok (.iload_n 1, 1) := by decide +kernel
theorem dX11_formattedByte_6 : decode cX11_formattedByte 6 = .ok (.iconst 0, 1) := by decide +kernel
theorem dX11_formattedByte_7 : decode cX11_formattedByte 7 = .ok (.aload_n 0, 1) := by decide +kernel
theorem dX11_formattedByte_8 : decode cX11_formattedByte 8 = .ok (.getfield 322, 3) := by decide +kernel
theorem dX11_formattedByte_11 : decode cX11_formattedByte 11 = .ok (.iconst 1, 1) := by decide +kernel
theorem dX11_formattedByte_12 : decode cX11_formattedByte 12 = .ok (.isub, 1) := by decide +kernel
theorem dX11_formattedByte_13 : decode cX11_formattedByte 13 = .ok (.invokestatic 79, 3) := by decide +kernel
theorem dX11_formattedByte_16 : decode cX11_formattedByte 16 = .ok (.ifCond .eq 12, 3) := by decide +kernel
theorem dX11_formattedByte_19 : decode cX11_formattedByte 19 = .ok (.aload_n 0, 1) := by decide +kernel
theorem dX11_formattedByte_20 : decode cX11_formattedByte 20 = .ok (.getfield 54, 3) := by decide +kernel
theorem dX11_formattedByte_23 : decode cX11_formattedByte 23 = .ok (.iload_n 1, 1) := by decide +kernel
theorem dX11_formattedByte_24 : decode cX11_formattedByte 24 = .ok (.baload, 1) := by decide +kernel
theorem dX11_formattedByte_25 : decode cX11_formattedByte 25 = .ok (.goto 4, 3) := by decide +kernel
theorem dX11_formattedByte_28 : decode cX11_formattedByte 28 = .ok (.iconst (-1), 1) := by decide +kernel
theorem dX11_formattedByte_29 : decode cX11_formattedByte 29 = .ok (.ireturn, 1) := by decide +kernel
theorem dJ6_bitCount_0f7a4_0 : decode cJ6_bitCount_0f7a4 0 = .ok (.iload_n 0, 1) := by decide +kernel
theorem dJ6_bitCount_0f7a4_1 : decode cJ6_bitCount_0f7a4 1 = .ok (.iload_n 0, 1) := by decide +kernel
theorem dJ6_bitCount_0f7a4_2 : decode cJ6_bitCount_0f7a4 2 = .ok (.iconst 1, 1) := by decide +kernel
theorem dJ6_bitCount_0f7a4_3 : decode cJ6_bitCount_0f7a4 3 = .ok (.iushr, 1) := by decide +kernel
theorem dJ6_bitCount_0f7a4_4 : decode cJ6_bitCount_0f7a4 4 = .ok (.ldc_w 265, 3) := by decide +kernel
theorem dJ6_bitCount_0f7a4_7 : decode cJ6_bitCount_0f7a4 7 = .ok (.iand, 1) := by decide +kernel
theorem dJ6_bitCount_0f7a4_8 : decode cJ6_bitCount_0f7a4 8 = .ok (.isub, 1) := by decide +kernel
theorem dJ6_bitCount_0f7a4_9 : decode cJ6_bitCount_0f7a4 9 = .ok (.istore_n 0, 1) := by decide +kernel
theorem dJ6_bitCount_0f7a4_10 : decode cJ6_bitCount_0f7a4 10 = .ok (.iload_n 0, 1) := by decide +kernel
theorem dJ6_bitCount_0f7a4_11 : decode cJ6_bitCount_0f7a4 11 = .ok (.ldc_w 266, 3) := by decide +kernel
theorem dJ6_bitCount_0f7a4_14 : decode cJ6_bitCount_0f7a4 14 = .ok (.iand, 1) := by decide +kernel
theorem dJ6_bitCount_0f7a4_15 : decode cJ6_bitCount_0f7a4 15 = .ok (.iload_n 0, 1) := by decide +kernel
theorem dJ6_bitCount_0f7a4_16 : decode cJ6_bitCount_0f7a4 16 = .ok (.iconst 2, 1) := by decide +kernel
theorem dJ6_bitCount_0f7a4_17 : decode cJ6_bitCount_0f7a4 17 = .ok (.iushr, 1) := by decide +kernel
theorem dJ6_bitCount_0f7a4_18 : decode cJ6_bitCount_0f7a4 18 = .ok (.ldc_w 266, 3) := by decide +kernel
theorem dJ6_bitCount_0f7a4_21 : decode cJ6_bitCount_0f7a4 21 = .ok (.iand, 1) := by decide +kernel
theorem dJ6_bitCount_0f7a4_22 : decode cJ6_bitCount_0f7a4 22 = .ok (.iadd, 1) := by decide +kernel
theorem dJ6_bitCount_0f7a4_23 : decode cJ6_bitCount_0f7a4 23 = .ok (.istore_n 0, 1) := by decide +kernel
theorem dJ6_bitCount_0f7a4_24 : decode cJ6_bitCount_0f7a4 24 = .ok (.iload_n 0, 1) := by decide +kernel
theorem dJ6_bitCount_0f7a4_25 : decode cJ6_bitCount_0f7a4 25 = .ok (.iload_n 0, 1) := by decide +kernel
theorem dJ6_bitCount_0f7a4_26 : decode cJ6_bitCount_0f7a4 26 = .ok (.iconst 4, 1) := by decide +kernel
theorem dJ6_bitCount_0f7a4_27 : decode cJ6_bitCount_0f7a4 27 = .ok (.iushr, 1) := by decide +kernel
theorem dJ6_bitCount_0f7a4_28 : decode cJ6_bitCount_0f7a4 28 = .ok (.iadd, 1) := by decide +kernel
theorem dJ6_bitCount_0f7a4_29 : decode cJ6_bitCount_0f7a4 29 = .ok (.ldc_w 267, 3) := by decide +kernel
theorem dJ6_bitCount_0f7a4_32 : decode cJ6_bitCount_0f7a4 32 = .ok (.iand, 1) := by decide +kernel
theorem dJ6_bitCount_0f7a4_33 : decode cJ6_bitCount_0f7a4 33 = .ok (.istore_n 0, 1) := by decide +kernel
theorem dJ6_bitCount_0f7a4_34 : decode cJ6_bitCount_0f7a4 34 = .ok (.iload_n 0, 1) := by decide +kernel
theorem dJ6_bitCount_0f7a4_35 : decode cJ6_bitCount_0f7a4 35 = .ok (.iload_n 0, 1) := by decide +kernel
theorem dJ6_bitCount_0f7a4_36 : decode cJ6_bitCount_0f7a4 36 = .ok (.bipush 8, 2) := by decide +kernel
theorem dJ6_bitCount_0f7a4_38 : decode cJ6_bitCount_0f7a4 38 = .ok (.iushr, 1) := by decide +kernel
theorem dJ6_bitCount_0f7a4_39 : decode cJ6_bitCount_0f7a4 39 = .ok (.iadd, 1) := by decide +kernel
theorem dJ6_bitCount_0f7a4_40 : decode cJ6_bitCount_0f7a4 40 = .ok (.istore_n 0, 1) := by decide +kernel
theorem dJ6_bitCount_0f7a4_41 : decode cJ6_bitCount_0f7a4 41 = .ok (.iload_n 0, 1) := by decide +kernel
theorem dJ6_bitCount_0f7a4_42 : decode cJ6_bitCount_0f7a4 42 = .ok (.iload_n 0, 1) := by decide +kernel
theorem dJ6_bitCount_0f7a4_43 : decode cJ6_bitCount_0f7a4 43 = .ok (.bipush 16, 2) := by decide +kernel
theorem dJ6_bitCount_0f7a4_45 : decode cJ6_bitCount_0f7a4 45 = .ok (.iushr, 1) := by decide +kernel
theorem dJ6_bitCount_0f7a4_46 : decode cJ6_bitCount_0f7a4 46 = .ok (.iadd, 1) := by decide +kernel
theorem dJ6_bitCount_0f7a4_47 : decode cJ6_bitCount_0f7a4 47 = .ok (.istore_n 0, 1) := by decide +kernel
theorem dJ6_bitCount_0f7a4_48 : decode cJ6_bitCount_0f7a4 48 = .ok (.iload_n 0, 1) := by decide +kernel
theorem dJ6_bitCount_0f7a4_49 : decode cJ6_bitCount_0f7a4 49 = .ok (.bipush 63, 2) := by decide +kernel
theorem dJ6_bitCount_0f7a4_51 : decode cJ6_bitCount_0f7a4 51 = .ok (.iand, 1) := by decide +kernel
theorem dJ6_bitCount_0f7a4_52 : decode cJ6_bitCount_0f7a4 52 = .ok (.ireturn, 1) := by decide +kernel
theorem dJ9_floorMod_7cf53_0 : decode cJ9_floorMod_7cf53 0 = .ok (.iload_n 0, 1) := by decide +kernel
theorem dJ9_floorMod_7cf53_1 : decode cJ9_floorMod_7cf53 1 = .ok (.iload_n 1, 1) := by decide +kernel
theorem dJ9_floorMod_7cf53_2 : decode cJ9_floorMod_7cf53 2 = .ok (.irem, 1) := by decide +kernel
theorem dJ9_floorMod_7cf53_3 : decode cJ9_floorMod_7cf53 3 = .ok (.istore_n 2, 1) := by decide +kernel
theorem dJ9_floorMod_7cf53_4 : decode cJ9_floorMod_7cf53 4 = .ok (.iload_n 0, 1) := by decide +kernel
theorem dJ9_floorMod_7cf53_5 : decode cJ9_floorMod_7cf53 5 = .ok (.iload_n 1, 1) := by decide +kernel
theorem dJ9_floorMod_7cf53_6 : decode cJ9_floorMod_7cf53 6 = .ok (.ixor, 1) := by decide +kernel
theorem dJ9_floorMod_7cf53_7 : decode cJ9_floorMod_7cf53 7 = .ok (.ifCond .ge 11, 3) := by decide +kernel
theorem dJ9_floorMod_7cf53_10 : decode cJ9_floorMod_7cf53 10 = .ok (.iload_n 2, 1) := by decide +kernel
theorem dJ9_floorMod_7cf53_11 : decode cJ9_floorMod_7cf53 11 = .ok (.ifCond .eq 7, 3) := by decide +kernel
theorem dJ9_floorMod_7cf53_14 : decode cJ9_floorMod_7cf53 14 = .ok (.iload_n 2, 1) := by decide +kernel
theorem dJ9_floorMod_7cf53_15 : decode cJ9_floorMod_7cf53 15 = .ok (.iload_n 1, 1) := by decide +kernel
theorem dJ9_floorMod_7cf53_16 : decode cJ9_floorMod_7cf53 16 = .ok (.iadd, 1) := by decide +kernel
theorem dJ9_floorMod_7cf53_17 : decode cJ9_floorMod_7cf53 17 = .ok (.ireturn, 1) := by decide +kernel
theorem dJ9_floorMod_7cf53_18 : decode cJ9_floorMod_7cf53 18 = .ok (.iload_n 2, 1) := by decide +kernel
theorem dJ9_floorMod_7cf53_19 : decode cJ9_floorMod_7cf53 19 = .ok (.ireturn, 1) := by decide +kernel
theorem dJ9_max_7cf53_0 : decode cJ9_max_7cf53 0 = .ok (.iload_n 0, 1) := by decide +kernel
theorem dJ9_max_7cf53_1 : decode cJ9_max_7cf53 1 = .ok (.iload_n 1, 1) := by decide +kernel
theorem dJ9_max_7cf53_2 : decode cJ9_max_7cf53 2 = .ok (.if_icmp .lt 7, 3) := by decide +kernel
theorem dJ9_max_7cf53_5 : decode cJ9_max_7cf53 5 = .ok (.iload_n 0, 1) := by decide +kernel
theorem dJ9_max_7cf53_6 : decode cJ9_max_7cf53 6 = .ok (.goto 4, 3) := by decide +kernel
theorem dJ9_max_7cf53_9 : decode cJ9_max_7cf53 9 = .ok (.iload_n 1, 1) := by decide +kernel
theorem dJ9_max_7cf53_10 : decode cJ9_max_7cf53 10 = .ok (.ireturn, 1) := by decide +kernel
theorem dJ9_min_7cf53_0 : decode cJ9_min_7cf53 0 = .ok (.iload_n 0, 1) := by decide +kernel
theorem dJ9_min_7cf53_1 : decode cJ9_min_7cf53 1 = .ok (.iload_n 1, 1) := by decide +kernel
theorem dJ9_min_7cf53_2 : decode cJ9_min_7cf53 2 = .ok (.if_icmp .gt 7, 3) := by decide +kernel
theorem dJ9_min_7cf53_5 : decode cJ9_min_7cf53 5 = .ok (.iload_n 0, 1) := by decide +kernel
theorem dJ9_min_7cf53_6 : decode cJ9_min_7cf53 6 = .ok (.goto 4, 3) := by decide +kernel
theorem dJ9_min_7cf53_9 : decode cJ9_min_7cf53 9 = .ok (.iload_n 1, 1) := by decide +kernel
theorem dJ9_min_7cf53_10 : decode cJ9_min_7cf53 10 = .ok (.ireturn, 1) := by decide +kernel
theorem dJ0_length_8abf5_0 : decode cJ0_length_8abf5 0 = .ok (.aload_n 0, 1) := by decide +kernel
theorem dJ0_length_8abf5_1 : decode cJ0_length_8abf5 1 = .ok (.getfield 9, 3) := by decide +kernel
theorem dJ0_length_8abf5_4 : decode cJ0_length_8abf5 4 = .ok (.arraylength, 1) := by decide +kernel
theorem dJ0_length_8abf5_5 : decode cJ0_length_8abf5 5 = .ok (.aload_n 0, 1) := by decide +kernel
theorem dJ0_length_8abf5_6 : decode cJ0_length_8abf5 6 = .ok (.invokevirtual 335, 3) := by decide +kernel
theorem dJ0_length_8abf5_9 : decode cJ0_length_8abf5 9 = .ok (.ishr, 1) := by decide +kernel
theorem dJ0_length_8abf5_10 : decode cJ0_length_8abf5 10 = .ok (.ireturn, 1) := by decide +kernel
theorem dJ0_charAt_5068e_0 : decode cJ0_charAt_5068e 0 = .ok (.aload_n 0, 1) := by decide +kernel
theorem dJ0_charAt_5068e_1 : decode cJ0_charAt_5068e 1 = .ok (.invokevirtual 492, 3) := by decide +kernel
theorem dJ0_charAt_5068e_4 : decode cJ0_charAt_5068e 4 = .ok (.ifCond .eq 12, 3) := by decide +kernel
theorem dJ0_charAt_5068e_7 : decode cJ0_charAt_5068e 7 = .ok (.aload_n 0, 1) := by decide +kernel
theorem dJ0_charAt_5068e_8 : decode cJ0_charAt_5068e 8 = .ok (.getfield 9, 3) := by decide +kernel
theorem dJ0_charAt_5068e_11 : decode cJ0_charAt_5068e 11 = .ok (.iload_n 1, 1) := by decide +kernel
theorem dJ0_charAt_5068e_12 : decode cJ0_charAt_5068e 12 = .ok (.invokestatic 495, 3) := by decide +kernel
theorem dJ0_charAt_5068e_15 : decode cJ0_charAt_5068e 15 = .ok (.ireturn, 1) := by decide +kernel
theorem dJ0_charAt_5068e_16 : decode cJ0_charAt_5068e 16 = .ok (.aload_n 0, 1) := by decide +kernel
theorem dJ0_charAt_5068e_17 : decode cJ0_charAt_5068e 17 = .ok (.getfield 9, 3) := by decide +kernel
theorem dJ0_charAt_5068e_20 : decode cJ0_charAt_5068e 20 = .ok (.iload_n 1, 1) := by decide +kernel
theorem dJ0_charAt_5068e_21 : decode cJ0_charAt_5068e 21 = .ok (.invokestatic 498, 3) := by decide +kernel
theorem dJ0_charAt_5068e_24 : decode cJ0_charAt_5068e 24 = .ok (.ireturn, 1) := by decide +kernel
theorem dJ0_coder_7d493_0 : decode cJ0_coder_7d493 0 = .ok (.getstatic 38, 3) := by decide +kernel
theorem dJ0_coder_7d493_3 : decode cJ0_coder_7d493 3 = .ok (.ifCond .eq 10, 3) := by decide +kernel
theorem dJ0_coder_7d493_6 : decode cJ0_coder_7d493 6 = .ok (.aload_n 0, 1) := by decide +kernel
theorem dJ0_coder_7d493_7 : decode cJ0_coder_7d493 7 = .ok (.getfield 15, 3) := by decide +kernel
theorem dJ0_coder_7d493_10 : decode cJ0_coder_7d493 10 = .ok (.goto 4, 3) := by decide +kernel
theorem dJ0_coder_7d493_13 : decode cJ0_coder_7d493 13 = .ok (.iconst 1, 1) := by decide +kernel
theorem dJ0_coder_7d493_14 : decode cJ0_coder_7d493 14 = .ok (.ireturn, 1) := by decide +kernel
theorem dJ0_isLatin1_aae02_0 : decode cJ0_isLatin1_aae02 0 = .ok (.getstatic 38, 3) := by decide +kernel
theorem dJ0_isLatin1_aae02_3 : decode cJ0_isLatin1_aae02 3 = .ok (.ifCond .eq 14, 3) := by decide +kernel
theorem dJ0_isLatin1_aae02_6 : decode cJ0_isLatin1_aae02 6 = .ok (.aload_n 0, 1) := by decide +kernel
theorem dJ0_isLatin1_aae02_7 : decode cJ0_isLatin1_aae02 7 = .ok (.getfield 15, 3) := by decide +kernel
theorem dJ0_isLatin1_aae02_10 : decode cJ0_isLatin1_aae02 10 = .ok (.ifCond .ne 7, 3) := by decide +kernel
theorem dJ0_isLatin1_aae02_13 : decode cJ0_isLatin1_aae02 13 = .ok (.iconst 1, 1) := by decide +kernel
theorem dJ0_isLatin1_aae02_14 : decode cJ0_isLatin1_aae02 14 = .ok (.goto 4, 3) := by decide +kernel
theorem dJ0_isLatin1_aae02_17 : decode cJ0_isLatin1_aae02 17 = .ok (.iconst 0, 1) := by decide +kernel
theorem dJ0_isLatin1_aae02_18 : decode cJ0_isLatin1_aae02 18 = .ok (.ireturn, 1) := by decide +kernel
theorem dJ0_checkIndex_df160_0 : decode cJ0_checkIndex_df160 0 = .ok (.iload_n 0, 1) := by decide +kernel
theorem dJ0_checkIndex_df160_1 : decode cJ0_checkIndex_df160 1 = .ok (.iload_n 1, 1) := by decide +kernel
theorem dJ0_checkIndex_df160_2 : decode cJ0_checkIndex_df160 2 = .ok (.getstatic 1053, 3) := by decide +kernel
theorem dJ0_checkIndex_df160_5 : decode cJ0_checkIndex_df160 5 = .ok (.invokestatic 1059, 3) := by decide +kernel
theorem dJ0_checkIndex_df160_8 : decode cJ0_checkIndex_df160 8 = .ok (.pop, 1) := by decide +kernel
theorem dJ0_checkIndex_df160_9 : decode cJ0_checkIndex_df160 9 = .ok (.return_, 1) := by decide +kernel
theorem dJ1_charAt_3b067_0 : decode cJ1_charAt_3b067 0 = .ok (.iload_n 1, 1) := by decide +kernel
theorem dJ1_charAt_3b067_1 : decode cJ1_charAt_3b067 1 = .ok (.aload_n 0, 1) := by decide +kernel
theorem dJ1_charAt_3b067_2 : decode cJ1_charAt_3b067 2 = .ok (.arraylength, 1) := by decide +kernel
theorem dJ1_charAt_3b067_3 : decode cJ1_charAt_3b067 3 = .ok (.invokestatic 9, 3) := by decide +kernel
theorem dJ1_charAt_3b067_6 : decode cJ1_charAt_3b067 6 = .ok (.aload_n 0, 1) := by decide +kernel
theorem dJ1_charAt_3b067_7 : decode cJ1_charAt_3b067 7 = .ok (.iload_n 1, 1) := by decide +kernel
theorem dJ1_charAt_3b067_8 : decode cJ1_charAt_3b067 8 = .ok (.baload, 1) := by decide +kernel
theorem dJ1_charAt_3b067_9 : decode cJ1_charAt_3b067 9 = .ok (.sipush 255, 3) := by decide +kernel
theorem dJ1_charAt_3b067_12 : decode cJ1_charAt_3b067 12 = .ok (.iand, 1) := by decide +kernel
theorem dJ1_charAt_3b067_13 : decode cJ1_charAt_3b067 13 = .ok (.i2c, 1) := by decide +kernel
theorem dJ1_charAt_3b067_14 : decode cJ1_charAt_3b067 14 = .ok (.ireturn, 1) := by decide +kernel
theorem dJ2_getChar_3b067_0 : decode cJ2_getChar_3b067 0 = .ok (.getstatic 44, 3) := by decide +kernel
theorem dJ2_getChar_3b067_3 : decode cJ2_getChar_3b067 3 = .ok (.ifCond .ne 25, 3) := by decide +kernel
theorem dJ2_getChar_3b067_6 : decode cJ2_getChar_3b067 6 = .ok (.iload_n 1, 1) := by decide +kernel
theorem dJ2_getChar_3b067_7 : decode cJ2_getChar_3b067 7 = .ok (.ifCond .lt 11, 3) := by decide +kernel
theorem dJ2_getChar_3b067_10 : decode cJ2_getChar_3b067 10 = .ok (.iload_n 1, 1) := by decide +kernel
theorem dJ2_getChar_3b067_11 : decode cJ2_getChar_3b067 11 = .ok (.aload_n 0, 1) := by decide +kernel
theorem dJ2_getChar_3b067_12 : decode cJ2_getChar_3b067 12 = .ok (.invokestatic 48, 3) := by decide +kernel
theorem dJ2_getChar_3b067_15 : decode cJ2_getChar_3b067 15 = .ok (.if_icmp .lt 13, 3) := by decide +kernel
theorem dJ2_getChar_3b067_18 : decode cJ2_getChar_3b067 18 = .ok (.new 52, 3) := by decide +kernel
theorem dJ2_getChar_3b067_21 : decode cJ2_getChar_3b067 21 = .ok (.dup, 1) := by decide +kernel
theorem dJ2_getChar_3b067_22 : decode cJ2_getChar_3b067 22 = .ok (.ldc 54, 2) := by decide +kernel
theorem dJ2_getChar_3b067_24 : decode cJ2_getChar_3b067 24 = .ok (.invokespecial 56, 3) := by decide +kernel
theorem dJ2_getChar_3b067_27 : decode cJ2_getChar_3b067 27 = .ok (.athrow, 1) := by decide +kernel
theorem dJ2_getChar_3b067_28 : decode cJ2_getChar_3b067 28 = .ok (.iload_n 1, 1) := by decide +kernel
theorem dJ2_getChar_3b067_29 : decode cJ2_getChar_3b067 29 = .ok (.iconst 1, 1) := by decide +kernel
theorem dJ2_getChar_3b067_30 : decode cJ2_getChar_3b067 30 = .ok (.ishl, 1) := by decide +kernel
theorem dJ2_getChar_3b067_31 : decode cJ2_getChar_3b067 31 = .ok (.istore_n 1, 1) := by decide +kernel
theorem dJ2_getChar_3b067_32 : decode cJ2_getChar_3b067 32 = .ok (.aload_n 0, 1) := by decide +kernel
theorem dJ2_getChar_3b067_33 : decode cJ2_getChar_3b067 33 = .ok (.iload_n 1, 1) := by decide +kernel
theorem dJ2_getChar_3b067_34 : decode cJ2_getChar_3b067 34 = .ok (.iinc 1 1, 3) := by decide +kernel
theorem dJ2_getChar_3b067_37 : decode cJ2_getChar_3b067 37 = .ok (.baload, 1) := by decide +kernel
theorem dJ2_getChar_3b067_38 : decode cJ2_getChar_3b067 38 = .ok (.sipush 255, 3) := by decide +kernel
theorem dJ2_getChar_3b067_41 : decode cJ2_getChar_3b067 41 = .ok (.iand, 1) := by decide +kernel
theorem dJ2_getChar_3b067_42 : decode cJ2_getChar_3b067 42 = .ok (.getstatic 59, 3) := by decide +kernel
theorem dJ2_getChar_3b067_45 : decode cJ2_getChar_3b067 45 = .ok (.ishl, 1) := by decide +kernel
theorem dJ2_getChar_3b067_46 : decode cJ2_getChar_3b067 46 = .ok (.aload_n 0, 1) := by decide +kernel
theorem dJ2_getChar_3b067_47 : decode cJ2_getChar_3b067 47 = .ok (.iload_n 1, 1) := by decide +kernel
theorem dJ2_getChar_3b067_48 : decode cJ2_getChar_3b067 48 = .ok (.baload, 1) := by decide +kernel
theorem dJ2_getChar_3b067_49 : decode cJ2_getChar_3b067 49 = .ok (.sipush 255, 3) := by decide +kernel
theorem dJ2_getChar_3b067_52 : decode cJ2_getChar_3b067 52 = .ok (.iand, 1) := by decide +kernel
theorem dJ2_getChar_3b067_53 : decode cJ2_getChar_3b067 53 = .ok (.getstatic 63, 3) := by decide +kernel
theorem dJ2_getChar_3b067_56 : decode cJ2_getChar_3b067 56 = .ok (.ishl, 1) := by decide +kernel
theorem dJ2_getChar_3b067_57 : decode cJ2_getChar_3b067 57 = .ok (.ior, 1) := by decide +kernel
theorem dJ2_getChar_3b067_58 : decode cJ2_getChar_3b067 58 = .ok (.i2c, 1) := by decide +kernel
theorem dJ2_getChar_3b067_59 : decode cJ2_getChar_3b067 59 = .ok (.ireturn, 1) := by decide +kernel
theorem dJ2_length_9d52b_0 : decode cJ2_length_9d52b 0 = .ok (.aload_n 0, 1) := by decide +kernel
theorem dJ2_length_9d52b_1 : decode cJ2_length_9d52b 1 = .ok (.arraylength, 1) := by decide +kernel
theorem dJ2_length_9d52b_2 : decode cJ2_length_9d52b 2 = .ok (.iconst 1, 1) := by decide +kernel
theorem dJ2_length_9d52b_3 : decode cJ2_length_9d52b 3 = .ok (.ishr, 1) := by decide +kernel
theorem dJ2_length_9d52b_4 : decode cJ2_length_9d52b 4 = .ok (.ireturn, 1) := by decide +kernel
theorem dJ2_charAt_3b067_0 : decode cJ2_charAt_3b067 0 = .ok (.iload_n 1, 1) := by decide +kernel
theorem dJ2_charAt_3b067_1 : decode cJ2_charAt_3b067 1 = .ok (.aload_n 0, 1) := by decide +kernel
theorem dJ2_charAt_3b067_2 : decode cJ2_charAt_3b067 2 = .ok (.invokestatic 67, 3) := by decide +kernel
theorem dJ2_charAt_3b067_5 : decode cJ2_charAt_3b067 5 = .ok (.aload_n 0, 1) := by decide +kernel
theorem dJ2_charAt_3b067_6 : decode cJ2_charAt_3b067 6 = .ok (.iload_n 1, 1) := by decide +kernel
theorem dJ2_charAt_3b067_7 : decode cJ2_charAt_3b067 7 = .ok (.invokestatic 71, 3) := by decide +kernel
theorem dJ2_charAt_3b067_10 : decode cJ2_charAt_3b067 10 = .ok (.ireturn, 1) := by decide +kernel
theorem dJ2_checkIndex_2214a_0 : decode cJ2_checkIndex_2214a 0 = .ok (.iload_n 0, 1) := by decide +kernel
theorem dJ2_checkIndex_2214a_1 : decode cJ2_checkIndex_2214a 1 = .ok (.aload_n 1, 1) := by decide +kernel
theorem dJ2_checkIndex_2214a_2 : decode cJ2_checkIndex_2214a 2 = .ok (.invokestatic 48, 3) := by decide +kernel
theorem dJ2_checkIndex_2214a_5 : decode cJ2_checkIndex_2214a 5 = .ok (.invokestatic 414, 3) := by decide +kernel
theorem dJ2_checkIndex_2214a_8 : decode cJ2_checkIndex_2214a 8 = .ok (.return_, 1) := by decide +kernel
theorem dJ3_checkIndex_8e157_0 : decode cJ3_checkIndex_8e157 0 = .ok (.iload_n 0, 1) := by decide +kernel
theorem dJ3_checkIndex_8e157_1 : decode cJ3_checkIndex_8e157 1 = .ok (.ifCond .lt 8, 3) := by decide +kernel
theorem dJ3_checkIndex_8e157_4 : decode cJ3_checkIndex_8e157 4 = .ok (.iload_n 0, 1) := by decide +kernel
theorem dJ3_checkIndex_8e157_5 : decode cJ3_checkIndex_8e157 5 = .ok (.iload_n 1, 1) := by decide +kernel
theorem dJ3_checkIndex_8e157_6 : decode cJ3_checkIndex_8e157 6 = .ok (.if_icmp .lt 10, 3) := by decide +kernel
theorem dJ3_checkIndex_8e157_9 : decode cJ3_checkIndex_8e157 9 = .ok (.aload_n 2, 1) := by decide +kernel
theorem dJ3_checkIndex_8e157_10 : decode cJ3_checkIndex_8e157 10 = .ok (.iload_n 0, 1) := by decide +kernel
theorem dJ3_checkIndex_8e157_11 : decode cJ3_checkIndex_8e157 11 = .ok (.iload_n 1, 1) := by decide +kernel
theorem dJ3_checkIndex_8e157_12 : decode cJ3_checkIndex_8e157 12 = .ok (.invokestatic 95, 3) := by decide +kernel
theorem dJ3_checkIndex_8e157_15 : decode cJ3_checkIndex_8e157 15 = .ok (.athrow, 1) := by decide +kernel
theorem dJ3_checkIndex_8e157_16 : decode cJ3_checkIndex_8e157 16 = .ok (.iload_n 0, 1) := by decide +kernel
theorem dJ3_checkIndex_8e157_17 : decode cJ3_checkIndex_8e157 17 = .ok (.ireturn, 1) := by decide +kernel
