theorem dX0_init_0 : decode cX0_init 0 = .ok (.aload_n 0, 1) := by decide +kernel
theorem dX0_init_1 : decode cX0_init 1 = .ok (.invokespecial 3, 3) := by decide +kernel
theorem dX0_init_4 : decode cX0_init 4 = .ok (.aload_n 0, 1) := by decide +kernel
theorem dX0_init_5 : decode cX0_init 5 = .ok (.iconst 0, 1) := by decide +kernel
theorem dX0_init_6 : decode cX0_init 6 = .ok (.putfield 9, 3) := by decide +kernel
theorem dX0_init_9 : decode cX0_init 9 = .ok (.aload_n 0, 1) := by decide +kernel
theorem dX0_init_10 : decode cX0_init 10 = .ok (.iconst 0, 1) := by decide +kernel
theorem dX0_init_11 : decode cX0_init 11 = .ok (.putfield 15, 3) := by decide +kernel
theorem dX0_init_14 : decode cX0_init 14 = .ok (.aload_n 0, 1) := by decide +kernel
theorem dX0_init_15 : decode cX0_init 15 = .ok (.bipush 8, 2) := by decide +kernel
theorem dX0_init_17 : decode cX0_init 17 = .ok (.anewarray 18, 3) := by decide +kernel
theorem dX0_init_20 : decode cX0_init 20 = .ok (.putfield 20, 3) := by decide +kernel
theorem dX0_init_23 : decode cX0_init 23 = .ok (.iconst 0, 1) := by decide +kernel
theorem dX0_init_24 : decode cX0_init 24 = .ok (.istore_n 1, 1) := by decide +kernel
theorem dX0_init_25 : decode cX0_init 25 = .ok (.iload_n 1, 1) := by decide +kernel
theorem dX0_init_26 : decode cX0_init 26 = .ok (.bipush 8, 2) := by decide +kernel
theorem dX0_init_28 : decode cX0_init 28 = .ok (.if_icmp .ge 22, 3) := by decide +kernel
theorem dX0_init_31 : decode cX0_init 31 = .ok (.aload_n 0, 1) := by decide +kernel
theorem dX0_init_32 : decode cX0_init 32 = .ok (.getfield 20, 3) := by decide +kernel
theorem dX0_init_35 : decode cX0_init 35 = .ok (.iload_n 1, 1) := by decide +kernel
theorem dX0_init_36 : decode cX0_init 36 = .ok (.new 18, 3) := by decide +kernel
theorem dX0_init_39 : decode cX0_init 39 = .ok (.dup, 1) := by decide +kernel
theorem dX0_init_40 : decode cX0_init 40 = .ok (.invokespecial 24, 3) := by decide +kernel
theorem dX0_init_43 : decode cX0_init 43 = .ok (.aastore, 1) := by decide +kernel
theorem dX0_init_44 : decode cX0_init 44 = .ok (.iinc 1 1, 3) := by decide +kernel
theorem dX0_init_47 : decode cX0_init 47 = .ok (.goto (-22), 3) := by decide +kernel
theorem dX0_init_50 : decode cX0_init 50 = .ok (.return_, 1) := by decide +kernel
theorem dX0_forget_0 : decode cX0_forget 0 = .ok (.aload_n 0, 1) := by decide +kernel
theorem dX0_forget_1 : decode cX0_forget 1 = .ok (.iconst 0, 1) := by decide +kernel
theorem dX0_forget_2 : decode cX0_forget 2 = .ok (.putfield 9, 3) := by decide +kernel
theorem dX0_forget_5 : decode cX0_forget 5 = .ok (.return_, 1) := by decide +kernel
theorem dX0_keep_0 : decode cX0_keep 0 = .ok (.aload_n 0, 1) := by decide +kernel
theorem dX0_keep_1 : decode cX0_keep 1 = .ok (.aload_n 0, 1) := by decide +kernel
theorem dX0_keep_2 : decode cX0_keep 2 = .ok (.getfield 15, 3) := by decide +kernel
theorem dX0_keep_5 : decode cX0_keep 5 = .ok (.invokevirtual 25, 3) := by decide +kernel
theorem dX0_keep_8 : decode cX0_keep 8 = .ok (.astore_n 2, 1) := by decide +kernel
theorem dX0_keep_9 : decode cX0_keep 9 = .ok (.aload_n 2, 1) := by decide +kernel
theorem dX0_keep_10 : decode cX0_keep 10 = .ok (.ifnull 48, 3) := by decide +kernel
theorem dX0_keep_13 : decode cX0_keep 13 = .ok (.aload_n 2, 1) := by decide +kernel
theorem dX0_keep_14 : decode cX0_keep 14 = .ok (.aload_n 1, 1) := by decide +kernel
theorem dX0_keep_15 : decode cX0_keep 15 = .ok (.invokevirtual 29, 3) := by decide +kernel
theorem dX0_keep_18 : decode cX0_keep 18 = .ok (.aload_n 0, 1) := by decide +kernel
theorem dX0_keep_19 : decode cX0_keep 19 = .ok (.aload_n 0, 1) := by decide +kernel
theorem dX0_keep_20 : decode cX0_keep 20 = .ok (.getfield 15, 3) := by decide +kernel
theorem dX0_keep_23 : decode cX0_keep 23 = .ok (.iconst 1, 1) := by decide +kernel
theorem dX0_keep_24 : decode cX0_keep 24 = .ok (.iadd, 1) := by decide +kernel
theorem dX0_keep_25 : decode cX0_keep 25 = .ok (.bipush 8, 2) := by decide +kernel
theorem dX0_keep_27 : decode cX0_keep 27 = .ok (.if_icmp .ge 12, 3) := by decide +kernel
theorem dX0_keep_30 : decode cX0_keep 30 = .ok (.aload_n 0, 1) := by decide +kernel
theorem dX0_keep_31 : decode cX0_keep 31 = .ok (.getfield 15, 3) := by decide +kernel
theorem dX0_keep_34 : decode cX0_keep 34 = .ok (.iconst 1, 1) := by decide +kernel
theorem dX0_keep_35 : decode cX0_keep 35 = .ok (.iadd, 1) := by decide +kernel
theorem dX0_keep_36 : decode cX0_keep 36 = .ok (.goto 4, 3) := by decide +kernel
theorem dX0_keep_39 : decode cX0_keep 39 = .ok (.iconst 0, 1) := by decide +kernel
theorem dX0_keep_40 : decode cX0_keep 40 = .ok (.putfield 15, 3) := by decide +kernel
theorem dX0_keep_43 : decode cX0_keep 43 = .ok (.aload_n 0, 1) := by decide +kernel
theorem dX0_keep_44 : decode cX0_keep 44 = .ok (.aload_n 0, 1) := by decide +kernel
theorem dX0_keep_45 : decode cX0_keep 45 = .ok (.getfield 9, 3) := by decide +kernel
theorem dX0_keep_48 : decode cX0_keep 48 = .ok (.iconst 1, 1) := by decide +kernel
theorem dX0_keep_49 : decode cX0_keep 49 = .ok (.iadd, 1) := by decide +kernel
theorem dX0_keep_50 : decode cX0_keep 50 = .ok (.bipush 8, 2) := by decide +kernel
theorem dX0_keep_52 : decode cX0_keep 52 = .ok (.invokestatic 33, 3) := by decide +kernel
theorem dX0_keep_55 : decode cX0_keep 55 = .ok (.putfield 9, 3) := by decide +kernel
theorem dX0_keep_58 : decode cX0_keep 58 = .ok (.return_, 1) := by decide +kernel
theorem dX0_restore_0 : decode cX0_restore 0 = .ok (.aload_n 0, 1) := by decide +kernel
theorem dX0_restore_1 : decode cX0_restore 1 = .ok (.getfield 15, 3) := by decide +kernel
theorem dX0_restore_4 : decode cX0_restore 4 = .ok (.ifCond .le 12, 3) := by decide +kernel
theorem dX0_restore_7 : decode cX0_restore 7 = .ok (.aload_n 0, 1) := by decide +kernel
theorem dX0_restore_8 : decode cX0_restore 8 = .ok (.getfield 15, 3) := by decide +kernel
theorem dX0_restore_11 : decode cX0_restore 11 = .ok (.iconst 1, 1) := by decide +kernel
theorem dX0_restore_12 : decode cX0_restore 12 = .ok (.isub, 1) := by decide +kernel
theorem dX0_restore_13 : decode cX0_restore 13 = .ok (.goto 5, 3) := by decide +kernel
theorem dX0_restore_16 : decode cX0_restore 16 = .ok (.bipush 7, 2) := by decide +kernel
theorem dX0_restore_18 : decode cX0_restore 18 = .ok (.istore_n 2, 1) := by decide +kernel
theorem dX0_restore_19 : decode cX0_restore 19 = .ok (.aload_n 0, 1) := by decide +kernel
theorem dX0_restore_20 : decode cX0_restore 20 = .ok (.iload_n 2, 1) := by decide +kernel
theorem dX0_restore_21 : decode cX0_restore 21 = .ok (.invokevirtual 25, 3) := by decide +kernel
theorem dX0_restore_24 : decode cX0_restore 24 = .ok (.astore_n 3, 1) := by decide +kernel
theorem dX0_restore_25 : decode cX0_restore 25 = .ok (.aload_n 0, 1) := by decide +kernel
theorem dX0_restore_26 : decode cX0_restore 26 = .ok (.getfield 9, 3) := by decide +kernel
theorem dX0_restore_29 : decode cX0_restore 29 = .ok (.ifCond .le 7, 3) := by decide +kernel
theorem dX0_restore_32 : decode cX0_restore 32 = .ok (.aload_n 3, 1) := by decide +kernel
theorem dX0_restore_33 : decode cX0_restore 33 = .ok (.ifnonnull 5, 3) := by decide +kernel
theorem dX0_restore_36 : decode cX0_restore 36 = .ok (.iconst 0, 1) := by decide +kernel
theorem dX0_restore_37 : decode cX0_restore 37 = .ok (.ireturn, 1) := by decide +kernel
theorem dX0_restore_38 : decode cX0_restore 38 = .ok (.aload_n 1, 1) := by decide +kernel
theorem dX0_restore_39 : decode cX0_restore 39 = .ok (.aload_n 3, 1) := by decide +kernel
theorem dX0_restore_40 : decode cX0_restore 40 = .ok (.invokevirtual 29, 3) := by decide +kernel
theorem dX0_restore_43 : decode cX0_restore 43 = .ok (.aload_n 0, 1) := by decide +kernel
theorem dX0_restore_44 : decode cX0_restore 44 = .ok (.iload_n 2, 1) := by decide +kernel
theorem dX0_restore_45 : decode cX0_restore 45 = .ok (.putfield 15, 3) := by decide +kernel
theorem dX0_restore_48 : decode cX0_restore 48 = .ok (.aload_n 0, 1) := by decide +kernel
theorem dX0_restore_49 : decode cX0_restore 49 = .ok (.dup, 1) := by decide +kernel
theorem dX0_restore_50 : decode cX0_restore 50 = .ok (.getfield 9, 3) := by decide +kernel
theorem dX0_restore_53 : decode cX0_restore 53 = .ok (.iconst 1, 1) := by decide +kernel
theorem dX0_restore_54 : decode cX0_restore 54 = .ok (.isub, 1) := by decide +kernel
theorem dX0_restore_55 : decode cX0_restore 55 = .ok (.putfield 9, 3) := by decide +kernel
theorem dX0_restore_58 : decode cX0_restore 58 = .ok (.iconst 1, 1) := by decide +kernel
theorem dX0_restore_59 : decode cX0_restore 59 = .ok (.ireturn, 1) := by decide +kernel
theorem dX0_slotAt_0 : decode cX0_slotAt 0 = .ok (.iload_n 1, 1) := by decide +kernel
theorem dX0_slotAt_1 : decode cX0_slotAt 1 = .ok (.ifCond .lt 9, 3) := by decide +kernel
theorem dX0_slotAt_4 : decode cX0_slotAt 4 = .ok (.iload_n 1, 1) := by decide +kernel
theorem dX0_slotAt_5 : decode cX0_slotAt 5 = .ok (.bipush 8, 2) := by decide +kernel
theorem dX0_slotAt_7 : decode cX0_slotAt 7 = .ok (.if_icmp .lt 7, 3) := by decide +kernel
theorem dX0_slotAt_10 : decode cX0_slotAt 10 = .ok (.aconst_null, 1) := by decide +kernel
theorem dX0_slotAt_11 : decode cX0_slotAt 11 = .ok (.goto 9, 3) := by decide +kernel
theorem dX0_slotAt_14 : decode cX0_slotAt 14 = .ok (.aload_n 0, 1) := by decide +kernel
theorem dX0_slotAt_15 : decode cX0_slotAt 15 = .ok (.getfield 20, 3) := by decide +kernel
theorem dX0_slotAt_18 : decode cX0_slotAt 18 = .ok (.iload_n 1, 1) := by decide +kernel
theorem dX0_slotAt_19 : decode cX0_slotAt 19 = .ok (.aaload, 1) := by decide +kernel
theorem dX0_slotAt_20 : decode cX0_slotAt 20 = .ok (.areturn, 1) := by decide +kernel
theorem dX1_init_0 : decode cX1_init 0 = .ok (.aload_n 0, 1) := by decide +kernel
theorem dX1_init_1 : decode cX1_init 1 = .ok (.invokespecial 3, 3) := by decide +kernel
theorem dX1_init_4 : decode cX1_init 4 = .ok (.aload_n 0, 1) := by decide +kernel
theorem dX1_init_5 : decode cX1_init 5 = .ok (.new 9, 3) := by decide +kernel
theorem dX1_init_8 : decode cX1_init 8 = .ok (.dup, 1) := by decide +kernel
theorem dX1_init_9 : decode cX1_init 9 = .ok (.invokespecial 11, 3) := by decide +kernel
theorem dX1_init_12 : decode cX1_init 12 = .ok (.putfield 12, 3) := by decide +kernel
theorem dX1_init_15 : decode cX1_init 15 = .ok (.aload_n 0, 1) := by decide +kernel
theorem dX1_init_16 : decode cX1_init 16 = .ok (.bipush 60, 2) := by decide +kernel
theorem dX1_init_18 : decode cX1_init 18 = .ok (.newarray .int, 2) := by decide +kernel
theorem dX1_init_20 : decode cX1_init 20 = .ok (.putfield 18, 3) := by decide +kernel
theorem dX1_init_23 : decode cX1_init 23 = .ok (.aload_n 0, 1) := by decide +kernel
theorem dX1_init_24 : decode cX1_init 24 = .ok (.bipush 30, 2) := by decide +kernel
theorem dX1_init_26 : decode cX1_init 26 = .ok (.newarray .int, 2) := by decide +kernel
theorem dX1_init_28 : decode cX1_init 28 = .ok (.putfield 22, 3) := by decide +kernel
theorem dX1_init_31 : decode cX1_init 31 = .ok (.aload_n 0, 1) := by decide +kernel
theorem dX1_init_32 : decode cX1_init 32 = .ok (.iconst 5, 1) := by decide +kernel
theorem dX1_init_33 : decode cX1_init 33 = .ok (.newarray .int, 2) := by decide +kernel
theorem dX1_init_35 : decode cX1_init 35 = .ok (.putfield 25, 3) := by decide +kernel
theorem dX1_init_38 : decode cX1_init 38 = .ok (.return_, 1) := by decide +kernel
theorem dX1_processHour_0 : decode cX1_processHour 0 = .ok (.iconst 0, 1) := by decide +kernel
theorem dX1_processHour_1 : decode cX1_processHour 1 = .ok (.istore_n 3, 1) := by decide +kernel
theorem dX1_processHour_2 : decode cX1_processHour 2 = .ok (.iload_n 3, 1) := by decide +kernel
theorem dX1_processHour_3 : decode cX1_processHour 3 = .ok (.aload_n 1, 1) := by decide +kernel
theorem dX1_processHour_4 : decode cX1_processHour 4 = .ok (.getfield 28, 3) := by decide +kernel
theorem dX1_processHour_7 : decode cX1_processHour 7 = .ok (.if_icmp .ge 52, 3) := by decide +kernel
theorem dX1_processHour_10 : decode cX1_processHour 10 = .ok (.aload_n 1, 1) := by decide +kernel
theorem dX1_processHour_11 : decode cX1_processHour 11 = .ok (.aload_n 2, 1) := by decide +kernel
theorem dX1_processHour_12 : decode cX1_processHour 12 = .ok (.getfield 34, 3) := by decide +kernel
theorem dX1_processHour_15 : decode cX1_processHour 15 = .ok (.iload_n 3, 1) := by decide +kernel
theorem dX1_processHour_16 : decode cX1_processHour 16 = .ok (.invokevirtual 39, 3) := by decide +kernel
theorem dX1_processHour_19 : decode cX1_processHour 19 = .ok (.aload_n 2, 1) := by decide +kernel
theorem dX1_processHour_20 : decode cX1_processHour 20 = .ok (.getfield 43, 3) := by decide +kernel
theorem dX1_processHour_23 : decode cX1_processHour 23 = .ok (.iconst (-1), 1) := by decide +kernel
theorem dX1_processHour_24 : decode cX1_processHour 24 = .ok (.ixor, 1) := by decide +kernel
theorem dX1_processHour_25 : decode cX1_processHour 25 = .ok (.iand, 1) := by decide +kernel
theorem dX1_processHour_26 : decode cX1_processHour 26 = .ok (.istore 4, 2) := by decide +kernel
theorem dX1_processHour_28 : decode cX1_processHour 28 = .ok (.aload_n 1, 1) := by decide +kernel
theorem dX1_processHour_29 : decode cX1_processHour 29 = .ok (.iload_n 3, 1) := by decide +kernel
theorem dX1_processHour_30 : decode cX1_processHour 30 = .ok (.invokevirtual 46, 3) := by decide +kernel
theorem dX1_processHour_33 : decode cX1_processHour 33 = .ok (.ifCond .ne 20, 3) := by decide +kernel
theorem dX1_processHour_36 : decode cX1_processHour 36 = .ok (.iload 4, 2) := by decide +kernel
theorem dX1_processHour_38 : decode cX1_processHour 38 = .ok (.invokestatic 50, 3) := by decide +kernel
theorem dX1_processHour_41 : decode cX1_processHour 41 = .ok (.iconst 2, 1) := by decide +kernel
theorem dX1_processHour_42 : decode cX1_processHour 42 = .ok (.if_icmp .lt 11, 3) := by decide +kernel
theorem dX1_processHour_45 : decode cX1_processHour 45 = .ok (.aload_n 0, 1) := by decide +kernel
theorem dX1_processHour_46 : decode cX1_processHour 46 = .ok (.aload_n 2, 1) := by decide +kernel
theorem dX1_processHour_47 : decode cX1_processHour 47 = .ok (.iload_n 3, 1) := by decide +kernel
theorem dX1_processHour_48 : decode cX1_processHour 48 = .ok (.iload 4, 2) := by decide +kernel
theorem dX1_processHour_50 : decode cX1_processHour 50 = .ok (.invokevirtual 56, 3) := by decide +kernel
theorem dX1_processHour_53 : decode cX1_processHour 53 = .ok (.iinc 3 1, 3) := by decide +kernel
theorem dX1_processHour_56 : decode cX1_processHour 56 = .ok (.goto (-54), 3) := by decide +kernel
theorem dX1_processHour_59 : decode cX1_processHour 59 = .ok (.iconst 0, 1) := by decide +kernel
theorem dX1_processHour_60 : decode cX1_processHour 60 = .ok (.istore_n 3, 1) := by decide +kernel
theorem dX1_processHour_61 : decode cX1_processHour 61 = .ok (.iconst 0, 1) := by decide +kernel
theorem dX1_processHour_62 : decode cX1_processHour 62 = .ok (.istore 4, 2) := by decide +kernel
theorem dX1_processHour_64 : decode cX1_processHour 64 = .ok (.iload 4, 2) := by decide +kernel
theorem dX1_processHour_66 : decode cX1_processHour 66 = .ok (.aload_n 1, 1) := by decide +kernel
theorem dX1_processHour_67 : decode cX1_processHour 67 = .ok (.getfield 28, 3) := by decide +kernel
theorem dX1_processHour_70 : decode cX1_processHour 70 = .ok (.if_icmp .ge 87, 3) := by decide +kernel
theorem dX1_processHour_73 : decode cX1_processHour 73 = .ok (.aload_n 1, 1) := by decide +kernel
theorem dX1_processHour_74 : decode cX1_processHour 74 = .ok (.aload_n 2, 1) := by decide +kernel
theorem dX1_processHour_75 : decode cX1_processHour 75 = .ok (.getfield 34, 3) := by decide +kernel
theorem dX1_processHour_78 : decode cX1_processHour 78 = .ok (.iload 4, 2) := by decide +kernel
theorem dX1_processHour_80 : decode cX1_processHour 80 = .ok (.invokevirtual 39, 3) := by decide +kernel
theorem dX1_processHour_83 : decode cX1_processHour 83 = .ok (.aload_n 2, 1) := by decide +kernel
theorem dX1_processHour_84 : decode cX1_processHour 84 = .ok (.getfield 43, 3) := by decide +kernel
theorem dX1_processHour_87 : decode cX1_processHour 87 = .ok (.iconst (-1), 1) := by decide +kernel
theorem dX1_processHour_88 : decode cX1_processHour 88 = .ok (.ixor, 1) := by decide +kernel
theorem dX1_processHour_89 : decode cX1_processHour 89 = .ok (.iand, 1) := by decide +kernel
theorem dX1_processHour_90 : decode cX1_processHour 90 = .ok (.istore 5, 2) := by decide +kernel
theorem dX1_processHour_92 : decode cX1_processHour 92 = .ok (.aload_n 1, 1) := by decide +kernel
theorem dX1_processHour_93 : decode cX1_processHour 93 = .ok (.iload 4, 2) := by decide +kernel
theorem dX1_processHour_95 : decode cX1_processHour 95 = .ok (.invokevirtual 46, 3) := by decide +kernel
theorem dX1_processHour_98 : decode cX1_processHour 98 = .ok (.ifCond .eq 53, 3) := by decide +kernel
theorem dX1_processHour_101 : decode cX1_processHour 101 = .ok (.iload 5, 2) := by decide +kernel
theorem dX1_processHour_103 : decode cX1_processHour 103 = .ok (.ifCond .eq 48, 3) := by decide +kernel
theorem dX1_processHour_106 : decode cX1_processHour 106 = .ok (.iload_n 3, 1) := by decide +kernel
theorem dX1_processHour_107 : decode cX1_processHour 107 = .ok (.aload_n 0, 1) := by decide +kernel
theorem dX1_processHour_108 : decode cX1_processHour 108 = .ok (.aload_n 2, 1) := by decide +kernel
theorem dX1_processHour_109 : decode cX1_processHour 109 = .ok (.iload 4, 2) := by decide +kernel
theorem dX1_processHour_111 : decode cX1_processHour 111 = .ok (.iload 5, 2) := by decide +kernel
theorem dX1_processHour_113 : decode cX1_processHour 113 = .ok (.invokevirtual 60, 3) := by decide +kernel
theorem dX1_processHour_116 : decode cX1_processHour 116 = .ok (.iadd, 1) := by decide +kernel
theorem dX1_processHour_117 : decode cX1_processHour 117 = .ok (.istore_n 3, 1) := by decide +kernel
theorem dX1_processHour_118 : decode cX1_processHour 118 = .ok (.aload_n 0, 1) := by decide +kernel
theorem dX1_processHour_119 : decode cX1_processHour 119 = .ok (.aload_n 2, 1) := by decide +kernel
theorem dX1_processHour_120 : decode cX1_processHour 120 = .ok (.invokevirtual 64, 3) := by decide +kernel
theorem dX1_processHour_123 : decode cX1_processHour 123 = .ok (.istore 6, 2) := by decide +kernel
theorem dX1_processHour_125 : decode cX1_processHour 125 = .ok (.iload 6, 2) := by decide +kernel
theorem dX1_processHour_127 : decode cX1_processHour 127 = .ok (.ifCond .eq 24, 3) := by decide +kernel
theorem dX1_processHour_130 : decode cX1_processHour 130 = .ok (.aload_n 0, 1) := by decide +kernel
theorem dX1_processHour_131 : decode cX1_processHour 131 = .ok (.aload_n 1, 1) := by decide +kernel
theorem dX1_processHour_132 : decode cX1_processHour 132 = .ok (.aload_n 2, 1) := by decide +kernel
theorem dX1_processHour_133 : decode cX1_processHour 133 = .ok (.iload 4, 2) := by decide +kernel
theorem dX1_processHour_135 : decode cX1_processHour 135 = .ok (.iload 5, 2) := by decide +kernel
theorem dX1_processHour_137 : decode cX1_processHour 137 = .ok (.iload 6, 2) := by decide +kernel
theorem dX1_processHour_139 : decode cX1_processHour 139 = .ok (.invokevirtual 68, 3) := by decide +kernel
theorem dX1_processHour_142 : decode cX1_processHour 142 = .ok (.aload_n 0, 1) := by decide +kernel
theorem dX1_processHour_143 : decode cX1_processHour 143 = .ok (.aload_n 2, 1) := by decide +kernel
theorem dX1_processHour_144 : decode cX1_processHour 144 = .ok (.iload 4, 2) := by decide +kernel
theorem dX1_processHour_146 : decode cX1_processHour 146 = .ok (.iload 5, 2) := by decide +kernel
theorem dX1_processHour_148 : decode cX1_processHour 148 = .ok (.invokevirtual 72, 3) := by decide +kernel
theorem dX1_processHour_151 : decode cX1_processHour 151 = .ok (.iinc 4 1, 3) := by decide +kernel
theorem dX1_processHour_154 : decode cX1_processHour 154 = .ok (.goto (-90), 3) := by decide +kernel
theorem dX1_processHour_157 : decode cX1_processHour 157 = .ok (.aload_n 2, 1) := by decide +kernel
theorem dX1_processHour_158 : decode cX1_processHour 158 = .ok (.dup, 1) := by decide +kernel
theorem dX1_processHour_159 : decode cX1_processHour 159 = .ok (.getfield 34, 3) := by decide +kernel
theorem dX1_processHour_162 : decode cX1_processHour 162 = .ok (.iconst 1, 1) := by decide +kernel
theorem dX1_processHour_163 : decode cX1_processHour 163 = .ok (.iadd, 1) := by decide +kernel
theorem dX1_processHour_164 : decode cX1_processHour 164 = .ok (.putfield 34, 3) := by decide +kernel
theorem dX1_processHour_167 : decode cX1_processHour 167 = .ok (.iload_n 3, 1) := by decide +kernel
theorem dX1_processHour_168 : decode cX1_processHour 168 = .ok (.ireturn, 1) := by decide +kernel
theorem dX1_swapSacks_0 : decode cX1_swapSacks 0 = .ok (.aload_n 1, 1) := by decide +kernel
theorem dX1_swapSacks_1 : decode cX1_swapSacks 1 = .ok (.iload_n 3, 1) := by decide +kernel
theorem dX1_swapSacks_2 : decode cX1_swapSacks 2 = .ok (.invokevirtual 75, 3) := by decide +kernel
theorem dX1_swapSacks_5 : decode cX1_swapSacks 5 = .ok (.aload_n 1, 1) := by decide +kernel
theorem dX1_swapSacks_6 : decode cX1_swapSacks 6 = .ok (.dup, 1) := by decide +kernel
theorem dX1_swapSacks_7 : decode cX1_swapSacks 7 = .ok (.getfield 79, 3) := by decide +kernel
theorem dX1_swapSacks_10 : decode cX1_swapSacks 10 = .ok (.iconst 1, 1) := by decide +kernel
theorem dX1_swapSacks_11 : decode cX1_swapSacks 11 = .ok (.iadd, 1) := by decide +kernel
theorem dX1_swapSacks_12 : decode cX1_swapSacks 12 = .ok (.putfield 79, 3) := by decide +kernel
theorem dX1_swapSacks_15 : decode cX1_swapSacks 15 = .ok (.aload_n 1, 1) := by decide +kernel
theorem dX1_swapSacks_16 : decode cX1_swapSacks 16 = .ok (.getfield 82, 3) := by decide +kernel
theorem dX1_swapSacks_19 : decode cX1_swapSacks 19 = .ok (.astore 4, 2) := by decide +kernel
theorem dX1_swapSacks_21 : decode cX1_swapSacks 21 = .ok (.iconst 0, 1) := by decide +kernel
theorem dX1_swapSacks_22 : decode cX1_swapSacks 22 = .ok (.istore 5, 2) := by decide +kernel
theorem dX1_swapSacks_24 : decode cX1_swapSacks 24 = .ok (.iload 5, 2) := by decide +kernel
theorem dX1_swapSacks_26 : decode cX1_swapSacks 26 = .ok (.aload 4, 2) := by decide +kernel
theorem dX1_swapSacks_28 : decode cX1_swapSacks 28 = .ok (.getfield 86, 3) := by decide +kernel
theorem dX1_swapSacks_31 : decode cX1_swapSacks 31 = .ok (.if_icmp .ge 52, 3) := by decide +kernel
theorem dX1_swapSacks_34 : decode cX1_swapSacks 34 = .ok (.aload_n 1, 1) := by decide +kernel
theorem dX1_swapSacks_35 : decode cX1_swapSacks 35 = .ok (.iload 5, 2) := by decide +kernel
theorem dX1_swapSacks_37 : decode cX1_swapSacks 37 = .ok (.invokevirtual 91, 3) := by decide +kernel
theorem dX1_swapSacks_40 : decode cX1_swapSacks 40 = .ok (.istore 6, 2) := by decide +kernel
theorem dX1_swapSacks_42 : decode cX1_swapSacks 42 = .ok (.iload_n 3, 1) := by decide +kernel
theorem dX1_swapSacks_43 : decode cX1_swapSacks 43 = .ok (.iload 6, 2) := by decide +kernel
theorem dX1_swapSacks_45 : decode cX1_swapSacks 45 = .ok (.invokestatic 94, 3) := by decide +kernel
theorem dX1_swapSacks_48 : decode cX1_swapSacks 48 = .ok (.ifCond .eq 29, 3) := by decide +kernel
theorem dX1_swapSacks_51 : decode cX1_swapSacks 51 = .ok (.aload 4, 2) := by decide +kernel
theorem dX1_swapSacks_53 : decode cX1_swapSacks 53 = .ok (.getfield 98, 3) := by decide +kernel
theorem dX1_swapSacks_56 : decode cX1_swapSacks 56 = .ok (.iload 5, 2) := by decide +kernel
theorem dX1_swapSacks_58 : decode cX1_swapSacks 58 = .ok (.dup2, 1) := by decide +kernel
theorem dX1_swapSacks_59 : decode cX1_swapSacks 59 = .ok (.iaload, 1) := by decide +kernel
theorem dX1_swapSacks_60 : decode cX1_swapSacks 60 = .ok (.iload 6, 2) := by decide +kernel
theorem dX1_swapSacks_62 : decode cX1_swapSacks 62 = .ok (.invokestatic 101, 3) := by decide +kernel
theorem dX1_swapSacks_65 : decode cX1_swapSacks 65 = .ok (.ior, 1) := by decide +kernel
theorem dX1_swapSacks_66 : decode cX1_swapSacks 66 = .ok (.iastore, 1) := by decide +kernel
theorem dX1_swapSacks_67 : decode cX1_swapSacks 67 = .ok (.aload_n 1, 1) := by decide +kernel
theorem dX1_swapSacks_68 : decode cX1_swapSacks 68 = .ok (.iload 5, 2) := by decide +kernel
theorem dX1_swapSacks_70 : decode cX1_swapSacks 70 = .ok (.iconst 3, 1) := by decide +kernel
theorem dX1_swapSacks_71 : decode cX1_swapSacks 71 = .ok (.iload 6, 2) := by decide +kernel
theorem dX1_swapSacks_73 : decode cX1_swapSacks 73 = .ok (.iload_n 2, 1) := by decide +kernel
theorem dX1_swapSacks_74 : decode cX1_swapSacks 74 = .ok (.invokevirtual 104, 3) := by decide +kernel
theorem dX1_swapSacks_77 : decode cX1_swapSacks 77 = .ok (.iinc 5 1, 3) := by decide +kernel
theorem dX1_swapSacks_80 : decode cX1_swapSacks 80 = .ok (.goto (-56), 3) := by decide +kernel
theorem dX1_swapSacks_83 : decode cX1_swapSacks 83 = .ok (.return_, 1) := by decide +kernel
theorem dX1_takeOut_0 : decode cX1_takeOut 0 = .ok (.aload_n 1, 1) := by decide +kernel
theorem dX1_takeOut_1 : decode cX1_takeOut 1 = .ok (.getfield 82, 3) := by decide +kernel
theorem dX1_takeOut_4 : decode cX1_takeOut 4 = .ok (.astore 4, 2) := by decide +kernel
theorem dX1_takeOut_6 : decode cX1_takeOut 6 = .ok (.iconst 0, 1) := by decide +kernel
theorem dX1_takeOut_7 : decode cX1_takeOut 7 = .ok (.istore 5, 2) := by decide +kernel
theorem dX1_takeOut_9 : decode cX1_takeOut 9 = .ok (.iconst 0, 1) := by decide +kernel
theorem dX1_takeOut_10 : decode cX1_takeOut 10 = .ok (.istore 6, 2) := by decide +kernel
theorem dX1_takeOut_12 : decode cX1_takeOut 12 = .ok (.iload 6, 2) := by decide +kernel
theorem dX1_takeOut_14 : decode cX1_takeOut 14 = .ok (.aload 4, 2) := by decide +kernel
theorem dX1_takeOut_16 : decode cX1_takeOut 16 = .ok (.getfield 86, 3) := by decide +kernel
theorem dX1_takeOut_19 : decode cX1_takeOut 19 = .ok (.if_icmp .ge 122, 3) := by decide +kernel
theorem dX1_takeOut_22 : decode cX1_takeOut 22 = .ok (.iload 6, 2) := by decide +kernel
theorem dX1_takeOut_24 : decode cX1_takeOut 24 = .ok (.bipush 30, 2) := by decide +kernel
theorem dX1_takeOut_26 : decode cX1_takeOut 26 = .ok (.if_icmp .ge 115, 3) := by decide +kernel
theorem dX1_takeOut_29 : decode cX1_takeOut 29 = .ok (.aload_n 1, 1) := by decide +kernel
theorem dX1_takeOut_30 : decode cX1_takeOut 30 = .ok (.iload 6, 2) := by decide +kernel
theorem dX1_takeOut_32 : decode cX1_takeOut 32 = .ok (.invokevirtual 91, 3) := by decide +kernel
theorem dX1_takeOut_35 : decode cX1_takeOut 35 = .ok (.istore 7, 2) := by decide +kernel
theorem dX1_takeOut_37 : decode cX1_takeOut 37 = .ok (.aload_n 0, 1) := by decide +kernel
theorem dX1_takeOut_38 : decode cX1_takeOut 38 = .ok (.getfield 22, 3) := by decide +kernel
theorem dX1_takeOut_41 : decode cX1_takeOut 41 = .ok (.iload 6, 2) := by decide +kernel
theorem dX1_takeOut_43 : decode cX1_takeOut 43 = .ok (.bipush (-2), 2) := by decide +kernel
theorem dX1_takeOut_45 : decode cX1_takeOut 45 = .ok (.iastore, 1) := by decide +kernel
theorem dX1_takeOut_46 : decode cX1_takeOut 46 = .ok (.aload 4, 2) := by decide +kernel
theorem dX1_takeOut_48 : decode cX1_takeOut 48 = .ok (.iload 6, 2) := by decide +kernel
theorem dX1_takeOut_50 : decode cX1_takeOut 50 = .ok (.iconst 0, 1) := by decide +kernel
theorem dX1_takeOut_51 : decode cX1_takeOut 51 = .ok (.iload_n 2, 1) := by decide +kernel
theorem dX1_takeOut_52 : decode cX1_takeOut 52 = .ok (.invokevirtual 108, 3) := by decide +kernel
theorem dX1_takeOut_55 : decode cX1_takeOut 55 = .ok (.ifCond .eq 14, 3) := by decide +kernel
theorem dX1_takeOut_58 : decode cX1_takeOut 58 = .ok (.aload_n 0, 1) := by decide +kernel
theorem dX1_takeOut_59 : decode cX1_takeOut 59 = .ok (.getfield 22, 3) := by decide +kernel
theorem dX1_takeOut_62 : decode cX1_takeOut 62 = .ok (.iload 6, 2) := by decide +kernel
theorem dX1_takeOut_64 : decode cX1_takeOut 64 = .ok (.iconst (-1), 1) := by decide +kernel
theorem dX1_takeOut_65 : decode cX1_takeOut 65 = .ok (.iastore, 1) := by decide +kernel
theorem dX1_takeOut_66 : decode cX1_takeOut 66 = .ok (.goto 69, 3) := by decide +kernel
theorem dX1_takeOut_69 : decode cX1_takeOut 69 = .ok (.iload_n 3, 1) := by decide +kernel
theorem dX1_takeOut_70 : decode cX1_takeOut 70 = .ok (.iload 7, 2) := by decide +kernel
theorem dX1_takeOut_72 : decode cX1_takeOut 72 = .ok (.invokestatic 94, 3) := by decide +kernel
theorem dX1_takeOut_75 : decode cX1_takeOut 75 = .ok (.ifCond .eq 27, 3) := by decide +kernel
theorem dX1_takeOut_78 : decode cX1_takeOut 78 = .ok (.aload 4, 2) := by decide +kernel
theorem dX1_takeOut_80 : decode cX1_takeOut 80 = .ok (.getfield 112, 3) := by decide +kernel
theorem dX1_takeOut_83 : decode cX1_takeOut 83 = .ok (.iload 6, 2) := by decide +kernel
theorem dX1_takeOut_85 : decode cX1_takeOut 85 = .ok (.iaload, 1) := by decide +kernel
theorem dX1_takeOut_86 : decode cX1_takeOut 86 = .ok (.iload_n 2, 1) := by decide +kernel
theorem dX1_takeOut_87 : decode cX1_takeOut 87 = .ok (.if_icmp .eq 15, 3) := by decide +kernel
theorem dX1_takeOut_90 : decode cX1_takeOut 90 = .ok (.aload_n 0, 1) := by decide +kernel
theorem dX1_takeOut_91 : decode cX1_takeOut 91 = .ok (.getfield 22, 3) := by decide +kernel
theorem dX1_takeOut_94 : decode cX1_takeOut 94 = .ok (.iload 6, 2) := by decide +kernel
theorem dX1_takeOut_96 : decode cX1_takeOut 96 = .ok (.iload 7, 2) := by decide +kernel
theorem dX1_takeOut_98 : decode cX1_takeOut 98 = .ok (.iastore, 1) := by decide +kernel
theorem dX1_takeOut_99 : decode cX1_takeOut 99 = .ok (.goto 36, 3) := by decide +kernel
theorem dX1_takeOut_102 : decode cX1_takeOut 102 = .ok (.iload_n 3, 1) := by decide +kernel
theorem dX1_takeOut_103 : decode cX1_takeOut 103 = .ok (.iload 7, 2) := by decide +kernel
theorem dX1_takeOut_105 : decode cX1_takeOut 105 = .ok (.invokestatic 94, 3) := by decide +kernel
theorem dX1_takeOut_108 : decode cX1_takeOut 108 = .ok (.ifCond .eq 27, 3) := by decide +kernel
theorem dX1_takeOut_111 : decode cX1_takeOut 111 = .ok (.aload 4, 2) := by decide +kernel
theorem dX1_takeOut_113 : decode cX1_takeOut 113 = .ok (.iload 6, 2) := by decide +kernel
theorem dX1_takeOut_115 : decode cX1_takeOut 115 = .ok (.aload_n 1, 1) := by decide +kernel
theorem dX1_takeOut_116 : decode cX1_takeOut 116 = .ok (.getfield 34, 3) := by decide +kernel
theorem dX1_takeOut_119 : decode cX1_takeOut 119 = .ok (.invokevirtual 115, 3) := by decide +kernel
theorem dX1_takeOut_122 : decode cX1_takeOut 122 = .ok (.aload_n 1, 1) := by decide +kernel
theorem dX1_takeOut_123 : decode cX1_takeOut 123 = .ok (.iload 6, 2) := by decide +kernel
theorem dX1_takeOut_125 : decode cX1_takeOut 125 = .ok (.iconst 2, 1) := by decide +kernel
theorem dX1_takeOut_126 : decode cX1_takeOut 126 = .ok (.iload 7, 2) := by decide +kernel
theorem dX1_takeOut_128 : decode cX1_takeOut 128 = .ok (.iload_n 2, 1) := by decide +kernel
theorem dX1_takeOut_129 : decode cX1_takeOut 129 = .ok (.invokevirtual 104, 3) := by decide +kernel
theorem dX1_takeOut_132 : decode cX1_takeOut 132 = .ok (.iinc 5 1, 3) := by decide +kernel
theorem dX1_takeOut_135 : decode cX1_takeOut 135 = .ok (.iinc 6 1, 3) := by decide +kernel
theorem dX1_takeOut_138 : decode cX1_takeOut 138 = .ok (.goto (-126), 3) := by decide +kernel
theorem dX1_takeOut_141 : decode cX1_takeOut 141 = .ok (.iload 5, 2) := by decide +kernel
theorem dX1_takeOut_143 : decode cX1_takeOut 143 = .ok (.ireturn, 1) := by decide +kernel
theorem dX1_wantedVillages_0 : decode cX1_wantedVillages 0 = .ok (.aload_n 1, 1) := by decide +kernel
theorem dX1_wantedVillages_1 : decode cX1_wantedVillages 1 = .ok (.getfield 82, 3) := by decide +kernel
theorem dX1_wantedVillages_4 : decode cX1_wantedVillages 4 = .ok (.astore_n 2, 1) := by decide +kernel
theorem dX1_wantedVillages_5 : decode cX1_wantedVillages 5 = .ok (.iconst 0, 1) := by decide +kernel
theorem dX1_wantedVillages_6 : decode cX1_wantedVillages 6 = .ok (.istore_n 3, 1) := by decide +kernel
theorem dX1_wantedVillages_7 : decode cX1_wantedVillages 7 = .ok (.iconst 0, 1) := by decide +kernel
theorem dX1_wantedVillages_8 : decode cX1_wantedVillages 8 = .ok (.istore 4, 2) := by decide +kernel
theorem dX1_wantedVillages_10 : decode cX1_wantedVillages 10 = .ok (.iload 4, 2) := by decide +kernel
theorem dX1_wantedVillages_12 : decode cX1_wantedVillages 12 = .ok (.aload_n 2, 1) := by decide +kernel
theorem dX1_wantedVillages_13 : decode cX1_wantedVillages 13 = .ok (.getfield 86, 3) := by decide +kernel
theorem dX1_wantedVillages_16 : decode cX1_wantedVillages 16 = .ok (.if_icmp .ge 41, 3) := by decide +kernel
theorem dX1_wantedVillages_19 : decode cX1_wantedVillages 19 = .ok (.iload 4, 2) := by decide +kernel
theorem dX1_wantedVillages_21 : decode cX1_wantedVillages 21 = .ok (.bipush 30, 2) := by decide +kernel
theorem dX1_wantedVillages_23 : decode cX1_wantedVillages 23 = .ok (.if_icmp .ge 34, 3) := by decide +kernel
theorem dX1_wantedVillages_26 : decode cX1_wantedVillages 26 = .ok (.aload_n 0, 1) := by decide +kernel
theorem dX1_wantedVillages_27 : decode cX1_wantedVillages 27 = .ok (.getfield 22, 3) := by decide +kernel
theorem dX1_wantedVillages_30 : decode cX1_wantedVillages 30 = .ok (.iload 4, 2) := by decide +kernel
theorem dX1_wantedVillages_32 : decode cX1_wantedVillages 32 = .ok (.iaload, 1) := by decide +kernel
theorem dX1_wantedVillages_33 : decode cX1_wantedVillages 33 = .ok (.bipush (-2), 2) := by decide +kernel
theorem dX1_wantedVillages_35 : decode cX1_wantedVillages 35 = .ok (.if_icmp .eq 16, 3) := by decide +kernel
theorem dX1_wantedVillages_38 : decode cX1_wantedVillages 38 = .ok (.iload_n 3, 1) := by decide +kernel
theorem dX1_wantedVillages_39 : decode cX1_wantedVillages 39 = .ok (.aload_n 2, 1) := by decide +kernel
theorem dX1_wantedVillages_40 : decode cX1_wantedVillages 40 = .ok (.getfield 112, 3) := by decide +kernel
theorem dX1_wantedVillages_43 : decode cX1_wantedVillages 43 = .ok (.iload 4, 2) := by decide +kernel
theorem dX1_wantedVillages_45 : decode cX1_wantedVillages 45 = .ok (.iaload, 1) := by decide +kernel
theorem dX1_wantedVillages_46 : decode cX1_wantedVillages 46 = .ok (.invokestatic 101, 3) := by decide +kernel
theorem dX1_wantedVillages_49 : decode cX1_wantedVillages 49 = .ok (.ior, 1) := by decide +kernel
theorem dX1_wantedVillages_50 : decode cX1_wantedVillages 50 = .ok (.istore_n 3, 1) := by decide +kernel
theorem dX1_wantedVillages_51 : decode cX1_wantedVillages 51 = .ok (.iinc 4 1, 3) := by decide +kernel
theorem dX1_wantedVillages_54 : decode cX1_wantedVillages 54 = .ok (.goto (-44), 3) := by decide +kernel
theorem dX1_wantedVillages_57 : decode cX1_wantedVillages 57 = .ok (.iload_n 3, 1) := by decide +kernel
theorem dX1_wantedVillages_58 : decode cX1_wantedVillages 58 = .ok (.ireturn, 1) := by decide +kernel
theorem dX1_foresee_0 : decode cX1_foresee 0 = .ok (.iconst 0, 1) := by decide +kernel
theorem dX1_foresee_1 : decode cX1_foresee 1 = .ok (.istore 6, 2) := by decide +kernel
theorem dX1_foresee_3 : decode cX1_foresee 3 = .ok (.iload 6, 2) := by decide +kernel
theorem dX1_foresee_5 : decode cX1_foresee 5 = .ok (.iconst 5, 1) := by decide +kernel
theorem dX1_foresee_6 : decode cX1_foresee 6 = .ok (.if_icmp .ge 71, 3) := by decide +kernel
theorem dX1_foresee_9 : decode cX1_foresee 9 = .ok (.aload_n 0, 1) := by decide +kernel
theorem dX1_foresee_10 : decode cX1_foresee 10 = .ok (.getfield 25, 3) := by decide +kernel
theorem dX1_foresee_13 : decode cX1_foresee 13 = .ok (.iload 6, 2) := by decide +kernel
theorem dX1_foresee_15 : decode cX1_foresee 15 = .ok (.iconst 0, 1) := by decide +kernel
theorem dX1_foresee_16 : decode cX1_foresee 16 = .ok (.iastore, 1) := by decide +kernel
theorem dX1_foresee_17 : decode cX1_foresee 17 = .ok (.iload 4, 2) := by decide +kernel
theorem dX1_foresee_19 : decode cX1_foresee 19 = .ok (.iload 6, 2) := by decide +kernel
theorem dX1_foresee_21 : decode cX1_foresee 21 = .ok (.invokestatic 94, 3) := by decide +kernel
theorem dX1_foresee_24 : decode cX1_foresee 24 = .ok (.ifCond .eq 47, 3) := by decide +kernel
theorem dX1_foresee_27 : decode cX1_foresee 27 = .ok (.aload_n 0, 1) := by decide +kernel
theorem dX1_foresee_28 : decode cX1_foresee 28 = .ok (.getfield 12, 3) := by decide +kernel
theorem dX1_foresee_31 : decode cX1_foresee 31 = .ok (.iconst 0, 1) := by decide +kernel
theorem dX1_foresee_32 : decode cX1_foresee 32 = .ok (.iload 6, 2) := by decide +kernel
theorem dX1_foresee_34 : decode cX1_foresee 34 = .ok (.invokestatic 101, 3) := by decide +kernel
theorem dX1_foresee_37 : decode cX1_foresee 37 = .ok (.invokevirtual 119, 3) := by decide +kernel
theorem dX1_foresee_40 : decode cX1_foresee 40 = .ok (.aload_n 0, 1) := by decide +kernel
theorem dX1_foresee_41 : decode cX1_foresee 41 = .ok (.getfield 12, 3) := by decide +kernel
theorem dX1_foresee_44 : decode cX1_foresee 44 = .ok (.aload_n 1, 1) := by decide +kernel
theorem dX1_foresee_45 : decode cX1_foresee 45 = .ok (.aload_n 2, 1) := by decide +kernel
theorem dX1_foresee_46 : decode cX1_foresee 46 = .ok (.getfield 43, 3) := by decide +kernel
theorem dX1_foresee_49 : decode cX1_foresee 49 = .ok (.iconst (-1), 1) := by decide +kernel
theorem dX1_foresee_50 : decode cX1_foresee 50 = .ok (.ixor, 1) := by decide +kernel
theorem dX1_foresee_51 : decode cX1_foresee 51 = .ok (.aload_n 2, 1) := by decide +kernel
theorem dX1_foresee_52 : decode cX1_foresee 52 = .ok (.getfield 34, 3) := by decide +kernel
theorem dX1_foresee_55 : decode cX1_foresee 55 = .ok (.iconst 1, 1) := by decide +kernel
theorem dX1_foresee_56 : decode cX1_foresee 56 = .ok (.iadd, 1) := by decide +kernel
theorem dX1_foresee_57 : decode cX1_foresee 57 = .ok (.sipush 240, 3) := by decide +kernel
theorem dX1_foresee_60 : decode cX1_foresee 60 = .ok (.iload 5, 2) := by decide +kernel
theorem dX1_foresee_62 : decode cX1_foresee 62 = .ok (.invokevirtual 122, 3) := by decide +kernel
theorem dX1_foresee_65 : decode cX1_foresee 65 = .ok (.aload_n 0, 1) := by decide +kernel
theorem dX1_foresee_66 : decode cX1_foresee 66 = .ok (.iload 6, 2) := by decide +kernel
theorem dX1_foresee_68 : decode cX1_foresee 68 = .ok (.invokevirtual 126, 3) := by decide +kernel
theorem dX1_foresee_71 : decode cX1_foresee 71 = .ok (.iinc 6 1, 3) := by decide +kernel
theorem dX1_foresee_74 : decode cX1_foresee 74 = .ok (.goto (-71), 3) := by decide +kernel
theorem dX1_foresee_77 : decode cX1_foresee 77 = .ok (.aload_n 0, 1) := by decide +kernel
theorem dX1_foresee_78 : decode cX1_foresee 78 = .ok (.getfield 12, 3) := by decide +kernel
theorem dX1_foresee_81 : decode cX1_foresee 81 = .ok (.iload_n 3, 1) := by decide +kernel
theorem dX1_foresee_82 : decode cX1_foresee 82 = .ok (.invokestatic 101, 3) := by decide +kernel
theorem dX1_foresee_85 : decode cX1_foresee 85 = .ok (.iconst 0, 1) := by decide +kernel
theorem dX1_foresee_86 : decode cX1_foresee 86 = .ok (.invokevirtual 119, 3) := by decide +kernel
theorem dX1_foresee_89 : decode cX1_foresee 89 = .ok (.aload_n 0, 1) := by decide +kernel
theorem dX1_foresee_90 : decode cX1_foresee 90 = .ok (.getfield 12, 3) := by decide +kernel
theorem dX1_foresee_93 : decode cX1_foresee 93 = .ok (.aload_n 1, 1) := by decide +kernel
theorem dX1_foresee_94 : decode cX1_foresee 94 = .ok (.aload_n 2, 1) := by decide +kernel
theorem dX1_foresee_95 : decode cX1_foresee 95 = .ok (.getfield 43, 3) := by decide +kernel
theorem dX1_foresee_98 : decode cX1_foresee 98 = .ok (.iconst (-1), 1) := by decide +kernel
theorem dX1_foresee_99 : decode cX1_foresee 99 = .ok (.ixor, 1) := by decide +kernel
theorem dX1_foresee_100 : decode cX1_foresee 100 = .ok (.aload_n 2, 1) := by decide +kernel
theorem dX1_foresee_101 : decode cX1_foresee 101 = .ok (.getfield 34, 3) := by decide +kernel
theorem dX1_foresee_104 : decode cX1_foresee 104 = .ok (.iconst 1, 1) := by decide +kernel
theorem dX1_foresee_105 : decode cX1_foresee 105 = .ok (.iadd, 1) := by decide +kernel
theorem dX1_foresee_106 : decode cX1_foresee 106 = .ok (.sipush 240, 3) := by decide +kernel
theorem dX1_foresee_109 : decode cX1_foresee 109 = .ok (.iload 5, 2) := by decide +kernel
theorem dX1_foresee_111 : decode cX1_foresee 111 = .ok (.invokevirtual 122, 3) := by decide +kernel
theorem dX1_foresee_114 : decode cX1_foresee 114 = .ok (.aload_n 0, 1) := by decide +kernel
theorem dX1_foresee_115 : decode cX1_foresee 115 = .ok (.iconst 5, 1) := by decide +kernel
theorem dX1_foresee_116 : decode cX1_foresee 116 = .ok (.invokevirtual 126, 3) := by decide +kernel
theorem dX1_foresee_119 : decode cX1_foresee 119 = .ok (.return_, 1) := by decide +kernel
theorem dX1_noteArrivals_0 : decode cX1_noteArrivals 0 = .ok (.iload_n 1, 1) := by decide +kernel
theorem dX1_noteArrivals_1 : decode cX1_noteArrivals 1 = .ok (.ifCond .lt 41, 3) := by decide +kernel
theorem dX1_noteArrivals_4 : decode cX1_noteArrivals 4 = .ok (.iload_n 1, 1) := by decide +kernel
theorem dX1_noteArrivals_5 : decode cX1_noteArrivals 5 = .ok (.iconst 5, 1) := by decide +kernel
theorem dX1_noteArrivals_6 : decode cX1_noteArrivals 6 = .ok (.if_icmp .gt 36, 3) := by decide +kernel
theorem dX1_noteArrivals_9 : decode cX1_noteArrivals 9 = .ok (.iconst 0, 1) := by decide +kernel
theorem dX1_noteArrivals_10 : decode cX1_noteArrivals 10 = .ok (.istore_n 2, 1) := by decide +kernel
theorem dX1_noteArrivals_11 : decode cX1_noteArrivals 11 = .ok (.iload_n 2, 1) := by decide +kernel
theorem dX1_noteArrivals_12 : decode cX1_noteArrivals 12 = .ok (.bipush 10, 2) := by decide +kernel
theorem dX1_noteArrivals_14 : decode cX1_noteArrivals 14 = .ok (.if_icmp .ge 28, 3) := by decide +kernel
theorem dX1_noteArrivals_17 : decode cX1_noteArrivals 17 = .ok (.aload_n 0, 1) := by decide +kernel
theorem dX1_noteArrivals_18 : decode cX1_noteArrivals 18 = .ok (.getfield 18, 3) := by decide +kernel
theorem dX1_noteArrivals_21 : decode cX1_noteArrivals 21 = .ok (.iload_n 1, 1) := by decide +kernel
theorem dX1_noteArrivals_22 : decode cX1_noteArrivals 22 = .ok (.bipush 10, 2) := by decide +kernel
theorem dX1_noteArrivals_24 : decode cX1_noteArrivals 24 = .ok (.imul, 1) := by decide +kernel
theorem dX1_noteArrivals_25 : decode cX1_noteArrivals 25 = .ok (.iload_n 2, 1) := by decide +kernel
theorem dX1_noteArrivals_26 : decode cX1_noteArrivals 26 = .ok (.iadd, 1) := by decide +kernel
theorem dX1_noteArrivals_27 : decode cX1_noteArrivals 27 = .ok (.aload_n 0, 1) := by decide +kernel
theorem dX1_noteArrivals_28 : decode cX1_noteArrivals 28 = .ok (.getfield 12, 3) := by decide +kernel
theorem dX1_noteArrivals_31 : decode cX1_noteArrivals 31 = .ok (.iload_n 2, 1) := by decide +kernel
theorem dX1_noteArrivals_32 : decode cX1_noteArrivals 32 = .ok (.invokevirtual 129, 3) := by decide +kernel
theorem dX1_noteArrivals_35 : decode cX1_noteArrivals 35 = .ok (.iastore, 1) := by decide +kernel
theorem dX1_noteArrivals_36 : decode cX1_noteArrivals 36 = .ok (.iinc 2 1, 3) := by decide +kernel
theorem dX1_noteArrivals_39 : decode cX1_noteArrivals 39 = .ok (.goto (-28), 3) := by decide +kernel
theorem dX1_noteArrivals_42 : decode cX1_noteArrivals 42 = .ok (.return_, 1) := by decide +kernel
theorem dX1_arrivalBy_0 : decode cX1_arrivalBy 0 = .ok (.iload_n 1, 1) := by decide +kernel
theorem dX1_arrivalBy_1 : decode cX1_arrivalBy 1 = .ok (.ifCond .lt 18, 3) := by decide +kernel
theorem dX1_arrivalBy_4 : decode cX1_arrivalBy 4 = .ok (.iload_n 1, 1) := by decide +kernel
theorem dX1_arrivalBy_5 : decode cX1_arrivalBy 5 = .ok (.iconst 5, 1) := by decide +kernel
theorem dX1_arrivalBy_6 : decode cX1_arrivalBy 6 = .ok (.if_icmp .gt 13, 3) := by decide +kernel
theorem dX1_arrivalBy_9 : decode cX1_arrivalBy 9 = .ok (.iload_n 2, 1) := by decide +kernel
theorem dX1_arrivalBy_10 : decode cX1_arrivalBy 10 = .ok (.ifCond .lt 9, 3) := by decide +kernel
theorem dX1_arrivalBy_13 : decode cX1_arrivalBy 13 = .ok (.iload_n 2, 1) := by decide +kernel
theorem dX1_arrivalBy_14 : decode cX1_arrivalBy 14 = .ok (.bipush 10, 2) := by decide +kernel
theorem dX1_arrivalBy_16 : decode cX1_arrivalBy 16 = .ok (.if_icmp .lt 5, 3) := by decide +kernel
theorem dX1_arrivalBy_19 : decode cX1_arrivalBy 19 = .ok (.iconst (-1), 1) := by decide +kernel
theorem dX1_arrivalBy_20 : decode cX1_arrivalBy 20 = .ok (.ireturn, 1) := by decide +kernel
theorem dX1_arrivalBy_21 : decode cX1_arrivalBy 21 = .ok (.aload_n 0, 1) := by decide +kernel
theorem dX1_arrivalBy_22 : decode cX1_arrivalBy 22 = .ok (.getfield 18, 3) := by decide +kernel
theorem dX1_arrivalBy_25 : decode cX1_arrivalBy 25 = .ok (.iload_n 1, 1) := by decide +kernel
theorem dX1_arrivalBy_26 : decode cX1_arrivalBy 26 = .ok (.bipush 10, 2) := by decide +kernel
theorem dX1_arrivalBy_28 : decode cX1_arrivalBy 28 = .ok (.imul, 1) := by decide +kernel
theorem dX1_arrivalBy_29 : decode cX1_arrivalBy 29 = .ok (.iload_n 2, 1) := by decide +kernel
theorem dX1_arrivalBy_30 : decode cX1_arrivalBy 30 = .ok (.iadd, 1) := by decide +kernel
theorem dX1_arrivalBy_31 : decode cX1_arrivalBy 31 = .ok (.iaload, 1) := by decide +kernel
theorem dX1_arrivalBy_32 : decode cX1_arrivalBy 32 = .ok (.ireturn, 1) := by decide +kernel
theorem dX1_putAllAway_0 : decode cX1_putAllAway 0 = .ok (.aload_n 1, 1) := by decide +kernel
theorem dX1_putAllAway_1 : decode cX1_putAllAway 1 = .ok (.getfield 82, 3) := by decide +kernel
theorem dX1_putAllAway_4 : decode cX1_putAllAway 4 = .ok (.astore 4, 2) := by decide +kernel
theorem dX1_putAllAway_6 : decode cX1_putAllAway 6 = .ok (.iconst 0, 1) := by decide +kernel
theorem dX1_putAllAway_7 : decode cX1_putAllAway 7 = .ok (.istore 5, 2) := by decide +kernel
theorem dX1_putAllAway_9 : decode cX1_putAllAway 9 = .ok (.iload 5, 2) := by decide +kernel
theorem dX1_putAllAway_11 : decode cX1_putAllAway 11 = .ok (.aload 4, 2) := by decide +kernel
theorem dX1_putAllAway_13 : decode cX1_putAllAway 13 = .ok (.getfield 86, 3) := by decide +kernel
theorem dX1_putAllAway_16 : decode cX1_putAllAway 16 = .ok (.if_icmp .ge 50, 3) := by decide +kernel
theorem dX1_putAllAway_19 : decode cX1_putAllAway 19 = .ok (.iload 5, 2) := by decide +kernel
theorem dX1_putAllAway_21 : decode cX1_putAllAway 21 = .ok (.bipush 30, 2) := by decide +kernel
theorem dX1_putAllAway_23 : decode cX1_putAllAway 23 = .ok (.if_icmp .ge 43, 3) := by decide +kernel
theorem dX1_putAllAway_26 : decode cX1_putAllAway 26 = .ok (.aload_n 0, 1) := by decide +kernel
theorem dX1_putAllAway_27 : decode cX1_putAllAway 27 = .ok (.getfield 22, 3) := by decide +kernel
theorem dX1_putAllAway_30 : decode cX1_putAllAway 30 = .ok (.iload 5, 2) := by decide +kernel
theorem dX1_putAllAway_32 : decode cX1_putAllAway 32 = .ok (.iaload, 1) := by decide +kernel
theorem dX1_putAllAway_33 : decode cX1_putAllAway 33 = .ok (.bipush (-2), 2) := by decide +kernel
theorem dX1_putAllAway_35 : decode cX1_putAllAway 35 = .ok (.if_icmp .eq 25, 3) := by decide +kernel
theorem dX1_putAllAway_38 : decode cX1_putAllAway 38 = .ok (.aload_n 0, 1) := by decide +kernel
theorem dX1_putAllAway_39 : decode cX1_putAllAway 39 = .ok (.aload_n 1, 1) := by decide +kernel
theorem dX1_putAllAway_40 : decode cX1_putAllAway 40 = .ok (.iload 5, 2) := by decide +kernel
theorem dX1_putAllAway_42 : decode cX1_putAllAway 42 = .ok (.iload_n 2, 1) := by decide +kernel
theorem dX1_putAllAway_43 : decode cX1_putAllAway 43 = .ok (.aload_n 0, 1) := by decide +kernel
theorem dX1_putAllAway_44 : decode cX1_putAllAway 44 = .ok (.aload_n 1, 1) := by decide +kernel
theorem dX1_putAllAway_45 : decode cX1_putAllAway 45 = .ok (.iload_n 3, 1) := by decide +kernel
theorem dX1_putAllAway_46 : decode cX1_putAllAway 46 = .ok (.aload 4, 2) := by decide +kernel
theorem dX1_putAllAway_48 : decode cX1_putAllAway 48 = .ok (.getfield 112, 3) := by decide +kernel
theorem dX1_putAllAway_51 : decode cX1_putAllAway 51 = .ok (.iload 5, 2) := by decide +kernel
theorem dX1_putAllAway_53 : decode cX1_putAllAway 53 = .ok (.iaload, 1) := by decide +kernel
theorem dX1_putAllAway_54 : decode cX1_putAllAway 54 = .ok (.invokevirtual 132, 3) := by decide +kernel
theorem dX1_putAllAway_57 : decode cX1_putAllAway 57 = .ok (.invokevirtual 135, 3) := by decide +kernel
theorem dX1_putAllAway_60 : decode cX1_putAllAway 60 = .ok (.iinc 5 1, 3) := by decide +kernel
theorem dX1_putAllAway_63 : decode cX1_putAllAway 63 = .ok (.goto (-54), 3) := by decide +kernel
theorem dX1_putAllAway_66 : decode cX1_putAllAway 66 = .ok (.return_, 1) := by decide +kernel
theorem dX1_chooseCarrier_0 : decode cX1_chooseCarrier 0 = .ok (.iconst (-1), 1) := by decide +kernel
theorem dX1_chooseCarrier_1 : decode cX1_chooseCarrier 1 = .ok (.istore 4, 2) := by decide +kernel
theorem dX1_chooseCarrier_3 : decode cX1_chooseCarrier 3 = .ok (.iconst (-1), 1) := by decide +kernel
theorem dX1_chooseCarrier_4 : decode cX1_chooseCarrier 4 = .ok (.istore 5, 2) := by decide +kernel
theorem dX1_chooseCarrier_6 : decode cX1_chooseCarrier 6 = .ok (.iconst 0, 1) := by decide +kernel
theorem dX1_chooseCarrier_7 : decode cX1_chooseCarrier 7 = .ok (.istore 6, 2) := by decide +kernel
theorem dX1_chooseCarrier_9 : decode cX1_chooseCarrier 9 = .ok (.iload 6, 2) := by decide +kernel
theorem dX1_chooseCarrier_11 : decode cX1_chooseCarrier 11 = .ok (.iconst 5, 1) := by decide +kernel
theorem dX1_chooseCarrier_12 : decode cX1_chooseCarrier 12 = .ok (.if_icmp .ge 93, 3) := by decide +kernel
theorem dX1_chooseCarrier_15 : decode cX1_chooseCarrier 15 = .ok (.aload_n 0, 1) := by decide +kernel
theorem dX1_chooseCarrier_16 : decode cX1_chooseCarrier 16 = .ok (.iload 6, 2) := by decide +kernel
theorem dX1_chooseCarrier_18 : decode cX1_chooseCarrier 18 = .ok (.iload_n 3, 1) := by decide +kernel
theorem dX1_chooseCarrier_19 : decode cX1_chooseCarrier 19 = .ok (.invokevirtual 139, 3) := by decide +kernel
theorem dX1_chooseCarrier_22 : decode cX1_chooseCarrier 22 = .ok (.istore 7, 2) := by decide +kernel
theorem dX1_chooseCarrier_24 : decode cX1_chooseCarrier 24 = .ok (.iload_n 2, 1) := by decide +kernel
theorem dX1_chooseCarrier_25 : decode cX1_chooseCarrier 25 = .ok (.iload 6, 2) := by decide +kernel
theorem dX1_chooseCarrier_27 : decode cX1_chooseCarrier 27 = .ok (.invokestatic 94, 3) := by decide +kernel
theorem dX1_chooseCarrier_30 : decode cX1_chooseCarrier 30 = .ok (.ifCond .eq 69, 3) := by decide +kernel
theorem dX1_chooseCarrier_33 : decode cX1_chooseCarrier 33 = .ok (.aload_n 0, 1) := by decide +kernel
theorem dX1_chooseCarrier_34 : decode cX1_chooseCarrier 34 = .ok (.getfield 25, 3) := by decide +kernel
theorem dX1_chooseCarrier_37 : decode cX1_chooseCarrier 37 = .ok (.iload 6, 2) := by decide +kernel
theorem dX1_chooseCarrier_39 : decode cX1_chooseCarrier 39 = .ok (.iaload, 1) := by decide +kernel
theorem dX1_chooseCarrier_40 : decode cX1_chooseCarrier 40 = .ok (.aload_n 1, 1) := by decide +kernel
theorem dX1_chooseCarrier_41 : decode cX1_chooseCarrier 41 = .ok (.getfield 142, 3) := by decide +kernel
theorem dX1_chooseCarrier_44 : decode cX1_chooseCarrier 44 = .ok (.if_icmp .ge 55, 3) := by decide +kernel
theorem dX1_chooseCarrier_47 : decode cX1_chooseCarrier 47 = .ok (.iload 7, 2) := by decide +kernel
theorem dX1_chooseCarrier_49 : decode cX1_chooseCarrier 49 = .ok (.iconst (-1), 1) := by decide +kernel
theorem dX1_chooseCarrier_50 : decode cX1_chooseCarrier 50 = .ok (.if_icmp .ne 6, 3) := by decide +kernel
theorem dX1_chooseCarrier_53 : decode cX1_chooseCarrier 53 = .ok (.goto 46, 3) := by decide +kernel
theorem dX1_chooseCarrier_56 : decode cX1_chooseCarrier 56 = .ok (.iload 4, 2) := by decide +kernel
theorem dX1_chooseCarrier_58 : decode cX1_chooseCarrier 58 = .ok (.iconst (-1), 1) := by decide +kernel
theorem dX1_chooseCarrier_59 : decode cX1_chooseCarrier 59 = .ok (.if_icmp .eq 32, 3) := by decide +kernel
theorem dX1_chooseCarrier_62 : decode cX1_chooseCarrier 62 = .ok (.iload 7, 2) := by decide +kernel
theorem dX1_chooseCarrier_64 : decode cX1_chooseCarrier 64 = .ok (.iload 5, 2) := by decide +kernel
theorem dX1_chooseCarrier_66 : decode cX1_chooseCarrier 66 = .ok (.if_icmp .lt 25, 3) := by decide +kernel
theorem dX1_chooseCarrier_69 : decode cX1_chooseCarrier 69 = .ok (.iload 7, 2) := by decide +kernel
theorem dX1_chooseCarrier_71 : decode cX1_chooseCarrier 71 = .ok (.iload 5, 2) := by decide +kernel
theorem dX1_chooseCarrier_73 : decode cX1_chooseCarrier 73 = .ok (.if_icmp .ne 26, 3) := by decide +kernel
theorem dX1_chooseCarrier_76 : decode cX1_chooseCarrier 76 = .ok (.aload_n 1, 1) := by decide +kernel
theorem dX1_chooseCarrier_77 : decode cX1_chooseCarrier 77 = .ok (.iload 6, 2) := by decide +kernel
theorem dX1_chooseCarrier_79 : decode cX1_chooseCarrier 79 = .ok (.invokevirtual 145, 3) := by decide +kernel
theorem dX1_chooseCarrier_82 : decode cX1_chooseCarrier 82 = .ok (.aload_n 1, 1) := by decide +kernel
theorem dX1_chooseCarrier_83 : decode cX1_chooseCarrier 83 = .ok (.iload 4, 2) := by decide +kernel
theorem dX1_chooseCarrier_85 : decode cX1_chooseCarrier 85 = .ok (.invokevirtual 145, 3) := by decide +kernel
theorem dX1_chooseCarrier_88 : decode cX1_chooseCarrier 88 = .ok (.if_icmp .ge 11, 3) := by decide +kernel
theorem dX1_chooseCarrier_91 : decode cX1_chooseCarrier 91 = .ok (.iload 6, 2) := by decide +kernel
theorem dX1_chooseCarrier_93 : decode cX1_chooseCarrier 93 = .ok (.istore 4, 2) := by decide +kernel
theorem dX1_chooseCarrier_95 : decode cX1_chooseCarrier 95 = .ok (.iload 7, 2) := by decide +kernel
theorem dX1_chooseCarrier_97 : decode cX1_chooseCarrier 97 = .ok (.istore 5, 2) := by decide +kernel
theorem dX1_chooseCarrier_99 : decode cX1_chooseCarrier 99 = .ok (.iinc 6 1, 3) := by decide +kernel
theorem dX1_chooseCarrier_102 : decode cX1_chooseCarrier 102 = .ok (.goto (-93), 3) := by decide +kernel
theorem dX1_chooseCarrier_105 : decode cX1_chooseCarrier 105 = .ok (.aload_n 0, 1) := by decide +kernel
theorem dX1_chooseCarrier_106 : decode cX1_chooseCarrier 106 = .ok (.iconst 5, 1) := by decide +kernel
theorem dX1_chooseCarrier_107 : decode cX1_chooseCarrier 107 = .ok (.iload_n 3, 1) := by decide +kernel
theorem dX1_chooseCarrier_108 : decode cX1_chooseCarrier 108 = .ok (.invokevirtual 139, 3) := by decide +kernel
theorem dX1_chooseCarrier_111 : decode cX1_chooseCarrier 111 = .ok (.istore 6, 2) := by decide +kernel
theorem dX1_chooseCarrier_113 : decode cX1_chooseCarrier 113 = .ok (.iload 6, 2) := by decide +kernel
theorem dX1_chooseCarrier_115 : decode cX1_chooseCarrier 115 = .ok (.iconst (-1), 1) := by decide +kernel
theorem dX1_chooseCarrier_116 : decode cX1_chooseCarrier 116 = .ok (.if_icmp .eq 14, 3) := by decide +kernel
theorem dX1_chooseCarrier_119 : decode cX1_chooseCarrier 119 = .ok (.iload 5, 2) := by decide +kernel
theorem dX1_chooseCarrier_121 : decode cX1_chooseCarrier 121 = .ok (.iload 6, 2) := by decide +kernel
theorem dX1_chooseCarrier_123 : decode cX1_chooseCarrier 123 = .ok (.if_icmp .le 7, 3) := by decide +kernel
theorem dX1_chooseCarrier_126 : decode cX1_chooseCarrier 126 = .ok (.iconst (-1), 1) := by decide +kernel
theorem dX1_chooseCarrier_127 : decode cX1_chooseCarrier 127 = .ok (.goto 5, 3) := by decide +kernel
theorem dX1_chooseCarrier_130 : decode cX1_chooseCarrier 130 = .ok (.iload 4, 2) := by decide +kernel
theorem dX1_chooseCarrier_132 : decode cX1_chooseCarrier 132 = .ok (.ireturn, 1) := by decide +kernel
theorem dX1_putAway_0 : decode cX1_putAway 0 = .ok (.iload_n 2, 1) := by decide +kernel
theorem dX1_putAway_1 : decode cX1_putAway 1 = .ok (.ifCond .lt 9, 3) := by decide +kernel
theorem dX1_putAway_4 : decode cX1_putAway 4 = .ok (.iload_n 2, 1) := by decide +kernel
theorem dX1_putAway_5 : decode cX1_putAway 5 = .ok (.bipush 30, 2) := by decide +kernel
theorem dX1_putAway_7 : decode cX1_putAway 7 = .ok (.if_icmp .lt 4, 3) := by decide +kernel
theorem dX1_putAway_10 : decode cX1_putAway 10 = .ok (.return_, 1) := by decide +kernel
theorem dX1_putAway_11 : decode cX1_putAway 11 = .ok (.aload_n 0, 1) := by decide +kernel
theorem dX1_putAway_12 : decode cX1_putAway 12 = .ok (.getfield 22, 3) := by decide +kernel
theorem dX1_putAway_15 : decode cX1_putAway 15 = .ok (.iload_n 2, 1) := by decide +kernel
theorem dX1_putAway_16 : decode cX1_putAway 16 = .ok (.iaload, 1) := by decide +kernel
theorem dX1_putAway_17 : decode cX1_putAway 17 = .ok (.istore 5, 2) := by decide +kernel
theorem dX1_putAway_19 : decode cX1_putAway 19 = .ok (.iload 4, 2) := by decide +kernel
theorem dX1_putAway_21 : decode cX1_putAway 21 = .ok (.ifCond .lt 55, 3) := by decide +kernel
theorem dX1_putAway_24 : decode cX1_putAway 24 = .ok (.iload 4, 2) := by decide +kernel
theorem dX1_putAway_26 : decode cX1_putAway 26 = .ok (.iconst 5, 1) := by decide +kernel
theorem dX1_putAway_27 : decode cX1_putAway 27 = .ok (.if_icmp .ge 49, 3) := by decide +kernel
theorem dX1_putAway_30 : decode cX1_putAway 30 = .ok (.aload_n 0, 1) := by decide +kernel
theorem dX1_putAway_31 : decode cX1_putAway 31 = .ok (.getfield 25, 3) := by decide +kernel
theorem dX1_putAway_34 : decode cX1_putAway 34 = .ok (.iload 4, 2) := by decide +kernel
theorem dX1_putAway_36 : decode cX1_putAway 36 = .ok (.dup2, 1) := by decide +kernel
theorem dX1_putAway_37 : decode cX1_putAway 37 = .ok (.iaload, 1) := by decide +kernel
theorem dX1_putAway_38 : decode cX1_putAway 38 = .ok (.iconst 1, 1) := by decide +kernel
theorem dX1_putAway_39 : decode cX1_putAway 39 = .ok (.iadd, 1) := by decide +kernel
theorem dX1_putAway_40 : decode cX1_putAway 40 = .ok (.iastore, 1) := by decide +kernel
theorem dX1_putAway_41 : decode cX1_putAway 41 = .ok (.aload_n 1, 1) := by decide +kernel
theorem dX1_putAway_42 : decode cX1_putAway 42 = .ok (.getfield 82, 3) := by decide +kernel
theorem dX1_putAway_45 : decode cX1_putAway 45 = .ok (.iload_n 2, 1) := by decide +kernel
theorem dX1_putAway_46 : decode cX1_putAway 46 = .ok (.aload_n 1, 1) := by decide +kernel
theorem dX1_putAway_47 : decode cX1_putAway 47 = .ok (.iload 4, 2) := by decide +kernel
theorem dX1_putAway_49 : decode cX1_putAway 49 = .ok (.invokevirtual 145, 3) := by decide +kernel
theorem dX1_putAway_52 : decode cX1_putAway 52 = .ok (.iload 4, 2) := by decide +kernel
theorem dX1_putAway_54 : decode cX1_putAway 54 = .ok (.invokevirtual 148, 3) := by decide +kernel
theorem dX1_putAway_57 : decode cX1_putAway 57 = .ok (.iload 5, 2) := by decide +kernel
theorem dX1_putAway_59 : decode cX1_putAway 59 = .ok (.iload 4, 2) := by decide +kernel
theorem dX1_putAway_61 : decode cX1_putAway 61 = .ok (.if_icmp .eq 39, 3) := by decide +kernel
theorem dX1_putAway_64 : decode cX1_putAway 64 = .ok (.aload_n 1, 1) := by decide +kernel
theorem dX1_putAway_65 : decode cX1_putAway 65 = .ok (.iload_n 2, 1) := by decide +kernel
theorem dX1_putAway_66 : decode cX1_putAway 66 = .ok (.iconst 0, 1) := by decide +kernel
theorem dX1_putAway_67 : decode cX1_putAway 67 = .ok (.iload 4, 2) := by decide +kernel
theorem dX1_putAway_69 : decode cX1_putAway 69 = .ok (.iload_n 3, 1) := by decide +kernel
theorem dX1_putAway_70 : decode cX1_putAway 70 = .ok (.invokevirtual 104, 3) := by decide +kernel
theorem dX1_putAway_73 : decode cX1_putAway 73 = .ok (.goto 27, 3) := by decide +kernel
theorem dX1_putAway_76 : decode cX1_putAway 76 = .ok (.aload_n 1, 1) := by decide +kernel
theorem dX1_putAway_77 : decode cX1_putAway 77 = .ok (.getfield 82, 3) := by decide +kernel
theorem dX1_putAway_80 : decode cX1_putAway 80 = .ok (.iload_n 2, 1) := by decide +kernel
theorem dX1_putAway_81 : decode cX1_putAway 81 = .ok (.iload_n 3, 1) := by decide +kernel
theorem dX1_putAway_82 : decode cX1_putAway 82 = .ok (.invokevirtual 152, 3) := by decide +kernel
theorem dX1_putAway_85 : decode cX1_putAway 85 = .ok (.iload 5, 2) := by decide +kernel
theorem dX1_putAway_87 : decode cX1_putAway 87 = .ok (.iconst (-1), 1) := by decide +kernel
theorem dX1_putAway_88 : decode cX1_putAway 88 = .ok (.if_icmp .eq 12, 3) := by decide +kernel
theorem dX1_putAway_91 : decode cX1_putAway 91 = .ok (.aload_n 1, 1) := by decide +kernel
theorem dX1_putAway_92 : decode cX1_putAway 92 = .ok (.iload_n 2, 1) := by decide +kernel
theorem dX1_putAway_93 : decode cX1_putAway 93 = .ok (.iconst 1, 1) := by decide +kernel
theorem dX1_putAway_94 : decode cX1_putAway 94 = .ok (.iload 5, 2) := by decide +kernel
theorem dX1_putAway_96 : decode cX1_putAway 96 = .ok (.iload_n 3, 1) := by decide +kernel
theorem dX1_putAway_97 : decode cX1_putAway 97 = .ok (.invokevirtual 104, 3) := by decide +kernel
theorem dX1_putAway_100 : decode cX1_putAway 100 = .ok (.return_, 1) := by decide +kernel
theorem dX2_init_0 : decode cX2_init 0 = .ok (.aload_n 0, 1) := by decide +kernel
theorem dX2_init_1 : decode cX2_init 1 = .ok (.invokespecial 3, 3) := by decide +kernel
theorem dX2_init_4 : decode cX2_init 4 = .ok (.aload_n 0, 1) := by decide +kernel
theorem dX2_init_5 : decode cX2_init 5 = .ok (.iconst 0, 1) := by decide +kernel
theorem dX2_init_6 : decode cX2_init 6 = .ok (.putfield 9, 3) := by decide +kernel
theorem dX2_init_9 : decode cX2_init 9 = .ok (.aload_n 0, 1) := by decide +kernel
theorem dX2_init_10 : decode cX2_init 10 = .ok (.bipush 30, 2) := by decide +kernel
theorem dX2_init_12 : decode cX2_init 12 = .ok (.newarray .int, 2) := by decide +kernel
theorem dX2_init_14 : decode cX2_init 14 = .ok (.putfield 15, 3) := by decide +kernel
theorem dX2_init_17 : decode cX2_init 17 = .ok (.aload_n 0, 1) := by decide +kernel
theorem dX2_init_18 : decode cX2_init 18 = .ok (.bipush 30, 2) := by decide +kernel
theorem dX2_init_20 : decode cX2_init 20 = .ok (.newarray .int, 2) := by decide +kernel
theorem dX2_init_22 : decode cX2_init 22 = .ok (.putfield 19, 3) := by decide +kernel
theorem dX2_init_25 : decode cX2_init 25 = .ok (.aload_n 0, 1) := by decide +kernel
theorem dX2_init_26 : decode cX2_init 26 = .ok (.bipush 30, 2) := by decide +kernel
theorem dX2_init_28 : decode cX2_init 28 = .ok (.newarray .int, 2) := by decide +kernel
theorem dX2_init_30 : decode cX2_init 30 = .ok (.putfield 22, 3) := by decide +kernel
theorem dX2_init_33 : decode cX2_init 33 = .ok (.aload_n 0, 1) := by decide +kernel
theorem dX2_init_34 : decode cX2_init 34 = .ok (.bipush 30, 2) := by decide +kernel
theorem dX2_init_36 : decode cX2_init 36 = .ok (.newarray .int, 2) := by decide +kernel
theorem dX2_init_38 : decode cX2_init 38 = .ok (.putfield 25, 3) := by decide +kernel
theorem dX2_init_41 : decode cX2_init 41 = .ok (.aload_n 0, 1) := by decide +kernel
theorem dX2_init_42 : decode cX2_init 42 = .ok (.bipush 30, 2) := by decide +kernel
theorem dX2_init_44 : decode cX2_init 44 = .ok (.newarray .int, 2) := by decide +kernel
theorem dX2_init_46 : decode cX2_init 46 = .ok (.putfield 28, 3) := by decide +kernel
theorem dX2_init_49 : decode cX2_init 49 = .ok (.aload_n 0, 1) := by decide +kernel
theorem dX2_init_50 : decode cX2_init 50 = .ok (.bipush 30, 2) := by decide +kernel
theorem dX2_init_52 : decode cX2_init 52 = .ok (.newarray .int, 2) := by decide +kernel
theorem dX2_init_54 : decode cX2_init 54 = .ok (.putfield 31, 3) := by decide +kernel
theorem dX2_init_57 : decode cX2_init 57 = .ok (.aload_n 0, 1) := by decide +kernel
theorem dX2_init_58 : decode cX2_init 58 = .ok (.bipush 30, 2) := by decide +kernel
theorem dX2_init_60 : decode cX2_init 60 = .ok (.newarray .int, 2) := by decide +kernel
theorem dX2_init_62 : decode cX2_init 62 = .ok (.putfield 34, 3) := by decide +kernel
theorem dX2_init_65 : decode cX2_init 65 = .ok (.aload_n 0, 1) := by decide +kernel
theorem dX2_init_66 : decode cX2_init 66 = .ok (.bipush 30, 2) := by decide +kernel
theorem dX2_init_68 : decode cX2_init 68 = .ok (.newarray .int, 2) := by decide +kernel
theorem dX2_init_70 : decode cX2_init 70 = .ok (.putfield 37, 3) := by decide +kernel
theorem dX2_init_73 : decode cX2_init 73 = .ok (.aload_n 0, 1) := by decide +kernel
theorem dX2_init_74 : decode cX2_init 74 = .ok (.bipush 30, 2) := by decide +kernel
theorem dX2_init_76 : decode cX2_init 76 = .ok (.newarray .int, 2) := by decide +kernel
theorem dX2_init_78 : decode cX2_init 78 = .ok (.putfield 40, 3) := by decide +kernel
theorem dX2_init_81 : decode cX2_init 81 = .ok (.aload_n 0, 1) := by decide +kernel
theorem dX2_init_82 : decode cX2_init 82 = .ok (.bipush 30, 2) := by decide +kernel
theorem dX2_init_84 : decode cX2_init 84 = .ok (.newarray .int, 2) := by decide +kernel
theorem dX2_init_86 : decode cX2_init 86 = .ok (.putfield 43, 3) := by decide +kernel
theorem dX2_init_89 : decode cX2_init 89 = .ok (.return_, 1) := by decide +kernel
theorem dX2_copyFrom_0 : decode cX2_copyFrom 0 = .ok (.aload_n 0, 1) := by decide +kernel
theorem dX2_copyFrom_1 : decode cX2_copyFrom 1 = .ok (.aload_n 1, 1) := by decide +kernel
theorem dX2_copyFrom_2 : decode cX2_copyFrom 2 = .ok (.getfield 9, 3) := by decide +kernel
theorem dX2_copyFrom_5 : decode cX2_copyFrom 5 = .ok (.putfield 9, 3) := by decide +kernel
theorem dX2_copyFrom_8 : decode cX2_copyFrom 8 = .ok (.aload_n 1, 1) := by decide +kernel
theorem dX2_copyFrom_9 : decode cX2_copyFrom 9 = .ok (.getfield 15, 3) := by decide +kernel
theorem dX2_copyFrom_12 : decode cX2_copyFrom 12 = .ok (.iconst 0, 1) := by decide +kernel
theorem dX2_copyFrom_13 : decode cX2_copyFrom 13 = .ok (.aload_n 0, 1) := by decide +kernel
theorem dX2_copyFrom_14 : decode cX2_copyFrom 14 = .ok (.getfield 15, 3) := by decide +kernel
theorem dX2_copyFrom_17 : decode cX2_copyFrom 17 = .ok (.iconst 0, 1) := by decide +kernel
theorem dX2_copyFrom_18 : decode cX2_copyFrom 18 = .ok (.bipush 30, 2) := by decide +kernel
theorem dX2_copyFrom_20 : decode cX2_copyFrom 20 = .ok (.invokestatic 46, 3) := by decide +kernel
theorem dX2_copyFrom_23 : decode cX2_copyFrom 23 = .ok (.aload_n 1, 1) := by decide +kernel
theorem dX2_copyFrom_24 : decode cX2_copyFrom 24 = .ok (.getfield 19, 3) := by decide +kernel
theorem dX2_copyFrom_27 : decode cX2_copyFrom 27 = .ok (.iconst 0, 1) := by decide +kernel
theorem dX2_copyFrom_28 : decode cX2_copyFrom 28 = .ok (.aload_n 0, 1) := by decide +kernel
theorem dX2_copyFrom_29 : decode cX2_copyFrom 29 = .ok (.getfield 19, 3) := by decide +kernel
theorem dX2_copyFrom_32 : decode cX2_copyFrom 32 = .ok (.iconst 0, 1) := by decide +kernel
theorem dX2_copyFrom_33 : decode cX2_copyFrom 33 = .ok (.bipush 30, 2) := by decide +kernel
theorem dX2_copyFrom_35 : decode cX2_copyFrom 35 = .ok (.invokestatic 46, 3) := by decide +kernel
theorem dX2_copyFrom_38 : decode cX2_copyFrom 38 = .ok (.aload_n 1, 1) := by decide +kernel
theorem dX2_copyFrom_39 : decode cX2_copyFrom 39 = .ok (.getfield 22, 3) := by decide +kernel
theorem dX2_copyFrom_42 : decode cX2_copyFrom 42 = .ok (.iconst 0, 1) := by decide +kernel
theorem dX2_copyFrom_43 : decode cX2_copyFrom 43 = .ok (.aload_n 0, 1) := by decide +kernel
theorem dX2_copyFrom_44 : decode cX2_copyFrom 44 = .ok (.getfield 22, 3) := by decide +kernel
theorem dX2_copyFrom_47 : decode cX2_copyFrom 47 = .ok (.iconst 0, 1) := by decide +kernel
theorem dX2_copyFrom_48 : decode cX2_copyFrom 48 = .ok (.bipush 30, 2) := by decide +kernel
theorem dX2_copyFrom_50 : decode cX2_copyFrom 50 = .ok (.invokestatic 46, 3) := by decide +kernel
theorem dX2_copyFrom_53 : decode cX2_copyFrom 53 = .ok (.aload_n 1, 1) := by decide +kernel
theorem dX2_copyFrom_54 : decode cX2_copyFrom 54 = .ok (.getfield 25, 3) := by decide +kernel
theorem dX2_copyFrom_57 : decode cX2_copyFrom 57 = .ok (.iconst 0, 1) := by decide +kernel
theorem dX2_copyFrom_58 : decode cX2_copyFrom 58 = .ok (.aload_n 0, 1) := by decide +kernel
theorem dX2_copyFrom_59 : decode cX2_copyFrom 59 = .ok (.getfield 25, 3) := by decide +kernel
theorem dX2_copyFrom_62 : decode cX2_copyFrom 62 = .ok (.iconst 0, 1) := by decide +kernel
theorem dX2_copyFrom_63 : decode cX2_copyFrom 63 = .ok (.bipush 30, 2) := by decide +kernel
theorem dX2_copyFrom_65 : decode cX2_copyFrom 65 = .ok (.invokestatic 46, 3) := by decide +kernel
theorem dX2_copyFrom_68 : decode cX2_copyFrom 68 = .ok (.aload_n 1, 1) := by decide +kernel
theorem dX2_copyFrom_69 : decode cX2_copyFrom 69 = .ok (.getfield 28, 3) := by decide +kernel
theorem dX2_copyFrom_72 : decode cX2_copyFrom 72 = .ok (.iconst 0, 1) := by decide +kernel
theorem dX2_copyFrom_73 : decode cX2_copyFrom 73 = .ok (.aload_n 0, 1) := by decide +kernel
theorem dX2_copyFrom_74 : decode cX2_copyFrom 74 = .ok (.getfield 28, 3) := by decide +kernel
theorem dX2_copyFrom_77 : decode cX2_copyFrom 77 = .ok (.iconst 0, 1) := by decide +kernel
theorem dX2_copyFrom_78 : decode cX2_copyFrom 78 = .ok (.bipush 30, 2) := by decide +kernel
theorem dX2_copyFrom_80 : decode cX2_copyFrom 80 = .ok (.invokestatic 46, 3) := by decide +kernel
theorem dX2_copyFrom_83 : decode cX2_copyFrom 83 = .ok (.aload_n 1, 1) := by decide +kernel
theorem dX2_copyFrom_84 : decode cX2_copyFrom 84 = .ok (.getfield 31, 3) := by decide +kernel
theorem dX2_copyFrom_87 : decode cX2_copyFrom 87 = .ok (.iconst 0, 1) := by decide +kernel
theorem dX2_copyFrom_88 : decode cX2_copyFrom 88 = .ok (.aload_n 0, 1) := by decide +kernel
theorem dX2_copyFrom_89 : decode cX2_copyFrom 89 = .ok (.getfield 31, 3) := by decide +kernel
theorem dX2_copyFrom_92 : decode cX2_copyFrom 92 = .ok (.iconst 0, 1) := by decide +kernel
theorem dX2_copyFrom_93 : decode cX2_copyFrom 93 = .ok (.bipush 30, 2) := by decide +kernel
theorem dX2_copyFrom_95 : decode cX2_copyFrom 95 = .ok (.invokestatic 46, 3) := by decide +kernel
theorem dX2_copyFrom_98 : decode cX2_copyFrom 98 = .ok (.aload_n 1, 1) := by decide +kernel
theorem dX2_copyFrom_99 : decode cX2_copyFrom 99 = .ok (.getfield 34, 3) := by decide +kernel
theorem dX2_copyFrom_102 : decode cX2_copyFrom 102 = .ok (.iconst 0, 1) := by decide +kernel
theorem dX2_copyFrom_103 : decode cX2_copyFrom 103 = .ok (.aload_n 0, 1) := by decide +kernel
theorem dX2_copyFrom_104 : decode cX2_copyFrom 104 = .ok (.getfield 34, 3) := by decide +kernel
theorem dX2_copyFrom_107 : decode cX2_copyFrom 107 = .ok (.iconst 0, 1) := by decide +kernel
theorem dX2_copyFrom_108 : decode cX2_copyFrom 108 = .ok (.bipush 30, 2) := by decide +kernel
theorem dX2_copyFrom_110 : decode cX2_copyFrom 110 = .ok (.invokestatic 46, 3) := by decide +kernel
theorem dX2_copyFrom_113 : decode cX2_copyFrom 113 = .ok (.aload_n 1, 1) := by decide +kernel
theorem dX2_copyFrom_114 : decode cX2_copyFrom 114 = .ok (.getfield 37, 3) := by decide +kernel
theorem dX2_copyFrom_117 : decode cX2_copyFrom 117 = .ok (.iconst 0, 1) := by decide +kernel
theorem dX2_copyFrom_118 : decode cX2_copyFrom 118 = .ok (.aload_n 0, 1) := by decide +kernel
theorem dX2_copyFrom_119 : decode cX2_copyFrom 119 = .ok (.getfield 37, 3) := by decide +kernel
theorem dX2_copyFrom_122 : decode cX2_copyFrom 122 = .ok (.iconst 0, 1) := by decide +kernel
theorem dX2_copyFrom_123 : decode cX2_copyFrom 123 = .ok (.bipush 30, 2) := by decide +kernel
theorem dX2_copyFrom_125 : decode cX2_copyFrom 125 = .ok (.invokestatic 46, 3) := by decide +kernel
theorem dX2_copyFrom_128 : decode cX2_copyFrom 128 = .ok (.aload_n 1, 1) := by decide +kernel
theorem dX2_copyFrom_129 : decode cX2_copyFrom 129 = .ok (.getfield 40, 3) := by decide +kernel
theorem dX2_copyFrom_132 : decode cX2_copyFrom 132 = .ok (.iconst 0, 1) := by decide +kernel
theorem dX2_copyFrom_133 : decode cX2_copyFrom 133 = .ok (.aload_n 0, 1) := by decide +kernel
theorem dX2_copyFrom_134 : decode cX2_copyFrom 134 = .ok (.getfield 40, 3) := by decide +kernel
theorem dX2_copyFrom_137 : decode cX2_copyFrom 137 = .ok (.iconst 0, 1) := by decide +kernel
theorem dX2_copyFrom_138 : decode cX2_copyFrom 138 = .ok (.bipush 30, 2) := by decide +kernel
theorem dX2_copyFrom_140 : decode cX2_copyFrom 140 = .ok (.invokestatic 46, 3) := by decide +kernel
theorem dX2_copyFrom_143 : decode cX2_copyFrom 143 = .ok (.aload_n 1, 1) := by decide +kernel
theorem dX2_copyFrom_144 : decode cX2_copyFrom 144 = .ok (.getfield 43, 3) := by decide +kernel
theorem dX2_copyFrom_147 : decode cX2_copyFrom 147 = .ok (.iconst 0, 1) := by decide +kernel
theorem dX2_copyFrom_148 : decode cX2_copyFrom 148 = .ok (.aload_n 0, 1) := by decide +kernel
theorem dX2_copyFrom_149 : decode cX2_copyFrom 149 = .ok (.getfield 43, 3) := by decide +kernel
theorem dX2_copyFrom_152 : decode cX2_copyFrom 152 = .ok (.iconst 0, 1) := by decide +kernel
theorem dX2_copyFrom_153 : decode cX2_copyFrom 153 = .ok (.bipush 30, 2) := by decide +kernel
theorem dX2_copyFrom_155 : decode cX2_copyFrom 155 = .ok (.invokestatic 46, 3) := by decide +kernel
theorem dX2_copyFrom_158 : decode cX2_copyFrom 158 = .ok (.return_, 1) := by decide +kernel
theorem dX2_add_0 : decode cX2_add 0 = .ok (.aload_n 0, 1) := by decide +kernel
theorem dX2_add_1 : decode cX2_add 1 = .ok (.getfield 9, 3) := by decide +kernel
theorem dX2_add_4 : decode cX2_add 4 = .ok (.bipush 30, 2) := by decide +kernel
theorem dX2_add_6 : decode cX2_add 6 = .ok (.if_icmp .lt 5, 3) := by decide +kernel
theorem dX2_add_9 : decode cX2_add 9 = .ok (.iconst (-1), 1) := by decide +kernel
theorem dX2_add_10 : decode cX2_add 10 = .ok (.ireturn, 1) := by decide +kernel
theorem dX2_add_11 : decode cX2_add 11 = .ok (.aload_n 0, 1) := by decide +kernel
theorem dX2_add_12 : decode cX2_add 12 = .ok (.getfield 9, 3) := by decide +kernel
theorem dX2_add_15 : decode cX2_add 15 = .ok (.istore 6, 2) := by decide +kernel
theorem dX2_add_17 : decode cX2_add 17 = .ok (.aload_n 0, 1) := by decide +kernel
theorem dX2_add_18 : decode cX2_add 18 = .ok (.getfield 15, 3) := by decide +kernel
theorem dX2_add_21 : decode cX2_add 21 = .ok (.iload 6, 2) := by decide +kernel
theorem dX2_add_23 : decode cX2_add 23 = .ok (.iload_n 1, 1) := by decide +kernel
theorem dX2_add_24 : decode cX2_add 24 = .ok (.iastore, 1) := by decide +kernel
theorem dX2_add_25 : decode cX2_add 25 = .ok (.aload_n 0, 1) := by decide +kernel
theorem dX2_add_26 : decode cX2_add 26 = .ok (.getfield 19, 3) := by decide +kernel
theorem dX2_add_29 : decode cX2_add 29 = .ok (.iload 6, 2) := by decide +kernel
theorem dX2_add_31 : decode cX2_add 31 = .ok (.iload_n 2, 1) := by decide +kernel
theorem dX2_add_32 : decode cX2_add 32 = .ok (.iastore, 1) := by decide +kernel
theorem dX2_add_33 : decode cX2_add 33 = .ok (.aload_n 0, 1) := by decide +kernel
theorem dX2_add_34 : decode cX2_add 34 = .ok (.getfield 22, 3) := by decide +kernel
theorem dX2_add_37 : decode cX2_add 37 = .ok (.iload 6, 2) := by decide +kernel
theorem dX2_add_39 : decode cX2_add 39 = .ok (.iload_n 3, 1) := by decide +kernel
theorem dX2_add_40 : decode cX2_add 40 = .ok (.iastore, 1) := by decide +kernel
theorem dX2_add_41 : decode cX2_add 41 = .ok (.aload_n 0, 1) := by decide +kernel
theorem dX2_add_42 : decode cX2_add 42 = .ok (.getfield 25, 3) := by decide +kernel
theorem dX2_add_45 : decode cX2_add 45 = .ok (.iload 6, 2) := by decide +kernel
theorem dX2_add_47 : decode cX2_add 47 = .ok (.iconst 0, 1) := by decide +kernel
theorem dX2_add_48 : decode cX2_add 48 = .ok (.iastore, 1) := by decide +kernel
theorem dX2_add_49 : decode cX2_add 49 = .ok (.aload_n 0, 1) := by decide +kernel
theorem dX2_add_50 : decode cX2_add 50 = .ok (.getfield 28, 3) := by decide +kernel
theorem dX2_add_53 : decode cX2_add 53 = .ok (.iload 6, 2) := by decide +kernel
theorem dX2_add_55 : decode cX2_add 55 = .ok (.iload_n 1, 1) := by decide +kernel
theorem dX2_add_56 : decode cX2_add 56 = .ok (.iastore, 1) := by decide +kernel
theorem dX2_add_57 : decode cX2_add 57 = .ok (.aload_n 0, 1) := by decide +kernel
theorem dX2_add_58 : decode cX2_add 58 = .ok (.getfield 31, 3) := by decide +kernel
theorem dX2_add_61 : decode cX2_add 61 = .ok (.iload 6, 2) := by decide +kernel
theorem dX2_add_63 : decode cX2_add 63 = .ok (.iload 4, 2) := by decide +kernel
theorem dX2_add_65 : decode cX2_add 65 = .ok (.iastore, 1) := by decide +kernel
theorem dX2_add_66 : decode cX2_add 66 = .ok (.aload_n 0, 1) := by decide +kernel
theorem dX2_add_67 : decode cX2_add 67 = .ok (.getfield 34, 3) := by decide +kernel
theorem dX2_add_70 : decode cX2_add 70 = .ok (.iload 6, 2) := by decide +kernel
theorem dX2_add_72 : decode cX2_add 72 = .ok (.iload 5, 2) := by decide +kernel
theorem dX2_add_74 : decode cX2_add 74 = .ok (.iastore, 1) := by decide +kernel
theorem dX2_add_75 : decode cX2_add 75 = .ok (.aload_n 0, 1) := by decide +kernel
theorem dX2_add_76 : decode cX2_add 76 = .ok (.getfield 37, 3) := by decide +kernel
theorem dX2_add_79 : decode cX2_add 79 = .ok (.iload 6, 2) := by decide +kernel
theorem dX2_add_81 : decode cX2_add 81 = .ok (.iconst (-1), 1) := by decide +kernel
theorem dX2_add_82 : decode cX2_add 82 = .ok (.iastore, 1) := by decide +kernel
theorem dX2_add_83 : decode cX2_add 83 = .ok (.aload_n 0, 1) := by decide +kernel
theorem dX2_add_84 : decode cX2_add 84 = .ok (.getfield 40, 3) := by decide +kernel
theorem dX2_add_87 : decode cX2_add 87 = .ok (.iload 6, 2) := by decide +kernel
theorem dX2_add_89 : decode cX2_add 89 = .ok (.iconst 0, 1) := by decide +kernel
theorem dX2_add_90 : decode cX2_add 90 = .ok (.iastore, 1) := by decide +kernel
theorem dX2_add_91 : decode cX2_add 91 = .ok (.aload_n 0, 1) := by decide +kernel
theorem dX2_add_92 : decode cX2_add 92 = .ok (.getfield 43, 3) := by decide +kernel
theorem dX2_add_95 : decode cX2_add 95 = .ok (.iload 6, 2) := by decide +kernel
theorem dX2_add_97 : decode cX2_add 97 = .ok (.iconst 0, 1) := by decide +kernel
theorem dX2_add_98 : decode cX2_add 98 = .ok (.iastore, 1) := by decide +kernel
theorem dX2_add_99 : decode cX2_add 99 = .ok (.aload_n 0, 1) := by decide +kernel
theorem dX2_add_100 : decode cX2_add 100 = .ok (.dup, 1) := by decide +kernel
theorem dX2_add_101 : decode cX2_add 101 = .ok (.getfield 9, 3) := by decide +kernel
theorem dX2_add_104 : decode cX2_add 104 = .ok (.iconst 1, 1) := by decide +kernel
theorem dX2_add_105 : decode cX2_add 105 = .ok (.iadd, 1) := by decide +kernel
theorem dX2_add_106 : decode cX2_add 106 = .ok (.putfield 9, 3) := by decide +kernel
theorem dX2_add_109 : decode cX2_add 109 = .ok (.iload 6, 2) := by decide +kernel
theorem dX2_add_111 : decode cX2_add 111 = .ok (.ireturn, 1) := by decide +kernel
theorem dX2_property_0 : decode cX2_property 0 = .ok (.iload_n 1, 1) := by decide +kernel
theorem dX2_property_1 : decode cX2_property 1 = .ok (.ifCond .lt 11, 3) := by decide +kernel
theorem dX2_property_4 : decode cX2_property 4 = .ok (.iload_n 1, 1) := by decide +kernel
theorem dX2_property_5 : decode cX2_property 5 = .ok (.aload_n 0, 1) := by decide +kernel
theorem dX2_property_6 : decode cX2_property 6 = .ok (.getfield 9, 3) := by decide +kernel
theorem dX2_property_9 : decode cX2_property 9 = .ok (.if_icmp .lt 5, 3) := by decide +kernel
theorem dX2_property_12 : decode cX2_property 12 = .ok (.iconst (-1), 1) := by decide +kernel
theorem dX2_property_13 : decode cX2_property 13 = .ok (.ireturn, 1) := by decide +kernel
theorem dX2_property_14 : decode cX2_property 14 = .ok (.iload_n 2, 1) := by decide +kernel
theorem dX2_property_15 : decode cX2_property 15 = .ok (.tableswitch 101 0 7 #[45, 52, 59, 66, 73, 80, 87, 94], 45) := by decide +kernel
theorem dX2_property_60 : decode cX2_property 60 = .ok (.aload_n 0, 1) := by decide +kernel
theorem dX2_property_61 : decode cX2_property 61 = .ok (.getfield 15, 3) := by decide +kernel
theorem dX2_property_64 : decode cX2_property 64 = .ok (.iload_n 1, 1) := by decide +kernel
theorem dX2_property_65 : decode cX2_property 65 = .ok (.iaload, 1) := by decide +kernel
theorem dX2_property_66 : decode cX2_property 66 = .ok (.ireturn, 1) := by decide +kernel
theorem dX2_property_67 : decode cX2_property 67 = .ok (.aload_n 0, 1) := by decide +kernel
theorem dX2_property_68 : decode cX2_property 68 = .ok (.getfield 19, 3) := by decide +kernel
theorem dX2_property_71 : decode cX2_property 71 = .ok (.iload_n 1, 1) := by decide +kernel
theorem dX2_property_72 : decode cX2_property 72 = .ok (.iaload, 1) := by decide +kernel
theorem dX2_property_73 : decode cX2_property 73 = .ok (.ireturn, 1) := by decide +kernel
theorem dX2_property_74 : decode cX2_property 74 = .ok (.aload_n 0, 1) := by decide +kernel
theorem dX2_property_75 : decode cX2_property 75 = .ok (.getfield 22, 3) := by decide +kernel
theorem dX2_property_78 : decode cX2_property 78 = .ok (.iload_n 1, 1) := by decide +kernel
theorem dX2_property_79 : decode cX2_property 79 = .ok (.iaload, 1) := by decide +kernel
theorem dX2_property_80 : decode cX2_property 80 = .ok (.ireturn, 1) := by decide +kernel
theorem dX2_property_81 : decode cX2_property 81 = .ok (.aload_n 0, 1) := by decide +kernel
theorem dX2_property_82 : decode cX2_property 82 = .ok (.getfield 25, 3) := by decide +kernel
theorem dX2_property_85 : decode cX2_property 85 = .ok (.iload_n 1, 1) := by decide +kernel
theorem dX2_property_86 : decode cX2_property 86 = .ok (.iaload, 1) := by decide +kernel
theorem dX2_property_87 : decode cX2_property 87 = .ok (.ireturn, 1) := by decide +kernel
theorem dX2_property_88 : decode cX2_property 88 = .ok (.aload_n 0, 1) := by decide +kernel
theorem dX2_property_89 : decode cX2_property 89 = .ok (.getfield 28, 3) := by decide +kernel
theorem dX2_property_92 : decode cX2_property 92 = .ok (.iload_n 1, 1) := by decide +kernel
theorem dX2_property_93 : decode cX2_property 93 = .ok (.iaload, 1) := by decide +kernel
theorem dX2_property_94 : decode cX2_property 94 = .ok (.ireturn, 1) := by decide +kernel
theorem dX2_property_95 : decode cX2_property 95 = .ok (.aload_n 0, 1) := by decide +kernel
theorem dX2_property_96 : decode cX2_property 96 = .ok (.getfield 31, 3) := by decide +kernel
theorem dX2_property_99 : decode cX2_property 99 = .ok (.iload_n 1, 1) := by decide +kernel
theorem dX2_property_100 : decode cX2_property 100 = .ok (.iaload, 1) := by decide +kernel
theorem dX2_property_101 : decode cX2_property 101 = .ok (.ireturn, 1) := by decide +kernel
theorem dX2_property_102 : decode cX2_property 102 = .ok (.aload_n 0, 1) := by decide +kernel
theorem dX2_property_103 : decode cX2_property 103 = .ok (.getfield 34, 3) := by decide +kernel
theorem dX2_property_106 : decode cX2_property 106 = .ok (.iload_n 1, 1) := by decide +kernel
theorem dX2_property_107 : decode cX2_property 107 = .ok (.iaload, 1) := by decide +kernel
theorem dX2_property_108 : decode cX2_property 108 = .ok (.ireturn, 1) := by decide +kernel
theorem dX2_property_109 : decode cX2_property 109 = .ok (.aload_n 0, 1) := by decide +kernel
theorem dX2_property_110 : decode cX2_property 110 = .ok (.getfield 37, 3) := by decide +kernel
theorem dX2_property_113 : decode cX2_property 113 = .ok (.iload_n 1, 1) := by decide +kernel
theorem dX2_property_114 : decode cX2_property 114 = .ok (.iaload, 1) := by decide +kernel
theorem dX2_property_115 : decode cX2_property 115 = .ok (.ireturn, 1) := by decide +kernel
theorem dX2_property_116 : decode cX2_property 116 = .ok (.aload_n 0, 1) := by decide +kernel
theorem dX2_property_117 : decode cX2_property 117 = .ok (.getfield 40, 3) := by decide +kernel
theorem dX2_property_120 : decode cX2_property 120 = .ok (.iload_n 1, 1) := by decide +kernel
theorem dX2_property_121 : decode cX2_property 121 = .ok (.iaload, 1) := by decide +kernel
theorem dX2_property_122 : decode cX2_property 122 = .ok (.ireturn, 1) := by decide +kernel
theorem dX2_lateAt_0 : decode cX2_lateAt 0 = .ok (.iload_n 1, 1) := by decide +kernel
theorem dX2_lateAt_1 : decode cX2_lateAt 1 = .ok (.ifCond .lt 21, 3) := by decide +kernel
theorem dX2_lateAt_4 : decode cX2_lateAt 4 = .ok (.iload_n 1, 1) := by decide +kernel
theorem dX2_lateAt_5 : decode cX2_lateAt 5 = .ok (.aload_n 0, 1) := by decide +kernel
theorem dX2_lateAt_6 : decode cX2_lateAt 6 = .ok (.getfield 9, 3) := by decide +kernel
theorem dX2_lateAt_9 : decode cX2_lateAt 9 = .ok (.if_icmp .ge 13, 3) := by decide +kernel
theorem dX2_lateAt_12 : decode cX2_lateAt 12 = .ok (.aload_n 0, 1) := by decide +kernel
theorem dX2_lateAt_13 : decode cX2_lateAt 13 = .ok (.getfield 34, 3) := by decide +kernel
theorem dX2_lateAt_16 : decode cX2_lateAt 16 = .ok (.iload_n 1, 1) := by decide +kernel
theorem dX2_lateAt_17 : decode cX2_lateAt 17 = .ok (.iaload, 1) := by decide +kernel
theorem dX2_lateAt_18 : decode cX2_lateAt 18 = .ok (.iconst (-1), 1) := by decide +kernel
theorem dX2_lateAt_19 : decode cX2_lateAt 19 = .ok (.if_icmp .ne 5, 3) := by decide +kernel
theorem dX2_lateAt_22 : decode cX2_lateAt 22 = .ok (.iconst 0, 1) := by decide +kernel
theorem dX2_lateAt_23 : decode cX2_lateAt 23 = .ok (.ireturn, 1) := by decide +kernel
theorem dX2_lateAt_24 : decode cX2_lateAt 24 = .ok (.aload_n 0, 1) := by decide +kernel
theorem dX2_lateAt_25 : decode cX2_lateAt 25 = .ok (.getfield 25, 3) := by decide +kernel
theorem dX2_lateAt_28 : decode cX2_lateAt 28 = .ok (.iload_n 1, 1) := by decide +kernel
theorem dX2_lateAt_29 : decode cX2_lateAt 29 = .ok (.iaload, 1) := by decide +kernel
theorem dX2_lateAt_30 : decode cX2_lateAt 30 = .ok (.iconst 2, 1) := by decide +kernel
theorem dX2_lateAt_31 : decode cX2_lateAt 31 = .ok (.if_icmp .ne 12, 3) := by decide +kernel
theorem dX2_lateAt_34 : decode cX2_lateAt 34 = .ok (.aload_n 0, 1) := by decide +kernel
theorem dX2_lateAt_35 : decode cX2_lateAt 35 = .ok (.getfield 37, 3) := by decide +kernel
theorem dX2_lateAt_38 : decode cX2_lateAt 38 = .ok (.iload_n 1, 1) := by decide +kernel
theorem dX2_lateAt_39 : decode cX2_lateAt 39 = .ok (.iaload, 1) := by decide +kernel
theorem dX2_lateAt_40 : decode cX2_lateAt 40 = .ok (.goto 4, 3) := by decide +kernel
theorem dX2_lateAt_43 : decode cX2_lateAt 43 = .ok (.iload_n 2, 1) := by decide +kernel
theorem dX2_lateAt_44 : decode cX2_lateAt 44 = .ok (.aload_n 0, 1) := by decide +kernel
theorem dX2_lateAt_45 : decode cX2_lateAt 45 = .ok (.getfield 34, 3) := by decide +kernel
theorem dX2_lateAt_48 : decode cX2_lateAt 48 = .ok (.iload_n 1, 1) := by decide +kernel
theorem dX2_lateAt_49 : decode cX2_lateAt 49 = .ok (.iaload, 1) := by decide +kernel
theorem dX2_lateAt_50 : decode cX2_lateAt 50 = .ok (.if_icmp .le 7, 3) := by decide +kernel
theorem dX2_lateAt_53 : decode cX2_lateAt 53 = .ok (.iconst 1, 1) := by decide +kernel
theorem dX2_lateAt_54 : decode cX2_lateAt 54 = .ok (.goto 4, 3) := by decide +kernel
theorem dX2_lateAt_57 : decode cX2_lateAt 57 = .ok (.iconst 0, 1) := by decide +kernel
theorem dX2_lateAt_58 : decode cX2_lateAt 58 = .ok (.ireturn, 1) := by decide +kernel
theorem dX2_isIn_0 : decode cX2_isIn 0 = .ok (.iload_n 1, 1) := by decide +kernel
theorem dX2_isIn_1 : decode cX2_isIn 1 = .ok (.ifCond .lt 35, 3) := by decide +kernel
theorem dX2_isIn_4 : decode cX2_isIn 4 = .ok (.iload_n 1, 1) := by decide +kernel
theorem dX2_isIn_5 : decode cX2_isIn 5 = .ok (.aload_n 0, 1) := by decide +kernel
theorem dX2_isIn_6 : decode cX2_isIn 6 = .ok (.getfield 9, 3) := by decide +kernel
theorem dX2_isIn_9 : decode cX2_isIn 9 = .ok (.if_icmp .ge 27, 3) := by decide +kernel
theorem dX2_isIn_12 : decode cX2_isIn 12 = .ok (.aload_n 0, 1) := by decide +kernel
theorem dX2_isIn_13 : decode cX2_isIn 13 = .ok (.getfield 25, 3) := by decide +kernel
theorem dX2_isIn_16 : decode cX2_isIn 16 = .ok (.iload_n 1, 1) := by decide +kernel
theorem dX2_isIn_17 : decode cX2_isIn 17 = .ok (.iaload, 1) := by decide +kernel
theorem dX2_isIn_18 : decode cX2_isIn 18 = .ok (.iload_n 2, 1) := by decide +kernel
theorem dX2_isIn_19 : decode cX2_isIn 19 = .ok (.if_icmp .ne 17, 3) := by decide +kernel
theorem dX2_isIn_22 : decode cX2_isIn 22 = .ok (.aload_n 0, 1) := by decide +kernel
theorem dX2_isIn_23 : decode cX2_isIn 23 = .ok (.getfield 28, 3) := by decide +kernel
theorem dX2_isIn_26 : decode cX2_isIn 26 = .ok (.iload_n 1, 1) := by decide +kernel
theorem dX2_isIn_27 : decode cX2_isIn 27 = .ok (.iaload, 1) := by decide +kernel
theorem dX2_isIn_28 : decode cX2_isIn 28 = .ok (.iload_n 3, 1) := by decide +kernel
theorem dX2_isIn_29 : decode cX2_isIn 29 = .ok (.if_icmp .ne 7, 3) := by decide +kernel
theorem dX2_isIn_32 : decode cX2_isIn 32 = .ok (.iconst 1, 1) := by decide +kernel
theorem dX2_isIn_33 : decode cX2_isIn 33 = .ok (.goto 4, 3) := by decide +kernel
theorem dX2_isIn_36 : decode cX2_isIn 36 = .ok (.iconst 0, 1) := by decide +kernel
theorem dX2_isIn_37 : decode cX2_isIn 37 = .ok (.ireturn, 1) := by decide +kernel
theorem dX2_countIn_0 : decode cX2_countIn 0 = .ok (.iconst 0, 1) := by decide +kernel
theorem dX2_countIn_1 : decode cX2_countIn 1 = .ok (.istore_n 3, 1) := by decide +kernel
theorem dX2_countIn_2 : decode cX2_countIn 2 = .ok (.iconst 0, 1) := by decide +kernel
theorem dX2_countIn_3 : decode cX2_countIn 3 = .ok (.istore 4, 2) := by decide +kernel
theorem dX2_countIn_5 : decode cX2_countIn 5 = .ok (.iload 4, 2) := by decide +kernel
theorem dX2_countIn_7 : decode cX2_countIn 7 = .ok (.aload_n 0, 1) := by decide +kernel
theorem dX2_countIn_8 : decode cX2_countIn 8 = .ok (.getfield 9, 3) := by decide +kernel
theorem dX2_countIn_11 : decode cX2_countIn 11 = .ok (.if_icmp .ge 23, 3) := by decide +kernel
theorem dX2_countIn_14 : decode cX2_countIn 14 = .ok (.aload_n 0, 1) := by decide +kernel
theorem dX2_countIn_15 : decode cX2_countIn 15 = .ok (.iload 4, 2) := by decide +kernel
theorem dX2_countIn_17 : decode cX2_countIn 17 = .ok (.iload_n 1, 1) := by decide +kernel
theorem dX2_countIn_18 : decode cX2_countIn 18 = .ok (.iload_n 2, 1) := by decide +kernel
theorem dX2_countIn_19 : decode cX2_countIn 19 = .ok (.invokevirtual 52, 3) := by decide +kernel
theorem dX2_countIn_22 : decode cX2_countIn 22 = .ok (.ifCond .eq 6, 3) := by decide +kernel
theorem dX2_countIn_25 : decode cX2_countIn 25 = .ok (.iinc 3 1, 3) := by decide +kernel
theorem dX2_countIn_28 : decode cX2_countIn 28 = .ok (.iinc 4 1, 3) := by decide +kernel
theorem dX2_countIn_31 : decode cX2_countIn 31 = .ok (.goto (-26), 3) := by decide +kernel
theorem dX2_countIn_34 : decode cX2_countIn 34 = .ok (.iload_n 3, 1) := by decide +kernel
theorem dX2_countIn_35 : decode cX2_countIn 35 = .ok (.ireturn, 1) := by decide +kernel
theorem dX2_numberIn_0 : decode cX2_numberIn 0 = .ok (.iconst 0, 1) := by decide +kernel
theorem dX2_numberIn_1 : decode cX2_numberIn 1 = .ok (.istore 4, 2) := by decide +kernel
theorem dX2_numberIn_3 : decode cX2_numberIn 3 = .ok (.iconst 0, 1) := by decide +kernel
theorem dX2_numberIn_4 : decode cX2_numberIn 4 = .ok (.istore 5, 2) := by decide +kernel
theorem dX2_numberIn_6 : decode cX2_numberIn 6 = .ok (.iload 5, 2) := by decide +kernel
theorem dX2_numberIn_8 : decode cX2_numberIn 8 = .ok (.aload_n 0, 1) := by decide +kernel
theorem dX2_numberIn_9 : decode cX2_numberIn 9 = .ok (.getfield 9, 3) := by decide +kernel
theorem dX2_numberIn_12 : decode cX2_numberIn 12 = .ok (.if_icmp .ge 32, 3) := by decide +kernel
theorem dX2_numberIn_15 : decode cX2_numberIn 15 = .ok (.aload_n 0, 1) := by decide +kernel
theorem dX2_numberIn_16 : decode cX2_numberIn 16 = .ok (.iload 5, 2) := by decide +kernel
theorem dX2_numberIn_18 : decode cX2_numberIn 18 = .ok (.iload_n 1, 1) := by decide +kernel
theorem dX2_numberIn_19 : decode cX2_numberIn 19 = .ok (.iload_n 2, 1) := by decide +kernel
theorem dX2_numberIn_20 : decode cX2_numberIn 20 = .ok (.invokevirtual 52, 3) := by decide +kernel
theorem dX2_numberIn_23 : decode cX2_numberIn 23 = .ok (.ifCond .eq 15, 3) := by decide +kernel
theorem dX2_numberIn_26 : decode cX2_numberIn 26 = .ok (.iload 4, 2) := by decide +kernel
theorem dX2_numberIn_28 : decode cX2_numberIn 28 = .ok (.iload_n 3, 1) := by decide +kernel
theorem dX2_numberIn_29 : decode cX2_numberIn 29 = .ok (.if_icmp .ne 6, 3) := by decide +kernel
theorem dX2_numberIn_32 : decode cX2_numberIn 32 = .ok (.iload 5, 2) := by decide +kernel
theorem dX2_numberIn_34 : decode cX2_numberIn 34 = .ok (.ireturn, 1) := by decide +kernel
theorem dX2_numberIn_35 : decode cX2_numberIn 35 = .ok (.iinc 4 1, 3) := by decide +kernel
theorem dX2_numberIn_38 : decode cX2_numberIn 38 = .ok (.iinc 5 1, 3) := by decide +kernel
theorem dX2_numberIn_41 : decode cX2_numberIn 41 = .ok (.goto (-35), 3) := by decide +kernel
theorem dX2_numberIn_44 : decode cX2_numberIn 44 = .ok (.iconst (-1), 1) := by decide +kernel
theorem dX2_numberIn_45 : decode cX2_numberIn 45 = .ok (.ireturn, 1) := by decide +kernel
theorem dX2_valueIn_0 : decode cX2_valueIn 0 = .ok (.iconst 0, 1) := by decide +kernel
theorem dX2_valueIn_1 : decode cX2_valueIn 1 = .ok (.istore_n 3, 1) := by decide +kernel
theorem dX2_valueIn_2 : decode cX2_valueIn 2 = .ok (.iconst 0, 1) := by decide +kernel
theorem dX2_valueIn_3 : decode cX2_valueIn 3 = .ok (.istore 4, 2) := by decide +kernel
theorem dX2_valueIn_5 : decode cX2_valueIn 5 = .ok (.iload 4, 2) := by decide +kernel
theorem dX2_valueIn_7 : decode cX2_valueIn 7 = .ok (.aload_n 0, 1) := by decide +kernel
theorem dX2_valueIn_8 : decode cX2_valueIn 8 = .ok (.getfield 9, 3) := by decide +kernel
theorem dX2_valueIn_11 : decode cX2_valueIn 11 = .ok (.if_icmp .ge 30, 3) := by decide +kernel
theorem dX2_valueIn_14 : decode cX2_valueIn 14 = .ok (.aload_n 0, 1) := by decide +kernel
theorem dX2_valueIn_15 : decode cX2_valueIn 15 = .ok (.iload 4, 2) := by decide +kernel
theorem dX2_valueIn_17 : decode cX2_valueIn 17 = .ok (.iload_n 1, 1) := by decide +kernel
theorem dX2_valueIn_18 : decode cX2_valueIn 18 = .ok (.iload_n 2, 1) := by decide +kernel
theorem dX2_valueIn_19 : decode cX2_valueIn 19 = .ok (.invokevirtual 52, 3) := by decide +kernel
theorem dX2_valueIn_22 : decode cX2_valueIn 22 = .ok (.ifCond .eq 13, 3) := by decide +kernel
theorem dX2_valueIn_25 : decode cX2_valueIn 25 = .ok (.iload_n 3, 1) := by decide +kernel
theorem dX2_valueIn_26 : decode cX2_valueIn 26 = .ok (.aload_n 0, 1) := by decide +kernel
theorem dX2_valueIn_27 : decode cX2_valueIn 27 = .ok (.getfield 22, 3) := by decide +kernel
theorem dX2_valueIn_30 : decode cX2_valueIn 30 = .ok (.iload 4, 2) := by decide +kernel
theorem dX2_valueIn_32 : decode cX2_valueIn 32 = .ok (.iaload, 1) := by decide +kernel
theorem dX2_valueIn_33 : decode cX2_valueIn 33 = .ok (.iadd, 1) := by decide +kernel
theorem dX2_valueIn_34 : decode cX2_valueIn 34 = .ok (.istore_n 3, 1) := by decide +kernel
theorem dX2_valueIn_35 : decode cX2_valueIn 35 = .ok (.iinc 4 1, 3) := by decide +kernel
theorem dX2_valueIn_38 : decode cX2_valueIn 38 = .ok (.goto (-33), 3) := by decide +kernel
theorem dX2_valueIn_41 : decode cX2_valueIn 41 = .ok (.iload_n 3, 1) := by decide +kernel
theorem dX2_valueIn_42 : decode cX2_valueIn 42 = .ok (.ireturn, 1) := by decide +kernel
theorem dX2_toHand_0 : decode cX2_toHand 0 = .ok (.iload_n 1, 1) := by decide +kernel
theorem dX2_toHand_1 : decode cX2_toHand 1 = .ok (.ifCond .lt 37, 3) := by decide +kernel
theorem dX2_toHand_4 : decode cX2_toHand 4 = .ok (.iload_n 1, 1) := by decide +kernel
theorem dX2_toHand_5 : decode cX2_toHand 5 = .ok (.aload_n 0, 1) := by decide +kernel
theorem dX2_toHand_6 : decode cX2_toHand 6 = .ok (.getfield 9, 3) := by decide +kernel
theorem dX2_toHand_9 : decode cX2_toHand 9 = .ok (.if_icmp .ge 29, 3) := by decide +kernel
theorem dX2_toHand_12 : decode cX2_toHand 12 = .ok (.aload_n 0, 1) := by decide +kernel
theorem dX2_toHand_13 : decode cX2_toHand 13 = .ok (.getfield 25, 3) := by decide +kernel
theorem dX2_toHand_16 : decode cX2_toHand 16 = .ok (.iload_n 1, 1) := by decide +kernel
theorem dX2_toHand_17 : decode cX2_toHand 17 = .ok (.iconst 2, 1) := by decide +kernel
theorem dX2_toHand_18 : decode cX2_toHand 18 = .ok (.iastore, 1) := by decide +kernel
theorem dX2_toHand_19 : decode cX2_toHand 19 = .ok (.aload_n 0, 1) := by decide +kernel
theorem dX2_toHand_20 : decode cX2_toHand 20 = .ok (.getfield 28, 3) := by decide +kernel
theorem dX2_toHand_23 : decode cX2_toHand 23 = .ok (.iload_n 1, 1) := by decide +kernel
theorem dX2_toHand_24 : decode cX2_toHand 24 = .ok (.aload_n 0, 1) := by decide +kernel
theorem dX2_toHand_25 : decode cX2_toHand 25 = .ok (.getfield 19, 3) := by decide +kernel
theorem dX2_toHand_28 : decode cX2_toHand 28 = .ok (.iload_n 1, 1) := by decide +kernel
theorem dX2_toHand_29 : decode cX2_toHand 29 = .ok (.iaload, 1) := by decide +kernel
theorem dX2_toHand_30 : decode cX2_toHand 30 = .ok (.iastore, 1) := by decide +kernel
theorem dX2_toHand_31 : decode cX2_toHand 31 = .ok (.aload_n 0, 1) := by decide +kernel
theorem dX2_toHand_32 : decode cX2_toHand 32 = .ok (.getfield 37, 3) := by decide +kernel
theorem dX2_toHand_35 : decode cX2_toHand 35 = .ok (.iload_n 1, 1) := by decide +kernel
theorem dX2_toHand_36 : decode cX2_toHand 36 = .ok (.iload_n 2, 1) := by decide +kernel
theorem dX2_toHand_37 : decode cX2_toHand 37 = .ok (.iastore, 1) := by decide +kernel
theorem dX2_toHand_38 : decode cX2_toHand 38 = .ok (.return_, 1) := by decide +kernel
theorem dX2_toOffice_0 : decode cX2_toOffice 0 = .ok (.iload_n 1, 1) := by decide +kernel
theorem dX2_toOffice_1 : decode cX2_toOffice 1 = .ok (.ifCond .lt 25, 3) := by decide +kernel
theorem dX2_toOffice_4 : decode cX2_toOffice 4 = .ok (.iload_n 1, 1) := by decide +kernel
theorem dX2_toOffice_5 : decode cX2_toOffice 5 = .ok (.aload_n 0, 1) := by decide +kernel
theorem dX2_toOffice_6 : decode cX2_toOffice 6 = .ok (.getfield 9, 3) := by decide +kernel
theorem dX2_toOffice_9 : decode cX2_toOffice 9 = .ok (.if_icmp .ge 17, 3) := by decide +kernel
theorem dX2_toOffice_12 : decode cX2_toOffice 12 = .ok (.aload_n 0, 1) := by decide +kernel
theorem dX2_toOffice_13 : decode cX2_toOffice 13 = .ok (.getfield 25, 3) := by decide +kernel
theorem dX2_toOffice_16 : decode cX2_toOffice 16 = .ok (.iload_n 1, 1) := by decide +kernel
theorem dX2_toOffice_17 : decode cX2_toOffice 17 = .ok (.iconst 0, 1) := by decide +kernel
theorem dX2_toOffice_18 : decode cX2_toOffice 18 = .ok (.iastore, 1) := by decide +kernel
theorem dX2_toOffice_19 : decode cX2_toOffice 19 = .ok (.aload_n 0, 1) := by decide +kernel
theorem dX2_toOffice_20 : decode cX2_toOffice 20 = .ok (.getfield 28, 3) := by decide +kernel
theorem dX2_toOffice_23 : decode cX2_toOffice 23 = .ok (.iload_n 1, 1) := by decide +kernel
theorem dX2_toOffice_24 : decode cX2_toOffice 24 = .ok (.iload_n 2, 1) := by decide +kernel
theorem dX2_toOffice_25 : decode cX2_toOffice 25 = .ok (.iastore, 1) := by decide +kernel
theorem dX2_toOffice_26 : decode cX2_toOffice 26 = .ok (.return_, 1) := by decide +kernel
theorem dX2_toSack_0 : decode cX2_toSack 0 = .ok (.iload_n 1, 1) := by decide +kernel
theorem dX2_toSack_1 : decode cX2_toSack 1 = .ok (.ifCond .lt 38, 3) := by decide +kernel
theorem dX2_toSack_4 : decode cX2_toSack 4 = .ok (.iload_n 1, 1) := by decide +kernel
theorem dX2_toSack_5 : decode cX2_toSack 5 = .ok (.aload_n 0, 1) := by decide +kernel
theorem dX2_toSack_6 : decode cX2_toSack 6 = .ok (.getfield 9, 3) := by decide +kernel
theorem dX2_toSack_9 : decode cX2_toSack 9 = .ok (.if_icmp .ge 30, 3) := by decide +kernel
theorem dX2_toSack_12 : decode cX2_toSack 12 = .ok (.aload_n 0, 1) := by decide +kernel
theorem dX2_toSack_13 : decode cX2_toSack 13 = .ok (.getfield 25, 3) := by decide +kernel
theorem dX2_toSack_16 : decode cX2_toSack 16 = .ok (.iload_n 1, 1) := by decide +kernel
theorem dX2_toSack_17 : decode cX2_toSack 17 = .ok (.iconst 1, 1) := by decide +kernel
theorem dX2_toSack_18 : decode cX2_toSack 18 = .ok (.iastore, 1) := by decide +kernel
theorem dX2_toSack_19 : decode cX2_toSack 19 = .ok (.aload_n 0, 1) := by decide +kernel
theorem dX2_toSack_20 : decode cX2_toSack 20 = .ok (.getfield 28, 3) := by decide +kernel
theorem dX2_toSack_23 : decode cX2_toSack 23 = .ok (.iload_n 1, 1) := by decide +kernel
theorem dX2_toSack_24 : decode cX2_toSack 24 = .ok (.iload_n 2, 1) := by decide +kernel
theorem dX2_toSack_25 : decode cX2_toSack 25 = .ok (.iastore, 1) := by decide +kernel
theorem dX2_toSack_26 : decode cX2_toSack 26 = .ok (.aload_n 0, 1) := by decide +kernel
theorem dX2_toSack_27 : decode cX2_toSack 27 = .ok (.getfield 43, 3) := by decide +kernel
theorem dX2_toSack_30 : decode cX2_toSack 30 = .ok (.iload_n 1, 1) := by decide +kernel
theorem dX2_toSack_31 : decode cX2_toSack 31 = .ok (.dup2, 1) := by decide +kernel
theorem dX2_toSack_32 : decode cX2_toSack 32 = .ok (.iaload, 1) := by decide +kernel
theorem dX2_toSack_33 : decode cX2_toSack 33 = .ok (.iload_n 3, 1) := by decide +kernel
theorem dX2_toSack_34 : decode cX2_toSack 34 = .ok (.invokestatic 56, 3) := by decide +kernel
theorem dX2_toSack_37 : decode cX2_toSack 37 = .ok (.ior, 1) := by decide +kernel
theorem dX2_toSack_38 : decode cX2_toSack 38 = .ok (.iastore, 1) := by decide +kernel
theorem dX2_toSack_39 : decode cX2_toSack 39 = .ok (.return_, 1) := by decide +kernel
theorem dX3_init_0 : decode cX3_init 0 = .ok (.aload_n 0, 1) := by decide +kernel
theorem dX3_init_1 : decode cX3_init 1 = .ok (.invokespecial 3, 3) := by decide +kernel
theorem dX3_init_4 : decode cX3_init 4 = .ok (.aload_n 0, 1) := by decide +kernel
theorem dX3_init_5 : decode cX3_init 5 = .ok (.iconst 0, 1) := by decide +kernel
theorem dX3_init_6 : decode cX3_init 6 = .ok (.putfield 9, 3) := by decide +kernel
theorem dX3_init_9 : decode cX3_init 9 = .ok (.aload_n 0, 1) := by decide +kernel
theorem dX3_init_10 : decode cX3_init 10 = .ok (.sipush 160, 3) := by decide +kernel
theorem dX3_init_13 : decode cX3_init 13 = .ok (.newarray .int, 2) := by decide +kernel
theorem dX3_init_15 : decode cX3_init 15 = .ok (.putfield 15, 3) := by decide +kernel
theorem dX3_init_18 : decode cX3_init 18 = .ok (.return_, 1) := by decide +kernel
theorem dX3_put_0 : decode cX3_put 0 = .ok (.aload_n 0, 1) := by decide +kernel
theorem dX3_put_1 : decode cX3_put 1 = .ok (.getfield 9, 3) := by decide +kernel
theorem dX3_put_4 : decode cX3_put 4 = .ok (.ifCond .lt 33, 3) := by decide +kernel
theorem dX3_put_7 : decode cX3_put 7 = .ok (.aload_n 0, 1) := by decide +kernel
theorem dX3_put_8 : decode cX3_put 8 = .ok (.getfield 9, 3) := by decide +kernel
theorem dX3_put_11 : decode cX3_put 11 = .ok (.sipush 160, 3) := by decide +kernel
theorem dX3_put_14 : decode cX3_put 14 = .ok (.if_icmp .ge 23, 3) := by decide +kernel
theorem dX3_put_17 : decode cX3_put 17 = .ok (.aload_n 0, 1) := by decide +kernel
theorem dX3_put_18 : decode cX3_put 18 = .ok (.getfield 15, 3) := by decide +kernel
theorem dX3_put_21 : decode cX3_put 21 = .ok (.aload_n 0, 1) := by decide +kernel
theorem dX3_put_22 : decode cX3_put 22 = .ok (.getfield 9, 3) := by decide +kernel
theorem dX3_put_25 : decode cX3_put 25 = .ok (.iload_n 1, 1) := by decide +kernel
theorem dX3_put_26 : decode cX3_put 26 = .ok (.iastore, 1) := by decide +kernel
theorem dX3_put_27 : decode cX3_put 27 = .ok (.aload_n 0, 1) := by decide +kernel
theorem dX3_put_28 : decode cX3_put 28 = .ok (.dup, 1) := by decide +kernel
theorem dX3_put_29 : decode cX3_put 29 = .ok (.getfield 9, 3) := by decide +kernel
theorem dX3_put_32 : decode cX3_put 32 = .ok (.iconst 1, 1) := by decide +kernel
theorem dX3_put_33 : decode cX3_put 33 = .ok (.iadd, 1) := by decide +kernel
theorem dX3_put_34 : decode cX3_put 34 = .ok (.putfield 9, 3) := by decide +kernel
theorem dX3_put_37 : decode cX3_put 37 = .ok (.return_, 1) := by decide +kernel
theorem dX3_putText_0 : decode cX3_putText 0 = .ok (.iconst 0, 1) := by decide +kernel
theorem dX3_putText_1 : decode cX3_putText 1 = .ok (.istore_n 2, 1) := by decide +kernel
theorem dX3_putText_2 : decode cX3_putText 2 = .ok (.iload_n 2, 1) := by decide +kernel
theorem dX3_putText_3 : decode cX3_putText 3 = .ok (.aload_n 1, 1) := by decide +kernel
theorem dX3_putText_4 : decode cX3_putText 4 = .ok (.invokevirtual 19, 3) := by decide +kernel
theorem dX3_putText_7 : decode cX3_putText 7 = .ok (.if_icmp .ge 18, 3) := by decide +kernel
theorem dX3_putText_10 : decode cX3_putText 10 = .ok (.aload_n 0, 1) := by decide +kernel
theorem dX3_putText_11 : decode cX3_putText 11 = .ok (.aload_n 1, 1) := by decide +kernel
theorem dX3_putText_12 : decode cX3_putText 12 = .ok (.iload_n 2, 1) := by decide +kernel
theorem dX3_putText_13 : decode cX3_putText 13 = .ok (.invokevirtual 24, 3) := by decide +kernel
theorem dX3_putText_16 : decode cX3_putText 16 = .ok (.invokevirtual 28, 3) := by decide +kernel
theorem dX3_putText_19 : decode cX3_putText 19 = .ok (.iinc 2 1, 3) := by decide +kernel
theorem dX3_putText_22 : decode cX3_putText 22 = .ok (.goto (-20), 3) := by decide +kernel
theorem dX3_putText_25 : decode cX3_putText 25 = .ok (.return_, 1) := by decide +kernel
theorem dX3_putName_0 : decode cX3_putName 0 = .ok (.iconst 5, 1) := by decide +kernel
theorem dX3_putName_1 : decode cX3_putName 1 = .ok (.istore_n 2, 1) := by decide +kernel
theorem dX3_putName_2 : decode cX3_putName 2 = .ok (.iload_n 2, 1) := by decide +kernel
theorem dX3_putName_3 : decode cX3_putName 3 = .ok (.ifCond .lt 32, 3) := by decide +kernel
theorem dX3_putName_6 : decode cX3_putName 6 = .ok (.iload_n 1, 1) := by decide +kernel
theorem dX3_putName_7 : decode cX3_putName 7 = .ok (.iload_n 2, 1) := by decide +kernel
theorem dX3_putName_8 : decode cX3_putName 8 = .ok (.iconst 5, 1) := by decide +kernel
theorem dX3_putName_9 : decode cX3_putName 9 = .ok (.imul, 1) := by decide +kernel
theorem dX3_putName_10 : decode cX3_putName 10 = .ok (.ishr, 1) := by decide +kernel
theorem dX3_putName_11 : decode cX3_putName 11 = .ok (.bipush 31, 2) := by decide +kernel
theorem dX3_putName_13 : decode cX3_putName 13 = .ok (.iand, 1) := by decide +kernel
theorem dX3_putName_14 : decode cX3_putName 14 = .ok (.istore_n 3, 1) := by decide +kernel
theorem dX3_putName_15 : decode cX3_putName 15 = .ok (.iload_n 3, 1) := by decide +kernel
theorem dX3_putName_16 : decode cX3_putName 16 = .ok (.ifCond .eq 13, 3) := by decide +kernel
theorem dX3_putName_19 : decode cX3_putName 19 = .ok (.aload_n 0, 1) := by decide +kernel
theorem dX3_putName_20 : decode cX3_putName 20 = .ok (.bipush 97, 2) := by decide +kernel
theorem dX3_putName_22 : decode cX3_putName 22 = .ok (.iload_n 3, 1) := by decide +kernel
theorem dX3_putName_23 : decode cX3_putName 23 = .ok (.iadd, 1) := by decide +kernel
theorem dX3_putName_24 : decode cX3_putName 24 = .ok (.iconst 1, 1) := by decide +kernel
theorem dX3_putName_25 : decode cX3_putName 25 = .ok (.isub, 1) := by decide +kernel
theorem dX3_putName_26 : decode cX3_putName 26 = .ok (.invokevirtual 28, 3) := by decide +kernel
theorem dX3_putName_29 : decode cX3_putName 29 = .ok (.iinc 2 (-1), 3) := by decide +kernel
theorem dX3_putName_32 : decode cX3_putName 32 = .ok (.goto (-30), 3) := by decide +kernel
theorem dX3_putName_35 : decode cX3_putName 35 = .ok (.return_, 1) := by decide +kernel
theorem dX3_putNumber_0 : decode cX3_putNumber 0 = .ok (.iload_n 1, 1) := by decide +kernel
theorem dX3_putNumber_1 : decode cX3_putNumber 1 = .ok (.bipush 10, 2) := by decide +kernel
theorem dX3_putNumber_3 : decode cX3_putNumber 3 = .ok (.if_icmp .lt 14, 3) := by decide +kernel
theorem dX3_putNumber_6 : decode cX3_putNumber 6 = .ok (.aload_n 0, 1) := by decide +kernel
theorem dX3_putNumber_7 : decode cX3_putNumber 7 = .ok (.bipush 48, 2) := by decide +kernel
theorem dX3_putNumber_9 : decode cX3_putNumber 9 = .ok (.iload_n 1, 1) := by decide +kernel
theorem dX3_putNumber_10 : decode cX3_putNumber 10 = .ok (.bipush 10, 2) := by decide +kernel
theorem dX3_putNumber_12 : decode cX3_putNumber 12 = .ok (.idiv, 1) := by decide +kernel
theorem dX3_putNumber_13 : decode cX3_putNumber 13 = .ok (.iadd, 1) := by decide +kernel
theorem dX3_putNumber_14 : decode cX3_putNumber 14 = .ok (.invokevirtual 28, 3) := by decide +kernel
theorem dX3_putNumber_17 : decode cX3_putNumber 17 = .ok (.aload_n 0, 1) := by decide +kernel
theorem dX3_putNumber_18 : decode cX3_putNumber 18 = .ok (.bipush 48, 2) := by decide +kernel
theorem dX3_putNumber_20 : decode cX3_putNumber 20 = .ok (.iload_n 1, 1) := by decide +kernel
theorem dX3_putNumber_21 : decode cX3_putNumber 21 = .ok (.bipush 10, 2) := by decide +kernel
theorem dX3_putNumber_23 : decode cX3_putNumber 23 = .ok (.irem, 1) := by decide +kernel
theorem dX3_putNumber_24 : decode cX3_putNumber 24 = .ok (.iadd, 1) := by decide +kernel
theorem dX3_putNumber_25 : decode cX3_putNumber 25 = .ok (.invokevirtual 28, 3) := by decide +kernel
theorem dX3_putNumber_28 : decode cX3_putNumber 28 = .ok (.return_, 1) := by decide +kernel
theorem dX3_signAt_0 : decode cX3_signAt 0 = .ok (.iload_n 1, 1) := by decide +kernel
theorem dX3_signAt_1 : decode cX3_signAt 1 = .ok (.ifCond .lt 18, 3) := by decide +kernel
theorem dX3_signAt_4 : decode cX3_signAt 4 = .ok (.iload_n 1, 1) := by decide +kernel
theorem dX3_signAt_5 : decode cX3_signAt 5 = .ok (.aload_n 0, 1) := by decide +kernel
theorem dX3_signAt_6 : decode cX3_signAt 6 = .ok (.getfield 9, 3) := by decide +kernel
theorem dX3_signAt_9 : decode cX3_signAt 9 = .ok (.if_icmp .ge 10, 3) := by decide +kernel
theorem dX3_signAt_12 : decode cX3_signAt 12 = .ok (.iload_n 1, 1) := by decide +kernel
theorem dX3_signAt_13 : decode cX3_signAt 13 = .ok (.sipush 160, 3) := by decide +kernel
theorem dX3_signAt_16 : decode cX3_signAt 16 = .ok (.if_icmp .lt 7, 3) := by decide +kernel
theorem dX3_signAt_19 : decode cX3_signAt 19 = .ok (.iconst (-1), 1) := by decide +kernel
theorem dX3_signAt_20 : decode cX3_signAt 20 = .ok (.goto 9, 3) := by decide +kernel
theorem dX3_signAt_23 : decode cX3_signAt 23 = .ok (.aload_n 0, 1) := by decide +kernel
theorem dX3_signAt_24 : decode cX3_signAt 24 = .ok (.getfield 15, 3) := by decide +kernel
theorem dX3_signAt_27 : decode cX3_signAt 27 = .ok (.iload_n 1, 1) := by decide +kernel
theorem dX3_signAt_28 : decode cX3_signAt 28 = .ok (.iaload, 1) := by decide +kernel
theorem dX3_signAt_29 : decode cX3_signAt 29 = .ok (.ireturn, 1) := by decide +kernel
theorem dX4_init_0 : decode cX4_init 0 = .ok (.aload_n 0, 1) := by decide +kernel
theorem dX4_init_1 : decode cX4_init 1 = .ok (.invokespecial 3, 3) := by decide +kernel
theorem dX4_init_4 : decode cX4_init 4 = .ok (.aload_n 0, 1) := by decide +kernel
theorem dX4_init_5 : decode cX4_init 5 = .ok (.iconst 0, 1) := by decide +kernel
theorem dX4_init_6 : decode cX4_init 6 = .ok (.putfield 9, 3) := by decide +kernel
theorem dX4_init_9 : decode cX4_init 9 = .ok (.aload_n 0, 1) := by decide +kernel
theorem dX4_init_10 : decode cX4_init 10 = .ok (.bipush 30, 2) := by decide +kernel
theorem dX4_init_12 : decode cX4_init 12 = .ok (.newarray .int, 2) := by decide +kernel
theorem dX4_init_14 : decode cX4_init 14 = .ok (.putfield 15, 3) := by decide +kernel
theorem dX4_init_17 : decode cX4_init 17 = .ok (.aload_n 0, 1) := by decide +kernel
theorem dX4_init_18 : decode cX4_init 18 = .ok (.bipush 30, 2) := by decide +kernel
theorem dX4_init_20 : decode cX4_init 20 = .ok (.newarray .int, 2) := by decide +kernel
theorem dX4_init_22 : decode cX4_init 22 = .ok (.putfield 19, 3) := by decide +kernel
theorem dX4_init_25 : decode cX4_init 25 = .ok (.return_, 1) := by decide +kernel
theorem dX4_copyFrom_0 : decode cX4_copyFrom 0 = .ok (.aload_n 0, 1) := by decide +kernel
theorem dX4_copyFrom_1 : decode cX4_copyFrom 1 = .ok (.aload_n 1, 1) := by decide +kernel
theorem dX4_copyFrom_2 : decode cX4_copyFrom 2 = .ok (.getfield 9, 3) := by decide +kernel
theorem dX4_copyFrom_5 : decode cX4_copyFrom 5 = .ok (.putfield 9, 3) := by decide +kernel
theorem dX4_copyFrom_8 : decode cX4_copyFrom 8 = .ok (.aload_n 1, 1) := by decide +kernel
theorem dX4_copyFrom_9 : decode cX4_copyFrom 9 = .ok (.getfield 15, 3) := by decide +kernel
theorem dX4_copyFrom_12 : decode cX4_copyFrom 12 = .ok (.iconst 0, 1) := by decide +kernel
theorem dX4_copyFrom_13 : decode cX4_copyFrom 13 = .ok (.aload_n 0, 1) := by decide +kernel
theorem dX4_copyFrom_14 : decode cX4_copyFrom 14 = .ok (.getfield 15, 3) := by decide +kernel
theorem dX4_copyFrom_17 : decode cX4_copyFrom 17 = .ok (.iconst 0, 1) := by decide +kernel
theorem dX4_copyFrom_18 : decode cX4_copyFrom 18 = .ok (.bipush 30, 2) := by decide +kernel
theorem dX4_copyFrom_20 : decode cX4_copyFrom 20 = .ok (.invokestatic 22, 3) := by decide +kernel
theorem dX4_copyFrom_23 : decode cX4_copyFrom 23 = .ok (.aload_n 1, 1) := by decide +kernel
theorem dX4_copyFrom_24 : decode cX4_copyFrom 24 = .ok (.getfield 19, 3) := by decide +kernel
theorem dX4_copyFrom_27 : decode cX4_copyFrom 27 = .ok (.iconst 0, 1) := by decide +kernel
theorem dX4_copyFrom_28 : decode cX4_copyFrom 28 = .ok (.aload_n 0, 1) := by decide +kernel
theorem dX4_copyFrom_29 : decode cX4_copyFrom 29 = .ok (.getfield 19, 3) := by decide +kernel
theorem dX4_copyFrom_32 : decode cX4_copyFrom 32 = .ok (.iconst 0, 1) := by decide +kernel
theorem dX4_copyFrom_33 : decode cX4_copyFrom 33 = .ok (.bipush 30, 2) := by decide +kernel
theorem dX4_copyFrom_35 : decode cX4_copyFrom 35 = .ok (.invokestatic 22, 3) := by decide +kernel
theorem dX4_copyFrom_38 : decode cX4_copyFrom 38 = .ok (.return_, 1) := by decide +kernel
theorem dX4_add_0 : decode cX4_add 0 = .ok (.aload_n 0, 1) := by decide +kernel
theorem dX4_add_1 : decode cX4_add 1 = .ok (.getfield 9, 3) := by decide +kernel
theorem dX4_add_4 : decode cX4_add 4 = .ok (.bipush 30, 2) := by decide +kernel
theorem dX4_add_6 : decode cX4_add 6 = .ok (.if_icmp .lt 5, 3) := by decide +kernel
theorem dX4_add_9 : decode cX4_add 9 = .ok (.iconst (-1), 1) := by decide +kernel
theorem dX4_add_10 : decode cX4_add 10 = .ok (.ireturn, 1) := by decide +kernel
theorem dX4_add_11 : decode cX4_add 11 = .ok (.aload_n 0, 1) := by decide +kernel
theorem dX4_add_12 : decode cX4_add 12 = .ok (.getfield 15, 3) := by decide +kernel
theorem dX4_add_15 : decode cX4_add 15 = .ok (.aload_n 0, 1) := by decide +kernel
theorem dX4_add_16 : decode cX4_add 16 = .ok (.getfield 9, 3) := by decide +kernel
theorem dX4_add_19 : decode cX4_add 19 = .ok (.iload_n 1, 1) := by decide +kernel
theorem dX4_add_20 : decode cX4_add 20 = .ok (.iastore, 1) := by decide +kernel
theorem dX4_add_21 : decode cX4_add 21 = .ok (.aload_n 0, 1) := by decide +kernel
theorem dX4_add_22 : decode cX4_add 22 = .ok (.getfield 19, 3) := by decide +kernel
theorem dX4_add_25 : decode cX4_add 25 = .ok (.aload_n 0, 1) := by decide +kernel
theorem dX4_add_26 : decode cX4_add 26 = .ok (.getfield 9, 3) := by decide +kernel
theorem dX4_add_29 : decode cX4_add 29 = .ok (.iload_n 2, 1) := by decide +kernel
theorem dX4_add_30 : decode cX4_add 30 = .ok (.iastore, 1) := by decide +kernel
theorem dX4_add_31 : decode cX4_add 31 = .ok (.aload_n 0, 1) := by decide +kernel
theorem dX4_add_32 : decode cX4_add 32 = .ok (.dup, 1) := by decide +kernel
theorem dX4_add_33 : decode cX4_add 33 = .ok (.getfield 9, 3) := by decide +kernel
theorem dX4_add_36 : decode cX4_add 36 = .ok (.iconst 1, 1) := by decide +kernel
theorem dX4_add_37 : decode cX4_add 37 = .ok (.iadd, 1) := by decide +kernel
theorem dX4_add_38 : decode cX4_add 38 = .ok (.putfield 9, 3) := by decide +kernel
theorem dX4_add_41 : decode cX4_add 41 = .ok (.aload_n 0, 1) := by decide +kernel
theorem dX4_add_42 : decode cX4_add 42 = .ok (.getfield 9, 3) := by decide +kernel
theorem dX4_add_45 : decode cX4_add 45 = .ok (.iconst 1, 1) := by decide +kernel
theorem dX4_add_46 : decode cX4_add 46 = .ok (.isub, 1) := by decide +kernel
theorem dX4_add_47 : decode cX4_add 47 = .ok (.ireturn, 1) := by decide +kernel
theorem dX4_removeAt_0 : decode cX4_removeAt 0 = .ok (.iload_n 1, 1) := by decide +kernel
theorem dX4_removeAt_1 : decode cX4_removeAt 1 = .ok (.ifCond .lt 11, 3) := by decide +kernel
theorem dX4_removeAt_4 : decode cX4_removeAt 4 = .ok (.iload_n 1, 1) := by decide +kernel
theorem dX4_removeAt_5 : decode cX4_removeAt 5 = .ok (.aload_n 0, 1) := by decide +kernel
theorem dX4_removeAt_6 : decode cX4_removeAt 6 = .ok (.getfield 9, 3) := by decide +kernel
theorem dX4_removeAt_9 : decode cX4_removeAt 9 = .ok (.if_icmp .lt 4, 3) := by decide +kernel
theorem dX4_removeAt_12 : decode cX4_removeAt 12 = .ok (.return_, 1) := by decide +kernel
theorem dX4_removeAt_13 : decode cX4_removeAt 13 = .ok (.iload_n 1, 1) := by decide +kernel
theorem dX4_removeAt_14 : decode cX4_removeAt 14 = .ok (.iconst 1, 1) := by decide +kernel
theorem dX4_removeAt_15 : decode cX4_removeAt 15 = .ok (.iadd, 1) := by decide +kernel
theorem dX4_removeAt_16 : decode cX4_removeAt 16 = .ok (.istore_n 2, 1) := by decide +kernel
theorem dX4_removeAt_17 : decode cX4_removeAt 17 = .ok (.iload_n 2, 1) := by decide +kernel
theorem dX4_removeAt_18 : decode cX4_removeAt 18 = .ok (.aload_n 0, 1) := by decide +kernel
theorem dX4_removeAt_19 : decode cX4_removeAt 19 = .ok (.getfield 9, 3) := by decide +kernel
theorem dX4_removeAt_22 : decode cX4_removeAt 22 = .ok (.if_icmp .ge 37, 3) := by decide +kernel
theorem dX4_removeAt_25 : decode cX4_removeAt 25 = .ok (.aload_n 0, 1) := by decide +kernel
theorem dX4_removeAt_26 : decode cX4_removeAt 26 = .ok (.getfield 15, 3) := by decide +kernel
theorem dX4_removeAt_29 : decode cX4_removeAt 29 = .ok (.iload_n 2, 1) := by decide +kernel
theorem dX4_removeAt_30 : decode cX4_removeAt 30 = .ok (.iconst 1, 1) := by decide +kernel
theorem dX4_removeAt_31 : decode cX4_removeAt 31 = .ok (.isub, 1) := by decide +kernel
theorem dX4_removeAt_32 : decode cX4_removeAt 32 = .ok (.aload_n 0, 1) := by decide +kernel
theorem dX4_removeAt_33 : decode cX4_removeAt 33 = .ok (.getfield 15, 3) := by decide +kernel
theorem dX4_removeAt_36 : decode cX4_removeAt 36 = .ok (.iload_n 2, 1) := by decide +kernel
theorem dX4_removeAt_37 : decode cX4_removeAt 37 = .ok (.iaload, 1) := by decide +kernel
theorem dX4_removeAt_38 : decode cX4_removeAt 38 = .ok (.iastore, 1) := by decide +kernel
theorem dX4_removeAt_39 : decode cX4_removeAt 39 = .ok (.aload_n 0, 1) := by decide +kernel
theorem dX4_removeAt_40 : decode cX4_removeAt 40 = .ok (.getfield 19, 3) := by decide +kernel
theorem dX4_removeAt_43 : decode cX4_removeAt 43 = .ok (.iload_n 2, 1) := by decide +kernel
theorem dX4_removeAt_44 : decode cX4_removeAt 44 = .ok (.iconst 1, 1) := by decide +kernel
theorem dX4_removeAt_45 : decode cX4_removeAt 45 = .ok (.isub, 1) := by decide +kernel
theorem dX4_removeAt_46 : decode cX4_removeAt 46 = .ok (.aload_n 0, 1) := by decide +kernel
theorem dX4_removeAt_47 : decode cX4_removeAt 47 = .ok (.getfield 19, 3) := by decide +kernel
theorem dX4_removeAt_50 : decode cX4_removeAt 50 = .ok (.iload_n 2, 1) := by decide +kernel
theorem dX4_removeAt_51 : decode cX4_removeAt 51 = .ok (.iaload, 1) := by decide +kernel
theorem dX4_removeAt_52 : decode cX4_removeAt 52 = .ok (.iastore, 1) := by decide +kernel
theorem dX4_removeAt_53 : decode cX4_removeAt 53 = .ok (.iinc 2 1, 3) := by decide +kernel
theorem dX4_removeAt_56 : decode cX4_removeAt 56 = .ok (.goto (-39), 3) := by decide +kernel
theorem dX4_removeAt_59 : decode cX4_removeAt 59 = .ok (.aload_n 0, 1) := by decide +kernel
theorem dX4_removeAt_60 : decode cX4_removeAt 60 = .ok (.dup, 1) := by decide +kernel
theorem dX4_removeAt_61 : decode cX4_removeAt 61 = .ok (.getfield 9, 3) := by decide +kernel
theorem dX4_removeAt_64 : decode cX4_removeAt 64 = .ok (.iconst 1, 1) := by decide +kernel
theorem dX4_removeAt_65 : decode cX4_removeAt 65 = .ok (.isub, 1) := by decide +kernel
theorem dX4_removeAt_66 : decode cX4_removeAt 66 = .ok (.putfield 9, 3) := by decide +kernel
theorem dX4_removeAt_69 : decode cX4_removeAt 69 = .ok (.return_, 1) := by decide +kernel
theorem dX4_carrierOfLost_0 : decode cX4_carrierOfLost 0 = .ok (.iload_n 1, 1) := by decide +kernel
theorem dX4_carrierOfLost_1 : decode cX4_carrierOfLost 1 = .ok (.ifCond .lt 11, 3) := by decide +kernel
theorem dX4_carrierOfLost_4 : decode cX4_carrierOfLost 4 = .ok (.iload_n 1, 1) := by decide +kernel
theorem dX4_carrierOfLost_5 : decode cX4_carrierOfLost 5 = .ok (.aload_n 0, 1) := by decide +kernel
theorem dX4_carrierOfLost_6 : decode cX4_carrierOfLost 6 = .ok (.getfield 9, 3) := by decide +kernel
theorem dX4_carrierOfLost_9 : decode cX4_carrierOfLost 9 = .ok (.if_icmp .lt 7, 3) := by decide +kernel
theorem dX4_carrierOfLost_12 : decode cX4_carrierOfLost 12 = .ok (.iconst (-1), 1) := by decide +kernel
theorem dX4_carrierOfLost_13 : decode cX4_carrierOfLost 13 = .ok (.goto 9, 3) := by decide +kernel
theorem dX4_carrierOfLost_16 : decode cX4_carrierOfLost 16 = .ok (.aload_n 0, 1) := by decide +kernel
theorem dX4_carrierOfLost_17 : decode cX4_carrierOfLost 17 = .ok (.getfield 15, 3) := by decide +kernel
theorem dX4_carrierOfLost_20 : decode cX4_carrierOfLost 20 = .ok (.iload_n 1, 1) := by decide +kernel
theorem dX4_carrierOfLost_21 : decode cX4_carrierOfLost 21 = .ok (.iaload, 1) := by decide +kernel
theorem dX4_carrierOfLost_22 : decode cX4_carrierOfLost 22 = .ok (.ireturn, 1) := by decide +kernel
theorem dX4_hourOfLost_0 : decode cX4_hourOfLost 0 = .ok (.iload_n 1, 1) := by decide +kernel
theorem dX4_hourOfLost_1 : decode cX4_hourOfLost 1 = .ok (.ifCond .lt 11, 3) := by decide +kernel
theorem dX4_hourOfLost_4 : decode cX4_hourOfLost 4 = .ok (.iload_n 1, 1) := by decide +kernel
theorem dX4_hourOfLost_5 : decode cX4_hourOfLost 5 = .ok (.aload_n 0, 1) := by decide +kernel
theorem dX4_hourOfLost_6 : decode cX4_hourOfLost 6 = .ok (.getfield 9, 3) := by decide +kernel
theorem dX4_hourOfLost_9 : decode cX4_hourOfLost 9 = .ok (.if_icmp .lt 7, 3) := by decide +kernel
theorem dX4_hourOfLost_12 : decode cX4_hourOfLost 12 = .ok (.iconst (-1), 1) := by decide +kernel
theorem dX4_hourOfLost_13 : decode cX4_hourOfLost 13 = .ok (.goto 9, 3) := by decide +kernel
theorem dX4_hourOfLost_16 : decode cX4_hourOfLost 16 = .ok (.aload_n 0, 1) := by decide +kernel
theorem dX4_hourOfLost_17 : decode cX4_hourOfLost 17 = .ok (.getfield 19, 3) := by decide +kernel
theorem dX4_hourOfLost_20 : decode cX4_hourOfLost 20 = .ok (.iload_n 1, 1) := by decide +kernel
theorem dX4_hourOfLost_21 : decode cX4_hourOfLost 21 = .ok (.iaload, 1) := by decide +kernel
theorem dX4_hourOfLost_22 : decode cX4_hourOfLost 22 = .ok (.ireturn, 1) := by decide +kernel
theorem dX5_init_0 : decode cX5_init 0 = .ok (.aload_n 0, 1) := by decide +kernel
theorem dX5_init_1 : decode cX5_init 1 = .ok (.invokespecial 3, 3) := by decide +kernel
theorem dX5_init_4 : decode cX5_init 4 = .ok (.aload_n 0, 1) := by decide +kernel
theorem dX5_init_5 : decode cX5_init 5 = .ok (.new 9, 3) := by decide +kernel
theorem dX5_init_8 : decode cX5_init 8 = .ok (.dup, 1) := by decide +kernel
theorem dX5_init_9 : decode cX5_init 9 = .ok (.invokespecial 11, 3) := by decide +kernel
theorem dX5_init_12 : decode cX5_init 12 = .ok (.putfield 12, 3) := by decide +kernel
theorem dX5_init_15 : decode cX5_init 15 = .ok (.aload_n 0, 1) := by decide +kernel
theorem dX5_init_16 : decode cX5_init 16 = .ok (.new 18, 3) := by decide +kernel
theorem dX5_init_19 : decode cX5_init 19 = .ok (.dup, 1) := by decide +kernel
theorem dX5_init_20 : decode cX5_init 20 = .ok (.invokespecial 20, 3) := by decide +kernel
theorem dX5_init_23 : decode cX5_init 23 = .ok (.putfield 21, 3) := by decide +kernel
theorem dX5_init_26 : decode cX5_init 26 = .ok (.aload_n 0, 1) := by decide +kernel
theorem dX5_init_27 : decode cX5_init 27 = .ok (.iconst (-1), 1) := by decide +kernel
theorem dX5_init_28 : decode cX5_init 28 = .ok (.putfield 25, 3) := by decide +kernel
theorem dX5_init_31 : decode cX5_init 31 = .ok (.aload_n 0, 1) := by decide +kernel
theorem dX5_init_32 : decode cX5_init 32 = .ok (.iconst 0, 1) := by decide +kernel
theorem dX5_init_33 : decode cX5_init 33 = .ok (.putfield 29, 3) := by decide +kernel
theorem dX5_init_36 : decode cX5_init 36 = .ok (.aload_n 0, 1) := by decide +kernel
theorem dX5_init_37 : decode cX5_init 37 = .ok (.iconst 0, 1) := by decide +kernel
theorem dX5_init_38 : decode cX5_init 38 = .ok (.newarray .int, 2) := by decide +kernel
theorem dX5_init_40 : decode cX5_init 40 = .ok (.putfield 32, 3) := by decide +kernel
theorem dX5_init_43 : decode cX5_init 43 = .ok (.aload_n 0, 1) := by decide +kernel
theorem dX5_init_44 : decode cX5_init 44 = .ok (.iconst 0, 1) := by decide +kernel
theorem dX5_init_45 : decode cX5_init 45 = .ok (.putfield 36, 3) := by decide +kernel
theorem dX5_init_48 : decode cX5_init 48 = .ok (.aload_n 0, 1) := by decide +kernel
theorem dX5_init_49 : decode cX5_init 49 = .ok (.iconst 0, 1) := by decide +kernel
theorem dX5_init_50 : decode cX5_init 50 = .ok (.putfield 39, 3) := by decide +kernel
theorem dX5_init_53 : decode cX5_init 53 = .ok (.aload_n 0, 1) := by decide +kernel
theorem dX5_init_54 : decode cX5_init 54 = .ok (.iconst 0, 1) := by decide +kernel
theorem dX5_init_55 : decode cX5_init 55 = .ok (.putfield 42, 3) := by decide +kernel
theorem dX5_init_58 : decode cX5_init 58 = .ok (.aload_n 0, 1) := by decide +kernel
theorem dX5_init_59 : decode cX5_init 59 = .ok (.iconst 0, 1) := by decide +kernel
theorem dX5_init_60 : decode cX5_init 60 = .ok (.putfield 45, 3) := by decide +kernel
theorem dX5_init_63 : decode cX5_init 63 = .ok (.return_, 1) := by decide +kernel
theorem dX5_nameIn_0 : decode cX5_nameIn 0 = .ok (.aload_n 0, 1) := by decide +kernel
theorem dX5_nameIn_1 : decode cX5_nameIn 1 = .ok (.ifnull 28, 3) := by decide +kernel
theorem dX5_nameIn_4 : decode cX5_nameIn 4 = .ok (.iload_n 1, 1) := by decide +kernel
theorem dX5_nameIn_5 : decode cX5_nameIn 5 = .ok (.ifCond .lt 24, 3) := by decide +kernel
theorem dX5_nameIn_8 : decode cX5_nameIn 8 = .ok (.iload_n 2, 1) := by decide +kernel
theorem dX5_nameIn_9 : decode cX5_nameIn 9 = .ok (.aload_n 0, 1) := by decide +kernel
theorem dX5_nameIn_10 : decode cX5_nameIn 10 = .ok (.arraylength, 1) := by decide +kernel
theorem dX5_nameIn_11 : decode cX5_nameIn 11 = .ok (.if_icmp .gt 18, 3) := by decide +kernel
theorem dX5_nameIn_14 : decode cX5_nameIn 14 = .ok (.iload_n 2, 1) := by decide +kernel
theorem dX5_nameIn_15 : decode cX5_nameIn 15 = .ok (.iload_n 1, 1) := by decide +kernel
theorem dX5_nameIn_16 : decode cX5_nameIn 16 = .ok (.isub, 1) := by decide +kernel
theorem dX5_nameIn_17 : decode cX5_nameIn 17 = .ok (.iconst 1, 1) := by decide +kernel
theorem dX5_nameIn_18 : decode cX5_nameIn 18 = .ok (.if_icmp .lt 11, 3) := by decide +kernel
theorem dX5_nameIn_21 : decode cX5_nameIn 21 = .ok (.iload_n 2, 1) := by decide +kernel
theorem dX5_nameIn_22 : decode cX5_nameIn 22 = .ok (.iload_n 1, 1) := by decide +kernel
theorem dX5_nameIn_23 : decode cX5_nameIn 23 = .ok (.isub, 1) := by decide +kernel
theorem dX5_nameIn_24 : decode cX5_nameIn 24 = .ok (.bipush 6, 2) := by decide +kernel
theorem dX5_nameIn_26 : decode cX5_nameIn 26 = .ok (.if_icmp .le 5, 3) := by decide +kernel
theorem dX5_nameIn_29 : decode cX5_nameIn 29 = .ok (.iconst 0, 1) := by decide +kernel
theorem dX5_nameIn_30 : decode cX5_nameIn 30 = .ok (.ireturn, 1) := by decide +kernel
theorem dX5_nameIn_31 : decode cX5_nameIn 31 = .ok (.iconst 0, 1) := by decide +kernel
theorem dX5_nameIn_32 : decode cX5_nameIn 32 = .ok (.istore_n 3, 1) := by decide +kernel
theorem dX5_nameIn_33 : decode cX5_nameIn 33 = .ok (.iload_n 1, 1) := by decide +kernel
theorem dX5_nameIn_34 : decode cX5_nameIn 34 = .ok (.istore 4, 2) := by decide +kernel
theorem dX5_nameIn_36 : decode cX5_nameIn 36 = .ok (.iload 4, 2) := by decide +kernel
theorem dX5_nameIn_38 : decode cX5_nameIn 38 = .ok (.iload_n 2, 1) := by decide +kernel
theorem dX5_nameIn_39 : decode cX5_nameIn 39 = .ok (.if_icmp .ge 43, 3) := by decide +kernel
theorem dX5_nameIn_42 : decode cX5_nameIn 42 = .ok (.aload_n 0, 1) := by decide +kernel
theorem dX5_nameIn_43 : decode cX5_nameIn 43 = .ok (.iload 4, 2) := by decide +kernel
theorem dX5_nameIn_45 : decode cX5_nameIn 45 = .ok (.iaload, 1) := by decide +kernel
theorem dX5_nameIn_46 : decode cX5_nameIn 46 = .ok (.bipush 97, 2) := by decide +kernel
theorem dX5_nameIn_48 : decode cX5_nameIn 48 = .ok (.if_icmp .lt 12, 3) := by decide +kernel
theorem dX5_nameIn_51 : decode cX5_nameIn 51 = .ok (.aload_n 0, 1) := by decide +kernel
theorem dX5_nameIn_52 : decode cX5_nameIn 52 = .ok (.iload 4, 2) := by decide +kernel
theorem dX5_nameIn_54 : decode cX5_nameIn 54 = .ok (.iaload, 1) := by decide +kernel
theorem dX5_nameIn_55 : decode cX5_nameIn 55 = .ok (.bipush 122, 2) := by decide +kernel
theorem dX5_nameIn_57 : decode cX5_nameIn 57 = .ok (.if_icmp .le 5, 3) := by decide +kernel
theorem dX5_nameIn_60 : decode cX5_nameIn 60 = .ok (.iconst 0, 1) := by decide +kernel
theorem dX5_nameIn_61 : decode cX5_nameIn 61 = .ok (.ireturn, 1) := by decide +kernel
theorem dX5_nameIn_62 : decode cX5_nameIn 62 = .ok (.iload_n 3, 1) := by decide +kernel
theorem dX5_nameIn_63 : decode cX5_nameIn 63 = .ok (.iconst 5, 1) := by decide +kernel
theorem dX5_nameIn_64 : decode cX5_nameIn 64 = .ok (.ishl, 1) := by decide +kernel
theorem dX5_nameIn_65 : decode cX5_nameIn 65 = .ok (.aload_n 0, 1) := by decide +kernel
theorem dX5_nameIn_66 : decode cX5_nameIn 66 = .ok (.iload 4, 2) := by decide +kernel
theorem dX5_nameIn_68 : decode cX5_nameIn 68 = .ok (.iaload, 1) := by decide +kernel
theorem dX5_nameIn_69 : decode cX5_nameIn 69 = .ok (.bipush 97, 2) := by decide +kernel
theorem dX5_nameIn_71 : decode cX5_nameIn 71 = .ok (.isub, 1) := by decide +kernel
theorem dX5_nameIn_72 : decode cX5_nameIn 72 = .ok (.iconst 1, 1) := by decide +kernel
theorem dX5_nameIn_73 : decode cX5_nameIn 73 = .ok (.iadd, 1) := by decide +kernel
theorem dX5_nameIn_74 : decode cX5_nameIn 74 = .ok (.ior, 1) := by decide +kernel
theorem dX5_nameIn_75 : decode cX5_nameIn 75 = .ok (.istore_n 3, 1) := by decide +kernel
theorem dX5_nameIn_76 : decode cX5_nameIn 76 = .ok (.iinc 4 1, 3) := by decide +kernel
theorem dX5_nameIn_79 : decode cX5_nameIn 79 = .ok (.goto (-43), 3) := by decide +kernel
theorem dX5_nameIn_82 : decode cX5_nameIn 82 = .ok (.iload_n 3, 1) := by decide +kernel
theorem dX5_nameIn_83 : decode cX5_nameIn 83 = .ok (.ireturn, 1) := by decide +kernel
theorem dX5_parse_0 : decode cX5_parse 0 = .ok (.aload_n 0, 1) := by decide +kernel
theorem dX5_parse_1 : decode cX5_parse 1 = .ok (.aload_n 1, 1) := by decide +kernel
theorem dX5_parse_2 : decode cX5_parse 2 = .ok (.iload_n 2, 1) := by decide +kernel
theorem dX5_parse_3 : decode cX5_parse 3 = .ok (.invokevirtual 48, 3) := by decide +kernel
theorem dX5_parse_6 : decode cX5_parse 6 = .ok (.iconst 0, 1) := by decide +kernel
theorem dX5_parse_7 : decode cX5_parse 7 = .ok (.istore_n 3, 1) := by decide +kernel
theorem dX5_parse_8 : decode cX5_parse 8 = .ok (.iload_n 3, 1) := by decide +kernel
theorem dX5_parse_9 : decode cX5_parse 9 = .ok (.aload_n 0, 1) := by decide +kernel
theorem dX5_parse_10 : decode cX5_parse 10 = .ok (.getfield 36, 3) := by decide +kernel
theorem dX5_parse_13 : decode cX5_parse 13 = .ok (.if_icmp .gt 176, 3) := by decide +kernel
theorem dX5_parse_16 : decode cX5_parse 16 = .ok (.aload_n 0, 1) := by decide +kernel
theorem dX5_parse_17 : decode cX5_parse 17 = .ok (.invokevirtual 52, 3) := by decide +kernel
theorem dX5_parse_20 : decode cX5_parse 20 = .ok (.aload_n 0, 1) := by decide +kernel
theorem dX5_parse_21 : decode cX5_parse 21 = .ok (.getfield 42, 3) := by decide +kernel
theorem dX5_parse_24 : decode cX5_parse 24 = .ok (.aload_n 0, 1) := by decide +kernel
theorem dX5_parse_25 : decode cX5_parse 25 = .ok (.getfield 36, 3) := by decide +kernel
theorem dX5_parse_28 : decode cX5_parse 28 = .ok (.if_icmp .lt 5, 3) := by decide +kernel
theorem dX5_parse_31 : decode cX5_parse 31 = .ok (.iconst 1, 1) := by decide +kernel
theorem dX5_parse_32 : decode cX5_parse 32 = .ok (.ireturn, 1) := by decide +kernel
theorem dX5_parse_33 : decode cX5_parse 33 = .ok (.aload_n 0, 1) := by decide +kernel
theorem dX5_parse_34 : decode cX5_parse 34 = .ok (.ldc 55, 2) := by decide +kernel
theorem dX5_parse_36 : decode cX5_parse 36 = .ok (.invokevirtual 57, 3) := by decide +kernel
theorem dX5_parse_39 : decode cX5_parse 39 = .ok (.ifCond .eq 13, 3) := by decide +kernel
theorem dX5_parse_42 : decode cX5_parse 42 = .ok (.aload_n 0, 1) := by decide +kernel
theorem dX5_parse_43 : decode cX5_parse 43 = .ok (.iconst 1, 1) := by decide +kernel
theorem dX5_parse_44 : decode cX5_parse 44 = .ok (.invokevirtual 61, 3) := by decide +kernel
theorem dX5_parse_47 : decode cX5_parse 47 = .ok (.istore 4, 2) := by decide +kernel
theorem dX5_parse_49 : decode cX5_parse 49 = .ok (.goto 120, 3) := by decide +kernel
theorem dX5_parse_52 : decode cX5_parse 52 = .ok (.aload_n 0, 1) := by decide +kernel
theorem dX5_parse_53 : decode cX5_parse 53 = .ok (.ldc 65, 2) := by decide +kernel
theorem dX5_parse_55 : decode cX5_parse 55 = .ok (.invokevirtual 57, 3) := by decide +kernel
theorem dX5_parse_58 : decode cX5_parse 58 = .ok (.ifCond .eq 13, 3) := by decide +kernel
theorem dX5_parse_61 : decode cX5_parse 61 = .ok (.aload_n 0, 1) := by decide +kernel
theorem dX5_parse_62 : decode cX5_parse 62 = .ok (.iconst 0, 1) := by decide +kernel
theorem dX5_parse_63 : decode cX5_parse 63 = .ok (.invokevirtual 61, 3) := by decide +kernel
theorem dX5_parse_66 : decode cX5_parse 66 = .ok (.istore 4, 2) := by decide +kernel
theorem dX5_parse_68 : decode cX5_parse 68 = .ok (.goto 101, 3) := by decide +kernel
theorem dX5_parse_71 : decode cX5_parse 71 = .ok (.aload_n 0, 1) := by decide +kernel
theorem dX5_parse_72 : decode cX5_parse 72 = .ok (.ldc 67, 2) := by decide +kernel
theorem dX5_parse_74 : decode cX5_parse 74 = .ok (.invokevirtual 57, 3) := by decide +kernel
theorem dX5_parse_77 : decode cX5_parse 77 = .ok (.ifCond .eq 12, 3) := by decide +kernel
theorem dX5_parse_80 : decode cX5_parse 80 = .ok (.aload_n 0, 1) := by decide +kernel
theorem dX5_parse_81 : decode cX5_parse 81 = .ok (.invokevirtual 69, 3) := by decide +kernel
theorem dX5_parse_84 : decode cX5_parse 84 = .ok (.istore 4, 2) := by decide +kernel
theorem dX5_parse_86 : decode cX5_parse 86 = .ok (.goto 83, 3) := by decide +kernel
theorem dX5_parse_89 : decode cX5_parse 89 = .ok (.aload_n 0, 1) := by decide +kernel
theorem dX5_parse_90 : decode cX5_parse 90 = .ok (.ldc 73, 2) := by decide +kernel
theorem dX5_parse_92 : decode cX5_parse 92 = .ok (.invokevirtual 57, 3) := by decide +kernel
theorem dX5_parse_95 : decode cX5_parse 95 = .ok (.ifCond .eq 27, 3) := by decide +kernel
theorem dX5_parse_98 : decode cX5_parse 98 = .ok (.aload_n 0, 1) := by decide +kernel
theorem dX5_parse_99 : decode cX5_parse 99 = .ok (.invokevirtual 75, 3) := by decide +kernel
theorem dX5_parse_102 : decode cX5_parse 102 = .ok (.ifCond .eq 14, 3) := by decide +kernel
theorem dX5_parse_105 : decode cX5_parse 105 = .ok (.aload_n 0, 1) := by decide +kernel
theorem dX5_parse_106 : decode cX5_parse 106 = .ok (.invokevirtual 78, 3) := by decide +kernel
theorem dX5_parse_109 : decode cX5_parse 109 = .ok (.ifCond .eq 7, 3) := by decide +kernel
theorem dX5_parse_112 : decode cX5_parse 112 = .ok (.iconst 1, 1) := by decide +kernel
theorem dX5_parse_113 : decode cX5_parse 113 = .ok (.goto 4, 3) := by decide +kernel
theorem dX5_parse_116 : decode cX5_parse 116 = .ok (.iconst 0, 1) := by decide +kernel
theorem dX5_parse_117 : decode cX5_parse 117 = .ok (.istore 4, 2) := by decide +kernel
theorem dX5_parse_119 : decode cX5_parse 119 = .ok (.goto 50, 3) := by decide +kernel
theorem dX5_parse_122 : decode cX5_parse 122 = .ok (.aload_n 0, 1) := by decide +kernel
theorem dX5_parse_123 : decode cX5_parse 123 = .ok (.ldc 81, 2) := by decide +kernel
theorem dX5_parse_125 : decode cX5_parse 125 = .ok (.invokevirtual 57, 3) := by decide +kernel
theorem dX5_parse_128 : decode cX5_parse 128 = .ok (.ifCond .eq 12, 3) := by decide +kernel
theorem dX5_parse_131 : decode cX5_parse 131 = .ok (.aload_n 0, 1) := by decide +kernel
theorem dX5_parse_132 : decode cX5_parse 132 = .ok (.invokevirtual 83, 3) := by decide +kernel
theorem dX5_parse_135 : decode cX5_parse 135 = .ok (.istore 4, 2) := by decide +kernel
theorem dX5_parse_137 : decode cX5_parse 137 = .ok (.goto 32, 3) := by decide +kernel
theorem dX5_parse_140 : decode cX5_parse 140 = .ok (.aload_n 0, 1) := by decide +kernel
theorem dX5_parse_141 : decode cX5_parse 141 = .ok (.ldc 86, 2) := by decide +kernel
theorem dX5_parse_143 : decode cX5_parse 143 = .ok (.invokevirtual 57, 3) := by decide +kernel
theorem dX5_parse_146 : decode cX5_parse 146 = .ok (.ifCond .eq 12, 3) := by decide +kernel
theorem dX5_parse_149 : decode cX5_parse 149 = .ok (.aload_n 0, 1) := by decide +kernel
theorem dX5_parse_150 : decode cX5_parse 150 = .ok (.invokevirtual 88, 3) := by decide +kernel
theorem dX5_parse_153 : decode cX5_parse 153 = .ok (.istore 4, 2) := by decide +kernel
theorem dX5_parse_155 : decode cX5_parse 155 = .ok (.goto 14, 3) := by decide +kernel
theorem dX5_parse_158 : decode cX5_parse 158 = .ok (.aload_n 0, 1) := by decide +kernel
theorem dX5_parse_159 : decode cX5_parse 159 = .ok (.iconst 1, 1) := by decide +kernel
theorem dX5_parse_160 : decode cX5_parse 160 = .ok (.aload_n 0, 1) := by decide +kernel
theorem dX5_parse_161 : decode cX5_parse 161 = .ok (.getfield 42, 3) := by decide +kernel
theorem dX5_parse_164 : decode cX5_parse 164 = .ok (.invokevirtual 91, 3) := by decide +kernel
theorem dX5_parse_167 : decode cX5_parse 167 = .ok (.istore 4, 2) := by decide +kernel
theorem dX5_parse_169 : decode cX5_parse 169 = .ok (.iload 4, 2) := by decide +kernel
theorem dX5_parse_171 : decode cX5_parse 171 = .ok (.ifCond .eq 10, 3) := by decide +kernel
theorem dX5_parse_174 : decode cX5_parse 174 = .ok (.aload_n 0, 1) := by decide +kernel
theorem dX5_parse_175 : decode cX5_parse 175 = .ok (.invokevirtual 95, 3) := by decide +kernel
theorem dX5_parse_178 : decode cX5_parse 178 = .ok (.ifCond .ne 5, 3) := by decide +kernel
theorem dX5_parse_181 : decode cX5_parse 181 = .ok (.iconst 0, 1) := by decide +kernel
theorem dX5_parse_182 : decode cX5_parse 182 = .ok (.ireturn, 1) := by decide +kernel
theorem dX5_parse_183 : decode cX5_parse 183 = .ok (.iinc 3 1, 3) := by decide +kernel
theorem dX5_parse_186 : decode cX5_parse 186 = .ok (.goto (-178), 3) := by decide +kernel
theorem dX5_parse_189 : decode cX5_parse 189 = .ok (.iconst 1, 1) := by decide +kernel
theorem dX5_parse_190 : decode cX5_parse 190 = .ok (.ireturn, 1) := by decide +kernel
theorem dX5_begin_0 : decode cX5_begin 0 = .ok (.aload_n 0, 1) := by decide +kernel
theorem dX5_begin_1 : decode cX5_begin 1 = .ok (.getfield 12, 3) := by decide +kernel
theorem dX5_begin_4 : decode cX5_begin 4 = .ok (.invokevirtual 98, 3) := by decide +kernel
theorem dX5_begin_7 : decode cX5_begin 7 = .ok (.aload_n 0, 1) := by decide +kernel
theorem dX5_begin_8 : decode cX5_begin 8 = .ok (.getfield 21, 3) := by decide +kernel
theorem dX5_begin_11 : decode cX5_begin 11 = .ok (.invokevirtual 101, 3) := by decide +kernel
theorem dX5_begin_14 : decode cX5_begin 14 = .ok (.aload_n 0, 1) := by decide +kernel
theorem dX5_begin_15 : decode cX5_begin 15 = .ok (.iconst (-1), 1) := by decide +kernel
theorem dX5_begin_16 : decode cX5_begin 16 = .ok (.putfield 25, 3) := by decide +kernel
theorem dX5_begin_19 : decode cX5_begin 19 = .ok (.aload_n 0, 1) := by decide +kernel
theorem dX5_begin_20 : decode cX5_begin 20 = .ok (.iconst 0, 1) := by decide +kernel
theorem dX5_begin_21 : decode cX5_begin 21 = .ok (.putfield 29, 3) := by decide +kernel
theorem dX5_begin_24 : decode cX5_begin 24 = .ok (.aload_n 1, 1) := by decide +kernel
theorem dX5_begin_25 : decode cX5_begin 25 = .ok (.ifnull 8, 3) := by decide +kernel
theorem dX5_begin_28 : decode cX5_begin 28 = .ok (.aload_n 0, 1) := by decide +kernel
theorem dX5_begin_29 : decode cX5_begin 29 = .ok (.aload_n 1, 1) := by decide +kernel
theorem dX5_begin_30 : decode cX5_begin 30 = .ok (.putfield 32, 3) := by decide +kernel
theorem dX5_begin_33 : decode cX5_begin 33 = .ok (.aload_n 0, 1) := by decide +kernel
theorem dX5_begin_34 : decode cX5_begin 34 = .ok (.iconst 0, 1) := by decide +kernel
theorem dX5_begin_35 : decode cX5_begin 35 = .ok (.iload_n 2, 1) := by decide +kernel
theorem dX5_begin_36 : decode cX5_begin 36 = .ok (.aload_n 0, 1) := by decide +kernel
theorem dX5_begin_37 : decode cX5_begin 37 = .ok (.getfield 32, 3) := by decide +kernel
theorem dX5_begin_40 : decode cX5_begin 40 = .ok (.arraylength, 1) := by decide +kernel
theorem dX5_begin_41 : decode cX5_begin 41 = .ok (.invokestatic 102, 3) := by decide +kernel
theorem dX5_begin_44 : decode cX5_begin 44 = .ok (.invokestatic 108, 3) := by decide +kernel
theorem dX5_begin_47 : decode cX5_begin 47 = .ok (.putfield 36, 3) := by decide +kernel
theorem dX5_begin_50 : decode cX5_begin 50 = .ok (.aload_n 0, 1) := by decide +kernel
theorem dX5_begin_51 : decode cX5_begin 51 = .ok (.iconst 0, 1) := by decide +kernel
theorem dX5_begin_52 : decode cX5_begin 52 = .ok (.putfield 39, 3) := by decide +kernel
theorem dX5_begin_55 : decode cX5_begin 55 = .ok (.return_, 1) := by decide +kernel
theorem dX5_fail_0 : decode cX5_fail 0 = .ok (.aload_n 0, 1) := by decide +kernel
theorem dX5_fail_1 : decode cX5_fail 1 = .ok (.iload_n 1, 1) := by decide +kernel
theorem dX5_fail_2 : decode cX5_fail 2 = .ok (.putfield 29, 3) := by decide +kernel
theorem dX5_fail_5 : decode cX5_fail 5 = .ok (.aload_n 0, 1) := by decide +kernel
theorem dX5_fail_6 : decode cX5_fail 6 = .ok (.iload_n 2, 1) := by decide +kernel
theorem dX5_fail_7 : decode cX5_fail 7 = .ok (.putfield 25, 3) := by decide +kernel
theorem dX5_fail_10 : decode cX5_fail 10 = .ok (.iconst 0, 1) := by decide +kernel
theorem dX5_fail_11 : decode cX5_fail 11 = .ok (.ireturn, 1) := by decide +kernel
theorem dX5_readPlace_0 : decode cX5_readPlace 0 = .ok (.aload_n 0, 1) := by decide +kernel
theorem dX5_readPlace_1 : decode cX5_readPlace 1 = .ok (.getfield 12, 3) := by decide +kernel
theorem dX5_readPlace_4 : decode cX5_readPlace 4 = .ok (.getfield 111, 3) := by decide +kernel
theorem dX5_readPlace_7 : decode cX5_readPlace 7 = .ok (.bipush 10, 2) := by decide +kernel
theorem dX5_readPlace_9 : decode cX5_readPlace 9 = .ok (.if_icmp .lt 13, 3) := by decide +kernel
theorem dX5_readPlace_12 : decode cX5_readPlace 12 = .ok (.aload_n 0, 1) := by decide +kernel
theorem dX5_readPlace_13 : decode cX5_readPlace 13 = .ok (.iconst 4, 1) := by decide +kernel
theorem dX5_readPlace_14 : decode cX5_readPlace 14 = .ok (.aload_n 0, 1) := by decide +kernel
theorem dX5_readPlace_15 : decode cX5_readPlace 15 = .ok (.getfield 42, 3) := by decide +kernel
theorem dX5_readPlace_18 : decode cX5_readPlace 18 = .ok (.invokevirtual 91, 3) := by decide +kernel
theorem dX5_readPlace_21 : decode cX5_readPlace 21 = .ok (.ireturn, 1) := by decide +kernel
theorem dX5_readPlace_22 : decode cX5_readPlace 22 = .ok (.aload_n 0, 1) := by decide +kernel
theorem dX5_readPlace_23 : decode cX5_readPlace 23 = .ok (.invokevirtual 114, 3) := by decide +kernel
theorem dX5_readPlace_26 : decode cX5_readPlace 26 = .ok (.istore_n 2, 1) := by decide +kernel
theorem dX5_readPlace_27 : decode cX5_readPlace 27 = .ok (.iload_n 2, 1) := by decide +kernel
theorem dX5_readPlace_28 : decode cX5_readPlace 28 = .ok (.ifCond .ne 13, 3) := by decide +kernel
theorem dX5_readPlace_31 : decode cX5_readPlace 31 = .ok (.aload_n 0, 1) := by decide +kernel
theorem dX5_readPlace_32 : decode cX5_readPlace 32 = .ok (.iconst 1, 1) := by decide +kernel
theorem dX5_readPlace_33 : decode cX5_readPlace 33 = .ok (.aload_n 0, 1) := by decide +kernel
theorem dX5_readPlace_34 : decode cX5_readPlace 34 = .ok (.getfield 42, 3) := by decide +kernel
theorem dX5_readPlace_37 : decode cX5_readPlace 37 = .ok (.invokevirtual 91, 3) := by decide +kernel
theorem dX5_readPlace_40 : decode cX5_readPlace 40 = .ok (.ireturn, 1) := by decide +kernel
theorem dX5_readPlace_41 : decode cX5_readPlace 41 = .ok (.aload_n 0, 1) := by decide +kernel
theorem dX5_readPlace_42 : decode cX5_readPlace 42 = .ok (.getfield 12, 3) := by decide +kernel
theorem dX5_readPlace_45 : decode cX5_readPlace 45 = .ok (.iload_n 2, 1) := by decide +kernel
theorem dX5_readPlace_46 : decode cX5_readPlace 46 = .ok (.invokevirtual 118, 3) := by decide +kernel
theorem dX5_readPlace_49 : decode cX5_readPlace 49 = .ok (.iconst (-1), 1) := by decide +kernel
theorem dX5_readPlace_50 : decode cX5_readPlace 50 = .ok (.if_icmp .eq 13, 3) := by decide +kernel
theorem dX5_readPlace_53 : decode cX5_readPlace 53 = .ok (.aload_n 0, 1) := by decide +kernel
theorem dX5_readPlace_54 : decode cX5_readPlace 54 = .ok (.iconst 3, 1) := by decide +kernel
theorem dX5_readPlace_55 : decode cX5_readPlace 55 = .ok (.aload_n 0, 1) := by decide +kernel
theorem dX5_readPlace_56 : decode cX5_readPlace 56 = .ok (.getfield 42, 3) := by decide +kernel
theorem dX5_readPlace_59 : decode cX5_readPlace 59 = .ok (.invokevirtual 91, 3) := by decide +kernel
theorem dX5_readPlace_62 : decode cX5_readPlace 62 = .ok (.ireturn, 1) := by decide +kernel
theorem dX5_readPlace_63 : decode cX5_readPlace 63 = .ok (.aload_n 0, 1) := by decide +kernel
theorem dX5_readPlace_64 : decode cX5_readPlace 64 = .ok (.getfield 12, 3) := by decide +kernel
theorem dX5_readPlace_67 : decode cX5_readPlace 67 = .ok (.iload_n 2, 1) := by decide +kernel
theorem dX5_readPlace_68 : decode cX5_readPlace 68 = .ok (.iload_n 1, 1) := by decide +kernel
theorem dX5_readPlace_69 : decode cX5_readPlace 69 = .ok (.invokevirtual 122, 3) := by decide +kernel
theorem dX5_readPlace_72 : decode cX5_readPlace 72 = .ok (.iconst 1, 1) := by decide +kernel
theorem dX5_readPlace_73 : decode cX5_readPlace 73 = .ok (.ireturn, 1) := by decide +kernel
theorem dX5_readCarrier_0 : decode cX5_readCarrier 0 = .ok (.aload_n 0, 1) := by decide +kernel
theorem dX5_readCarrier_1 : decode cX5_readCarrier 1 = .ok (.getfield 12, 3) := by decide +kernel
theorem dX5_readCarrier_4 : decode cX5_readCarrier 4 = .ok (.getfield 126, 3) := by decide +kernel
theorem dX5_readCarrier_7 : decode cX5_readCarrier 7 = .ok (.iconst 5, 1) := by decide +kernel
theorem dX5_readCarrier_8 : decode cX5_readCarrier 8 = .ok (.if_icmp .lt 13, 3) := by decide +kernel
theorem dX5_readCarrier_11 : decode cX5_readCarrier 11 = .ok (.aload_n 0, 1) := by decide +kernel
theorem dX5_readCarrier_12 : decode cX5_readCarrier 12 = .ok (.iconst 4, 1) := by decide +kernel
theorem dX5_readCarrier_13 : decode cX5_readCarrier 13 = .ok (.aload_n 0, 1) := by decide +kernel
theorem dX5_readCarrier_14 : decode cX5_readCarrier 14 = .ok (.getfield 42, 3) := by decide +kernel
theorem dX5_readCarrier_17 : decode cX5_readCarrier 17 = .ok (.invokevirtual 91, 3) := by decide +kernel
theorem dX5_readCarrier_20 : decode cX5_readCarrier 20 = .ok (.ireturn, 1) := by decide +kernel
theorem dX5_readCarrier_21 : decode cX5_readCarrier 21 = .ok (.aload_n 0, 1) := by decide +kernel
theorem dX5_readCarrier_22 : decode cX5_readCarrier 22 = .ok (.invokevirtual 114, 3) := by decide +kernel
theorem dX5_readCarrier_25 : decode cX5_readCarrier 25 = .ok (.istore_n 1, 1) := by decide +kernel
theorem dX5_readCarrier_26 : decode cX5_readCarrier 26 = .ok (.iload_n 1, 1) := by decide +kernel
theorem dX5_readCarrier_27 : decode cX5_readCarrier 27 = .ok (.ifCond .ne 13, 3) := by decide +kernel
theorem dX5_readCarrier_30 : decode cX5_readCarrier 30 = .ok (.aload_n 0, 1) := by decide +kernel
theorem dX5_readCarrier_31 : decode cX5_readCarrier 31 = .ok (.iconst 1, 1) := by decide +kernel
theorem dX5_readCarrier_32 : decode cX5_readCarrier 32 = .ok (.aload_n 0, 1) := by decide +kernel
theorem dX5_readCarrier_33 : decode cX5_readCarrier 33 = .ok (.getfield 42, 3) := by decide +kernel
theorem dX5_readCarrier_36 : decode cX5_readCarrier 36 = .ok (.invokevirtual 91, 3) := by decide +kernel
theorem dX5_readCarrier_39 : decode cX5_readCarrier 39 = .ok (.ireturn, 1) := by decide +kernel
theorem dX5_readCarrier_40 : decode cX5_readCarrier 40 = .ok (.aload_n 0, 1) := by decide +kernel
theorem dX5_readCarrier_41 : decode cX5_readCarrier 41 = .ok (.getfield 12, 3) := by decide +kernel
theorem dX5_readCarrier_44 : decode cX5_readCarrier 44 = .ok (.iload_n 1, 1) := by decide +kernel
theorem dX5_readCarrier_45 : decode cX5_readCarrier 45 = .ok (.invokevirtual 129, 3) := by decide +kernel
theorem dX5_readCarrier_48 : decode cX5_readCarrier 48 = .ok (.ifCond .eq 13, 3) := by decide +kernel
theorem dX5_readCarrier_51 : decode cX5_readCarrier 51 = .ok (.aload_n 0, 1) := by decide +kernel
theorem dX5_readCarrier_52 : decode cX5_readCarrier 52 = .ok (.iconst 3, 1) := by decide +kernel
theorem dX5_readCarrier_53 : decode cX5_readCarrier 53 = .ok (.aload_n 0, 1) := by decide +kernel
theorem dX5_readCarrier_54 : decode cX5_readCarrier 54 = .ok (.getfield 42, 3) := by decide +kernel
theorem dX5_readCarrier_57 : decode cX5_readCarrier 57 = .ok (.invokevirtual 91, 3) := by decide +kernel
theorem dX5_readCarrier_60 : decode cX5_readCarrier 60 = .ok (.ireturn, 1) := by decide +kernel
theorem dX5_readCarrier_61 : decode cX5_readCarrier 61 = .ok (.aload_n 0, 1) := by decide +kernel
theorem dX5_readCarrier_62 : decode cX5_readCarrier 62 = .ok (.getfield 12, 3) := by decide +kernel
theorem dX5_readCarrier_65 : decode cX5_readCarrier 65 = .ok (.iload_n 1, 1) := by decide +kernel
theorem dX5_readCarrier_66 : decode cX5_readCarrier 66 = .ok (.invokevirtual 133, 3) := by decide +kernel
theorem dX5_readCarrier_69 : decode cX5_readCarrier 69 = .ok (.iconst 1, 1) := by decide +kernel
theorem dX5_readCarrier_70 : decode cX5_readCarrier 70 = .ok (.ireturn, 1) := by decide +kernel
theorem dX5_readDays_0 : decode cX5_readDays 0 = .ok (.aload_n 0, 1) := by decide +kernel
theorem dX5_readDays_1 : decode cX5_readDays 1 = .ok (.getfield 12, 3) := by decide +kernel
theorem dX5_readDays_4 : decode cX5_readDays 4 = .ok (.getfield 126, 3) := by decide +kernel
theorem dX5_readDays_7 : decode cX5_readDays 7 = .ok (.ifCond .ne 13, 3) := by decide +kernel
theorem dX5_readDays_10 : decode cX5_readDays 10 = .ok (.aload_n 0, 1) := by decide +kernel
theorem dX5_readDays_11 : decode cX5_readDays 11 = .ok (.iconst 1, 1) := by decide +kernel
theorem dX5_readDays_12 : decode cX5_readDays 12 = .ok (.aload_n 0, 1) := by decide +kernel
theorem dX5_readDays_13 : decode cX5_readDays 13 = .ok (.getfield 42, 3) := by decide +kernel
theorem dX5_readDays_16 : decode cX5_readDays 16 = .ok (.invokevirtual 91, 3) := by decide +kernel
theorem dX5_readDays_19 : decode cX5_readDays 19 = .ok (.ireturn, 1) := by decide +kernel
theorem dX5_readDays_20 : decode cX5_readDays 20 = .ok (.aload_n 0, 1) := by decide +kernel
theorem dX5_readDays_21 : decode cX5_readDays 21 = .ok (.aload_n 0, 1) := by decide +kernel
theorem dX5_readDays_22 : decode cX5_readDays 22 = .ok (.iconst 1, 1) := by decide +kernel
theorem dX5_readDays_23 : decode cX5_readDays 23 = .ok (.bipush 127, 2) := by decide +kernel
theorem dX5_readDays_25 : decode cX5_readDays 25 = .ok (.invokevirtual 137, 3) := by decide +kernel
theorem dX5_readDays_28 : decode cX5_readDays 28 = .ok (.putfield 45, 3) := by decide +kernel
theorem dX5_readDays_31 : decode cX5_readDays 31 = .ok (.aload_n 0, 1) := by decide +kernel
theorem dX5_readDays_32 : decode cX5_readDays 32 = .ok (.getfield 45, 3) := by decide +kernel
theorem dX5_readDays_35 : decode cX5_readDays 35 = .ok (.iconst (-1), 1) := by decide +kernel
theorem dX5_readDays_36 : decode cX5_readDays 36 = .ok (.if_icmp .ne 5, 3) := by decide +kernel
theorem dX5_readDays_39 : decode cX5_readDays 39 = .ok (.iconst 0, 1) := by decide +kernel
theorem dX5_readDays_40 : decode cX5_readDays 40 = .ok (.ireturn, 1) := by decide +kernel
theorem dX5_readDays_41 : decode cX5_readDays 41 = .ok (.aload_n 0, 1) := by decide +kernel
theorem dX5_readDays_42 : decode cX5_readDays 42 = .ok (.getfield 45, 3) := by decide +kernel
theorem dX5_readDays_45 : decode cX5_readDays 45 = .ok (.aload_n 0, 1) := by decide +kernel
theorem dX5_readDays_46 : decode cX5_readDays 46 = .ok (.getfield 12, 3) := by decide +kernel
theorem dX5_readDays_49 : decode cX5_readDays 49 = .ok (.invokevirtual 140, 3) := by decide +kernel
theorem dX5_readDays_52 : decode cX5_readDays 52 = .ok (.iand, 1) := by decide +kernel
theorem dX5_readDays_53 : decode cX5_readDays 53 = .ok (.ifCond .eq 13, 3) := by decide +kernel
theorem dX5_readDays_56 : decode cX5_readDays 56 = .ok (.aload_n 0, 1) := by decide +kernel
theorem dX5_readDays_57 : decode cX5_readDays 57 = .ok (.iconst 2, 1) := by decide +kernel
theorem dX5_readDays_58 : decode cX5_readDays 58 = .ok (.aload_n 0, 1) := by decide +kernel
theorem dX5_readDays_59 : decode cX5_readDays 59 = .ok (.getfield 42, 3) := by decide +kernel
theorem dX5_readDays_62 : decode cX5_readDays 62 = .ok (.invokevirtual 91, 3) := by decide +kernel
theorem dX5_readDays_65 : decode cX5_readDays 65 = .ok (.ireturn, 1) := by decide +kernel
theorem dX5_readDays_66 : decode cX5_readDays 66 = .ok (.aload_n 0, 1) := by decide +kernel
theorem dX5_readDays_67 : decode cX5_readDays 67 = .ok (.getfield 12, 3) := by decide +kernel
theorem dX5_readDays_70 : decode cX5_readDays 70 = .ok (.aload_n 0, 1) := by decide +kernel
theorem dX5_readDays_71 : decode cX5_readDays 71 = .ok (.getfield 45, 3) := by decide +kernel
theorem dX5_readDays_74 : decode cX5_readDays 74 = .ok (.invokevirtual 143, 3) := by decide +kernel
theorem dX5_readDays_77 : decode cX5_readDays 77 = .ok (.iconst 1, 1) := by decide +kernel
theorem dX5_readDays_78 : decode cX5_readDays 78 = .ok (.ireturn, 1) := by decide +kernel
theorem dX5_readStops_0 : decode cX5_readStops 0 = .ok (.iconst (-1), 1) := by decide +kernel
theorem dX5_readStops_1 : decode cX5_readStops 1 = .ok (.istore_n 1, 1) := by decide +kernel
theorem dX5_readStops_2 : decode cX5_readStops 2 = .ok (.iconst 0, 1) := by decide +kernel
theorem dX5_readStops_3 : decode cX5_readStops 3 = .ok (.istore_n 2, 1) := by decide +kernel
theorem dX5_readStops_4 : decode cX5_readStops 4 = .ok (.iload_n 2, 1) := by decide +kernel
theorem dX5_readStops_5 : decode cX5_readStops 5 = .ok (.bipush 6, 2) := by decide +kernel
theorem dX5_readStops_7 : decode cX5_readStops 7 = .ok (.if_icmp .gt 122, 3) := by decide +kernel
theorem dX5_readStops_10 : decode cX5_readStops 10 = .ok (.aload_n 0, 1) := by decide +kernel
theorem dX5_readStops_11 : decode cX5_readStops 11 = .ok (.invokevirtual 146, 3) := by decide +kernel
theorem dX5_readStops_14 : decode cX5_readStops 14 = .ok (.iload_n 2, 1) := by decide +kernel
theorem dX5_readStops_15 : decode cX5_readStops 15 = .ok (.ifCond .le 16, 3) := by decide +kernel
theorem dX5_readStops_18 : decode cX5_readStops 18 = .ok (.aload_n 0, 1) := by decide +kernel
theorem dX5_readStops_19 : decode cX5_readStops 19 = .ok (.aload_n 0, 1) := by decide +kernel
theorem dX5_readStops_20 : decode cX5_readStops 20 = .ok (.getfield 39, 3) := by decide +kernel
theorem dX5_readStops_23 : decode cX5_readStops 23 = .ok (.invokevirtual 149, 3) := by decide +kernel
theorem dX5_readStops_26 : decode cX5_readStops 26 = .ok (.ifCond .ne 5, 3) := by decide +kernel
theorem dX5_readStops_29 : decode cX5_readStops 29 = .ok (.iconst 1, 1) := by decide +kernel
theorem dX5_readStops_30 : decode cX5_readStops 30 = .ok (.ireturn, 1) := by decide +kernel
theorem dX5_readStops_31 : decode cX5_readStops 31 = .ok (.iload_n 2, 1) := by decide +kernel
theorem dX5_readStops_32 : decode cX5_readStops 32 = .ok (.bipush 6, 2) := by decide +kernel
theorem dX5_readStops_34 : decode cX5_readStops 34 = .ok (.if_icmp .ne 13, 3) := by decide +kernel
theorem dX5_readStops_37 : decode cX5_readStops 37 = .ok (.aload_n 0, 1) := by decide +kernel
theorem dX5_readStops_38 : decode cX5_readStops 38 = .ok (.iconst 4, 1) := by decide +kernel
theorem dX5_readStops_39 : decode cX5_readStops 39 = .ok (.aload_n 0, 1) := by decide +kernel
theorem dX5_readStops_40 : decode cX5_readStops 40 = .ok (.getfield 39, 3) := by decide +kernel
theorem dX5_readStops_43 : decode cX5_readStops 43 = .ok (.invokevirtual 91, 3) := by decide +kernel
theorem dX5_readStops_46 : decode cX5_readStops 46 = .ok (.ireturn, 1) := by decide +kernel
theorem dX5_readStops_47 : decode cX5_readStops 47 = .ok (.aload_n 0, 1) := by decide +kernel
theorem dX5_readStops_48 : decode cX5_readStops 48 = .ok (.iload_n 1, 1) := by decide +kernel
theorem dX5_readStops_49 : decode cX5_readStops 49 = .ok (.iconst 1, 1) := by decide +kernel
theorem dX5_readStops_50 : decode cX5_readStops 50 = .ok (.iadd, 1) := by decide +kernel
theorem dX5_readStops_51 : decode cX5_readStops 51 = .ok (.bipush 23, 2) := by decide +kernel
theorem dX5_readStops_53 : decode cX5_readStops 53 = .ok (.invokevirtual 137, 3) := by decide +kernel
theorem dX5_readStops_56 : decode cX5_readStops 56 = .ok (.istore_n 1, 1) := by decide +kernel
theorem dX5_readStops_57 : decode cX5_readStops 57 = .ok (.iload_n 1, 1) := by decide +kernel
theorem dX5_readStops_58 : decode cX5_readStops 58 = .ok (.iconst (-1), 1) := by decide +kernel
theorem dX5_readStops_59 : decode cX5_readStops 59 = .ok (.if_icmp .ne 5, 3) := by decide +kernel
theorem dX5_readStops_62 : decode cX5_readStops 62 = .ok (.iconst 0, 1) := by decide +kernel
theorem dX5_readStops_63 : decode cX5_readStops 63 = .ok (.ireturn, 1) := by decide +kernel
theorem dX5_readStops_64 : decode cX5_readStops 64 = .ok (.aload_n 0, 1) := by decide +kernel
theorem dX5_readStops_65 : decode cX5_readStops 65 = .ok (.invokevirtual 114, 3) := by decide +kernel
theorem dX5_readStops_68 : decode cX5_readStops 68 = .ok (.istore_n 3, 1) := by decide +kernel
theorem dX5_readStops_69 : decode cX5_readStops 69 = .ok (.iload_n 3, 1) := by decide +kernel
theorem dX5_readStops_70 : decode cX5_readStops 70 = .ok (.ifCond .ne 13, 3) := by decide +kernel
theorem dX5_readStops_73 : decode cX5_readStops 73 = .ok (.aload_n 0, 1) := by decide +kernel
theorem dX5_readStops_74 : decode cX5_readStops 74 = .ok (.iconst 1, 1) := by decide +kernel
theorem dX5_readStops_75 : decode cX5_readStops 75 = .ok (.aload_n 0, 1) := by decide +kernel
theorem dX5_readStops_76 : decode cX5_readStops 76 = .ok (.getfield 42, 3) := by decide +kernel
theorem dX5_readStops_79 : decode cX5_readStops 79 = .ok (.invokevirtual 91, 3) := by decide +kernel
theorem dX5_readStops_82 : decode cX5_readStops 82 = .ok (.ireturn, 1) := by decide +kernel
theorem dX5_readStops_83 : decode cX5_readStops 83 = .ok (.aload_n 0, 1) := by decide +kernel
theorem dX5_readStops_84 : decode cX5_readStops 84 = .ok (.getfield 12, 3) := by decide +kernel
theorem dX5_readStops_87 : decode cX5_readStops 87 = .ok (.iload_n 3, 1) := by decide +kernel
theorem dX5_readStops_88 : decode cX5_readStops 88 = .ok (.invokevirtual 118, 3) := by decide +kernel
theorem dX5_readStops_91 : decode cX5_readStops 91 = .ok (.istore 4, 2) := by decide +kernel
theorem dX5_readStops_93 : decode cX5_readStops 93 = .ok (.iload 4, 2) := by decide +kernel
theorem dX5_readStops_95 : decode cX5_readStops 95 = .ok (.iconst (-1), 1) := by decide +kernel
theorem dX5_readStops_96 : decode cX5_readStops 96 = .ok (.if_icmp .ne 13, 3) := by decide +kernel
theorem dX5_readStops_99 : decode cX5_readStops 99 = .ok (.aload_n 0, 1) := by decide +kernel
theorem dX5_readStops_100 : decode cX5_readStops 100 = .ok (.iconst 3, 1) := by decide +kernel
theorem dX5_readStops_101 : decode cX5_readStops 101 = .ok (.aload_n 0, 1) := by decide +kernel
theorem dX5_readStops_102 : decode cX5_readStops 102 = .ok (.getfield 42, 3) := by decide +kernel
theorem dX5_readStops_105 : decode cX5_readStops 105 = .ok (.invokevirtual 91, 3) := by decide +kernel
theorem dX5_readStops_108 : decode cX5_readStops 108 = .ok (.ireturn, 1) := by decide +kernel
theorem dX5_readStops_109 : decode cX5_readStops 109 = .ok (.aload_n 0, 1) := by decide +kernel
theorem dX5_readStops_110 : decode cX5_readStops 110 = .ok (.getfield 12, 3) := by decide +kernel
theorem dX5_readStops_113 : decode cX5_readStops 113 = .ok (.aload_n 0, 1) := by decide +kernel
theorem dX5_readStops_114 : decode cX5_readStops 114 = .ok (.getfield 45, 3) := by decide +kernel
theorem dX5_readStops_117 : decode cX5_readStops 117 = .ok (.iload_n 1, 1) := by decide +kernel
theorem dX5_readStops_118 : decode cX5_readStops 118 = .ok (.iload 4, 2) := by decide +kernel
theorem dX5_readStops_120 : decode cX5_readStops 120 = .ok (.invokevirtual 152, 3) := by decide +kernel
theorem dX5_readStops_123 : decode cX5_readStops 123 = .ok (.iinc 2 1, 3) := by decide +kernel
theorem dX5_readStops_126 : decode cX5_readStops 126 = .ok (.goto (-122), 3) := by decide +kernel
theorem dX5_readStops_129 : decode cX5_readStops 129 = .ok (.iconst 1, 1) := by decide +kernel
theorem dX5_readStops_130 : decode cX5_readStops 130 = .ok (.ireturn, 1) := by decide +kernel
theorem dX5_readCapacity_0 : decode cX5_readCapacity 0 = .ok (.aload_n 0, 1) := by decide +kernel
theorem dX5_readCapacity_1 : decode cX5_readCapacity 1 = .ok (.iconst 1, 1) := by decide +kernel
theorem dX5_readCapacity_2 : decode cX5_readCapacity 2 = .ok (.bipush 20, 2) := by decide +kernel
theorem dX5_readCapacity_4 : decode cX5_readCapacity 4 = .ok (.invokevirtual 137, 3) := by decide +kernel
theorem dX5_readCapacity_7 : decode cX5_readCapacity 7 = .ok (.istore_n 1, 1) := by decide +kernel
theorem dX5_readCapacity_8 : decode cX5_readCapacity 8 = .ok (.iload_n 1, 1) := by decide +kernel
theorem dX5_readCapacity_9 : decode cX5_readCapacity 9 = .ok (.iconst (-1), 1) := by decide +kernel
theorem dX5_readCapacity_10 : decode cX5_readCapacity 10 = .ok (.if_icmp .ne 5, 3) := by decide +kernel
theorem dX5_readCapacity_13 : decode cX5_readCapacity 13 = .ok (.iconst 0, 1) := by decide +kernel
theorem dX5_readCapacity_14 : decode cX5_readCapacity 14 = .ok (.ireturn, 1) := by decide +kernel
theorem dX5_readCapacity_15 : decode cX5_readCapacity 15 = .ok (.aload_n 0, 1) := by decide +kernel
theorem dX5_readCapacity_16 : decode cX5_readCapacity 16 = .ok (.getfield 21, 3) := by decide +kernel
theorem dX5_readCapacity_19 : decode cX5_readCapacity 19 = .ok (.iload_n 1, 1) := by decide +kernel
theorem dX5_readCapacity_20 : decode cX5_readCapacity 20 = .ok (.putfield 156, 3) := by decide +kernel
theorem dX5_readCapacity_23 : decode cX5_readCapacity 23 = .ok (.iconst 1, 1) := by decide +kernel
theorem dX5_readCapacity_24 : decode cX5_readCapacity 24 = .ok (.ireturn, 1) := by decide +kernel
theorem dX5_readLetter_0 : decode cX5_readLetter 0 = .ok (.aload_n 0, 1) := by decide +kernel
theorem dX5_readLetter_1 : decode cX5_readLetter 1 = .ok (.getfield 21, 3) := by decide +kernel
theorem dX5_readLetter_4 : decode cX5_readLetter 4 = .ok (.getfield 158, 3) := by decide +kernel
theorem dX5_readLetter_7 : decode cX5_readLetter 7 = .ok (.getfield 162, 3) := by decide +kernel
theorem dX5_readLetter_10 : decode cX5_readLetter 10 = .ok (.bipush 30, 2) := by decide +kernel
theorem dX5_readLetter_12 : decode cX5_readLetter 12 = .ok (.if_icmp .lt 13, 3) := by decide +kernel
theorem dX5_readLetter_15 : decode cX5_readLetter 15 = .ok (.aload_n 0, 1) := by decide +kernel
theorem dX5_readLetter_16 : decode cX5_readLetter 16 = .ok (.iconst 4, 1) := by decide +kernel
theorem dX5_readLetter_17 : decode cX5_readLetter 17 = .ok (.aload_n 0, 1) := by decide +kernel
theorem dX5_readLetter_18 : decode cX5_readLetter 18 = .ok (.getfield 42, 3) := by decide +kernel
theorem dX5_readLetter_21 : decode cX5_readLetter 21 = .ok (.invokevirtual 91, 3) := by decide +kernel
theorem dX5_readLetter_24 : decode cX5_readLetter 24 = .ok (.ireturn, 1) := by decide +kernel
theorem dX5_readLetter_25 : decode cX5_readLetter 25 = .ok (.aload_n 0, 1) := by decide +kernel
theorem dX5_readLetter_26 : decode cX5_readLetter 26 = .ok (.iconst (-1), 1) := by decide +kernel
theorem dX5_readLetter_27 : decode cX5_readLetter 27 = .ok (.invokevirtual 167, 3) := by decide +kernel
theorem dX5_readLetter_30 : decode cX5_readLetter 30 = .ok (.istore_n 1, 1) := by decide +kernel
theorem dX5_readLetter_31 : decode cX5_readLetter 31 = .ok (.iload_n 1, 1) := by decide +kernel
theorem dX5_readLetter_32 : decode cX5_readLetter 32 = .ok (.iconst (-1), 1) := by decide +kernel
theorem dX5_readLetter_33 : decode cX5_readLetter 33 = .ok (.if_icmp .ne 5, 3) := by decide +kernel
theorem dX5_readLetter_36 : decode cX5_readLetter 36 = .ok (.iconst 0, 1) := by decide +kernel
theorem dX5_readLetter_37 : decode cX5_readLetter 37 = .ok (.ireturn, 1) := by decide +kernel
theorem dX5_readLetter_38 : decode cX5_readLetter 38 = .ok (.aload_n 0, 1) := by decide +kernel
theorem dX5_readLetter_39 : decode cX5_readLetter 39 = .ok (.iload_n 1, 1) := by decide +kernel
theorem dX5_readLetter_40 : decode cX5_readLetter 40 = .ok (.invokevirtual 167, 3) := by decide +kernel
theorem dX5_readLetter_43 : decode cX5_readLetter 43 = .ok (.istore_n 2, 1) := by decide +kernel
theorem dX5_readLetter_44 : decode cX5_readLetter 44 = .ok (.iload_n 2, 1) := by decide +kernel
theorem dX5_readLetter_45 : decode cX5_readLetter 45 = .ok (.iconst (-1), 1) := by decide +kernel
theorem dX5_readLetter_46 : decode cX5_readLetter 46 = .ok (.if_icmp .ne 5, 3) := by decide +kernel
theorem dX5_readLetter_49 : decode cX5_readLetter 49 = .ok (.iconst 0, 1) := by decide +kernel
theorem dX5_readLetter_50 : decode cX5_readLetter 50 = .ok (.ireturn, 1) := by decide +kernel
theorem dX5_readLetter_51 : decode cX5_readLetter 51 = .ok (.aload_n 0, 1) := by decide +kernel
theorem dX5_readLetter_52 : decode cX5_readLetter 52 = .ok (.invokevirtual 146, 3) := by decide +kernel
theorem dX5_readLetter_55 : decode cX5_readLetter 55 = .ok (.iconst 0, 1) := by decide +kernel
theorem dX5_readLetter_56 : decode cX5_readLetter 56 = .ok (.istore_n 3, 1) := by decide +kernel
theorem dX5_readLetter_57 : decode cX5_readLetter 57 = .ok (.aload_n 0, 1) := by decide +kernel
theorem dX5_readLetter_58 : decode cX5_readLetter 58 = .ok (.aload_n 0, 1) := by decide +kernel
theorem dX5_readLetter_59 : decode cX5_readLetter 59 = .ok (.getfield 39, 3) := by decide +kernel
theorem dX5_readLetter_62 : decode cX5_readLetter 62 = .ok (.invokevirtual 170, 3) := by decide +kernel
theorem dX5_readLetter_65 : decode cX5_readLetter 65 = .ok (.ifCond .eq 42, 3) := by decide +kernel
theorem dX5_readLetter_68 : decode cX5_readLetter 68 = .ok (.aload_n 0, 1) := by decide +kernel
theorem dX5_readLetter_69 : decode cX5_readLetter 69 = .ok (.invokevirtual 52, 3) := by decide +kernel
theorem dX5_readLetter_72 : decode cX5_readLetter 72 = .ok (.aload_n 0, 1) := by decide +kernel
theorem dX5_readLetter_73 : decode cX5_readLetter 73 = .ok (.ldc 173, 2) := by decide +kernel
theorem dX5_readLetter_75 : decode cX5_readLetter 75 = .ok (.invokevirtual 57, 3) := by decide +kernel
theorem dX5_readLetter_78 : decode cX5_readLetter 78 = .ok (.ifCond .ne 13, 3) := by decide +kernel
theorem dX5_readLetter_81 : decode cX5_readLetter 81 = .ok (.aload_n 0, 1) := by decide +kernel
theorem dX5_readLetter_82 : decode cX5_readLetter 82 = .ok (.iconst 1, 1) := by decide +kernel
theorem dX5_readLetter_83 : decode cX5_readLetter 83 = .ok (.aload_n 0, 1) := by decide +kernel
theorem dX5_readLetter_84 : decode cX5_readLetter 84 = .ok (.getfield 42, 3) := by decide +kernel
theorem dX5_readLetter_87 : decode cX5_readLetter 87 = .ok (.invokevirtual 91, 3) := by decide +kernel
theorem dX5_readLetter_90 : decode cX5_readLetter 90 = .ok (.ireturn, 1) := by decide +kernel
theorem dX5_readLetter_91 : decode cX5_readLetter 91 = .ok (.aload_n 0, 1) := by decide +kernel
theorem dX5_readLetter_92 : decode cX5_readLetter 92 = .ok (.iconst 1, 1) := by decide +kernel
theorem dX5_readLetter_93 : decode cX5_readLetter 93 = .ok (.sipush 999, 3) := by decide +kernel
theorem dX5_readLetter_96 : decode cX5_readLetter 96 = .ok (.invokevirtual 137, 3) := by decide +kernel
theorem dX5_readLetter_99 : decode cX5_readLetter 99 = .ok (.istore_n 3, 1) := by decide +kernel
theorem dX5_readLetter_100 : decode cX5_readLetter 100 = .ok (.iload_n 3, 1) := by decide +kernel
theorem dX5_readLetter_101 : decode cX5_readLetter 101 = .ok (.iconst (-1), 1) := by decide +kernel
theorem dX5_readLetter_102 : decode cX5_readLetter 102 = .ok (.if_icmp .ne 5, 3) := by decide +kernel
theorem dX5_readLetter_105 : decode cX5_readLetter 105 = .ok (.iconst 0, 1) := by decide +kernel
theorem dX5_readLetter_106 : decode cX5_readLetter 106 = .ok (.ireturn, 1) := by decide +kernel
theorem dX5_readLetter_107 : decode cX5_readLetter 107 = .ok (.aload_n 0, 1) := by decide +kernel
theorem dX5_readLetter_108 : decode cX5_readLetter 108 = .ok (.getfield 21, 3) := by decide +kernel
theorem dX5_readLetter_111 : decode cX5_readLetter 111 = .ok (.getfield 158, 3) := by decide +kernel
theorem dX5_readLetter_114 : decode cX5_readLetter 114 = .ok (.iload_n 1, 1) := by decide +kernel
theorem dX5_readLetter_115 : decode cX5_readLetter 115 = .ok (.iload_n 2, 1) := by decide +kernel
theorem dX5_readLetter_116 : decode cX5_readLetter 116 = .ok (.iload_n 3, 1) := by decide +kernel
theorem dX5_readLetter_117 : decode cX5_readLetter 117 = .ok (.iconst 0, 1) := by decide +kernel
theorem dX5_readLetter_118 : decode cX5_readLetter 118 = .ok (.iconst (-1), 1) := by decide +kernel
theorem dX5_readLetter_119 : decode cX5_readLetter 119 = .ok (.invokevirtual 175, 3) := by decide +kernel
theorem dX5_readLetter_122 : decode cX5_readLetter 122 = .ok (.pop, 1) := by decide +kernel
theorem dX5_readLetter_123 : decode cX5_readLetter 123 = .ok (.iconst 1, 1) := by decide +kernel
theorem dX5_readLetter_124 : decode cX5_readLetter 124 = .ok (.ireturn, 1) := by decide +kernel
theorem dX5_readVillage_0 : decode cX5_readVillage 0 = .ok (.aload_n 0, 1) := by decide +kernel
theorem dX5_readVillage_1 : decode cX5_readVillage 1 = .ok (.invokevirtual 114, 3) := by decide +kernel
theorem dX5_readVillage_4 : decode cX5_readVillage 4 = .ok (.istore_n 2, 1) := by decide +kernel
theorem dX5_readVillage_5 : decode cX5_readVillage 5 = .ok (.iload_n 2, 1) := by decide +kernel
theorem dX5_readVillage_6 : decode cX5_readVillage 6 = .ok (.ifCond .ne 15, 3) := by decide +kernel
theorem dX5_readVillage_9 : decode cX5_readVillage 9 = .ok (.aload_n 0, 1) := by decide +kernel
theorem dX5_readVillage_10 : decode cX5_readVillage 10 = .ok (.iconst 1, 1) := by decide +kernel
theorem dX5_readVillage_11 : decode cX5_readVillage 11 = .ok (.aload_n 0, 1) := by decide +kernel
theorem dX5_readVillage_12 : decode cX5_readVillage 12 = .ok (.getfield 42, 3) := by decide +kernel
theorem dX5_readVillage_15 : decode cX5_readVillage 15 = .ok (.invokevirtual 91, 3) := by decide +kernel
theorem dX5_readVillage_18 : decode cX5_readVillage 18 = .ok (.pop, 1) := by decide +kernel
theorem dX5_readVillage_19 : decode cX5_readVillage 19 = .ok (.iconst (-1), 1) := by decide +kernel
theorem dX5_readVillage_20 : decode cX5_readVillage 20 = .ok (.ireturn, 1) := by decide +kernel
theorem dX5_readVillage_21 : decode cX5_readVillage 21 = .ok (.aload_n 0, 1) := by decide +kernel
theorem dX5_readVillage_22 : decode cX5_readVillage 22 = .ok (.getfield 12, 3) := by decide +kernel
theorem dX5_readVillage_25 : decode cX5_readVillage 25 = .ok (.iload_n 2, 1) := by decide +kernel
theorem dX5_readVillage_26 : decode cX5_readVillage 26 = .ok (.invokevirtual 118, 3) := by decide +kernel
theorem dX5_readVillage_29 : decode cX5_readVillage 29 = .ok (.istore_n 3, 1) := by decide +kernel
theorem dX5_readVillage_30 : decode cX5_readVillage 30 = .ok (.aload_n 0, 1) := by decide +kernel
theorem dX5_readVillage_31 : decode cX5_readVillage 31 = .ok (.getfield 12, 3) := by decide +kernel
theorem dX5_readVillage_34 : decode cX5_readVillage 34 = .ok (.iload_n 3, 1) := by decide +kernel
theorem dX5_readVillage_35 : decode cX5_readVillage 35 = .ok (.invokevirtual 179, 3) := by decide +kernel
theorem dX5_readVillage_38 : decode cX5_readVillage 38 = .ok (.ifCond .eq 8, 3) := by decide +kernel
theorem dX5_readVillage_41 : decode cX5_readVillage 41 = .ok (.iload_n 3, 1) := by decide +kernel
theorem dX5_readVillage_42 : decode cX5_readVillage 42 = .ok (.iload_n 1, 1) := by decide +kernel
theorem dX5_readVillage_43 : decode cX5_readVillage 43 = .ok (.if_icmp .ne 15, 3) := by decide +kernel
theorem dX5_readVillage_46 : decode cX5_readVillage 46 = .ok (.aload_n 0, 1) := by decide +kernel
theorem dX5_readVillage_47 : decode cX5_readVillage 47 = .ok (.iconst 3, 1) := by decide +kernel
theorem dX5_readVillage_48 : decode cX5_readVillage 48 = .ok (.aload_n 0, 1) := by decide +kernel
theorem dX5_readVillage_49 : decode cX5_readVillage 49 = .ok (.getfield 42, 3) := by decide +kernel
theorem dX5_readVillage_52 : decode cX5_readVillage 52 = .ok (.invokevirtual 91, 3) := by decide +kernel
theorem dX5_readVillage_55 : decode cX5_readVillage 55 = .ok (.pop, 1) := by decide +kernel
theorem dX5_readVillage_56 : decode cX5_readVillage 56 = .ok (.iconst (-1), 1) := by decide +kernel
theorem dX5_readVillage_57 : decode cX5_readVillage 57 = .ok (.ireturn, 1) := by decide +kernel
theorem dX5_readVillage_58 : decode cX5_readVillage 58 = .ok (.iload_n 3, 1) := by decide +kernel
theorem dX5_readVillage_59 : decode cX5_readVillage 59 = .ok (.ireturn, 1) := by decide +kernel
theorem dX5_readSemicolon_0 : decode cX5_readSemicolon 0 = .ok (.aload_n 0, 1) := by decide +kernel
theorem dX5_readSemicolon_1 : decode cX5_readSemicolon 1 = .ok (.invokevirtual 146, 3) := by decide +kernel
theorem dX5_readSemicolon_4 : decode cX5_readSemicolon 4 = .ok (.aload_n 0, 1) := by decide +kernel
theorem dX5_readSemicolon_5 : decode cX5_readSemicolon 5 = .ok (.aload_n 0, 1) := by decide +kernel
theorem dX5_readSemicolon_6 : decode cX5_readSemicolon 6 = .ok (.getfield 39, 3) := by decide +kernel
theorem dX5_readSemicolon_9 : decode cX5_readSemicolon 9 = .ok (.invokevirtual 182, 3) := by decide +kernel
theorem dX5_readSemicolon_12 : decode cX5_readSemicolon 12 = .ok (.bipush 59, 2) := by decide +kernel
theorem dX5_readSemicolon_14 : decode cX5_readSemicolon 14 = .ok (.if_icmp .eq 13, 3) := by decide +kernel
theorem dX5_readSemicolon_17 : decode cX5_readSemicolon 17 = .ok (.aload_n 0, 1) := by decide +kernel
theorem dX5_readSemicolon_18 : decode cX5_readSemicolon 18 = .ok (.iconst 1, 1) := by decide +kernel
theorem dX5_readSemicolon_19 : decode cX5_readSemicolon 19 = .ok (.aload_n 0, 1) := by decide +kernel
theorem dX5_readSemicolon_20 : decode cX5_readSemicolon 20 = .ok (.getfield 39, 3) := by decide +kernel
theorem dX5_readSemicolon_23 : decode cX5_readSemicolon 23 = .ok (.invokevirtual 91, 3) := by decide +kernel
theorem dX5_readSemicolon_26 : decode cX5_readSemicolon 26 = .ok (.ireturn, 1) := by decide +kernel
theorem dX5_readSemicolon_27 : decode cX5_readSemicolon 27 = .ok (.aload_n 0, 1) := by decide +kernel
theorem dX5_readSemicolon_28 : decode cX5_readSemicolon 28 = .ok (.dup, 1) := by decide +kernel
theorem dX5_readSemicolon_29 : decode cX5_readSemicolon 29 = .ok (.getfield 39, 3) := by decide +kernel
theorem dX5_readSemicolon_32 : decode cX5_readSemicolon 32 = .ok (.iconst 1, 1) := by decide +kernel
theorem dX5_readSemicolon_33 : decode cX5_readSemicolon 33 = .ok (.iadd, 1) := by decide +kernel
theorem dX5_readSemicolon_34 : decode cX5_readSemicolon 34 = .ok (.putfield 39, 3) := by decide +kernel
theorem dX5_readSemicolon_37 : decode cX5_readSemicolon 37 = .ok (.iconst 1, 1) := by decide +kernel
theorem dX5_readSemicolon_38 : decode cX5_readSemicolon 38 = .ok (.ireturn, 1) := by decide +kernel
theorem dX5_readName_0 : decode cX5_readName 0 = .ok (.aload_n 0, 1) := by decide +kernel
theorem dX5_readName_1 : decode cX5_readName 1 = .ok (.invokevirtual 52, 3) := by decide +kernel
theorem dX5_readName_4 : decode cX5_readName 4 = .ok (.aload_n 0, 1) := by decide +kernel
theorem dX5_readName_5 : decode cX5_readName 5 = .ok (.getfield 32, 3) := by decide +kernel
theorem dX5_readName_8 : decode cX5_readName 8 = .ok (.aload_n 0, 1) := by decide +kernel
theorem dX5_readName_9 : decode cX5_readName 9 = .ok (.getfield 42, 3) := by decide +kernel
theorem dX5_readName_12 : decode cX5_readName 12 = .ok (.aload_n 0, 1) := by decide +kernel
theorem dX5_readName_13 : decode cX5_readName 13 = .ok (.getfield 39, 3) := by decide +kernel
theorem dX5_readName_16 : decode cX5_readName 16 = .ok (.invokestatic 185, 3) := by decide +kernel
theorem dX5_readName_19 : decode cX5_readName 19 = .ok (.ireturn, 1) := by decide +kernel
theorem dX5_readWord_0 : decode cX5_readWord 0 = .ok (.aload_n 0, 1) := by decide +kernel
theorem dX5_readWord_1 : decode cX5_readWord 1 = .ok (.invokevirtual 146, 3) := by decide +kernel
theorem dX5_readWord_4 : decode cX5_readWord 4 = .ok (.aload_n 0, 1) := by decide +kernel
theorem dX5_readWord_5 : decode cX5_readWord 5 = .ok (.aload_n 0, 1) := by decide +kernel
theorem dX5_readWord_6 : decode cX5_readWord 6 = .ok (.getfield 39, 3) := by decide +kernel
theorem dX5_readWord_9 : decode cX5_readWord 9 = .ok (.putfield 42, 3) := by decide +kernel
theorem dX5_readWord_12 : decode cX5_readWord 12 = .ok (.aload_n 0, 1) := by decide +kernel
theorem dX5_readWord_13 : decode cX5_readWord 13 = .ok (.getfield 39, 3) := by decide +kernel
theorem dX5_readWord_16 : decode cX5_readWord 16 = .ok (.aload_n 0, 1) := by decide +kernel
theorem dX5_readWord_17 : decode cX5_readWord 17 = .ok (.getfield 36, 3) := by decide +kernel
theorem dX5_readWord_20 : decode cX5_readWord 20 = .ok (.if_icmp .ge 27, 3) := by decide +kernel
theorem dX5_readWord_23 : decode cX5_readWord 23 = .ok (.aload_n 0, 1) := by decide +kernel
theorem dX5_readWord_24 : decode cX5_readWord 24 = .ok (.aload_n 0, 1) := by decide +kernel
theorem dX5_readWord_25 : decode cX5_readWord 25 = .ok (.getfield 39, 3) := by decide +kernel
theorem dX5_readWord_28 : decode cX5_readWord 28 = .ok (.invokevirtual 170, 3) := by decide +kernel
theorem dX5_readWord_31 : decode cX5_readWord 31 = .ok (.ifCond .eq 16, 3) := by decide +kernel
theorem dX5_readWord_34 : decode cX5_readWord 34 = .ok (.aload_n 0, 1) := by decide +kernel
theorem dX5_readWord_35 : decode cX5_readWord 35 = .ok (.dup, 1) := by decide +kernel
theorem dX5_readWord_36 : decode cX5_readWord 36 = .ok (.getfield 39, 3) := by decide +kernel
theorem dX5_readWord_39 : decode cX5_readWord 39 = .ok (.iconst 1, 1) := by decide +kernel
theorem dX5_readWord_40 : decode cX5_readWord 40 = .ok (.iadd, 1) := by decide +kernel
theorem dX5_readWord_41 : decode cX5_readWord 41 = .ok (.putfield 39, 3) := by decide +kernel
theorem dX5_readWord_44 : decode cX5_readWord 44 = .ok (.goto (-32), 3) := by decide +kernel
theorem dX5_readWord_47 : decode cX5_readWord 47 = .ok (.return_, 1) := by decide +kernel
theorem dX5_readNumber_0 : decode cX5_readNumber 0 = .ok (.aload_n 0, 1) := by decide +kernel
theorem dX5_readNumber_1 : decode cX5_readNumber 1 = .ok (.invokevirtual 146, 3) := by decide +kernel
theorem dX5_readNumber_4 : decode cX5_readNumber 4 = .ok (.aload_n 0, 1) := by decide +kernel
theorem dX5_readNumber_5 : decode cX5_readNumber 5 = .ok (.aload_n 0, 1) := by decide +kernel
theorem dX5_readNumber_6 : decode cX5_readNumber 6 = .ok (.getfield 39, 3) := by decide +kernel
theorem dX5_readNumber_9 : decode cX5_readNumber 9 = .ok (.putfield 42, 3) := by decide +kernel
theorem dX5_readNumber_12 : decode cX5_readNumber 12 = .ok (.iconst 0, 1) := by decide +kernel
theorem dX5_readNumber_13 : decode cX5_readNumber 13 = .ok (.istore_n 3, 1) := by decide +kernel
theorem dX5_readNumber_14 : decode cX5_readNumber 14 = .ok (.aload_n 0, 1) := by decide +kernel
theorem dX5_readNumber_15 : decode cX5_readNumber 15 = .ok (.getfield 39, 3) := by decide +kernel
theorem dX5_readNumber_18 : decode cX5_readNumber 18 = .ok (.aload_n 0, 1) := by decide +kernel
theorem dX5_readNumber_19 : decode cX5_readNumber 19 = .ok (.getfield 36, 3) := by decide +kernel
theorem dX5_readNumber_22 : decode cX5_readNumber 22 = .ok (.if_icmp .ge 57, 3) := by decide +kernel
theorem dX5_readNumber_25 : decode cX5_readNumber 25 = .ok (.aload_n 0, 1) := by decide +kernel
theorem dX5_readNumber_26 : decode cX5_readNumber 26 = .ok (.aload_n 0, 1) := by decide +kernel
theorem dX5_readNumber_27 : decode cX5_readNumber 27 = .ok (.getfield 39, 3) := by decide +kernel
theorem dX5_readNumber_30 : decode cX5_readNumber 30 = .ok (.invokevirtual 149, 3) := by decide +kernel
theorem dX5_readNumber_33 : decode cX5_readNumber 33 = .ok (.ifCond .eq 46, 3) := by decide +kernel
theorem dX5_readNumber_36 : decode cX5_readNumber 36 = .ok (.aload_n 0, 1) := by decide +kernel
theorem dX5_readNumber_37 : decode cX5_readNumber 37 = .ok (.getfield 39, 3) := by decide +kernel
theorem dX5_readNumber_40 : decode cX5_readNumber 40 = .ok (.aload_n 0, 1) := by decide +kernel
theorem dX5_readNumber_41 : decode cX5_readNumber 41 = .ok (.getfield 42, 3) := by decide +kernel
theorem dX5_readNumber_44 : decode cX5_readNumber 44 = .ok (.isub, 1) := by decide +kernel
theorem dX5_readNumber_45 : decode cX5_readNumber 45 = .ok (.iconst 3, 1) := by decide +kernel
theorem dX5_readNumber_46 : decode cX5_readNumber 46 = .ok (.if_icmp .ge 20, 3) := by decide +kernel
theorem dX5_readNumber_49 : decode cX5_readNumber 49 = .ok (.bipush 10, 2) := by decide +kernel
theorem dX5_readNumber_51 : decode cX5_readNumber 51 = .ok (.iload_n 3, 1) := by decide +kernel
theorem dX5_readNumber_52 : decode cX5_readNumber 52 = .ok (.imul, 1) := by decide +kernel
theorem dX5_readNumber_53 : decode cX5_readNumber 53 = .ok (.aload_n 0, 1) := by decide +kernel
theorem dX5_readNumber_54 : decode cX5_readNumber 54 = .ok (.aload_n 0, 1) := by decide +kernel
theorem dX5_readNumber_55 : decode cX5_readNumber 55 = .ok (.getfield 39, 3) := by decide +kernel
theorem dX5_readNumber_58 : decode cX5_readNumber 58 = .ok (.invokevirtual 182, 3) := by decide +kernel
theorem dX5_readNumber_61 : decode cX5_readNumber 61 = .ok (.iadd, 1) := by decide +kernel
theorem dX5_readNumber_62 : decode cX5_readNumber 62 = .ok (.bipush 48, 2) := by decide +kernel
theorem dX5_readNumber_64 : decode cX5_readNumber 64 = .ok (.isub, 1) := by decide +kernel
theorem dX5_readNumber_65 : decode cX5_readNumber 65 = .ok (.istore_n 3, 1) := by decide +kernel
theorem dX5_readNumber_66 : decode cX5_readNumber 66 = .ok (.aload_n 0, 1) := by decide +kernel
theorem dX5_readNumber_67 : decode cX5_readNumber 67 = .ok (.dup, 1) := by decide +kernel
theorem dX5_readNumber_68 : decode cX5_readNumber 68 = .ok (.getfield 39, 3) := by decide +kernel
theorem dX5_readNumber_71 : decode cX5_readNumber 71 = .ok (.iconst 1, 1) := by decide +kernel
theorem dX5_readNumber_72 : decode cX5_readNumber 72 = .ok (.iadd, 1) := by decide +kernel
theorem dX5_readNumber_73 : decode cX5_readNumber 73 = .ok (.putfield 39, 3) := by decide +kernel
theorem dX5_readNumber_76 : decode cX5_readNumber 76 = .ok (.goto (-62), 3) := by decide +kernel
theorem dX5_readNumber_79 : decode cX5_readNumber 79 = .ok (.aload_n 0, 1) := by decide +kernel
theorem dX5_readNumber_80 : decode cX5_readNumber 80 = .ok (.getfield 39, 3) := by decide +kernel
theorem dX5_readNumber_83 : decode cX5_readNumber 83 = .ok (.aload_n 0, 1) := by decide +kernel
theorem dX5_readNumber_84 : decode cX5_readNumber 84 = .ok (.getfield 42, 3) := by decide +kernel
theorem dX5_readNumber_87 : decode cX5_readNumber 87 = .ok (.if_icmp .ne 15, 3) := by decide +kernel
theorem dX5_readNumber_90 : decode cX5_readNumber 90 = .ok (.aload_n 0, 1) := by decide +kernel
theorem dX5_readNumber_91 : decode cX5_readNumber 91 = .ok (.iconst 1, 1) := by decide +kernel
theorem dX5_readNumber_92 : decode cX5_readNumber 92 = .ok (.aload_n 0, 1) := by decide +kernel
theorem dX5_readNumber_93 : decode cX5_readNumber 93 = .ok (.getfield 42, 3) := by decide +kernel
theorem dX5_readNumber_96 : decode cX5_readNumber 96 = .ok (.invokevirtual 91, 3) := by decide +kernel
theorem dX5_readNumber_99 : decode cX5_readNumber 99 = .ok (.pop, 1) := by decide +kernel
theorem dX5_readNumber_100 : decode cX5_readNumber 100 = .ok (.iconst (-1), 1) := by decide +kernel
theorem dX5_readNumber_101 : decode cX5_readNumber 101 = .ok (.ireturn, 1) := by decide +kernel
theorem dX5_readNumber_102 : decode cX5_readNumber 102 = .ok (.aload_n 0, 1) := by decide +kernel
theorem dX5_readNumber_103 : decode cX5_readNumber 103 = .ok (.getfield 39, 3) := by decide +kernel
theorem dX5_readNumber_106 : decode cX5_readNumber 106 = .ok (.aload_n 0, 1) := by decide +kernel
theorem dX5_readNumber_107 : decode cX5_readNumber 107 = .ok (.getfield 42, 3) := by decide +kernel
theorem dX5_readNumber_110 : decode cX5_readNumber 110 = .ok (.isub, 1) := by decide +kernel
theorem dX5_readNumber_111 : decode cX5_readNumber 111 = .ok (.iconst 3, 1) := by decide +kernel
theorem dX5_readNumber_112 : decode cX5_readNumber 112 = .ok (.if_icmp .gt 13, 3) := by decide +kernel
theorem dX5_readNumber_115 : decode cX5_readNumber 115 = .ok (.iload_n 3, 1) := by decide +kernel
theorem dX5_readNumber_116 : decode cX5_readNumber 116 = .ok (.iload_n 1, 1) := by decide +kernel
theorem dX5_readNumber_117 : decode cX5_readNumber 117 = .ok (.if_icmp .lt 8, 3) := by decide +kernel
theorem dX5_readNumber_120 : decode cX5_readNumber 120 = .ok (.iload_n 3, 1) := by decide +kernel
theorem dX5_readNumber_121 : decode cX5_readNumber 121 = .ok (.iload_n 2, 1) := by decide +kernel
theorem dX5_readNumber_122 : decode cX5_readNumber 122 = .ok (.if_icmp .le 15, 3) := by decide +kernel
theorem dX5_readNumber_125 : decode cX5_readNumber 125 = .ok (.aload_n 0, 1) := by decide +kernel
theorem dX5_readNumber_126 : decode cX5_readNumber 126 = .ok (.iconst 2, 1) := by decide +kernel
theorem dX5_readNumber_127 : decode cX5_readNumber 127 = .ok (.aload_n 0, 1) := by decide +kernel
theorem dX5_readNumber_128 : decode cX5_readNumber 128 = .ok (.getfield 42, 3) := by decide +kernel
theorem dX5_readNumber_131 : decode cX5_readNumber 131 = .ok (.invokevirtual 91, 3) := by decide +kernel
theorem dX5_readNumber_134 : decode cX5_readNumber 134 = .ok (.pop, 1) := by decide +kernel
theorem dX5_readNumber_135 : decode cX5_readNumber 135 = .ok (.iconst (-1), 1) := by decide +kernel
theorem dX5_readNumber_136 : decode cX5_readNumber 136 = .ok (.ireturn, 1) := by decide +kernel
theorem dX5_readNumber_137 : decode cX5_readNumber 137 = .ok (.iload_n 3, 1) := by decide +kernel
theorem dX5_readNumber_138 : decode cX5_readNumber 138 = .ok (.ireturn, 1) := by decide +kernel
theorem dX5_skipBlanks_0 : decode cX5_skipBlanks 0 = .ok (.aload_n 0, 1) := by decide +kernel
theorem dX5_skipBlanks_1 : decode cX5_skipBlanks 1 = .ok (.getfield 39, 3) := by decide +kernel
theorem dX5_skipBlanks_4 : decode cX5_skipBlanks 4 = .ok (.aload_n 0, 1) := by decide +kernel
theorem dX5_skipBlanks_5 : decode cX5_skipBlanks 5 = .ok (.getfield 36, 3) := by decide +kernel
theorem dX5_skipBlanks_8 : decode cX5_skipBlanks 8 = .ok (.if_icmp .ge 30, 3) := by decide +kernel
theorem dX5_skipBlanks_11 : decode cX5_skipBlanks 11 = .ok (.aload_n 0, 1) := by decide +kernel
theorem dX5_skipBlanks_12 : decode cX5_skipBlanks 12 = .ok (.aload_n 0, 1) := by decide +kernel
theorem dX5_skipBlanks_13 : decode cX5_skipBlanks 13 = .ok (.getfield 39, 3) := by decide +kernel
theorem dX5_skipBlanks_16 : decode cX5_skipBlanks 16 = .ok (.invokevirtual 182, 3) := by decide +kernel
theorem dX5_skipBlanks_19 : decode cX5_skipBlanks 19 = .ok (.invokestatic 189, 3) := by decide +kernel
theorem dX5_skipBlanks_22 : decode cX5_skipBlanks 22 = .ok (.ifCond .eq 16, 3) := by decide +kernel
theorem dX5_skipBlanks_25 : decode cX5_skipBlanks 25 = .ok (.aload_n 0, 1) := by decide +kernel
theorem dX5_skipBlanks_26 : decode cX5_skipBlanks 26 = .ok (.dup, 1) := by decide +kernel
theorem dX5_skipBlanks_27 : decode cX5_skipBlanks 27 = .ok (.getfield 39, 3) := by decide +kernel
theorem dX5_skipBlanks_30 : decode cX5_skipBlanks 30 = .ok (.iconst 1, 1) := by decide +kernel
theorem dX5_skipBlanks_31 : decode cX5_skipBlanks 31 = .ok (.iadd, 1) := by decide +kernel
theorem dX5_skipBlanks_32 : decode cX5_skipBlanks 32 = .ok (.putfield 39, 3) := by decide +kernel
theorem dX5_skipBlanks_35 : decode cX5_skipBlanks 35 = .ok (.goto (-35), 3) := by decide +kernel
theorem dX5_skipBlanks_38 : decode cX5_skipBlanks 38 = .ok (.return_, 1) := by decide +kernel
theorem dX5_isBlank_0 : decode cX5_isBlank 0 = .ok (.iload_n 0, 1) := by decide +kernel
theorem dX5_isBlank_1 : decode cX5_isBlank 1 = .ok (.bipush 32, 2) := by decide +kernel
theorem dX5_isBlank_3 : decode cX5_isBlank 3 = .ok (.if_icmp .eq 15, 3) := by decide +kernel
theorem dX5_isBlank_6 : decode cX5_isBlank 6 = .ok (.iload_n 0, 1) := by decide +kernel
theorem dX5_isBlank_7 : decode cX5_isBlank 7 = .ok (.bipush 9, 2) := by decide +kernel
theorem dX5_isBlank_9 : decode cX5_isBlank 9 = .ok (.if_icmp .eq 9, 3) := by decide +kernel
theorem dX5_isBlank_12 : decode cX5_isBlank 12 = .ok (.iload_n 0, 1) := by decide +kernel
theorem dX5_isBlank_13 : decode cX5_isBlank 13 = .ok (.bipush 10, 2) := by decide +kernel
theorem dX5_isBlank_15 : decode cX5_isBlank 15 = .ok (.if_icmp .ne 7, 3) := by decide +kernel
theorem dX5_isBlank_18 : decode cX5_isBlank 18 = .ok (.iconst 1, 1) := by decide +kernel
theorem dX5_isBlank_19 : decode cX5_isBlank 19 = .ok (.goto 4, 3) := by decide +kernel
theorem dX5_isBlank_22 : decode cX5_isBlank 22 = .ok (.iconst 0, 1) := by decide +kernel
theorem dX5_isBlank_23 : decode cX5_isBlank 23 = .ok (.ireturn, 1) := by decide +kernel
theorem dX5_isWord_0 : decode cX5_isWord 0 = .ok (.aload_n 0, 1) := by decide +kernel
theorem dX5_isWord_1 : decode cX5_isWord 1 = .ok (.getfield 39, 3) := by decide +kernel
theorem dX5_isWord_4 : decode cX5_isWord 4 = .ok (.aload_n 0, 1) := by decide +kernel
theorem dX5_isWord_5 : decode cX5_isWord 5 = .ok (.getfield 42, 3) := by decide +kernel
theorem dX5_isWord_8 : decode cX5_isWord 8 = .ok (.isub, 1) := by decide +kernel
theorem dX5_isWord_9 : decode cX5_isWord 9 = .ok (.aload_n 1, 1) := by decide +kernel
theorem dX5_isWord_10 : decode cX5_isWord 10 = .ok (.invokevirtual 192, 3) := by decide +kernel
theorem dX5_isWord_13 : decode cX5_isWord 13 = .ok (.if_icmp .eq 5, 3) := by decide +kernel
theorem dX5_isWord_16 : decode cX5_isWord 16 = .ok (.iconst 0, 1) := by decide +kernel
theorem dX5_isWord_17 : decode cX5_isWord 17 = .ok (.ireturn, 1) := by decide +kernel
theorem dX5_isWord_18 : decode cX5_isWord 18 = .ok (.iconst 0, 1) := by decide +kernel
theorem dX5_isWord_19 : decode cX5_isWord 19 = .ok (.istore_n 2, 1) := by decide +kernel
theorem dX5_isWord_20 : decode cX5_isWord 20 = .ok (.iload_n 2, 1) := by decide +kernel
theorem dX5_isWord_21 : decode cX5_isWord 21 = .ok (.aload_n 1, 1) := by decide +kernel
theorem dX5_isWord_22 : decode cX5_isWord 22 = .ok (.invokevirtual 192, 3) := by decide +kernel
theorem dX5_isWord_25 : decode cX5_isWord 25 = .ok (.if_icmp .ge 29, 3) := by decide +kernel
theorem dX5_isWord_28 : decode cX5_isWord 28 = .ok (.aload_n 0, 1) := by decide +kernel
theorem dX5_isWord_29 : decode cX5_isWord 29 = .ok (.aload_n 0, 1) := by decide +kernel
theorem dX5_isWord_30 : decode cX5_isWord 30 = .ok (.getfield 42, 3) := by decide +kernel
theorem dX5_isWord_33 : decode cX5_isWord 33 = .ok (.iload_n 2, 1) := by decide +kernel
theorem dX5_isWord_34 : decode cX5_isWord 34 = .ok (.iadd, 1) := by decide +kernel
theorem dX5_isWord_35 : decode cX5_isWord 35 = .ok (.invokevirtual 182, 3) := by decide +kernel
theorem dX5_isWord_38 : decode cX5_isWord 38 = .ok (.aload_n 1, 1) := by decide +kernel
theorem dX5_isWord_39 : decode cX5_isWord 39 = .ok (.iload_n 2, 1) := by decide +kernel
theorem dX5_isWord_40 : decode cX5_isWord 40 = .ok (.invokevirtual 197, 3) := by decide +kernel
theorem dX5_isWord_43 : decode cX5_isWord 43 = .ok (.if_icmp .eq 5, 3) := by decide +kernel
theorem dX5_isWord_46 : decode cX5_isWord 46 = .ok (.iconst 0, 1) := by decide +kernel
theorem dX5_isWord_47 : decode cX5_isWord 47 = .ok (.ireturn, 1) := by decide +kernel
theorem dX5_isWord_48 : decode cX5_isWord 48 = .ok (.iinc 2 1, 3) := by decide +kernel
theorem dX5_isWord_51 : decode cX5_isWord 51 = .ok (.goto (-31), 3) := by decide +kernel
theorem dX5_isWord_54 : decode cX5_isWord 54 = .ok (.iconst 1, 1) := by decide +kernel
theorem dX5_isWord_55 : decode cX5_isWord 55 = .ok (.ireturn, 1) := by decide +kernel
theorem dX5_isDigit_0 : decode cX5_isDigit 0 = .ok (.aload_n 0, 1) := by decide +kernel
theorem dX5_isDigit_1 : decode cX5_isDigit 1 = .ok (.iload_n 1, 1) := by decide +kernel
theorem dX5_isDigit_2 : decode cX5_isDigit 2 = .ok (.invokevirtual 182, 3) := by decide +kernel
theorem dX5_isDigit_5 : decode cX5_isDigit 5 = .ok (.bipush 48, 2) := by decide +kernel
theorem dX5_isDigit_7 : decode cX5_isDigit 7 = .ok (.if_icmp .lt 17, 3) := by decide +kernel
theorem dX5_isDigit_10 : decode cX5_isDigit 10 = .ok (.aload_n 0, 1) := by decide +kernel
theorem dX5_isDigit_11 : decode cX5_isDigit 11 = .ok (.iload_n 1, 1) := by decide +kernel
theorem dX5_isDigit_12 : decode cX5_isDigit 12 = .ok (.invokevirtual 182, 3) := by decide +kernel
theorem dX5_isDigit_15 : decode cX5_isDigit 15 = .ok (.bipush 57, 2) := by decide +kernel
theorem dX5_isDigit_17 : decode cX5_isDigit 17 = .ok (.if_icmp .gt 7, 3) := by decide +kernel
theorem dX5_isDigit_20 : decode cX5_isDigit 20 = .ok (.iconst 1, 1) := by decide +kernel
theorem dX5_isDigit_21 : decode cX5_isDigit 21 = .ok (.goto 4, 3) := by decide +kernel
theorem dX5_isDigit_24 : decode cX5_isDigit 24 = .ok (.iconst 0, 1) := by decide +kernel
theorem dX5_isDigit_25 : decode cX5_isDigit 25 = .ok (.ireturn, 1) := by decide +kernel
theorem dX5_isLowerCase_0 : decode cX5_isLowerCase 0 = .ok (.aload_n 0, 1) := by decide +kernel
theorem dX5_isLowerCase_1 : decode cX5_isLowerCase 1 = .ok (.iload_n 1, 1) := by decide +kernel
theorem dX5_isLowerCase_2 : decode cX5_isLowerCase 2 = .ok (.invokevirtual 182, 3) := by decide +kernel
theorem dX5_isLowerCase_5 : decode cX5_isLowerCase 5 = .ok (.bipush 97, 2) := by decide +kernel
theorem dX5_isLowerCase_7 : decode cX5_isLowerCase 7 = .ok (.if_icmp .lt 17, 3) := by decide +kernel
theorem dX5_isLowerCase_10 : decode cX5_isLowerCase 10 = .ok (.aload_n 0, 1) := by decide +kernel
theorem dX5_isLowerCase_11 : decode cX5_isLowerCase 11 = .ok (.iload_n 1, 1) := by decide +kernel
theorem dX5_isLowerCase_12 : decode cX5_isLowerCase 12 = .ok (.invokevirtual 182, 3) := by decide +kernel
theorem dX5_isLowerCase_15 : decode cX5_isLowerCase 15 = .ok (.bipush 122, 2) := by decide +kernel
theorem dX5_isLowerCase_17 : decode cX5_isLowerCase 17 = .ok (.if_icmp .gt 7, 3) := by decide +kernel
theorem dX5_isLowerCase_20 : decode cX5_isLowerCase 20 = .ok (.iconst 1, 1) := by decide +kernel
theorem dX5_isLowerCase_21 : decode cX5_isLowerCase 21 = .ok (.goto 4, 3) := by decide +kernel
theorem dX5_isLowerCase_24 : decode cX5_isLowerCase 24 = .ok (.iconst 0, 1) := by decide +kernel
theorem dX5_isLowerCase_25 : decode cX5_isLowerCase 25 = .ok (.ireturn, 1) := by decide +kernel
theorem dX5_byteAt_0 : decode cX5_byteAt 0 = .ok (.iload_n 1, 1) := by decide +kernel
theorem dX5_byteAt_1 : decode cX5_byteAt 1 = .ok (.ifCond .lt 20, 3) := by decide +kernel
theorem dX5_byteAt_4 : decode cX5_byteAt 4 = .ok (.iload_n 1, 1) := by decide +kernel
theorem dX5_byteAt_5 : decode cX5_byteAt 5 = .ok (.aload_n 0, 1) := by decide +kernel
theorem dX5_byteAt_6 : decode cX5_byteAt 6 = .ok (.getfield 36, 3) := by decide +kernel
theorem dX5_byteAt_9 : decode cX5_byteAt 9 = .ok (.if_icmp .ge 12, 3) := by decide +kernel
theorem dX5_byteAt_12 : decode cX5_byteAt 12 = .ok (.iload_n 1, 1) := by decide +kernel
theorem dX5_byteAt_13 : decode cX5_byteAt 13 = .ok (.aload_n 0, 1) := by decide +kernel
theorem dX5_byteAt_14 : decode cX5_byteAt 14 = .ok (.getfield 32, 3) := by decide +kernel
theorem dX5_byteAt_17 : decode cX5_byteAt 17 = .ok (.arraylength, 1) := by decide +kernel
theorem dX5_byteAt_18 : decode cX5_byteAt 18 = .ok (.if_icmp .lt 7, 3) := by decide +kernel
theorem dX5_byteAt_21 : decode cX5_byteAt 21 = .ok (.iconst (-1), 1) := by decide +kernel
theorem dX5_byteAt_22 : decode cX5_byteAt 22 = .ok (.goto 9, 3) := by decide +kernel
theorem dX5_byteAt_25 : decode cX5_byteAt 25 = .ok (.aload_n 0, 1) := by decide +kernel
theorem dX5_byteAt_26 : decode cX5_byteAt 26 = .ok (.getfield 32, 3) := by decide +kernel
theorem dX5_byteAt_29 : decode cX5_byteAt 29 = .ok (.iload_n 1, 1) := by decide +kernel
theorem dX5_byteAt_30 : decode cX5_byteAt 30 = .ok (.iaload, 1) := by decide +kernel
theorem dX5_byteAt_31 : decode cX5_byteAt 31 = .ok (.ireturn, 1) := by decide +kernel
theorem dX6_init_0 : decode cX6_init 0 = .ok (.aload_n 0, 1) := by decide +kernel
theorem dX6_init_1 : decode cX6_init 1 = .ok (.invokespecial 3, 3) := by decide +kernel
theorem dX6_init_4 : decode cX6_init 4 = .ok (.aload_n 0, 1) := by decide +kernel
theorem dX6_init_5 : decode cX6_init 5 = .ok (.iconst 0, 1) := by decide +kernel
theorem dX6_init_6 : decode cX6_init 6 = .ok (.putfield 9, 3) := by decide +kernel
theorem dX6_init_9 : decode cX6_init 9 = .ok (.aload_n 0, 1) := by decide +kernel
theorem dX6_init_10 : decode cX6_init 10 = .ok (.iconst 0, 1) := by decide +kernel
theorem dX6_init_11 : decode cX6_init 11 = .ok (.putfield 15, 3) := by decide +kernel
theorem dX6_init_14 : decode cX6_init 14 = .ok (.aload_n 0, 1) := by decide +kernel
theorem dX6_init_15 : decode cX6_init 15 = .ok (.sipush 300, 3) := by decide +kernel
theorem dX6_init_18 : decode cX6_init 18 = .ok (.newarray .int, 2) := by decide +kernel
theorem dX6_init_20 : decode cX6_init 20 = .ok (.putfield 18, 3) := by decide +kernel
theorem dX6_init_23 : decode cX6_init 23 = .ok (.return_, 1) := by decide +kernel
theorem dX6_clear_0 : decode cX6_clear 0 = .ok (.aload_n 0, 1) := by decide +kernel
theorem dX6_clear_1 : decode cX6_clear 1 = .ok (.iconst 0, 1) := by decide +kernel
theorem dX6_clear_2 : decode cX6_clear 2 = .ok (.putfield 9, 3) := by decide +kernel
theorem dX6_clear_5 : decode cX6_clear 5 = .ok (.aload_n 0, 1) := by decide +kernel
theorem dX6_clear_6 : decode cX6_clear 6 = .ok (.iconst 0, 1) := by decide +kernel
theorem dX6_clear_7 : decode cX6_clear 7 = .ok (.putfield 15, 3) := by decide +kernel
theorem dX6_clear_10 : decode cX6_clear 10 = .ok (.return_, 1) := by decide +kernel
theorem dX6_copyFrom_0 : decode cX6_copyFrom 0 = .ok (.aload_n 0, 1) := by decide +kernel
theorem dX6_copyFrom_1 : decode cX6_copyFrom 1 = .ok (.aload_n 1, 1) := by decide +kernel
theorem dX6_copyFrom_2 : decode cX6_copyFrom 2 = .ok (.getfield 9, 3) := by decide +kernel
theorem dX6_copyFrom_5 : decode cX6_copyFrom 5 = .ok (.putfield 9, 3) := by decide +kernel
theorem dX6_copyFrom_8 : decode cX6_copyFrom 8 = .ok (.aload_n 0, 1) := by decide +kernel
theorem dX6_copyFrom_9 : decode cX6_copyFrom 9 = .ok (.aload_n 1, 1) := by decide +kernel
theorem dX6_copyFrom_10 : decode cX6_copyFrom 10 = .ok (.getfield 15, 3) := by decide +kernel
theorem dX6_copyFrom_13 : decode cX6_copyFrom 13 = .ok (.putfield 15, 3) := by decide +kernel
theorem dX6_copyFrom_16 : decode cX6_copyFrom 16 = .ok (.aload_n 1, 1) := by decide +kernel
theorem dX6_copyFrom_17 : decode cX6_copyFrom 17 = .ok (.getfield 18, 3) := by decide +kernel
theorem dX6_copyFrom_20 : decode cX6_copyFrom 20 = .ok (.iconst 0, 1) := by decide +kernel
theorem dX6_copyFrom_21 : decode cX6_copyFrom 21 = .ok (.aload_n 0, 1) := by decide +kernel
theorem dX6_copyFrom_22 : decode cX6_copyFrom 22 = .ok (.getfield 18, 3) := by decide +kernel
theorem dX6_copyFrom_25 : decode cX6_copyFrom 25 = .ok (.iconst 0, 1) := by decide +kernel
theorem dX6_copyFrom_26 : decode cX6_copyFrom 26 = .ok (.sipush 300, 3) := by decide +kernel
theorem dX6_copyFrom_29 : decode cX6_copyFrom 29 = .ok (.invokestatic 22, 3) := by decide +kernel
theorem dX6_copyFrom_32 : decode cX6_copyFrom 32 = .ok (.return_, 1) := by decide +kernel
theorem dX6_write_0 : decode cX6_write 0 = .ok (.aload_n 0, 1) := by decide +kernel
theorem dX6_write_1 : decode cX6_write 1 = .ok (.getfield 15, 3) := by decide +kernel
theorem dX6_write_4 : decode cX6_write 4 = .ok (.ifCond .lt 12, 3) := by decide +kernel
theorem dX6_write_7 : decode cX6_write 7 = .ok (.aload_n 0, 1) := by decide +kernel
theorem dX6_write_8 : decode cX6_write 8 = .ok (.getfield 15, 3) := by decide +kernel
theorem dX6_write_11 : decode cX6_write 11 = .ok (.bipush 60, 2) := by decide +kernel
theorem dX6_write_13 : decode cX6_write 13 = .ok (.if_icmp .lt 4, 3) := by decide +kernel
theorem dX6_write_16 : decode cX6_write 16 = .ok (.return_, 1) := by decide +kernel
theorem dX6_write_17 : decode cX6_write 17 = .ok (.aload_n 0, 1) := by decide +kernel
theorem dX6_write_18 : decode cX6_write 18 = .ok (.getfield 15, 3) := by decide +kernel
theorem dX6_write_21 : decode cX6_write 21 = .ok (.iconst 5, 1) := by decide +kernel
theorem dX6_write_22 : decode cX6_write 22 = .ok (.imul, 1) := by decide +kernel
theorem dX6_write_23 : decode cX6_write 23 = .ok (.istore 6, 2) := by decide +kernel
theorem dX6_write_25 : decode cX6_write 25 = .ok (.aload_n 0, 1) := by decide +kernel
theorem dX6_write_26 : decode cX6_write 26 = .ok (.getfield 18, 3) := by decide +kernel
theorem dX6_write_29 : decode cX6_write 29 = .ok (.iload 6, 2) := by decide +kernel
theorem dX6_write_31 : decode cX6_write 31 = .ok (.iload_n 1, 1) := by decide +kernel
theorem dX6_write_32 : decode cX6_write 32 = .ok (.iastore, 1) := by decide +kernel
theorem dX6_write_33 : decode cX6_write 33 = .ok (.aload_n 0, 1) := by decide +kernel
theorem dX6_write_34 : decode cX6_write 34 = .ok (.getfield 18, 3) := by decide +kernel
theorem dX6_write_37 : decode cX6_write 37 = .ok (.iload 6, 2) := by decide +kernel
theorem dX6_write_39 : decode cX6_write 39 = .ok (.iconst 1, 1) := by decide +kernel
theorem dX6_write_40 : decode cX6_write 40 = .ok (.iadd, 1) := by decide +kernel
theorem dX6_write_41 : decode cX6_write 41 = .ok (.iload_n 2, 1) := by decide +kernel
theorem dX6_write_42 : decode cX6_write 42 = .ok (.iastore, 1) := by decide +kernel
theorem dX6_write_43 : decode cX6_write 43 = .ok (.aload_n 0, 1) := by decide +kernel
theorem dX6_write_44 : decode cX6_write 44 = .ok (.getfield 18, 3) := by decide +kernel
theorem dX6_write_47 : decode cX6_write 47 = .ok (.iload 6, 2) := by decide +kernel
theorem dX6_write_49 : decode cX6_write 49 = .ok (.iconst 2, 1) := by decide +kernel
theorem dX6_write_50 : decode cX6_write 50 = .ok (.iadd, 1) := by decide +kernel
theorem dX6_write_51 : decode cX6_write 51 = .ok (.iload_n 3, 1) := by decide +kernel
theorem dX6_write_52 : decode cX6_write 52 = .ok (.iastore, 1) := by decide +kernel
theorem dX6_write_53 : decode cX6_write 53 = .ok (.aload_n 0, 1) := by decide +kernel
theorem dX6_write_54 : decode cX6_write 54 = .ok (.getfield 18, 3) := by decide +kernel
theorem dX6_write_57 : decode cX6_write 57 = .ok (.iload 6, 2) := by decide +kernel
theorem dX6_write_59 : decode cX6_write 59 = .ok (.iconst 3, 1) := by decide +kernel
theorem dX6_write_60 : decode cX6_write 60 = .ok (.iadd, 1) := by decide +kernel
theorem dX6_write_61 : decode cX6_write 61 = .ok (.iload 4, 2) := by decide +kernel
theorem dX6_write_63 : decode cX6_write 63 = .ok (.iastore, 1) := by decide +kernel
theorem dX6_write_64 : decode cX6_write 64 = .ok (.aload_n 0, 1) := by decide +kernel
theorem dX6_write_65 : decode cX6_write 65 = .ok (.getfield 18, 3) := by decide +kernel
theorem dX6_write_68 : decode cX6_write 68 = .ok (.iload 6, 2) := by decide +kernel
theorem dX6_write_70 : decode cX6_write 70 = .ok (.iconst 4, 1) := by decide +kernel
theorem dX6_write_71 : decode cX6_write 71 = .ok (.iadd, 1) := by decide +kernel
theorem dX6_write_72 : decode cX6_write 72 = .ok (.iload 5, 2) := by decide +kernel
theorem dX6_write_74 : decode cX6_write 74 = .ok (.iastore, 1) := by decide +kernel
theorem dX6_write_75 : decode cX6_write 75 = .ok (.aload_n 0, 1) := by decide +kernel
theorem dX6_write_76 : decode cX6_write 76 = .ok (.aload_n 0, 1) := by decide +kernel
theorem dX6_write_77 : decode cX6_write 77 = .ok (.getfield 15, 3) := by decide +kernel
theorem dX6_write_80 : decode cX6_write 80 = .ok (.iconst 1, 1) := by decide +kernel
theorem dX6_write_81 : decode cX6_write 81 = .ok (.iadd, 1) := by decide +kernel
theorem dX6_write_82 : decode cX6_write 82 = .ok (.bipush 60, 2) := by decide +kernel
theorem dX6_write_84 : decode cX6_write 84 = .ok (.if_icmp .ge 12, 3) := by decide +kernel
theorem dX6_write_87 : decode cX6_write 87 = .ok (.aload_n 0, 1) := by decide +kernel
theorem dX6_write_88 : decode cX6_write 88 = .ok (.getfield 15, 3) := by decide +kernel
theorem dX6_write_91 : decode cX6_write 91 = .ok (.iconst 1, 1) := by decide +kernel
theorem dX6_write_92 : decode cX6_write 92 = .ok (.iadd, 1) := by decide +kernel
theorem dX6_write_93 : decode cX6_write 93 = .ok (.goto 4, 3) := by decide +kernel
theorem dX6_write_96 : decode cX6_write 96 = .ok (.iconst 0, 1) := by decide +kernel
theorem dX6_write_97 : decode cX6_write 97 = .ok (.putfield 15, 3) := by decide +kernel
theorem dX6_write_100 : decode cX6_write 100 = .ok (.aload_n 0, 1) := by decide +kernel
theorem dX6_write_101 : decode cX6_write 101 = .ok (.aload_n 0, 1) := by decide +kernel
theorem dX6_write_102 : decode cX6_write 102 = .ok (.getfield 9, 3) := by decide +kernel
theorem dX6_write_105 : decode cX6_write 105 = .ok (.iconst 1, 1) := by decide +kernel
theorem dX6_write_106 : decode cX6_write 106 = .ok (.iadd, 1) := by decide +kernel
theorem dX6_write_107 : decode cX6_write 107 = .ok (.bipush 60, 2) := by decide +kernel
theorem dX6_write_109 : decode cX6_write 109 = .ok (.invokestatic 28, 3) := by decide +kernel
theorem dX6_write_112 : decode cX6_write 112 = .ok (.putfield 9, 3) := by decide +kernel
theorem dX6_write_115 : decode cX6_write 115 = .ok (.return_, 1) := by decide +kernel
theorem dX6_part_0 : decode cX6_part 0 = .ok (.iload_n 1, 1) := by decide +kernel
theorem dX6_part_1 : decode cX6_part 1 = .ok (.ifCond .lt 20, 3) := by decide +kernel
theorem dX6_part_4 : decode cX6_part 4 = .ok (.iload_n 1, 1) := by decide +kernel
theorem dX6_part_5 : decode cX6_part 5 = .ok (.aload_n 0, 1) := by decide +kernel
theorem dX6_part_6 : decode cX6_part 6 = .ok (.getfield 9, 3) := by decide +kernel
theorem dX6_part_9 : decode cX6_part 9 = .ok (.if_icmp .ge 12, 3) := by decide +kernel
theorem dX6_part_12 : decode cX6_part 12 = .ok (.iload_n 2, 1) := by decide +kernel
theorem dX6_part_13 : decode cX6_part 13 = .ok (.ifCond .lt 8, 3) := by decide +kernel
theorem dX6_part_16 : decode cX6_part 16 = .ok (.iload_n 2, 1) := by decide +kernel
theorem dX6_part_17 : decode cX6_part 17 = .ok (.iconst 5, 1) := by decide +kernel
theorem dX6_part_18 : decode cX6_part 18 = .ok (.if_icmp .lt 5, 3) := by decide +kernel
theorem dX6_part_21 : decode cX6_part 21 = .ok (.iconst (-1), 1) := by decide +kernel
theorem dX6_part_22 : decode cX6_part 22 = .ok (.ireturn, 1) := by decide +kernel
theorem dX6_part_23 : decode cX6_part 23 = .ok (.aload_n 0, 1) := by decide +kernel
theorem dX6_part_24 : decode cX6_part 24 = .ok (.getfield 18, 3) := by decide +kernel
theorem dX6_part_27 : decode cX6_part 27 = .ok (.aload_n 0, 1) := by decide +kernel
theorem dX6_part_28 : decode cX6_part 28 = .ok (.getfield 15, 3) := by decide +kernel
theorem dX6_part_31 : decode cX6_part 31 = .ok (.iconst 1, 1) := by decide +kernel
theorem dX6_part_32 : decode cX6_part 32 = .ok (.isub, 1) := by decide +kernel
theorem dX6_part_33 : decode cX6_part 33 = .ok (.iload_n 1, 1) := by decide +kernel
theorem dX6_part_34 : decode cX6_part 34 = .ok (.isub, 1) := by decide +kernel
theorem dX6_part_35 : decode cX6_part 35 = .ok (.bipush 60, 2) := by decide +kernel
theorem dX6_part_37 : decode cX6_part 37 = .ok (.invokestatic 34, 3) := by decide +kernel
theorem dX6_part_40 : decode cX6_part 40 = .ok (.iconst 5, 1) := by decide +kernel
theorem dX6_part_41 : decode cX6_part 41 = .ok (.imul, 1) := by decide +kernel
theorem dX6_part_42 : decode cX6_part 42 = .ok (.iload_n 2, 1) := by decide +kernel
theorem dX6_part_43 : decode cX6_part 43 = .ok (.iadd, 1) := by decide +kernel
theorem dX6_part_44 : decode cX6_part 44 = .ok (.iaload, 1) := by decide +kernel
theorem dX6_part_45 : decode cX6_part 45 = .ok (.ireturn, 1) := by decide +kernel
theorem dX7_init_0 : decode cX7_init 0 = .ok (.aload_n 0, 1) := by decide +kernel
theorem dX7_init_1 : decode cX7_init 1 = .ok (.invokespecial 3, 3) := by decide +kernel
theorem dX7_init_4 : decode cX7_init 4 = .ok (.aload_n 0, 1) := by decide +kernel
theorem dX7_init_5 : decode cX7_init 5 = .ok (.iconst 0, 1) := by decide +kernel
theorem dX7_init_6 : decode cX7_init 6 = .ok (.putfield 9, 3) := by decide +kernel
theorem dX7_init_9 : decode cX7_init 9 = .ok (.aload_n 0, 1) := by decide +kernel
theorem dX7_init_10 : decode cX7_init 10 = .ok (.iconst 0, 1) := by decide +kernel
theorem dX7_init_11 : decode cX7_init 11 = .ok (.putfield 15, 3) := by decide +kernel
theorem dX7_init_14 : decode cX7_init 14 = .ok (.aload_n 0, 1) := by decide +kernel
theorem dX7_init_15 : decode cX7_init 15 = .ok (.bipush 10, 2) := by decide +kernel
theorem dX7_init_17 : decode cX7_init 17 = .ok (.newarray .int, 2) := by decide +kernel
theorem dX7_init_19 : decode cX7_init 19 = .ok (.putfield 18, 3) := by decide +kernel
theorem dX7_init_22 : decode cX7_init 22 = .ok (.return_, 1) := by decide +kernel
theorem dX7_begin_0 : decode cX7_begin 0 = .ok (.aload_n 0, 1) := by decide +kernel
theorem dX7_begin_1 : decode cX7_begin 1 = .ok (.iload_n 1, 1) := by decide +kernel
theorem dX7_begin_2 : decode cX7_begin 2 = .ok (.putfield 9, 3) := by decide +kernel
theorem dX7_begin_5 : decode cX7_begin 5 = .ok (.aload_n 0, 1) := by decide +kernel
theorem dX7_begin_6 : decode cX7_begin 6 = .ok (.iload_n 2, 1) := by decide +kernel
theorem dX7_begin_7 : decode cX7_begin 7 = .ok (.putfield 15, 3) := by decide +kernel
theorem dX7_begin_10 : decode cX7_begin 10 = .ok (.iconst 0, 1) := by decide +kernel
theorem dX7_begin_11 : decode cX7_begin 11 = .ok (.istore_n 3, 1) := by decide +kernel
theorem dX7_begin_12 : decode cX7_begin 12 = .ok (.iload_n 3, 1) := by decide +kernel
theorem dX7_begin_13 : decode cX7_begin 13 = .ok (.bipush 10, 2) := by decide +kernel
theorem dX7_begin_15 : decode cX7_begin 15 = .ok (.if_icmp .ge 16, 3) := by decide +kernel
theorem dX7_begin_18 : decode cX7_begin 18 = .ok (.aload_n 0, 1) := by decide +kernel
theorem dX7_begin_19 : decode cX7_begin 19 = .ok (.getfield 18, 3) := by decide +kernel
theorem dX7_begin_22 : decode cX7_begin 22 = .ok (.iload_n 3, 1) := by decide +kernel
theorem dX7_begin_23 : decode cX7_begin 23 = .ok (.iconst (-1), 1) := by decide +kernel
theorem dX7_begin_24 : decode cX7_begin 24 = .ok (.iastore, 1) := by decide +kernel
theorem dX7_begin_25 : decode cX7_begin 25 = .ok (.iinc 3 1, 3) := by decide +kernel
theorem dX7_begin_28 : decode cX7_begin 28 = .ok (.goto (-16), 3) := by decide +kernel
theorem dX7_begin_31 : decode cX7_begin 31 = .ok (.return_, 1) := by decide +kernel
theorem dX7_follow_0 : decode cX7_follow 0 = .ok (.iconst 0, 1) := by decide +kernel
theorem dX7_follow_1 : decode cX7_follow 1 = .ok (.istore 6, 2) := by decide +kernel
theorem dX7_follow_3 : decode cX7_follow 3 = .ok (.iload 6, 2) := by decide +kernel
theorem dX7_follow_5 : decode cX7_follow 5 = .ok (.iload 4, 2) := by decide +kernel
theorem dX7_follow_7 : decode cX7_follow 7 = .ok (.if_icmp .ge 48, 3) := by decide +kernel
theorem dX7_follow_10 : decode cX7_follow 10 = .ok (.aload_n 0, 1) := by decide +kernel
theorem dX7_follow_11 : decode cX7_follow 11 = .ok (.getfield 9, 3) := by decide +kernel
theorem dX7_follow_14 : decode cX7_follow 14 = .ok (.iload 5, 2) := by decide +kernel
theorem dX7_follow_16 : decode cX7_follow 16 = .ok (.iand, 1) := by decide +kernel
theorem dX7_follow_17 : decode cX7_follow 17 = .ok (.iload 5, 2) := by decide +kernel
theorem dX7_follow_19 : decode cX7_follow 19 = .ok (.if_icmp .eq 36, 3) := by decide +kernel
theorem dX7_follow_22 : decode cX7_follow 22 = .ok (.aload_n 1, 1) := by decide +kernel
theorem dX7_follow_23 : decode cX7_follow 23 = .ok (.iload_n 3, 1) := by decide +kernel
theorem dX7_follow_24 : decode cX7_follow 24 = .ok (.iload 6, 2) := by decide +kernel
theorem dX7_follow_26 : decode cX7_follow 26 = .ok (.iadd, 1) := by decide +kernel
theorem dX7_follow_27 : decode cX7_follow 27 = .ok (.invokevirtual 22, 3) := by decide +kernel
theorem dX7_follow_30 : decode cX7_follow 30 = .ok (.istore 7, 2) := by decide +kernel
theorem dX7_follow_32 : decode cX7_follow 32 = .ok (.iload 7, 2) := by decide +kernel
theorem dX7_follow_34 : decode cX7_follow 34 = .ok (.ifCond .eq 15, 3) := by decide +kernel
theorem dX7_follow_37 : decode cX7_follow 37 = .ok (.aload_n 0, 1) := by decide +kernel
theorem dX7_follow_38 : decode cX7_follow 38 = .ok (.aload_n 1, 1) := by decide +kernel
theorem dX7_follow_39 : decode cX7_follow 39 = .ok (.iload_n 2, 1) := by decide +kernel
theorem dX7_follow_40 : decode cX7_follow 40 = .ok (.iload_n 3, 1) := by decide +kernel
theorem dX7_follow_41 : decode cX7_follow 41 = .ok (.iload 6, 2) := by decide +kernel
theorem dX7_follow_43 : decode cX7_follow 43 = .ok (.iadd, 1) := by decide +kernel
theorem dX7_follow_44 : decode cX7_follow 44 = .ok (.iload 7, 2) := by decide +kernel
theorem dX7_follow_46 : decode cX7_follow 46 = .ok (.invokevirtual 28, 3) := by decide +kernel
theorem dX7_follow_49 : decode cX7_follow 49 = .ok (.iinc 6 1, 3) := by decide +kernel
theorem dX7_follow_52 : decode cX7_follow 52 = .ok (.goto (-49), 3) := by decide +kernel
theorem dX7_follow_55 : decode cX7_follow 55 = .ok (.return_, 1) := by decide +kernel
theorem dX7_lookAt_0 : decode cX7_lookAt 0 = .ok (.iconst 0, 1) := by decide +kernel
theorem dX7_lookAt_1 : decode cX7_lookAt 1 = .ok (.istore 5, 2) := by decide +kernel
theorem dX7_lookAt_3 : decode cX7_lookAt 3 = .ok (.iload 5, 2) := by decide +kernel
theorem dX7_lookAt_5 : decode cX7_lookAt 5 = .ok (.bipush 10, 2) := by decide +kernel
theorem dX7_lookAt_7 : decode cX7_lookAt 7 = .ok (.if_icmp .ge 134, 3) := by decide +kernel
theorem dX7_lookAt_10 : decode cX7_lookAt 10 = .ok (.iload 4, 2) := by decide +kernel
theorem dX7_lookAt_12 : decode cX7_lookAt 12 = .ok (.iload 5, 2) := by decide +kernel
theorem dX7_lookAt_14 : decode cX7_lookAt 14 = .ok (.invokestatic 32, 3) := by decide +kernel
theorem dX7_lookAt_17 : decode cX7_lookAt 17 = .ok (.ifCond .eq 15, 3) := by decide +kernel
theorem dX7_lookAt_20 : decode cX7_lookAt 20 = .ok (.aload_n 1, 1) := by decide +kernel
theorem dX7_lookAt_21 : decode cX7_lookAt 21 = .ok (.iload_n 3, 1) := by decide +kernel
theorem dX7_lookAt_22 : decode cX7_lookAt 22 = .ok (.iload 5, 2) := by decide +kernel
theorem dX7_lookAt_24 : decode cX7_lookAt 24 = .ok (.invokevirtual 36, 3) := by decide +kernel
theorem dX7_lookAt_27 : decode cX7_lookAt 27 = .ok (.iload_n 2, 1) := by decide +kernel
theorem dX7_lookAt_28 : decode cX7_lookAt 28 = .ok (.iand, 1) := by decide +kernel
theorem dX7_lookAt_29 : decode cX7_lookAt 29 = .ok (.goto 4, 3) := by decide +kernel
theorem dX7_lookAt_32 : decode cX7_lookAt 32 = .ok (.iconst 0, 1) := by decide +kernel
theorem dX7_lookAt_33 : decode cX7_lookAt 33 = .ok (.istore 6, 2) := by decide +kernel
theorem dX7_lookAt_35 : decode cX7_lookAt 35 = .ok (.iload 6, 2) := by decide +kernel
theorem dX7_lookAt_37 : decode cX7_lookAt 37 = .ok (.ifCond .ne 6, 3) := by decide +kernel
theorem dX7_lookAt_40 : decode cX7_lookAt 40 = .ok (.goto 95, 3) := by decide +kernel
theorem dX7_lookAt_43 : decode cX7_lookAt 43 = .ok (.aload_n 1, 1) := by decide +kernel
theorem dX7_lookAt_44 : decode cX7_lookAt 44 = .ok (.iload 5, 2) := by decide +kernel
theorem dX7_lookAt_46 : decode cX7_lookAt 46 = .ok (.invokevirtual 40, 3) := by decide +kernel
theorem dX7_lookAt_49 : decode cX7_lookAt 49 = .ok (.ifCond .ne 19, 3) := by decide +kernel
theorem dX7_lookAt_52 : decode cX7_lookAt 52 = .ok (.aload_n 0, 1) := by decide +kernel
theorem dX7_lookAt_53 : decode cX7_lookAt 53 = .ok (.aload_n 0, 1) := by decide +kernel
theorem dX7_lookAt_54 : decode cX7_lookAt 54 = .ok (.getfield 15, 3) := by decide +kernel
theorem dX7_lookAt_57 : decode cX7_lookAt 57 = .ok (.iload 6, 2) := by decide +kernel
theorem dX7_lookAt_59 : decode cX7_lookAt 59 = .ok (.invokestatic 44, 3) := by decide +kernel
theorem dX7_lookAt_62 : decode cX7_lookAt 62 = .ok (.putfield 15, 3) := by decide +kernel
theorem dX7_lookAt_65 : decode cX7_lookAt 65 = .ok (.goto 70, 3) := by decide +kernel
theorem dX7_lookAt_68 : decode cX7_lookAt 68 = .ok (.aload_n 0, 1) := by decide +kernel
theorem dX7_lookAt_69 : decode cX7_lookAt 69 = .ok (.getfield 9, 3) := by decide +kernel
theorem dX7_lookAt_72 : decode cX7_lookAt 72 = .ok (.iload 5, 2) := by decide +kernel
theorem dX7_lookAt_74 : decode cX7_lookAt 74 = .ok (.invokestatic 32, 3) := by decide +kernel
theorem dX7_lookAt_77 : decode cX7_lookAt 77 = .ok (.ifCond .ne 13, 3) := by decide +kernel
theorem dX7_lookAt_80 : decode cX7_lookAt 80 = .ok (.aload_n 0, 1) := by decide +kernel
theorem dX7_lookAt_81 : decode cX7_lookAt 81 = .ok (.getfield 15, 3) := by decide +kernel
theorem dX7_lookAt_84 : decode cX7_lookAt 84 = .ok (.iload 6, 2) := by decide +kernel
theorem dX7_lookAt_86 : decode cX7_lookAt 86 = .ok (.iand, 1) := by decide +kernel
theorem dX7_lookAt_87 : decode cX7_lookAt 87 = .ok (.ifCond .eq 48, 3) := by decide +kernel
theorem dX7_lookAt_90 : decode cX7_lookAt 90 = .ok (.aload_n 0, 1) := by decide +kernel
theorem dX7_lookAt_91 : decode cX7_lookAt 91 = .ok (.getfield 9, 3) := by decide +kernel
theorem dX7_lookAt_94 : decode cX7_lookAt 94 = .ok (.iload 5, 2) := by decide +kernel
theorem dX7_lookAt_96 : decode cX7_lookAt 96 = .ok (.invokestatic 32, 3) := by decide +kernel
theorem dX7_lookAt_99 : decode cX7_lookAt 99 = .ok (.ifCond .ne 11, 3) := by decide +kernel
theorem dX7_lookAt_102 : decode cX7_lookAt 102 = .ok (.aload_n 0, 1) := by decide +kernel
theorem dX7_lookAt_103 : decode cX7_lookAt 103 = .ok (.getfield 18, 3) := by decide +kernel
theorem dX7_lookAt_106 : decode cX7_lookAt 106 = .ok (.iload 5, 2) := by decide +kernel
theorem dX7_lookAt_108 : decode cX7_lookAt 108 = .ok (.iload_n 3, 1) := by decide +kernel
theorem dX7_lookAt_109 : decode cX7_lookAt 109 = .ok (.iastore, 1) := by decide +kernel
theorem dX7_lookAt_110 : decode cX7_lookAt 110 = .ok (.aload_n 0, 1) := by decide +kernel
theorem dX7_lookAt_111 : decode cX7_lookAt 111 = .ok (.dup, 1) := by decide +kernel
theorem dX7_lookAt_112 : decode cX7_lookAt 112 = .ok (.getfield 9, 3) := by decide +kernel
theorem dX7_lookAt_115 : decode cX7_lookAt 115 = .ok (.iload 5, 2) := by decide +kernel
theorem dX7_lookAt_117 : decode cX7_lookAt 117 = .ok (.invokestatic 47, 3) := by decide +kernel
theorem dX7_lookAt_120 : decode cX7_lookAt 120 = .ok (.ior, 1) := by decide +kernel
theorem dX7_lookAt_121 : decode cX7_lookAt 121 = .ok (.putfield 9, 3) := by decide +kernel
theorem dX7_lookAt_124 : decode cX7_lookAt 124 = .ok (.aload_n 0, 1) := by decide +kernel
theorem dX7_lookAt_125 : decode cX7_lookAt 125 = .ok (.dup, 1) := by decide +kernel
theorem dX7_lookAt_126 : decode cX7_lookAt 126 = .ok (.getfield 15, 3) := by decide +kernel
theorem dX7_lookAt_129 : decode cX7_lookAt 129 = .ok (.iload 6, 2) := by decide +kernel
theorem dX7_lookAt_131 : decode cX7_lookAt 131 = .ok (.ior, 1) := by decide +kernel
theorem dX7_lookAt_132 : decode cX7_lookAt 132 = .ok (.putfield 15, 3) := by decide +kernel
theorem dX7_lookAt_135 : decode cX7_lookAt 135 = .ok (.iinc 5 1, 3) := by decide +kernel
theorem dX7_lookAt_138 : decode cX7_lookAt 138 = .ok (.goto (-135), 3) := by decide +kernel
theorem dX7_lookAt_141 : decode cX7_lookAt 141 = .ok (.return_, 1) := by decide +kernel
theorem dX7_swapped_0 : decode cX7_swapped 0 = .ok (.iconst (-1), 1) := by decide +kernel
theorem dX7_swapped_1 : decode cX7_swapped 1 = .ok (.istore_n 2, 1) := by decide +kernel
theorem dX7_swapped_2 : decode cX7_swapped 2 = .ok (.iconst (-1), 1) := by decide +kernel
theorem dX7_swapped_3 : decode cX7_swapped 3 = .ok (.istore_n 3, 1) := by decide +kernel
theorem dX7_swapped_4 : decode cX7_swapped 4 = .ok (.iload_n 0, 1) := by decide +kernel
theorem dX7_swapped_5 : decode cX7_swapped 5 = .ok (.iload_n 1, 1) := by decide +kernel
theorem dX7_swapped_6 : decode cX7_swapped 6 = .ok (.iconst (-1), 1) := by decide +kernel
theorem dX7_swapped_7 : decode cX7_swapped 7 = .ok (.ixor, 1) := by decide +kernel
theorem dX7_swapped_8 : decode cX7_swapped 8 = .ok (.iand, 1) := by decide +kernel
theorem dX7_swapped_9 : decode cX7_swapped 9 = .ok (.istore 4, 2) := by decide +kernel
theorem dX7_swapped_11 : decode cX7_swapped 11 = .ok (.iconst 0, 1) := by decide +kernel
theorem dX7_swapped_12 : decode cX7_swapped 12 = .ok (.istore 5, 2) := by decide +kernel
theorem dX7_swapped_14 : decode cX7_swapped 14 = .ok (.iload 5, 2) := by decide +kernel
theorem dX7_swapped_16 : decode cX7_swapped 16 = .ok (.iconst 5, 1) := by decide +kernel
theorem dX7_swapped_17 : decode cX7_swapped 17 = .ok (.if_icmp .ge 50, 3) := by decide +kernel
theorem dX7_swapped_20 : decode cX7_swapped 20 = .ok (.iload_n 1, 1) := by decide +kernel
theorem dX7_swapped_21 : decode cX7_swapped 21 = .ok (.iload 5, 2) := by decide +kernel
theorem dX7_swapped_23 : decode cX7_swapped 23 = .ok (.invokestatic 32, 3) := by decide +kernel
theorem dX7_swapped_26 : decode cX7_swapped 26 = .ok (.ifCond .eq 35, 3) := by decide +kernel
theorem dX7_swapped_29 : decode cX7_swapped 29 = .ok (.iload_n 3, 1) := by decide +kernel
theorem dX7_swapped_30 : decode cX7_swapped 30 = .ok (.iconst (-1), 1) := by decide +kernel
theorem dX7_swapped_31 : decode cX7_swapped 31 = .ok (.if_icmp .ne 9, 3) := by decide +kernel
theorem dX7_swapped_34 : decode cX7_swapped 34 = .ok (.iload 5, 2) := by decide +kernel
theorem dX7_swapped_36 : decode cX7_swapped 36 = .ok (.istore_n 2, 1) := by decide +kernel
theorem dX7_swapped_37 : decode cX7_swapped 37 = .ok (.goto 21, 3) := by decide +kernel
theorem dX7_swapped_40 : decode cX7_swapped 40 = .ok (.iload_n 0, 1) := by decide +kernel
theorem dX7_swapped_41 : decode cX7_swapped 41 = .ok (.iload 5, 2) := by decide +kernel
theorem dX7_swapped_43 : decode cX7_swapped 43 = .ok (.invokestatic 32, 3) := by decide +kernel
theorem dX7_swapped_46 : decode cX7_swapped 46 = .ok (.ifCond .eq 12, 3) := by decide +kernel
theorem dX7_swapped_49 : decode cX7_swapped 49 = .ok (.iload 4, 2) := by decide +kernel
theorem dX7_swapped_51 : decode cX7_swapped 51 = .ok (.iload_n 3, 1) := by decide +kernel
theorem dX7_swapped_52 : decode cX7_swapped 52 = .ok (.invokestatic 47, 3) := by decide +kernel
theorem dX7_swapped_55 : decode cX7_swapped 55 = .ok (.ior, 1) := by decide +kernel
theorem dX7_swapped_56 : decode cX7_swapped 56 = .ok (.istore 4, 2) := by decide +kernel
theorem dX7_swapped_58 : decode cX7_swapped 58 = .ok (.iload 5, 2) := by decide +kernel
theorem dX7_swapped_60 : decode cX7_swapped 60 = .ok (.istore_n 3, 1) := by decide +kernel
theorem dX7_swapped_61 : decode cX7_swapped 61 = .ok (.iinc 5 1, 3) := by decide +kernel
theorem dX7_swapped_64 : decode cX7_swapped 64 = .ok (.goto (-50), 3) := by decide +kernel
theorem dX7_swapped_67 : decode cX7_swapped 67 = .ok (.iload_n 0, 1) := by decide +kernel
theorem dX7_swapped_68 : decode cX7_swapped 68 = .ok (.iload_n 2, 1) := by decide +kernel
theorem dX7_swapped_69 : decode cX7_swapped 69 = .ok (.invokestatic 32, 3) := by decide +kernel
theorem dX7_swapped_72 : decode cX7_swapped 72 = .ok (.ifCond .eq 13, 3) := by decide +kernel
theorem dX7_swapped_75 : decode cX7_swapped 75 = .ok (.iload 4, 2) := by decide +kernel
theorem dX7_swapped_77 : decode cX7_swapped 77 = .ok (.iload_n 3, 1) := by decide +kernel
theorem dX7_swapped_78 : decode cX7_swapped 78 = .ok (.invokestatic 47, 3) := by decide +kernel
theorem dX7_swapped_81 : decode cX7_swapped 81 = .ok (.ior, 1) := by decide +kernel
theorem dX7_swapped_82 : decode cX7_swapped 82 = .ok (.goto 5, 3) := by decide +kernel
theorem dX7_swapped_85 : decode cX7_swapped 85 = .ok (.iload 4, 2) := by decide +kernel
theorem dX7_swapped_87 : decode cX7_swapped 87 = .ok (.ireturn, 1) := by decide +kernel
theorem dX7_arrivalAt_0 : decode cX7_arrivalAt 0 = .ok (.iload_n 1, 1) := by decide +kernel
theorem dX7_arrivalAt_1 : decode cX7_arrivalAt 1 = .ok (.ifCond .lt 9, 3) := by decide +kernel
theorem dX7_arrivalAt_4 : decode cX7_arrivalAt 4 = .ok (.iload_n 1, 1) := by decide +kernel
theorem dX7_arrivalAt_5 : decode cX7_arrivalAt 5 = .ok (.bipush 10, 2) := by decide +kernel
theorem dX7_arrivalAt_7 : decode cX7_arrivalAt 7 = .ok (.if_icmp .lt 7, 3) := by decide +kernel
theorem dX7_arrivalAt_10 : decode cX7_arrivalAt 10 = .ok (.iconst (-1), 1) := by decide +kernel
theorem dX7_arrivalAt_11 : decode cX7_arrivalAt 11 = .ok (.goto 9, 3) := by decide +kernel
theorem dX7_arrivalAt_14 : decode cX7_arrivalAt 14 = .ok (.aload_n 0, 1) := by decide +kernel
theorem dX7_arrivalAt_15 : decode cX7_arrivalAt 15 = .ok (.getfield 18, 3) := by decide +kernel
theorem dX7_arrivalAt_18 : decode cX7_arrivalAt 18 = .ok (.iload_n 1, 1) := by decide +kernel
theorem dX7_arrivalAt_19 : decode cX7_arrivalAt 19 = .ok (.iaload, 1) := by decide +kernel
theorem dX7_arrivalAt_20 : decode cX7_arrivalAt 20 = .ok (.ireturn, 1) := by decide +kernel
theorem dX8_init_0 : decode cX8_init 0 = .ok (.aload_n 0, 1) := by decide +kernel
theorem dX8_init_1 : decode cX8_init 1 = .ok (.invokespecial 3, 3) := by decide +kernel
theorem dX8_init_4 : decode cX8_init 4 = .ok (.aload_n 0, 1) := by decide +kernel
theorem dX8_init_5 : decode cX8_init 5 = .ok (.iconst 0, 1) := by decide +kernel
theorem dX8_init_6 : decode cX8_init 6 = .ok (.putfield 9, 3) := by decide +kernel
theorem dX8_init_9 : decode cX8_init 9 = .ok (.aload_n 0, 1) := by decide +kernel
theorem dX8_init_10 : decode cX8_init 10 = .ok (.bipush 8, 2) := by decide +kernel
theorem dX8_init_12 : decode cX8_init 12 = .ok (.putfield 15, 3) := by decide +kernel
theorem dX8_init_15 : decode cX8_init 15 = .ok (.aload_n 0, 1) := by decide +kernel
theorem dX8_init_16 : decode cX8_init 16 = .ok (.iconst 0, 1) := by decide +kernel
theorem dX8_init_17 : decode cX8_init 17 = .ok (.putfield 18, 3) := by decide +kernel
theorem dX8_init_20 : decode cX8_init 20 = .ok (.aload_n 0, 1) := by decide +kernel
theorem dX8_init_21 : decode cX8_init 21 = .ok (.iconst 0, 1) := by decide +kernel
theorem dX8_init_22 : decode cX8_init 22 = .ok (.putfield 21, 3) := by decide +kernel
theorem dX8_init_25 : decode cX8_init 25 = .ok (.aload_n 0, 1) := by decide +kernel
theorem dX8_init_26 : decode cX8_init 26 = .ok (.iconst 5, 1) := by decide +kernel
theorem dX8_init_27 : decode cX8_init 27 = .ok (.newarray .int, 2) := by decide +kernel
theorem dX8_init_29 : decode cX8_init 29 = .ok (.putfield 24, 3) := by decide +kernel
theorem dX8_init_32 : decode cX8_init 32 = .ok (.aload_n 0, 1) := by decide +kernel
theorem dX8_init_33 : decode cX8_init 33 = .ok (.new 28, 3) := by decide +kernel
theorem dX8_init_36 : decode cX8_init 36 = .ok (.dup, 1) := by decide +kernel
theorem dX8_init_37 : decode cX8_init 37 = .ok (.invokespecial 30, 3) := by decide +kernel
theorem dX8_init_40 : decode cX8_init 40 = .ok (.putfield 31, 3) := by decide +kernel
theorem dX8_init_43 : decode cX8_init 43 = .ok (.aload_n 0, 1) := by decide +kernel
theorem dX8_init_44 : decode cX8_init 44 = .ok (.new 35, 3) := by decide +kernel
theorem dX8_init_47 : decode cX8_init 47 = .ok (.dup, 1) := by decide +kernel
theorem dX8_init_48 : decode cX8_init 48 = .ok (.invokespecial 37, 3) := by decide +kernel
theorem dX8_init_51 : decode cX8_init 51 = .ok (.putfield 38, 3) := by decide +kernel
theorem dX8_init_54 : decode cX8_init 54 = .ok (.aload_n 0, 1) := by decide +kernel
theorem dX8_init_55 : decode cX8_init 55 = .ok (.new 42, 3) := by decide +kernel
theorem dX8_init_58 : decode cX8_init 58 = .ok (.dup, 1) := by decide +kernel
theorem dX8_init_59 : decode cX8_init 59 = .ok (.invokespecial 44, 3) := by decide +kernel
theorem dX8_init_62 : decode cX8_init 62 = .ok (.putfield 45, 3) := by decide +kernel
theorem dX8_init_65 : decode cX8_init 65 = .ok (.return_, 1) := by decide +kernel
theorem dX8_clear_0 : decode cX8_clear 0 = .ok (.aload_n 0, 1) := by decide +kernel
theorem dX8_clear_1 : decode cX8_clear 1 = .ok (.iconst 0, 1) := by decide +kernel
theorem dX8_clear_2 : decode cX8_clear 2 = .ok (.putfield 9, 3) := by decide +kernel
theorem dX8_clear_5 : decode cX8_clear 5 = .ok (.aload_n 0, 1) := by decide +kernel
theorem dX8_clear_6 : decode cX8_clear 6 = .ok (.bipush 8, 2) := by decide +kernel
theorem dX8_clear_8 : decode cX8_clear 8 = .ok (.putfield 15, 3) := by decide +kernel
theorem dX8_clear_11 : decode cX8_clear 11 = .ok (.aload_n 0, 1) := by decide +kernel
theorem dX8_clear_12 : decode cX8_clear 12 = .ok (.iconst 0, 1) := by decide +kernel
theorem dX8_clear_13 : decode cX8_clear 13 = .ok (.putfield 18, 3) := by decide +kernel
theorem dX8_clear_16 : decode cX8_clear 16 = .ok (.aload_n 0, 1) := by decide +kernel
theorem dX8_clear_17 : decode cX8_clear 17 = .ok (.iconst 0, 1) := by decide +kernel
theorem dX8_clear_18 : decode cX8_clear 18 = .ok (.putfield 21, 3) := by decide +kernel
theorem dX8_clear_21 : decode cX8_clear 21 = .ok (.iconst 0, 1) := by decide +kernel
theorem dX8_clear_22 : decode cX8_clear 22 = .ok (.istore_n 1, 1) := by decide +kernel
theorem dX8_clear_23 : decode cX8_clear 23 = .ok (.iload_n 1, 1) := by decide +kernel
theorem dX8_clear_24 : decode cX8_clear 24 = .ok (.iconst 5, 1) := by decide +kernel
theorem dX8_clear_25 : decode cX8_clear 25 = .ok (.if_icmp .ge 16, 3) := by decide +kernel
theorem dX8_clear_28 : decode cX8_clear 28 = .ok (.aload_n 0, 1) := by decide +kernel
theorem dX8_clear_29 : decode cX8_clear 29 = .ok (.getfield 24, 3) := by decide +kernel
theorem dX8_clear_32 : decode cX8_clear 32 = .ok (.iload_n 1, 1) := by decide +kernel
theorem dX8_clear_33 : decode cX8_clear 33 = .ok (.iload_n 1, 1) := by decide +kernel
theorem dX8_clear_34 : decode cX8_clear 34 = .ok (.iastore, 1) := by decide +kernel
theorem dX8_clear_35 : decode cX8_clear 35 = .ok (.iinc 1 1, 3) := by decide +kernel
theorem dX8_clear_38 : decode cX8_clear 38 = .ok (.goto (-15), 3) := by decide +kernel
theorem dX8_clear_41 : decode cX8_clear 41 = .ok (.aload_n 0, 1) := by decide +kernel
theorem dX8_clear_42 : decode cX8_clear 42 = .ok (.getfield 31, 3) := by decide +kernel
theorem dX8_clear_45 : decode cX8_clear 45 = .ok (.iconst 0, 1) := by decide +kernel
theorem dX8_clear_46 : decode cX8_clear 46 = .ok (.putfield 49, 3) := by decide +kernel
theorem dX8_clear_49 : decode cX8_clear 49 = .ok (.aload_n 0, 1) := by decide +kernel
theorem dX8_clear_50 : decode cX8_clear 50 = .ok (.getfield 38, 3) := by decide +kernel
theorem dX8_clear_53 : decode cX8_clear 53 = .ok (.invokevirtual 52, 3) := by decide +kernel
theorem dX8_clear_56 : decode cX8_clear 56 = .ok (.aload_n 0, 1) := by decide +kernel
theorem dX8_clear_57 : decode cX8_clear 57 = .ok (.getfield 45, 3) := by decide +kernel
theorem dX8_clear_60 : decode cX8_clear 60 = .ok (.iconst 0, 1) := by decide +kernel
theorem dX8_clear_61 : decode cX8_clear 61 = .ok (.putfield 55, 3) := by decide +kernel
theorem dX8_clear_64 : decode cX8_clear 64 = .ok (.return_, 1) := by decide +kernel
theorem dX8_copyFrom_0 : decode cX8_copyFrom 0 = .ok (.aload_n 0, 1) := by decide +kernel
theorem dX8_copyFrom_1 : decode cX8_copyFrom 1 = .ok (.aload_n 1, 1) := by decide +kernel
theorem dX8_copyFrom_2 : decode cX8_copyFrom 2 = .ok (.getfield 9, 3) := by decide +kernel
theorem dX8_copyFrom_5 : decode cX8_copyFrom 5 = .ok (.putfield 9, 3) := by decide +kernel
theorem dX8_copyFrom_8 : decode cX8_copyFrom 8 = .ok (.aload_n 0, 1) := by decide +kernel
theorem dX8_copyFrom_9 : decode cX8_copyFrom 9 = .ok (.aload_n 1, 1) := by decide +kernel
theorem dX8_copyFrom_10 : decode cX8_copyFrom 10 = .ok (.getfield 15, 3) := by decide +kernel
theorem dX8_copyFrom_13 : decode cX8_copyFrom 13 = .ok (.putfield 15, 3) := by decide +kernel
theorem dX8_copyFrom_16 : decode cX8_copyFrom 16 = .ok (.aload_n 0, 1) := by decide +kernel
theorem dX8_copyFrom_17 : decode cX8_copyFrom 17 = .ok (.aload_n 1, 1) := by decide +kernel
theorem dX8_copyFrom_18 : decode cX8_copyFrom 18 = .ok (.getfield 18, 3) := by decide +kernel
theorem dX8_copyFrom_21 : decode cX8_copyFrom 21 = .ok (.putfield 18, 3) := by decide +kernel
theorem dX8_copyFrom_24 : decode cX8_copyFrom 24 = .ok (.aload_n 0, 1) := by decide +kernel
theorem dX8_copyFrom_25 : decode cX8_copyFrom 25 = .ok (.aload_n 1, 1) := by decide +kernel
theorem dX8_copyFrom_26 : decode cX8_copyFrom 26 = .ok (.getfield 21, 3) := by decide +kernel
theorem dX8_copyFrom_29 : decode cX8_copyFrom 29 = .ok (.putfield 21, 3) := by decide +kernel
theorem dX8_copyFrom_32 : decode cX8_copyFrom 32 = .ok (.aload_n 1, 1) := by decide +kernel
theorem dX8_copyFrom_33 : decode cX8_copyFrom 33 = .ok (.getfield 24, 3) := by decide +kernel
theorem dX8_copyFrom_36 : decode cX8_copyFrom 36 = .ok (.iconst 0, 1) := by decide +kernel
theorem dX8_copyFrom_37 : decode cX8_copyFrom 37 = .ok (.aload_n 0, 1) := by decide +kernel
theorem dX8_copyFrom_38 : decode cX8_copyFrom 38 = .ok (.getfield 24, 3) := by decide +kernel
theorem dX8_copyFrom_41 : decode cX8_copyFrom 41 = .ok (.iconst 0, 1) := by decide +kernel
theorem dX8_copyFrom_42 : decode cX8_copyFrom 42 = .ok (.iconst 5, 1) := by decide +kernel
theorem dX8_copyFrom_43 : decode cX8_copyFrom 43 = .ok (.invokestatic 56, 3) := by decide +kernel
theorem dX8_copyFrom_46 : decode cX8_copyFrom 46 = .ok (.aload_n 0, 1) := by decide +kernel
theorem dX8_copyFrom_47 : decode cX8_copyFrom 47 = .ok (.getfield 31, 3) := by decide +kernel
theorem dX8_copyFrom_50 : decode cX8_copyFrom 50 = .ok (.aload_n 1, 1) := by decide +kernel
theorem dX8_copyFrom_51 : decode cX8_copyFrom 51 = .ok (.getfield 31, 3) := by decide +kernel
theorem dX8_copyFrom_54 : decode cX8_copyFrom 54 = .ok (.invokevirtual 62, 3) := by decide +kernel
theorem dX8_copyFrom_57 : decode cX8_copyFrom 57 = .ok (.aload_n 0, 1) := by decide +kernel
theorem dX8_copyFrom_58 : decode cX8_copyFrom 58 = .ok (.getfield 38, 3) := by decide +kernel
theorem dX8_copyFrom_61 : decode cX8_copyFrom 61 = .ok (.aload_n 1, 1) := by decide +kernel
theorem dX8_copyFrom_62 : decode cX8_copyFrom 62 = .ok (.getfield 38, 3) := by decide +kernel
theorem dX8_copyFrom_65 : decode cX8_copyFrom 65 = .ok (.invokevirtual 66, 3) := by decide +kernel
theorem dX8_copyFrom_68 : decode cX8_copyFrom 68 = .ok (.aload_n 0, 1) := by decide +kernel
theorem dX8_copyFrom_69 : decode cX8_copyFrom 69 = .ok (.getfield 45, 3) := by decide +kernel
theorem dX8_copyFrom_72 : decode cX8_copyFrom 72 = .ok (.aload_n 1, 1) := by decide +kernel
theorem dX8_copyFrom_73 : decode cX8_copyFrom 73 = .ok (.getfield 45, 3) := by decide +kernel
theorem dX8_copyFrom_76 : decode cX8_copyFrom 76 = .ok (.invokevirtual 69, 3) := by decide +kernel
theorem dX8_copyFrom_79 : decode cX8_copyFrom 79 = .ok (.return_, 1) := by decide +kernel
theorem dX8_sackWith_0 : decode cX8_sackWith 0 = .ok (.iload_n 1, 1) := by decide +kernel
theorem dX8_sackWith_1 : decode cX8_sackWith 1 = .ok (.ifCond .lt 8, 3) := by decide +kernel
theorem dX8_sackWith_4 : decode cX8_sackWith 4 = .ok (.iload_n 1, 1) := by decide +kernel
theorem dX8_sackWith_5 : decode cX8_sackWith 5 = .ok (.iconst 5, 1) := by decide +kernel
theorem dX8_sackWith_6 : decode cX8_sackWith 6 = .ok (.if_icmp .lt 7, 3) := by decide +kernel
theorem dX8_sackWith_9 : decode cX8_sackWith 9 = .ok (.iconst (-1), 1) := by decide +kernel
theorem dX8_sackWith_10 : decode cX8_sackWith 10 = .ok (.goto 9, 3) := by decide +kernel
theorem dX8_sackWith_13 : decode cX8_sackWith 13 = .ok (.aload_n 0, 1) := by decide +kernel
theorem dX8_sackWith_14 : decode cX8_sackWith 14 = .ok (.getfield 24, 3) := by decide +kernel
theorem dX8_sackWith_17 : decode cX8_sackWith 17 = .ok (.iload_n 1, 1) := by decide +kernel
theorem dX8_sackWith_18 : decode cX8_sackWith 18 = .ok (.iaload, 1) := by decide +kernel
theorem dX8_sackWith_19 : decode cX8_sackWith 19 = .ok (.ireturn, 1) := by decide +kernel
theorem dX8_carrierWith_0 : decode cX8_carrierWith 0 = .ok (.iconst 0, 1) := by decide +kernel
theorem dX8_carrierWith_1 : decode cX8_carrierWith 1 = .ok (.istore_n 2, 1) := by decide +kernel
theorem dX8_carrierWith_2 : decode cX8_carrierWith 2 = .ok (.iload_n 2, 1) := by decide +kernel
theorem dX8_carrierWith_3 : decode cX8_carrierWith 3 = .ok (.iconst 5, 1) := by decide +kernel
theorem dX8_carrierWith_4 : decode cX8_carrierWith 4 = .ok (.if_icmp .ge 21, 3) := by decide +kernel
theorem dX8_carrierWith_7 : decode cX8_carrierWith 7 = .ok (.aload_n 0, 1) := by decide +kernel
theorem dX8_carrierWith_8 : decode cX8_carrierWith 8 = .ok (.getfield 24, 3) := by decide +kernel
theorem dX8_carrierWith_11 : decode cX8_carrierWith 11 = .ok (.iload_n 2, 1) := by decide +kernel
theorem dX8_carrierWith_12 : decode cX8_carrierWith 12 = .ok (.iaload, 1) := by decide +kernel
theorem dX8_carrierWith_13 : decode cX8_carrierWith 13 = .ok (.iload_n 1, 1) := by decide +kernel
theorem dX8_carrierWith_14 : decode cX8_carrierWith 14 = .ok (.if_icmp .ne 5, 3) := by decide +kernel
theorem dX8_carrierWith_17 : decode cX8_carrierWith 17 = .ok (.iload_n 2, 1) := by decide +kernel
theorem dX8_carrierWith_18 : decode cX8_carrierWith 18 = .ok (.ireturn, 1) := by decide +kernel
theorem dX8_carrierWith_19 : decode cX8_carrierWith 19 = .ok (.iinc 2 1, 3) := by decide +kernel
theorem dX8_carrierWith_22 : decode cX8_carrierWith 22 = .ok (.goto (-20), 3) := by decide +kernel
theorem dX8_carrierWith_25 : decode cX8_carrierWith 25 = .ok (.iconst (-1), 1) := by decide +kernel
theorem dX8_carrierWith_26 : decode cX8_carrierWith 26 = .ok (.ireturn, 1) := by decide +kernel
theorem dX8_holderOf_0 : decode cX8_holderOf 0 = .ok (.iload_n 1, 1) := by decide +kernel
theorem dX8_holderOf_1 : decode cX8_holderOf 1 = .ok (.ifCond .lt 27, 3) := by decide +kernel
theorem dX8_holderOf_4 : decode cX8_holderOf 4 = .ok (.iload_n 1, 1) := by decide +kernel
theorem dX8_holderOf_5 : decode cX8_holderOf 5 = .ok (.aload_n 0, 1) := by decide +kernel
theorem dX8_holderOf_6 : decode cX8_holderOf 6 = .ok (.getfield 31, 3) := by decide +kernel
theorem dX8_holderOf_9 : decode cX8_holderOf 9 = .ok (.getfield 49, 3) := by decide +kernel
theorem dX8_holderOf_12 : decode cX8_holderOf 12 = .ok (.if_icmp .ge 16, 3) := by decide +kernel
theorem dX8_holderOf_15 : decode cX8_holderOf 15 = .ok (.aload_n 0, 1) := by decide +kernel
theorem dX8_holderOf_16 : decode cX8_holderOf 16 = .ok (.getfield 31, 3) := by decide +kernel
theorem dX8_holderOf_19 : decode cX8_holderOf 19 = .ok (.getfield 72, 3) := by decide +kernel
theorem dX8_holderOf_22 : decode cX8_holderOf 22 = .ok (.iload_n 1, 1) := by decide +kernel
theorem dX8_holderOf_23 : decode cX8_holderOf 23 = .ok (.iaload, 1) := by decide +kernel
theorem dX8_holderOf_24 : decode cX8_holderOf 24 = .ok (.iconst 1, 1) := by decide +kernel
theorem dX8_holderOf_25 : decode cX8_holderOf 25 = .ok (.if_icmp .eq 5, 3) := by decide +kernel
theorem dX8_holderOf_28 : decode cX8_holderOf 28 = .ok (.iconst (-1), 1) := by decide +kernel
theorem dX8_holderOf_29 : decode cX8_holderOf 29 = .ok (.ireturn, 1) := by decide +kernel
theorem dX8_holderOf_30 : decode cX8_holderOf 30 = .ok (.aload_n 0, 1) := by decide +kernel
theorem dX8_holderOf_31 : decode cX8_holderOf 31 = .ok (.aload_n 0, 1) := by decide +kernel
theorem dX8_holderOf_32 : decode cX8_holderOf 32 = .ok (.getfield 31, 3) := by decide +kernel
theorem dX8_holderOf_35 : decode cX8_holderOf 35 = .ok (.getfield 75, 3) := by decide +kernel
theorem dX8_holderOf_38 : decode cX8_holderOf 38 = .ok (.iload_n 1, 1) := by decide +kernel
theorem dX8_holderOf_39 : decode cX8_holderOf 39 = .ok (.iaload, 1) := by decide +kernel
theorem dX8_holderOf_40 : decode cX8_holderOf 40 = .ok (.invokevirtual 78, 3) := by decide +kernel
theorem dX8_holderOf_43 : decode cX8_holderOf 43 = .ok (.ireturn, 1) := by decide +kernel
theorem dX8_rotateSacks_0 : decode cX8_rotateSacks 0 = .ok (.iconst (-1), 1) := by decide +kernel
theorem dX8_rotateSacks_1 : decode cX8_rotateSacks 1 = .ok (.istore_n 2, 1) := by decide +kernel
theorem dX8_rotateSacks_2 : decode cX8_rotateSacks 2 = .ok (.iconst (-1), 1) := by decide +kernel
theorem dX8_rotateSacks_3 : decode cX8_rotateSacks 3 = .ok (.istore_n 3, 1) := by decide +kernel
theorem dX8_rotateSacks_4 : decode cX8_rotateSacks 4 = .ok (.iconst 0, 1) := by decide +kernel
theorem dX8_rotateSacks_5 : decode cX8_rotateSacks 5 = .ok (.istore 4, 2) := by decide +kernel
theorem dX8_rotateSacks_7 : decode cX8_rotateSacks 7 = .ok (.iload 4, 2) := by decide +kernel
theorem dX8_rotateSacks_9 : decode cX8_rotateSacks 9 = .ok (.iconst 5, 1) := by decide +kernel
theorem dX8_rotateSacks_10 : decode cX8_rotateSacks 10 = .ok (.if_icmp .ge 49, 3) := by decide +kernel
theorem dX8_rotateSacks_13 : decode cX8_rotateSacks 13 = .ok (.iload_n 1, 1) := by decide +kernel
theorem dX8_rotateSacks_14 : decode cX8_rotateSacks 14 = .ok (.iload 4, 2) := by decide +kernel
theorem dX8_rotateSacks_16 : decode cX8_rotateSacks 16 = .ok (.invokestatic 82, 3) := by decide +kernel
theorem dX8_rotateSacks_19 : decode cX8_rotateSacks 19 = .ok (.ifCond .eq 34, 3) := by decide +kernel
theorem dX8_rotateSacks_22 : decode cX8_rotateSacks 22 = .ok (.iload_n 3, 1) := by decide +kernel
theorem dX8_rotateSacks_23 : decode cX8_rotateSacks 23 = .ok (.ifCond .ge 14, 3) := by decide +kernel
theorem dX8_rotateSacks_26 : decode cX8_rotateSacks 26 = .ok (.aload_n 0, 1) := by decide +kernel
theorem dX8_rotateSacks_27 : decode cX8_rotateSacks 27 = .ok (.getfield 24, 3) := by decide +kernel
theorem dX8_rotateSacks_30 : decode cX8_rotateSacks 30 = .ok (.iload 4, 2) := by decide +kernel
theorem dX8_rotateSacks_32 : decode cX8_rotateSacks 32 = .ok (.iaload, 1) := by decide +kernel
theorem dX8_rotateSacks_33 : decode cX8_rotateSacks 33 = .ok (.istore_n 2, 1) := by decide +kernel
theorem dX8_rotateSacks_34 : decode cX8_rotateSacks 34 = .ok (.goto 16, 3) := by decide +kernel
theorem dX8_rotateSacks_37 : decode cX8_rotateSacks 37 = .ok (.aload_n 0, 1) := by decide +kernel
theorem dX8_rotateSacks_38 : decode cX8_rotateSacks 38 = .ok (.getfield 24, 3) := by decide +kernel
theorem dX8_rotateSacks_41 : decode cX8_rotateSacks 41 = .ok (.iload_n 3, 1) := by decide +kernel
theorem dX8_rotateSacks_42 : decode cX8_rotateSacks 42 = .ok (.aload_n 0, 1) := by decide +kernel
theorem dX8_rotateSacks_43 : decode cX8_rotateSacks 43 = .ok (.getfield 24, 3) := by decide +kernel
theorem dX8_rotateSacks_46 : decode cX8_rotateSacks 46 = .ok (.iload 4, 2) := by decide +kernel
theorem dX8_rotateSacks_48 : decode cX8_rotateSacks 48 = .ok (.iaload, 1) := by decide +kernel
theorem dX8_rotateSacks_49 : decode cX8_rotateSacks 49 = .ok (.iastore, 1) := by decide +kernel
theorem dX8_rotateSacks_50 : decode cX8_rotateSacks 50 = .ok (.iload 4, 2) := by decide +kernel
theorem dX8_rotateSacks_52 : decode cX8_rotateSacks 52 = .ok (.istore_n 3, 1) := by decide +kernel
theorem dX8_rotateSacks_53 : decode cX8_rotateSacks 53 = .ok (.iinc 4 1, 3) := by decide +kernel
theorem dX8_rotateSacks_56 : decode cX8_rotateSacks 56 = .ok (.goto (-49), 3) := by decide +kernel
theorem dX8_rotateSacks_59 : decode cX8_rotateSacks 59 = .ok (.iload_n 3, 1) := by decide +kernel
theorem dX8_rotateSacks_60 : decode cX8_rotateSacks 60 = .ok (.ifCond .lt 10, 3) := by decide +kernel
theorem dX8_rotateSacks_63 : decode cX8_rotateSacks 63 = .ok (.aload_n 0, 1) := by decide +kernel
theorem dX8_rotateSacks_64 : decode cX8_rotateSacks 64 = .ok (.getfield 24, 3) := by decide +kernel
theorem dX8_rotateSacks_67 : decode cX8_rotateSacks 67 = .ok (.iload_n 3, 1) := by decide +kernel
theorem dX8_rotateSacks_68 : decode cX8_rotateSacks 68 = .ok (.iload_n 2, 1) := by decide +kernel
theorem dX8_rotateSacks_69 : decode cX8_rotateSacks 69 = .ok (.iastore, 1) := by decide +kernel
theorem dX8_rotateSacks_70 : decode cX8_rotateSacks 70 = .ok (.return_, 1) := by decide +kernel
theorem dX8_writeReceipt_0 : decode cX8_writeReceipt 0 = .ok (.iload_n 1, 1) := by decide +kernel
theorem dX8_writeReceipt_1 : decode cX8_writeReceipt 1 = .ok (.ifCond .lt 42, 3) := by decide +kernel
theorem dX8_writeReceipt_4 : decode cX8_writeReceipt 4 = .ok (.iload_n 1, 1) := by decide +kernel
theorem dX8_writeReceipt_5 : decode cX8_writeReceipt 5 = .ok (.aload_n 0, 1) := by decide +kernel
theorem dX8_writeReceipt_6 : decode cX8_writeReceipt 6 = .ok (.getfield 31, 3) := by decide +kernel
theorem dX8_writeReceipt_9 : decode cX8_writeReceipt 9 = .ok (.getfield 49, 3) := by decide +kernel
theorem dX8_writeReceipt_12 : decode cX8_writeReceipt 12 = .ok (.if_icmp .ge 31, 3) := by decide +kernel
theorem dX8_writeReceipt_15 : decode cX8_writeReceipt 15 = .ok (.aload_n 0, 1) := by decide +kernel
theorem dX8_writeReceipt_16 : decode cX8_writeReceipt 16 = .ok (.getfield 31, 3) := by decide +kernel
theorem dX8_writeReceipt_19 : decode cX8_writeReceipt 19 = .ok (.getfield 86, 3) := by decide +kernel
theorem dX8_writeReceipt_22 : decode cX8_writeReceipt 22 = .ok (.iload_n 1, 1) := by decide +kernel
theorem dX8_writeReceipt_23 : decode cX8_writeReceipt 23 = .ok (.iaload, 1) := by decide +kernel
theorem dX8_writeReceipt_24 : decode cX8_writeReceipt 24 = .ok (.ifCond .eq 19, 3) := by decide +kernel
theorem dX8_writeReceipt_27 : decode cX8_writeReceipt 27 = .ok (.aload_n 0, 1) := by decide +kernel
theorem dX8_writeReceipt_28 : decode cX8_writeReceipt 28 = .ok (.getfield 38, 3) := by decide +kernel
theorem dX8_writeReceipt_31 : decode cX8_writeReceipt 31 = .ok (.aload_n 0, 1) := by decide +kernel
theorem dX8_writeReceipt_32 : decode cX8_writeReceipt 32 = .ok (.getfield 9, 3) := by decide +kernel
theorem dX8_writeReceipt_35 : decode cX8_writeReceipt 35 = .ok (.iload_n 1, 1) := by decide +kernel
theorem dX8_writeReceipt_36 : decode cX8_writeReceipt 36 = .ok (.iload_n 2, 1) := by decide +kernel
theorem dX8_writeReceipt_37 : decode cX8_writeReceipt 37 = .ok (.iload_n 3, 1) := by decide +kernel
theorem dX8_writeReceipt_38 : decode cX8_writeReceipt 38 = .ok (.iload 4, 2) := by decide +kernel
theorem dX8_writeReceipt_40 : decode cX8_writeReceipt 40 = .ok (.invokevirtual 89, 3) := by decide +kernel
theorem dX8_writeReceipt_43 : decode cX8_writeReceipt 43 = .ok (.return_, 1) := by decide +kernel
theorem dX8_loseSack_0 : decode cX8_loseSack 0 = .ok (.aload_n 0, 1) := by decide +kernel
theorem dX8_loseSack_1 : decode cX8_loseSack 1 = .ok (.iload_n 1, 1) := by decide +kernel
theorem dX8_loseSack_2 : decode cX8_loseSack 2 = .ok (.invokevirtual 93, 3) := by decide +kernel
theorem dX8_loseSack_5 : decode cX8_loseSack 5 = .ok (.istore_n 2, 1) := by decide +kernel
theorem dX8_loseSack_6 : decode cX8_loseSack 6 = .ok (.aload_n 0, 1) := by decide +kernel
theorem dX8_loseSack_7 : decode cX8_loseSack 7 = .ok (.getfield 31, 3) := by decide +kernel
theorem dX8_loseSack_10 : decode cX8_loseSack 10 = .ok (.iconst 1, 1) := by decide +kernel
theorem dX8_loseSack_11 : decode cX8_loseSack 11 = .ok (.iload_n 2, 1) := by decide +kernel
theorem dX8_loseSack_12 : decode cX8_loseSack 12 = .ok (.invokevirtual 96, 3) := by decide +kernel
theorem dX8_loseSack_15 : decode cX8_loseSack 15 = .ok (.istore_n 3, 1) := by decide +kernel
theorem dX8_loseSack_16 : decode cX8_loseSack 16 = .ok (.iload_n 3, 1) := by decide +kernel
theorem dX8_loseSack_17 : decode cX8_loseSack 17 = .ok (.ifCond .ne 5, 3) := by decide +kernel
theorem dX8_loseSack_20 : decode cX8_loseSack 20 = .ok (.iconst 0, 1) := by decide +kernel
theorem dX8_loseSack_21 : decode cX8_loseSack 21 = .ok (.ireturn, 1) := by decide +kernel
theorem dX8_loseSack_22 : decode cX8_loseSack 22 = .ok (.aload_n 0, 1) := by decide +kernel
theorem dX8_loseSack_23 : decode cX8_loseSack 23 = .ok (.getfield 45, 3) := by decide +kernel
theorem dX8_loseSack_26 : decode cX8_loseSack 26 = .ok (.iload_n 1, 1) := by decide +kernel
theorem dX8_loseSack_27 : decode cX8_loseSack 27 = .ok (.aload_n 0, 1) := by decide +kernel
theorem dX8_loseSack_28 : decode cX8_loseSack 28 = .ok (.getfield 9, 3) := by decide +kernel
theorem dX8_loseSack_31 : decode cX8_loseSack 31 = .ok (.invokevirtual 100, 3) := by decide +kernel
theorem dX8_loseSack_34 : decode cX8_loseSack 34 = .ok (.istore 4, 2) := by decide +kernel
theorem dX8_loseSack_36 : decode cX8_loseSack 36 = .ok (.iconst 0, 1) := by decide +kernel
theorem dX8_loseSack_37 : decode cX8_loseSack 37 = .ok (.istore 5, 2) := by decide +kernel
theorem dX8_loseSack_39 : decode cX8_loseSack 39 = .ok (.iload 5, 2) := by decide +kernel
theorem dX8_loseSack_41 : decode cX8_loseSack 41 = .ok (.aload_n 0, 1) := by decide +kernel
theorem dX8_loseSack_42 : decode cX8_loseSack 42 = .ok (.getfield 31, 3) := by decide +kernel
theorem dX8_loseSack_45 : decode cX8_loseSack 45 = .ok (.getfield 49, 3) := by decide +kernel
theorem dX8_loseSack_48 : decode cX8_loseSack 48 = .ok (.if_icmp .ge 55, 3) := by decide +kernel
theorem dX8_loseSack_51 : decode cX8_loseSack 51 = .ok (.aload_n 0, 1) := by decide +kernel
theorem dX8_loseSack_52 : decode cX8_loseSack 52 = .ok (.getfield 31, 3) := by decide +kernel
theorem dX8_loseSack_55 : decode cX8_loseSack 55 = .ok (.iload 5, 2) := by decide +kernel
theorem dX8_loseSack_57 : decode cX8_loseSack 57 = .ok (.iconst 1, 1) := by decide +kernel
theorem dX8_loseSack_58 : decode cX8_loseSack 58 = .ok (.iload_n 2, 1) := by decide +kernel
theorem dX8_loseSack_59 : decode cX8_loseSack 59 = .ok (.invokevirtual 103, 3) := by decide +kernel
theorem dX8_loseSack_62 : decode cX8_loseSack 62 = .ok (.ifCond .eq 35, 3) := by decide +kernel
theorem dX8_loseSack_65 : decode cX8_loseSack 65 = .ok (.aload_n 0, 1) := by decide +kernel
theorem dX8_loseSack_66 : decode cX8_loseSack 66 = .ok (.getfield 31, 3) := by decide +kernel
theorem dX8_loseSack_69 : decode cX8_loseSack 69 = .ok (.getfield 72, 3) := by decide +kernel
theorem dX8_loseSack_72 : decode cX8_loseSack 72 = .ok (.iload 5, 2) := by decide +kernel
theorem dX8_loseSack_74 : decode cX8_loseSack 74 = .ok (.iconst 3, 1) := by decide +kernel
theorem dX8_loseSack_75 : decode cX8_loseSack 75 = .ok (.iastore, 1) := by decide +kernel
theorem dX8_loseSack_76 : decode cX8_loseSack 76 = .ok (.aload_n 0, 1) := by decide +kernel
theorem dX8_loseSack_77 : decode cX8_loseSack 77 = .ok (.getfield 31, 3) := by decide +kernel
theorem dX8_loseSack_80 : decode cX8_loseSack 80 = .ok (.getfield 75, 3) := by decide +kernel
theorem dX8_loseSack_83 : decode cX8_loseSack 83 = .ok (.iload 5, 2) := by decide +kernel
theorem dX8_loseSack_85 : decode cX8_loseSack 85 = .ok (.iload 4, 2) := by decide +kernel
theorem dX8_loseSack_87 : decode cX8_loseSack 87 = .ok (.iastore, 1) := by decide +kernel
theorem dX8_loseSack_88 : decode cX8_loseSack 88 = .ok (.aload_n 0, 1) := by decide +kernel
theorem dX8_loseSack_89 : decode cX8_loseSack 89 = .ok (.iload 5, 2) := by decide +kernel
theorem dX8_loseSack_91 : decode cX8_loseSack 91 = .ok (.iconst 4, 1) := by decide +kernel
theorem dX8_loseSack_92 : decode cX8_loseSack 92 = .ok (.iload_n 1, 1) := by decide +kernel
theorem dX8_loseSack_93 : decode cX8_loseSack 93 = .ok (.iconst (-1), 1) := by decide +kernel
theorem dX8_loseSack_94 : decode cX8_loseSack 94 = .ok (.invokevirtual 107, 3) := by decide +kernel
theorem dX8_loseSack_97 : decode cX8_loseSack 97 = .ok (.iinc 5 1, 3) := by decide +kernel
theorem dX8_loseSack_100 : decode cX8_loseSack 100 = .ok (.goto (-61), 3) := by decide +kernel
theorem dX8_loseSack_103 : decode cX8_loseSack 103 = .ok (.iload_n 3, 1) := by decide +kernel
theorem dX8_loseSack_104 : decode cX8_loseSack 104 = .ok (.ireturn, 1) := by decide +kernel
theorem dX8_findSack_0 : decode cX8_findSack 0 = .ok (.iconst 0, 1) := by decide +kernel
theorem dX8_findSack_1 : decode cX8_findSack 1 = .ok (.istore_n 3, 1) := by decide +kernel
theorem dX8_findSack_2 : decode cX8_findSack 2 = .ok (.iconst 0, 1) := by decide +kernel
theorem dX8_findSack_3 : decode cX8_findSack 3 = .ok (.istore 4, 2) := by decide +kernel
theorem dX8_findSack_5 : decode cX8_findSack 5 = .ok (.iload 4, 2) := by decide +kernel
theorem dX8_findSack_7 : decode cX8_findSack 7 = .ok (.aload_n 0, 1) := by decide +kernel
theorem dX8_findSack_8 : decode cX8_findSack 8 = .ok (.getfield 31, 3) := by decide +kernel
theorem dX8_findSack_11 : decode cX8_findSack 11 = .ok (.getfield 49, 3) := by decide +kernel
theorem dX8_findSack_14 : decode cX8_findSack 14 = .ok (.if_icmp .ge 78, 3) := by decide +kernel
theorem dX8_findSack_17 : decode cX8_findSack 17 = .ok (.aload_n 0, 1) := by decide +kernel
theorem dX8_findSack_18 : decode cX8_findSack 18 = .ok (.getfield 31, 3) := by decide +kernel
theorem dX8_findSack_21 : decode cX8_findSack 21 = .ok (.getfield 72, 3) := by decide +kernel
theorem dX8_findSack_24 : decode cX8_findSack 24 = .ok (.iload 4, 2) := by decide +kernel
theorem dX8_findSack_26 : decode cX8_findSack 26 = .ok (.iaload, 1) := by decide +kernel
theorem dX8_findSack_27 : decode cX8_findSack 27 = .ok (.iconst 3, 1) := by decide +kernel
theorem dX8_findSack_28 : decode cX8_findSack 28 = .ok (.if_icmp .ne 34, 3) := by decide +kernel
theorem dX8_findSack_31 : decode cX8_findSack 31 = .ok (.aload_n 0, 1) := by decide +kernel
theorem dX8_findSack_32 : decode cX8_findSack 32 = .ok (.getfield 31, 3) := by decide +kernel
theorem dX8_findSack_35 : decode cX8_findSack 35 = .ok (.getfield 75, 3) := by decide +kernel
theorem dX8_findSack_38 : decode cX8_findSack 38 = .ok (.iload 4, 2) := by decide +kernel
theorem dX8_findSack_40 : decode cX8_findSack 40 = .ok (.iaload, 1) := by decide +kernel
theorem dX8_findSack_41 : decode cX8_findSack 41 = .ok (.iload_n 1, 1) := by decide +kernel
theorem dX8_findSack_42 : decode cX8_findSack 42 = .ok (.if_icmp .le 20, 3) := by decide +kernel
theorem dX8_findSack_45 : decode cX8_findSack 45 = .ok (.aload_n 0, 1) := by decide +kernel
theorem dX8_findSack_46 : decode cX8_findSack 46 = .ok (.getfield 31, 3) := by decide +kernel
theorem dX8_findSack_49 : decode cX8_findSack 49 = .ok (.getfield 75, 3) := by decide +kernel
theorem dX8_findSack_52 : decode cX8_findSack 52 = .ok (.iload 4, 2) := by decide +kernel
theorem dX8_findSack_54 : decode cX8_findSack 54 = .ok (.dup2, 1) := by decide +kernel
theorem dX8_findSack_55 : decode cX8_findSack 55 = .ok (.iaload, 1) := by decide +kernel
theorem dX8_findSack_56 : decode cX8_findSack 56 = .ok (.iconst 1, 1) := by decide +kernel
theorem dX8_findSack_57 : decode cX8_findSack 57 = .ok (.isub, 1) := by decide +kernel
theorem dX8_findSack_58 : decode cX8_findSack 58 = .ok (.iastore, 1) := by decide +kernel
theorem dX8_findSack_59 : decode cX8_findSack 59 = .ok (.goto 27, 3) := by decide +kernel
theorem dX8_findSack_62 : decode cX8_findSack 62 = .ok (.aload_n 0, 1) := by decide +kernel
theorem dX8_findSack_63 : decode cX8_findSack 63 = .ok (.getfield 31, 3) := by decide +kernel
theorem dX8_findSack_66 : decode cX8_findSack 66 = .ok (.iload 4, 2) := by decide +kernel
theorem dX8_findSack_68 : decode cX8_findSack 68 = .ok (.iconst 3, 1) := by decide +kernel
theorem dX8_findSack_69 : decode cX8_findSack 69 = .ok (.iload_n 1, 1) := by decide +kernel
theorem dX8_findSack_70 : decode cX8_findSack 70 = .ok (.invokevirtual 103, 3) := by decide +kernel
theorem dX8_findSack_73 : decode cX8_findSack 73 = .ok (.ifCond .eq 13, 3) := by decide +kernel
theorem dX8_findSack_76 : decode cX8_findSack 76 = .ok (.iinc 3 1, 3) := by decide +kernel
theorem dX8_findSack_79 : decode cX8_findSack 79 = .ok (.aload_n 0, 1) := by decide +kernel
theorem dX8_findSack_80 : decode cX8_findSack 80 = .ok (.iload 4, 2) := by decide +kernel
theorem dX8_findSack_82 : decode cX8_findSack 82 = .ok (.iload_n 2, 1) := by decide +kernel
theorem dX8_findSack_83 : decode cX8_findSack 83 = .ok (.invokevirtual 111, 3) := by decide +kernel
theorem dX8_findSack_86 : decode cX8_findSack 86 = .ok (.iinc 4 1, 3) := by decide +kernel
theorem dX8_findSack_89 : decode cX8_findSack 89 = .ok (.goto (-84), 3) := by decide +kernel
theorem dX8_findSack_92 : decode cX8_findSack 92 = .ok (.aload_n 0, 1) := by decide +kernel
theorem dX8_findSack_93 : decode cX8_findSack 93 = .ok (.getfield 45, 3) := by decide +kernel
theorem dX8_findSack_96 : decode cX8_findSack 96 = .ok (.iload_n 1, 1) := by decide +kernel
theorem dX8_findSack_97 : decode cX8_findSack 97 = .ok (.invokevirtual 115, 3) := by decide +kernel
theorem dX8_findSack_100 : decode cX8_findSack 100 = .ok (.iload_n 3, 1) := by decide +kernel
theorem dX8_findSack_101 : decode cX8_findSack 101 = .ok (.ireturn, 1) := by decide +kernel
theorem dX8_comeBack_0 : decode cX8_comeBack 0 = .ok (.iload_n 1, 1) := by decide +kernel
theorem dX8_comeBack_1 : decode cX8_comeBack 1 = .ok (.ifCond .lt 42, 3) := by decide +kernel
theorem dX8_comeBack_4 : decode cX8_comeBack 4 = .ok (.iload_n 1, 1) := by decide +kernel
theorem dX8_comeBack_5 : decode cX8_comeBack 5 = .ok (.aload_n 0, 1) := by decide +kernel
theorem dX8_comeBack_6 : decode cX8_comeBack 6 = .ok (.getfield 31, 3) := by decide +kernel
theorem dX8_comeBack_9 : decode cX8_comeBack 9 = .ok (.getfield 49, 3) := by decide +kernel
theorem dX8_comeBack_12 : decode cX8_comeBack 12 = .ok (.if_icmp .ge 31, 3) := by decide +kernel
theorem dX8_comeBack_15 : decode cX8_comeBack 15 = .ok (.aload_n 0, 1) := by decide +kernel
theorem dX8_comeBack_16 : decode cX8_comeBack 16 = .ok (.getfield 31, 3) := by decide +kernel
theorem dX8_comeBack_19 : decode cX8_comeBack 19 = .ok (.getfield 119, 3) := by decide +kernel
theorem dX8_comeBack_22 : decode cX8_comeBack 22 = .ok (.iload_n 1, 1) := by decide +kernel
theorem dX8_comeBack_23 : decode cX8_comeBack 23 = .ok (.iaload, 1) := by decide +kernel
theorem dX8_comeBack_24 : decode cX8_comeBack 24 = .ok (.iload_n 2, 1) := by decide +kernel
theorem dX8_comeBack_25 : decode cX8_comeBack 25 = .ok (.if_icmp .ne 18, 3) := by decide +kernel
theorem dX8_comeBack_28 : decode cX8_comeBack 28 = .ok (.aload_n 0, 1) := by decide +kernel
theorem dX8_comeBack_29 : decode cX8_comeBack 29 = .ok (.getfield 31, 3) := by decide +kernel
theorem dX8_comeBack_32 : decode cX8_comeBack 32 = .ok (.iload_n 1, 1) := by decide +kernel
theorem dX8_comeBack_33 : decode cX8_comeBack 33 = .ok (.aload_n 0, 1) := by decide +kernel
theorem dX8_comeBack_34 : decode cX8_comeBack 34 = .ok (.getfield 9, 3) := by decide +kernel
theorem dX8_comeBack_37 : decode cX8_comeBack 37 = .ok (.invokevirtual 122, 3) := by decide +kernel
theorem dX8_comeBack_40 : decode cX8_comeBack 40 = .ok (.goto 12, 3) := by decide +kernel
theorem dX8_comeBack_43 : decode cX8_comeBack 43 = .ok (.aload_n 0, 1) := by decide +kernel
theorem dX8_comeBack_44 : decode cX8_comeBack 44 = .ok (.getfield 31, 3) := by decide +kernel
theorem dX8_comeBack_47 : decode cX8_comeBack 47 = .ok (.iload_n 1, 1) := by decide +kernel
theorem dX8_comeBack_48 : decode cX8_comeBack 48 = .ok (.iload_n 2, 1) := by decide +kernel
theorem dX8_comeBack_49 : decode cX8_comeBack 49 = .ok (.invokevirtual 125, 3) := by decide +kernel
theorem dX8_comeBack_52 : decode cX8_comeBack 52 = .ok (.aload_n 0, 1) := by decide +kernel
theorem dX8_comeBack_53 : decode cX8_comeBack 53 = .ok (.iload_n 1, 1) := by decide +kernel
theorem dX8_comeBack_54 : decode cX8_comeBack 54 = .ok (.iconst 5, 1) := by decide +kernel
theorem dX8_comeBack_55 : decode cX8_comeBack 55 = .ok (.iconst (-1), 1) := by decide +kernel
theorem dX8_comeBack_56 : decode cX8_comeBack 56 = .ok (.iload_n 2, 1) := by decide +kernel
theorem dX8_comeBack_57 : decode cX8_comeBack 57 = .ok (.invokevirtual 107, 3) := by decide +kernel
theorem dX8_comeBack_60 : decode cX8_comeBack 60 = .ok (.return_, 1) := by decide +kernel
theorem dX9_init_0 : decode cX9_init 0 = .ok (.aload_n 0, 1) := by decide +kernel
theorem dX9_init_1 : decode cX9_init 1 = .ok (.invokespecial 3, 3) := by decide +kernel
theorem dX9_init_4 : decode cX9_init 4 = .ok (.aload_n 0, 1) := by decide +kernel
theorem dX9_init_5 : decode cX9_init 5 = .ok (.iconst 0, 1) := by decide +kernel
theorem dX9_init_6 : decode cX9_init 6 = .ok (.putfield 9, 3) := by decide +kernel
theorem dX9_init_9 : decode cX9_init 9 = .ok (.aload_n 0, 1) := by decide +kernel
theorem dX9_init_10 : decode cX9_init 10 = .ok (.iconst 0, 1) := by decide +kernel
theorem dX9_init_11 : decode cX9_init 11 = .ok (.putfield 15, 3) := by decide +kernel
theorem dX9_init_14 : decode cX9_init 14 = .ok (.aload_n 0, 1) := by decide +kernel
theorem dX9_init_15 : decode cX9_init 15 = .ok (.iconst 0, 1) := by decide +kernel
theorem dX9_init_16 : decode cX9_init 16 = .ok (.putfield 18, 3) := by decide +kernel
theorem dX9_init_19 : decode cX9_init 19 = .ok (.aload_n 0, 1) := by decide +kernel
theorem dX9_init_20 : decode cX9_init 20 = .ok (.bipush 10, 2) := by decide +kernel
theorem dX9_init_22 : decode cX9_init 22 = .ok (.newarray .int, 2) := by decide +kernel
theorem dX9_init_24 : decode cX9_init 24 = .ok (.putfield 21, 3) := by decide +kernel
theorem dX9_init_27 : decode cX9_init 27 = .ok (.aload_n 0, 1) := by decide +kernel
theorem dX9_init_28 : decode cX9_init 28 = .ok (.iconst 5, 1) := by decide +kernel
theorem dX9_init_29 : decode cX9_init 29 = .ok (.newarray .int, 2) := by decide +kernel
theorem dX9_init_31 : decode cX9_init 31 = .ok (.putfield 25, 3) := by decide +kernel
theorem dX9_init_34 : decode cX9_init 34 = .ok (.aload_n 0, 1) := by decide +kernel
theorem dX9_init_35 : decode cX9_init 35 = .ok (.iconst 5, 1) := by decide +kernel
theorem dX9_init_36 : decode cX9_init 36 = .ok (.newarray .int, 2) := by decide +kernel
theorem dX9_init_38 : decode cX9_init 38 = .ok (.putfield 28, 3) := by decide +kernel
theorem dX9_init_41 : decode cX9_init 41 = .ok (.aload_n 0, 1) := by decide +kernel
theorem dX9_init_42 : decode cX9_init 42 = .ok (.sipush 1680, 3) := by decide +kernel
theorem dX9_init_45 : decode cX9_init 45 = .ok (.newarray .int, 2) := by decide +kernel
theorem dX9_init_47 : decode cX9_init 47 = .ok (.putfield 31, 3) := by decide +kernel
theorem dX9_init_50 : decode cX9_init 50 = .ok (.aload_n 0, 1) := by decide +kernel
theorem dX9_init_51 : decode cX9_init 51 = .ok (.sipush 168, 3) := by decide +kernel
theorem dX9_init_54 : decode cX9_init 54 = .ok (.newarray .int, 2) := by decide +kernel
theorem dX9_init_56 : decode cX9_init 56 = .ok (.putfield 34, 3) := by decide +kernel
theorem dX9_init_59 : decode cX9_init 59 = .ok (.return_, 1) := by decide +kernel
theorem dX9_clear_0 : decode cX9_clear 0 = .ok (.aload_n 0, 1) := by decide +kernel
theorem dX9_clear_1 : decode cX9_clear 1 = .ok (.iconst 0, 1) := by decide +kernel
theorem dX9_clear_2 : decode cX9_clear 2 = .ok (.putfield 9, 3) := by decide +kernel
theorem dX9_clear_5 : decode cX9_clear 5 = .ok (.aload_n 0, 1) := by decide +kernel
theorem dX9_clear_6 : decode cX9_clear 6 = .ok (.iconst 0, 1) := by decide +kernel
theorem dX9_clear_7 : decode cX9_clear 7 = .ok (.putfield 15, 3) := by decide +kernel
theorem dX9_clear_10 : decode cX9_clear 10 = .ok (.aload_n 0, 1) := by decide +kernel
theorem dX9_clear_11 : decode cX9_clear 11 = .ok (.iconst 0, 1) := by decide +kernel
theorem dX9_clear_12 : decode cX9_clear 12 = .ok (.putfield 18, 3) := by decide +kernel
theorem dX9_clear_15 : decode cX9_clear 15 = .ok (.iconst 0, 1) := by decide +kernel
theorem dX9_clear_16 : decode cX9_clear 16 = .ok (.istore_n 1, 1) := by decide +kernel
theorem dX9_clear_17 : decode cX9_clear 17 = .ok (.iload_n 1, 1) := by decide +kernel
theorem dX9_clear_18 : decode cX9_clear 18 = .ok (.aload_n 0, 1) := by decide +kernel
theorem dX9_clear_19 : decode cX9_clear 19 = .ok (.getfield 31, 3) := by decide +kernel
theorem dX9_clear_22 : decode cX9_clear 22 = .ok (.arraylength, 1) := by decide +kernel
theorem dX9_clear_23 : decode cX9_clear 23 = .ok (.if_icmp .ge 16, 3) := by decide +kernel
theorem dX9_clear_26 : decode cX9_clear 26 = .ok (.aload_n 0, 1) := by decide +kernel
theorem dX9_clear_27 : decode cX9_clear 27 = .ok (.getfield 31, 3) := by decide +kernel
theorem dX9_clear_30 : decode cX9_clear 30 = .ok (.iload_n 1, 1) := by decide +kernel
theorem dX9_clear_31 : decode cX9_clear 31 = .ok (.iconst 0, 1) := by decide +kernel
theorem dX9_clear_32 : decode cX9_clear 32 = .ok (.iastore, 1) := by decide +kernel
theorem dX9_clear_33 : decode cX9_clear 33 = .ok (.iinc 1 1, 3) := by decide +kernel
theorem dX9_clear_36 : decode cX9_clear 36 = .ok (.goto (-19), 3) := by decide +kernel
theorem dX9_clear_39 : decode cX9_clear 39 = .ok (.iconst 0, 1) := by decide +kernel
theorem dX9_clear_40 : decode cX9_clear 40 = .ok (.istore_n 1, 1) := by decide +kernel
theorem dX9_clear_41 : decode cX9_clear 41 = .ok (.iload_n 1, 1) := by decide +kernel
theorem dX9_clear_42 : decode cX9_clear 42 = .ok (.sipush 168, 3) := by decide +kernel
theorem dX9_clear_45 : decode cX9_clear 45 = .ok (.if_icmp .ge 16, 3) := by decide +kernel
theorem dX9_clear_48 : decode cX9_clear 48 = .ok (.aload_n 0, 1) := by decide +kernel
theorem dX9_clear_49 : decode cX9_clear 49 = .ok (.getfield 34, 3) := by decide +kernel
theorem dX9_clear_52 : decode cX9_clear 52 = .ok (.iload_n 1, 1) := by decide +kernel
theorem dX9_clear_53 : decode cX9_clear 53 = .ok (.iconst 0, 1) := by decide +kernel
theorem dX9_clear_54 : decode cX9_clear 54 = .ok (.iastore, 1) := by decide +kernel
theorem dX9_clear_55 : decode cX9_clear 55 = .ok (.iinc 1 1, 3) := by decide +kernel
theorem dX9_clear_58 : decode cX9_clear 58 = .ok (.goto (-17), 3) := by decide +kernel
theorem dX9_clear_61 : decode cX9_clear 61 = .ok (.return_, 1) := by decide +kernel
theorem dX9_copyFrom_0 : decode cX9_copyFrom 0 = .ok (.aload_n 0, 1) := by decide +kernel
theorem dX9_copyFrom_1 : decode cX9_copyFrom 1 = .ok (.aload_n 1, 1) := by decide +kernel
theorem dX9_copyFrom_2 : decode cX9_copyFrom 2 = .ok (.getfield 9, 3) := by decide +kernel
theorem dX9_copyFrom_5 : decode cX9_copyFrom 5 = .ok (.putfield 9, 3) := by decide +kernel
theorem dX9_copyFrom_8 : decode cX9_copyFrom 8 = .ok (.aload_n 0, 1) := by decide +kernel
theorem dX9_copyFrom_9 : decode cX9_copyFrom 9 = .ok (.aload_n 1, 1) := by decide +kernel
theorem dX9_copyFrom_10 : decode cX9_copyFrom 10 = .ok (.getfield 15, 3) := by decide +kernel
theorem dX9_copyFrom_13 : decode cX9_copyFrom 13 = .ok (.putfield 15, 3) := by decide +kernel
theorem dX9_copyFrom_16 : decode cX9_copyFrom 16 = .ok (.aload_n 0, 1) := by decide +kernel
theorem dX9_copyFrom_17 : decode cX9_copyFrom 17 = .ok (.aload_n 1, 1) := by decide +kernel
theorem dX9_copyFrom_18 : decode cX9_copyFrom 18 = .ok (.getfield 18, 3) := by decide +kernel
theorem dX9_copyFrom_21 : decode cX9_copyFrom 21 = .ok (.putfield 18, 3) := by decide +kernel
theorem dX9_copyFrom_24 : decode cX9_copyFrom 24 = .ok (.aload_n 1, 1) := by decide +kernel
theorem dX9_copyFrom_25 : decode cX9_copyFrom 25 = .ok (.getfield 21, 3) := by decide +kernel
theorem dX9_copyFrom_28 : decode cX9_copyFrom 28 = .ok (.iconst 0, 1) := by decide +kernel
theorem dX9_copyFrom_29 : decode cX9_copyFrom 29 = .ok (.aload_n 0, 1) := by decide +kernel
theorem dX9_copyFrom_30 : decode cX9_copyFrom 30 = .ok (.getfield 21, 3) := by decide +kernel
theorem dX9_copyFrom_33 : decode cX9_copyFrom 33 = .ok (.iconst 0, 1) := by decide +kernel
theorem dX9_copyFrom_34 : decode cX9_copyFrom 34 = .ok (.bipush 10, 2) := by decide +kernel
theorem dX9_copyFrom_36 : decode cX9_copyFrom 36 = .ok (.invokestatic 37, 3) := by decide +kernel
theorem dX9_copyFrom_39 : decode cX9_copyFrom 39 = .ok (.aload_n 1, 1) := by decide +kernel
theorem dX9_copyFrom_40 : decode cX9_copyFrom 40 = .ok (.getfield 25, 3) := by decide +kernel
theorem dX9_copyFrom_43 : decode cX9_copyFrom 43 = .ok (.iconst 0, 1) := by decide +kernel
theorem dX9_copyFrom_44 : decode cX9_copyFrom 44 = .ok (.aload_n 0, 1) := by decide +kernel
theorem dX9_copyFrom_45 : decode cX9_copyFrom 45 = .ok (.getfield 25, 3) := by decide +kernel
theorem dX9_copyFrom_48 : decode cX9_copyFrom 48 = .ok (.iconst 0, 1) := by decide +kernel
theorem dX9_copyFrom_49 : decode cX9_copyFrom 49 = .ok (.iconst 5, 1) := by decide +kernel
theorem dX9_copyFrom_50 : decode cX9_copyFrom 50 = .ok (.invokestatic 37, 3) := by decide +kernel
theorem dX9_copyFrom_53 : decode cX9_copyFrom 53 = .ok (.aload_n 1, 1) := by decide +kernel
theorem dX9_copyFrom_54 : decode cX9_copyFrom 54 = .ok (.getfield 28, 3) := by decide +kernel
theorem dX9_copyFrom_57 : decode cX9_copyFrom 57 = .ok (.iconst 0, 1) := by decide +kernel
theorem dX9_copyFrom_58 : decode cX9_copyFrom 58 = .ok (.aload_n 0, 1) := by decide +kernel
theorem dX9_copyFrom_59 : decode cX9_copyFrom 59 = .ok (.getfield 28, 3) := by decide +kernel
theorem dX9_copyFrom_62 : decode cX9_copyFrom 62 = .ok (.iconst 0, 1) := by decide +kernel
theorem dX9_copyFrom_63 : decode cX9_copyFrom 63 = .ok (.iconst 5, 1) := by decide +kernel
theorem dX9_copyFrom_64 : decode cX9_copyFrom 64 = .ok (.invokestatic 37, 3) := by decide +kernel
theorem dX9_copyFrom_67 : decode cX9_copyFrom 67 = .ok (.aload_n 1, 1) := by decide +kernel
theorem dX9_copyFrom_68 : decode cX9_copyFrom 68 = .ok (.getfield 31, 3) := by decide +kernel
theorem dX9_copyFrom_71 : decode cX9_copyFrom 71 = .ok (.iconst 0, 1) := by decide +kernel
theorem dX9_copyFrom_72 : decode cX9_copyFrom 72 = .ok (.aload_n 0, 1) := by decide +kernel
theorem dX9_copyFrom_73 : decode cX9_copyFrom 73 = .ok (.getfield 31, 3) := by decide +kernel
theorem dX9_copyFrom_76 : decode cX9_copyFrom 76 = .ok (.iconst 0, 1) := by decide +kernel
theorem dX9_copyFrom_77 : decode cX9_copyFrom 77 = .ok (.sipush 1680, 3) := by decide +kernel
theorem dX9_copyFrom_80 : decode cX9_copyFrom 80 = .ok (.invokestatic 37, 3) := by decide +kernel
theorem dX9_copyFrom_83 : decode cX9_copyFrom 83 = .ok (.aload_n 1, 1) := by decide +kernel
theorem dX9_copyFrom_84 : decode cX9_copyFrom 84 = .ok (.getfield 34, 3) := by decide +kernel
theorem dX9_copyFrom_87 : decode cX9_copyFrom 87 = .ok (.iconst 0, 1) := by decide +kernel
theorem dX9_copyFrom_88 : decode cX9_copyFrom 88 = .ok (.aload_n 0, 1) := by decide +kernel
theorem dX9_copyFrom_89 : decode cX9_copyFrom 89 = .ok (.getfield 34, 3) := by decide +kernel
theorem dX9_copyFrom_92 : decode cX9_copyFrom 92 = .ok (.iconst 0, 1) := by decide +kernel
theorem dX9_copyFrom_93 : decode cX9_copyFrom 93 = .ok (.sipush 168, 3) := by decide +kernel
theorem dX9_copyFrom_96 : decode cX9_copyFrom 96 = .ok (.invokestatic 37, 3) := by decide +kernel
theorem dX9_copyFrom_99 : decode cX9_copyFrom 99 = .ok (.return_, 1) := by decide +kernel
theorem dX9_addPlace_0 : decode cX9_addPlace 0 = .ok (.aload_n 0, 1) := by decide +kernel
theorem dX9_addPlace_1 : decode cX9_addPlace 1 = .ok (.getfield 9, 3) := by decide +kernel
theorem dX9_addPlace_4 : decode cX9_addPlace 4 = .ok (.bipush 10, 2) := by decide +kernel
theorem dX9_addPlace_6 : decode cX9_addPlace 6 = .ok (.if_icmp .ge 43, 3) := by decide +kernel
theorem dX9_addPlace_9 : decode cX9_addPlace 9 = .ok (.aload_n 0, 1) := by decide +kernel
theorem dX9_addPlace_10 : decode cX9_addPlace 10 = .ok (.getfield 21, 3) := by decide +kernel
theorem dX9_addPlace_13 : decode cX9_addPlace 13 = .ok (.aload_n 0, 1) := by decide +kernel
theorem dX9_addPlace_14 : decode cX9_addPlace 14 = .ok (.getfield 9, 3) := by decide +kernel
theorem dX9_addPlace_17 : decode cX9_addPlace 17 = .ok (.iload_n 1, 1) := by decide +kernel
theorem dX9_addPlace_18 : decode cX9_addPlace 18 = .ok (.iastore, 1) := by decide +kernel
theorem dX9_addPlace_19 : decode cX9_addPlace 19 = .ok (.iload_n 2, 1) := by decide +kernel
theorem dX9_addPlace_20 : decode cX9_addPlace 20 = .ok (.ifCond .eq 19, 3) := by decide +kernel
theorem dX9_addPlace_23 : decode cX9_addPlace 23 = .ok (.aload_n 0, 1) := by decide +kernel
theorem dX9_addPlace_24 : decode cX9_addPlace 24 = .ok (.dup, 1) := by decide +kernel
theorem dX9_addPlace_25 : decode cX9_addPlace 25 = .ok (.getfield 15, 3) := by decide +kernel
theorem dX9_addPlace_28 : decode cX9_addPlace 28 = .ok (.aload_n 0, 1) := by decide +kernel
theorem dX9_addPlace_29 : decode cX9_addPlace 29 = .ok (.getfield 9, 3) := by decide +kernel
theorem dX9_addPlace_32 : decode cX9_addPlace 32 = .ok (.invokestatic 43, 3) := by decide +kernel
theorem dX9_addPlace_35 : decode cX9_addPlace 35 = .ok (.ior, 1) := by decide +kernel
theorem dX9_addPlace_36 : decode cX9_addPlace 36 = .ok (.putfield 15, 3) := by decide +kernel
theorem dX9_addPlace_39 : decode cX9_addPlace 39 = .ok (.aload_n 0, 1) := by decide +kernel
theorem dX9_addPlace_40 : decode cX9_addPlace 40 = .ok (.dup, 1) := by decide +kernel
theorem dX9_addPlace_41 : decode cX9_addPlace 41 = .ok (.getfield 9, 3) := by decide +kernel
theorem dX9_addPlace_44 : decode cX9_addPlace 44 = .ok (.iconst 1, 1) := by decide +kernel
theorem dX9_addPlace_45 : decode cX9_addPlace 45 = .ok (.iadd, 1) := by decide +kernel
theorem dX9_addPlace_46 : decode cX9_addPlace 46 = .ok (.putfield 9, 3) := by decide +kernel
theorem dX9_addPlace_49 : decode cX9_addPlace 49 = .ok (.return_, 1) := by decide +kernel
theorem dX9_addCarrier_0 : decode cX9_addCarrier 0 = .ok (.aload_n 0, 1) := by decide +kernel
theorem dX9_addCarrier_1 : decode cX9_addCarrier 1 = .ok (.getfield 18, 3) := by decide +kernel
theorem dX9_addCarrier_4 : decode cX9_addCarrier 4 = .ok (.iconst 5, 1) := by decide +kernel
theorem dX9_addCarrier_5 : decode cX9_addCarrier 5 = .ok (.if_icmp .ge 33, 3) := by decide +kernel
theorem dX9_addCarrier_8 : decode cX9_addCarrier 8 = .ok (.aload_n 0, 1) := by decide +kernel
theorem dX9_addCarrier_9 : decode cX9_addCarrier 9 = .ok (.getfield 25, 3) := by decide +kernel
theorem dX9_addCarrier_12 : decode cX9_addCarrier 12 = .ok (.aload_n 0, 1) := by decide +kernel
theorem dX9_addCarrier_13 : decode cX9_addCarrier 13 = .ok (.getfield 18, 3) := by decide +kernel
theorem dX9_addCarrier_16 : decode cX9_addCarrier 16 = .ok (.iload_n 1, 1) := by decide +kernel
theorem dX9_addCarrier_17 : decode cX9_addCarrier 17 = .ok (.iastore, 1) := by decide +kernel
theorem dX9_addCarrier_18 : decode cX9_addCarrier 18 = .ok (.aload_n 0, 1) := by decide +kernel
theorem dX9_addCarrier_19 : decode cX9_addCarrier 19 = .ok (.getfield 28, 3) := by decide +kernel
theorem dX9_addCarrier_22 : decode cX9_addCarrier 22 = .ok (.aload_n 0, 1) := by decide +kernel
theorem dX9_addCarrier_23 : decode cX9_addCarrier 23 = .ok (.getfield 18, 3) := by decide +kernel
theorem dX9_addCarrier_26 : decode cX9_addCarrier 26 = .ok (.iconst 0, 1) := by decide +kernel
theorem dX9_addCarrier_27 : decode cX9_addCarrier 27 = .ok (.iastore, 1) := by decide +kernel
theorem dX9_addCarrier_28 : decode cX9_addCarrier 28 = .ok (.aload_n 0, 1) := by decide +kernel
theorem dX9_addCarrier_29 : decode cX9_addCarrier 29 = .ok (.dup, 1) := by decide +kernel
theorem dX9_addCarrier_30 : decode cX9_addCarrier 30 = .ok (.getfield 18, 3) := by decide +kernel
theorem dX9_addCarrier_33 : decode cX9_addCarrier 33 = .ok (.iconst 1, 1) := by decide +kernel
theorem dX9_addCarrier_34 : decode cX9_addCarrier 34 = .ok (.iadd, 1) := by decide +kernel
theorem dX9_addCarrier_35 : decode cX9_addCarrier 35 = .ok (.putfield 18, 3) := by decide +kernel
theorem dX9_addCarrier_38 : decode cX9_addCarrier 38 = .ok (.return_, 1) := by decide +kernel
theorem dX9_daysOfLastCarrier_0 : decode cX9_daysOfLastCarrier 0 = .ok (.aload_n 0, 1) := by decide +kernel
theorem dX9_daysOfLastCarrier_1 : decode cX9_daysOfLastCarrier 1 = .ok (.getfield 18, 3) := by decide +kernel
theorem dX9_daysOfLastCarrier_4 : decode cX9_daysOfLastCarrier 4 = .ok (.iconst 1, 1) := by decide +kernel
theorem dX9_daysOfLastCarrier_5 : decode cX9_daysOfLastCarrier 5 = .ok (.isub, 1) := by decide +kernel
theorem dX9_daysOfLastCarrier_6 : decode cX9_daysOfLastCarrier 6 = .ok (.istore_n 1, 1) := by decide +kernel
theorem dX9_daysOfLastCarrier_7 : decode cX9_daysOfLastCarrier 7 = .ok (.iload_n 1, 1) := by decide +kernel
theorem dX9_daysOfLastCarrier_8 : decode cX9_daysOfLastCarrier 8 = .ok (.ifCond .lt 8, 3) := by decide +kernel
theorem dX9_daysOfLastCarrier_11 : decode cX9_daysOfLastCarrier 11 = .ok (.iload_n 1, 1) := by decide +kernel
theorem dX9_daysOfLastCarrier_12 : decode cX9_daysOfLastCarrier 12 = .ok (.iconst 5, 1) := by decide +kernel
theorem dX9_daysOfLastCarrier_13 : decode cX9_daysOfLastCarrier 13 = .ok (.if_icmp .lt 7, 3) := by decide +kernel
theorem dX9_daysOfLastCarrier_16 : decode cX9_daysOfLastCarrier 16 = .ok (.iconst 0, 1) := by decide +kernel
theorem dX9_daysOfLastCarrier_17 : decode cX9_daysOfLastCarrier 17 = .ok (.goto 9, 3) := by decide +kernel
theorem dX9_daysOfLastCarrier_20 : decode cX9_daysOfLastCarrier 20 = .ok (.aload_n 0, 1) := by decide +kernel
theorem dX9_daysOfLastCarrier_21 : decode cX9_daysOfLastCarrier 21 = .ok (.getfield 28, 3) := by decide +kernel
theorem dX9_daysOfLastCarrier_24 : decode cX9_daysOfLastCarrier 24 = .ok (.iload_n 1, 1) := by decide +kernel
theorem dX9_daysOfLastCarrier_25 : decode cX9_daysOfLastCarrier 25 = .ok (.iaload, 1) := by decide +kernel
theorem dX9_daysOfLastCarrier_26 : decode cX9_daysOfLastCarrier 26 = .ok (.ireturn, 1) := by decide +kernel
theorem dX9_addRouteDays_0 : decode cX9_addRouteDays 0 = .ok (.aload_n 0, 1) := by decide +kernel
theorem dX9_addRouteDays_1 : decode cX9_addRouteDays 1 = .ok (.getfield 18, 3) := by decide +kernel
theorem dX9_addRouteDays_4 : decode cX9_addRouteDays 4 = .ok (.iconst 1, 1) := by decide +kernel
theorem dX9_addRouteDays_5 : decode cX9_addRouteDays 5 = .ok (.isub, 1) := by decide +kernel
theorem dX9_addRouteDays_6 : decode cX9_addRouteDays 6 = .ok (.istore_n 2, 1) := by decide +kernel
theorem dX9_addRouteDays_7 : decode cX9_addRouteDays 7 = .ok (.iload_n 2, 1) := by decide +kernel
theorem dX9_addRouteDays_8 : decode cX9_addRouteDays 8 = .ok (.ifCond .lt 18, 3) := by decide +kernel
theorem dX9_addRouteDays_11 : decode cX9_addRouteDays 11 = .ok (.iload_n 2, 1) := by decide +kernel
theorem dX9_addRouteDays_12 : decode cX9_addRouteDays 12 = .ok (.iconst 5, 1) := by decide +kernel
theorem dX9_addRouteDays_13 : decode cX9_addRouteDays 13 = .ok (.if_icmp .ge 13, 3) := by decide +kernel
theorem dX9_addRouteDays_16 : decode cX9_addRouteDays 16 = .ok (.aload_n 0, 1) := by decide +kernel
theorem dX9_addRouteDays_17 : decode cX9_addRouteDays 17 = .ok (.getfield 28, 3) := by decide +kernel
theorem dX9_addRouteDays_20 : decode cX9_addRouteDays 20 = .ok (.iload_n 2, 1) := by decide +kernel
theorem dX9_addRouteDays_21 : decode cX9_addRouteDays 21 = .ok (.dup2, 1) := by decide +kernel
theorem dX9_addRouteDays_22 : decode cX9_addRouteDays 22 = .ok (.iaload, 1) := by decide +kernel
theorem dX9_addRouteDays_23 : decode cX9_addRouteDays 23 = .ok (.iload_n 1, 1) := by decide +kernel
theorem dX9_addRouteDays_24 : decode cX9_addRouteDays 24 = .ok (.ior, 1) := by decide +kernel
theorem dX9_addRouteDays_25 : decode cX9_addRouteDays 25 = .ok (.iastore, 1) := by decide +kernel
theorem dX9_addRouteDays_26 : decode cX9_addRouteDays 26 = .ok (.return_, 1) := by decide +kernel
theorem dX9_addStop_0 : decode cX9_addStop 0 = .ok (.iconst 0, 1) := by decide +kernel
theorem dX9_addStop_1 : decode cX9_addStop 1 = .ok (.istore 4, 2) := by decide +kernel
theorem dX9_addStop_3 : decode cX9_addStop 3 = .ok (.iload 4, 2) := by decide +kernel
theorem dX9_addStop_5 : decode cX9_addStop 5 = .ok (.bipush 7, 2) := by decide +kernel
theorem dX9_addStop_7 : decode cX9_addStop 7 = .ok (.if_icmp .ge 88, 3) := by decide +kernel
theorem dX9_addStop_10 : decode cX9_addStop 10 = .ok (.iload 4, 2) := by decide +kernel
theorem dX9_addStop_12 : decode cX9_addStop 12 = .ok (.bipush 24, 2) := by decide +kernel
theorem dX9_addStop_14 : decode cX9_addStop 14 = .ok (.imul, 1) := by decide +kernel
theorem dX9_addStop_15 : decode cX9_addStop 15 = .ok (.iload_n 2, 1) := by decide +kernel
theorem dX9_addStop_16 : decode cX9_addStop 16 = .ok (.iadd, 1) := by decide +kernel
theorem dX9_addStop_17 : decode cX9_addStop 17 = .ok (.istore 5, 2) := by decide +kernel
theorem dX9_addStop_19 : decode cX9_addStop 19 = .ok (.iload_n 1, 1) := by decide +kernel
theorem dX9_addStop_20 : decode cX9_addStop 20 = .ok (.iload 4, 2) := by decide +kernel
theorem dX9_addStop_22 : decode cX9_addStop 22 = .ok (.invokestatic 47, 3) := by decide +kernel
theorem dX9_addStop_25 : decode cX9_addStop 25 = .ok (.ifCond .eq 64, 3) := by decide +kernel
theorem dX9_addStop_28 : decode cX9_addStop 28 = .ok (.iload 5, 2) := by decide +kernel
theorem dX9_addStop_30 : decode cX9_addStop 30 = .ok (.ifCond .lt 59, 3) := by decide +kernel
theorem dX9_addStop_33 : decode cX9_addStop 33 = .ok (.iload 5, 2) := by decide +kernel
theorem dX9_addStop_35 : decode cX9_addStop 35 = .ok (.sipush 168, 3) := by decide +kernel
theorem dX9_addStop_38 : decode cX9_addStop 38 = .ok (.if_icmp .ge 51, 3) := by decide +kernel
theorem dX9_addStop_41 : decode cX9_addStop 41 = .ok (.iload_n 3, 1) := by decide +kernel
theorem dX9_addStop_42 : decode cX9_addStop 42 = .ok (.ifCond .lt 47, 3) := by decide +kernel
theorem dX9_addStop_45 : decode cX9_addStop 45 = .ok (.iload_n 3, 1) := by decide +kernel
theorem dX9_addStop_46 : decode cX9_addStop 46 = .ok (.bipush 10, 2) := by decide +kernel
theorem dX9_addStop_48 : decode cX9_addStop 48 = .ok (.if_icmp .ge 41, 3) := by decide +kernel
theorem dX9_addStop_51 : decode cX9_addStop 51 = .ok (.aload_n 0, 1) := by decide +kernel
theorem dX9_addStop_52 : decode cX9_addStop 52 = .ok (.getfield 31, 3) := by decide +kernel
theorem dX9_addStop_55 : decode cX9_addStop 55 = .ok (.iload 5, 2) := by decide +kernel
theorem dX9_addStop_57 : decode cX9_addStop 57 = .ok (.bipush 10, 2) := by decide +kernel
theorem dX9_addStop_59 : decode cX9_addStop 59 = .ok (.imul, 1) := by decide +kernel
theorem dX9_addStop_60 : decode cX9_addStop 60 = .ok (.iload_n 3, 1) := by decide +kernel
theorem dX9_addStop_61 : decode cX9_addStop 61 = .ok (.iadd, 1) := by decide +kernel
theorem dX9_addStop_62 : decode cX9_addStop 62 = .ok (.dup2, 1) := by decide +kernel
theorem dX9_addStop_63 : decode cX9_addStop 63 = .ok (.iaload, 1) := by decide +kernel
theorem dX9_addStop_64 : decode cX9_addStop 64 = .ok (.aload_n 0, 1) := by decide +kernel
theorem dX9_addStop_65 : decode cX9_addStop 65 = .ok (.getfield 18, 3) := by decide +kernel
theorem dX9_addStop_68 : decode cX9_addStop 68 = .ok (.iconst 1, 1) := by decide +kernel
theorem dX9_addStop_69 : decode cX9_addStop 69 = .ok (.isub, 1) := by decide +kernel
theorem dX9_addStop_70 : decode cX9_addStop 70 = .ok (.invokestatic 43, 3) := by decide +kernel
theorem dX9_addStop_73 : decode cX9_addStop 73 = .ok (.ior, 1) := by decide +kernel
theorem dX9_addStop_74 : decode cX9_addStop 74 = .ok (.iastore, 1) := by decide +kernel
theorem dX9_addStop_75 : decode cX9_addStop 75 = .ok (.aload_n 0, 1) := by decide +kernel
theorem dX9_addStop_76 : decode cX9_addStop 76 = .ok (.getfield 34, 3) := by decide +kernel
theorem dX9_addStop_79 : decode cX9_addStop 79 = .ok (.iload 5, 2) := by decide +kernel
theorem dX9_addStop_81 : decode cX9_addStop 81 = .ok (.dup2, 1) := by decide +kernel
theorem dX9_addStop_82 : decode cX9_addStop 82 = .ok (.iaload, 1) := by decide +kernel
theorem dX9_addStop_83 : decode cX9_addStop 83 = .ok (.iload_n 3, 1) := by decide +kernel
theorem dX9_addStop_84 : decode cX9_addStop 84 = .ok (.invokestatic 43, 3) := by decide +kernel
theorem dX9_addStop_87 : decode cX9_addStop 87 = .ok (.ior, 1) := by decide +kernel
theorem dX9_addStop_88 : decode cX9_addStop 88 = .ok (.iastore, 1) := by decide +kernel
theorem dX9_addStop_89 : decode cX9_addStop 89 = .ok (.iinc 4 1, 3) := by decide +kernel
theorem dX9_addStop_92 : decode cX9_addStop 92 = .ok (.goto (-89), 3) := by decide +kernel
theorem dX9_addStop_95 : decode cX9_addStop 95 = .ok (.return_, 1) := by decide +kernel
theorem dX9_hasOffice_0 : decode cX9_hasOffice 0 = .ok (.aload_n 0, 1) := by decide +kernel
theorem dX9_hasOffice_1 : decode cX9_hasOffice 1 = .ok (.getfield 15, 3) := by decide +kernel
theorem dX9_hasOffice_4 : decode cX9_hasOffice 4 = .ok (.iload_n 1, 1) := by decide +kernel
theorem dX9_hasOffice_5 : decode cX9_hasOffice 5 = .ok (.invokestatic 47, 3) := by decide +kernel
theorem dX9_hasOffice_8 : decode cX9_hasOffice 8 = .ok (.ireturn, 1) := by decide +kernel
theorem dX9_placeOfName_0 : decode cX9_placeOfName 0 = .ok (.iconst 0, 1) := by decide +kernel
theorem dX9_placeOfName_1 : decode cX9_placeOfName 1 = .ok (.istore_n 2, 1) := by decide +kernel
theorem dX9_placeOfName_2 : decode cX9_placeOfName 2 = .ok (.iload_n 2, 1) := by decide +kernel
theorem dX9_placeOfName_3 : decode cX9_placeOfName 3 = .ok (.aload_n 0, 1) := by decide +kernel
theorem dX9_placeOfName_4 : decode cX9_placeOfName 4 = .ok (.getfield 9, 3) := by decide +kernel
theorem dX9_placeOfName_7 : decode cX9_placeOfName 7 = .ok (.if_icmp .ge 21, 3) := by decide +kernel
theorem dX9_placeOfName_10 : decode cX9_placeOfName 10 = .ok (.aload_n 0, 1) := by decide +kernel
theorem dX9_placeOfName_11 : decode cX9_placeOfName 11 = .ok (.getfield 21, 3) := by decide +kernel
theorem dX9_placeOfName_14 : decode cX9_placeOfName 14 = .ok (.iload_n 2, 1) := by decide +kernel
theorem dX9_placeOfName_15 : decode cX9_placeOfName 15 = .ok (.iaload, 1) := by decide +kernel
theorem dX9_placeOfName_16 : decode cX9_placeOfName 16 = .ok (.iload_n 1, 1) := by decide +kernel
theorem dX9_placeOfName_17 : decode cX9_placeOfName 17 = .ok (.if_icmp .ne 5, 3) := by decide +kernel
theorem dX9_placeOfName_20 : decode cX9_placeOfName 20 = .ok (.iload_n 2, 1) := by decide +kernel
theorem dX9_placeOfName_21 : decode cX9_placeOfName 21 = .ok (.ireturn, 1) := by decide +kernel
theorem dX9_placeOfName_22 : decode cX9_placeOfName 22 = .ok (.iinc 2 1, 3) := by decide +kernel
theorem dX9_placeOfName_25 : decode cX9_placeOfName 25 = .ok (.goto (-23), 3) := by decide +kernel
theorem dX9_placeOfName_28 : decode cX9_placeOfName 28 = .ok (.iconst (-1), 1) := by decide +kernel
theorem dX9_placeOfName_29 : decode cX9_placeOfName 29 = .ok (.ireturn, 1) := by decide +kernel
theorem dX9_hasCarrierNamed_0 : decode cX9_hasCarrierNamed 0 = .ok (.iconst 0, 1) := by decide +kernel
theorem dX9_hasCarrierNamed_1 : decode cX9_hasCarrierNamed 1 = .ok (.istore_n 2, 1) := by decide +kernel
theorem dX9_hasCarrierNamed_2 : decode cX9_hasCarrierNamed 2 = .ok (.iload_n 2, 1) := by decide +kernel
theorem dX9_hasCarrierNamed_3 : decode cX9_hasCarrierNamed 3 = .ok (.aload_n 0, 1) := by decide +kernel
theorem dX9_hasCarrierNamed_4 : decode cX9_hasCarrierNamed 4 = .ok (.getfield 18, 3) := by decide +kernel
theorem dX9_hasCarrierNamed_7 : decode cX9_hasCarrierNamed 7 = .ok (.if_icmp .ge 21, 3) := by decide +kernel
theorem dX9_hasCarrierNamed_10 : decode cX9_hasCarrierNamed 10 = .ok (.aload_n 0, 1) := by decide +kernel
theorem dX9_hasCarrierNamed_11 : decode cX9_hasCarrierNamed 11 = .ok (.getfield 25, 3) := by decide +kernel
theorem dX9_hasCarrierNamed_14 : decode cX9_hasCarrierNamed 14 = .ok (.iload_n 2, 1) := by decide +kernel
theorem dX9_hasCarrierNamed_15 : decode cX9_hasCarrierNamed 15 = .ok (.iaload, 1) := by decide +kernel
theorem dX9_hasCarrierNamed_16 : decode cX9_hasCarrierNamed 16 = .ok (.iload_n 1, 1) := by decide +kernel
theorem dX9_hasCarrierNamed_17 : decode cX9_hasCarrierNamed 17 = .ok (.if_icmp .ne 5, 3) := by decide +kernel
theorem dX9_hasCarrierNamed_20 : decode cX9_hasCarrierNamed 20 = .ok (.iconst 1, 1) := by decide +kernel
theorem dX9_hasCarrierNamed_21 : decode cX9_hasCarrierNamed 21 = .ok (.ireturn, 1) := by decide +kernel
theorem dX9_hasCarrierNamed_22 : decode cX9_hasCarrierNamed 22 = .ok (.iinc 2 1, 3) := by decide +kernel
theorem dX9_hasCarrierNamed_25 : decode cX9_hasCarrierNamed 25 = .ok (.goto (-23), 3) := by decide +kernel
theorem dX9_hasCarrierNamed_28 : decode cX9_hasCarrierNamed 28 = .ok (.iconst 0, 1) := by decide +kernel
theorem dX9_hasCarrierNamed_29 : decode cX9_hasCarrierNamed 29 = .ok (.ireturn, 1) := by decide +kernel
theorem dX9_nameOfPlace_0 : decode cX9_nameOfPlace 0 = .ok (.iload_n 1, 1) := by decide +kernel
theorem dX9_nameOfPlace_1 : decode cX9_nameOfPlace 1 = .ok (.ifCond .lt 11, 3) := by decide +kernel
theorem dX9_nameOfPlace_4 : decode cX9_nameOfPlace 4 = .ok (.iload_n 1, 1) := by decide +kernel
theorem dX9_nameOfPlace_5 : decode cX9_nameOfPlace 5 = .ok (.aload_n 0, 1) := by decide +kernel
theorem dX9_nameOfPlace_6 : decode cX9_nameOfPlace 6 = .ok (.getfield 9, 3) := by decide +kernel
theorem dX9_nameOfPlace_9 : decode cX9_nameOfPlace 9 = .ok (.if_icmp .lt 7, 3) := by decide +kernel
theorem dX9_nameOfPlace_12 : decode cX9_nameOfPlace 12 = .ok (.iconst 0, 1) := by decide +kernel
theorem dX9_nameOfPlace_13 : decode cX9_nameOfPlace 13 = .ok (.goto 9, 3) := by decide +kernel
theorem dX9_nameOfPlace_16 : decode cX9_nameOfPlace 16 = .ok (.aload_n 0, 1) := by decide +kernel
theorem dX9_nameOfPlace_17 : decode cX9_nameOfPlace 17 = .ok (.getfield 21, 3) := by decide +kernel
theorem dX9_nameOfPlace_20 : decode cX9_nameOfPlace 20 = .ok (.iload_n 1, 1) := by decide +kernel
theorem dX9_nameOfPlace_21 : decode cX9_nameOfPlace 21 = .ok (.iaload, 1) := by decide +kernel
theorem dX9_nameOfPlace_22 : decode cX9_nameOfPlace 22 = .ok (.ireturn, 1) := by decide +kernel
theorem dX9_nameOfCarrier_0 : decode cX9_nameOfCarrier 0 = .ok (.iload_n 1, 1) := by decide +kernel
theorem dX9_nameOfCarrier_1 : decode cX9_nameOfCarrier 1 = .ok (.ifCond .lt 11, 3) := by decide +kernel
theorem dX9_nameOfCarrier_4 : decode cX9_nameOfCarrier 4 = .ok (.iload_n 1, 1) := by decide +kernel
theorem dX9_nameOfCarrier_5 : decode cX9_nameOfCarrier 5 = .ok (.aload_n 0, 1) := by decide +kernel
theorem dX9_nameOfCarrier_6 : decode cX9_nameOfCarrier 6 = .ok (.getfield 18, 3) := by decide +kernel
theorem dX9_nameOfCarrier_9 : decode cX9_nameOfCarrier 9 = .ok (.if_icmp .lt 7, 3) := by decide +kernel
theorem dX9_nameOfCarrier_12 : decode cX9_nameOfCarrier 12 = .ok (.iconst 0, 1) := by decide +kernel
theorem dX9_nameOfCarrier_13 : decode cX9_nameOfCarrier 13 = .ok (.goto 9, 3) := by decide +kernel
theorem dX9_nameOfCarrier_16 : decode cX9_nameOfCarrier 16 = .ok (.aload_n 0, 1) := by decide +kernel
theorem dX9_nameOfCarrier_17 : decode cX9_nameOfCarrier 17 = .ok (.getfield 25, 3) := by decide +kernel
theorem dX9_nameOfCarrier_20 : decode cX9_nameOfCarrier 20 = .ok (.iload_n 1, 1) := by decide +kernel
theorem dX9_nameOfCarrier_21 : decode cX9_nameOfCarrier 21 = .ok (.iaload, 1) := by decide +kernel
theorem dX9_nameOfCarrier_22 : decode cX9_nameOfCarrier 22 = .ok (.ireturn, 1) := by decide +kernel
theorem dX9_placesAt_0 : decode cX9_placesAt 0 = .ok (.aload_n 0, 1) := by decide +kernel
theorem dX9_placesAt_1 : decode cX9_placesAt 1 = .ok (.getfield 34, 3) := by decide +kernel
theorem dX9_placesAt_4 : decode cX9_placesAt 4 = .ok (.iload_n 1, 1) := by decide +kernel
theorem dX9_placesAt_5 : decode cX9_placesAt 5 = .ok (.sipush 168, 3) := by decide +kernel
theorem dX9_placesAt_8 : decode cX9_placesAt 8 = .ok (.invokestatic 51, 3) := by decide +kernel
theorem dX9_placesAt_11 : decode cX9_placesAt 11 = .ok (.iaload, 1) := by decide +kernel
theorem dX9_placesAt_12 : decode cX9_placesAt 12 = .ok (.ireturn, 1) := by decide +kernel
theorem dX9_carriersStopping_0 : decode cX9_carriersStopping 0 = .ok (.iload_n 2, 1) := by decide +kernel
theorem dX9_carriersStopping_1 : decode cX9_carriersStopping 1 = .ok (.ifCond .lt 9, 3) := by decide +kernel
theorem dX9_carriersStopping_4 : decode cX9_carriersStopping 4 = .ok (.iload_n 2, 1) := by decide +kernel
theorem dX9_carriersStopping_5 : decode cX9_carriersStopping 5 = .ok (.bipush 10, 2) := by decide +kernel
theorem dX9_carriersStopping_7 : decode cX9_carriersStopping 7 = .ok (.if_icmp .lt 5, 3) := by decide +kernel
theorem dX9_carriersStopping_10 : decode cX9_carriersStopping 10 = .ok (.iconst 0, 1) := by decide +kernel
theorem dX9_carriersStopping_11 : decode cX9_carriersStopping 11 = .ok (.ireturn, 1) := by decide +kernel
theorem dX9_carriersStopping_12 : decode cX9_carriersStopping 12 = .ok (.aload_n 0, 1) := by decide +kernel
theorem dX9_carriersStopping_13 : decode cX9_carriersStopping 13 = .ok (.getfield 31, 3) := by decide +kernel
theorem dX9_carriersStopping_16 : decode cX9_carriersStopping 16 = .ok (.iload_n 1, 1) := by decide +kernel
theorem dX9_carriersStopping_17 : decode cX9_carriersStopping 17 = .ok (.sipush 168, 3) := by decide +kernel
theorem dX9_carriersStopping_20 : decode cX9_carriersStopping 20 = .ok (.invokestatic 51, 3) := by decide +kernel
theorem dX9_carriersStopping_23 : decode cX9_carriersStopping 23 = .ok (.bipush 10, 2) := by decide +kernel
theorem dX9_carriersStopping_25 : decode cX9_carriersStopping 25 = .ok (.imul, 1) := by decide +kernel
theorem dX9_carriersStopping_26 : decode cX9_carriersStopping 26 = .ok (.iload_n 2, 1) := by decide +kernel
theorem dX9_carriersStopping_27 : decode cX9_carriersStopping 27 = .ok (.iadd, 1) := by decide +kernel
theorem dX9_carriersStopping_28 : decode cX9_carriersStopping 28 = .ok (.iaload, 1) := by decide +kernel
theorem dX9_carriersStopping_29 : decode cX9_carriersStopping 29 = .ok (.ireturn, 1) := by decide +kernel
theorem dX9_stopPlace_0 : decode cX9_stopPlace 0 = .ok (.iconst 0, 1) := by decide +kernel
theorem dX9_stopPlace_1 : decode cX9_stopPlace 1 = .ok (.istore_n 3, 1) := by decide +kernel
theorem dX9_stopPlace_2 : decode cX9_stopPlace 2 = .ok (.iload_n 3, 1) := by decide +kernel
theorem dX9_stopPlace_3 : decode cX9_stopPlace 3 = .ok (.aload_n 0, 1) := by decide +kernel
theorem dX9_stopPlace_4 : decode cX9_stopPlace 4 = .ok (.getfield 9, 3) := by decide +kernel
theorem dX9_stopPlace_7 : decode cX9_stopPlace 7 = .ok (.if_icmp .ge 24, 3) := by decide +kernel
theorem dX9_stopPlace_10 : decode cX9_stopPlace 10 = .ok (.aload_n 0, 1) := by decide +kernel
theorem dX9_stopPlace_11 : decode cX9_stopPlace 11 = .ok (.iload_n 2, 1) := by decide +kernel
theorem dX9_stopPlace_12 : decode cX9_stopPlace 12 = .ok (.iload_n 3, 1) := by decide +kernel
theorem dX9_stopPlace_13 : decode cX9_stopPlace 13 = .ok (.invokevirtual 57, 3) := by decide +kernel
theorem dX9_stopPlace_16 : decode cX9_stopPlace 16 = .ok (.iload_n 1, 1) := by decide +kernel
theorem dX9_stopPlace_17 : decode cX9_stopPlace 17 = .ok (.invokestatic 47, 3) := by decide +kernel
theorem dX9_stopPlace_20 : decode cX9_stopPlace 20 = .ok (.ifCond .eq 5, 3) := by decide +kernel
theorem dX9_stopPlace_23 : decode cX9_stopPlace 23 = .ok (.iload_n 3, 1) := by decide +kernel
theorem dX9_stopPlace_24 : decode cX9_stopPlace 24 = .ok (.ireturn, 1) := by decide +kernel
theorem dX9_stopPlace_25 : decode cX9_stopPlace 25 = .ok (.iinc 3 1, 3) := by decide +kernel
theorem dX9_stopPlace_28 : decode cX9_stopPlace 28 = .ok (.goto (-26), 3) := by decide +kernel
theorem dX9_stopPlace_31 : decode cX9_stopPlace 31 = .ok (.iconst (-1), 1) := by decide +kernel
theorem dX9_stopPlace_32 : decode cX9_stopPlace 32 = .ok (.ireturn, 1) := by decide +kernel
theorem dX10_init_0 : decode cX10_init 0 = .ok (.aload_n 0, 1) := by decide +kernel
theorem dX10_init_1 : decode cX10_init 1 = .ok (.invokespecial 1, 3) := by decide +kernel
theorem dX10_init_4 : decode cX10_init 4 = .ok (.aload_n 0, 1) := by decide +kernel
theorem dX10_init_5 : decode cX10_init 5 = .ok (.sipush 900, 3) := by decide +kernel
theorem dX10_init_8 : decode cX10_init 8 = .ok (.newarray .int, 2) := by decide +kernel
theorem dX10_init_10 : decode cX10_init 10 = .ok (.putfield 9, 3) := by decide +kernel
theorem dX10_init_13 : decode cX10_init 13 = .ok (.aload_n 0, 1) := by decide +kernel
theorem dX10_init_14 : decode cX10_init 14 = .ok (.iconst 0, 1) := by decide +kernel
theorem dX10_init_15 : decode cX10_init 15 = .ok (.putfield 13, 3) := by decide +kernel
theorem dX10_init_18 : decode cX10_init 18 = .ok (.aload_n 0, 1) := by decide +kernel
theorem dX10_init_19 : decode cX10_init 19 = .ok (.iconst (-1), 1) := by decide +kernel
theorem dX10_init_20 : decode cX10_init 20 = .ok (.putfield 17, 3) := by decide +kernel
theorem dX10_init_23 : decode cX10_init 23 = .ok (.aload_n 0, 1) := by decide +kernel
theorem dX10_init_24 : decode cX10_init 24 = .ok (.iconst 0, 1) := by decide +kernel
theorem dX10_init_25 : decode cX10_init 25 = .ok (.putfield 20, 3) := by decide +kernel
theorem dX10_init_28 : decode cX10_init 28 = .ok (.aload_n 0, 1) := by decide +kernel
theorem dX10_init_29 : decode cX10_init 29 = .ok (.new 23, 3) := by decide +kernel
theorem dX10_init_32 : decode cX10_init 32 = .ok (.dup, 1) := by decide +kernel
theorem dX10_init_33 : decode cX10_init 33 = .ok (.invokespecial 25, 3) := by decide +kernel
theorem dX10_init_36 : decode cX10_init 36 = .ok (.putfield 26, 3) := by decide +kernel
theorem dX10_init_39 : decode cX10_init 39 = .ok (.aload_n 0, 1) := by decide +kernel
theorem dX10_init_40 : decode cX10_init 40 = .ok (.new 30, 3) := by decide +kernel
theorem dX10_init_43 : decode cX10_init 43 = .ok (.dup, 1) := by decide +kernel
theorem dX10_init_44 : decode cX10_init 44 = .ok (.invokespecial 32, 3) := by decide +kernel
theorem dX10_init_47 : decode cX10_init 47 = .ok (.putfield 33, 3) := by decide +kernel
theorem dX10_init_50 : decode cX10_init 50 = .ok (.aload_n 0, 1) := by decide +kernel
theorem dX10_init_51 : decode cX10_init 51 = .ok (.new 37, 3) := by decide +kernel
theorem dX10_init_54 : decode cX10_init 54 = .ok (.dup, 1) := by decide +kernel
theorem dX10_init_55 : decode cX10_init 55 = .ok (.invokespecial 39, 3) := by decide +kernel
theorem dX10_init_58 : decode cX10_init 58 = .ok (.putfield 40, 3) := by decide +kernel
theorem dX10_init_61 : decode cX10_init 61 = .ok (.aload_n 0, 1) := by decide +kernel
theorem dX10_init_62 : decode cX10_init 62 = .ok (.new 44, 3) := by decide +kernel
theorem dX10_init_65 : decode cX10_init 65 = .ok (.dup, 1) := by decide +kernel
theorem dX10_init_66 : decode cX10_init 66 = .ok (.invokespecial 46, 3) := by decide +kernel
theorem dX10_init_69 : decode cX10_init 69 = .ok (.putfield 47, 3) := by decide +kernel
theorem dX10_init_72 : decode cX10_init 72 = .ok (.aload_n 0, 1) := by decide +kernel
theorem dX10_init_73 : decode cX10_init 73 = .ok (.new 51, 3) := by decide +kernel
theorem dX10_init_76 : decode cX10_init 76 = .ok (.dup, 1) := by decide +kernel
theorem dX10_init_77 : decode cX10_init 77 = .ok (.invokespecial 53, 3) := by decide +kernel
theorem dX10_init_80 : decode cX10_init 80 = .ok (.putfield 54, 3) := by decide +kernel
theorem dX10_init_83 : decode cX10_init 83 = .ok (.aload_n 0, 1) := by decide +kernel
theorem dX10_init_84 : decode cX10_init 84 = .ok (.new 58, 3) := by decide +kernel
theorem dX10_init_87 : decode cX10_init 87 = .ok (.dup, 1) := by decide +kernel
theorem dX10_init_88 : decode cX10_init 88 = .ok (.invokespecial 60, 3) := by decide +kernel
theorem dX10_init_91 : decode cX10_init 91 = .ok (.putfield 61, 3) := by decide +kernel
theorem dX10_init_94 : decode cX10_init 94 = .ok (.aload_n 0, 1) := by decide +kernel
theorem dX10_init_95 : decode cX10_init 95 = .ok (.new 65, 3) := by decide +kernel
theorem dX10_init_98 : decode cX10_init 98 = .ok (.dup, 1) := by decide +kernel
theorem dX10_init_99 : decode cX10_init 99 = .ok (.invokespecial 67, 3) := by decide +kernel
theorem dX10_init_102 : decode cX10_init 102 = .ok (.putfield 68, 3) := by decide +kernel
theorem dX10_init_105 : decode cX10_init 105 = .ok (.return_, 1) := by decide +kernel
theorem dX10_append_0 : decode cX10_append 0 = .ok (.aload_n 0, 1) := by decide +kernel
theorem dX10_append_1 : decode cX10_append 1 = .ok (.getfield 13, 3) := by decide +kernel
theorem dX10_append_4 : decode cX10_append 4 = .ok (.bipush 20, 2) := by decide +kernel
theorem dX10_append_6 : decode cX10_append 6 = .ok (.iadd, 1) := by decide +kernel
theorem dX10_append_7 : decode cX10_append 7 = .ok (.sipush 900, 3) := by decide +kernel
theorem dX10_append_10 : decode cX10_append 10 = .ok (.if_icmp .le 5, 3) := by decide +kernel
theorem dX10_append_13 : decode cX10_append 13 = .ok (.iconst (-1), 1) := by decide +kernel
theorem dX10_append_14 : decode cX10_append 14 = .ok (.ireturn, 1) := by decide +kernel
theorem dX10_append_15 : decode cX10_append 15 = .ok (.aload_n 0, 1) := by decide +kernel
theorem dX10_append_16 : decode cX10_append 16 = .ok (.iload_n 1, 1) := by decide +kernel
theorem dX10_append_17 : decode cX10_append 17 = .ok (.invokevirtual 72, 3) := by decide +kernel
theorem dX10_append_20 : decode cX10_append 20 = .ok (.aload_n 0, 1) := by decide +kernel
theorem dX10_append_21 : decode cX10_append 21 = .ok (.iload_n 2, 1) := by decide +kernel
theorem dX10_append_22 : decode cX10_append 22 = .ok (.invokevirtual 72, 3) := by decide +kernel
theorem dX10_append_25 : decode cX10_append 25 = .ok (.aload_n 0, 1) := by decide +kernel
theorem dX10_append_26 : decode cX10_append 26 = .ok (.iload_n 3, 1) := by decide +kernel
theorem dX10_append_27 : decode cX10_append 27 = .ok (.invokevirtual 72, 3) := by decide +kernel
theorem dX10_append_30 : decode cX10_append 30 = .ok (.aload_n 0, 1) := by decide +kernel
theorem dX10_append_31 : decode cX10_append 31 = .ok (.iload 4, 2) := by decide +kernel
theorem dX10_append_33 : decode cX10_append 33 = .ok (.invokevirtual 72, 3) := by decide +kernel
theorem dX10_append_36 : decode cX10_append 36 = .ok (.aload_n 0, 1) := by decide +kernel
theorem dX10_append_37 : decode cX10_append 37 = .ok (.iload 5, 2) := by decide +kernel
theorem dX10_append_39 : decode cX10_append 39 = .ok (.invokevirtual 72, 3) := by decide +kernel
theorem dX10_append_42 : decode cX10_append 42 = .ok (.aload_n 0, 1) := by decide +kernel
theorem dX10_append_43 : decode cX10_append 43 = .ok (.getfield 13, 3) := by decide +kernel
theorem dX10_append_46 : decode cX10_append 46 = .ok (.ireturn, 1) := by decide +kernel
theorem dX10_appendWord_0 : decode cX10_appendWord 0 = .ok (.bipush 24, 2) := by decide +kernel
theorem dX10_appendWord_2 : decode cX10_appendWord 2 = .ok (.istore_n 2, 1) := by decide +kernel
theorem dX10_appendWord_3 : decode cX10_appendWord 3 = .ok (.iload_n 2, 1) := by decide +kernel
theorem dX10_appendWord_4 : decode cX10_appendWord 4 = .ok (.ifCond .lt 45, 3) := by decide +kernel
theorem dX10_appendWord_7 : decode cX10_appendWord 7 = .ok (.aload_n 0, 1) := by decide +kernel
theorem dX10_appendWord_8 : decode cX10_appendWord 8 = .ok (.getfield 13, 3) := by decide +kernel
theorem dX10_appendWord_11 : decode cX10_appendWord 11 = .ok (.sipush 900, 3) := by decide +kernel
theorem dX10_appendWord_14 : decode cX10_appendWord 14 = .ok (.if_icmp .ge 29, 3) := by decide +kernel
theorem dX10_appendWord_17 : decode cX10_appendWord 17 = .ok (.aload_n 0, 1) := by decide +kernel
theorem dX10_appendWord_18 : decode cX10_appendWord 18 = .ok (.getfield 9, 3) := by decide +kernel
theorem dX10_appendWord_21 : decode cX10_appendWord 21 = .ok (.aload_n 0, 1) := by decide +kernel
theorem dX10_appendWord_22 : decode cX10_appendWord 22 = .ok (.getfield 13, 3) := by decide +kernel
theorem dX10_appendWord_25 : decode cX10_appendWord 25 = .ok (.iload_n 1, 1) := by decide +kernel
theorem dX10_appendWord_26 : decode cX10_appendWord 26 = .ok (.iload_n 2, 1) := by decide +kernel
theorem dX10_appendWord_27 : decode cX10_appendWord 27 = .ok (.iushr, 1) := by decide +kernel
theorem dX10_appendWord_28 : decode cX10_appendWord 28 = .ok (.sipush 255, 3) := by decide +kernel
theorem dX10_appendWord_31 : decode cX10_appendWord 31 = .ok (.iand, 1) := by decide +kernel
theorem dX10_appendWord_32 : decode cX10_appendWord 32 = .ok (.iastore, 1) := by decide +kernel
theorem dX10_appendWord_33 : decode cX10_appendWord 33 = .ok (.aload_n 0, 1) := by decide +kernel
theorem dX10_appendWord_34 : decode cX10_appendWord 34 = .ok (.dup, 1) := by decide +kernel
theorem dX10_appendWord_35 : decode cX10_appendWord 35 = .ok (.getfield 13, 3) := by decide +kernel
theorem dX10_appendWord_38 : decode cX10_appendWord 38 = .ok (.iconst 1, 1) := by decide +kernel
theorem dX10_appendWord_39 : decode cX10_appendWord 39 = .ok (.iadd, 1) := by decide +kernel
theorem dX10_appendWord_40 : decode cX10_appendWord 40 = .ok (.putfield 13, 3) := by decide +kernel
theorem dX10_appendWord_43 : decode cX10_appendWord 43 = .ok (.iinc 2 (-8), 3) := by decide +kernel
theorem dX10_appendWord_46 : decode cX10_appendWord 46 = .ok (.goto (-43), 3) := by decide +kernel
theorem dX10_appendWord_49 : decode cX10_appendWord 49 = .ok (.return_, 1) := by decide +kernel
theorem dX10_truncate_0 : decode cX10_truncate 0 = .ok (.iload_n 1, 1) := by decide +kernel
theorem dX10_truncate_1 : decode cX10_truncate 1 = .ok (.ifCond .lt 11, 3) := by decide +kernel
theorem dX10_truncate_4 : decode cX10_truncate 4 = .ok (.iload_n 1, 1) := by decide +kernel
theorem dX10_truncate_5 : decode cX10_truncate 5 = .ok (.aload_n 0, 1) := by decide +kernel
theorem dX10_truncate_6 : decode cX10_truncate 6 = .ok (.getfield 13, 3) := by decide +kernel
theorem dX10_truncate_9 : decode cX10_truncate 9 = .ok (.if_icmp .le 5, 3) := by decide +kernel
theorem dX10_truncate_12 : decode cX10_truncate 12 = .ok (.iconst 0, 1) := by decide +kernel
theorem dX10_truncate_13 : decode cX10_truncate 13 = .ok (.ireturn, 1) := by decide +kernel
theorem dX10_truncate_14 : decode cX10_truncate 14 = .ok (.aload_n 0, 1) := by decide +kernel
theorem dX10_truncate_15 : decode cX10_truncate 15 = .ok (.iload_n 1, 1) := by decide +kernel
theorem dX10_truncate_16 : decode cX10_truncate 16 = .ok (.putfield 13, 3) := by decide +kernel
theorem dX10_truncate_19 : decode cX10_truncate 19 = .ok (.iconst 1, 1) := by decide +kernel
theorem dX10_truncate_20 : decode cX10_truncate 20 = .ok (.ireturn, 1) := by decide +kernel
theorem dX10_load_0 : decode cX10_load 0 = .ok (.aload_n 0, 1) := by decide +kernel
theorem dX10_load_1 : decode cX10_load 1 = .ok (.getfield 26, 3) := by decide +kernel
theorem dX10_load_4 : decode cX10_load 4 = .ok (.aload_n 0, 1) := by decide +kernel
theorem dX10_load_5 : decode cX10_load 5 = .ok (.getfield 9, 3) := by decide +kernel
theorem dX10_load_8 : decode cX10_load 8 = .ok (.aload_n 0, 1) := by decide +kernel
theorem dX10_load_9 : decode cX10_load 9 = .ok (.getfield 13, 3) := by decide +kernel
theorem dX10_load_12 : decode cX10_load 12 = .ok (.invokevirtual 76, 3) := by decide +kernel
theorem dX10_load_15 : decode cX10_load 15 = .ok (.istore_n 1, 1) := by decide +kernel
theorem dX10_load_16 : decode cX10_load 16 = .ok (.aload_n 0, 1) := by decide +kernel
theorem dX10_load_17 : decode cX10_load 17 = .ok (.iconst 0, 1) := by decide +kernel
theorem dX10_load_18 : decode cX10_load 18 = .ok (.putfield 13, 3) := by decide +kernel
theorem dX10_load_21 : decode cX10_load 21 = .ok (.aload_n 0, 1) := by decide +kernel
theorem dX10_load_22 : decode cX10_load 22 = .ok (.aload_n 0, 1) := by decide +kernel
theorem dX10_load_23 : decode cX10_load 23 = .ok (.getfield 26, 3) := by decide +kernel
theorem dX10_load_26 : decode cX10_load 26 = .ok (.getfield 80, 3) := by decide +kernel
theorem dX10_load_29 : decode cX10_load 29 = .ok (.putfield 17, 3) := by decide +kernel
theorem dX10_load_32 : decode cX10_load 32 = .ok (.aload_n 0, 1) := by decide +kernel
theorem dX10_load_33 : decode cX10_load 33 = .ok (.aload_n 0, 1) := by decide +kernel
theorem dX10_load_34 : decode cX10_load 34 = .ok (.getfield 26, 3) := by decide +kernel
theorem dX10_load_37 : decode cX10_load 37 = .ok (.getfield 83, 3) := by decide +kernel
theorem dX10_load_40 : decode cX10_load 40 = .ok (.putfield 20, 3) := by decide +kernel
theorem dX10_load_43 : decode cX10_load 43 = .ok (.iload_n 1, 1) := by decide +kernel
theorem dX10_load_44 : decode cX10_load 44 = .ok (.ifCond .ne 11, 3) := by decide +kernel
theorem dX10_load_47 : decode cX10_load 47 = .ok (.new 86, 3) := by decide +kernel
theorem dX10_load_50 : decode cX10_load 50 = .ok (.dup, 1) := by decide +kernel
theorem dX10_load_51 : decode cX10_load 51 = .ok (.invokespecial 88, 3) := by decide +kernel
theorem dX10_load_54 : decode cX10_load 54 = .ok (.athrow, 1) := by decide +kernel
theorem dX10_load_55 : decode cX10_load 55 = .ok (.aload_n 0, 1) := by decide +kernel
theorem dX10_load_56 : decode cX10_load 56 = .ok (.getfield 33, 3) := by decide +kernel
theorem dX10_load_59 : decode cX10_load 59 = .ok (.aload_n 0, 1) := by decide +kernel
theorem dX10_load_60 : decode cX10_load 60 = .ok (.getfield 26, 3) := by decide +kernel
theorem dX10_load_63 : decode cX10_load 63 = .ok (.getfield 89, 3) := by decide +kernel
theorem dX10_load_66 : decode cX10_load 66 = .ok (.invokevirtual 90, 3) := by decide +kernel
theorem dX10_load_69 : decode cX10_load 69 = .ok (.aload_n 0, 1) := by decide +kernel
theorem dX10_load_70 : decode cX10_load 70 = .ok (.getfield 40, 3) := by decide +kernel
theorem dX10_load_73 : decode cX10_load 73 = .ok (.aload_n 0, 1) := by decide +kernel
theorem dX10_load_74 : decode cX10_load 74 = .ok (.getfield 26, 3) := by decide +kernel
theorem dX10_load_77 : decode cX10_load 77 = .ok (.getfield 94, 3) := by decide +kernel
theorem dX10_load_80 : decode cX10_load 80 = .ok (.invokevirtual 95, 3) := by decide +kernel
theorem dX10_load_83 : decode cX10_load 83 = .ok (.aload_n 0, 1) := by decide +kernel
theorem dX10_load_84 : decode cX10_load 84 = .ok (.getfield 47, 3) := by decide +kernel
theorem dX10_load_87 : decode cX10_load 87 = .ok (.invokevirtual 98, 3) := by decide +kernel
theorem dX10_load_90 : decode cX10_load 90 = .ok (.aload_n 0, 1) := by decide +kernel
theorem dX10_load_91 : decode cX10_load 91 = .ok (.invokevirtual 101, 3) := by decide +kernel
theorem dX10_load_94 : decode cX10_load 94 = .ok (.aload_n 0, 1) := by decide +kernel
theorem dX10_load_95 : decode cX10_load 95 = .ok (.getfield 33, 3) := by decide +kernel
theorem dX10_load_98 : decode cX10_load 98 = .ok (.getfield 104, 3) := by decide +kernel
theorem dX10_load_101 : decode cX10_load 101 = .ok (.ireturn, 1) := by decide +kernel
theorem dX10_promiseLetters_0 : decode cX10_promiseLetters 0 = .ok (.aload_n 0, 1) := by decide +kernel
theorem dX10_promiseLetters_1 : decode cX10_promiseLetters 1 = .ok (.getfield 40, 3) := by decide +kernel
theorem dX10_promiseLetters_4 : decode cX10_promiseLetters 4 = .ok (.getfield 107, 3) := by decide +kernel
theorem dX10_promiseLetters_7 : decode cX10_promiseLetters 7 = .ok (.astore_n 1, 1) := by decide +kernel
theorem dX10_promiseLetters_8 : decode cX10_promiseLetters 8 = .ok (.iconst 0, 1) := by decide +kernel
theorem dX10_promiseLetters_9 : decode cX10_promiseLetters 9 = .ok (.istore_n 2, 1) := by decide +kernel
theorem dX10_promiseLetters_10 : decode cX10_promiseLetters 10 = .ok (.iload_n 2, 1) := by decide +kernel
theorem dX10_promiseLetters_11 : decode cX10_promiseLetters 11 = .ok (.aload_n 1, 1) := by decide +kernel
theorem dX10_promiseLetters_12 : decode cX10_promiseLetters 12 = .ok (.getfield 111, 3) := by decide +kernel
theorem dX10_promiseLetters_15 : decode cX10_promiseLetters 15 = .ok (.if_icmp .ge 31, 3) := by decide +kernel
theorem dX10_promiseLetters_18 : decode cX10_promiseLetters 18 = .ok (.aload_n 1, 1) := by decide +kernel
theorem dX10_promiseLetters_19 : decode cX10_promiseLetters 19 = .ok (.getfield 116, 3) := by decide +kernel
theorem dX10_promiseLetters_22 : decode cX10_promiseLetters 22 = .ok (.iload_n 2, 1) := by decide +kernel
theorem dX10_promiseLetters_23 : decode cX10_promiseLetters 23 = .ok (.aload_n 0, 1) := by decide +kernel
theorem dX10_promiseLetters_24 : decode cX10_promiseLetters 24 = .ok (.aload_n 1, 1) := by decide +kernel
theorem dX10_promiseLetters_25 : decode cX10_promiseLetters 25 = .ok (.getfield 119, 3) := by decide +kernel
theorem dX10_promiseLetters_28 : decode cX10_promiseLetters 28 = .ok (.iload_n 2, 1) := by decide +kernel
theorem dX10_promiseLetters_29 : decode cX10_promiseLetters 29 = .ok (.iaload, 1) := by decide +kernel
theorem dX10_promiseLetters_30 : decode cX10_promiseLetters 30 = .ok (.aload_n 1, 1) := by decide +kernel
theorem dX10_promiseLetters_31 : decode cX10_promiseLetters 31 = .ok (.getfield 122, 3) := by decide +kernel
theorem dX10_promiseLetters_34 : decode cX10_promiseLetters 34 = .ok (.iload_n 2, 1) := by decide +kernel
theorem dX10_promiseLetters_35 : decode cX10_promiseLetters 35 = .ok (.iaload, 1) := by decide +kernel
theorem dX10_promiseLetters_36 : decode cX10_promiseLetters 36 = .ok (.invokevirtual 125, 3) := by decide +kernel
theorem dX10_promiseLetters_39 : decode cX10_promiseLetters 39 = .ok (.iastore, 1) := by decide +kernel
theorem dX10_promiseLetters_40 : decode cX10_promiseLetters 40 = .ok (.iinc 2 1, 3) := by decide +kernel
theorem dX10_promiseLetters_43 : decode cX10_promiseLetters 43 = .ok (.goto (-33), 3) := by decide +kernel
theorem dX10_promiseLetters_46 : decode cX10_promiseLetters 46 = .ok (.return_, 1) := by decide +kernel
theorem dX10_errorOffset_0 : decode cX10_errorOffset 0 = .ok (.aload_n 0, 1) := by decide +kernel
theorem dX10_errorOffset_1 : decode cX10_errorOffset 1 = .ok (.getfield 17, 3) := by decide +kernel
theorem dX10_errorOffset_4 : decode cX10_errorOffset 4 = .ok (.ireturn, 1) := by decide +kernel
theorem dX10_errorKind_0 : decode cX10_errorKind 0 = .ok (.aload_n 0, 1) := by decide +kernel
theorem dX10_errorKind_1 : decode cX10_errorKind 1 = .ok (.getfield 20, 3) := by decide +kernel
theorem dX10_errorKind_4 : decode cX10_errorKind 4 = .ok (.ireturn, 1) := by decide +kernel
theorem dX10_count_0 : decode cX10_count 0 = .ok (.iload_n 1, 1) := by decide +kernel
theorem dX10_count_1 : decode cX10_count 1 = .ok (.tableswitch 135 0 8 #[51, 59, 70, 78, 89, 100, 111, 119, 127], 51) := by decide +kernel
theorem dX10_count_52 : decode cX10_count 52 = .ok (.aload_n 0, 1) := by decide +kernel
theorem dX10_count_53 : decode cX10_count 53 = .ok (.getfield 33, 3) := by decide +kernel
theorem dX10_count_56 : decode cX10_count 56 = .ok (.getfield 104, 3) := by decide +kernel
theorem dX10_count_59 : decode cX10_count 59 = .ok (.ireturn, 1) := by decide +kernel
theorem dX10_count_60 : decode cX10_count 60 = .ok (.aload_n 0, 1) := by decide +kernel
theorem dX10_count_61 : decode cX10_count 61 = .ok (.getfield 33, 3) := by decide +kernel
theorem dX10_count_64 : decode cX10_count 64 = .ok (.getfield 129, 3) := by decide +kernel
theorem dX10_count_67 : decode cX10_count 67 = .ok (.invokestatic 132, 3) := by decide +kernel
theorem dX10_count_70 : decode cX10_count 70 = .ok (.ireturn, 1) := by decide +kernel
theorem dX10_count_71 : decode cX10_count 71 = .ok (.aload_n 0, 1) := by decide +kernel
theorem dX10_count_72 : decode cX10_count 72 = .ok (.getfield 33, 3) := by decide +kernel
theorem dX10_count_75 : decode cX10_count 75 = .ok (.getfield 138, 3) := by decide +kernel
theorem dX10_count_78 : decode cX10_count 78 = .ok (.ireturn, 1) := by decide +kernel
theorem dX10_count_79 : decode cX10_count 79 = .ok (.aload_n 0, 1) := by decide +kernel
theorem dX10_count_80 : decode cX10_count 80 = .ok (.getfield 40, 3) := by decide +kernel
theorem dX10_count_83 : decode cX10_count 83 = .ok (.getfield 107, 3) := by decide +kernel
theorem dX10_count_86 : decode cX10_count 86 = .ok (.getfield 111, 3) := by decide +kernel
theorem dX10_count_89 : decode cX10_count 89 = .ok (.ireturn, 1) := by decide +kernel
theorem dX10_count_90 : decode cX10_count 90 = .ok (.aload_n 0, 1) := by decide +kernel
theorem dX10_count_91 : decode cX10_count 91 = .ok (.getfield 40, 3) := by decide +kernel
theorem dX10_count_94 : decode cX10_count 94 = .ok (.getfield 141, 3) := by decide +kernel
theorem dX10_count_97 : decode cX10_count 97 = .ok (.getfield 145, 3) := by decide +kernel
theorem dX10_count_100 : decode cX10_count 100 = .ok (.ireturn, 1) := by decide +kernel
theorem dX10_count_101 : decode cX10_count 101 = .ok (.aload_n 0, 1) := by decide +kernel
theorem dX10_count_102 : decode cX10_count 102 = .ok (.getfield 40, 3) := by decide +kernel
theorem dX10_count_105 : decode cX10_count 105 = .ok (.getfield 148, 3) := by decide +kernel
theorem dX10_count_108 : decode cX10_count 108 = .ok (.getfield 152, 3) := by decide +kernel
theorem dX10_count_111 : decode cX10_count 111 = .ok (.ireturn, 1) := by decide +kernel
theorem dX10_count_112 : decode cX10_count 112 = .ok (.aload_n 0, 1) := by decide +kernel
theorem dX10_count_113 : decode cX10_count 113 = .ok (.getfield 40, 3) := by decide +kernel
theorem dX10_count_116 : decode cX10_count 116 = .ok (.getfield 157, 3) := by decide +kernel
theorem dX10_count_119 : decode cX10_count 119 = .ok (.ireturn, 1) := by decide +kernel
theorem dX10_count_120 : decode cX10_count 120 = .ok (.aload_n 0, 1) := by decide +kernel
theorem dX10_count_121 : decode cX10_count 121 = .ok (.getfield 40, 3) := by decide +kernel
theorem dX10_count_124 : decode cX10_count 124 = .ok (.getfield 160, 3) := by decide +kernel
theorem dX10_count_127 : decode cX10_count 127 = .ok (.ireturn, 1) := by decide +kernel
theorem dX10_count_128 : decode cX10_count 128 = .ok (.aload_n 0, 1) := by decide +kernel
theorem dX10_count_129 : decode cX10_count 129 = .ok (.getfield 40, 3) := by decide +kernel
theorem dX10_count_132 : decode cX10_count 132 = .ok (.getfield 163, 3) := by decide +kernel
theorem dX10_count_135 : decode cX10_count 135 = .ok (.ireturn, 1) := by decide +kernel
theorem dX10_count_136 : decode cX10_count 136 = .ok (.new 166, 3) := by decide +kernel
theorem dX10_count_139 : decode cX10_count 139 = .ok (.dup, 1) := by decide +kernel
theorem dX10_count_140 : decode cX10_count 140 = .ok (.invokespecial 168, 3) := by decide +kernel
theorem dX10_count_143 : decode cX10_count 143 = .ok (.athrow, 1) := by decide +kernel
theorem dX10_isVillage_0 : decode cX10_isVillage 0 = .ok (.iload_n 1, 1) := by decide +kernel
theorem dX10_isVillage_1 : decode cX10_isVillage 1 = .ok (.aload_n 0, 1) := by decide +kernel
theorem dX10_isVillage_2 : decode cX10_isVillage 2 = .ok (.getfield 33, 3) := by decide +kernel
theorem dX10_isVillage_5 : decode cX10_isVillage 5 = .ok (.getfield 104, 3) := by decide +kernel
theorem dX10_isVillage_8 : decode cX10_isVillage 8 = .ok (.invokestatic 169, 3) := by decide +kernel
theorem dX10_isVillage_11 : decode cX10_isVillage 11 = .ok (.aload_n 0, 1) := by decide +kernel
theorem dX10_isVillage_12 : decode cX10_isVillage 12 = .ok (.getfield 33, 3) := by decide +kernel
theorem dX10_isVillage_15 : decode cX10_isVillage 15 = .ok (.iload_n 1, 1) := by decide +kernel
theorem dX10_isVillage_16 : decode cX10_isVillage 16 = .ok (.invokevirtual 173, 3) := by decide +kernel
theorem dX10_isVillage_19 : decode cX10_isVillage 19 = .ok (.ireturn, 1) := by decide +kernel
theorem dX10_placeNamed_0 : decode cX10_placeNamed 0 = .ok (.aload_n 0, 1) := by decide +kernel
theorem dX10_placeNamed_1 : decode cX10_placeNamed 1 = .ok (.getfield 9, 3) := by decide +kernel
theorem dX10_placeNamed_4 : decode cX10_placeNamed 4 = .ok (.iconst 0, 1) := by decide +kernel
theorem dX10_placeNamed_5 : decode cX10_placeNamed 5 = .ok (.aload_n 0, 1) := by decide +kernel
theorem dX10_placeNamed_6 : decode cX10_placeNamed 6 = .ok (.getfield 13, 3) := by decide +kernel
theorem dX10_placeNamed_9 : decode cX10_placeNamed 9 = .ok (.invokestatic 177, 3) := by decide +kernel
theorem dX10_placeNamed_12 : decode cX10_placeNamed 12 = .ok (.istore_n 1, 1) := by decide +kernel
theorem dX10_placeNamed_13 : decode cX10_placeNamed 13 = .ok (.aload_n 0, 1) := by decide +kernel
theorem dX10_placeNamed_14 : decode cX10_placeNamed 14 = .ok (.iconst 0, 1) := by decide +kernel
theorem dX10_placeNamed_15 : decode cX10_placeNamed 15 = .ok (.putfield 13, 3) := by decide +kernel
theorem dX10_placeNamed_18 : decode cX10_placeNamed 18 = .ok (.aload_n 0, 1) := by decide +kernel
theorem dX10_placeNamed_19 : decode cX10_placeNamed 19 = .ok (.getfield 33, 3) := by decide +kernel
theorem dX10_placeNamed_22 : decode cX10_placeNamed 22 = .ok (.iload_n 1, 1) := by decide +kernel
theorem dX10_placeNamed_23 : decode cX10_placeNamed 23 = .ok (.invokevirtual 181, 3) := by decide +kernel
theorem dX10_placeNamed_26 : decode cX10_placeNamed 26 = .ok (.ireturn, 1) := by decide +kernel
theorem dX10_stop_0 : decode cX10_stop 0 = .ok (.iload_n 1, 1) := by decide +kernel
theorem dX10_stop_1 : decode cX10_stop 1 = .ok (.aload_n 0, 1) := by decide +kernel
theorem dX10_stop_2 : decode cX10_stop 2 = .ok (.getfield 33, 3) := by decide +kernel
theorem dX10_stop_5 : decode cX10_stop 5 = .ok (.getfield 138, 3) := by decide +kernel
theorem dX10_stop_8 : decode cX10_stop 8 = .ok (.invokestatic 169, 3) := by decide +kernel
theorem dX10_stop_11 : decode cX10_stop 11 = .ok (.iload_n 2, 1) := by decide +kernel
theorem dX10_stop_12 : decode cX10_stop 12 = .ok (.ifCond .lt 9, 3) := by decide +kernel
theorem dX10_stop_15 : decode cX10_stop 15 = .ok (.iload_n 2, 1) := by decide +kernel
theorem dX10_stop_16 : decode cX10_stop 16 = .ok (.bipush 7, 2) := by decide +kernel
theorem dX10_stop_18 : decode cX10_stop 18 = .ok (.if_icmp .lt 11, 3) := by decide +kernel
theorem dX10_stop_21 : decode cX10_stop 21 = .ok (.new 166, 3) := by decide +kernel
theorem dX10_stop_24 : decode cX10_stop 24 = .ok (.dup, 1) := by decide +kernel
theorem dX10_stop_25 : decode cX10_stop 25 = .ok (.invokespecial 168, 3) := by decide +kernel
theorem dX10_stop_28 : decode cX10_stop 28 = .ok (.athrow, 1) := by decide +kernel
theorem dX10_stop_29 : decode cX10_stop 29 = .ok (.iconst 0, 1) := by decide +kernel
theorem dX10_stop_30 : decode cX10_stop 30 = .ok (.istore 4, 2) := by decide +kernel
theorem dX10_stop_32 : decode cX10_stop 32 = .ok (.iconst 0, 1) := by decide +kernel
theorem dX10_stop_33 : decode cX10_stop 33 = .ok (.istore 5, 2) := by decide +kernel
theorem dX10_stop_35 : decode cX10_stop 35 = .ok (.iload 5, 2) := by decide +kernel
theorem dX10_stop_37 : decode cX10_stop 37 = .ok (.bipush 24, 2) := by decide +kernel
theorem dX10_stop_39 : decode cX10_stop 39 = .ok (.if_icmp .ge 50, 3) := by decide +kernel
theorem dX10_stop_42 : decode cX10_stop 42 = .ok (.aload_n 0, 1) := by decide +kernel
theorem dX10_stop_43 : decode cX10_stop 43 = .ok (.getfield 33, 3) := by decide +kernel
theorem dX10_stop_46 : decode cX10_stop 46 = .ok (.iload_n 1, 1) := by decide +kernel
theorem dX10_stop_47 : decode cX10_stop 47 = .ok (.iload_n 2, 1) := by decide +kernel
theorem dX10_stop_48 : decode cX10_stop 48 = .ok (.bipush 24, 2) := by decide +kernel
theorem dX10_stop_50 : decode cX10_stop 50 = .ok (.imul, 1) := by decide +kernel
theorem dX10_stop_51 : decode cX10_stop 51 = .ok (.iload 5, 2) := by decide +kernel
theorem dX10_stop_53 : decode cX10_stop 53 = .ok (.iadd, 1) := by decide +kernel
theorem dX10_stop_54 : decode cX10_stop 54 = .ok (.invokevirtual 184, 3) := by decide +kernel
theorem dX10_stop_57 : decode cX10_stop 57 = .ok (.istore 6, 2) := by decide +kernel
theorem dX10_stop_59 : decode cX10_stop 59 = .ok (.iload 6, 2) := by decide +kernel
theorem dX10_stop_61 : decode cX10_stop 61 = .ok (.iconst (-1), 1) := by decide +kernel
theorem dX10_stop_62 : decode cX10_stop 62 = .ok (.if_icmp .eq 21, 3) := by decide +kernel
theorem dX10_stop_65 : decode cX10_stop 65 = .ok (.iload 4, 2) := by decide +kernel
theorem dX10_stop_67 : decode cX10_stop 67 = .ok (.iload_n 3, 1) := by decide +kernel
theorem dX10_stop_68 : decode cX10_stop 68 = .ok (.if_icmp .ne 12, 3) := by decide +kernel
theorem dX10_stop_71 : decode cX10_stop 71 = .ok (.bipush 100, 2) := by decide +kernel
theorem dX10_stop_73 : decode cX10_stop 73 = .ok (.iload 5, 2) := by decide +kernel
theorem dX10_stop_75 : decode cX10_stop 75 = .ok (.imul, 1) := by decide +kernel
theorem dX10_stop_76 : decode cX10_stop 76 = .ok (.iload 6, 2) := by decide +kernel
theorem dX10_stop_78 : decode cX10_stop 78 = .ok (.iadd, 1) := by decide +kernel
theorem dX10_stop_79 : decode cX10_stop 79 = .ok (.ireturn, 1) := by decide +kernel
theorem dX10_stop_80 : decode cX10_stop 80 = .ok (.iinc 4 1, 3) := by decide +kernel
theorem dX10_stop_83 : decode cX10_stop 83 = .ok (.iinc 5 1, 3) := by decide +kernel
theorem dX10_stop_86 : decode cX10_stop 86 = .ok (.goto (-51), 3) := by decide +kernel
theorem dX10_stop_89 : decode cX10_stop 89 = .ok (.iconst (-1), 1) := by decide +kernel
theorem dX10_stop_90 : decode cX10_stop 90 = .ok (.ireturn, 1) := by decide +kernel
theorem dX10_placeOf_0 : decode cX10_placeOf 0 = .ok (.iload_n 1, 1) := by decide +kernel
theorem dX10_placeOf_1 : decode cX10_placeOf 1 = .ok (.aload_n 0, 1) := by decide +kernel
theorem dX10_placeOf_2 : decode cX10_placeOf 2 = .ok (.getfield 33, 3) := by decide +kernel
theorem dX10_placeOf_5 : decode cX10_placeOf 5 = .ok (.getfield 138, 3) := by decide +kernel
theorem dX10_placeOf_8 : decode cX10_placeOf 8 = .ok (.invokestatic 169, 3) := by decide +kernel
theorem dX10_placeOf_11 : decode cX10_placeOf 11 = .ok (.aload_n 0, 1) := by decide +kernel
theorem dX10_placeOf_12 : decode cX10_placeOf 12 = .ok (.getfield 40, 3) := by decide +kernel
theorem dX10_placeOf_15 : decode cX10_placeOf 15 = .ok (.getfield 187, 3) := by decide +kernel
theorem dX10_placeOf_18 : decode cX10_placeOf 18 = .ok (.iload_n 1, 1) := by decide +kernel
theorem dX10_placeOf_19 : decode cX10_placeOf 19 = .ok (.invokestatic 190, 3) := by decide +kernel
theorem dX10_placeOf_22 : decode cX10_placeOf 22 = .ok (.ifCond .eq 7, 3) := by decide +kernel
theorem dX10_placeOf_25 : decode cX10_placeOf 25 = .ok (.iconst (-1), 1) := by decide +kernel
theorem dX10_placeOf_26 : decode cX10_placeOf 26 = .ok (.goto 18, 3) := by decide +kernel
theorem dX10_placeOf_29 : decode cX10_placeOf 29 = .ok (.aload_n 0, 1) := by decide +kernel
theorem dX10_placeOf_30 : decode cX10_placeOf 30 = .ok (.getfield 33, 3) := by decide +kernel
theorem dX10_placeOf_33 : decode cX10_placeOf 33 = .ok (.iload_n 1, 1) := by decide +kernel
theorem dX10_placeOf_34 : decode cX10_placeOf 34 = .ok (.aload_n 0, 1) := by decide +kernel
theorem dX10_placeOf_35 : decode cX10_placeOf 35 = .ok (.getfield 40, 3) := by decide +kernel
theorem dX10_placeOf_38 : decode cX10_placeOf 38 = .ok (.getfield 160, 3) := by decide +kernel
theorem dX10_placeOf_41 : decode cX10_placeOf 41 = .ok (.invokevirtual 184, 3) := by decide +kernel
theorem dX10_placeOf_44 : decode cX10_placeOf 44 = .ok (.ireturn, 1) := by decide +kernel
theorem dX10_nextStop_0 : decode cX10_nextStop 0 = .ok (.iload_n 1, 1) := by decide +kernel
theorem dX10_nextStop_1 : decode cX10_nextStop 1 = .ok (.aload_n 0, 1) := by decide +kernel
theorem dX10_nextStop_2 : decode cX10_nextStop 2 = .ok (.getfield 33, 3) := by decide +kernel
theorem dX10_nextStop_5 : decode cX10_nextStop 5 = .ok (.getfield 138, 3) := by decide +kernel
theorem dX10_nextStop_8 : decode cX10_nextStop 8 = .ok (.invokestatic 169, 3) := by decide +kernel
theorem dX10_nextStop_11 : decode cX10_nextStop 11 = .ok (.iconst 0, 1) := by decide +kernel
theorem dX10_nextStop_12 : decode cX10_nextStop 12 = .ok (.istore_n 2, 1) := by decide +kernel
theorem dX10_nextStop_13 : decode cX10_nextStop 13 = .ok (.iload_n 2, 1) := by decide +kernel
theorem dX10_nextStop_14 : decode cX10_nextStop 14 = .ok (.sipush 168, 3) := by decide +kernel
theorem dX10_nextStop_17 : decode cX10_nextStop 17 = .ok (.if_icmp .ge 32, 3) := by decide +kernel
theorem dX10_nextStop_20 : decode cX10_nextStop 20 = .ok (.aload_n 0, 1) := by decide +kernel
theorem dX10_nextStop_21 : decode cX10_nextStop 21 = .ok (.getfield 33, 3) := by decide +kernel
theorem dX10_nextStop_24 : decode cX10_nextStop 24 = .ok (.iload_n 1, 1) := by decide +kernel
theorem dX10_nextStop_25 : decode cX10_nextStop 25 = .ok (.aload_n 0, 1) := by decide +kernel
theorem dX10_nextStop_26 : decode cX10_nextStop 26 = .ok (.getfield 40, 3) := by decide +kernel
theorem dX10_nextStop_29 : decode cX10_nextStop 29 = .ok (.getfield 160, 3) := by decide +kernel
theorem dX10_nextStop_32 : decode cX10_nextStop 32 = .ok (.iload_n 2, 1) := by decide +kernel
theorem dX10_nextStop_33 : decode cX10_nextStop 33 = .ok (.iadd, 1) := by decide +kernel
theorem dX10_nextStop_34 : decode cX10_nextStop 34 = .ok (.invokevirtual 184, 3) := by decide +kernel
theorem dX10_nextStop_37 : decode cX10_nextStop 37 = .ok (.iconst (-1), 1) := by decide +kernel
theorem dX10_nextStop_38 : decode cX10_nextStop 38 = .ok (.if_icmp .eq 5, 3) := by decide +kernel
theorem dX10_nextStop_41 : decode cX10_nextStop 41 = .ok (.iload_n 2, 1) := by decide +kernel
theorem dX10_nextStop_42 : decode cX10_nextStop 42 = .ok (.ireturn, 1) := by decide +kernel
theorem dX10_nextStop_43 : decode cX10_nextStop 43 = .ok (.iinc 2 1, 3) := by decide +kernel
theorem dX10_nextStop_46 : decode cX10_nextStop 46 = .ok (.goto (-33), 3) := by decide +kernel
theorem dX10_nextStop_49 : decode cX10_nextStop 49 = .ok (.iconst (-1), 1) := by decide +kernel
theorem dX10_nextStop_50 : decode cX10_nextStop 50 = .ok (.ireturn, 1) := by decide +kernel
theorem dX10_isOnStrike_0 : decode cX10_isOnStrike 0 = .ok (.iload_n 1, 1) := by decide +kernel
theorem dX10_isOnStrike_1 : decode cX10_isOnStrike 1 = .ok (.aload_n 0, 1) := by decide +kernel
theorem dX10_isOnStrike_2 : decode cX10_isOnStrike 2 = .ok (.getfield 33, 3) := by decide +kernel
theorem dX10_isOnStrike_5 : decode cX10_isOnStrike 5 = .ok (.getfield 138, 3) := by decide +kernel
theorem dX10_isOnStrike_8 : decode cX10_isOnStrike 8 = .ok (.invokestatic 169, 3) := by decide +kernel
theorem dX10_isOnStrike_11 : decode cX10_isOnStrike 11 = .ok (.aload_n 0, 1) := by decide +kernel
theorem dX10_isOnStrike_12 : decode cX10_isOnStrike 12 = .ok (.getfield 40, 3) := by decide +kernel
theorem dX10_isOnStrike_15 : decode cX10_isOnStrike 15 = .ok (.getfield 187, 3) := by decide +kernel
theorem dX10_isOnStrike_18 : decode cX10_isOnStrike 18 = .ok (.iload_n 1, 1) := by decide +kernel
theorem dX10_isOnStrike_19 : decode cX10_isOnStrike 19 = .ok (.invokestatic 190, 3) := by decide +kernel
theorem dX10_isOnStrike_22 : decode cX10_isOnStrike 22 = .ok (.ireturn, 1) := by decide +kernel
theorem dX10_carriersAt_0 : decode cX10_carriersAt 0 = .ok (.iload_n 1, 1) := by decide +kernel
theorem dX10_carriersAt_1 : decode cX10_carriersAt 1 = .ok (.aload_n 0, 1) := by decide +kernel
theorem dX10_carriersAt_2 : decode cX10_carriersAt 2 = .ok (.getfield 33, 3) := by decide +kernel
theorem dX10_carriersAt_5 : decode cX10_carriersAt 5 = .ok (.getfield 104, 3) := by decide +kernel
theorem dX10_carriersAt_8 : decode cX10_carriersAt 8 = .ok (.invokestatic 169, 3) := by decide +kernel
theorem dX10_carriersAt_11 : decode cX10_carriersAt 11 = .ok (.iconst 0, 1) := by decide +kernel
theorem dX10_carriersAt_12 : decode cX10_carriersAt 12 = .ok (.istore_n 2, 1) := by decide +kernel
theorem dX10_carriersAt_13 : decode cX10_carriersAt 13 = .ok (.iconst 0, 1) := by decide +kernel
theorem dX10_carriersAt_14 : decode cX10_carriersAt 14 = .ok (.istore_n 3, 1) := by decide +kernel
theorem dX10_carriersAt_15 : decode cX10_carriersAt 15 = .ok (.iload_n 3, 1) := by decide +kernel
theorem dX10_carriersAt_16 : decode cX10_carriersAt 16 = .ok (.sipush 168, 3) := by decide +kernel
theorem dX10_carriersAt_19 : decode cX10_carriersAt 19 = .ok (.if_icmp .ge 21, 3) := by decide +kernel
theorem dX10_carriersAt_22 : decode cX10_carriersAt 22 = .ok (.iload_n 2, 1) := by decide +kernel
theorem dX10_carriersAt_23 : decode cX10_carriersAt 23 = .ok (.aload_n 0, 1) := by decide +kernel
theorem dX10_carriersAt_24 : decode cX10_carriersAt 24 = .ok (.getfield 33, 3) := by decide +kernel
theorem dX10_carriersAt_27 : decode cX10_carriersAt 27 = .ok (.iload_n 3, 1) := by decide +kernel
theorem dX10_carriersAt_28 : decode cX10_carriersAt 28 = .ok (.iload_n 1, 1) := by decide +kernel
theorem dX10_carriersAt_29 : decode cX10_carriersAt 29 = .ok (.invokevirtual 194, 3) := by decide +kernel
theorem dX10_carriersAt_32 : decode cX10_carriersAt 32 = .ok (.ior, 1) := by decide +kernel
theorem dX10_carriersAt_33 : decode cX10_carriersAt 33 = .ok (.istore_n 2, 1) := by decide +kernel
theorem dX10_carriersAt_34 : decode cX10_carriersAt 34 = .ok (.iinc 3 1, 3) := by decide +kernel
theorem dX10_carriersAt_37 : decode cX10_carriersAt 37 = .ok (.goto (-22), 3) := by decide +kernel
theorem dX10_carriersAt_40 : decode cX10_carriersAt 40 = .ok (.iload_n 2, 1) := by decide +kernel
theorem dX10_carriersAt_41 : decode cX10_carriersAt 41 = .ok (.ireturn, 1) := by decide +kernel
theorem dX10_meetings_0 : decode cX10_meetings 0 = .ok (.iconst 0, 1) := by decide +kernel
theorem dX10_meetings_1 : decode cX10_meetings 1 = .ok (.istore_n 1, 1) := by decide +kernel
theorem dX10_meetings_2 : decode cX10_meetings 2 = .ok (.iconst 0, 1) := by decide +kernel
theorem dX10_meetings_3 : decode cX10_meetings 3 = .ok (.istore_n 2, 1) := by decide +kernel
theorem dX10_meetings_4 : decode cX10_meetings 4 = .ok (.iload_n 2, 1) := by decide +kernel
theorem dX10_meetings_5 : decode cX10_meetings 5 = .ok (.sipush 168, 3) := by decide +kernel
theorem dX10_meetings_8 : decode cX10_meetings 8 = .ok (.if_icmp .ge 58, 3) := by decide +kernel
theorem dX10_meetings_11 : decode cX10_meetings 11 = .ok (.iconst 0, 1) := by decide +kernel
theorem dX10_meetings_12 : decode cX10_meetings 12 = .ok (.istore_n 3, 1) := by decide +kernel
theorem dX10_meetings_13 : decode cX10_meetings 13 = .ok (.iload_n 3, 1) := by decide +kernel
theorem dX10_meetings_14 : decode cX10_meetings 14 = .ok (.aload_n 0, 1) := by decide +kernel
theorem dX10_meetings_15 : decode cX10_meetings 15 = .ok (.getfield 33, 3) := by decide +kernel
theorem dX10_meetings_18 : decode cX10_meetings 18 = .ok (.getfield 104, 3) := by decide +kernel
theorem dX10_meetings_21 : decode cX10_meetings 21 = .ok (.if_icmp .ge 39, 3) := by decide +kernel
theorem dX10_meetings_24 : decode cX10_meetings 24 = .ok (.aload_n 0, 1) := by decide +kernel
theorem dX10_meetings_25 : decode cX10_meetings 25 = .ok (.getfield 33, 3) := by decide +kernel
theorem dX10_meetings_28 : decode cX10_meetings 28 = .ok (.iload_n 3, 1) := by decide +kernel
theorem dX10_meetings_29 : decode cX10_meetings 29 = .ok (.invokevirtual 173, 3) := by decide +kernel
theorem dX10_meetings_32 : decode cX10_meetings 32 = .ok (.ifCond .ne 22, 3) := by decide +kernel
theorem dX10_meetings_35 : decode cX10_meetings 35 = .ok (.aload_n 0, 1) := by decide +kernel
theorem dX10_meetings_36 : decode cX10_meetings 36 = .ok (.getfield 33, 3) := by decide +kernel
theorem dX10_meetings_39 : decode cX10_meetings 39 = .ok (.iload_n 2, 1) := by decide +kernel
theorem dX10_meetings_40 : decode cX10_meetings 40 = .ok (.iload_n 3, 1) := by decide +kernel
theorem dX10_meetings_41 : decode cX10_meetings 41 = .ok (.invokevirtual 194, 3) := by decide +kernel
theorem dX10_meetings_44 : decode cX10_meetings 44 = .ok (.invokestatic 132, 3) := by decide +kernel
theorem dX10_meetings_47 : decode cX10_meetings 47 = .ok (.iconst 2, 1) := by decide +kernel
theorem dX10_meetings_48 : decode cX10_meetings 48 = .ok (.if_icmp .lt 6, 3) := by decide +kernel
theorem dX10_meetings_51 : decode cX10_meetings 51 = .ok (.iinc 1 1, 3) := by decide +kernel
theorem dX10_meetings_54 : decode cX10_meetings 54 = .ok (.iinc 3 1, 3) := by decide +kernel
theorem dX10_meetings_57 : decode cX10_meetings 57 = .ok (.goto (-44), 3) := by decide +kernel
theorem dX10_meetings_60 : decode cX10_meetings 60 = .ok (.iinc 2 1, 3) := by decide +kernel
theorem dX10_meetings_63 : decode cX10_meetings 63 = .ok (.goto (-59), 3) := by decide +kernel
theorem dX10_meetings_66 : decode cX10_meetings 66 = .ok (.iload_n 1, 1) := by decide +kernel
theorem dX10_meetings_67 : decode cX10_meetings 67 = .ok (.ireturn, 1) := by decide +kernel
theorem dX10_sackOf_0 : decode cX10_sackOf 0 = .ok (.iload_n 1, 1) := by decide +kernel
theorem dX10_sackOf_1 : decode cX10_sackOf 1 = .ok (.aload_n 0, 1) := by decide +kernel
theorem dX10_sackOf_2 : decode cX10_sackOf 2 = .ok (.getfield 33, 3) := by decide +kernel
theorem dX10_sackOf_5 : decode cX10_sackOf 5 = .ok (.getfield 138, 3) := by decide +kernel
theorem dX10_sackOf_8 : decode cX10_sackOf 8 = .ok (.invokestatic 169, 3) := by decide +kernel
theorem dX10_sackOf_11 : decode cX10_sackOf 11 = .ok (.aload_n 0, 1) := by decide +kernel
theorem dX10_sackOf_12 : decode cX10_sackOf 12 = .ok (.getfield 40, 3) := by decide +kernel
theorem dX10_sackOf_15 : decode cX10_sackOf 15 = .ok (.iload_n 1, 1) := by decide +kernel
theorem dX10_sackOf_16 : decode cX10_sackOf 16 = .ok (.invokevirtual 197, 3) := by decide +kernel
theorem dX10_sackOf_19 : decode cX10_sackOf 19 = .ok (.ireturn, 1) := by decide +kernel
theorem dX10_carrierOf_0 : decode cX10_carrierOf 0 = .ok (.iload_n 1, 1) := by decide +kernel
theorem dX10_carrierOf_1 : decode cX10_carrierOf 1 = .ok (.aload_n 0, 1) := by decide +kernel
theorem dX10_carrierOf_2 : decode cX10_carrierOf 2 = .ok (.getfield 33, 3) := by decide +kernel
theorem dX10_carrierOf_5 : decode cX10_carrierOf 5 = .ok (.getfield 138, 3) := by decide +kernel
theorem dX10_carrierOf_8 : decode cX10_carrierOf 8 = .ok (.invokestatic 169, 3) := by decide +kernel
theorem dX10_carrierOf_11 : decode cX10_carrierOf 11 = .ok (.aload_n 0, 1) := by decide +kernel
theorem dX10_carrierOf_12 : decode cX10_carrierOf 12 = .ok (.getfield 40, 3) := by decide +kernel
theorem dX10_carrierOf_15 : decode cX10_carrierOf 15 = .ok (.iload_n 1, 1) := by decide +kernel
theorem dX10_carrierOf_16 : decode cX10_carrierOf 16 = .ok (.invokevirtual 200, 3) := by decide +kernel
theorem dX10_carrierOf_19 : decode cX10_carrierOf 19 = .ok (.ireturn, 1) := by decide +kernel
theorem dX10_sackCount_0 : decode cX10_sackCount 0 = .ok (.iload_n 1, 1) := by decide +kernel
theorem dX10_sackCount_1 : decode cX10_sackCount 1 = .ok (.aload_n 0, 1) := by decide +kernel
theorem dX10_sackCount_2 : decode cX10_sackCount 2 = .ok (.getfield 33, 3) := by decide +kernel
theorem dX10_sackCount_5 : decode cX10_sackCount 5 = .ok (.getfield 138, 3) := by decide +kernel
theorem dX10_sackCount_8 : decode cX10_sackCount 8 = .ok (.invokestatic 169, 3) := by decide +kernel
theorem dX10_sackCount_11 : decode cX10_sackCount 11 = .ok (.aload_n 0, 1) := by decide +kernel
theorem dX10_sackCount_12 : decode cX10_sackCount 12 = .ok (.getfield 40, 3) := by decide +kernel
theorem dX10_sackCount_15 : decode cX10_sackCount 15 = .ok (.getfield 107, 3) := by decide +kernel
theorem dX10_sackCount_18 : decode cX10_sackCount 18 = .ok (.iconst 1, 1) := by decide +kernel
theorem dX10_sackCount_19 : decode cX10_sackCount 19 = .ok (.iload_n 1, 1) := by decide +kernel
theorem dX10_sackCount_20 : decode cX10_sackCount 20 = .ok (.invokevirtual 203, 3) := by decide +kernel
theorem dX10_sackCount_23 : decode cX10_sackCount 23 = .ok (.ireturn, 1) := by decide +kernel
theorem dX10_sackLetter_0 : decode cX10_sackLetter 0 = .ok (.iload_n 1, 1) := by decide +kernel
theorem dX10_sackLetter_1 : decode cX10_sackLetter 1 = .ok (.aload_n 0, 1) := by decide +kernel
theorem dX10_sackLetter_2 : decode cX10_sackLetter 2 = .ok (.getfield 33, 3) := by decide +kernel
theorem dX10_sackLetter_5 : decode cX10_sackLetter 5 = .ok (.getfield 138, 3) := by decide +kernel
theorem dX10_sackLetter_8 : decode cX10_sackLetter 8 = .ok (.invokestatic 169, 3) := by decide +kernel
theorem dX10_sackLetter_11 : decode cX10_sackLetter 11 = .ok (.aload_n 0, 1) := by decide +kernel
theorem dX10_sackLetter_12 : decode cX10_sackLetter 12 = .ok (.getfield 40, 3) := by decide +kernel
theorem dX10_sackLetter_15 : decode cX10_sackLetter 15 = .ok (.getfield 107, 3) := by decide +kernel
theorem dX10_sackLetter_18 : decode cX10_sackLetter 18 = .ok (.iconst 1, 1) := by decide +kernel
theorem dX10_sackLetter_19 : decode cX10_sackLetter 19 = .ok (.iload_n 1, 1) := by decide +kernel
theorem dX10_sackLetter_20 : decode cX10_sackLetter 20 = .ok (.iload_n 2, 1) := by decide +kernel
theorem dX10_sackLetter_21 : decode cX10_sackLetter 21 = .ok (.invokevirtual 206, 3) := by decide +kernel
theorem dX10_sackLetter_24 : decode cX10_sackLetter 24 = .ok (.ireturn, 1) := by decide +kernel
theorem dX10_sackValue_0 : decode cX10_sackValue 0 = .ok (.iload_n 1, 1) := by decide +kernel
theorem dX10_sackValue_1 : decode cX10_sackValue 1 = .ok (.aload_n 0, 1) := by decide +kernel
theorem dX10_sackValue_2 : decode cX10_sackValue 2 = .ok (.getfield 33, 3) := by decide +kernel
theorem dX10_sackValue_5 : decode cX10_sackValue 5 = .ok (.getfield 138, 3) := by decide +kernel
theorem dX10_sackValue_8 : decode cX10_sackValue 8 = .ok (.invokestatic 169, 3) := by decide +kernel
theorem dX10_sackValue_11 : decode cX10_sackValue 11 = .ok (.aload_n 0, 1) := by decide +kernel
theorem dX10_sackValue_12 : decode cX10_sackValue 12 = .ok (.getfield 40, 3) := by decide +kernel
theorem dX10_sackValue_15 : decode cX10_sackValue 15 = .ok (.getfield 107, 3) := by decide +kernel
theorem dX10_sackValue_18 : decode cX10_sackValue 18 = .ok (.iconst 1, 1) := by decide +kernel
theorem dX10_sackValue_19 : decode cX10_sackValue 19 = .ok (.iload_n 1, 1) := by decide +kernel
theorem dX10_sackValue_20 : decode cX10_sackValue 20 = .ok (.invokevirtual 210, 3) := by decide +kernel
theorem dX10_sackValue_23 : decode cX10_sackValue 23 = .ok (.ireturn, 1) := by decide +kernel
theorem dX10_officeCount_0 : decode cX10_officeCount 0 = .ok (.iload_n 1, 1) := by decide +kernel
theorem dX10_officeCount_1 : decode cX10_officeCount 1 = .ok (.aload_n 0, 1) := by decide +kernel
theorem dX10_officeCount_2 : decode cX10_officeCount 2 = .ok (.getfield 33, 3) := by decide +kernel
theorem dX10_officeCount_5 : decode cX10_officeCount 5 = .ok (.getfield 104, 3) := by decide +kernel
theorem dX10_officeCount_8 : decode cX10_officeCount 8 = .ok (.invokestatic 169, 3) := by decide +kernel
theorem dX10_officeCount_11 : decode cX10_officeCount 11 = .ok (.aload_n 0, 1) := by decide +kernel
theorem dX10_officeCount_12 : decode cX10_officeCount 12 = .ok (.getfield 40, 3) := by decide +kernel
theorem dX10_officeCount_15 : decode cX10_officeCount 15 = .ok (.getfield 107, 3) := by decide +kernel
theorem dX10_officeCount_18 : decode cX10_officeCount 18 = .ok (.iconst 0, 1) := by decide +kernel
theorem dX10_officeCount_19 : decode cX10_officeCount 19 = .ok (.iload_n 1, 1) := by decide +kernel
theorem dX10_officeCount_20 : decode cX10_officeCount 20 = .ok (.invokevirtual 203, 3) := by decide +kernel
theorem dX10_officeCount_23 : decode cX10_officeCount 23 = .ok (.ireturn, 1) := by decide +kernel
theorem dX10_officeLetter_0 : decode cX10_officeLetter 0 = .ok (.iload_n 1, 1) := by decide +kernel
theorem dX10_officeLetter_1 : decode cX10_officeLetter 1 = .ok (.aload_n 0, 1) := by decide +kernel
theorem dX10_officeLetter_2 : decode cX10_officeLetter 2 = .ok (.getfield 33, 3) := by decide +kernel
theorem dX10_officeLetter_5 : decode cX10_officeLetter 5 = .ok (.getfield 104, 3) := by decide +kernel
theorem dX10_officeLetter_8 : decode cX10_officeLetter 8 = .ok (.invokestatic 169, 3) := by decide +kernel
theorem dX10_officeLetter_11 : decode cX10_officeLetter 11 = .ok (.aload_n 0, 1) := by decide +kernel
theorem dX10_officeLetter_12 : decode cX10_officeLetter 12 = .ok (.getfield 40, 3) := by decide +kernel
theorem dX10_officeLetter_15 : decode cX10_officeLetter 15 = .ok (.getfield 107, 3) := by decide +kernel
theorem dX10_officeLetter_18 : decode cX10_officeLetter 18 = .ok (.iconst 0, 1) := by decide +kernel
theorem dX10_officeLetter_19 : decode cX10_officeLetter 19 = .ok (.iload_n 1, 1) := by decide +kernel
theorem dX10_officeLetter_20 : decode cX10_officeLetter 20 = .ok (.iload_n 2, 1) := by decide +kernel
theorem dX10_officeLetter_21 : decode cX10_officeLetter 21 = .ok (.invokevirtual 206, 3) := by decide +kernel
theorem dX10_officeLetter_24 : decode cX10_officeLetter 24 = .ok (.ireturn, 1) := by decide +kernel
theorem dX10_letter_0 : decode cX10_letter 0 = .ok (.iload_n 1, 1) := by decide +kernel
theorem dX10_letter_1 : decode cX10_letter 1 = .ok (.aload_n 0, 1) := by decide +kernel
theorem dX10_letter_2 : decode cX10_letter 2 = .ok (.getfield 40, 3) := by decide +kernel
theorem dX10_letter_5 : decode cX10_letter 5 = .ok (.getfield 107, 3) := by decide +kernel
theorem dX10_letter_8 : decode cX10_letter 8 = .ok (.getfield 111, 3) := by decide +kernel
theorem dX10_letter_11 : decode cX10_letter 11 = .ok (.invokestatic 169, 3) := by decide +kernel
theorem dX10_letter_14 : decode cX10_letter 14 = .ok (.iload_n 2, 1) := by decide +kernel
theorem dX10_letter_15 : decode cX10_letter 15 = .ok (.ifCond .lt 9, 3) := by decide +kernel
theorem dX10_letter_18 : decode cX10_letter 18 = .ok (.iload_n 2, 1) := by decide +kernel
theorem dX10_letter_19 : decode cX10_letter 19 = .ok (.bipush 8, 2) := by decide +kernel
theorem dX10_letter_21 : decode cX10_letter 21 = .ok (.if_icmp .le 11, 3) := by decide +kernel
theorem dX10_letter_24 : decode cX10_letter 24 = .ok (.new 166, 3) := by decide +kernel
theorem dX10_letter_27 : decode cX10_letter 27 = .ok (.dup, 1) := by decide +kernel
theorem dX10_letter_28 : decode cX10_letter 28 = .ok (.invokespecial 168, 3) := by decide +kernel
theorem dX10_letter_31 : decode cX10_letter 31 = .ok (.athrow, 1) := by decide +kernel
theorem dX10_letter_32 : decode cX10_letter 32 = .ok (.aload_n 0, 1) := by decide +kernel
theorem dX10_letter_33 : decode cX10_letter 33 = .ok (.getfield 40, 3) := by decide +kernel
theorem dX10_letter_36 : decode cX10_letter 36 = .ok (.getfield 107, 3) := by decide +kernel
theorem dX10_letter_39 : decode cX10_letter 39 = .ok (.iload_n 1, 1) := by decide +kernel
theorem dX10_letter_40 : decode cX10_letter 40 = .ok (.iload_n 2, 1) := by decide +kernel
theorem dX10_letter_41 : decode cX10_letter 41 = .ok (.invokevirtual 213, 3) := by decide +kernel
theorem dX10_letter_44 : decode cX10_letter 44 = .ok (.ireturn, 1) := by decide +kernel
theorem dX10_trace_0 : decode cX10_trace 0 = .ok (.iload_n 1, 1) := by decide +kernel
theorem dX10_trace_1 : decode cX10_trace 1 = .ok (.aload_n 0, 1) := by decide +kernel
theorem dX10_trace_2 : decode cX10_trace 2 = .ok (.getfield 40, 3) := by decide +kernel
theorem dX10_trace_5 : decode cX10_trace 5 = .ok (.getfield 107, 3) := by decide +kernel
theorem dX10_trace_8 : decode cX10_trace 8 = .ok (.getfield 111, 3) := by decide +kernel
theorem dX10_trace_11 : decode cX10_trace 11 = .ok (.invokestatic 169, 3) := by decide +kernel
theorem dX10_trace_14 : decode cX10_trace 14 = .ok (.aload_n 0, 1) := by decide +kernel
theorem dX10_trace_15 : decode cX10_trace 15 = .ok (.getfield 40, 3) := by decide +kernel
theorem dX10_trace_18 : decode cX10_trace 18 = .ok (.getfield 107, 3) := by decide +kernel
theorem dX10_trace_21 : decode cX10_trace 21 = .ok (.getfield 216, 3) := by decide +kernel
theorem dX10_trace_24 : decode cX10_trace 24 = .ok (.iload_n 1, 1) := by decide +kernel
theorem dX10_trace_25 : decode cX10_trace 25 = .ok (.iaload, 1) := by decide +kernel
theorem dX10_trace_26 : decode cX10_trace 26 = .ok (.ireturn, 1) := by decide +kernel
theorem dX10_suspects_0 : decode cX10_suspects 0 = .ok (.aload_n 0, 1) := by decide +kernel
theorem dX10_suspects_1 : decode cX10_suspects 1 = .ok (.getfield 40, 3) := by decide +kernel
theorem dX10_suspects_4 : decode cX10_suspects 4 = .ok (.getfield 107, 3) := by decide +kernel
theorem dX10_suspects_7 : decode cX10_suspects 7 = .ok (.astore_n 2, 1) := by decide +kernel
theorem dX10_suspects_8 : decode cX10_suspects 8 = .ok (.iload_n 1, 1) := by decide +kernel
theorem dX10_suspects_9 : decode cX10_suspects 9 = .ok (.aload_n 2, 1) := by decide +kernel
theorem dX10_suspects_10 : decode cX10_suspects 10 = .ok (.getfield 111, 3) := by decide +kernel
theorem dX10_suspects_13 : decode cX10_suspects 13 = .ok (.invokestatic 169, 3) := by decide +kernel
theorem dX10_suspects_16 : decode cX10_suspects 16 = .ok (.aload_n 2, 1) := by decide +kernel
theorem dX10_suspects_17 : decode cX10_suspects 17 = .ok (.getfield 219, 3) := by decide +kernel
theorem dX10_suspects_20 : decode cX10_suspects 20 = .ok (.iload_n 1, 1) := by decide +kernel
theorem dX10_suspects_21 : decode cX10_suspects 21 = .ok (.iaload, 1) := by decide +kernel
theorem dX10_suspects_22 : decode cX10_suspects 22 = .ok (.iconst 3, 1) := by decide +kernel
theorem dX10_suspects_23 : decode cX10_suspects 23 = .ok (.if_icmp .eq 5, 3) := by decide +kernel
theorem dX10_suspects_26 : decode cX10_suspects 26 = .ok (.iconst 0, 1) := by decide +kernel
theorem dX10_suspects_27 : decode cX10_suspects 27 = .ok (.ireturn, 1) := by decide +kernel
theorem dX10_suspects_28 : decode cX10_suspects 28 = .ok (.aload_n 2, 1) := by decide +kernel
theorem dX10_suspects_29 : decode cX10_suspects 29 = .ok (.getfield 221, 3) := by decide +kernel
theorem dX10_suspects_32 : decode cX10_suspects 32 = .ok (.iload_n 1, 1) := by decide +kernel
theorem dX10_suspects_33 : decode cX10_suspects 33 = .ok (.iaload, 1) := by decide +kernel
theorem dX10_suspects_34 : decode cX10_suspects 34 = .ok (.ifCond .ne 10, 3) := by decide +kernel
theorem dX10_suspects_37 : decode cX10_suspects 37 = .ok (.aload_n 2, 1) := by decide +kernel
theorem dX10_suspects_38 : decode cX10_suspects 38 = .ok (.getfield 216, 3) := by decide +kernel
theorem dX10_suspects_41 : decode cX10_suspects 41 = .ok (.iload_n 1, 1) := by decide +kernel
theorem dX10_suspects_42 : decode cX10_suspects 42 = .ok (.iaload, 1) := by decide +kernel
theorem dX10_suspects_43 : decode cX10_suspects 43 = .ok (.ireturn, 1) := by decide +kernel
theorem dX10_suspects_44 : decode cX10_suspects 44 = .ok (.aload_n 0, 1) := by decide +kernel
theorem dX10_suspects_45 : decode cX10_suspects 45 = .ok (.getfield 40, 3) := by decide +kernel
theorem dX10_suspects_48 : decode cX10_suspects 48 = .ok (.getfield 141, 3) := by decide +kernel
theorem dX10_suspects_51 : decode cX10_suspects 51 = .ok (.aload_n 2, 1) := by decide +kernel
theorem dX10_suspects_52 : decode cX10_suspects 52 = .ok (.getfield 224, 3) := by decide +kernel
theorem dX10_suspects_55 : decode cX10_suspects 55 = .ok (.iload_n 1, 1) := by decide +kernel
theorem dX10_suspects_56 : decode cX10_suspects 56 = .ok (.iaload, 1) := by decide +kernel
theorem dX10_suspects_57 : decode cX10_suspects 57 = .ok (.invokevirtual 227, 3) := by decide +kernel
theorem dX10_suspects_60 : decode cX10_suspects 60 = .ok (.invokestatic 230, 3) := by decide +kernel
theorem dX10_suspects_63 : decode cX10_suspects 63 = .ok (.ireturn, 1) := by decide +kernel
theorem dX10_isLate_0 : decode cX10_isLate 0 = .ok (.iload_n 1, 1) := by decide +kernel
theorem dX10_isLate_1 : decode cX10_isLate 1 = .ok (.aload_n 0, 1) := by decide +kernel
theorem dX10_isLate_2 : decode cX10_isLate 2 = .ok (.getfield 40, 3) := by decide +kernel
theorem dX10_isLate_5 : decode cX10_isLate 5 = .ok (.getfield 107, 3) := by decide +kernel
theorem dX10_isLate_8 : decode cX10_isLate 8 = .ok (.getfield 111, 3) := by decide +kernel
theorem dX10_isLate_11 : decode cX10_isLate 11 = .ok (.invokestatic 169, 3) := by decide +kernel
theorem dX10_isLate_14 : decode cX10_isLate 14 = .ok (.aload_n 0, 1) := by decide +kernel
theorem dX10_isLate_15 : decode cX10_isLate 15 = .ok (.getfield 40, 3) := by decide +kernel
theorem dX10_isLate_18 : decode cX10_isLate 18 = .ok (.getfield 107, 3) := by decide +kernel
theorem dX10_isLate_21 : decode cX10_isLate 21 = .ok (.iload_n 1, 1) := by decide +kernel
theorem dX10_isLate_22 : decode cX10_isLate 22 = .ok (.aload_n 0, 1) := by decide +kernel
theorem dX10_isLate_23 : decode cX10_isLate 23 = .ok (.getfield 40, 3) := by decide +kernel
theorem dX10_isLate_26 : decode cX10_isLate 26 = .ok (.getfield 160, 3) := by decide +kernel
theorem dX10_isLate_29 : decode cX10_isLate 29 = .ok (.invokevirtual 233, 3) := by decide +kernel
theorem dX10_isLate_32 : decode cX10_isLate 32 = .ok (.ireturn, 1) := by decide +kernel
theorem dX10_letters_0 : decode cX10_letters 0 = .ok (.iload_n 1, 1) := by decide +kernel
theorem dX10_letters_1 : decode cX10_letters 1 = .ok (.ifCond .lt 9, 3) := by decide +kernel
theorem dX10_letters_4 : decode cX10_letters 4 = .ok (.iload_n 1, 1) := by decide +kernel
theorem dX10_letters_5 : decode cX10_letters 5 = .ok (.bipush 8, 2) := by decide +kernel
theorem dX10_letters_7 : decode cX10_letters 7 = .ok (.if_icmp .le 11, 3) := by decide +kernel
theorem dX10_letters_10 : decode cX10_letters 10 = .ok (.new 166, 3) := by decide +kernel
theorem dX10_letters_13 : decode cX10_letters 13 = .ok (.dup, 1) := by decide +kernel
theorem dX10_letters_14 : decode cX10_letters 14 = .ok (.invokespecial 168, 3) := by decide +kernel
theorem dX10_letters_17 : decode cX10_letters 17 = .ok (.athrow, 1) := by decide +kernel
theorem dX10_letters_18 : decode cX10_letters 18 = .ok (.iconst 0, 1) := by decide +kernel
theorem dX10_letters_19 : decode cX10_letters 19 = .ok (.istore_n 2, 1) := by decide +kernel
theorem dX10_letters_20 : decode cX10_letters 20 = .ok (.iconst 0, 1) := by decide +kernel
theorem dX10_letters_21 : decode cX10_letters 21 = .ok (.istore_n 3, 1) := by decide +kernel
theorem dX10_letters_22 : decode cX10_letters 22 = .ok (.iload_n 3, 1) := by decide +kernel
theorem dX10_letters_23 : decode cX10_letters 23 = .ok (.aload_n 0, 1) := by decide +kernel
theorem dX10_letters_24 : decode cX10_letters 24 = .ok (.getfield 40, 3) := by decide +kernel
theorem dX10_letters_27 : decode cX10_letters 27 = .ok (.getfield 107, 3) := by decide +kernel
theorem dX10_letters_30 : decode cX10_letters 30 = .ok (.getfield 111, 3) := by decide +kernel
theorem dX10_letters_33 : decode cX10_letters 33 = .ok (.if_icmp .ge 21, 3) := by decide +kernel
theorem dX10_letters_36 : decode cX10_letters 36 = .ok (.aload_n 0, 1) := by decide +kernel
theorem dX10_letters_37 : decode cX10_letters 37 = .ok (.iload_n 3, 1) := by decide +kernel
theorem dX10_letters_38 : decode cX10_letters 38 = .ok (.iload_n 1, 1) := by decide +kernel
theorem dX10_letters_39 : decode cX10_letters 39 = .ok (.invokevirtual 236, 3) := by decide +kernel
theorem dX10_letters_42 : decode cX10_letters 42 = .ok (.ifCond .eq 6, 3) := by decide +kernel
theorem dX10_letters_45 : decode cX10_letters 45 = .ok (.iinc 2 1, 3) := by decide +kernel
theorem dX10_letters_48 : decode cX10_letters 48 = .ok (.iinc 3 1, 3) := by decide +kernel
theorem dX10_letters_51 : decode cX10_letters 51 = .ok (.goto (-29), 3) := by decide +kernel
theorem dX10_letters_54 : decode cX10_letters 54 = .ok (.iload_n 2, 1) := by decide +kernel
theorem dX10_letters_55 : decode cX10_letters 55 = .ok (.ireturn, 1) := by decide +kernel
theorem dX10_isCounted_0 : decode cX10_isCounted 0 = .ok (.aload_n 0, 1) := by decide +kernel
theorem dX10_isCounted_1 : decode cX10_isCounted 1 = .ok (.getfield 40, 3) := by decide +kernel
theorem dX10_isCounted_4 : decode cX10_isCounted 4 = .ok (.getfield 107, 3) := by decide +kernel
theorem dX10_isCounted_7 : decode cX10_isCounted 7 = .ok (.astore_n 3, 1) := by decide +kernel
theorem dX10_isCounted_8 : decode cX10_isCounted 8 = .ok (.iload_n 2, 1) := by decide +kernel
theorem dX10_isCounted_9 : decode cX10_isCounted 9 = .ok (.tableswitch 113 4 8 #[35, 50, 63, 79, 94], 35) := by decide +kernel
theorem dX10_isCounted_44 : decode cX10_isCounted 44 = .ok (.aload_n 3, 1) := by decide +kernel
theorem dX10_isCounted_45 : decode cX10_isCounted 45 = .ok (.getfield 221, 3) := by decide +kernel
theorem dX10_isCounted_48 : decode cX10_isCounted 48 = .ok (.iload_n 1, 1) := by decide +kernel
theorem dX10_isCounted_49 : decode cX10_isCounted 49 = .ok (.iaload, 1) := by decide +kernel
theorem dX10_isCounted_50 : decode cX10_isCounted 50 = .ok (.ifCond .eq 7, 3) := by decide +kernel
theorem dX10_isCounted_53 : decode cX10_isCounted 53 = .ok (.iconst 1, 1) := by decide +kernel
theorem dX10_isCounted_54 : decode cX10_isCounted 54 = .ok (.goto 4, 3) := by decide +kernel
theorem dX10_isCounted_57 : decode cX10_isCounted 57 = .ok (.iconst 0, 1) := by decide +kernel
theorem dX10_isCounted_58 : decode cX10_isCounted 58 = .ok (.ireturn, 1) := by decide +kernel
theorem dX10_isCounted_59 : decode cX10_isCounted 59 = .ok (.aload_n 3, 1) := by decide +kernel
theorem dX10_isCounted_60 : decode cX10_isCounted 60 = .ok (.iload_n 1, 1) := by decide +kernel
theorem dX10_isCounted_61 : decode cX10_isCounted 61 = .ok (.aload_n 0, 1) := by decide +kernel
theorem dX10_isCounted_62 : decode cX10_isCounted 62 = .ok (.getfield 40, 3) := by decide +kernel
theorem dX10_isCounted_65 : decode cX10_isCounted 65 = .ok (.getfield 160, 3) := by decide +kernel
theorem dX10_isCounted_68 : decode cX10_isCounted 68 = .ok (.invokevirtual 233, 3) := by decide +kernel
theorem dX10_isCounted_71 : decode cX10_isCounted 71 = .ok (.ireturn, 1) := by decide +kernel
theorem dX10_isCounted_72 : decode cX10_isCounted 72 = .ok (.aload_n 3, 1) := by decide +kernel
theorem dX10_isCounted_73 : decode cX10_isCounted 73 = .ok (.getfield 116, 3) := by decide +kernel
theorem dX10_isCounted_76 : decode cX10_isCounted 76 = .ok (.iload_n 1, 1) := by decide +kernel
theorem dX10_isCounted_77 : decode cX10_isCounted 77 = .ok (.iaload, 1) := by decide +kernel
theorem dX10_isCounted_78 : decode cX10_isCounted 78 = .ok (.iconst (-1), 1) := by decide +kernel
theorem dX10_isCounted_79 : decode cX10_isCounted 79 = .ok (.if_icmp .ne 7, 3) := by decide +kernel
theorem dX10_isCounted_82 : decode cX10_isCounted 82 = .ok (.iconst 1, 1) := by decide +kernel
theorem dX10_isCounted_83 : decode cX10_isCounted 83 = .ok (.goto 4, 3) := by decide +kernel
theorem dX10_isCounted_86 : decode cX10_isCounted 86 = .ok (.iconst 0, 1) := by decide +kernel
theorem dX10_isCounted_87 : decode cX10_isCounted 87 = .ok (.ireturn, 1) := by decide +kernel
theorem dX10_isCounted_88 : decode cX10_isCounted 88 = .ok (.aload_n 3, 1) := by decide +kernel
theorem dX10_isCounted_89 : decode cX10_isCounted 89 = .ok (.getfield 239, 3) := by decide +kernel
theorem dX10_isCounted_92 : decode cX10_isCounted 92 = .ok (.iload_n 1, 1) := by decide +kernel
theorem dX10_isCounted_93 : decode cX10_isCounted 93 = .ok (.iaload, 1) := by decide +kernel
theorem dX10_isCounted_94 : decode cX10_isCounted 94 = .ok (.ifCond .eq 7, 3) := by decide +kernel
theorem dX10_isCounted_97 : decode cX10_isCounted 97 = .ok (.iconst 1, 1) := by decide +kernel
theorem dX10_isCounted_98 : decode cX10_isCounted 98 = .ok (.goto 4, 3) := by decide +kernel
theorem dX10_isCounted_101 : decode cX10_isCounted 101 = .ok (.iconst 0, 1) := by decide +kernel
theorem dX10_isCounted_102 : decode cX10_isCounted 102 = .ok (.ireturn, 1) := by decide +kernel
theorem dX10_isCounted_103 : decode cX10_isCounted 103 = .ok (.aload_n 3, 1) := by decide +kernel
theorem dX10_isCounted_104 : decode cX10_isCounted 104 = .ok (.getfield 216, 3) := by decide +kernel
theorem dX10_isCounted_107 : decode cX10_isCounted 107 = .ok (.iload_n 1, 1) := by decide +kernel
theorem dX10_isCounted_108 : decode cX10_isCounted 108 = .ok (.iaload, 1) := by decide +kernel
theorem dX10_isCounted_109 : decode cX10_isCounted 109 = .ok (.invokestatic 132, 3) := by decide +kernel
theorem dX10_isCounted_112 : decode cX10_isCounted 112 = .ok (.iconst 2, 1) := by decide +kernel
theorem dX10_isCounted_113 : decode cX10_isCounted 113 = .ok (.if_icmp .lt 7, 3) := by decide +kernel
theorem dX10_isCounted_116 : decode cX10_isCounted 116 = .ok (.iconst 1, 1) := by decide +kernel
theorem dX10_isCounted_117 : decode cX10_isCounted 117 = .ok (.goto 4, 3) := by decide +kernel
theorem dX10_isCounted_120 : decode cX10_isCounted 120 = .ok (.iconst 0, 1) := by decide +kernel
theorem dX10_isCounted_121 : decode cX10_isCounted 121 = .ok (.ireturn, 1) := by decide +kernel
theorem dX10_isCounted_122 : decode cX10_isCounted 122 = .ok (.aload_n 3, 1) := by decide +kernel
theorem dX10_isCounted_123 : decode cX10_isCounted 123 = .ok (.getfield 219, 3) := by decide +kernel
theorem dX10_isCounted_126 : decode cX10_isCounted 126 = .ok (.iload_n 1, 1) := by decide +kernel
theorem dX10_isCounted_127 : decode cX10_isCounted 127 = .ok (.iaload, 1) := by decide +kernel
theorem dX10_isCounted_128 : decode cX10_isCounted 128 = .ok (.iload_n 2, 1) := by decide +kernel
theorem dX10_isCounted_129 : decode cX10_isCounted 129 = .ok (.if_icmp .ne 7, 3) := by decide +kernel
theorem dX10_isCounted_132 : decode cX10_isCounted 132 = .ok (.iconst 1, 1) := by decide +kernel
theorem dX10_isCounted_133 : decode cX10_isCounted 133 = .ok (.goto 4, 3) := by decide +kernel
theorem dX10_isCounted_136 : decode cX10_isCounted 136 = .ok (.iconst 0, 1) := by decide +kernel
theorem dX10_isCounted_137 : decode cX10_isCounted 137 = .ok (.ireturn, 1) := by decide +kernel
theorem dX10_punctuality_0 : decode cX10_punctuality 0 = .ok (.iconst 0, 1) := by decide +kernel
theorem dX10_punctuality_1 : decode cX10_punctuality 1 = .ok (.istore_n 1, 1) := by decide +kernel
theorem dX10_punctuality_2 : decode cX10_punctuality 2 = .ok (.iconst 0, 1) := by decide +kernel
theorem dX10_punctuality_3 : decode cX10_punctuality 3 = .ok (.istore_n 2, 1) := by decide +kernel
theorem dX10_punctuality_4 : decode cX10_punctuality 4 = .ok (.iconst 0, 1) := by decide +kernel
theorem dX10_punctuality_5 : decode cX10_punctuality 5 = .ok (.istore_n 3, 1) := by decide +kernel
theorem dX10_punctuality_6 : decode cX10_punctuality 6 = .ok (.iload_n 3, 1) := by decide +kernel
theorem dX10_punctuality_7 : decode cX10_punctuality 7 = .ok (.aload_n 0, 1) := by decide +kernel
theorem dX10_punctuality_8 : decode cX10_punctuality 8 = .ok (.getfield 40, 3) := by decide +kernel
theorem dX10_punctuality_11 : decode cX10_punctuality 11 = .ok (.getfield 107, 3) := by decide +kernel
theorem dX10_punctuality_14 : decode cX10_punctuality 14 = .ok (.getfield 111, 3) := by decide +kernel
theorem dX10_punctuality_17 : decode cX10_punctuality 17 = .ok (.if_icmp .ge 52, 3) := by decide +kernel
theorem dX10_punctuality_20 : decode cX10_punctuality 20 = .ok (.aload_n 0, 1) := by decide +kernel
theorem dX10_punctuality_21 : decode cX10_punctuality 21 = .ok (.getfield 40, 3) := by decide +kernel
theorem dX10_punctuality_24 : decode cX10_punctuality 24 = .ok (.getfield 107, 3) := by decide +kernel
theorem dX10_punctuality_27 : decode cX10_punctuality 27 = .ok (.getfield 219, 3) := by decide +kernel
theorem dX10_punctuality_30 : decode cX10_punctuality 30 = .ok (.iload_n 3, 1) := by decide +kernel
theorem dX10_punctuality_31 : decode cX10_punctuality 31 = .ok (.iaload, 1) := by decide +kernel
theorem dX10_punctuality_32 : decode cX10_punctuality 32 = .ok (.iconst 2, 1) := by decide +kernel
theorem dX10_punctuality_33 : decode cX10_punctuality 33 = .ok (.if_icmp .ne 30, 3) := by decide +kernel
theorem dX10_punctuality_36 : decode cX10_punctuality 36 = .ok (.iinc 1 1, 3) := by decide +kernel
theorem dX10_punctuality_39 : decode cX10_punctuality 39 = .ok (.aload_n 0, 1) := by decide +kernel
theorem dX10_punctuality_40 : decode cX10_punctuality 40 = .ok (.getfield 40, 3) := by decide +kernel
theorem dX10_punctuality_43 : decode cX10_punctuality 43 = .ok (.getfield 107, 3) := by decide +kernel
theorem dX10_punctuality_46 : decode cX10_punctuality 46 = .ok (.iload_n 3, 1) := by decide +kernel
theorem dX10_punctuality_47 : decode cX10_punctuality 47 = .ok (.aload_n 0, 1) := by decide +kernel
theorem dX10_punctuality_48 : decode cX10_punctuality 48 = .ok (.getfield 40, 3) := by decide +kernel
theorem dX10_punctuality_51 : decode cX10_punctuality 51 = .ok (.getfield 160, 3) := by decide +kernel
theorem dX10_punctuality_54 : decode cX10_punctuality 54 = .ok (.invokevirtual 233, 3) := by decide +kernel
theorem dX10_punctuality_57 : decode cX10_punctuality 57 = .ok (.ifCond .ne 6, 3) := by decide +kernel
theorem dX10_punctuality_60 : decode cX10_punctuality 60 = .ok (.iinc 2 1, 3) := by decide +kernel
theorem dX10_punctuality_63 : decode cX10_punctuality 63 = .ok (.iinc 3 1, 3) := by decide +kernel
theorem dX10_punctuality_66 : decode cX10_punctuality 66 = .ok (.goto (-60), 3) := by decide +kernel
theorem dX10_punctuality_69 : decode cX10_punctuality 69 = .ok (.iload_n 1, 1) := by decide +kernel
theorem dX10_punctuality_70 : decode cX10_punctuality 70 = .ok (.ifCond .ne 7, 3) := by decide +kernel
theorem dX10_punctuality_73 : decode cX10_punctuality 73 = .ok (.dconst 0, 1) := by decide +kernel
theorem dX10_punctuality_74 : decode cX10_punctuality 74 = .ok (.goto 8, 3) := by decide +kernel
theorem dX10_punctuality_77 : decode cX10_punctuality 77 = .ok (.iload_n 2, 1) := by decide +kernel
theorem dX10_punctuality_78 : decode cX10_punctuality 78 = .ok (.i2d, 1) := by decide +kernel
theorem dX10_punctuality_79 : decode cX10_punctuality 79 = .ok (.iload_n 1, 1) := by decide +kernel
theorem dX10_punctuality_80 : decode cX10_punctuality 80 = .ok (.i2d, 1) := by decide +kernel
theorem dX10_punctuality_81 : decode cX10_punctuality 81 = .ok (.ddiv, 1) := by decide +kernel
theorem dX10_punctuality_82 : decode cX10_punctuality 82 = .ok (.dreturn, 1) := by decide +kernel
theorem dX10_promise_0 : decode cX10_promise 0 = .ok (.aload_n 0, 1) := by decide +kernel
theorem dX10_promise_1 : decode cX10_promise 1 = .ok (.iload_n 1, 1) := by decide +kernel
theorem dX10_promise_2 : decode cX10_promise 2 = .ok (.iload_n 2, 1) := by decide +kernel
theorem dX10_promise_3 : decode cX10_promise 3 = .ok (.invokevirtual 242, 3) := by decide +kernel
theorem dX10_promise_6 : decode cX10_promise 6 = .ok (.aload_n 0, 1) := by decide +kernel
theorem dX10_promise_7 : decode cX10_promise 7 = .ok (.iload_n 1, 1) := by decide +kernel
theorem dX10_promise_8 : decode cX10_promise 8 = .ok (.iload_n 2, 1) := by decide +kernel
theorem dX10_promise_9 : decode cX10_promise 9 = .ok (.invokevirtual 125, 3) := by decide +kernel
theorem dX10_promise_12 : decode cX10_promise 12 = .ok (.istore_n 3, 1) := by decide +kernel
theorem dX10_promise_13 : decode cX10_promise 13 = .ok (.iload_n 3, 1) := by decide +kernel
theorem dX10_promise_14 : decode cX10_promise 14 = .ok (.iconst (-1), 1) := by decide +kernel
theorem dX10_promise_15 : decode cX10_promise 15 = .ok (.if_icmp .ne 7, 3) := by decide +kernel
theorem dX10_promise_18 : decode cX10_promise 18 = .ok (.iconst (-1), 1) := by decide +kernel
theorem dX10_promise_19 : decode cX10_promise 19 = .ok (.goto 12, 3) := by decide +kernel
theorem dX10_promise_22 : decode cX10_promise 22 = .ok (.iload_n 3, 1) := by decide +kernel
theorem dX10_promise_23 : decode cX10_promise 23 = .ok (.aload_n 0, 1) := by decide +kernel
theorem dX10_promise_24 : decode cX10_promise 24 = .ok (.getfield 40, 3) := by decide +kernel
theorem dX10_promise_27 : decode cX10_promise 27 = .ok (.getfield 160, 3) := by decide +kernel
theorem dX10_promise_30 : decode cX10_promise 30 = .ok (.isub, 1) := by decide +kernel
theorem dX10_promise_31 : decode cX10_promise 31 = .ok (.ireturn, 1) := by decide +kernel
theorem dX10_promisedDays_0 : decode cX10_promisedDays 0 = .ok (.aload_n 0, 1) := by decide +kernel
theorem dX10_promisedDays_1 : decode cX10_promisedDays 1 = .ok (.iload_n 1, 1) := by decide +kernel
theorem dX10_promisedDays_2 : decode cX10_promisedDays 2 = .ok (.iload_n 2, 1) := by decide +kernel
theorem dX10_promisedDays_3 : decode cX10_promisedDays 3 = .ok (.invokevirtual 242, 3) := by decide +kernel
theorem dX10_promisedDays_6 : decode cX10_promisedDays 6 = .ok (.aload_n 0, 1) := by decide +kernel
theorem dX10_promisedDays_7 : decode cX10_promisedDays 7 = .ok (.iload_n 1, 1) := by decide +kernel
theorem dX10_promisedDays_8 : decode cX10_promisedDays 8 = .ok (.iload_n 2, 1) := by decide +kernel
theorem dX10_promisedDays_9 : decode cX10_promisedDays 9 = .ok (.invokevirtual 125, 3) := by decide +kernel
theorem dX10_promisedDays_12 : decode cX10_promisedDays 12 = .ok (.istore_n 3, 1) := by decide +kernel
theorem dX10_promisedDays_13 : decode cX10_promisedDays 13 = .ok (.iload_n 3, 1) := by decide +kernel
theorem dX10_promisedDays_14 : decode cX10_promisedDays 14 = .ok (.iconst (-1), 1) := by decide +kernel
theorem dX10_promisedDays_15 : decode cX10_promisedDays 15 = .ok (.if_icmp .ne 7, 3) := by decide +kernel
theorem dX10_promisedDays_18 : decode cX10_promisedDays 18 = .ok (.iconst (-1), 1) := by decide +kernel
theorem dX10_promisedDays_19 : decode cX10_promisedDays 19 = .ok (.goto 18, 3) := by decide +kernel
theorem dX10_promisedDays_22 : decode cX10_promisedDays 22 = .ok (.iload_n 3, 1) := by decide +kernel
theorem dX10_promisedDays_23 : decode cX10_promisedDays 23 = .ok (.bipush 24, 2) := by decide +kernel
theorem dX10_promisedDays_25 : decode cX10_promisedDays 25 = .ok (.idiv, 1) := by decide +kernel
theorem dX10_promisedDays_26 : decode cX10_promisedDays 26 = .ok (.aload_n 0, 1) := by decide +kernel
theorem dX10_promisedDays_27 : decode cX10_promisedDays 27 = .ok (.getfield 40, 3) := by decide +kernel
theorem dX10_promisedDays_30 : decode cX10_promisedDays 30 = .ok (.getfield 160, 3) := by decide +kernel
theorem dX10_promisedDays_33 : decode cX10_promisedDays 33 = .ok (.bipush 24, 2) := by decide +kernel
theorem dX10_promisedDays_35 : decode cX10_promisedDays 35 = .ok (.idiv, 1) := by decide +kernel
theorem dX10_promisedDays_36 : decode cX10_promisedDays 36 = .ok (.isub, 1) := by decide +kernel
theorem dX10_promisedDays_37 : decode cX10_promisedDays 37 = .ok (.ireturn, 1) := by decide +kernel
theorem dX10_reach_0 : decode cX10_reach 0 = .ok (.aload_n 0, 1) := by decide +kernel
theorem dX10_reach_1 : decode cX10_reach 1 = .ok (.iload_n 1, 1) := by decide +kernel
theorem dX10_reach_2 : decode cX10_reach 2 = .ok (.invokevirtual 245, 3) := by decide +kernel
theorem dX10_reach_5 : decode cX10_reach 5 = .ok (.aload_n 0, 1) := by decide +kernel
theorem dX10_reach_6 : decode cX10_reach 6 = .ok (.getfield 33, 3) := by decide +kernel
theorem dX10_reach_9 : decode cX10_reach 9 = .ok (.getfield 129, 3) := by decide +kernel
theorem dX10_reach_12 : decode cX10_reach 12 = .ok (.iload_n 1, 1) := by decide +kernel
theorem dX10_reach_13 : decode cX10_reach 13 = .ok (.invokestatic 230, 3) := by decide +kernel
theorem dX10_reach_16 : decode cX10_reach 16 = .ok (.iconst (-1), 1) := by decide +kernel
theorem dX10_reach_17 : decode cX10_reach 17 = .ok (.ixor, 1) := by decide +kernel
theorem dX10_reach_18 : decode cX10_reach 18 = .ok (.iand, 1) := by decide +kernel
theorem dX10_reach_19 : decode cX10_reach 19 = .ok (.istore_n 2, 1) := by decide +kernel
theorem dX10_reach_20 : decode cX10_reach 20 = .ok (.aload_n 0, 1) := by decide +kernel
theorem dX10_reach_21 : decode cX10_reach 21 = .ok (.getfield 54, 3) := by decide +kernel
theorem dX10_reach_24 : decode cX10_reach 24 = .ok (.iload_n 1, 1) := by decide +kernel
theorem dX10_reach_25 : decode cX10_reach 25 = .ok (.invokestatic 230, 3) := by decide +kernel
theorem dX10_reach_28 : decode cX10_reach 28 = .ok (.iconst 0, 1) := by decide +kernel
theorem dX10_reach_29 : decode cX10_reach 29 = .ok (.invokevirtual 248, 3) := by decide +kernel
theorem dX10_reach_32 : decode cX10_reach 32 = .ok (.aload_n 0, 1) := by decide +kernel
theorem dX10_reach_33 : decode cX10_reach 33 = .ok (.getfield 54, 3) := by decide +kernel
theorem dX10_reach_36 : decode cX10_reach 36 = .ok (.aload_n 0, 1) := by decide +kernel
theorem dX10_reach_37 : decode cX10_reach 37 = .ok (.getfield 33, 3) := by decide +kernel
theorem dX10_reach_40 : decode cX10_reach 40 = .ok (.aload_n 0, 1) := by decide +kernel
theorem dX10_reach_41 : decode cX10_reach 41 = .ok (.getfield 40, 3) := by decide +kernel
theorem dX10_reach_44 : decode cX10_reach 44 = .ok (.getfield 187, 3) := by decide +kernel
theorem dX10_reach_47 : decode cX10_reach 47 = .ok (.iconst (-1), 1) := by decide +kernel
theorem dX10_reach_48 : decode cX10_reach 48 = .ok (.ixor, 1) := by decide +kernel
theorem dX10_reach_49 : decode cX10_reach 49 = .ok (.aload_n 0, 1) := by decide +kernel
theorem dX10_reach_50 : decode cX10_reach 50 = .ok (.getfield 40, 3) := by decide +kernel
theorem dX10_reach_53 : decode cX10_reach 53 = .ok (.getfield 160, 3) := by decide +kernel
theorem dX10_reach_56 : decode cX10_reach 56 = .ok (.sipush 240, 3) := by decide +kernel
theorem dX10_reach_59 : decode cX10_reach 59 = .ok (.iload_n 2, 1) := by decide +kernel
theorem dX10_reach_60 : decode cX10_reach 60 = .ok (.invokevirtual 251, 3) := by decide +kernel
theorem dX10_reach_63 : decode cX10_reach 63 = .ok (.aload_n 0, 1) := by decide +kernel
theorem dX10_reach_64 : decode cX10_reach 64 = .ok (.getfield 54, 3) := by decide +kernel
theorem dX10_reach_67 : decode cX10_reach 67 = .ok (.getfield 255, 3) := by decide +kernel
theorem dX10_reach_70 : decode cX10_reach 70 = .ok (.iload_n 2, 1) := by decide +kernel
theorem dX10_reach_71 : decode cX10_reach 71 = .ok (.iand, 1) := by decide +kernel
theorem dX10_reach_72 : decode cX10_reach 72 = .ok (.ireturn, 1) := by decide +kernel
theorem dX10_bestWait_0 : decode cX10_bestWait 0 = .ok (.aload_n 0, 1) := by decide +kernel
theorem dX10_bestWait_1 : decode cX10_bestWait 1 = .ok (.iload_n 1, 1) := by decide +kernel
theorem dX10_bestWait_2 : decode cX10_bestWait 2 = .ok (.iload_n 2, 1) := by decide +kernel
theorem dX10_bestWait_3 : decode cX10_bestWait 3 = .ok (.invokevirtual 242, 3) := by decide +kernel
theorem dX10_bestWait_6 : decode cX10_bestWait 6 = .ok (.iconst (-1), 1) := by decide +kernel
theorem dX10_bestWait_7 : decode cX10_bestWait 7 = .ok (.istore_n 3, 1) := by decide +kernel
theorem dX10_bestWait_8 : decode cX10_bestWait 8 = .ok (.sipush 240, 3) := by decide +kernel
theorem dX10_bestWait_11 : decode cX10_bestWait 11 = .ok (.istore 4, 2) := by decide +kernel
theorem dX10_bestWait_13 : decode cX10_bestWait 13 = .ok (.iconst 0, 1) := by decide +kernel
theorem dX10_bestWait_14 : decode cX10_bestWait 14 = .ok (.istore 5, 2) := by decide +kernel
theorem dX10_bestWait_16 : decode cX10_bestWait 16 = .ok (.iload 5, 2) := by decide +kernel
theorem dX10_bestWait_18 : decode cX10_bestWait 18 = .ok (.sipush 168, 3) := by decide +kernel
theorem dX10_bestWait_21 : decode cX10_bestWait 21 = .ok (.if_icmp .ge 87, 3) := by decide +kernel
theorem dX10_bestWait_24 : decode cX10_bestWait 24 = .ok (.aload_n 0, 1) := by decide +kernel
theorem dX10_bestWait_25 : decode cX10_bestWait 25 = .ok (.getfield 40, 3) := by decide +kernel
theorem dX10_bestWait_28 : decode cX10_bestWait 28 = .ok (.getfield 160, 3) := by decide +kernel
theorem dX10_bestWait_31 : decode cX10_bestWait 31 = .ok (.iload 5, 2) := by decide +kernel
theorem dX10_bestWait_33 : decode cX10_bestWait 33 = .ok (.iadd, 1) := by decide +kernel
theorem dX10_bestWait_34 : decode cX10_bestWait 34 = .ok (.istore 6, 2) := by decide +kernel
theorem dX10_bestWait_36 : decode cX10_bestWait 36 = .ok (.aload_n 0, 1) := by decide +kernel
theorem dX10_bestWait_37 : decode cX10_bestWait 37 = .ok (.getfield 54, 3) := by decide +kernel
theorem dX10_bestWait_40 : decode cX10_bestWait 40 = .ok (.iload_n 1, 1) := by decide +kernel
theorem dX10_bestWait_41 : decode cX10_bestWait 41 = .ok (.invokestatic 230, 3) := by decide +kernel
theorem dX10_bestWait_44 : decode cX10_bestWait 44 = .ok (.iconst 0, 1) := by decide +kernel
theorem dX10_bestWait_45 : decode cX10_bestWait 45 = .ok (.invokevirtual 248, 3) := by decide +kernel
theorem dX10_bestWait_48 : decode cX10_bestWait 48 = .ok (.aload_n 0, 1) := by decide +kernel
theorem dX10_bestWait_49 : decode cX10_bestWait 49 = .ok (.getfield 54, 3) := by decide +kernel
theorem dX10_bestWait_52 : decode cX10_bestWait 52 = .ok (.aload_n 0, 1) := by decide +kernel
theorem dX10_bestWait_53 : decode cX10_bestWait 53 = .ok (.getfield 33, 3) := by decide +kernel
theorem dX10_bestWait_56 : decode cX10_bestWait 56 = .ok (.aload_n 0, 1) := by decide +kernel
theorem dX10_bestWait_57 : decode cX10_bestWait 57 = .ok (.getfield 40, 3) := by decide +kernel
theorem dX10_bestWait_60 : decode cX10_bestWait 60 = .ok (.getfield 187, 3) := by decide +kernel
theorem dX10_bestWait_63 : decode cX10_bestWait 63 = .ok (.iconst (-1), 1) := by decide +kernel
theorem dX10_bestWait_64 : decode cX10_bestWait 64 = .ok (.ixor, 1) := by decide +kernel
theorem dX10_bestWait_65 : decode cX10_bestWait 65 = .ok (.iload 6, 2) := by decide +kernel
theorem dX10_bestWait_67 : decode cX10_bestWait 67 = .ok (.iload 4, 2) := by decide +kernel
theorem dX10_bestWait_69 : decode cX10_bestWait 69 = .ok (.iload_n 2, 1) := by decide +kernel
theorem dX10_bestWait_70 : decode cX10_bestWait 70 = .ok (.invokestatic 230, 3) := by decide +kernel
theorem dX10_bestWait_73 : decode cX10_bestWait 73 = .ok (.invokevirtual 251, 3) := by decide +kernel
theorem dX10_bestWait_76 : decode cX10_bestWait 76 = .ok (.aload_n 0, 1) := by decide +kernel
theorem dX10_bestWait_77 : decode cX10_bestWait 77 = .ok (.getfield 54, 3) := by decide +kernel
theorem dX10_bestWait_80 : decode cX10_bestWait 80 = .ok (.iload_n 2, 1) := by decide +kernel
theorem dX10_bestWait_81 : decode cX10_bestWait 81 = .ok (.invokevirtual 258, 3) := by decide +kernel
theorem dX10_bestWait_84 : decode cX10_bestWait 84 = .ok (.istore 7, 2) := by decide +kernel
theorem dX10_bestWait_86 : decode cX10_bestWait 86 = .ok (.iload 7, 2) := by decide +kernel
theorem dX10_bestWait_88 : decode cX10_bestWait 88 = .ok (.iconst (-1), 1) := by decide +kernel
theorem dX10_bestWait_89 : decode cX10_bestWait 89 = .ok (.if_icmp .eq 13, 3) := by decide +kernel
theorem dX10_bestWait_92 : decode cX10_bestWait 92 = .ok (.iload 5, 2) := by decide +kernel
theorem dX10_bestWait_94 : decode cX10_bestWait 94 = .ok (.istore_n 3, 1) := by decide +kernel
theorem dX10_bestWait_95 : decode cX10_bestWait 95 = .ok (.iload 7, 2) := by decide +kernel
theorem dX10_bestWait_97 : decode cX10_bestWait 97 = .ok (.iload 6, 2) := by decide +kernel
theorem dX10_bestWait_99 : decode cX10_bestWait 99 = .ok (.isub, 1) := by decide +kernel
theorem dX10_bestWait_100 : decode cX10_bestWait 100 = .ok (.istore 4, 2) := by decide +kernel
theorem dX10_bestWait_102 : decode cX10_bestWait 102 = .ok (.iinc 5 1, 3) := by decide +kernel
theorem dX10_bestWait_105 : decode cX10_bestWait 105 = .ok (.goto (-89), 3) := by decide +kernel
theorem dX10_bestWait_108 : decode cX10_bestWait 108 = .ok (.iload_n 3, 1) := by decide +kernel
theorem dX10_bestWait_109 : decode cX10_bestWait 109 = .ok (.ireturn, 1) := by decide +kernel
theorem dX10_expected_0 : decode cX10_expected 0 = .ok (.aload_n 0, 1) := by decide +kernel
theorem dX10_expected_1 : decode cX10_expected 1 = .ok (.getfield 40, 3) := by decide +kernel
theorem dX10_expected_4 : decode cX10_expected 4 = .ok (.getfield 107, 3) := by decide +kernel
theorem dX10_expected_7 : decode cX10_expected 7 = .ok (.astore_n 2, 1) := by decide +kernel
theorem dX10_expected_8 : decode cX10_expected 8 = .ok (.iload_n 1, 1) := by decide +kernel
theorem dX10_expected_9 : decode cX10_expected 9 = .ok (.aload_n 2, 1) := by decide +kernel
theorem dX10_expected_10 : decode cX10_expected 10 = .ok (.getfield 111, 3) := by decide +kernel
theorem dX10_expected_13 : decode cX10_expected 13 = .ok (.invokestatic 169, 3) := by decide +kernel
theorem dX10_expected_16 : decode cX10_expected 16 = .ok (.iconst (-1), 1) := by decide +kernel
theorem dX10_expected_17 : decode cX10_expected 17 = .ok (.istore_n 3, 1) := by decide +kernel
theorem dX10_expected_18 : decode cX10_expected 18 = .ok (.aload_n 2, 1) := by decide +kernel
theorem dX10_expected_19 : decode cX10_expected 19 = .ok (.getfield 219, 3) := by decide +kernel
theorem dX10_expected_22 : decode cX10_expected 22 = .ok (.iload_n 1, 1) := by decide +kernel
theorem dX10_expected_23 : decode cX10_expected 23 = .ok (.iaload, 1) := by decide +kernel
theorem dX10_expected_24 : decode cX10_expected 24 = .ok (.ifCond .ne 23, 3) := by decide +kernel
theorem dX10_expected_27 : decode cX10_expected 27 = .ok (.aload_n 0, 1) := by decide +kernel
theorem dX10_expected_28 : decode cX10_expected 28 = .ok (.aload_n 2, 1) := by decide +kernel
theorem dX10_expected_29 : decode cX10_expected 29 = .ok (.getfield 224, 3) := by decide +kernel
theorem dX10_expected_32 : decode cX10_expected 32 = .ok (.iload_n 1, 1) := by decide +kernel
theorem dX10_expected_33 : decode cX10_expected 33 = .ok (.iaload, 1) := by decide +kernel
theorem dX10_expected_34 : decode cX10_expected 34 = .ok (.aload_n 2, 1) := by decide +kernel
theorem dX10_expected_35 : decode cX10_expected 35 = .ok (.getfield 122, 3) := by decide +kernel
theorem dX10_expected_38 : decode cX10_expected 38 = .ok (.iload_n 1, 1) := by decide +kernel
theorem dX10_expected_39 : decode cX10_expected 39 = .ok (.iaload, 1) := by decide +kernel
theorem dX10_expected_40 : decode cX10_expected 40 = .ok (.invokevirtual 125, 3) := by decide +kernel
theorem dX10_expected_43 : decode cX10_expected 43 = .ok (.istore_n 3, 1) := by decide +kernel
theorem dX10_expected_44 : decode cX10_expected 44 = .ok (.goto 85, 3) := by decide +kernel
theorem dX10_expected_47 : decode cX10_expected 47 = .ok (.aload_n 2, 1) := by decide +kernel
theorem dX10_expected_48 : decode cX10_expected 48 = .ok (.getfield 219, 3) := by decide +kernel
theorem dX10_expected_51 : decode cX10_expected 51 = .ok (.iload_n 1, 1) := by decide +kernel
theorem dX10_expected_52 : decode cX10_expected 52 = .ok (.iaload, 1) := by decide +kernel
theorem dX10_expected_53 : decode cX10_expected 53 = .ok (.iconst 1, 1) := by decide +kernel
theorem dX10_expected_54 : decode cX10_expected 54 = .ok (.if_icmp .ne 75, 3) := by decide +kernel
theorem dX10_expected_57 : decode cX10_expected 57 = .ok (.aload_n 2, 1) := by decide +kernel
theorem dX10_expected_58 : decode cX10_expected 58 = .ok (.getfield 122, 3) := by decide +kernel
theorem dX10_expected_61 : decode cX10_expected 61 = .ok (.iload_n 1, 1) := by decide +kernel
theorem dX10_expected_62 : decode cX10_expected 62 = .ok (.iaload, 1) := by decide +kernel
theorem dX10_expected_63 : decode cX10_expected 63 = .ok (.istore 4, 2) := by decide +kernel
theorem dX10_expected_65 : decode cX10_expected 65 = .ok (.aload_n 0, 1) := by decide +kernel
theorem dX10_expected_66 : decode cX10_expected 66 = .ok (.getfield 54, 3) := by decide +kernel
theorem dX10_expected_69 : decode cX10_expected 69 = .ok (.iconst 0, 1) := by decide +kernel
theorem dX10_expected_70 : decode cX10_expected 70 = .ok (.aload_n 0, 1) := by decide +kernel
theorem dX10_expected_71 : decode cX10_expected 71 = .ok (.getfield 40, 3) := by decide +kernel
theorem dX10_expected_74 : decode cX10_expected 74 = .ok (.iload_n 1, 1) := by decide +kernel
theorem dX10_expected_75 : decode cX10_expected 75 = .ok (.invokevirtual 261, 3) := by decide +kernel
theorem dX10_expected_78 : decode cX10_expected 78 = .ok (.invokestatic 230, 3) := by decide +kernel
theorem dX10_expected_81 : decode cX10_expected 81 = .ok (.invokevirtual 248, 3) := by decide +kernel
theorem dX10_expected_84 : decode cX10_expected 84 = .ok (.aload_n 0, 1) := by decide +kernel
theorem dX10_expected_85 : decode cX10_expected 85 = .ok (.getfield 54, 3) := by decide +kernel
theorem dX10_expected_88 : decode cX10_expected 88 = .ok (.aload_n 0, 1) := by decide +kernel
theorem dX10_expected_89 : decode cX10_expected 89 = .ok (.getfield 33, 3) := by decide +kernel
theorem dX10_expected_92 : decode cX10_expected 92 = .ok (.aload_n 0, 1) := by decide +kernel
theorem dX10_expected_93 : decode cX10_expected 93 = .ok (.getfield 40, 3) := by decide +kernel
theorem dX10_expected_96 : decode cX10_expected 96 = .ok (.getfield 187, 3) := by decide +kernel
theorem dX10_expected_99 : decode cX10_expected 99 = .ok (.iconst (-1), 1) := by decide +kernel
theorem dX10_expected_100 : decode cX10_expected 100 = .ok (.ixor, 1) := by decide +kernel
theorem dX10_expected_101 : decode cX10_expected 101 = .ok (.aload_n 0, 1) := by decide +kernel
theorem dX10_expected_102 : decode cX10_expected 102 = .ok (.getfield 40, 3) := by decide +kernel
theorem dX10_expected_105 : decode cX10_expected 105 = .ok (.getfield 160, 3) := by decide +kernel
theorem dX10_expected_108 : decode cX10_expected 108 = .ok (.sipush 240, 3) := by decide +kernel
theorem dX10_expected_111 : decode cX10_expected 111 = .ok (.iload 4, 2) := by decide +kernel
theorem dX10_expected_113 : decode cX10_expected 113 = .ok (.invokestatic 230, 3) := by decide +kernel
theorem dX10_expected_116 : decode cX10_expected 116 = .ok (.invokevirtual 251, 3) := by decide +kernel
theorem dX10_expected_119 : decode cX10_expected 119 = .ok (.aload_n 0, 1) := by decide +kernel
theorem dX10_expected_120 : decode cX10_expected 120 = .ok (.getfield 54, 3) := by decide +kernel
theorem dX10_expected_123 : decode cX10_expected 123 = .ok (.iload 4, 2) := by decide +kernel
theorem dX10_expected_125 : decode cX10_expected 125 = .ok (.invokevirtual 258, 3) := by decide +kernel
theorem dX10_expected_128 : decode cX10_expected 128 = .ok (.istore_n 3, 1) := by decide +kernel
theorem dX10_expected_129 : decode cX10_expected 129 = .ok (.iload_n 3, 1) := by decide +kernel
theorem dX10_expected_130 : decode cX10_expected 130 = .ok (.iconst (-1), 1) := by decide +kernel
theorem dX10_expected_131 : decode cX10_expected 131 = .ok (.if_icmp .ne 7, 3) := by decide +kernel
theorem dX10_expected_134 : decode cX10_expected 134 = .ok (.iconst (-1), 1) := by decide +kernel
theorem dX10_expected_135 : decode cX10_expected 135 = .ok (.goto 12, 3) := by decide +kernel
theorem dX10_expected_138 : decode cX10_expected 138 = .ok (.iload_n 3, 1) := by decide +kernel
theorem dX10_expected_139 : decode cX10_expected 139 = .ok (.aload_n 0, 1) := by decide +kernel
theorem dX10_expected_140 : decode cX10_expected 140 = .ok (.getfield 40, 3) := by decide +kernel
theorem dX10_expected_143 : decode cX10_expected 143 = .ok (.getfield 160, 3) := by decide +kernel
theorem dX10_expected_146 : decode cX10_expected 146 = .ok (.isub, 1) := by decide +kernel
theorem dX10_expected_147 : decode cX10_expected 147 = .ok (.ireturn, 1) := by decide +kernel
theorem dX10_arrivalFromOffice_0 : decode cX10_arrivalFromOffice 0 = .ok (.aload_n 0, 1) := by decide +kernel
theorem dX10_arrivalFromOffice_1 : decode cX10_arrivalFromOffice 1 = .ok (.getfield 54, 3) := by decide +kernel
theorem dX10_arrivalFromOffice_4 : decode cX10_arrivalFromOffice 4 = .ok (.iload_n 1, 1) := by decide +kernel
theorem dX10_arrivalFromOffice_5 : decode cX10_arrivalFromOffice 5 = .ok (.invokestatic 230, 3) := by decide +kernel
theorem dX10_arrivalFromOffice_8 : decode cX10_arrivalFromOffice 8 = .ok (.iconst 0, 1) := by decide +kernel
theorem dX10_arrivalFromOffice_9 : decode cX10_arrivalFromOffice 9 = .ok (.invokevirtual 248, 3) := by decide +kernel
theorem dX10_arrivalFromOffice_12 : decode cX10_arrivalFromOffice 12 = .ok (.aload_n 0, 1) := by decide +kernel
theorem dX10_arrivalFromOffice_13 : decode cX10_arrivalFromOffice 13 = .ok (.getfield 54, 3) := by decide +kernel
theorem dX10_arrivalFromOffice_16 : decode cX10_arrivalFromOffice 16 = .ok (.aload_n 0, 1) := by decide +kernel
theorem dX10_arrivalFromOffice_17 : decode cX10_arrivalFromOffice 17 = .ok (.getfield 33, 3) := by decide +kernel
theorem dX10_arrivalFromOffice_20 : decode cX10_arrivalFromOffice 20 = .ok (.aload_n 0, 1) := by decide +kernel
theorem dX10_arrivalFromOffice_21 : decode cX10_arrivalFromOffice 21 = .ok (.getfield 40, 3) := by decide +kernel
theorem dX10_arrivalFromOffice_24 : decode cX10_arrivalFromOffice 24 = .ok (.getfield 187, 3) := by decide +kernel
theorem dX10_arrivalFromOffice_27 : decode cX10_arrivalFromOffice 27 = .ok (.iconst (-1), 1) := by decide +kernel
theorem dX10_arrivalFromOffice_28 : decode cX10_arrivalFromOffice 28 = .ok (.ixor, 1) := by decide +kernel
theorem dX10_arrivalFromOffice_29 : decode cX10_arrivalFromOffice 29 = .ok (.aload_n 0, 1) := by decide +kernel
theorem dX10_arrivalFromOffice_30 : decode cX10_arrivalFromOffice 30 = .ok (.getfield 40, 3) := by decide +kernel
theorem dX10_arrivalFromOffice_33 : decode cX10_arrivalFromOffice 33 = .ok (.getfield 160, 3) := by decide +kernel
theorem dX10_arrivalFromOffice_36 : decode cX10_arrivalFromOffice 36 = .ok (.sipush 240, 3) := by decide +kernel
theorem dX10_arrivalFromOffice_39 : decode cX10_arrivalFromOffice 39 = .ok (.iload_n 2, 1) := by decide +kernel
theorem dX10_arrivalFromOffice_40 : decode cX10_arrivalFromOffice 40 = .ok (.invokestatic 230, 3) := by decide +kernel
theorem dX10_arrivalFromOffice_43 : decode cX10_arrivalFromOffice 43 = .ok (.invokevirtual 251, 3) := by decide +kernel
theorem dX10_arrivalFromOffice_46 : decode cX10_arrivalFromOffice 46 = .ok (.aload_n 0, 1) := by decide +kernel
theorem dX10_arrivalFromOffice_47 : decode cX10_arrivalFromOffice 47 = .ok (.getfield 54, 3) := by decide +kernel
theorem dX10_arrivalFromOffice_50 : decode cX10_arrivalFromOffice 50 = .ok (.iload_n 2, 1) := by decide +kernel
theorem dX10_arrivalFromOffice_51 : decode cX10_arrivalFromOffice 51 = .ok (.invokevirtual 258, 3) := by decide +kernel
theorem dX10_arrivalFromOffice_54 : decode cX10_arrivalFromOffice 54 = .ok (.ireturn, 1) := by decide +kernel
theorem dX10_receipt_0 : decode cX10_receipt 0 = .ok (.iload_n 2, 1) := by decide +kernel
theorem dX10_receipt_1 : decode cX10_receipt 1 = .ok (.ifCond .lt 8, 3) := by decide +kernel
theorem dX10_receipt_4 : decode cX10_receipt 4 = .ok (.iload_n 2, 1) := by decide +kernel
theorem dX10_receipt_5 : decode cX10_receipt 5 = .ok (.iconst 5, 1) := by decide +kernel
theorem dX10_receipt_6 : decode cX10_receipt 6 = .ok (.if_icmp .lt 11, 3) := by decide +kernel
theorem dX10_receipt_9 : decode cX10_receipt 9 = .ok (.new 166, 3) := by decide +kernel
theorem dX10_receipt_12 : decode cX10_receipt 12 = .ok (.dup, 1) := by decide +kernel
theorem dX10_receipt_13 : decode cX10_receipt 13 = .ok (.invokespecial 168, 3) := by decide +kernel
theorem dX10_receipt_16 : decode cX10_receipt 16 = .ok (.athrow, 1) := by decide +kernel
theorem dX10_receipt_17 : decode cX10_receipt 17 = .ok (.aload_n 0, 1) := by decide +kernel
theorem dX10_receipt_18 : decode cX10_receipt 18 = .ok (.getfield 40, 3) := by decide +kernel
theorem dX10_receipt_21 : decode cX10_receipt 21 = .ok (.getfield 148, 3) := by decide +kernel
theorem dX10_receipt_24 : decode cX10_receipt 24 = .ok (.iload_n 1, 1) := by decide +kernel
theorem dX10_receipt_25 : decode cX10_receipt 25 = .ok (.iload_n 2, 1) := by decide +kernel
theorem dX10_receipt_26 : decode cX10_receipt 26 = .ok (.invokevirtual 264, 3) := by decide +kernel
theorem dX10_receipt_29 : decode cX10_receipt 29 = .ok (.ireturn, 1) := by decide +kernel
theorem dX10_lastReceipt_0 : decode cX10_lastReceipt 0 = .ok (.iload_n 1, 1) := by decide +kernel
theorem dX10_lastReceipt_1 : decode cX10_lastReceipt 1 = .ok (.aload_n 0, 1) := by decide +kernel
theorem dX10_lastReceipt_2 : decode cX10_lastReceipt 2 = .ok (.getfield 40, 3) := by decide +kernel
theorem dX10_lastReceipt_5 : decode cX10_lastReceipt 5 = .ok (.getfield 107, 3) := by decide +kernel
theorem dX10_lastReceipt_8 : decode cX10_lastReceipt 8 = .ok (.getfield 111, 3) := by decide +kernel
theorem dX10_lastReceipt_11 : decode cX10_lastReceipt 11 = .ok (.invokestatic 169, 3) := by decide +kernel
theorem dX10_lastReceipt_14 : decode cX10_lastReceipt 14 = .ok (.iconst 0, 1) := by decide +kernel
theorem dX10_lastReceipt_15 : decode cX10_lastReceipt 15 = .ok (.istore_n 2, 1) := by decide +kernel
theorem dX10_lastReceipt_16 : decode cX10_lastReceipt 16 = .ok (.iload_n 2, 1) := by decide +kernel
theorem dX10_lastReceipt_17 : decode cX10_lastReceipt 17 = .ok (.aload_n 0, 1) := by decide +kernel
theorem dX10_lastReceipt_18 : decode cX10_lastReceipt 18 = .ok (.getfield 40, 3) := by decide +kernel
theorem dX10_lastReceipt_21 : decode cX10_lastReceipt 21 = .ok (.getfield 148, 3) := by decide +kernel
theorem dX10_lastReceipt_24 : decode cX10_lastReceipt 24 = .ok (.getfield 152, 3) := by decide +kernel
theorem dX10_lastReceipt_27 : decode cX10_lastReceipt 27 = .ok (.if_icmp .ge 27, 3) := by decide +kernel
theorem dX10_lastReceipt_30 : decode cX10_lastReceipt 30 = .ok (.aload_n 0, 1) := by decide +kernel
theorem dX10_lastReceipt_31 : decode cX10_lastReceipt 31 = .ok (.getfield 40, 3) := by decide +kernel
theorem dX10_lastReceipt_34 : decode cX10_lastReceipt 34 = .ok (.getfield 148, 3) := by decide +kernel
theorem dX10_lastReceipt_37 : decode cX10_lastReceipt 37 = .ok (.iload_n 2, 1) := by decide +kernel
theorem dX10_lastReceipt_38 : decode cX10_lastReceipt 38 = .ok (.iconst 1, 1) := by decide +kernel
theorem dX10_lastReceipt_39 : decode cX10_lastReceipt 39 = .ok (.invokevirtual 264, 3) := by decide +kernel
theorem dX10_lastReceipt_42 : decode cX10_lastReceipt 42 = .ok (.iload_n 1, 1) := by decide +kernel
theorem dX10_lastReceipt_43 : decode cX10_lastReceipt 43 = .ok (.if_icmp .ne 5, 3) := by decide +kernel
theorem dX10_lastReceipt_46 : decode cX10_lastReceipt 46 = .ok (.iload_n 2, 1) := by decide +kernel
theorem dX10_lastReceipt_47 : decode cX10_lastReceipt 47 = .ok (.ireturn, 1) := by decide +kernel
theorem dX10_lastReceipt_48 : decode cX10_lastReceipt 48 = .ok (.iinc 2 1, 3) := by decide +kernel
theorem dX10_lastReceipt_51 : decode cX10_lastReceipt 51 = .ok (.goto (-35), 3) := by decide +kernel
theorem dX10_lastReceipt_54 : decode cX10_lastReceipt 54 = .ok (.iconst (-1), 1) := by decide +kernel
theorem dX10_lastReceipt_55 : decode cX10_lastReceipt 55 = .ok (.ireturn, 1) := by decide +kernel
theorem dX10_lostSack_0 : decode cX10_lostSack 0 = .ok (.iload_n 1, 1) := by decide +kernel
theorem dX10_lostSack_1 : decode cX10_lostSack 1 = .ok (.aload_n 0, 1) := by decide +kernel
theorem dX10_lostSack_2 : decode cX10_lostSack 2 = .ok (.getfield 40, 3) := by decide +kernel
theorem dX10_lostSack_5 : decode cX10_lostSack 5 = .ok (.getfield 141, 3) := by decide +kernel
theorem dX10_lostSack_8 : decode cX10_lostSack 8 = .ok (.getfield 145, 3) := by decide +kernel
theorem dX10_lostSack_11 : decode cX10_lostSack 11 = .ok (.invokestatic 169, 3) := by decide +kernel
theorem dX10_lostSack_14 : decode cX10_lostSack 14 = .ok (.iload_n 2, 1) := by decide +kernel
theorem dX10_lostSack_15 : decode cX10_lostSack 15 = .ok (.tableswitch 79 0 3 #[29, 41, 53, 66], 29) := by decide +kernel
theorem dX10_lostSack_44 : decode cX10_lostSack 44 = .ok (.aload_n 0, 1) := by decide +kernel
theorem dX10_lostSack_45 : decode cX10_lostSack 45 = .ok (.getfield 40, 3) := by decide +kernel
theorem dX10_lostSack_48 : decode cX10_lostSack 48 = .ok (.getfield 141, 3) := by decide +kernel
theorem dX10_lostSack_51 : decode cX10_lostSack 51 = .ok (.iload_n 1, 1) := by decide +kernel
theorem dX10_lostSack_52 : decode cX10_lostSack 52 = .ok (.invokevirtual 227, 3) := by decide +kernel
theorem dX10_lostSack_55 : decode cX10_lostSack 55 = .ok (.ireturn, 1) := by decide +kernel
theorem dX10_lostSack_56 : decode cX10_lostSack 56 = .ok (.aload_n 0, 1) := by decide +kernel
theorem dX10_lostSack_57 : decode cX10_lostSack 57 = .ok (.getfield 40, 3) := by decide +kernel
theorem dX10_lostSack_60 : decode cX10_lostSack 60 = .ok (.getfield 141, 3) := by decide +kernel
theorem dX10_lostSack_63 : decode cX10_lostSack 63 = .ok (.iload_n 1, 1) := by decide +kernel
theorem dX10_lostSack_64 : decode cX10_lostSack 64 = .ok (.invokevirtual 267, 3) := by decide +kernel
theorem dX10_lostSack_67 : decode cX10_lostSack 67 = .ok (.ireturn, 1) := by decide +kernel
theorem dX10_lostSack_68 : decode cX10_lostSack 68 = .ok (.aload_n 0, 1) := by decide +kernel
theorem dX10_lostSack_69 : decode cX10_lostSack 69 = .ok (.getfield 40, 3) := by decide +kernel
theorem dX10_lostSack_72 : decode cX10_lostSack 72 = .ok (.getfield 107, 3) := by decide +kernel
theorem dX10_lostSack_75 : decode cX10_lostSack 75 = .ok (.iconst 3, 1) := by decide +kernel
theorem dX10_lostSack_76 : decode cX10_lostSack 76 = .ok (.iload_n 1, 1) := by decide +kernel
theorem dX10_lostSack_77 : decode cX10_lostSack 77 = .ok (.invokevirtual 203, 3) := by decide +kernel
theorem dX10_lostSack_80 : decode cX10_lostSack 80 = .ok (.ireturn, 1) := by decide +kernel
theorem dX10_lostSack_81 : decode cX10_lostSack 81 = .ok (.aload_n 0, 1) := by decide +kernel
theorem dX10_lostSack_82 : decode cX10_lostSack 82 = .ok (.getfield 40, 3) := by decide +kernel
theorem dX10_lostSack_85 : decode cX10_lostSack 85 = .ok (.getfield 107, 3) := by decide +kernel
theorem dX10_lostSack_88 : decode cX10_lostSack 88 = .ok (.iconst 3, 1) := by decide +kernel
theorem dX10_lostSack_89 : decode cX10_lostSack 89 = .ok (.iload_n 1, 1) := by decide +kernel
theorem dX10_lostSack_90 : decode cX10_lostSack 90 = .ok (.invokevirtual 210, 3) := by decide +kernel
theorem dX10_lostSack_93 : decode cX10_lostSack 93 = .ok (.ireturn, 1) := by decide +kernel
theorem dX10_lostSack_94 : decode cX10_lostSack 94 = .ok (.new 166, 3) := by decide +kernel
theorem dX10_lostSack_97 : decode cX10_lostSack 97 = .ok (.dup, 1) := by decide +kernel
theorem dX10_lostSack_98 : decode cX10_lostSack 98 = .ok (.invokespecial 168, 3) := by decide +kernel
theorem dX10_lostSack_101 : decode cX10_lostSack 101 = .ok (.athrow, 1) := by decide +kernel
theorem dX10_post_0 : decode cX10_post 0 = .ok (.aload_n 0, 1) := by decide +kernel
theorem dX10_post_1 : decode cX10_post 1 = .ok (.iload_n 1, 1) := by decide +kernel
theorem dX10_post_2 : decode cX10_post 2 = .ok (.iload_n 2, 1) := by decide +kernel
theorem dX10_post_3 : decode cX10_post 3 = .ok (.invokevirtual 242, 3) := by decide +kernel
theorem dX10_post_6 : decode cX10_post 6 = .ok (.iload_n 3, 1) := by decide +kernel
theorem dX10_post_7 : decode cX10_post 7 = .ok (.ifCond .lt 10, 3) := by decide +kernel
theorem dX10_post_10 : decode cX10_post 10 = .ok (.iload_n 3, 1) := by decide +kernel
theorem dX10_post_11 : decode cX10_post 11 = .ok (.sipush 999, 3) := by decide +kernel
theorem dX10_post_14 : decode cX10_post 14 = .ok (.if_icmp .le 11, 3) := by decide +kernel
theorem dX10_post_17 : decode cX10_post 17 = .ok (.new 86, 3) := by decide +kernel
theorem dX10_post_20 : decode cX10_post 20 = .ok (.dup, 1) := by decide +kernel
theorem dX10_post_21 : decode cX10_post 21 = .ok (.invokespecial 88, 3) := by decide +kernel
theorem dX10_post_24 : decode cX10_post 24 = .ok (.athrow, 1) := by decide +kernel
theorem dX10_post_25 : decode cX10_post 25 = .ok (.aload_n 0, 1) := by decide +kernel
theorem dX10_post_26 : decode cX10_post 26 = .ok (.getfield 40, 3) := by decide +kernel
theorem dX10_post_29 : decode cX10_post 29 = .ok (.getfield 107, 3) := by decide +kernel
theorem dX10_post_32 : decode cX10_post 32 = .ok (.getfield 111, 3) := by decide +kernel
theorem dX10_post_35 : decode cX10_post 35 = .ok (.bipush 30, 2) := by decide +kernel
theorem dX10_post_37 : decode cX10_post 37 = .ok (.if_icmp .lt 11, 3) := by decide +kernel
theorem dX10_post_40 : decode cX10_post 40 = .ok (.new 270, 3) := by decide +kernel
theorem dX10_post_43 : decode cX10_post 43 = .ok (.dup, 1) := by decide +kernel
theorem dX10_post_44 : decode cX10_post 44 = .ok (.invokespecial 272, 3) := by decide +kernel
theorem dX10_post_47 : decode cX10_post 47 = .ok (.athrow, 1) := by decide +kernel
theorem dX10_post_48 : decode cX10_post 48 = .ok (.aload_n 0, 1) := by decide +kernel
theorem dX10_post_49 : decode cX10_post 49 = .ok (.getfield 47, 3) := by decide +kernel
theorem dX10_post_52 : decode cX10_post 52 = .ok (.aload_n 0, 1) := by decide +kernel
theorem dX10_post_53 : decode cX10_post 53 = .ok (.getfield 40, 3) := by decide +kernel
theorem dX10_post_56 : decode cX10_post 56 = .ok (.invokevirtual 273, 3) := by decide +kernel
theorem dX10_post_59 : decode cX10_post 59 = .ok (.aload_n 0, 1) := by decide +kernel
theorem dX10_post_60 : decode cX10_post 60 = .ok (.getfield 40, 3) := by decide +kernel
theorem dX10_post_63 : decode cX10_post 63 = .ok (.getfield 107, 3) := by decide +kernel
theorem dX10_post_66 : decode cX10_post 66 = .ok (.iload_n 1, 1) := by decide +kernel
theorem dX10_post_67 : decode cX10_post 67 = .ok (.iload_n 2, 1) := by decide +kernel
theorem dX10_post_68 : decode cX10_post 68 = .ok (.iload_n 3, 1) := by decide +kernel
theorem dX10_post_69 : decode cX10_post 69 = .ok (.aload_n 0, 1) := by decide +kernel
theorem dX10_post_70 : decode cX10_post 70 = .ok (.getfield 40, 3) := by decide +kernel
theorem dX10_post_73 : decode cX10_post 73 = .ok (.getfield 160, 3) := by decide +kernel
theorem dX10_post_76 : decode cX10_post 76 = .ok (.aload_n 0, 1) := by decide +kernel
theorem dX10_post_77 : decode cX10_post 77 = .ok (.iload_n 1, 1) := by decide +kernel
theorem dX10_post_78 : decode cX10_post 78 = .ok (.iload_n 2, 1) := by decide +kernel
theorem dX10_post_79 : decode cX10_post 79 = .ok (.invokevirtual 125, 3) := by decide +kernel
theorem dX10_post_82 : decode cX10_post 82 = .ok (.invokevirtual 276, 3) := by decide +kernel
theorem dX10_post_85 : decode cX10_post 85 = .ok (.ireturn, 1) := by decide +kernel
theorem dX10_run_0 : decode cX10_run 0 = .ok (.iload_n 1, 1) := by decide +kernel
theorem dX10_run_1 : decode cX10_run 1 = .ok (.iconst 1, 1) := by decide +kernel
theorem dX10_run_2 : decode cX10_run 2 = .ok (.if_icmp .lt 10, 3) := by decide +kernel
theorem dX10_run_5 : decode cX10_run 5 = .ok (.iload_n 1, 1) := by decide +kernel
theorem dX10_run_6 : decode cX10_run 6 = .ok (.sipush 168, 3) := by decide +kernel
theorem dX10_run_9 : decode cX10_run 9 = .ok (.if_icmp .le 11, 3) := by decide +kernel
theorem dX10_run_12 : decode cX10_run 12 = .ok (.new 86, 3) := by decide +kernel
theorem dX10_run_15 : decode cX10_run 15 = .ok (.dup, 1) := by decide +kernel
theorem dX10_run_16 : decode cX10_run 16 = .ok (.invokespecial 88, 3) := by decide +kernel
theorem dX10_run_19 : decode cX10_run 19 = .ok (.athrow, 1) := by decide +kernel
theorem dX10_run_20 : decode cX10_run 20 = .ok (.aload_n 0, 1) := by decide +kernel
theorem dX10_run_21 : decode cX10_run 21 = .ok (.getfield 47, 3) := by decide +kernel
theorem dX10_run_24 : decode cX10_run 24 = .ok (.aload_n 0, 1) := by decide +kernel
theorem dX10_run_25 : decode cX10_run 25 = .ok (.getfield 40, 3) := by decide +kernel
theorem dX10_run_28 : decode cX10_run 28 = .ok (.invokevirtual 273, 3) := by decide +kernel
theorem dX10_run_31 : decode cX10_run 31 = .ok (.iconst 0, 1) := by decide +kernel
theorem dX10_run_32 : decode cX10_run 32 = .ok (.istore_n 2, 1) := by decide +kernel
theorem dX10_run_33 : decode cX10_run 33 = .ok (.iconst 0, 1) := by decide +kernel
theorem dX10_run_34 : decode cX10_run 34 = .ok (.istore_n 3, 1) := by decide +kernel
theorem dX10_run_35 : decode cX10_run 35 = .ok (.iload_n 3, 1) := by decide +kernel
theorem dX10_run_36 : decode cX10_run 36 = .ok (.iload_n 1, 1) := by decide +kernel
theorem dX10_run_37 : decode cX10_run 37 = .ok (.if_icmp .ge 27, 3) := by decide +kernel
theorem dX10_run_40 : decode cX10_run 40 = .ok (.iload_n 2, 1) := by decide +kernel
theorem dX10_run_41 : decode cX10_run 41 = .ok (.aload_n 0, 1) := by decide +kernel
theorem dX10_run_42 : decode cX10_run 42 = .ok (.getfield 61, 3) := by decide +kernel
theorem dX10_run_45 : decode cX10_run 45 = .ok (.aload_n 0, 1) := by decide +kernel
theorem dX10_run_46 : decode cX10_run 46 = .ok (.getfield 33, 3) := by decide +kernel
theorem dX10_run_49 : decode cX10_run 49 = .ok (.aload_n 0, 1) := by decide +kernel
theorem dX10_run_50 : decode cX10_run 50 = .ok (.getfield 40, 3) := by decide +kernel
theorem dX10_run_53 : decode cX10_run 53 = .ok (.invokevirtual 280, 3) := by decide +kernel
theorem dX10_run_56 : decode cX10_run 56 = .ok (.iadd, 1) := by decide +kernel
theorem dX10_run_57 : decode cX10_run 57 = .ok (.istore_n 2, 1) := by decide +kernel
theorem dX10_run_58 : decode cX10_run 58 = .ok (.iinc 3 1, 3) := by decide +kernel
theorem dX10_run_61 : decode cX10_run 61 = .ok (.goto (-26), 3) := by decide +kernel
theorem dX10_run_64 : decode cX10_run 64 = .ok (.iload_n 2, 1) := by decide +kernel
theorem dX10_run_65 : decode cX10_run 65 = .ok (.ireturn, 1) := by decide +kernel
theorem dX10_lose_0 : decode cX10_lose 0 = .ok (.iload_n 1, 1) := by decide +kernel
theorem dX10_lose_1 : decode cX10_lose 1 = .ok (.aload_n 0, 1) := by decide +kernel
theorem dX10_lose_2 : decode cX10_lose 2 = .ok (.getfield 33, 3) := by decide +kernel
theorem dX10_lose_5 : decode cX10_lose 5 = .ok (.getfield 138, 3) := by decide +kernel
theorem dX10_lose_8 : decode cX10_lose 8 = .ok (.invokestatic 169, 3) := by decide +kernel
theorem dX10_lose_11 : decode cX10_lose 11 = .ok (.aload_n 0, 1) := by decide +kernel
theorem dX10_lose_12 : decode cX10_lose 12 = .ok (.getfield 47, 3) := by decide +kernel
theorem dX10_lose_15 : decode cX10_lose 15 = .ok (.aload_n 0, 1) := by decide +kernel
theorem dX10_lose_16 : decode cX10_lose 16 = .ok (.getfield 40, 3) := by decide +kernel
theorem dX10_lose_19 : decode cX10_lose 19 = .ok (.invokevirtual 273, 3) := by decide +kernel
theorem dX10_lose_22 : decode cX10_lose 22 = .ok (.aload_n 0, 1) := by decide +kernel
theorem dX10_lose_23 : decode cX10_lose 23 = .ok (.getfield 40, 3) := by decide +kernel
theorem dX10_lose_26 : decode cX10_lose 26 = .ok (.iload_n 1, 1) := by decide +kernel
theorem dX10_lose_27 : decode cX10_lose 27 = .ok (.invokevirtual 284, 3) := by decide +kernel
theorem dX10_lose_30 : decode cX10_lose 30 = .ok (.ireturn, 1) := by decide +kernel
theorem dX10_find_0 : decode cX10_find 0 = .ok (.iload_n 1, 1) := by decide +kernel
theorem dX10_find_1 : decode cX10_find 1 = .ok (.aload_n 0, 1) := by decide +kernel
theorem dX10_find_2 : decode cX10_find 2 = .ok (.getfield 40, 3) := by decide +kernel
theorem dX10_find_5 : decode cX10_find 5 = .ok (.getfield 141, 3) := by decide +kernel
theorem dX10_find_8 : decode cX10_find 8 = .ok (.getfield 145, 3) := by decide +kernel
theorem dX10_find_11 : decode cX10_find 11 = .ok (.invokestatic 169, 3) := by decide +kernel
theorem dX10_find_14 : decode cX10_find 14 = .ok (.aload_n 0, 1) := by decide +kernel
theorem dX10_find_15 : decode cX10_find 15 = .ok (.iload_n 2, 1) := by decide +kernel
theorem dX10_find_16 : decode cX10_find 16 = .ok (.invokevirtual 245, 3) := by decide +kernel
theorem dX10_find_19 : decode cX10_find 19 = .ok (.aload_n 0, 1) := by decide +kernel
theorem dX10_find_20 : decode cX10_find 20 = .ok (.getfield 47, 3) := by decide +kernel
theorem dX10_find_23 : decode cX10_find 23 = .ok (.aload_n 0, 1) := by decide +kernel
theorem dX10_find_24 : decode cX10_find 24 = .ok (.getfield 40, 3) := by decide +kernel
theorem dX10_find_27 : decode cX10_find 27 = .ok (.invokevirtual 273, 3) := by decide +kernel
theorem dX10_find_30 : decode cX10_find 30 = .ok (.aload_n 0, 1) := by decide +kernel
theorem dX10_find_31 : decode cX10_find 31 = .ok (.getfield 40, 3) := by decide +kernel
theorem dX10_find_34 : decode cX10_find 34 = .ok (.iload_n 1, 1) := by decide +kernel
theorem dX10_find_35 : decode cX10_find 35 = .ok (.iload_n 2, 1) := by decide +kernel
theorem dX10_find_36 : decode cX10_find 36 = .ok (.invokevirtual 287, 3) := by decide +kernel
theorem dX10_find_39 : decode cX10_find 39 = .ok (.ireturn, 1) := by decide +kernel
theorem dX10_claim_0 : decode cX10_claim 0 = .ok (.aload_n 0, 1) := by decide +kernel
theorem dX10_claim_1 : decode cX10_claim 1 = .ok (.getfield 40, 3) := by decide +kernel
theorem dX10_claim_4 : decode cX10_claim 4 = .ok (.getfield 107, 3) := by decide +kernel
theorem dX10_claim_7 : decode cX10_claim 7 = .ok (.astore_n 2, 1) := by decide +kernel
theorem dX10_claim_8 : decode cX10_claim 8 = .ok (.iload_n 1, 1) := by decide +kernel
theorem dX10_claim_9 : decode cX10_claim 9 = .ok (.aload_n 2, 1) := by decide +kernel
theorem dX10_claim_10 : decode cX10_claim 10 = .ok (.getfield 111, 3) := by decide +kernel
theorem dX10_claim_13 : decode cX10_claim 13 = .ok (.invokestatic 169, 3) := by decide +kernel
theorem dX10_claim_16 : decode cX10_claim 16 = .ok (.aload_n 2, 1) := by decide +kernel
theorem dX10_claim_17 : decode cX10_claim 17 = .ok (.getfield 221, 3) := by decide +kernel
theorem dX10_claim_20 : decode cX10_claim 20 = .ok (.iload_n 1, 1) := by decide +kernel
theorem dX10_claim_21 : decode cX10_claim 21 = .ok (.iaload, 1) := by decide +kernel
theorem dX10_claim_22 : decode cX10_claim 22 = .ok (.ifCond .eq 51, 3) := by decide +kernel
theorem dX10_claim_25 : decode cX10_claim 25 = .ok (.aload_n 2, 1) := by decide +kernel
theorem dX10_claim_26 : decode cX10_claim 26 = .ok (.getfield 239, 3) := by decide +kernel
theorem dX10_claim_29 : decode cX10_claim 29 = .ok (.iload_n 1, 1) := by decide +kernel
theorem dX10_claim_30 : decode cX10_claim 30 = .ok (.iaload, 1) := by decide +kernel
theorem dX10_claim_31 : decode cX10_claim 31 = .ok (.ifCond .ne 42, 3) := by decide +kernel
theorem dX10_claim_34 : decode cX10_claim 34 = .ok (.aload_n 2, 1) := by decide +kernel
theorem dX10_claim_35 : decode cX10_claim 35 = .ok (.getfield 219, 3) := by decide +kernel
theorem dX10_claim_38 : decode cX10_claim 38 = .ok (.iload_n 1, 1) := by decide +kernel
theorem dX10_claim_39 : decode cX10_claim 39 = .ok (.iaload, 1) := by decide +kernel
theorem dX10_claim_40 : decode cX10_claim 40 = .ok (.iconst 3, 1) := by decide +kernel
theorem dX10_claim_41 : decode cX10_claim 41 = .ok (.if_icmp .ne 32, 3) := by decide +kernel
theorem dX10_claim_44 : decode cX10_claim 44 = .ok (.aload_n 0, 1) := by decide +kernel
theorem dX10_claim_45 : decode cX10_claim 45 = .ok (.getfield 40, 3) := by decide +kernel
theorem dX10_claim_48 : decode cX10_claim 48 = .ok (.getfield 160, 3) := by decide +kernel
theorem dX10_claim_51 : decode cX10_claim 51 = .ok (.aload_n 0, 1) := by decide +kernel
theorem dX10_claim_52 : decode cX10_claim 52 = .ok (.getfield 40, 3) := by decide +kernel
theorem dX10_claim_55 : decode cX10_claim 55 = .ok (.getfield 141, 3) := by decide +kernel
theorem dX10_claim_58 : decode cX10_claim 58 = .ok (.aload_n 2, 1) := by decide +kernel
theorem dX10_claim_59 : decode cX10_claim 59 = .ok (.getfield 224, 3) := by decide +kernel
theorem dX10_claim_62 : decode cX10_claim 62 = .ok (.iload_n 1, 1) := by decide +kernel
theorem dX10_claim_63 : decode cX10_claim 63 = .ok (.iaload, 1) := by decide +kernel
theorem dX10_claim_64 : decode cX10_claim 64 = .ok (.invokevirtual 267, 3) := by decide +kernel
theorem dX10_claim_67 : decode cX10_claim 67 = .ok (.isub, 1) := by decide +kernel
theorem dX10_claim_68 : decode cX10_claim 68 = .ok (.bipush 72, 2) := by decide +kernel
theorem dX10_claim_70 : decode cX10_claim 70 = .ok (.if_icmp .ge 11, 3) := by decide +kernel
theorem dX10_claim_73 : decode cX10_claim 73 = .ok (.new 270, 3) := by decide +kernel
theorem dX10_claim_76 : decode cX10_claim 76 = .ok (.dup, 1) := by decide +kernel
theorem dX10_claim_77 : decode cX10_claim 77 = .ok (.invokespecial 272, 3) := by decide +kernel
theorem dX10_claim_80 : decode cX10_claim 80 = .ok (.athrow, 1) := by decide +kernel
theorem dX10_claim_81 : decode cX10_claim 81 = .ok (.aload_n 0, 1) := by decide +kernel
theorem dX10_claim_82 : decode cX10_claim 82 = .ok (.getfield 47, 3) := by decide +kernel
theorem dX10_claim_85 : decode cX10_claim 85 = .ok (.aload_n 0, 1) := by decide +kernel
theorem dX10_claim_86 : decode cX10_claim 86 = .ok (.getfield 40, 3) := by decide +kernel
theorem dX10_claim_89 : decode cX10_claim 89 = .ok (.invokevirtual 273, 3) := by decide +kernel
theorem dX10_claim_92 : decode cX10_claim 92 = .ok (.aload_n 2, 1) := by decide +kernel
theorem dX10_claim_93 : decode cX10_claim 93 = .ok (.getfield 239, 3) := by decide +kernel
theorem dX10_claim_96 : decode cX10_claim 96 = .ok (.iload_n 1, 1) := by decide +kernel
theorem dX10_claim_97 : decode cX10_claim 97 = .ok (.iconst 1, 1) := by decide +kernel
theorem dX10_claim_98 : decode cX10_claim 98 = .ok (.iastore, 1) := by decide +kernel
theorem dX10_claim_99 : decode cX10_claim 99 = .ok (.aload_n 2, 1) := by decide +kernel
theorem dX10_claim_100 : decode cX10_claim 100 = .ok (.getfield 221, 3) := by decide +kernel
theorem dX10_claim_103 : decode cX10_claim 103 = .ok (.iload_n 1, 1) := by decide +kernel
theorem dX10_claim_104 : decode cX10_claim 104 = .ok (.iaload, 1) := by decide +kernel
theorem dX10_claim_105 : decode cX10_claim 105 = .ok (.ireturn, 1) := by decide +kernel
theorem dX10_strike_0 : decode cX10_strike 0 = .ok (.iload_n 1, 1) := by decide +kernel
theorem dX10_strike_1 : decode cX10_strike 1 = .ok (.aload_n 0, 1) := by decide +kernel
theorem dX10_strike_2 : decode cX10_strike 2 = .ok (.getfield 33, 3) := by decide +kernel
theorem dX10_strike_5 : decode cX10_strike 5 = .ok (.getfield 138, 3) := by decide +kernel
theorem dX10_strike_8 : decode cX10_strike 8 = .ok (.invokestatic 169, 3) := by decide +kernel
theorem dX10_strike_11 : decode cX10_strike 11 = .ok (.aload_n 0, 1) := by decide +kernel
theorem dX10_strike_12 : decode cX10_strike 12 = .ok (.getfield 47, 3) := by decide +kernel
theorem dX10_strike_15 : decode cX10_strike 15 = .ok (.aload_n 0, 1) := by decide +kernel
theorem dX10_strike_16 : decode cX10_strike 16 = .ok (.getfield 40, 3) := by decide +kernel
theorem dX10_strike_19 : decode cX10_strike 19 = .ok (.invokevirtual 273, 3) := by decide +kernel
theorem dX10_strike_22 : decode cX10_strike 22 = .ok (.aload_n 0, 1) := by decide +kernel
theorem dX10_strike_23 : decode cX10_strike 23 = .ok (.getfield 40, 3) := by decide +kernel
theorem dX10_strike_26 : decode cX10_strike 26 = .ok (.getfield 187, 3) := by decide +kernel
theorem dX10_strike_29 : decode cX10_strike 29 = .ok (.iload_n 1, 1) := by decide +kernel
theorem dX10_strike_30 : decode cX10_strike 30 = .ok (.invokestatic 190, 3) := by decide +kernel
theorem dX10_strike_33 : decode cX10_strike 33 = .ok (.istore_n 3, 1) := by decide +kernel
theorem dX10_strike_34 : decode cX10_strike 34 = .ok (.aload_n 0, 1) := by decide +kernel
theorem dX10_strike_35 : decode cX10_strike 35 = .ok (.getfield 40, 3) := by decide +kernel
theorem dX10_strike_38 : decode cX10_strike 38 = .ok (.iload_n 2, 1) := by decide +kernel
theorem dX10_strike_39 : decode cX10_strike 39 = .ok (.ifCond .eq 18, 3) := by decide +kernel
theorem dX10_strike_42 : decode cX10_strike 42 = .ok (.aload_n 0, 1) := by decide +kernel
theorem dX10_strike_43 : decode cX10_strike 43 = .ok (.getfield 40, 3) := by decide +kernel
theorem dX10_strike_46 : decode cX10_strike 46 = .ok (.getfield 187, 3) := by decide +kernel
theorem dX10_strike_49 : decode cX10_strike 49 = .ok (.iload_n 1, 1) := by decide +kernel
theorem dX10_strike_50 : decode cX10_strike 50 = .ok (.invokestatic 230, 3) := by decide +kernel
theorem dX10_strike_53 : decode cX10_strike 53 = .ok (.ior, 1) := by decide +kernel
theorem dX10_strike_54 : decode cX10_strike 54 = .ok (.goto 17, 3) := by decide +kernel
theorem dX10_strike_57 : decode cX10_strike 57 = .ok (.aload_n 0, 1) := by decide +kernel
theorem dX10_strike_58 : decode cX10_strike 58 = .ok (.getfield 40, 3) := by decide +kernel
theorem dX10_strike_61 : decode cX10_strike 61 = .ok (.getfield 187, 3) := by decide +kernel
theorem dX10_strike_64 : decode cX10_strike 64 = .ok (.iload_n 1, 1) := by decide +kernel
theorem dX10_strike_65 : decode cX10_strike 65 = .ok (.invokestatic 230, 3) := by decide +kernel
theorem dX10_strike_68 : decode cX10_strike 68 = .ok (.iconst (-1), 1) := by decide +kernel
theorem dX10_strike_69 : decode cX10_strike 69 = .ok (.ixor, 1) := by decide +kernel
theorem dX10_strike_70 : decode cX10_strike 70 = .ok (.iand, 1) := by decide +kernel
theorem dX10_strike_71 : decode cX10_strike 71 = .ok (.putfield 187, 3) := by decide +kernel
theorem dX10_strike_74 : decode cX10_strike 74 = .ok (.iload_n 3, 1) := by decide +kernel
theorem dX10_strike_75 : decode cX10_strike 75 = .ok (.ireturn, 1) := by decide +kernel
theorem dX10_setCapacity_0 : decode cX10_setCapacity 0 = .ok (.iload_n 1, 1) := by decide +kernel
theorem dX10_setCapacity_1 : decode cX10_setCapacity 1 = .ok (.iconst 1, 1) := by decide +kernel
theorem dX10_setCapacity_2 : decode cX10_setCapacity 2 = .ok (.if_icmp .lt 9, 3) := by decide +kernel
theorem dX10_setCapacity_5 : decode cX10_setCapacity 5 = .ok (.iload_n 1, 1) := by decide +kernel
theorem dX10_setCapacity_6 : decode cX10_setCapacity 6 = .ok (.bipush 20, 2) := by decide +kernel
theorem dX10_setCapacity_8 : decode cX10_setCapacity 8 = .ok (.if_icmp .le 11, 3) := by decide +kernel
theorem dX10_setCapacity_11 : decode cX10_setCapacity 11 = .ok (.new 86, 3) := by decide +kernel
theorem dX10_setCapacity_14 : decode cX10_setCapacity 14 = .ok (.dup, 1) := by decide +kernel
theorem dX10_setCapacity_15 : decode cX10_setCapacity 15 = .ok (.invokespecial 88, 3) := by decide +kernel
theorem dX10_setCapacity_18 : decode cX10_setCapacity 18 = .ok (.athrow, 1) := by decide +kernel
theorem dX10_setCapacity_19 : decode cX10_setCapacity 19 = .ok (.aload_n 0, 1) := by decide +kernel
theorem dX10_setCapacity_20 : decode cX10_setCapacity 20 = .ok (.getfield 47, 3) := by decide +kernel
theorem dX10_setCapacity_23 : decode cX10_setCapacity 23 = .ok (.aload_n 0, 1) := by decide +kernel
theorem dX10_setCapacity_24 : decode cX10_setCapacity 24 = .ok (.getfield 40, 3) := by decide +kernel
theorem dX10_setCapacity_27 : decode cX10_setCapacity 27 = .ok (.invokevirtual 273, 3) := by decide +kernel
theorem dX10_setCapacity_30 : decode cX10_setCapacity 30 = .ok (.aload_n 0, 1) := by decide +kernel
theorem dX10_setCapacity_31 : decode cX10_setCapacity 31 = .ok (.getfield 40, 3) := by decide +kernel
theorem dX10_setCapacity_34 : decode cX10_setCapacity 34 = .ok (.getfield 157, 3) := by decide +kernel
theorem dX10_setCapacity_37 : decode cX10_setCapacity 37 = .ok (.istore_n 2, 1) := by decide +kernel
theorem dX10_setCapacity_38 : decode cX10_setCapacity 38 = .ok (.aload_n 0, 1) := by decide +kernel
theorem dX10_setCapacity_39 : decode cX10_setCapacity 39 = .ok (.getfield 40, 3) := by decide +kernel
theorem dX10_setCapacity_42 : decode cX10_setCapacity 42 = .ok (.iload_n 1, 1) := by decide +kernel
theorem dX10_setCapacity_43 : decode cX10_setCapacity 43 = .ok (.putfield 157, 3) := by decide +kernel
theorem dX10_setCapacity_46 : decode cX10_setCapacity 46 = .ok (.iload_n 2, 1) := by decide +kernel
theorem dX10_setCapacity_47 : decode cX10_setCapacity 47 = .ok (.ireturn, 1) := by decide +kernel
theorem dX10_undo_0 : decode cX10_undo 0 = .ok (.aload_n 0, 1) := by decide +kernel
theorem dX10_undo_1 : decode cX10_undo 1 = .ok (.getfield 47, 3) := by decide +kernel
theorem dX10_undo_4 : decode cX10_undo 4 = .ok (.aload_n 0, 1) := by decide +kernel
theorem dX10_undo_5 : decode cX10_undo 5 = .ok (.getfield 40, 3) := by decide +kernel
theorem dX10_undo_8 : decode cX10_undo 8 = .ok (.invokevirtual 290, 3) := by decide +kernel
theorem dX10_undo_11 : decode cX10_undo 11 = .ok (.ifCond .eq 13, 3) := by decide +kernel
theorem dX10_undo_14 : decode cX10_undo 14 = .ok (.aload_n 0, 1) := by decide +kernel
theorem dX10_undo_15 : decode cX10_undo 15 = .ok (.getfield 47, 3) := by decide +kernel
theorem dX10_undo_18 : decode cX10_undo 18 = .ok (.getfield 294, 3) := by decide +kernel
theorem dX10_undo_21 : decode cX10_undo 21 = .ok (.goto 4, 3) := by decide +kernel
theorem dX10_undo_24 : decode cX10_undo 24 = .ok (.iconst (-1), 1) := by decide +kernel
theorem dX10_undo_25 : decode cX10_undo 25 = .ok (.ireturn, 1) := by decide +kernel
theorem dX10_undoDepth_0 : decode cX10_undoDepth 0 = .ok (.aload_n 0, 1) := by decide +kernel
theorem dX10_undoDepth_1 : decode cX10_undoDepth 1 = .ok (.getfield 47, 3) := by decide +kernel
theorem dX10_undoDepth_4 : decode cX10_undoDepth 4 = .ok (.getfield 294, 3) := by decide +kernel
theorem dX10_undoDepth_7 : decode cX10_undoDepth 7 = .ok (.ireturn, 1) := by decide +kernel
theorem dX10_formatLetter_0 : decode cX10_formatLetter 0 = .ok (.aload_n 0, 1) := by decide +kernel
theorem dX10_formatLetter_1 : decode cX10_formatLetter 1 = .ok (.getfield 40, 3) := by decide +kernel
theorem dX10_formatLetter_4 : decode cX10_formatLetter 4 = .ok (.getfield 107, 3) := by decide +kernel
theorem dX10_formatLetter_7 : decode cX10_formatLetter 7 = .ok (.astore_n 2, 1) := by decide +kernel
theorem dX10_formatLetter_8 : decode cX10_formatLetter 8 = .ok (.iload_n 1, 1) := by decide +kernel
theorem dX10_formatLetter_9 : decode cX10_formatLetter 9 = .ok (.aload_n 2, 1) := by decide +kernel
theorem dX10_formatLetter_10 : decode cX10_formatLetter 10 = .ok (.getfield 111, 3) := by decide +kernel
theorem dX10_formatLetter_13 : decode cX10_formatLetter 13 = .ok (.invokestatic 169, 3) := by decide +kernel
theorem dX10_formatLetter_16 : decode cX10_formatLetter 16 = .ok (.aload_n 0, 1) := by decide +kernel
theorem dX10_formatLetter_17 : decode cX10_formatLetter 17 = .ok (.getfield 68, 3) := by decide +kernel
theorem dX10_formatLetter_20 : decode cX10_formatLetter 20 = .ok (.iconst 0, 1) := by decide +kernel
theorem dX10_formatLetter_21 : decode cX10_formatLetter 21 = .ok (.putfield 297, 3) := by decide +kernel
theorem dX10_formatLetter_24 : decode cX10_formatLetter 24 = .ok (.aload_n 0, 1) := by decide +kernel
theorem dX10_formatLetter_25 : decode cX10_formatLetter 25 = .ok (.getfield 68, 3) := by decide +kernel
theorem dX10_formatLetter_28 : decode cX10_formatLetter 28 = .ok (.aload_n 0, 1) := by decide +kernel
theorem dX10_formatLetter_29 : decode cX10_formatLetter 29 = .ok (.getfield 33, 3) := by decide +kernel
theorem dX10_formatLetter_32 : decode cX10_formatLetter 32 = .ok (.aload_n 2, 1) := by decide +kernel
theorem dX10_formatLetter_33 : decode cX10_formatLetter 33 = .ok (.getfield 119, 3) := by decide +kernel
theorem dX10_formatLetter_36 : decode cX10_formatLetter 36 = .ok (.iload_n 1, 1) := by decide +kernel
theorem dX10_formatLetter_37 : decode cX10_formatLetter 37 = .ok (.iaload, 1) := by decide +kernel
theorem dX10_formatLetter_38 : decode cX10_formatLetter 38 = .ok (.invokevirtual 300, 3) := by decide +kernel
theorem dX10_formatLetter_41 : decode cX10_formatLetter 41 = .ok (.invokevirtual 303, 3) := by decide +kernel
theorem dX10_formatLetter_44 : decode cX10_formatLetter 44 = .ok (.aload_n 0, 1) := by decide +kernel
theorem dX10_formatLetter_45 : decode cX10_formatLetter 45 = .ok (.getfield 68, 3) := by decide +kernel
theorem dX10_formatLetter_48 : decode cX10_formatLetter 48 = .ok (.bipush 62, 2) := by decide +kernel
theorem dX10_formatLetter_50 : decode cX10_formatLetter 50 = .ok (.invokevirtual 306, 3) := by decide +kernel
theorem dX10_formatLetter_53 : decode cX10_formatLetter 53 = .ok (.aload_n 0, 1) := by decide +kernel
theorem dX10_formatLetter_54 : decode cX10_formatLetter 54 = .ok (.getfield 68, 3) := by decide +kernel
theorem dX10_formatLetter_57 : decode cX10_formatLetter 57 = .ok (.aload_n 0, 1) := by decide +kernel
theorem dX10_formatLetter_58 : decode cX10_formatLetter 58 = .ok (.getfield 33, 3) := by decide +kernel
theorem dX10_formatLetter_61 : decode cX10_formatLetter 61 = .ok (.aload_n 2, 1) := by decide +kernel
theorem dX10_formatLetter_62 : decode cX10_formatLetter 62 = .ok (.getfield 122, 3) := by decide +kernel
theorem dX10_formatLetter_65 : decode cX10_formatLetter 65 = .ok (.iload_n 1, 1) := by decide +kernel
theorem dX10_formatLetter_66 : decode cX10_formatLetter 66 = .ok (.iaload, 1) := by decide +kernel
theorem dX10_formatLetter_67 : decode cX10_formatLetter 67 = .ok (.invokevirtual 300, 3) := by decide +kernel
theorem dX10_formatLetter_70 : decode cX10_formatLetter 70 = .ok (.invokevirtual 303, 3) := by decide +kernel
theorem dX10_formatLetter_73 : decode cX10_formatLetter 73 = .ok (.aload_n 0, 1) := by decide +kernel
theorem dX10_formatLetter_74 : decode cX10_formatLetter 74 = .ok (.getfield 68, 3) := by decide +kernel
theorem dX10_formatLetter_77 : decode cX10_formatLetter 77 = .ok (.bipush 32, 2) := by decide +kernel
theorem dX10_formatLetter_79 : decode cX10_formatLetter 79 = .ok (.invokevirtual 306, 3) := by decide +kernel
theorem dX10_formatLetter_82 : decode cX10_formatLetter 82 = .ok (.aload_n 0, 1) := by decide +kernel
theorem dX10_formatLetter_83 : decode cX10_formatLetter 83 = .ok (.aload_n 2, 1) := by decide +kernel
theorem dX10_formatLetter_84 : decode cX10_formatLetter 84 = .ok (.getfield 219, 3) := by decide +kernel
theorem dX10_formatLetter_87 : decode cX10_formatLetter 87 = .ok (.iload_n 1, 1) := by decide +kernel
theorem dX10_formatLetter_88 : decode cX10_formatLetter 88 = .ok (.iaload, 1) := by decide +kernel
theorem dX10_formatLetter_89 : decode cX10_formatLetter 89 = .ok (.aload_n 2, 1) := by decide +kernel
theorem dX10_formatLetter_90 : decode cX10_formatLetter 90 = .ok (.getfield 224, 3) := by decide +kernel
theorem dX10_formatLetter_93 : decode cX10_formatLetter 93 = .ok (.iload_n 1, 1) := by decide +kernel
theorem dX10_formatLetter_94 : decode cX10_formatLetter 94 = .ok (.iaload, 1) := by decide +kernel
theorem dX10_formatLetter_95 : decode cX10_formatLetter 95 = .ok (.invokevirtual 309, 3) := by decide +kernel
theorem dX10_formatLetter_98 : decode cX10_formatLetter 98 = .ok (.aload_n 2, 1) := by decide +kernel
theorem dX10_formatLetter_99 : decode cX10_formatLetter 99 = .ok (.iload_n 1, 1) := by decide +kernel
theorem dX10_formatLetter_100 : decode cX10_formatLetter 100 = .ok (.aload_n 0, 1) := by decide +kernel
theorem dX10_formatLetter_101 : decode cX10_formatLetter 101 = .ok (.getfield 40, 3) := by decide +kernel
theorem dX10_formatLetter_104 : decode cX10_formatLetter 104 = .ok (.getfield 160, 3) := by decide +kernel
theorem dX10_formatLetter_107 : decode cX10_formatLetter 107 = .ok (.invokevirtual 233, 3) := by decide +kernel
theorem dX10_formatLetter_110 : decode cX10_formatLetter 110 = .ok (.ifCond .eq 13, 3) := by decide +kernel
theorem dX10_formatLetter_113 : decode cX10_formatLetter 113 = .ok (.aload_n 0, 1) := by decide +kernel
theorem dX10_formatLetter_114 : decode cX10_formatLetter 114 = .ok (.getfield 68, 3) := by decide +kernel
theorem dX10_formatLetter_117 : decode cX10_formatLetter 117 = .ok (.ldc_w 312, 3) := by decide +kernel
theorem dX10_formatLetter_120 : decode cX10_formatLetter 120 = .ok (.invokevirtual 314, 3) := by decide +kernel
theorem dX10_formatLetter_123 : decode cX10_formatLetter 123 = .ok (.aload_n 0, 1) := by decide +kernel
theorem dX10_formatLetter_124 : decode cX10_formatLetter 124 = .ok (.getfield 68, 3) := by decide +kernel
theorem dX10_formatLetter_127 : decode cX10_formatLetter 127 = .ok (.getfield 297, 3) := by decide +kernel
theorem dX10_formatLetter_130 : decode cX10_formatLetter 130 = .ok (.ireturn, 1) := by decide +kernel
theorem dX10_putWhereabouts_0 : decode cX10_putWhereabouts 0 = .ok (.iload_n 1, 1) := by decide +kernel
theorem dX10_putWhereabouts_1 : decode cX10_putWhereabouts 1 = .ok (.ifCond .ne 31, 3) := by decide +kernel
theorem dX10_putWhereabouts_4 : decode cX10_putWhereabouts 4 = .ok (.aload_n 0, 1) := by decide +kernel
theorem dX10_putWhereabouts_5 : decode cX10_putWhereabouts 5 = .ok (.getfield 68, 3) := by decide +kernel
theorem dX10_putWhereabouts_8 : decode cX10_putWhereabouts 8 = .ok (.ldc_w 318, 3) := by decide +kernel
theorem dX10_putWhereabouts_11 : decode cX10_putWhereabouts 11 = .ok (.invokevirtual 314, 3) := by decide +kernel
theorem dX10_putWhereabouts_14 : decode cX10_putWhereabouts 14 = .ok (.aload_n 0, 1) := by decide +kernel
theorem dX10_putWhereabouts_15 : decode cX10_putWhereabouts 15 = .ok (.getfield 68, 3) := by decide +kernel
theorem dX10_putWhereabouts_18 : decode cX10_putWhereabouts 18 = .ok (.aload_n 0, 1) := by decide +kernel
theorem dX10_putWhereabouts_19 : decode cX10_putWhereabouts 19 = .ok (.getfield 33, 3) := by decide +kernel
theorem dX10_putWhereabouts_22 : decode cX10_putWhereabouts 22 = .ok (.iload_n 2, 1) := by decide +kernel
theorem dX10_putWhereabouts_23 : decode cX10_putWhereabouts 23 = .ok (.invokevirtual 300, 3) := by decide +kernel
theorem dX10_putWhereabouts_26 : decode cX10_putWhereabouts 26 = .ok (.invokevirtual 303, 3) := by decide +kernel
theorem dX10_putWhereabouts_29 : decode cX10_putWhereabouts 29 = .ok (.goto 50, 3) := by decide +kernel
theorem dX10_putWhereabouts_32 : decode cX10_putWhereabouts 32 = .ok (.iload_n 1, 1) := by decide +kernel
theorem dX10_putWhereabouts_33 : decode cX10_putWhereabouts 33 = .ok (.iconst 1, 1) := by decide +kernel
theorem dX10_putWhereabouts_34 : decode cX10_putWhereabouts 34 = .ok (.if_icmp .ne 24, 3) := by decide +kernel
theorem dX10_putWhereabouts_37 : decode cX10_putWhereabouts 37 = .ok (.aload_n 0, 1) := by decide +kernel
theorem dX10_putWhereabouts_38 : decode cX10_putWhereabouts 38 = .ok (.getfield 68, 3) := by decide +kernel
theorem dX10_putWhereabouts_41 : decode cX10_putWhereabouts 41 = .ok (.ldc_w 320, 3) := by decide +kernel
theorem dX10_putWhereabouts_44 : decode cX10_putWhereabouts 44 = .ok (.invokevirtual 314, 3) := by decide +kernel
theorem dX10_putWhereabouts_47 : decode cX10_putWhereabouts 47 = .ok (.aload_n 0, 1) := by decide +kernel
theorem dX10_putWhereabouts_48 : decode cX10_putWhereabouts 48 = .ok (.getfield 68, 3) := by decide +kernel
theorem dX10_putWhereabouts_51 : decode cX10_putWhereabouts 51 = .ok (.iload_n 2, 1) := by decide +kernel
theorem dX10_putWhereabouts_52 : decode cX10_putWhereabouts 52 = .ok (.invokevirtual 322, 3) := by decide +kernel
theorem dX10_putWhereabouts_55 : decode cX10_putWhereabouts 55 = .ok (.goto 24, 3) := by decide +kernel
theorem dX10_putWhereabouts_58 : decode cX10_putWhereabouts 58 = .ok (.aload_n 0, 1) := by decide +kernel
theorem dX10_putWhereabouts_59 : decode cX10_putWhereabouts 59 = .ok (.getfield 68, 3) := by decide +kernel
theorem dX10_putWhereabouts_62 : decode cX10_putWhereabouts 62 = .ok (.iload_n 1, 1) := by decide +kernel
theorem dX10_putWhereabouts_63 : decode cX10_putWhereabouts 63 = .ok (.iconst 2, 1) := by decide +kernel
theorem dX10_putWhereabouts_64 : decode cX10_putWhereabouts 64 = .ok (.if_icmp .ne 9, 3) := by decide +kernel
theorem dX10_putWhereabouts_67 : decode cX10_putWhereabouts 67 = .ok (.ldc_w 325, 3) := by decide +kernel
theorem dX10_putWhereabouts_70 : decode cX10_putWhereabouts 70 = .ok (.goto 6, 3) := by decide +kernel
theorem dX10_putWhereabouts_73 : decode cX10_putWhereabouts 73 = .ok (.ldc_w 327, 3) := by decide +kernel
theorem dX10_putWhereabouts_76 : decode cX10_putWhereabouts 76 = .ok (.invokevirtual 314, 3) := by decide +kernel
theorem dX10_putWhereabouts_79 : decode cX10_putWhereabouts 79 = .ok (.return_, 1) := by decide +kernel
theorem dX10_formatCarrier_0 : decode cX10_formatCarrier 0 = .ok (.iload_n 1, 1) := by decide +kernel
theorem dX10_formatCarrier_1 : decode cX10_formatCarrier 1 = .ok (.aload_n 0, 1) := by decide +kernel
theorem dX10_formatCarrier_2 : decode cX10_formatCarrier 2 = .ok (.getfield 33, 3) := by decide +kernel
theorem dX10_formatCarrier_5 : decode cX10_formatCarrier 5 = .ok (.getfield 138, 3) := by decide +kernel
theorem dX10_formatCarrier_8 : decode cX10_formatCarrier 8 = .ok (.invokestatic 169, 3) := by decide +kernel
theorem dX10_formatCarrier_11 : decode cX10_formatCarrier 11 = .ok (.aload_n 0, 1) := by decide +kernel
theorem dX10_formatCarrier_12 : decode cX10_formatCarrier 12 = .ok (.getfield 40, 3) := by decide +kernel
theorem dX10_formatCarrier_15 : decode cX10_formatCarrier 15 = .ok (.getfield 107, 3) := by decide +kernel
theorem dX10_formatCarrier_18 : decode cX10_formatCarrier 18 = .ok (.astore_n 2, 1) := by decide +kernel
theorem dX10_formatCarrier_19 : decode cX10_formatCarrier 19 = .ok (.aload_n 0, 1) := by decide +kernel
theorem dX10_formatCarrier_20 : decode cX10_formatCarrier 20 = .ok (.getfield 40, 3) := by decide +kernel
theorem dX10_formatCarrier_23 : decode cX10_formatCarrier 23 = .ok (.iload_n 1, 1) := by decide +kernel
theorem dX10_formatCarrier_24 : decode cX10_formatCarrier 24 = .ok (.invokevirtual 197, 3) := by decide +kernel
theorem dX10_formatCarrier_27 : decode cX10_formatCarrier 27 = .ok (.istore_n 3, 1) := by decide +kernel
theorem dX10_formatCarrier_28 : decode cX10_formatCarrier 28 = .ok (.aload_n 0, 1) := by decide +kernel
theorem dX10_formatCarrier_29 : decode cX10_formatCarrier 29 = .ok (.getfield 68, 3) := by decide +kernel
theorem dX10_formatCarrier_32 : decode cX10_formatCarrier 32 = .ok (.iconst 0, 1) := by decide +kernel
theorem dX10_formatCarrier_33 : decode cX10_formatCarrier 33 = .ok (.putfield 297, 3) := by decide +kernel
theorem dX10_formatCarrier_36 : decode cX10_formatCarrier 36 = .ok (.aload_n 0, 1) := by decide +kernel
theorem dX10_formatCarrier_37 : decode cX10_formatCarrier 37 = .ok (.getfield 68, 3) := by decide +kernel
theorem dX10_formatCarrier_40 : decode cX10_formatCarrier 40 = .ok (.aload_n 0, 1) := by decide +kernel
theorem dX10_formatCarrier_41 : decode cX10_formatCarrier 41 = .ok (.getfield 33, 3) := by decide +kernel
theorem dX10_formatCarrier_44 : decode cX10_formatCarrier 44 = .ok (.iload_n 1, 1) := by decide +kernel
theorem dX10_formatCarrier_45 : decode cX10_formatCarrier 45 = .ok (.invokevirtual 329, 3) := by decide +kernel
theorem dX10_formatCarrier_48 : decode cX10_formatCarrier 48 = .ok (.invokevirtual 303, 3) := by decide +kernel
theorem dX10_formatCarrier_51 : decode cX10_formatCarrier 51 = .ok (.aload_n 0, 1) := by decide +kernel
theorem dX10_formatCarrier_52 : decode cX10_formatCarrier 52 = .ok (.getfield 68, 3) := by decide +kernel
theorem dX10_formatCarrier_55 : decode cX10_formatCarrier 55 = .ok (.ldc_w 332, 3) := by decide +kernel
theorem dX10_formatCarrier_58 : decode cX10_formatCarrier 58 = .ok (.invokevirtual 314, 3) := by decide +kernel
theorem dX10_formatCarrier_61 : decode cX10_formatCarrier 61 = .ok (.aload_n 0, 1) := by decide +kernel
theorem dX10_formatCarrier_62 : decode cX10_formatCarrier 62 = .ok (.getfield 68, 3) := by decide +kernel
theorem dX10_formatCarrier_65 : decode cX10_formatCarrier 65 = .ok (.iload_n 3, 1) := by decide +kernel
theorem dX10_formatCarrier_66 : decode cX10_formatCarrier 66 = .ok (.invokevirtual 322, 3) := by decide +kernel
theorem dX10_formatCarrier_69 : decode cX10_formatCarrier 69 = .ok (.iconst 0, 1) := by decide +kernel
theorem dX10_formatCarrier_70 : decode cX10_formatCarrier 70 = .ok (.istore 4, 2) := by decide +kernel
theorem dX10_formatCarrier_72 : decode cX10_formatCarrier 72 = .ok (.iload 4, 2) := by decide +kernel
theorem dX10_formatCarrier_74 : decode cX10_formatCarrier 74 = .ok (.aload_n 2, 1) := by decide +kernel
theorem dX10_formatCarrier_75 : decode cX10_formatCarrier 75 = .ok (.getfield 111, 3) := by decide +kernel
theorem dX10_formatCarrier_78 : decode cX10_formatCarrier 78 = .ok (.if_icmp .ge 57, 3) := by decide +kernel
theorem dX10_formatCarrier_81 : decode cX10_formatCarrier 81 = .ok (.aload_n 2, 1) := by decide +kernel
theorem dX10_formatCarrier_82 : decode cX10_formatCarrier 82 = .ok (.iload 4, 2) := by decide +kernel
theorem dX10_formatCarrier_84 : decode cX10_formatCarrier 84 = .ok (.iconst 1, 1) := by decide +kernel
theorem dX10_formatCarrier_85 : decode cX10_formatCarrier 85 = .ok (.iload_n 3, 1) := by decide +kernel
theorem dX10_formatCarrier_86 : decode cX10_formatCarrier 86 = .ok (.invokevirtual 334, 3) := by decide +kernel
theorem dX10_formatCarrier_89 : decode cX10_formatCarrier 89 = .ok (.ifCond .eq 40, 3) := by decide +kernel
theorem dX10_formatCarrier_92 : decode cX10_formatCarrier 92 = .ok (.aload_n 0, 1) := by decide +kernel
theorem dX10_formatCarrier_93 : decode cX10_formatCarrier 93 = .ok (.getfield 68, 3) := by decide +kernel
theorem dX10_formatCarrier_96 : decode cX10_formatCarrier 96 = .ok (.bipush 32, 2) := by decide +kernel
theorem dX10_formatCarrier_98 : decode cX10_formatCarrier 98 = .ok (.invokevirtual 306, 3) := by decide +kernel
theorem dX10_formatCarrier_101 : decode cX10_formatCarrier 101 = .ok (.aload_n 0, 1) := by decide +kernel
theorem dX10_formatCarrier_102 : decode cX10_formatCarrier 102 = .ok (.getfield 68, 3) := by decide +kernel
theorem dX10_formatCarrier_105 : decode cX10_formatCarrier 105 = .ok (.iload 4, 2) := by decide +kernel
theorem dX10_formatCarrier_107 : decode cX10_formatCarrier 107 = .ok (.invokevirtual 322, 3) := by decide +kernel
theorem dX10_formatCarrier_110 : decode cX10_formatCarrier 110 = .ok (.aload_n 2, 1) := by decide +kernel
theorem dX10_formatCarrier_111 : decode cX10_formatCarrier 111 = .ok (.getfield 221, 3) := by decide +kernel
theorem dX10_formatCarrier_114 : decode cX10_formatCarrier 114 = .ok (.iload 4, 2) := by decide +kernel
theorem dX10_formatCarrier_116 : decode cX10_formatCarrier 116 = .ok (.iaload, 1) := by decide +kernel
theorem dX10_formatCarrier_117 : decode cX10_formatCarrier 117 = .ok (.ifCond .eq 12, 3) := by decide +kernel
theorem dX10_formatCarrier_120 : decode cX10_formatCarrier 120 = .ok (.aload_n 0, 1) := by decide +kernel
theorem dX10_formatCarrier_121 : decode cX10_formatCarrier 121 = .ok (.getfield 68, 3) := by decide +kernel
theorem dX10_formatCarrier_124 : decode cX10_formatCarrier 124 = .ok (.bipush 42, 2) := by decide +kernel
theorem dX10_formatCarrier_126 : decode cX10_formatCarrier 126 = .ok (.invokevirtual 306, 3) := by decide +kernel
theorem dX10_formatCarrier_129 : decode cX10_formatCarrier 129 = .ok (.iinc 4 1, 3) := by decide +kernel
theorem dX10_formatCarrier_132 : decode cX10_formatCarrier 132 = .ok (.goto (-60), 3) := by decide +kernel
theorem dX10_formatCarrier_135 : decode cX10_formatCarrier 135 = .ok (.aload_n 0, 1) := by decide +kernel
theorem dX10_formatCarrier_136 : decode cX10_formatCarrier 136 = .ok (.getfield 68, 3) := by decide +kernel
theorem dX10_formatCarrier_139 : decode cX10_formatCarrier 139 = .ok (.getfield 297, 3) := by decide +kernel
theorem dX10_formatCarrier_142 : decode cX10_formatCarrier 142 = .ok (.ireturn, 1) := by decide +kernel
theorem dX10_formattedByte_0 : decode cX10_formattedByte 0 = .ok (.aload_n 0, 1) := by decide +kernel
theorem dX10_formattedByte_1 : decode cX10_formattedByte 1 = .ok (.getfield 68, 3) := by decide +kernel
theorem dX10_formattedByte_4 : decode cX10_formattedByte 4 = .ok (.iload_n 1, 1) := by decide +kernel
theorem dX10_formattedByte_5 : decode cX10_formattedByte 5 = .ok (.invokevirtual 338, 3) := by decide +kernel
theorem dX10_formattedByte_8 : decode cX10_formattedByte 8 = .ok (.ireturn, 1) := by decide +kernel
theorem dX10_needIndex_0 : decode cX10_needIndex 0 = .ok (.iload_n 0, 1) := by decide +kernel
theorem dX10_needIndex_1 : decode cX10_needIndex 1 = .ok (.ifCond .lt 8, 3) := by decide +kernel
theorem dX10_needIndex_4 : decode cX10_needIndex 4 = .ok (.iload_n 0, 1) := by decide +kernel
theorem dX10_needIndex_5 : decode cX10_needIndex 5 = .ok (.iload_n 1, 1) := by decide +kernel
theorem dX10_needIndex_6 : decode cX10_needIndex 6 = .ok (.if_icmp .lt 11, 3) := by decide +kernel
theorem dX10_needIndex_9 : decode cX10_needIndex 9 = .ok (.new 341, 3) := by decide +kernel
theorem dX10_needIndex_12 : decode cX10_needIndex 12 = .ok (.dup, 1) := by decide +kernel
theorem dX10_needIndex_13 : decode cX10_needIndex 13 = .ok (.invokespecial 343, 3) := by decide +kernel
theorem dX10_needIndex_16 : decode cX10_needIndex 16 = .ok (.athrow, 1) := by decide +kernel
theorem dX10_needIndex_17 : decode cX10_needIndex 17 = .ok (.return_, 1) := by decide +kernel
theorem dX10_needVillage_0 : decode cX10_needVillage 0 = .ok (.aload_n 0, 1) := by decide +kernel
theorem dX10_needVillage_1 : decode cX10_needVillage 1 = .ok (.getfield 33, 3) := by decide +kernel
theorem dX10_needVillage_4 : decode cX10_needVillage 4 = .ok (.iload_n 1, 1) := by decide +kernel
theorem dX10_needVillage_5 : decode cX10_needVillage 5 = .ok (.invokevirtual 173, 3) := by decide +kernel
theorem dX10_needVillage_8 : decode cX10_needVillage 8 = .ok (.ifCond .ne 11, 3) := by decide +kernel
theorem dX10_needVillage_11 : decode cX10_needVillage 11 = .ok (.new 86, 3) := by decide +kernel
theorem dX10_needVillage_14 : decode cX10_needVillage 14 = .ok (.dup, 1) := by decide +kernel
theorem dX10_needVillage_15 : decode cX10_needVillage 15 = .ok (.invokespecial 88, 3) := by decide +kernel
theorem dX10_needVillage_18 : decode cX10_needVillage 18 = .ok (.athrow, 1) := by decide +kernel
theorem dX10_needVillage_19 : decode cX10_needVillage 19 = .ok (.return_, 1) := by decide +kernel
theorem dX10_needJourney_0 : decode cX10_needJourney 0 = .ok (.aload_n 0, 1) := by decide +kernel
theorem dX10_needJourney_1 : decode cX10_needJourney 1 = .ok (.iload_n 1, 1) := by decide +kernel
theorem dX10_needJourney_2 : decode cX10_needJourney 2 = .ok (.invokevirtual 245, 3) := by decide +kernel
theorem dX10_needJourney_5 : decode cX10_needJourney 5 = .ok (.aload_n 0, 1) := by decide +kernel
theorem dX10_needJourney_6 : decode cX10_needJourney 6 = .ok (.iload_n 2, 1) := by decide +kernel
theorem dX10_needJourney_7 : decode cX10_needJourney 7 = .ok (.invokevirtual 245, 3) := by decide +kernel
theorem dX10_needJourney_10 : decode cX10_needJourney 10 = .ok (.iload_n 1, 1) := by decide +kernel
theorem dX10_needJourney_11 : decode cX10_needJourney 11 = .ok (.iload_n 2, 1) := by decide +kernel
theorem dX10_needJourney_12 : decode cX10_needJourney 12 = .ok (.if_icmp .ne 11, 3) := by decide +kernel
theorem dX10_needJourney_15 : decode cX10_needJourney 15 = .ok (.new 86, 3) := by decide +kernel
theorem dX10_needJourney_18 : decode cX10_needJourney 18 = .ok (.dup, 1) := by decide +kernel
theorem dX10_needJourney_19 : decode cX10_needJourney 19 = .ok (.invokespecial 88, 3) := by decide +kernel
theorem dX10_needJourney_22 : decode cX10_needJourney 22 = .ok (.athrow, 1) := by decide +kernel
theorem dX10_needJourney_23 : decode cX10_needJourney 23 = .ok (.return_, 1) := by decide +kernel
theorem dX10_bit_0 : decode cX10_bit 0 = .ok (.iload_n 0, 1) := by decide +kernel
theorem dX10_bit_1 : decode cX10_bit 1 = .ok (.ifCond .lt 9, 3) := by decide +kernel
theorem dX10_bit_4 : decode cX10_bit 4 = .ok (.iload_n 0, 1) := by decide +kernel
theorem dX10_bit_5 : decode cX10_bit 5 = .ok (.bipush 30, 2) := by decide +kernel
theorem dX10_bit_7 : decode cX10_bit 7 = .ok (.if_icmp .le 7, 3) := by decide +kernel
theorem dX10_bit_10 : decode cX10_bit 10 = .ok (.iconst 0, 1) := by decide +kernel
theorem dX10_bit_11 : decode cX10_bit 11 = .ok (.goto 6, 3) := by decide +kernel
theorem dX10_bit_14 : decode cX10_bit 14 = .ok (.iconst 1, 1) := by decide +kernel
theorem dX10_bit_15 : decode cX10_bit 15 = .ok (.iload_n 0, 1) := by decide +kernel
theorem dX10_bit_16 : decode cX10_bit 16 = .ok (.ishl, 1) := by decide +kernel
theorem dX10_bit_17 : decode cX10_bit 17 = .ok (.ireturn, 1) := by decide +kernel
theorem dX10_has_0 : decode cX10_has 0 = .ok (.iload_n 1, 1) := by decide +kernel
theorem dX10_has_1 : decode cX10_has 1 = .ok (.ifCond .lt 21, 3) := by decide +kernel
theorem dX10_has_4 : decode cX10_has 4 = .ok (.iload_n 1, 1) := by decide +kernel
theorem dX10_has_5 : decode cX10_has 5 = .ok (.bipush 30, 2) := by decide +kernel
theorem dX10_has_7 : decode cX10_has 7 = .ok (.if_icmp .gt 15, 3) := by decide +kernel
theorem dX10_has_10 : decode cX10_has 10 = .ok (.iload_n 0, 1) := by decide +kernel
theorem dX10_has_11 : decode cX10_has 11 = .ok (.iload_n 1, 1) := by decide +kernel
theorem dX10_has_12 : decode cX10_has 12 = .ok (.ishr, 1) := by decide +kernel
theorem dX10_has_13 : decode cX10_has 13 = .ok (.iconst 1, 1) := by decide +kernel
theorem dX10_has_14 : decode cX10_has 14 = .ok (.iand, 1) := by decide +kernel
theorem dX10_has_15 : decode cX10_has 15 = .ok (.ifCond .eq 7, 3) := by decide +kernel
theorem dX10_has_18 : decode cX10_has 18 = .ok (.iconst 1, 1) := by decide +kernel
theorem dX10_has_19 : decode cX10_has 19 = .ok (.goto 4, 3) := by decide +kernel
theorem dX10_has_22 : decode cX10_has 22 = .ok (.iconst 0, 1) := by decide +kernel
theorem dX10_has_23 : decode cX10_has 23 = .ok (.ireturn, 1) := by decide +kernel
