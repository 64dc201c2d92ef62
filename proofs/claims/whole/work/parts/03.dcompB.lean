theorem dX7_owedToThem_33 : decode cX7_owedToThem 33 = .ok (.goto (-29), 3) := by decide +kernel
theorem dX7_owedToThem_36 : decode cX7_owedToThem 36 = .ok (.iload_n 1, 1) := by decide +kernel
theorem dX7_owedToThem_37 : decode cX7_owedToThem 37 = .ok (.ireturn, 1) := by decide +kernel
theorem dX7_giveFirstLoanBack_0 : decode cX7_giveFirstLoanBack 0 = .ok (.aload_n 0, 1) := by decide +kernel
theorem dX7_giveFirstLoanBack_1 : decode cX7_giveFirstLoanBack 1 = .ok (.getfield 31, 3) := by decide +kernel
theorem dX7_giveFirstLoanBack_4 : decode cX7_giveFirstLoanBack 4 = .ok (.iconst 1, 1) := by decide +kernel
theorem dX7_giveFirstLoanBack_5 : decode cX7_giveFirstLoanBack 5 = .ok (.if_icmp .ge 4, 3) := by decide +kernel
theorem dX7_giveFirstLoanBack_8 : decode cX7_giveFirstLoanBack 8 = .ok (.return_, 1) := by decide +kernel
theorem dX7_giveFirstLoanBack_9 : decode cX7_giveFirstLoanBack 9 = .ok (.aload_n 0, 1) := by decide +kernel
theorem dX7_giveFirstLoanBack_10 : decode cX7_giveFirstLoanBack 10 = .ok (.dup, 1) := by decide +kernel
theorem dX7_giveFirstLoanBack_11 : decode cX7_giveFirstLoanBack 11 = .ok (.getfield 22, 3) := by decide +kernel
theorem dX7_giveFirstLoanBack_14 : decode cX7_giveFirstLoanBack 14 = .ok (.aload_n 0, 1) := by decide +kernel
theorem dX7_giveFirstLoanBack_15 : decode cX7_giveFirstLoanBack 15 = .ok (.invokevirtual 43, 3) := by decide +kernel
theorem dX7_giveFirstLoanBack_18 : decode cX7_giveFirstLoanBack 18 = .ok (.iadd, 1) := by decide +kernel
theorem dX7_giveFirstLoanBack_19 : decode cX7_giveFirstLoanBack 19 = .ok (.putfield 22, 3) := by decide +kernel
theorem dX7_giveFirstLoanBack_22 : decode cX7_giveFirstLoanBack 22 = .ok (.iconst 1, 1) := by decide +kernel
theorem dX7_giveFirstLoanBack_23 : decode cX7_giveFirstLoanBack 23 = .ok (.istore_n 1, 1) := by decide +kernel
theorem dX7_giveFirstLoanBack_24 : decode cX7_giveFirstLoanBack 24 = .ok (.iload_n 1, 1) := by decide +kernel
theorem dX7_giveFirstLoanBack_25 : decode cX7_giveFirstLoanBack 25 = .ok (.aload_n 0, 1) := by decide +kernel
theorem dX7_giveFirstLoanBack_26 : decode cX7_giveFirstLoanBack 26 = .ok (.getfield 31, 3) := by decide +kernel
theorem dX7_giveFirstLoanBack_29 : decode cX7_giveFirstLoanBack 29 = .ok (.if_icmp .ge 29, 3) := by decide +kernel
theorem dX7_giveFirstLoanBack_32 : decode cX7_giveFirstLoanBack 32 = .ok (.iload_n 1, 1) := by decide +kernel
theorem dX7_giveFirstLoanBack_33 : decode cX7_giveFirstLoanBack 33 = .ok (.bipush 8, 2) := by decide +kernel
theorem dX7_giveFirstLoanBack_35 : decode cX7_giveFirstLoanBack 35 = .ok (.if_icmp .ge 23, 3) := by decide +kernel
theorem dX7_giveFirstLoanBack_38 : decode cX7_giveFirstLoanBack 38 = .ok (.aload_n 0, 1) := by decide +kernel
theorem dX7_giveFirstLoanBack_39 : decode cX7_giveFirstLoanBack 39 = .ok (.getfield 9, 3) := by decide +kernel
theorem dX7_giveFirstLoanBack_42 : decode cX7_giveFirstLoanBack 42 = .ok (.iload_n 1, 1) := by decide +kernel
theorem dX7_giveFirstLoanBack_43 : decode cX7_giveFirstLoanBack 43 = .ok (.iconst 1, 1) := by decide +kernel
theorem dX7_giveFirstLoanBack_44 : decode cX7_giveFirstLoanBack 44 = .ok (.isub, 1) := by decide +kernel
theorem dX7_giveFirstLoanBack_45 : decode cX7_giveFirstLoanBack 45 = .ok (.aload_n 0, 1) := by decide +kernel
theorem dX7_giveFirstLoanBack_46 : decode cX7_giveFirstLoanBack 46 = .ok (.getfield 9, 3) := by decide +kernel
theorem dX7_giveFirstLoanBack_49 : decode cX7_giveFirstLoanBack 49 = .ok (.iload_n 1, 1) := by decide +kernel
theorem dX7_giveFirstLoanBack_50 : decode cX7_giveFirstLoanBack 50 = .ok (.iaload, 1) := by decide +kernel
theorem dX7_giveFirstLoanBack_51 : decode cX7_giveFirstLoanBack 51 = .ok (.iastore, 1) := by decide +kernel
theorem dX7_giveFirstLoanBack_52 : decode cX7_giveFirstLoanBack 52 = .ok (.iinc 1 1, 3) := by decide +kernel
theorem dX7_giveFirstLoanBack_55 : decode cX7_giveFirstLoanBack 55 = .ok (.goto (-31), 3) := by decide +kernel
theorem dX7_giveFirstLoanBack_58 : decode cX7_giveFirstLoanBack 58 = .ok (.aload_n 0, 1) := by decide +kernel
theorem dX7_giveFirstLoanBack_59 : decode cX7_giveFirstLoanBack 59 = .ok (.dup, 1) := by decide +kernel
theorem dX7_giveFirstLoanBack_60 : decode cX7_giveFirstLoanBack 60 = .ok (.getfield 31, 3) := by decide +kernel
theorem dX7_giveFirstLoanBack_63 : decode cX7_giveFirstLoanBack 63 = .ok (.iconst 1, 1) := by decide +kernel
theorem dX7_giveFirstLoanBack_64 : decode cX7_giveFirstLoanBack 64 = .ok (.isub, 1) := by decide +kernel
theorem dX7_giveFirstLoanBack_65 : decode cX7_giveFirstLoanBack 65 = .ok (.putfield 31, 3) := by decide +kernel
theorem dX7_giveFirstLoanBack_68 : decode cX7_giveFirstLoanBack 68 = .ok (.return_, 1) := by decide +kernel
theorem dX8_init_0 : decode cX8_init 0 = .ok (.aload_n 0, 1) := by decide +kernel
theorem dX8_init_1 : decode cX8_init 1 = .ok (.invokespecial 3, 3) := by decide +kernel
theorem dX8_init_4 : decode cX8_init 4 = .ok (.aload_n 0, 1) := by decide +kernel
theorem dX8_init_5 : decode cX8_init 5 = .ok (.bipush 80, 2) := by decide +kernel
theorem dX8_init_7 : decode cX8_init 7 = .ok (.newarray .int, 2) := by decide +kernel
theorem dX8_init_9 : decode cX8_init 9 = .ok (.putfield 9, 3) := by decide +kernel
theorem dX8_init_12 : decode cX8_init 12 = .ok (.return_, 1) := by decide +kernel
theorem dX8_size_0 : decode cX8_size 0 = .ok (.aload_n 0, 1) := by decide +kernel
theorem dX8_size_1 : decode cX8_size 1 = .ok (.getfield 15, 3) := by decide +kernel
theorem dX8_size_4 : decode cX8_size 4 = .ok (.ireturn, 1) := by decide +kernel
theorem dX8_empty_0 : decode cX8_empty 0 = .ok (.aload_n 0, 1) := by decide +kernel
theorem dX8_empty_1 : decode cX8_empty 1 = .ok (.iconst 0, 1) := by decide +kernel
theorem dX8_empty_2 : decode cX8_empty 2 = .ok (.putfield 15, 3) := by decide +kernel
theorem dX8_empty_5 : decode cX8_empty 5 = .ok (.return_, 1) := by decide +kernel
theorem dX8_append_0 : decode cX8_append 0 = .ok (.iload_n 1, 1) := by decide +kernel
theorem dX8_append_1 : decode cX8_append 1 = .ok (.iconst 1, 1) := by decide +kernel
theorem dX8_append_2 : decode cX8_append 2 = .ok (.isub, 1) := by decide +kernel
theorem dX8_append_3 : decode cX8_append 3 = .ok (.istore 4, 2) := by decide +kernel
theorem dX8_append_5 : decode cX8_append 5 = .ok (.iload 4, 2) := by decide +kernel
theorem dX8_append_7 : decode cX8_append 7 = .ok (.ifCond .lt 49, 3) := by decide +kernel
theorem dX8_append_10 : decode cX8_append 10 = .ok (.aload_n 0, 1) := by decide +kernel
theorem dX8_append_11 : decode cX8_append 11 = .ok (.getfield 15, 3) := by decide +kernel
theorem dX8_append_14 : decode cX8_append 14 = .ok (.bipush 80, 2) := by decide +kernel
theorem dX8_append_16 : decode cX8_append 16 = .ok (.if_icmp .ge 40, 3) := by decide +kernel
theorem dX8_append_19 : decode cX8_append 19 = .ok (.aload_n 0, 1) := by decide +kernel
theorem dX8_append_20 : decode cX8_append 20 = .ok (.getfield 9, 3) := by decide +kernel
theorem dX8_append_23 : decode cX8_append 23 = .ok (.aload_n 0, 1) := by decide +kernel
theorem dX8_append_24 : decode cX8_append 24 = .ok (.getfield 15, 3) := by decide +kernel
theorem dX8_append_27 : decode cX8_append 27 = .ok (.lload_n 2, 1) := by decide +kernel
theorem dX8_append_28 : decode cX8_append 28 = .ok (.bipush 8, 2) := by decide +kernel
theorem dX8_append_30 : decode cX8_append 30 = .ok (.iload 4, 2) := by decide +kernel
theorem dX8_append_32 : decode cX8_append 32 = .ok (.imul, 1) := by decide +kernel
theorem dX8_append_33 : decode cX8_append 33 = .ok (.lushr, 1) := by decide +kernel
theorem dX8_append_34 : decode cX8_append 34 = .ok (.l2i, 1) := by decide +kernel
theorem dX8_append_35 : decode cX8_append 35 = .ok (.sipush 255, 3) := by decide +kernel
theorem dX8_append_38 : decode cX8_append 38 = .ok (.iand, 1) := by decide +kernel
theorem dX8_append_39 : decode cX8_append 39 = .ok (.iastore, 1) := by decide +kernel
theorem dX8_append_40 : decode cX8_append 40 = .ok (.aload_n 0, 1) := by decide +kernel
theorem dX8_append_41 : decode cX8_append 41 = .ok (.dup, 1) := by decide +kernel
theorem dX8_append_42 : decode cX8_append 42 = .ok (.getfield 15, 3) := by decide +kernel
theorem dX8_append_45 : decode cX8_append 45 = .ok (.iconst 1, 1) := by decide +kernel
theorem dX8_append_46 : decode cX8_append 46 = .ok (.iadd, 1) := by decide +kernel
theorem dX8_append_47 : decode cX8_append 47 = .ok (.putfield 15, 3) := by decide +kernel
theorem dX8_append_50 : decode cX8_append 50 = .ok (.iinc 4 (-1), 3) := by decide +kernel
theorem dX8_append_53 : decode cX8_append 53 = .ok (.goto (-48), 3) := by decide +kernel
theorem dX8_append_56 : decode cX8_append 56 = .ok (.return_, 1) := by decide +kernel
theorem dX8_signAt_0 : decode cX8_signAt 0 = .ok (.iload_n 1, 1) := by decide +kernel
theorem dX8_signAt_1 : decode cX8_signAt 1 = .ok (.ifCond .lt 20, 3) := by decide +kernel
theorem dX8_signAt_4 : decode cX8_signAt 4 = .ok (.iload_n 1, 1) := by decide +kernel
theorem dX8_signAt_5 : decode cX8_signAt 5 = .ok (.aload_n 0, 1) := by decide +kernel
theorem dX8_signAt_6 : decode cX8_signAt 6 = .ok (.getfield 15, 3) := by decide +kernel
theorem dX8_signAt_9 : decode cX8_signAt 9 = .ok (.if_icmp .ge 12, 3) := by decide +kernel
theorem dX8_signAt_12 : decode cX8_signAt 12 = .ok (.aload_n 0, 1) := by decide +kernel
theorem dX8_signAt_13 : decode cX8_signAt 13 = .ok (.getfield 9, 3) := by decide +kernel
theorem dX8_signAt_16 : decode cX8_signAt 16 = .ok (.iload_n 1, 1) := by decide +kernel
theorem dX8_signAt_17 : decode cX8_signAt 17 = .ok (.iaload, 1) := by decide +kernel
theorem dX8_signAt_18 : decode cX8_signAt 18 = .ok (.goto 4, 3) := by decide +kernel
theorem dX8_signAt_21 : decode cX8_signAt 21 = .ok (.iconst 0, 1) := by decide +kernel
theorem dX8_signAt_22 : decode cX8_signAt 22 = .ok (.ireturn, 1) := by decide +kernel
theorem dX8_figureAt_0 : decode cX8_figureAt 0 = .ok (.aload_n 0, 1) := by decide +kernel
theorem dX8_figureAt_1 : decode cX8_figureAt 1 = .ok (.iload_n 1, 1) := by decide +kernel
theorem dX8_figureAt_2 : decode cX8_figureAt 2 = .ok (.invokevirtual 19, 3) := by decide +kernel
theorem dX8_figureAt_5 : decode cX8_figureAt 5 = .ok (.istore_n 2, 1) := by decide +kernel
theorem dX8_figureAt_6 : decode cX8_figureAt 6 = .ok (.iload_n 2, 1) := by decide +kernel
theorem dX8_figureAt_7 : decode cX8_figureAt 7 = .ok (.bipush 48, 2) := by decide +kernel
theorem dX8_figureAt_9 : decode cX8_figureAt 9 = .ok (.if_icmp .lt 16, 3) := by decide +kernel
theorem dX8_figureAt_12 : decode cX8_figureAt 12 = .ok (.iload_n 2, 1) := by decide +kernel
theorem dX8_figureAt_13 : decode cX8_figureAt 13 = .ok (.bipush 57, 2) := by decide +kernel
theorem dX8_figureAt_15 : decode cX8_figureAt 15 = .ok (.if_icmp .gt 10, 3) := by decide +kernel
theorem dX8_figureAt_18 : decode cX8_figureAt 18 = .ok (.iload_n 2, 1) := by decide +kernel
theorem dX8_figureAt_19 : decode cX8_figureAt 19 = .ok (.bipush 48, 2) := by decide +kernel
theorem dX8_figureAt_21 : decode cX8_figureAt 21 = .ok (.isub, 1) := by decide +kernel
theorem dX8_figureAt_22 : decode cX8_figureAt 22 = .ok (.goto 4, 3) := by decide +kernel
theorem dX8_figureAt_25 : decode cX8_figureAt 25 = .ok (.iconst (-1), 1) := by decide +kernel
theorem dX8_figureAt_26 : decode cX8_figureAt 26 = .ok (.ireturn, 1) := by decide +kernel
theorem dX9_init_0 : decode cX9_init 0 = .ok (.aload_n 0, 1) := by decide +kernel
theorem dX9_init_1 : decode cX9_init 1 = .ok (.invokespecial 3, 3) := by decide +kernel
theorem dX9_init_4 : decode cX9_init 4 = .ok (.aload_n 0, 1) := by decide +kernel
theorem dX9_init_5 : decode cX9_init 5 = .ok (.sipush 384, 3) := by decide +kernel
theorem dX9_init_8 : decode cX9_init 8 = .ok (.newarray .int, 2) := by decide +kernel
theorem dX9_init_10 : decode cX9_init 10 = .ok (.putfield 9, 3) := by decide +kernel
theorem dX9_init_13 : decode cX9_init 13 = .ok (.aload_n 0, 1) := by decide +kernel
theorem dX9_init_14 : decode cX9_init 14 = .ok (.bipush 64, 2) := by decide +kernel
theorem dX9_init_16 : decode cX9_init 16 = .ok (.newarray .int, 2) := by decide +kernel
theorem dX9_init_18 : decode cX9_init 18 = .ok (.putfield 15, 3) := by decide +kernel
theorem dX9_init_21 : decode cX9_init 21 = .ok (.return_, 1) := by decide +kernel
theorem dX9_begin_0 : decode cX9_begin 0 = .ok (.aload_n 0, 1) := by decide +kernel
theorem dX9_begin_1 : decode cX9_begin 1 = .ok (.aload_n 1, 1) := by decide +kernel
theorem dX9_begin_2 : decode cX9_begin 2 = .ok (.iload_n 2, 1) := by decide +kernel
theorem dX9_begin_3 : decode cX9_begin 3 = .ok (.invokevirtual 18, 3) := by decide +kernel
theorem dX9_begin_6 : decode cX9_begin 6 = .ok (.ifCond .eq 7, 3) := by decide +kernel
theorem dX9_begin_9 : decode cX9_begin 9 = .ok (.iload_n 2, 1) := by decide +kernel
theorem dX9_begin_10 : decode cX9_begin 10 = .ok (.goto 4, 3) := by decide +kernel
theorem dX9_begin_13 : decode cX9_begin 13 = .ok (.iconst 0, 1) := by decide +kernel
theorem dX9_begin_14 : decode cX9_begin 14 = .ok (.putfield 24, 3) := by decide +kernel
theorem dX9_begin_17 : decode cX9_begin 17 = .ok (.iconst 0, 1) := by decide +kernel
theorem dX9_begin_18 : decode cX9_begin 18 = .ok (.istore 4, 2) := by decide +kernel
theorem dX9_begin_20 : decode cX9_begin 20 = .ok (.iload 4, 2) := by decide +kernel
theorem dX9_begin_22 : decode cX9_begin 22 = .ok (.sipush 384, 3) := by decide +kernel
theorem dX9_begin_25 : decode cX9_begin 25 = .ok (.if_icmp .ge 18, 3) := by decide +kernel
theorem dX9_begin_28 : decode cX9_begin 28 = .ok (.aload_n 0, 1) := by decide +kernel
theorem dX9_begin_29 : decode cX9_begin 29 = .ok (.getfield 9, 3) := by decide +kernel
theorem dX9_begin_32 : decode cX9_begin 32 = .ok (.iload 4, 2) := by decide +kernel
theorem dX9_begin_34 : decode cX9_begin 34 = .ok (.ldc 28, 2) := by decide +kernel
theorem dX9_begin_36 : decode cX9_begin 36 = .ok (.iastore, 1) := by decide +kernel
theorem dX9_begin_37 : decode cX9_begin 37 = .ok (.iinc 4 1, 3) := by decide +kernel
theorem dX9_begin_40 : decode cX9_begin 40 = .ok (.goto (-20), 3) := by decide +kernel
theorem dX9_begin_43 : decode cX9_begin 43 = .ok (.aload_n 0, 1) := by decide +kernel
theorem dX9_begin_44 : decode cX9_begin 44 = .ok (.getfield 9, 3) := by decide +kernel
theorem dX9_begin_47 : decode cX9_begin 47 = .ok (.iconst 1, 1) := by decide +kernel
theorem dX9_begin_48 : decode cX9_begin 48 = .ok (.aload_n 0, 1) := by decide +kernel
theorem dX9_begin_49 : decode cX9_begin 49 = .ok (.getfield 24, 3) := by decide +kernel
theorem dX9_begin_52 : decode cX9_begin 52 = .ok (.ishl, 1) := by decide +kernel
theorem dX9_begin_53 : decode cX9_begin 53 = .ok (.bipush 6, 2) := by decide +kernel
theorem dX9_begin_55 : decode cX9_begin 55 = .ok (.imul, 1) := by decide +kernel
theorem dX9_begin_56 : decode cX9_begin 56 = .ok (.aload_n 0, 1) := by decide +kernel
theorem dX9_begin_57 : decode cX9_begin 57 = .ok (.getfield 24, 3) := by decide +kernel
theorem dX9_begin_60 : decode cX9_begin 60 = .ok (.iadd, 1) := by decide +kernel
theorem dX9_begin_61 : decode cX9_begin 61 = .ok (.iconst 0, 1) := by decide +kernel
theorem dX9_begin_62 : decode cX9_begin 62 = .ok (.iastore, 1) := by decide +kernel
theorem dX9_begin_63 : decode cX9_begin 63 = .ok (.iconst 0, 1) := by decide +kernel
theorem dX9_begin_64 : decode cX9_begin 64 = .ok (.istore 4, 2) := by decide +kernel
theorem dX9_begin_66 : decode cX9_begin 66 = .ok (.iload 4, 2) := by decide +kernel
theorem dX9_begin_68 : decode cX9_begin 68 = .ok (.iconst 1, 1) := by decide +kernel
theorem dX9_begin_69 : decode cX9_begin 69 = .ok (.aload_n 1, 1) := by decide +kernel
theorem dX9_begin_70 : decode cX9_begin 70 = .ok (.getfield 29, 3) := by decide +kernel
theorem dX9_begin_73 : decode cX9_begin 73 = .ok (.ishl, 1) := by decide +kernel
theorem dX9_begin_74 : decode cX9_begin 74 = .ok (.if_icmp .ge 96, 3) := by decide +kernel
theorem dX9_begin_77 : decode cX9_begin 77 = .ok (.aload_n 0, 1) := by decide +kernel
theorem dX9_begin_78 : decode cX9_begin 78 = .ok (.getfield 15, 3) := by decide +kernel
theorem dX9_begin_81 : decode cX9_begin 81 = .ok (.iload 4, 2) := by decide +kernel
theorem dX9_begin_83 : decode cX9_begin 83 = .ok (.ldc 28, 2) := by decide +kernel
theorem dX9_begin_85 : decode cX9_begin 85 = .ok (.iastore, 1) := by decide +kernel
theorem dX9_begin_86 : decode cX9_begin 86 = .ok (.iconst 0, 1) := by decide +kernel
theorem dX9_begin_87 : decode cX9_begin 87 = .ok (.istore 5, 2) := by decide +kernel
theorem dX9_begin_89 : decode cX9_begin 89 = .ok (.iload 5, 2) := by decide +kernel
theorem dX9_begin_91 : decode cX9_begin 91 = .ok (.aload_n 1, 1) := by decide +kernel
theorem dX9_begin_92 : decode cX9_begin 92 = .ok (.getfield 29, 3) := by decide +kernel
theorem dX9_begin_95 : decode cX9_begin 95 = .ok (.if_icmp .ge 69, 3) := by decide +kernel
theorem dX9_begin_98 : decode cX9_begin 98 = .ok (.aload_n 0, 1) := by decide +kernel
theorem dX9_begin_99 : decode cX9_begin 99 = .ok (.getfield 9, 3) := by decide +kernel
theorem dX9_begin_102 : decode cX9_begin 102 = .ok (.iload 4, 2) := by decide +kernel
theorem dX9_begin_104 : decode cX9_begin 104 = .ok (.bipush 6, 2) := by decide +kernel
theorem dX9_begin_106 : decode cX9_begin 106 = .ok (.imul, 1) := by decide +kernel
theorem dX9_begin_107 : decode cX9_begin 107 = .ok (.iload 5, 2) := by decide +kernel
theorem dX9_begin_109 : decode cX9_begin 109 = .ok (.iadd, 1) := by decide +kernel
theorem dX9_begin_110 : decode cX9_begin 110 = .ok (.iaload, 1) := by decide +kernel
theorem dX9_begin_111 : decode cX9_begin 111 = .ok (.istore 6, 2) := by decide +kernel
theorem dX9_begin_113 : decode cX9_begin 113 = .ok (.iload 6, 2) := by decide +kernel
theorem dX9_begin_115 : decode cX9_begin 115 = .ok (.ldc 28, 2) := by decide +kernel
theorem dX9_begin_117 : decode cX9_begin 117 = .ok (.if_icmp .ge 14, 3) := by decide +kernel
theorem dX9_begin_120 : decode cX9_begin 120 = .ok (.aload_n 0, 1) := by decide +kernel
theorem dX9_begin_121 : decode cX9_begin 121 = .ok (.aload_n 1, 1) := by decide +kernel
theorem dX9_begin_122 : decode cX9_begin 122 = .ok (.iload 4, 2) := by decide +kernel
theorem dX9_begin_124 : decode cX9_begin 124 = .ok (.iload 5, 2) := by decide +kernel
theorem dX9_begin_126 : decode cX9_begin 126 = .ok (.iload 6, 2) := by decide +kernel
theorem dX9_begin_128 : decode cX9_begin 128 = .ok (.invokevirtual 32, 3) := by decide +kernel
theorem dX9_begin_131 : decode cX9_begin 131 = .ok (.aload_n 0, 1) := by decide +kernel
theorem dX9_begin_132 : decode cX9_begin 132 = .ok (.getfield 15, 3) := by decide +kernel
theorem dX9_begin_135 : decode cX9_begin 135 = .ok (.iload 4, 2) := by decide +kernel
theorem dX9_begin_137 : decode cX9_begin 137 = .ok (.aload_n 0, 1) := by decide +kernel
theorem dX9_begin_138 : decode cX9_begin 138 = .ok (.getfield 15, 3) := by decide +kernel
theorem dX9_begin_141 : decode cX9_begin 141 = .ok (.iload 4, 2) := by decide +kernel
theorem dX9_begin_143 : decode cX9_begin 143 = .ok (.iaload, 1) := by decide +kernel
theorem dX9_begin_144 : decode cX9_begin 144 = .ok (.iload 6, 2) := by decide +kernel
theorem dX9_begin_146 : decode cX9_begin 146 = .ok (.aload_n 1, 1) := by decide +kernel
theorem dX9_begin_147 : decode cX9_begin 147 = .ok (.iload 5, 2) := by decide +kernel
theorem dX9_begin_149 : decode cX9_begin 149 = .ok (.iload_n 3, 1) := by decide +kernel
theorem dX9_begin_150 : decode cX9_begin 150 = .ok (.invokevirtual 36, 3) := by decide +kernel
theorem dX9_begin_153 : decode cX9_begin 153 = .ok (.iadd, 1) := by decide +kernel
theorem dX9_begin_154 : decode cX9_begin 154 = .ok (.invokestatic 40, 3) := by decide +kernel
theorem dX9_begin_157 : decode cX9_begin 157 = .ok (.iastore, 1) := by decide +kernel
theorem dX9_begin_158 : decode cX9_begin 158 = .ok (.iinc 5 1, 3) := by decide +kernel
theorem dX9_begin_161 : decode cX9_begin 161 = .ok (.goto (-72), 3) := by decide +kernel
theorem dX9_begin_164 : decode cX9_begin 164 = .ok (.iinc 4 1, 3) := by decide +kernel
theorem dX9_begin_167 : decode cX9_begin 167 = .ok (.goto (-101), 3) := by decide +kernel
theorem dX9_begin_170 : decode cX9_begin 170 = .ok (.return_, 1) := by decide +kernel
theorem dX9_goOn_0 : decode cX9_goOn 0 = .ok (.iconst 0, 1) := by decide +kernel
theorem dX9_goOn_1 : decode cX9_goOn 1 = .ok (.istore 5, 2) := by decide +kernel
theorem dX9_goOn_3 : decode cX9_goOn 3 = .ok (.iload 5, 2) := by decide +kernel
theorem dX9_goOn_5 : decode cX9_goOn 5 = .ok (.aload_n 1, 1) := by decide +kernel
theorem dX9_goOn_6 : decode cX9_goOn 6 = .ok (.getfield 29, 3) := by decide +kernel
theorem dX9_goOn_9 : decode cX9_goOn 9 = .ok (.if_icmp .ge 60, 3) := by decide +kernel
theorem dX9_goOn_12 : decode cX9_goOn 12 = .ok (.iload_n 2, 1) := by decide +kernel
theorem dX9_goOn_13 : decode cX9_goOn 13 = .ok (.iconst 1, 1) := by decide +kernel
theorem dX9_goOn_14 : decode cX9_goOn 14 = .ok (.iload 5, 2) := by decide +kernel
theorem dX9_goOn_16 : decode cX9_goOn 16 = .ok (.ishl, 1) := by decide +kernel
theorem dX9_goOn_17 : decode cX9_goOn 17 = .ok (.ior, 1) := by decide +kernel
theorem dX9_goOn_18 : decode cX9_goOn 18 = .ok (.istore 6, 2) := by decide +kernel
theorem dX9_goOn_20 : decode cX9_goOn 20 = .ok (.iload 6, 2) := by decide +kernel
theorem dX9_goOn_22 : decode cX9_goOn 22 = .ok (.iload_n 2, 1) := by decide +kernel
theorem dX9_goOn_23 : decode cX9_goOn 23 = .ok (.if_icmp .eq 40, 3) := by decide +kernel
theorem dX9_goOn_26 : decode cX9_goOn 26 = .ok (.iload 6, 2) := by decide +kernel
theorem dX9_goOn_28 : decode cX9_goOn 28 = .ok (.bipush 6, 2) := by decide +kernel
theorem dX9_goOn_30 : decode cX9_goOn 30 = .ok (.imul, 1) := by decide +kernel
theorem dX9_goOn_31 : decode cX9_goOn 31 = .ok (.iload 5, 2) := by decide +kernel
theorem dX9_goOn_33 : decode cX9_goOn 33 = .ok (.iadd, 1) := by decide +kernel
theorem dX9_goOn_34 : decode cX9_goOn 34 = .ok (.istore 7, 2) := by decide +kernel
theorem dX9_goOn_36 : decode cX9_goOn 36 = .ok (.aload_n 0, 1) := by decide +kernel
theorem dX9_goOn_37 : decode cX9_goOn 37 = .ok (.getfield 9, 3) := by decide +kernel
theorem dX9_goOn_40 : decode cX9_goOn 40 = .ok (.iload 7, 2) := by decide +kernel
theorem dX9_goOn_42 : decode cX9_goOn 42 = .ok (.aload_n 0, 1) := by decide +kernel
theorem dX9_goOn_43 : decode cX9_goOn 43 = .ok (.getfield 9, 3) := by decide +kernel
theorem dX9_goOn_46 : decode cX9_goOn 46 = .ok (.iload 7, 2) := by decide +kernel
theorem dX9_goOn_48 : decode cX9_goOn 48 = .ok (.iaload, 1) := by decide +kernel
theorem dX9_goOn_49 : decode cX9_goOn 49 = .ok (.iload 4, 2) := by decide +kernel
theorem dX9_goOn_51 : decode cX9_goOn 51 = .ok (.aload_n 1, 1) := by decide +kernel
theorem dX9_goOn_52 : decode cX9_goOn 52 = .ok (.iload_n 3, 1) := by decide +kernel
theorem dX9_goOn_53 : decode cX9_goOn 53 = .ok (.iload 5, 2) := by decide +kernel
theorem dX9_goOn_55 : decode cX9_goOn 55 = .ok (.invokevirtual 36, 3) := by decide +kernel
theorem dX9_goOn_58 : decode cX9_goOn 58 = .ok (.iadd, 1) := by decide +kernel
theorem dX9_goOn_59 : decode cX9_goOn 59 = .ok (.invokestatic 40, 3) := by decide +kernel
theorem dX9_goOn_62 : decode cX9_goOn 62 = .ok (.iastore, 1) := by decide +kernel
theorem dX9_goOn_63 : decode cX9_goOn 63 = .ok (.iinc 5 1, 3) := by decide +kernel
theorem dX9_goOn_66 : decode cX9_goOn 66 = .ok (.goto (-63), 3) := by decide +kernel
theorem dX9_goOn_69 : decode cX9_goOn 69 = .ok (.return_, 1) := by decide +kernel
theorem dX9_by_0 : decode cX9_by 0 = .ok (.iload_n 1, 1) := by decide +kernel
theorem dX9_by_1 : decode cX9_by 1 = .ok (.iconst 1, 1) := by decide +kernel
theorem dX9_by_2 : decode cX9_by 2 = .ok (.aload_n 0, 1) := by decide +kernel
theorem dX9_by_3 : decode cX9_by 3 = .ok (.getfield 24, 3) := by decide +kernel
theorem dX9_by_6 : decode cX9_by 6 = .ok (.ishl, 1) := by decide +kernel
theorem dX9_by_7 : decode cX9_by 7 = .ok (.ior, 1) := by decide +kernel
theorem dX9_by_8 : decode cX9_by 8 = .ok (.istore_n 2, 1) := by decide +kernel
theorem dX9_by_9 : decode cX9_by 9 = .ok (.iload_n 2, 1) := by decide +kernel
theorem dX9_by_10 : decode cX9_by 10 = .ok (.ifCond .lt 18, 3) := by decide +kernel
theorem dX9_by_13 : decode cX9_by 13 = .ok (.iload_n 2, 1) := by decide +kernel
theorem dX9_by_14 : decode cX9_by 14 = .ok (.bipush 64, 2) := by decide +kernel
theorem dX9_by_16 : decode cX9_by 16 = .ok (.if_icmp .ge 12, 3) := by decide +kernel
theorem dX9_by_19 : decode cX9_by 19 = .ok (.aload_n 0, 1) := by decide +kernel
theorem dX9_by_20 : decode cX9_by 20 = .ok (.getfield 15, 3) := by decide +kernel
theorem dX9_by_23 : decode cX9_by 23 = .ok (.iload_n 2, 1) := by decide +kernel
theorem dX9_by_24 : decode cX9_by 24 = .ok (.iaload, 1) := by decide +kernel
theorem dX9_by_25 : decode cX9_by 25 = .ok (.goto 5, 3) := by decide +kernel
theorem dX9_by_28 : decode cX9_by 28 = .ok (.ldc 28, 2) := by decide +kernel
theorem dX9_by_30 : decode cX9_by 30 = .ok (.ireturn, 1) := by decide +kernel
theorem dX10_init_0 : decode cX10_init 0 = .ok (.aload_n 0, 1) := by decide +kernel
theorem dX10_init_1 : decode cX10_init 1 = .ok (.invokespecial 3, 3) := by decide +kernel
theorem dX10_init_4 : decode cX10_init 4 = .ok (.return_, 1) := by decide +kernel
theorem dX10_begin_0 : decode cX10_begin 0 = .ok (.aload_n 0, 1) := by decide +kernel
theorem dX10_begin_1 : decode cX10_begin 1 = .ok (.aload_n 1, 1) := by decide +kernel
theorem dX10_begin_2 : decode cX10_begin 2 = .ok (.putfield 9, 3) := by decide +kernel
theorem dX10_begin_5 : decode cX10_begin 5 = .ok (.return_, 1) := by decide +kernel
theorem dX10_share_0 : decode cX10_share 0 = .ok (.iload_n 1, 1) := by decide +kernel
theorem dX10_share_1 : decode cX10_share 1 = .ok (.ifCond .ne 10, 3) := by decide +kernel
theorem dX10_share_4 : decode cX10_share 4 = .ok (.iload_n 0, 1) := by decide +kernel
theorem dX10_share_5 : decode cX10_share 5 = .ok (.bipush 8, 2) := by decide +kernel
theorem dX10_share_7 : decode cX10_share 7 = .ok (.ishr, 1) := by decide +kernel
theorem dX10_share_8 : decode cX10_share 8 = .ok (.goto 8, 3) := by decide +kernel
theorem dX10_share_11 : decode cX10_share 11 = .ok (.iload_n 0, 1) := by decide +kernel
theorem dX10_share_12 : decode cX10_share 12 = .ok (.sipush 255, 3) := by decide +kernel
theorem dX10_share_15 : decode cX10_share 15 = .ok (.iand, 1) := by decide +kernel
theorem dX10_share_16 : decode cX10_share 16 = .ok (.ireturn, 1) := by decide +kernel
theorem dX10_homeward_0 : decode cX10_homeward 0 = .ok (.iload_n 1, 1) := by decide +kernel
theorem dX10_homeward_1 : decode cX10_homeward 1 = .ok (.iconst (-1), 1) := by decide +kernel
theorem dX10_homeward_2 : decode cX10_homeward 2 = .ok (.if_icmp .eq 10, 3) := by decide +kernel
theorem dX10_homeward_5 : decode cX10_homeward 5 = .ok (.aload_n 0, 1) := by decide +kernel
theorem dX10_homeward_6 : decode cX10_homeward 6 = .ok (.getfield 9, 3) := by decide +kernel
theorem dX10_homeward_9 : decode cX10_homeward 9 = .ok (.ifnonnull 7, 3) := by decide +kernel
theorem dX10_homeward_12 : decode cX10_homeward 12 = .ok (.iconst 0, 1) := by decide +kernel
theorem dX10_homeward_13 : decode cX10_homeward 13 = .ok (.goto 12, 3) := by decide +kernel
theorem dX10_homeward_16 : decode cX10_homeward 16 = .ok (.aload_n 0, 1) := by decide +kernel
theorem dX10_homeward_17 : decode cX10_homeward 17 = .ok (.getfield 9, 3) := by decide +kernel
theorem dX10_homeward_20 : decode cX10_homeward 20 = .ok (.iload_n 1, 1) := by decide +kernel
theorem dX10_homeward_21 : decode cX10_homeward 21 = .ok (.iconst 0, 1) := by decide +kernel
theorem dX10_homeward_22 : decode cX10_homeward 22 = .ok (.invokevirtual 15, 3) := by decide +kernel
theorem dX10_homeward_25 : decode cX10_homeward 25 = .ok (.ireturn, 1) := by decide +kernel
theorem dX10_play_0 : decode cX10_play 0 = .ok (.iload_n 1, 1) := by decide +kernel
theorem dX10_play_1 : decode cX10_play 1 = .ok (.bipush 7, 2) := by decide +kernel
theorem dX10_play_3 : decode cX10_play 3 = .ok (.if_icmp .ge 10, 3) := by decide +kernel
theorem dX10_play_6 : decode cX10_play 6 = .ok (.aload_n 0, 1) := by decide +kernel
theorem dX10_play_7 : decode cX10_play 7 = .ok (.getfield 9, 3) := by decide +kernel
theorem dX10_play_10 : decode cX10_play 10 = .ok (.ifnonnull 5, 3) := by decide +kernel
theorem dX10_play_13 : decode cX10_play 13 = .ok (.iconst 0, 1) := by decide +kernel
theorem dX10_play_14 : decode cX10_play 14 = .ok (.ireturn, 1) := by decide +kernel
theorem dX10_play_15 : decode cX10_play 15 = .ok (.iload_n 2, 1) := by decide +kernel
theorem dX10_play_16 : decode cX10_play 16 = .ok (.ifCond .ne 8, 3) := by decide +kernel
theorem dX10_play_19 : decode cX10_play 19 = .ok (.iload 4, 2) := by decide +kernel
theorem dX10_play_21 : decode cX10_play 21 = .ok (.goto 5, 3) := by decide +kernel
theorem dX10_play_24 : decode cX10_play 24 = .ok (.iload 5, 2) := by decide +kernel
theorem dX10_play_26 : decode cX10_play 26 = .ok (.istore 7, 2) := by decide +kernel
theorem dX10_play_28 : decode cX10_play 28 = .ok (.iload_n 2, 1) := by decide +kernel
theorem dX10_play_29 : decode cX10_play 29 = .ok (.ifCond .ne 8, 3) := by decide +kernel
theorem dX10_play_32 : decode cX10_play 32 = .ok (.iload 5, 2) := by decide +kernel
theorem dX10_play_34 : decode cX10_play 34 = .ok (.goto 5, 3) := by decide +kernel
theorem dX10_play_37 : decode cX10_play 37 = .ok (.iload 4, 2) := by decide +kernel
theorem dX10_play_39 : decode cX10_play 39 = .ok (.istore 8, 2) := by decide +kernel
theorem dX10_play_41 : decode cX10_play 41 = .ok (.iload 8, 2) := by decide +kernel
theorem dX10_play_43 : decode cX10_play 43 = .ok (.iconst (-1), 1) := by decide +kernel
theorem dX10_play_44 : decode cX10_play 44 = .ok (.if_icmp .ne 7, 3) := by decide +kernel
theorem dX10_play_47 : decode cX10_play 47 = .ok (.iload_n 2, 1) := by decide +kernel
theorem dX10_play_48 : decode cX10_play 48 = .ok (.goto 6, 3) := by decide +kernel
theorem dX10_play_51 : decode cX10_play 51 = .ok (.iconst 1, 1) := by decide +kernel
theorem dX10_play_52 : decode cX10_play 52 = .ok (.iload_n 2, 1) := by decide +kernel
theorem dX10_play_53 : decode cX10_play 53 = .ok (.isub, 1) := by decide +kernel
theorem dX10_play_54 : decode cX10_play 54 = .ok (.istore 9, 2) := by decide +kernel
theorem dX10_play_56 : decode cX10_play 56 = .ok (.iconst 0, 1) := by decide +kernel
theorem dX10_play_57 : decode cX10_play 57 = .ok (.istore 10, 2) := by decide +kernel
theorem dX10_play_59 : decode cX10_play 59 = .ok (.iload 8, 2) := by decide +kernel
theorem dX10_play_61 : decode cX10_play 61 = .ok (.iconst (-1), 1) := by decide +kernel
theorem dX10_play_62 : decode cX10_play 62 = .ok (.if_icmp .eq 53, 3) := by decide +kernel
theorem dX10_play_65 : decode cX10_play 65 = .ok (.iload 6, 2) := by decide +kernel
theorem dX10_play_67 : decode cX10_play 67 = .ok (.aload_n 0, 1) := by decide +kernel
theorem dX10_play_68 : decode cX10_play 68 = .ok (.iload 7, 2) := by decide +kernel
theorem dX10_play_70 : decode cX10_play 70 = .ok (.invokevirtual 21, 3) := by decide +kernel
theorem dX10_play_73 : decode cX10_play 73 = .ok (.isub, 1) := by decide +kernel
theorem dX10_play_74 : decode cX10_play 74 = .ok (.istore 11, 2) := by decide +kernel
theorem dX10_play_76 : decode cX10_play 76 = .ok (.iload_n 2, 1) := by decide +kernel
theorem dX10_play_77 : decode cX10_play 77 = .ok (.ifCond .ne 21, 3) := by decide +kernel
theorem dX10_play_80 : decode cX10_play 80 = .ok (.aload_n 0, 1) := by decide +kernel
theorem dX10_play_81 : decode cX10_play 81 = .ok (.iload_n 1, 1) := by decide +kernel
theorem dX10_play_82 : decode cX10_play 82 = .ok (.iconst 1, 1) := by decide +kernel
theorem dX10_play_83 : decode cX10_play 83 = .ok (.iadd, 1) := by decide +kernel
theorem dX10_play_84 : decode cX10_play 84 = .ok (.iload 9, 2) := by decide +kernel
theorem dX10_play_86 : decode cX10_play 86 = .ok (.iload_n 3, 1) := by decide +kernel
theorem dX10_play_87 : decode cX10_play 87 = .ok (.iconst (-1), 1) := by decide +kernel
theorem dX10_play_88 : decode cX10_play 88 = .ok (.iload 5, 2) := by decide +kernel
theorem dX10_play_90 : decode cX10_play 90 = .ok (.iload 11, 2) := by decide +kernel
theorem dX10_play_92 : decode cX10_play 92 = .ok (.invokestatic 25, 3) := by decide +kernel
theorem dX10_play_95 : decode cX10_play 95 = .ok (.goto 18, 3) := by decide +kernel
theorem dX10_play_98 : decode cX10_play 98 = .ok (.aload_n 0, 1) := by decide +kernel
theorem dX10_play_99 : decode cX10_play 99 = .ok (.iload_n 1, 1) := by decide +kernel
theorem dX10_play_100 : decode cX10_play 100 = .ok (.iconst 1, 1) := by decide +kernel
theorem dX10_play_101 : decode cX10_play 101 = .ok (.iadd, 1) := by decide +kernel
theorem dX10_play_102 : decode cX10_play 102 = .ok (.iload 9, 2) := by decide +kernel
theorem dX10_play_104 : decode cX10_play 104 = .ok (.iload_n 3, 1) := by decide +kernel
theorem dX10_play_105 : decode cX10_play 105 = .ok (.iload 4, 2) := by decide +kernel
theorem dX10_play_107 : decode cX10_play 107 = .ok (.iconst (-1), 1) := by decide +kernel
theorem dX10_play_108 : decode cX10_play 108 = .ok (.iload 11, 2) := by decide +kernel
theorem dX10_play_110 : decode cX10_play 110 = .ok (.invokestatic 25, 3) := by decide +kernel
theorem dX10_play_113 : decode cX10_play 113 = .ok (.istore 10, 2) := by decide +kernel
theorem dX10_play_115 : decode cX10_play 115 = .ok (.iconst 0, 1) := by decide +kernel
theorem dX10_play_116 : decode cX10_play 116 = .ok (.istore 11, 2) := by decide +kernel
theorem dX10_play_118 : decode cX10_play 118 = .ok (.iload 11, 2) := by decide +kernel
theorem dX10_play_120 : decode cX10_play 120 = .ok (.bipush 6, 2) := by decide +kernel
theorem dX10_play_122 : decode cX10_play 122 = .ok (.if_icmp .ge 182, 3) := by decide +kernel
theorem dX10_play_125 : decode cX10_play 125 = .ok (.iload_n 3, 1) := by decide +kernel
theorem dX10_play_126 : decode cX10_play 126 = .ok (.iload 11, 2) := by decide +kernel
theorem dX10_play_128 : decode cX10_play 128 = .ok (.ishr, 1) := by decide +kernel
theorem dX10_play_129 : decode cX10_play 129 = .ok (.iconst 1, 1) := by decide +kernel
theorem dX10_play_130 : decode cX10_play 130 = .ok (.iand, 1) := by decide +kernel
theorem dX10_play_131 : decode cX10_play 131 = .ok (.iconst 1, 1) := by decide +kernel
theorem dX10_play_132 : decode cX10_play 132 = .ok (.if_icmp .ne 166, 3) := by decide +kernel
theorem dX10_play_135 : decode cX10_play 135 = .ok (.aload_n 0, 1) := by decide +kernel
theorem dX10_play_136 : decode cX10_play 136 = .ok (.getfield 9, 3) := by decide +kernel
theorem dX10_play_139 : decode cX10_play 139 = .ok (.iload_n 2, 1) := by decide +kernel
theorem dX10_play_140 : decode cX10_play 140 = .ok (.iload 11, 2) := by decide +kernel
theorem dX10_play_142 : decode cX10_play 142 = .ok (.invokevirtual 29, 3) := by decide +kernel
theorem dX10_play_145 : decode cX10_play 145 = .ok (.ifCond .eq 153, 3) := by decide +kernel
theorem dX10_play_148 : decode cX10_play 148 = .ok (.aload_n 0, 1) := by decide +kernel
theorem dX10_play_149 : decode cX10_play 149 = .ok (.getfield 9, 3) := by decide +kernel
theorem dX10_play_152 : decode cX10_play 152 = .ok (.iload 11, 2) := by decide +kernel
theorem dX10_play_154 : decode cX10_play 154 = .ok (.invokevirtual 33, 3) := by decide +kernel
theorem dX10_play_157 : decode cX10_play 157 = .ok (.istore 12, 2) := by decide +kernel
theorem dX10_play_159 : decode cX10_play 159 = .ok (.iload 6, 2) := by decide +kernel
theorem dX10_play_161 : decode cX10_play 161 = .ok (.aload_n 0, 1) := by decide +kernel
theorem dX10_play_162 : decode cX10_play 162 = .ok (.getfield 9, 3) := by decide +kernel
theorem dX10_play_165 : decode cX10_play 165 = .ok (.iload 7, 2) := by decide +kernel
theorem dX10_play_167 : decode cX10_play 167 = .ok (.iload 12, 2) := by decide +kernel
theorem dX10_play_169 : decode cX10_play 169 = .ok (.invokevirtual 15, 3) := by decide +kernel
theorem dX10_play_172 : decode cX10_play 172 = .ok (.isub, 1) := by decide +kernel
theorem dX10_play_173 : decode cX10_play 173 = .ok (.istore 13, 2) := by decide +kernel
theorem dX10_play_175 : decode cX10_play 175 = .ok (.aload_n 0, 1) := by decide +kernel
theorem dX10_play_176 : decode cX10_play 176 = .ok (.iload 12, 2) := by decide +kernel
theorem dX10_play_178 : decode cX10_play 178 = .ok (.invokevirtual 21, 3) := by decide +kernel
theorem dX10_play_181 : decode cX10_play 181 = .ok (.aload_n 0, 1) := by decide +kernel
theorem dX10_play_182 : decode cX10_play 182 = .ok (.iload 8, 2) := by decide +kernel
theorem dX10_play_184 : decode cX10_play 184 = .ok (.invokevirtual 21, 3) := by decide +kernel
theorem dX10_play_187 : decode cX10_play 187 = .ok (.iadd, 1) := by decide +kernel
theorem dX10_play_188 : decode cX10_play 188 = .ok (.iload 13, 2) := by decide +kernel
theorem dX10_play_190 : decode cX10_play 190 = .ok (.if_icmp .gt 108, 3) := by decide +kernel
theorem dX10_play_193 : decode cX10_play 193 = .ok (.iload_n 3, 1) := by decide +kernel
theorem dX10_play_194 : decode cX10_play 194 = .ok (.iconst 1, 1) := by decide +kernel
theorem dX10_play_195 : decode cX10_play 195 = .ok (.iload 11, 2) := by decide +kernel
theorem dX10_play_197 : decode cX10_play 197 = .ok (.ishl, 1) := by decide +kernel
theorem dX10_play_198 : decode cX10_play 198 = .ok (.iconst (-1), 1) := by decide +kernel
theorem dX10_play_199 : decode cX10_play 199 = .ok (.ixor, 1) := by decide +kernel
theorem dX10_play_200 : decode cX10_play 200 = .ok (.iand, 1) := by decide +kernel
theorem dX10_play_201 : decode cX10_play 201 = .ok (.istore 14, 2) := by decide +kernel
theorem dX10_play_203 : decode cX10_play 203 = .ok (.iload_n 2, 1) := by decide +kernel
theorem dX10_play_204 : decode cX10_play 204 = .ok (.ifCond .ne 23, 3) := by decide +kernel
theorem dX10_play_207 : decode cX10_play 207 = .ok (.aload_n 0, 1) := by decide +kernel
theorem dX10_play_208 : decode cX10_play 208 = .ok (.iload_n 1, 1) := by decide +kernel
theorem dX10_play_209 : decode cX10_play 209 = .ok (.iconst 1, 1) := by decide +kernel
theorem dX10_play_210 : decode cX10_play 210 = .ok (.iadd, 1) := by decide +kernel
theorem dX10_play_211 : decode cX10_play 211 = .ok (.iload 9, 2) := by decide +kernel
theorem dX10_play_213 : decode cX10_play 213 = .ok (.iload 14, 2) := by decide +kernel
theorem dX10_play_215 : decode cX10_play 215 = .ok (.iload 12, 2) := by decide +kernel
theorem dX10_play_217 : decode cX10_play 217 = .ok (.iload 5, 2) := by decide +kernel
theorem dX10_play_219 : decode cX10_play 219 = .ok (.iload 13, 2) := by decide +kernel
theorem dX10_play_221 : decode cX10_play 221 = .ok (.invokestatic 25, 3) := by decide +kernel
theorem dX10_play_224 : decode cX10_play 224 = .ok (.goto 20, 3) := by decide +kernel
theorem dX10_play_227 : decode cX10_play 227 = .ok (.aload_n 0, 1) := by decide +kernel
theorem dX10_play_228 : decode cX10_play 228 = .ok (.iload_n 1, 1) := by decide +kernel
theorem dX10_play_229 : decode cX10_play 229 = .ok (.iconst 1, 1) := by decide +kernel
theorem dX10_play_230 : decode cX10_play 230 = .ok (.iadd, 1) := by decide +kernel
theorem dX10_play_231 : decode cX10_play 231 = .ok (.iload 9, 2) := by decide +kernel
theorem dX10_play_233 : decode cX10_play 233 = .ok (.iload 14, 2) := by decide +kernel
theorem dX10_play_235 : decode cX10_play 235 = .ok (.iload 4, 2) := by decide +kernel
theorem dX10_play_237 : decode cX10_play 237 = .ok (.iload 12, 2) := by decide +kernel
theorem dX10_play_239 : decode cX10_play 239 = .ok (.iload 13, 2) := by decide +kernel
theorem dX10_play_241 : decode cX10_play 241 = .ok (.invokestatic 25, 3) := by decide +kernel
theorem dX10_play_244 : decode cX10_play 244 = .ok (.istore 15, 2) := by decide +kernel
theorem dX10_play_246 : decode cX10_play 246 = .ok (.iload 15, 2) := by decide +kernel
theorem dX10_play_248 : decode cX10_play 248 = .ok (.iload_n 2, 1) := by decide +kernel
theorem dX10_play_249 : decode cX10_play 249 = .ok (.ifCond .ne 18, 3) := by decide +kernel
theorem dX10_play_252 : decode cX10_play 252 = .ok (.aload_n 0, 1) := by decide +kernel
theorem dX10_play_253 : decode cX10_play 253 = .ok (.getfield 9, 3) := by decide +kernel
theorem dX10_play_256 : decode cX10_play 256 = .ok (.iload 11, 2) := by decide +kernel
theorem dX10_play_258 : decode cX10_play 258 = .ok (.invokevirtual 36, 3) := by decide +kernel
theorem dX10_play_261 : decode cX10_play 261 = .ok (.bipush 8, 2) := by decide +kernel
theorem dX10_play_263 : decode cX10_play 263 = .ok (.ishl, 1) := by decide +kernel
theorem dX10_play_264 : decode cX10_play 264 = .ok (.goto 12, 3) := by decide +kernel
theorem dX10_play_267 : decode cX10_play 267 = .ok (.aload_n 0, 1) := by decide +kernel
theorem dX10_play_268 : decode cX10_play 268 = .ok (.getfield 9, 3) := by decide +kernel
theorem dX10_play_271 : decode cX10_play 271 = .ok (.iload 11, 2) := by decide +kernel
theorem dX10_play_273 : decode cX10_play 273 = .ok (.invokevirtual 36, 3) := by decide +kernel
theorem dX10_play_276 : decode cX10_play 276 = .ok (.iadd, 1) := by decide +kernel
theorem dX10_play_277 : decode cX10_play 277 = .ok (.istore 15, 2) := by decide +kernel
theorem dX10_play_279 : decode cX10_play 279 = .ok (.iload 15, 2) := by decide +kernel
theorem dX10_play_281 : decode cX10_play 281 = .ok (.iload_n 2, 1) := by decide +kernel
theorem dX10_play_282 : decode cX10_play 282 = .ok (.invokestatic 39, 3) := by decide +kernel
theorem dX10_play_285 : decode cX10_play 285 = .ok (.iload 10, 2) := by decide +kernel
theorem dX10_play_287 : decode cX10_play 287 = .ok (.iload_n 2, 1) := by decide +kernel
theorem dX10_play_288 : decode cX10_play 288 = .ok (.invokestatic 39, 3) := by decide +kernel
theorem dX10_play_291 : decode cX10_play 291 = .ok (.if_icmp .le 7, 3) := by decide +kernel
theorem dX10_play_294 : decode cX10_play 294 = .ok (.iload 15, 2) := by decide +kernel
theorem dX10_play_296 : decode cX10_play 296 = .ok (.istore 10, 2) := by decide +kernel
theorem dX10_play_298 : decode cX10_play 298 = .ok (.iinc 11 1, 3) := by decide +kernel
theorem dX10_play_301 : decode cX10_play 301 = .ok (.goto (-183), 3) := by decide +kernel
theorem dX10_play_304 : decode cX10_play 304 = .ok (.iload 10, 2) := by decide +kernel
theorem dX10_play_306 : decode cX10_play 306 = .ok (.ireturn, 1) := by decide +kernel
theorem dX11_init_0 : decode cX11_init 0 = .ok (.aload_n 0, 1) := by decide +kernel
theorem dX11_init_1 : decode cX11_init 1 = .ok (.invokespecial 1, 3) := by decide +kernel
theorem dX11_init_4 : decode cX11_init 4 = .ok (.aload_n 0, 1) := by decide +kernel
theorem dX11_init_5 : decode cX11_init 5 = .ok (.new 7, 3) := by decide +kernel
theorem dX11_init_8 : decode cX11_init 8 = .ok (.dup, 1) := by decide +kernel
theorem dX11_init_9 : decode cX11_init 9 = .ok (.invokespecial 9, 3) := by decide +kernel
theorem dX11_init_12 : decode cX11_init 12 = .ok (.putfield 10, 3) := by decide +kernel
theorem dX11_init_15 : decode cX11_init 15 = .ok (.aload_n 0, 1) := by decide +kernel
theorem dX11_init_16 : decode cX11_init 16 = .ok (.new 16, 3) := by decide +kernel
theorem dX11_init_19 : decode cX11_init 19 = .ok (.dup, 1) := by decide +kernel
theorem dX11_init_20 : decode cX11_init 20 = .ok (.invokespecial 18, 3) := by decide +kernel
theorem dX11_init_23 : decode cX11_init 23 = .ok (.putfield 19, 3) := by decide +kernel
theorem dX11_init_26 : decode cX11_init 26 = .ok (.aload_n 0, 1) := by decide +kernel
theorem dX11_init_27 : decode cX11_init 27 = .ok (.new 23, 3) := by decide +kernel
theorem dX11_init_30 : decode cX11_init 30 = .ok (.dup, 1) := by decide +kernel
theorem dX11_init_31 : decode cX11_init 31 = .ok (.invokespecial 25, 3) := by decide +kernel
theorem dX11_init_34 : decode cX11_init 34 = .ok (.putfield 26, 3) := by decide +kernel
theorem dX11_init_37 : decode cX11_init 37 = .ok (.aload_n 0, 1) := by decide +kernel
theorem dX11_init_38 : decode cX11_init 38 = .ok (.new 30, 3) := by decide +kernel
theorem dX11_init_41 : decode cX11_init 41 = .ok (.dup, 1) := by decide +kernel
theorem dX11_init_42 : decode cX11_init 42 = .ok (.invokespecial 32, 3) := by decide +kernel
theorem dX11_init_45 : decode cX11_init 45 = .ok (.putfield 33, 3) := by decide +kernel
theorem dX11_init_48 : decode cX11_init 48 = .ok (.aload_n 0, 1) := by decide +kernel
theorem dX11_init_49 : decode cX11_init 49 = .ok (.new 37, 3) := by decide +kernel
theorem dX11_init_52 : decode cX11_init 52 = .ok (.dup, 1) := by decide +kernel
theorem dX11_init_53 : decode cX11_init 53 = .ok (.invokespecial 39, 3) := by decide +kernel
theorem dX11_init_56 : decode cX11_init 56 = .ok (.putfield 40, 3) := by decide +kernel
theorem dX11_init_59 : decode cX11_init 59 = .ok (.aload_n 0, 1) := by decide +kernel
theorem dX11_init_60 : decode cX11_init 60 = .ok (.new 44, 3) := by decide +kernel
theorem dX11_init_63 : decode cX11_init 63 = .ok (.dup, 1) := by decide +kernel
theorem dX11_init_64 : decode cX11_init 64 = .ok (.invokespecial 46, 3) := by decide +kernel
theorem dX11_init_67 : decode cX11_init 67 = .ok (.putfield 47, 3) := by decide +kernel
theorem dX11_init_70 : decode cX11_init 70 = .ok (.aload_n 0, 1) := by decide +kernel
theorem dX11_init_71 : decode cX11_init 71 = .ok (.new 51, 3) := by decide +kernel
theorem dX11_init_74 : decode cX11_init 74 = .ok (.dup, 1) := by decide +kernel
theorem dX11_init_75 : decode cX11_init 75 = .ok (.invokespecial 53, 3) := by decide +kernel
theorem dX11_init_78 : decode cX11_init 78 = .ok (.putfield 54, 3) := by decide +kernel
theorem dX11_init_81 : decode cX11_init 81 = .ok (.aload_n 0, 1) := by decide +kernel
theorem dX11_init_82 : decode cX11_init 82 = .ok (.new 58, 3) := by decide +kernel
theorem dX11_init_85 : decode cX11_init 85 = .ok (.dup, 1) := by decide +kernel
theorem dX11_init_86 : decode cX11_init 86 = .ok (.invokespecial 60, 3) := by decide +kernel
theorem dX11_init_89 : decode cX11_init 89 = .ok (.putfield 61, 3) := by decide +kernel
theorem dX11_init_92 : decode cX11_init 92 = .ok (.aload_n 0, 1) := by decide +kernel
theorem dX11_init_93 : decode cX11_init 93 = .ok (.new 65, 3) := by decide +kernel
theorem dX11_init_96 : decode cX11_init 96 = .ok (.dup, 1) := by decide +kernel
theorem dX11_init_97 : decode cX11_init 97 = .ok (.invokespecial 67, 3) := by decide +kernel
theorem dX11_init_100 : decode cX11_init 100 = .ok (.putfield 68, 3) := by decide +kernel
theorem dX11_init_103 : decode cX11_init 103 = .ok (.aload_n 0, 1) := by decide +kernel
theorem dX11_init_104 : decode cX11_init 104 = .ok (.bipush 8, 2) := by decide +kernel
theorem dX11_init_106 : decode cX11_init 106 = .ok (.newarray .int, 2) := by decide +kernel
theorem dX11_init_108 : decode cX11_init 108 = .ok (.putfield 72, 3) := by decide +kernel
theorem dX11_init_111 : decode cX11_init 111 = .ok (.aload_n 0, 1) := by decide +kernel
theorem dX11_init_112 : decode cX11_init 112 = .ok (.new 76, 3) := by decide +kernel
theorem dX11_init_115 : decode cX11_init 115 = .ok (.dup, 1) := by decide +kernel
theorem dX11_init_116 : decode cX11_init 116 = .ok (.invokespecial 78, 3) := by decide +kernel
theorem dX11_init_119 : decode cX11_init 119 = .ok (.putfield 79, 3) := by decide +kernel
theorem dX11_init_122 : decode cX11_init 122 = .ok (.aload_n 0, 1) := by decide +kernel
theorem dX11_init_123 : decode cX11_init 123 = .ok (.new 76, 3) := by decide +kernel
theorem dX11_init_126 : decode cX11_init 126 = .ok (.dup, 1) := by decide +kernel
theorem dX11_init_127 : decode cX11_init 127 = .ok (.invokespecial 78, 3) := by decide +kernel
theorem dX11_init_130 : decode cX11_init 130 = .ok (.putfield 83, 3) := by decide +kernel
theorem dX11_init_133 : decode cX11_init 133 = .ok (.return_, 1) := by decide +kernel
theorem dX11_write_0 : decode cX11_write 0 = .ok (.iload_n 1, 1) := by decide +kernel
theorem dX11_write_1 : decode cX11_write 1 = .ok (.iconst 1, 1) := by decide +kernel
theorem dX11_write_2 : decode cX11_write 2 = .ok (.if_icmp .lt 9, 3) := by decide +kernel
theorem dX11_write_5 : decode cX11_write 5 = .ok (.iload_n 1, 1) := by decide +kernel
theorem dX11_write_6 : decode cX11_write 6 = .ok (.bipush 8, 2) := by decide +kernel
theorem dX11_write_8 : decode cX11_write 8 = .ok (.if_icmp .le 6, 3) := by decide +kernel
theorem dX11_write_11 : decode cX11_write 11 = .ok (.bipush (-2), 2) := by decide +kernel
theorem dX11_write_13 : decode cX11_write 13 = .ok (.ireturn, 1) := by decide +kernel
theorem dX11_write_14 : decode cX11_write 14 = .ok (.aload_n 0, 1) := by decide +kernel
theorem dX11_write_15 : decode cX11_write 15 = .ok (.getfield 10, 3) := by decide +kernel
theorem dX11_write_18 : decode cX11_write 18 = .ok (.invokevirtual 86, 3) := by decide +kernel
theorem dX11_write_21 : decode cX11_write 21 = .ok (.iload_n 1, 1) := by decide +kernel
theorem dX11_write_22 : decode cX11_write 22 = .ok (.iadd, 1) := by decide +kernel
theorem dX11_write_23 : decode cX11_write 23 = .ok (.bipush 80, 2) := by decide +kernel
theorem dX11_write_25 : decode cX11_write 25 = .ok (.if_icmp .le 6, 3) := by decide +kernel
theorem dX11_write_28 : decode cX11_write 28 = .ok (.bipush (-4), 2) := by decide +kernel
theorem dX11_write_30 : decode cX11_write 30 = .ok (.ireturn, 1) := by decide +kernel
theorem dX11_write_31 : decode cX11_write 31 = .ok (.aload_n 0, 1) := by decide +kernel
theorem dX11_write_32 : decode cX11_write 32 = .ok (.getfield 10, 3) := by decide +kernel
theorem dX11_write_35 : decode cX11_write 35 = .ok (.iload_n 1, 1) := by decide +kernel
theorem dX11_write_36 : decode cX11_write 36 = .ok (.lload_n 2, 1) := by decide +kernel
theorem dX11_write_37 : decode cX11_write 37 = .ok (.invokevirtual 90, 3) := by decide +kernel
theorem dX11_write_40 : decode cX11_write 40 = .ok (.aload_n 0, 1) := by decide +kernel
theorem dX11_write_41 : decode cX11_write 41 = .ok (.getfield 10, 3) := by decide +kernel
theorem dX11_write_44 : decode cX11_write 44 = .ok (.invokevirtual 86, 3) := by decide +kernel
theorem dX11_write_47 : decode cX11_write 47 = .ok (.ireturn, 1) := by decide +kernel
theorem dX11_wipe_0 : decode cX11_wipe 0 = .ok (.aload_n 0, 1) := by decide +kernel
theorem dX11_wipe_1 : decode cX11_wipe 1 = .ok (.getfield 10, 3) := by decide +kernel
theorem dX11_wipe_4 : decode cX11_wipe 4 = .ok (.invokevirtual 86, 3) := by decide +kernel
theorem dX11_wipe_7 : decode cX11_wipe 7 = .ok (.istore_n 1, 1) := by decide +kernel
theorem dX11_wipe_8 : decode cX11_wipe 8 = .ok (.aload_n 0, 1) := by decide +kernel
theorem dX11_wipe_9 : decode cX11_wipe 9 = .ok (.getfield 10, 3) := by decide +kernel
theorem dX11_wipe_12 : decode cX11_wipe 12 = .ok (.invokevirtual 94, 3) := by decide +kernel
theorem dX11_wipe_15 : decode cX11_wipe 15 = .ok (.iload_n 1, 1) := by decide +kernel
theorem dX11_wipe_16 : decode cX11_wipe 16 = .ok (.ireturn, 1) := by decide +kernel
theorem dX11_fault_0 : decode cX11_fault 0 = .ok (.aload_n 0, 1) := by decide +kernel
theorem dX11_fault_1 : decode cX11_fault 1 = .ok (.getfield 10, 3) := by decide +kernel
theorem dX11_fault_4 : decode cX11_fault 4 = .ok (.aload_n 0, 1) := by decide +kernel
theorem dX11_fault_5 : decode cX11_fault 5 = .ok (.getfield 83, 3) := by decide +kernel
theorem dX11_fault_8 : decode cX11_fault 8 = .ok (.invokestatic 97, 3) := by decide +kernel
theorem dX11_fault_11 : decode cX11_fault 11 = .ok (.ireturn, 1) := by decide +kernel
theorem dX11_day_0 : decode cX11_day 0 = .ok (.aload_n 0, 1) := by decide +kernel
theorem dX11_day_1 : decode cX11_day 1 = .ok (.getfield 10, 3) := by decide +kernel
theorem dX11_day_4 : decode cX11_day 4 = .ok (.aload_n 0, 1) := by decide +kernel
theorem dX11_day_5 : decode cX11_day 5 = .ok (.getfield 83, 3) := by decide +kernel
theorem dX11_day_8 : decode cX11_day 8 = .ok (.invokestatic 97, 3) := by decide +kernel
theorem dX11_day_11 : decode cX11_day 11 = .ok (.bipush (-9), 2) := by decide +kernel
theorem dX11_day_13 : decode cX11_day 13 = .ok (.if_icmp .eq 6, 3) := by decide +kernel
theorem dX11_day_16 : decode cX11_day 16 = .ok (.bipush (-3), 2) := by decide +kernel
theorem dX11_day_18 : decode cX11_day 18 = .ok (.ireturn, 1) := by decide +kernel
theorem dX11_day_19 : decode cX11_day 19 = .ok (.aload_n 0, 1) := by decide +kernel
theorem dX11_day_20 : decode cX11_day 20 = .ok (.getfield 83, 3) := by decide +kernel
theorem dX11_day_23 : decode cX11_day 23 = .ok (.astore_n 1, 1) := by decide +kernel
theorem dX11_day_24 : decode cX11_day 24 = .ok (.aload_n 0, 1) := by decide +kernel
theorem dX11_day_25 : decode cX11_day 25 = .ok (.aload_n 0, 1) := by decide +kernel
theorem dX11_day_26 : decode cX11_day 26 = .ok (.getfield 79, 3) := by decide +kernel
theorem dX11_day_29 : decode cX11_day 29 = .ok (.putfield 83, 3) := by decide +kernel
theorem dX11_day_32 : decode cX11_day 32 = .ok (.aload_n 0, 1) := by decide +kernel
theorem dX11_day_33 : decode cX11_day 33 = .ok (.aload_n 1, 1) := by decide +kernel
theorem dX11_day_34 : decode cX11_day 34 = .ok (.putfield 79, 3) := by decide +kernel
theorem dX11_day_37 : decode cX11_day 37 = .ok (.aload_n 0, 1) := by decide +kernel
theorem dX11_day_38 : decode cX11_day 38 = .ok (.getfield 79, 3) := by decide +kernel
theorem dX11_day_41 : decode cX11_day 41 = .ok (.invokevirtual 103, 3) := by decide +kernel
theorem dX11_day_44 : decode cX11_day 44 = .ok (.aload_n 0, 1) := by decide +kernel
theorem dX11_day_45 : decode cX11_day 45 = .ok (.getfield 19, 3) := by decide +kernel
theorem dX11_day_48 : decode cX11_day 48 = .ok (.aload_n 0, 1) := by decide +kernel
theorem dX11_day_49 : decode cX11_day 49 = .ok (.getfield 79, 3) := by decide +kernel
theorem dX11_day_52 : decode cX11_day 52 = .ok (.getfield 106, 3) := by decide +kernel
theorem dX11_day_55 : decode cX11_day 55 = .ok (.invokevirtual 110, 3) := by decide +kernel
theorem dX11_day_58 : decode cX11_day 58 = .ok (.aload_n 0, 1) := by decide +kernel
theorem dX11_day_59 : decode cX11_day 59 = .ok (.getfield 26, 3) := by decide +kernel
theorem dX11_day_62 : decode cX11_day 62 = .ok (.invokevirtual 114, 3) := by decide +kernel
theorem dX11_day_65 : decode cX11_day 65 = .ok (.aload_n 0, 1) := by decide +kernel
theorem dX11_day_66 : decode cX11_day 66 = .ok (.getfield 33, 3) := by decide +kernel
theorem dX11_day_69 : decode cX11_day 69 = .ok (.invokevirtual 117, 3) := by decide +kernel
theorem dX11_day_72 : decode cX11_day 72 = .ok (.aload_n 0, 1) := by decide +kernel
theorem dX11_day_73 : decode cX11_day 73 = .ok (.getfield 79, 3) := by decide +kernel
theorem dX11_day_76 : decode cX11_day 76 = .ok (.getfield 118, 3) := by decide +kernel
theorem dX11_day_79 : decode cX11_day 79 = .ok (.ireturn, 1) := by decide +kernel
theorem dX11_about_0 : decode cX11_about 0 = .ok (.iload_n 1, 1) := by decide +kernel
theorem dX11_about_1 : decode cX11_about 1 = .ok (.tableswitch 146 0 9 #[55, 63, 71, 79, 87, 95, 110, 118, 126, 138], 55) := by decide +kernel
theorem dX11_about_56 : decode cX11_about 56 = .ok (.aload_n 0, 1) := by decide +kernel
theorem dX11_about_57 : decode cX11_about 57 = .ok (.getfield 79, 3) := by decide +kernel
theorem dX11_about_60 : decode cX11_about 60 = .ok (.getfield 118, 3) := by decide +kernel
theorem dX11_about_63 : decode cX11_about 63 = .ok (.ireturn, 1) := by decide +kernel
theorem dX11_about_64 : decode cX11_about 64 = .ok (.aload_n 0, 1) := by decide +kernel
theorem dX11_about_65 : decode cX11_about 65 = .ok (.getfield 79, 3) := by decide +kernel
theorem dX11_about_68 : decode cX11_about 68 = .ok (.getfield 121, 3) := by decide +kernel
theorem dX11_about_71 : decode cX11_about 71 = .ok (.ireturn, 1) := by decide +kernel
theorem dX11_about_72 : decode cX11_about 72 = .ok (.aload_n 0, 1) := by decide +kernel
theorem dX11_about_73 : decode cX11_about 73 = .ok (.getfield 79, 3) := by decide +kernel
theorem dX11_about_76 : decode cX11_about 76 = .ok (.getfield 124, 3) := by decide +kernel
theorem dX11_about_79 : decode cX11_about 79 = .ok (.ireturn, 1) := by decide +kernel
theorem dX11_about_80 : decode cX11_about 80 = .ok (.aload_n 0, 1) := by decide +kernel
theorem dX11_about_81 : decode cX11_about 81 = .ok (.getfield 19, 3) := by decide +kernel
theorem dX11_about_84 : decode cX11_about 84 = .ok (.getfield 127, 3) := by decide +kernel
theorem dX11_about_87 : decode cX11_about 87 = .ok (.ireturn, 1) := by decide +kernel
theorem dX11_about_88 : decode cX11_about 88 = .ok (.aload_n 0, 1) := by decide +kernel
theorem dX11_about_89 : decode cX11_about 89 = .ok (.getfield 19, 3) := by decide +kernel
theorem dX11_about_92 : decode cX11_about 92 = .ok (.getfield 130, 3) := by decide +kernel
theorem dX11_about_95 : decode cX11_about 95 = .ok (.ireturn, 1) := by decide +kernel
theorem dX11_about_96 : decode cX11_about 96 = .ok (.aload_n 0, 1) := by decide +kernel
theorem dX11_about_97 : decode cX11_about 97 = .ok (.getfield 79, 3) := by decide +kernel
theorem dX11_about_100 : decode cX11_about 100 = .ok (.aload_n 0, 1) := by decide +kernel
theorem dX11_about_101 : decode cX11_about 101 = .ok (.getfield 19, 3) := by decide +kernel
theorem dX11_about_104 : decode cX11_about 104 = .ok (.getfield 130, 3) := by decide +kernel
theorem dX11_about_107 : decode cX11_about 107 = .ok (.invokevirtual 133, 3) := by decide +kernel
theorem dX11_about_110 : decode cX11_about 110 = .ok (.ireturn, 1) := by decide +kernel
theorem dX11_about_111 : decode cX11_about 111 = .ok (.aload_n 0, 1) := by decide +kernel
theorem dX11_about_112 : decode cX11_about 112 = .ok (.getfield 26, 3) := by decide +kernel
theorem dX11_about_115 : decode cX11_about 115 = .ok (.getfield 137, 3) := by decide +kernel
theorem dX11_about_118 : decode cX11_about 118 = .ok (.ireturn, 1) := by decide +kernel
theorem dX11_about_119 : decode cX11_about 119 = .ok (.aload_n 0, 1) := by decide +kernel
theorem dX11_about_120 : decode cX11_about 120 = .ok (.getfield 19, 3) := by decide +kernel
theorem dX11_about_123 : decode cX11_about 123 = .ok (.getfield 140, 3) := by decide +kernel
theorem dX11_about_126 : decode cX11_about 126 = .ok (.ireturn, 1) := by decide +kernel
theorem dX11_about_127 : decode cX11_about 127 = .ok (.aload_n 0, 1) := by decide +kernel
theorem dX11_about_128 : decode cX11_about 128 = .ok (.getfield 19, 3) := by decide +kernel
theorem dX11_about_131 : decode cX11_about 131 = .ok (.invokevirtual 143, 3) := by decide +kernel
theorem dX11_about_134 : decode cX11_about 134 = .ok (.sipush 10000, 3) := by decide +kernel
theorem dX11_about_137 : decode cX11_about 137 = .ok (.iadd, 1) := by decide +kernel
theorem dX11_about_138 : decode cX11_about 138 = .ok (.ireturn, 1) := by decide +kernel
theorem dX11_about_139 : decode cX11_about 139 = .ok (.aload_n 0, 1) := by decide +kernel
theorem dX11_about_140 : decode cX11_about 140 = .ok (.getfield 10, 3) := by decide +kernel
theorem dX11_about_143 : decode cX11_about 143 = .ok (.invokevirtual 86, 3) := by decide +kernel
theorem dX11_about_146 : decode cX11_about 146 = .ok (.ireturn, 1) := by decide +kernel
theorem dX11_about_147 : decode cX11_about 147 = .ok (.bipush (-2), 2) := by decide +kernel
theorem dX11_about_149 : decode cX11_about 149 = .ok (.ireturn, 1) := by decide +kernel
theorem dX11_at_0 : decode cX11_at 0 = .ok (.iload_n 1, 1) := by decide +kernel
theorem dX11_at_1 : decode cX11_at 1 = .ok (.invokestatic 146, 3) := by decide +kernel
theorem dX11_at_4 : decode cX11_at 4 = .ok (.ifCond .eq 14, 3) := by decide +kernel
theorem dX11_at_7 : decode cX11_at 7 = .ok (.aload_n 0, 1) := by decide +kernel
theorem dX11_at_8 : decode cX11_at 8 = .ok (.getfield 19, 3) := by decide +kernel
theorem dX11_at_11 : decode cX11_at 11 = .ok (.iload_n 1, 1) := by decide +kernel
theorem dX11_at_12 : decode cX11_at 12 = .ok (.invokevirtual 150, 3) := by decide +kernel
theorem dX11_at_15 : decode cX11_at 15 = .ok (.goto 4, 3) := by decide +kernel
theorem dX11_at_18 : decode cX11_at 18 = .ok (.iconst (-1), 1) := by decide +kernel
theorem dX11_at_19 : decode cX11_at 19 = .ok (.ireturn, 1) := by decide +kernel
theorem dX11_far_0 : decode cX11_far 0 = .ok (.aload_n 0, 1) := by decide +kernel
theorem dX11_far_1 : decode cX11_far 1 = .ok (.getfield 79, 3) := by decide +kernel
theorem dX11_far_4 : decode cX11_far 4 = .ok (.iload_n 1, 1) := by decide +kernel
theorem dX11_far_5 : decode cX11_far 5 = .ok (.invokevirtual 153, 3) := by decide +kernel
theorem dX11_far_8 : decode cX11_far 8 = .ok (.ifCond .eq 14, 3) := by decide +kernel
theorem dX11_far_11 : decode cX11_far 11 = .ok (.aload_n 0, 1) := by decide +kernel
theorem dX11_far_12 : decode cX11_far 12 = .ok (.getfield 79, 3) := by decide +kernel
theorem dX11_far_15 : decode cX11_far 15 = .ok (.iload_n 2, 1) := by decide +kernel
theorem dX11_far_16 : decode cX11_far 16 = .ok (.invokevirtual 153, 3) := by decide +kernel
theorem dX11_far_19 : decode cX11_far 19 = .ok (.ifCond .ne 5, 3) := by decide +kernel
theorem dX11_far_22 : decode cX11_far 22 = .ok (.iconst (-1), 1) := by decide +kernel
theorem dX11_far_23 : decode cX11_far 23 = .ok (.ireturn, 1) := by decide +kernel
theorem dX11_far_24 : decode cX11_far 24 = .ok (.aload_n 0, 1) := by decide +kernel
theorem dX11_far_25 : decode cX11_far 25 = .ok (.getfield 79, 3) := by decide +kernel
theorem dX11_far_28 : decode cX11_far 28 = .ok (.iload_n 1, 1) := by decide +kernel
theorem dX11_far_29 : decode cX11_far 29 = .ok (.iload_n 2, 1) := by decide +kernel
theorem dX11_far_30 : decode cX11_far 30 = .ok (.invokevirtual 156, 3) := by decide +kernel
theorem dX11_far_33 : decode cX11_far 33 = .ok (.invokestatic 160, 3) := by decide +kernel
theorem dX11_far_36 : decode cX11_far 36 = .ok (.ireturn, 1) := by decide +kernel
theorem dX11_errand_0 : decode cX11_errand 0 = .ok (.aload_n 0, 1) := by decide +kernel
theorem dX11_errand_1 : decode cX11_errand 1 = .ok (.getfield 79, 3) := by decide +kernel
theorem dX11_errand_4 : decode cX11_errand 4 = .ok (.iload_n 1, 1) := by decide +kernel
theorem dX11_errand_5 : decode cX11_errand 5 = .ok (.invokevirtual 163, 3) := by decide +kernel
theorem dX11_errand_8 : decode cX11_errand 8 = .ok (.ifCond .ne 5, 3) := by decide +kernel
theorem dX11_errand_11 : decode cX11_errand 11 = .ok (.iconst (-1), 1) := by decide +kernel
theorem dX11_errand_12 : decode cX11_errand 12 = .ok (.ireturn, 1) := by decide +kernel
theorem dX11_errand_13 : decode cX11_errand 13 = .ok (.iload_n 2, 1) := by decide +kernel
theorem dX11_errand_14 : decode cX11_errand 14 = .ok (.tableswitch 103 0 4 #[34, 43, 52, 61, 78], 34) := by decide +kernel
theorem dX11_errand_48 : decode cX11_errand 48 = .ok (.aload_n 0, 1) := by decide +kernel
theorem dX11_errand_49 : decode cX11_errand 49 = .ok (.getfield 79, 3) := by decide +kernel
theorem dX11_errand_52 : decode cX11_errand 52 = .ok (.iload_n 1, 1) := by decide +kernel
theorem dX11_errand_53 : decode cX11_errand 53 = .ok (.invokevirtual 166, 3) := by decide +kernel
theorem dX11_errand_56 : decode cX11_errand 56 = .ok (.ireturn, 1) := by decide +kernel
theorem dX11_errand_57 : decode cX11_errand 57 = .ok (.aload_n 0, 1) := by decide +kernel
theorem dX11_errand_58 : decode cX11_errand 58 = .ok (.getfield 79, 3) := by decide +kernel
theorem dX11_errand_61 : decode cX11_errand 61 = .ok (.iload_n 1, 1) := by decide +kernel
theorem dX11_errand_62 : decode cX11_errand 62 = .ok (.invokevirtual 169, 3) := by decide +kernel
theorem dX11_errand_65 : decode cX11_errand 65 = .ok (.ireturn, 1) := by decide +kernel
theorem dX11_errand_66 : decode cX11_errand 66 = .ok (.aload_n 0, 1) := by decide +kernel
theorem dX11_errand_67 : decode cX11_errand 67 = .ok (.getfield 79, 3) := by decide +kernel
theorem dX11_errand_70 : decode cX11_errand 70 = .ok (.iload_n 1, 1) := by decide +kernel
theorem dX11_errand_71 : decode cX11_errand 71 = .ok (.invokevirtual 172, 3) := by decide +kernel
theorem dX11_errand_74 : decode cX11_errand 74 = .ok (.ireturn, 1) := by decide +kernel
theorem dX11_errand_75 : decode cX11_errand 75 = .ok (.aload_n 0, 1) := by decide +kernel
theorem dX11_errand_76 : decode cX11_errand 76 = .ok (.getfield 19, 3) := by decide +kernel
theorem dX11_errand_79 : decode cX11_errand 79 = .ok (.iload_n 1, 1) := by decide +kernel
theorem dX11_errand_80 : decode cX11_errand 80 = .ok (.invokevirtual 175, 3) := by decide +kernel
theorem dX11_errand_83 : decode cX11_errand 83 = .ok (.ifCond .eq 7, 3) := by decide +kernel
theorem dX11_errand_86 : decode cX11_errand 86 = .ok (.iconst 1, 1) := by decide +kernel
theorem dX11_errand_87 : decode cX11_errand 87 = .ok (.goto 4, 3) := by decide +kernel
theorem dX11_errand_90 : decode cX11_errand 90 = .ok (.iconst 0, 1) := by decide +kernel
theorem dX11_errand_91 : decode cX11_errand 91 = .ok (.ireturn, 1) := by decide +kernel
theorem dX11_errand_92 : decode cX11_errand 92 = .ok (.aload_n 0, 1) := by decide +kernel
theorem dX11_errand_93 : decode cX11_errand 93 = .ok (.getfield 19, 3) := by decide +kernel
theorem dX11_errand_96 : decode cX11_errand 96 = .ok (.iload_n 1, 1) := by decide +kernel
theorem dX11_errand_97 : decode cX11_errand 97 = .ok (.invokevirtual 175, 3) := by decide +kernel
theorem dX11_errand_100 : decode cX11_errand 100 = .ok (.ifCond .eq 14, 3) := by decide +kernel
theorem dX11_errand_103 : decode cX11_errand 103 = .ok (.aload_n 0, 1) := by decide +kernel
theorem dX11_errand_104 : decode cX11_errand 104 = .ok (.getfield 19, 3) := by decide +kernel
theorem dX11_errand_107 : decode cX11_errand 107 = .ok (.iload_n 1, 1) := by decide +kernel
theorem dX11_errand_108 : decode cX11_errand 108 = .ok (.invokevirtual 178, 3) := by decide +kernel
theorem dX11_errand_111 : decode cX11_errand 111 = .ok (.goto 5, 3) := by decide +kernel
theorem dX11_errand_114 : decode cX11_errand 114 = .ok (.bipush (-9), 2) := by decide +kernel
theorem dX11_errand_116 : decode cX11_errand 116 = .ok (.ireturn, 1) := by decide +kernel
theorem dX11_errand_117 : decode cX11_errand 117 = .ok (.bipush (-2), 2) := by decide +kernel
theorem dX11_errand_119 : decode cX11_errand 119 = .ok (.ireturn, 1) := by decide +kernel
theorem dX11_walk_0 : decode cX11_walk 0 = .ok (.iload_n 1, 1) := by decide +kernel
theorem dX11_walk_1 : decode cX11_walk 1 = .ok (.invokestatic 146, 3) := by decide +kernel
theorem dX11_walk_4 : decode cX11_walk 4 = .ok (.ifCond .eq 14, 3) := by decide +kernel
theorem dX11_walk_7 : decode cX11_walk 7 = .ok (.aload_n 0, 1) := by decide +kernel
theorem dX11_walk_8 : decode cX11_walk 8 = .ok (.getfield 79, 3) := by decide +kernel
theorem dX11_walk_11 : decode cX11_walk 11 = .ok (.iload_n 2, 1) := by decide +kernel
theorem dX11_walk_12 : decode cX11_walk 12 = .ok (.invokevirtual 153, 3) := by decide +kernel
theorem dX11_walk_15 : decode cX11_walk 15 = .ok (.ifCond .ne 5, 3) := by decide +kernel
theorem dX11_walk_18 : decode cX11_walk 18 = .ok (.iconst (-1), 1) := by decide +kernel
theorem dX11_walk_19 : decode cX11_walk 19 = .ok (.ireturn, 1) := by decide +kernel
theorem dX11_walk_20 : decode cX11_walk 20 = .ok (.aload_n 0, 1) := by decide +kernel
theorem dX11_walk_21 : decode cX11_walk 21 = .ok (.aload_n 0, 1) := by decide +kernel
theorem dX11_walk_22 : decode cX11_walk 22 = .ok (.getfield 19, 3) := by decide +kernel
theorem dX11_walk_25 : decode cX11_walk 25 = .ok (.iload_n 1, 1) := by decide +kernel
theorem dX11_walk_26 : decode cX11_walk 26 = .ok (.invokevirtual 150, 3) := by decide +kernel
theorem dX11_walk_29 : decode cX11_walk 29 = .ok (.iload_n 2, 1) := by decide +kernel
theorem dX11_walk_30 : decode cX11_walk 30 = .ok (.invokevirtual 181, 3) := by decide +kernel
theorem dX11_walk_33 : decode cX11_walk 33 = .ok (.istore_n 3, 1) := by decide +kernel
theorem dX11_walk_34 : decode cX11_walk 34 = .ok (.iload_n 3, 1) := by decide +kernel
theorem dX11_walk_35 : decode cX11_walk 35 = .ok (.aload_n 0, 1) := by decide +kernel
theorem dX11_walk_36 : decode cX11_walk 36 = .ok (.getfield 19, 3) := by decide +kernel
theorem dX11_walk_39 : decode cX11_walk 39 = .ok (.getfield 127, 3) := by decide +kernel
theorem dX11_walk_42 : decode cX11_walk 42 = .ok (.if_icmp .le 6, 3) := by decide +kernel
theorem dX11_walk_45 : decode cX11_walk 45 = .ok (.bipush (-3), 2) := by decide +kernel
theorem dX11_walk_47 : decode cX11_walk 47 = .ok (.ireturn, 1) := by decide +kernel
theorem dX11_walk_48 : decode cX11_walk 48 = .ok (.aload_n 0, 1) := by decide +kernel
theorem dX11_walk_49 : decode cX11_walk 49 = .ok (.getfield 26, 3) := by decide +kernel
theorem dX11_walk_52 : decode cX11_walk 52 = .ok (.aload_n 0, 1) := by decide +kernel
theorem dX11_walk_53 : decode cX11_walk 53 = .ok (.getfield 19, 3) := by decide +kernel
theorem dX11_walk_56 : decode cX11_walk 56 = .ok (.invokevirtual 184, 3) := by decide +kernel
theorem dX11_walk_59 : decode cX11_walk 59 = .ok (.aload_n 0, 1) := by decide +kernel
theorem dX11_walk_60 : decode cX11_walk 60 = .ok (.getfield 19, 3) := by decide +kernel
theorem dX11_walk_63 : decode cX11_walk 63 = .ok (.iload_n 1, 1) := by decide +kernel
theorem dX11_walk_64 : decode cX11_walk 64 = .ok (.iload_n 2, 1) := by decide +kernel
theorem dX11_walk_65 : decode cX11_walk 65 = .ok (.invokevirtual 188, 3) := by decide +kernel
theorem dX11_walk_68 : decode cX11_walk 68 = .ok (.aload_n 0, 1) := by decide +kernel
theorem dX11_walk_69 : decode cX11_walk 69 = .ok (.getfield 19, 3) := by decide +kernel
theorem dX11_walk_72 : decode cX11_walk 72 = .ok (.dup, 1) := by decide +kernel
theorem dX11_walk_73 : decode cX11_walk 73 = .ok (.getfield 127, 3) := by decide +kernel
theorem dX11_walk_76 : decode cX11_walk 76 = .ok (.iload_n 3, 1) := by decide +kernel
theorem dX11_walk_77 : decode cX11_walk 77 = .ok (.isub, 1) := by decide +kernel
theorem dX11_walk_78 : decode cX11_walk 78 = .ok (.putfield 127, 3) := by decide +kernel
theorem dX11_walk_81 : decode cX11_walk 81 = .ok (.aload_n 0, 1) := by decide +kernel
theorem dX11_walk_82 : decode cX11_walk 82 = .ok (.getfield 19, 3) := by decide +kernel
theorem dX11_walk_85 : decode cX11_walk 85 = .ok (.getfield 127, 3) := by decide +kernel
theorem dX11_walk_88 : decode cX11_walk 88 = .ok (.ireturn, 1) := by decide +kernel
theorem dX11_carry_0 : decode cX11_carry 0 = .ok (.iload_n 1, 1) := by decide +kernel
theorem dX11_carry_1 : decode cX11_carry 1 = .ok (.invokestatic 146, 3) := by decide +kernel
theorem dX11_carry_4 : decode cX11_carry 4 = .ok (.ifCond .eq 14, 3) := by decide +kernel
theorem dX11_carry_7 : decode cX11_carry 7 = .ok (.aload_n 0, 1) := by decide +kernel
theorem dX11_carry_8 : decode cX11_carry 8 = .ok (.getfield 79, 3) := by decide +kernel
theorem dX11_carry_11 : decode cX11_carry 11 = .ok (.iload_n 2, 1) := by decide +kernel
theorem dX11_carry_12 : decode cX11_carry 12 = .ok (.invokevirtual 153, 3) := by decide +kernel
theorem dX11_carry_15 : decode cX11_carry 15 = .ok (.ifCond .ne 5, 3) := by decide +kernel
theorem dX11_carry_18 : decode cX11_carry 18 = .ok (.iconst (-1), 1) := by decide +kernel
theorem dX11_carry_19 : decode cX11_carry 19 = .ok (.ireturn, 1) := by decide +kernel
theorem dX11_carry_20 : decode cX11_carry 20 = .ok (.aload_n 0, 1) := by decide +kernel
theorem dX11_carry_21 : decode cX11_carry 21 = .ok (.getfield 19, 3) := by decide +kernel
theorem dX11_carry_24 : decode cX11_carry 24 = .ok (.iconst 0, 1) := by decide +kernel
theorem dX11_carry_25 : decode cX11_carry 25 = .ok (.invokevirtual 150, 3) := by decide +kernel
theorem dX11_carry_28 : decode cX11_carry 28 = .ok (.aload_n 0, 1) := by decide +kernel
theorem dX11_carry_29 : decode cX11_carry 29 = .ok (.getfield 19, 3) := by decide +kernel
theorem dX11_carry_32 : decode cX11_carry 32 = .ok (.iconst 1, 1) := by decide +kernel
theorem dX11_carry_33 : decode cX11_carry 33 = .ok (.invokevirtual 150, 3) := by decide +kernel
theorem dX11_carry_36 : decode cX11_carry 36 = .ok (.if_icmp .eq 6, 3) := by decide +kernel
theorem dX11_carry_39 : decode cX11_carry 39 = .ok (.bipush (-3), 2) := by decide +kernel
theorem dX11_carry_41 : decode cX11_carry 41 = .ok (.ireturn, 1) := by decide +kernel
theorem dX11_carry_42 : decode cX11_carry 42 = .ok (.iconst 2, 1) := by decide +kernel
theorem dX11_carry_43 : decode cX11_carry 43 = .ok (.aload_n 0, 1) := by decide +kernel
theorem dX11_carry_44 : decode cX11_carry 44 = .ok (.aload_n 0, 1) := by decide +kernel
theorem dX11_carry_45 : decode cX11_carry 45 = .ok (.getfield 19, 3) := by decide +kernel
theorem dX11_carry_48 : decode cX11_carry 48 = .ok (.iload_n 1, 1) := by decide +kernel
theorem dX11_carry_49 : decode cX11_carry 49 = .ok (.invokevirtual 150, 3) := by decide +kernel
theorem dX11_carry_52 : decode cX11_carry 52 = .ok (.iload_n 2, 1) := by decide +kernel
theorem dX11_carry_53 : decode cX11_carry 53 = .ok (.invokevirtual 181, 3) := by decide +kernel
theorem dX11_carry_56 : decode cX11_carry 56 = .ok (.imul, 1) := by decide +kernel
theorem dX11_carry_57 : decode cX11_carry 57 = .ok (.istore_n 3, 1) := by decide +kernel
theorem dX11_carry_58 : decode cX11_carry 58 = .ok (.iload_n 3, 1) := by decide +kernel
theorem dX11_carry_59 : decode cX11_carry 59 = .ok (.aload_n 0, 1) := by decide +kernel
theorem dX11_carry_60 : decode cX11_carry 60 = .ok (.getfield 19, 3) := by decide +kernel
theorem dX11_carry_63 : decode cX11_carry 63 = .ok (.getfield 127, 3) := by decide +kernel
theorem dX11_carry_66 : decode cX11_carry 66 = .ok (.if_icmp .le 6, 3) := by decide +kernel
theorem dX11_carry_69 : decode cX11_carry 69 = .ok (.bipush (-3), 2) := by decide +kernel
theorem dX11_carry_71 : decode cX11_carry 71 = .ok (.ireturn, 1) := by decide +kernel
theorem dX11_carry_72 : decode cX11_carry 72 = .ok (.aload_n 0, 1) := by decide +kernel
theorem dX11_carry_73 : decode cX11_carry 73 = .ok (.getfield 26, 3) := by decide +kernel
theorem dX11_carry_76 : decode cX11_carry 76 = .ok (.aload_n 0, 1) := by decide +kernel
theorem dX11_carry_77 : decode cX11_carry 77 = .ok (.getfield 19, 3) := by decide +kernel
theorem dX11_carry_80 : decode cX11_carry 80 = .ok (.invokevirtual 184, 3) := by decide +kernel
theorem dX11_carry_83 : decode cX11_carry 83 = .ok (.aload_n 0, 1) := by decide +kernel
theorem dX11_carry_84 : decode cX11_carry 84 = .ok (.getfield 19, 3) := by decide +kernel
theorem dX11_carry_87 : decode cX11_carry 87 = .ok (.iconst 0, 1) := by decide +kernel
theorem dX11_carry_88 : decode cX11_carry 88 = .ok (.iload_n 2, 1) := by decide +kernel
theorem dX11_carry_89 : decode cX11_carry 89 = .ok (.invokevirtual 188, 3) := by decide +kernel
theorem dX11_carry_92 : decode cX11_carry 92 = .ok (.aload_n 0, 1) := by decide +kernel
theorem dX11_carry_93 : decode cX11_carry 93 = .ok (.getfield 19, 3) := by decide +kernel
theorem dX11_carry_96 : decode cX11_carry 96 = .ok (.iconst 1, 1) := by decide +kernel
theorem dX11_carry_97 : decode cX11_carry 97 = .ok (.iload_n 2, 1) := by decide +kernel
theorem dX11_carry_98 : decode cX11_carry 98 = .ok (.invokevirtual 188, 3) := by decide +kernel
theorem dX11_carry_101 : decode cX11_carry 101 = .ok (.aload_n 0, 1) := by decide +kernel
theorem dX11_carry_102 : decode cX11_carry 102 = .ok (.getfield 19, 3) := by decide +kernel
theorem dX11_carry_105 : decode cX11_carry 105 = .ok (.dup, 1) := by decide +kernel
theorem dX11_carry_106 : decode cX11_carry 106 = .ok (.getfield 127, 3) := by decide +kernel
theorem dX11_carry_109 : decode cX11_carry 109 = .ok (.iload_n 3, 1) := by decide +kernel
theorem dX11_carry_110 : decode cX11_carry 110 = .ok (.isub, 1) := by decide +kernel
theorem dX11_carry_111 : decode cX11_carry 111 = .ok (.putfield 127, 3) := by decide +kernel
theorem dX11_carry_114 : decode cX11_carry 114 = .ok (.aload_n 0, 1) := by decide +kernel
theorem dX11_carry_115 : decode cX11_carry 115 = .ok (.getfield 19, 3) := by decide +kernel
theorem dX11_carry_118 : decode cX11_carry 118 = .ok (.getfield 127, 3) := by decide +kernel
theorem dX11_carry_121 : decode cX11_carry 121 = .ok (.ireturn, 1) := by decide +kernel
theorem dX11_done_0 : decode cX11_done 0 = .ok (.iload_n 1, 1) := by decide +kernel
theorem dX11_done_1 : decode cX11_done 1 = .ok (.invokestatic 146, 3) := by decide +kernel
theorem dX11_done_4 : decode cX11_done 4 = .ok (.ifCond .eq 14, 3) := by decide +kernel
theorem dX11_done_7 : decode cX11_done 7 = .ok (.aload_n 0, 1) := by decide +kernel
theorem dX11_done_8 : decode cX11_done 8 = .ok (.getfield 79, 3) := by decide +kernel
theorem dX11_done_11 : decode cX11_done 11 = .ok (.iload_n 2, 1) := by decide +kernel
theorem dX11_done_12 : decode cX11_done 12 = .ok (.invokevirtual 163, 3) := by decide +kernel
theorem dX11_done_15 : decode cX11_done 15 = .ok (.ifCond .ne 5, 3) := by decide +kernel
theorem dX11_done_18 : decode cX11_done 18 = .ok (.iconst (-1), 1) := by decide +kernel
theorem dX11_done_19 : decode cX11_done 19 = .ok (.ireturn, 1) := by decide +kernel
theorem dX11_done_20 : decode cX11_done 20 = .ok (.aload_n 0, 1) := by decide +kernel
theorem dX11_done_21 : decode cX11_done 21 = .ok (.getfield 19, 3) := by decide +kernel
theorem dX11_done_24 : decode cX11_done 24 = .ok (.iload_n 2, 1) := by decide +kernel
theorem dX11_done_25 : decode cX11_done 25 = .ok (.invokevirtual 175, 3) := by decide +kernel
theorem dX11_done_28 : decode cX11_done 28 = .ok (.ifCond .ne 15, 3) := by decide +kernel
theorem dX11_done_31 : decode cX11_done 31 = .ok (.aload_n 0, 1) := by decide +kernel
theorem dX11_done_32 : decode cX11_done 32 = .ok (.getfield 79, 3) := by decide +kernel
theorem dX11_done_35 : decode cX11_done 35 = .ok (.iload_n 1, 1) := by decide +kernel
theorem dX11_done_36 : decode cX11_done 36 = .ok (.iload_n 2, 1) := by decide +kernel
theorem dX11_done_37 : decode cX11_done 37 = .ok (.invokevirtual 192, 3) := by decide +kernel
theorem dX11_done_40 : decode cX11_done 40 = .ok (.ifCond .ne 6, 3) := by decide +kernel
theorem dX11_done_43 : decode cX11_done 43 = .ok (.bipush (-3), 2) := by decide +kernel
theorem dX11_done_45 : decode cX11_done 45 = .ok (.ireturn, 1) := by decide +kernel
theorem dX11_done_46 : decode cX11_done 46 = .ok (.aload_n 0, 1) := by decide +kernel
theorem dX11_done_47 : decode cX11_done 47 = .ok (.getfield 19, 3) := by decide +kernel
theorem dX11_done_50 : decode cX11_done 50 = .ok (.iload_n 1, 1) := by decide +kernel
theorem dX11_done_51 : decode cX11_done 51 = .ok (.invokevirtual 150, 3) := by decide +kernel
theorem dX11_done_54 : decode cX11_done 54 = .ok (.aload_n 0, 1) := by decide +kernel
theorem dX11_done_55 : decode cX11_done 55 = .ok (.getfield 79, 3) := by decide +kernel
theorem dX11_done_58 : decode cX11_done 58 = .ok (.iload_n 2, 1) := by decide +kernel
theorem dX11_done_59 : decode cX11_done 59 = .ok (.invokevirtual 166, 3) := by decide +kernel
theorem dX11_done_62 : decode cX11_done 62 = .ok (.if_icmp .eq 6, 3) := by decide +kernel
theorem dX11_done_65 : decode cX11_done 65 = .ok (.bipush (-3), 2) := by decide +kernel
theorem dX11_done_67 : decode cX11_done 67 = .ok (.ireturn, 1) := by decide +kernel
theorem dX11_done_68 : decode cX11_done 68 = .ok (.aload_n 0, 1) := by decide +kernel
theorem dX11_done_69 : decode cX11_done 69 = .ok (.getfield 26, 3) := by decide +kernel
theorem dX11_done_72 : decode cX11_done 72 = .ok (.aload_n 0, 1) := by decide +kernel
theorem dX11_done_73 : decode cX11_done 73 = .ok (.getfield 19, 3) := by decide +kernel
theorem dX11_done_76 : decode cX11_done 76 = .ok (.invokevirtual 184, 3) := by decide +kernel
theorem dX11_done_79 : decode cX11_done 79 = .ok (.aload_n 0, 1) := by decide +kernel
theorem dX11_done_80 : decode cX11_done 80 = .ok (.getfield 19, 3) := by decide +kernel
theorem dX11_done_83 : decode cX11_done 83 = .ok (.iload_n 1, 1) := by decide +kernel
theorem dX11_done_84 : decode cX11_done 84 = .ok (.iload_n 2, 1) := by decide +kernel
theorem dX11_done_85 : decode cX11_done 85 = .ok (.invokevirtual 196, 3) := by decide +kernel
theorem dX11_done_88 : decode cX11_done 88 = .ok (.aload_n 0, 1) := by decide +kernel
theorem dX11_done_89 : decode cX11_done 89 = .ok (.getfield 79, 3) := by decide +kernel
theorem dX11_done_92 : decode cX11_done 92 = .ok (.iload_n 2, 1) := by decide +kernel
theorem dX11_done_93 : decode cX11_done 93 = .ok (.invokevirtual 169, 3) := by decide +kernel
theorem dX11_done_96 : decode cX11_done 96 = .ok (.ireturn, 1) := by decide +kernel
theorem dX11_loan_0 : decode cX11_loan 0 = .ok (.iload_n 1, 1) := by decide +kernel
theorem dX11_loan_1 : decode cX11_loan 1 = .ok (.iconst 1, 1) := by decide +kernel
theorem dX11_loan_2 : decode cX11_loan 2 = .ok (.if_icmp .lt 9, 3) := by decide +kernel
theorem dX11_loan_5 : decode cX11_loan 5 = .ok (.iload_n 1, 1) := by decide +kernel
theorem dX11_loan_6 : decode cX11_loan 6 = .ok (.bipush 99, 2) := by decide +kernel
theorem dX11_loan_8 : decode cX11_loan 8 = .ok (.if_icmp .le 6, 3) := by decide +kernel
theorem dX11_loan_11 : decode cX11_loan 11 = .ok (.bipush (-2), 2) := by decide +kernel
theorem dX11_loan_13 : decode cX11_loan 13 = .ok (.ireturn, 1) := by decide +kernel
theorem dX11_loan_14 : decode cX11_loan 14 = .ok (.iload_n 2, 1) := by decide +kernel
theorem dX11_loan_15 : decode cX11_loan 15 = .ok (.ifCond .ne 17, 3) := by decide +kernel
theorem dX11_loan_18 : decode cX11_loan 18 = .ok (.iload_n 1, 1) := by decide +kernel
theorem dX11_loan_19 : decode cX11_loan 19 = .ok (.aload_n 0, 1) := by decide +kernel
theorem dX11_loan_20 : decode cX11_loan 20 = .ok (.getfield 19, 3) := by decide +kernel
theorem dX11_loan_23 : decode cX11_loan 23 = .ok (.getfield 127, 3) := by decide +kernel
theorem dX11_loan_26 : decode cX11_loan 26 = .ok (.if_icmp .le 6, 3) := by decide +kernel
theorem dX11_loan_29 : decode cX11_loan 29 = .ok (.bipush (-3), 2) := by decide +kernel
theorem dX11_loan_31 : decode cX11_loan 31 = .ok (.ireturn, 1) := by decide +kernel
theorem dX11_loan_32 : decode cX11_loan 32 = .ok (.aload_n 0, 1) := by decide +kernel
theorem dX11_loan_33 : decode cX11_loan 33 = .ok (.getfield 19, 3) := by decide +kernel
theorem dX11_loan_36 : decode cX11_loan 36 = .ok (.getfield 140, 3) := by decide +kernel
theorem dX11_loan_39 : decode cX11_loan 39 = .ok (.bipush 8, 2) := by decide +kernel
theorem dX11_loan_41 : decode cX11_loan 41 = .ok (.if_icmp .lt 6, 3) := by decide +kernel
theorem dX11_loan_44 : decode cX11_loan 44 = .ok (.bipush (-4), 2) := by decide +kernel
theorem dX11_loan_46 : decode cX11_loan 46 = .ok (.ireturn, 1) := by decide +kernel
theorem dX11_loan_47 : decode cX11_loan 47 = .ok (.aload_n 0, 1) := by decide +kernel
theorem dX11_loan_48 : decode cX11_loan 48 = .ok (.getfield 26, 3) := by decide +kernel
theorem dX11_loan_51 : decode cX11_loan 51 = .ok (.aload_n 0, 1) := by decide +kernel
theorem dX11_loan_52 : decode cX11_loan 52 = .ok (.getfield 19, 3) := by decide +kernel
theorem dX11_loan_55 : decode cX11_loan 55 = .ok (.invokevirtual 184, 3) := by decide +kernel
theorem dX11_loan_58 : decode cX11_loan 58 = .ok (.aload_n 0, 1) := by decide +kernel
theorem dX11_loan_59 : decode cX11_loan 59 = .ok (.getfield 19, 3) := by decide +kernel
theorem dX11_loan_62 : decode cX11_loan 62 = .ok (.iload_n 2, 1) := by decide +kernel
theorem dX11_loan_63 : decode cX11_loan 63 = .ok (.ifCond .eq 8, 3) := by decide +kernel
theorem dX11_loan_66 : decode cX11_loan 66 = .ok (.iload_n 1, 1) := by decide +kernel
theorem dX11_loan_67 : decode cX11_loan 67 = .ok (.ineg, 1) := by decide +kernel
theorem dX11_loan_68 : decode cX11_loan 68 = .ok (.goto 4, 3) := by decide +kernel
theorem dX11_loan_71 : decode cX11_loan 71 = .ok (.iload_n 1, 1) := by decide +kernel
theorem dX11_loan_72 : decode cX11_loan 72 = .ok (.invokevirtual 199, 3) := by decide +kernel
theorem dX11_loan_75 : decode cX11_loan 75 = .ok (.aload_n 0, 1) := by decide +kernel
theorem dX11_loan_76 : decode cX11_loan 76 = .ok (.getfield 19, 3) := by decide +kernel
theorem dX11_loan_79 : decode cX11_loan 79 = .ok (.getfield 127, 3) := by decide +kernel
theorem dX11_loan_82 : decode cX11_loan 82 = .ok (.ireturn, 1) := by decide +kernel
theorem dX11_back_0 : decode cX11_back 0 = .ok (.aload_n 0, 1) := by decide +kernel
theorem dX11_back_1 : decode cX11_back 1 = .ok (.getfield 19, 3) := by decide +kernel
theorem dX11_back_4 : decode cX11_back 4 = .ok (.getfield 140, 3) := by decide +kernel
theorem dX11_back_7 : decode cX11_back 7 = .ok (.iconst 1, 1) := by decide +kernel
theorem dX11_back_8 : decode cX11_back 8 = .ok (.if_icmp .lt 21, 3) := by decide +kernel
theorem dX11_back_11 : decode cX11_back 11 = .ok (.aload_n 0, 1) := by decide +kernel
theorem dX11_back_12 : decode cX11_back 12 = .ok (.getfield 19, 3) := by decide +kernel
theorem dX11_back_15 : decode cX11_back 15 = .ok (.getfield 127, 3) := by decide +kernel
theorem dX11_back_18 : decode cX11_back 18 = .ok (.aload_n 0, 1) := by decide +kernel
theorem dX11_back_19 : decode cX11_back 19 = .ok (.getfield 19, 3) := by decide +kernel
theorem dX11_back_22 : decode cX11_back 22 = .ok (.invokevirtual 202, 3) := by decide +kernel
theorem dX11_back_25 : decode cX11_back 25 = .ok (.iadd, 1) := by decide +kernel
theorem dX11_back_26 : decode cX11_back 26 = .ok (.ifCond .ge 6, 3) := by decide +kernel
theorem dX11_back_29 : decode cX11_back 29 = .ok (.bipush (-3), 2) := by decide +kernel
theorem dX11_back_31 : decode cX11_back 31 = .ok (.ireturn, 1) := by decide +kernel
theorem dX11_back_32 : decode cX11_back 32 = .ok (.aload_n 0, 1) := by decide +kernel
theorem dX11_back_33 : decode cX11_back 33 = .ok (.getfield 26, 3) := by decide +kernel
theorem dX11_back_36 : decode cX11_back 36 = .ok (.aload_n 0, 1) := by decide +kernel
theorem dX11_back_37 : decode cX11_back 37 = .ok (.getfield 19, 3) := by decide +kernel
theorem dX11_back_40 : decode cX11_back 40 = .ok (.invokevirtual 184, 3) := by decide +kernel
theorem dX11_back_43 : decode cX11_back 43 = .ok (.aload_n 0, 1) := by decide +kernel
theorem dX11_back_44 : decode cX11_back 44 = .ok (.getfield 19, 3) := by decide +kernel
theorem dX11_back_47 : decode cX11_back 47 = .ok (.invokevirtual 205, 3) := by decide +kernel
theorem dX11_back_50 : decode cX11_back 50 = .ok (.aload_n 0, 1) := by decide +kernel
theorem dX11_back_51 : decode cX11_back 51 = .ok (.getfield 19, 3) := by decide +kernel
theorem dX11_back_54 : decode cX11_back 54 = .ok (.getfield 127, 3) := by decide +kernel
theorem dX11_back_57 : decode cX11_back 57 = .ok (.ireturn, 1) := by decide +kernel
theorem dX11_undo_0 : decode cX11_undo 0 = .ok (.aload_n 0, 1) := by decide +kernel
theorem dX11_undo_1 : decode cX11_undo 1 = .ok (.getfield 26, 3) := by decide +kernel
theorem dX11_undo_4 : decode cX11_undo 4 = .ok (.getfield 137, 3) := by decide +kernel
theorem dX11_undo_7 : decode cX11_undo 7 = .ok (.iconst 1, 1) := by decide +kernel
theorem dX11_undo_8 : decode cX11_undo 8 = .ok (.if_icmp .ge 6, 3) := by decide +kernel
theorem dX11_undo_11 : decode cX11_undo 11 = .ok (.bipush (-3), 2) := by decide +kernel
theorem dX11_undo_13 : decode cX11_undo 13 = .ok (.ireturn, 1) := by decide +kernel
theorem dX11_undo_14 : decode cX11_undo 14 = .ok (.aload_n 0, 1) := by decide +kernel
theorem dX11_undo_15 : decode cX11_undo 15 = .ok (.getfield 26, 3) := by decide +kernel
theorem dX11_undo_18 : decode cX11_undo 18 = .ok (.aload_n 0, 1) := by decide +kernel
theorem dX11_undo_19 : decode cX11_undo 19 = .ok (.getfield 19, 3) := by decide +kernel
theorem dX11_undo_22 : decode cX11_undo 22 = .ok (.invokevirtual 208, 3) := by decide +kernel
theorem dX11_undo_25 : decode cX11_undo 25 = .ok (.aload_n 0, 1) := by decide +kernel
theorem dX11_undo_26 : decode cX11_undo 26 = .ok (.getfield 26, 3) := by decide +kernel
theorem dX11_undo_29 : decode cX11_undo 29 = .ok (.getfield 137, 3) := by decide +kernel
theorem dX11_undo_32 : decode cX11_undo 32 = .ok (.ireturn, 1) := by decide +kernel
theorem dX11_judge_0 : decode cX11_judge 0 = .ok (.iload_n 1, 1) := by decide +kernel
theorem dX11_judge_1 : decode cX11_judge 1 = .ok (.invokestatic 146, 3) := by decide +kernel
theorem dX11_judge_4 : decode cX11_judge 4 = .ok (.ifCond .ne 5, 3) := by decide +kernel
theorem dX11_judge_7 : decode cX11_judge 7 = .ok (.iconst (-1), 1) := by decide +kernel
theorem dX11_judge_8 : decode cX11_judge 8 = .ok (.ireturn, 1) := by decide +kernel
theorem dX11_judge_9 : decode cX11_judge 9 = .ok (.iload_n 2, 1) := by decide +kernel
theorem dX11_judge_10 : decode cX11_judge 10 = .ok (.iconst 1, 1) := by decide +kernel
theorem dX11_judge_11 : decode cX11_judge 11 = .ok (.if_icmp .lt 13, 3) := by decide +kernel
theorem dX11_judge_14 : decode cX11_judge 14 = .ok (.iload_n 2, 1) := by decide +kernel
theorem dX11_judge_15 : decode cX11_judge 15 = .ok (.bipush 8, 2) := by decide +kernel
theorem dX11_judge_17 : decode cX11_judge 17 = .ok (.if_icmp .gt 7, 3) := by decide +kernel
theorem dX11_judge_20 : decode cX11_judge 20 = .ok (.iload_n 3, 1) := by decide +kernel
theorem dX11_judge_21 : decode cX11_judge 21 = .ok (.ifCond .ge 6, 3) := by decide +kernel
theorem dX11_judge_24 : decode cX11_judge 24 = .ok (.bipush (-2), 2) := by decide +kernel
theorem dX11_judge_26 : decode cX11_judge 26 = .ok (.ireturn, 1) := by decide +kernel
theorem dX11_judge_27 : decode cX11_judge 27 = .ok (.aload_n 0, 1) := by decide +kernel
theorem dX11_judge_28 : decode cX11_judge 28 = .ok (.iload_n 3, 1) := by decide +kernel
theorem dX11_judge_29 : decode cX11_judge 29 = .ok (.iload_n 2, 1) := by decide +kernel
theorem dX11_judge_30 : decode cX11_judge 30 = .ok (.invokevirtual 211, 3) := by decide +kernel
theorem dX11_judge_33 : decode cX11_judge 33 = .ok (.ifCond .ne 6, 3) := by decide +kernel
theorem dX11_judge_36 : decode cX11_judge 36 = .ok (.bipush (-2), 2) := by decide +kernel
theorem dX11_judge_38 : decode cX11_judge 38 = .ok (.ireturn, 1) := by decide +kernel
theorem dX11_judge_39 : decode cX11_judge 39 = .ok (.aload_n 0, 1) := by decide +kernel
theorem dX11_judge_40 : decode cX11_judge 40 = .ok (.getfield 19, 3) := by decide +kernel
theorem dX11_judge_43 : decode cX11_judge 43 = .ok (.iload_n 1, 1) := by decide +kernel
theorem dX11_judge_44 : decode cX11_judge 44 = .ok (.invokevirtual 150, 3) := by decide +kernel
theorem dX11_judge_47 : decode cX11_judge 47 = .ok (.istore 4, 2) := by decide +kernel
theorem dX11_judge_49 : decode cX11_judge 49 = .ok (.aload_n 0, 1) := by decide +kernel
theorem dX11_judge_50 : decode cX11_judge 50 = .ok (.getfield 19, 3) := by decide +kernel
theorem dX11_judge_53 : decode cX11_judge 53 = .ok (.getfield 127, 3) := by decide +kernel
theorem dX11_judge_56 : decode cX11_judge 56 = .ok (.istore 5, 2) := by decide +kernel
theorem dX11_judge_58 : decode cX11_judge 58 = .ok (.iconst 0, 1) := by decide +kernel
theorem dX11_judge_59 : decode cX11_judge 59 = .ok (.istore 6, 2) := by decide +kernel
theorem dX11_judge_61 : decode cX11_judge 61 = .ok (.iload 6, 2) := by decide +kernel
theorem dX11_judge_63 : decode cX11_judge 63 = .ok (.iload_n 2, 1) := by decide +kernel
theorem dX11_judge_64 : decode cX11_judge 64 = .ok (.if_icmp .ge 50, 3) := by decide +kernel
theorem dX11_judge_67 : decode cX11_judge 67 = .ok (.aload_n 0, 1) := by decide +kernel
theorem dX11_judge_68 : decode cX11_judge 68 = .ok (.iload 4, 2) := by decide +kernel
theorem dX11_judge_70 : decode cX11_judge 70 = .ok (.aload_n 0, 1) := by decide +kernel
theorem dX11_judge_71 : decode cX11_judge 71 = .ok (.getfield 72, 3) := by decide +kernel
theorem dX11_judge_74 : decode cX11_judge 74 = .ok (.iload 6, 2) := by decide +kernel
theorem dX11_judge_76 : decode cX11_judge 76 = .ok (.iaload, 1) := by decide +kernel
theorem dX11_judge_77 : decode cX11_judge 77 = .ok (.invokevirtual 181, 3) := by decide +kernel
theorem dX11_judge_80 : decode cX11_judge 80 = .ok (.istore 7, 2) := by decide +kernel
theorem dX11_judge_82 : decode cX11_judge 82 = .ok (.iload 7, 2) := by decide +kernel
theorem dX11_judge_84 : decode cX11_judge 84 = .ok (.iload 5, 2) := by decide +kernel
theorem dX11_judge_86 : decode cX11_judge 86 = .ok (.if_icmp .le 6, 3) := by decide +kernel
theorem dX11_judge_89 : decode cX11_judge 89 = .ok (.iload 6, 2) := by decide +kernel
theorem dX11_judge_91 : decode cX11_judge 91 = .ok (.ireturn, 1) := by decide +kernel
theorem dX11_judge_92 : decode cX11_judge 92 = .ok (.iload 5, 2) := by decide +kernel
theorem dX11_judge_94 : decode cX11_judge 94 = .ok (.iload 7, 2) := by decide +kernel
theorem dX11_judge_96 : decode cX11_judge 96 = .ok (.isub, 1) := by decide +kernel
theorem dX11_judge_97 : decode cX11_judge 97 = .ok (.istore 5, 2) := by decide +kernel
theorem dX11_judge_99 : decode cX11_judge 99 = .ok (.aload_n 0, 1) := by decide +kernel
theorem dX11_judge_100 : decode cX11_judge 100 = .ok (.getfield 72, 3) := by decide +kernel
theorem dX11_judge_103 : decode cX11_judge 103 = .ok (.iload 6, 2) := by decide +kernel
theorem dX11_judge_105 : decode cX11_judge 105 = .ok (.iaload, 1) := by decide +kernel
theorem dX11_judge_106 : decode cX11_judge 106 = .ok (.istore 4, 2) := by decide +kernel
theorem dX11_judge_108 : decode cX11_judge 108 = .ok (.iinc 6 1, 3) := by decide +kernel
theorem dX11_judge_111 : decode cX11_judge 111 = .ok (.goto (-50), 3) := by decide +kernel
theorem dX11_judge_114 : decode cX11_judge 114 = .ok (.bipush (-9), 2) := by decide +kernel
theorem dX11_judge_116 : decode cX11_judge 116 = .ok (.ireturn, 1) := by decide +kernel
theorem dX11_tour_0 : decode cX11_tour 0 = .ok (.iload_n 1, 1) := by decide +kernel
theorem dX11_tour_1 : decode cX11_tour 1 = .ok (.invokestatic 146, 3) := by decide +kernel
theorem dX11_tour_4 : decode cX11_tour 4 = .ok (.ifCond .ne 5, 3) := by decide +kernel
theorem dX11_tour_7 : decode cX11_tour 7 = .ok (.iconst (-1), 1) := by decide +kernel
theorem dX11_tour_8 : decode cX11_tour 8 = .ok (.ireturn, 1) := by decide +kernel
theorem dX11_tour_9 : decode cX11_tour 9 = .ok (.iload_n 2, 1) := by decide +kernel
theorem dX11_tour_10 : decode cX11_tour 10 = .ok (.ifCond .lt 14, 3) := by decide +kernel
theorem dX11_tour_13 : decode cX11_tour 13 = .ok (.iload_n 2, 1) := by decide +kernel
theorem dX11_tour_14 : decode cX11_tour 14 = .ok (.aload_n 0, 1) := by decide +kernel
theorem dX11_tour_15 : decode cX11_tour 15 = .ok (.getfield 79, 3) := by decide +kernel
theorem dX11_tour_18 : decode cX11_tour 18 = .ok (.invokevirtual 214, 3) := by decide +kernel
theorem dX11_tour_21 : decode cX11_tour 21 = .ok (.if_icmp .le 6, 3) := by decide +kernel
theorem dX11_tour_24 : decode cX11_tour 24 = .ok (.bipush (-2), 2) := by decide +kernel
theorem dX11_tour_26 : decode cX11_tour 26 = .ok (.ireturn, 1) := by decide +kernel
theorem dX11_tour_27 : decode cX11_tour 27 = .ok (.iload_n 2, 1) := by decide +kernel
theorem dX11_tour_28 : decode cX11_tour 28 = .ok (.aload_n 0, 1) := by decide +kernel
theorem dX11_tour_29 : decode cX11_tour 29 = .ok (.iload_n 1, 1) := by decide +kernel
theorem dX11_tour_30 : decode cX11_tour 30 = .ok (.invokevirtual 217, 3) := by decide +kernel
theorem dX11_tour_33 : decode cX11_tour 33 = .ok (.iconst (-1), 1) := by decide +kernel
theorem dX11_tour_34 : decode cX11_tour 34 = .ok (.ixor, 1) := by decide +kernel
theorem dX11_tour_35 : decode cX11_tour 35 = .ok (.iand, 1) := by decide +kernel
theorem dX11_tour_36 : decode cX11_tour 36 = .ok (.ifCond .eq 6, 3) := by decide +kernel
theorem dX11_tour_39 : decode cX11_tour 39 = .ok (.bipush (-3), 2) := by decide +kernel
theorem dX11_tour_41 : decode cX11_tour 41 = .ok (.ireturn, 1) := by decide +kernel
theorem dX11_tour_42 : decode cX11_tour 42 = .ok (.aload_n 0, 1) := by decide +kernel
theorem dX11_tour_43 : decode cX11_tour 43 = .ok (.getfield 40, 3) := by decide +kernel
theorem dX11_tour_46 : decode cX11_tour 46 = .ok (.aload_n 0, 1) := by decide +kernel
theorem dX11_tour_47 : decode cX11_tour 47 = .ok (.getfield 79, 3) := by decide +kernel
theorem dX11_tour_50 : decode cX11_tour 50 = .ok (.aload_n 0, 1) := by decide +kernel
theorem dX11_tour_51 : decode cX11_tour 51 = .ok (.getfield 19, 3) := by decide +kernel
theorem dX11_tour_54 : decode cX11_tour 54 = .ok (.iload_n 1, 1) := by decide +kernel
theorem dX11_tour_55 : decode cX11_tour 55 = .ok (.invokevirtual 150, 3) := by decide +kernel
theorem dX11_tour_58 : decode cX11_tour 58 = .ok (.iconst 0, 1) := by decide +kernel
theorem dX11_tour_59 : decode cX11_tour 59 = .ok (.invokevirtual 220, 3) := by decide +kernel
theorem dX11_tour_62 : decode cX11_tour 62 = .ok (.aload_n 0, 1) := by decide +kernel
theorem dX11_tour_63 : decode cX11_tour 63 = .ok (.getfield 40, 3) := by decide +kernel
theorem dX11_tour_66 : decode cX11_tour 66 = .ok (.aload_n 0, 1) := by decide +kernel
theorem dX11_tour_67 : decode cX11_tour 67 = .ok (.getfield 79, 3) := by decide +kernel
theorem dX11_tour_70 : decode cX11_tour 70 = .ok (.iload_n 2, 1) := by decide +kernel
theorem dX11_tour_71 : decode cX11_tour 71 = .ok (.invokevirtual 223, 3) := by decide +kernel
theorem dX11_tour_74 : decode cX11_tour 74 = .ok (.invokevirtual 226, 3) := by decide +kernel
theorem dX11_tour_77 : decode cX11_tour 77 = .ok (.invokestatic 160, 3) := by decide +kernel
theorem dX11_tour_80 : decode cX11_tour 80 = .ok (.ireturn, 1) := by decide +kernel
theorem dX11_plan_0 : decode cX11_plan 0 = .ok (.iload_n 1, 1) := by decide +kernel
theorem dX11_plan_1 : decode cX11_plan 1 = .ok (.ifCond .lt 8, 3) := by decide +kernel
theorem dX11_plan_4 : decode cX11_plan 4 = .ok (.iload_n 1, 1) := by decide +kernel
theorem dX11_plan_5 : decode cX11_plan 5 = .ok (.iconst 3, 1) := by decide +kernel
theorem dX11_plan_6 : decode cX11_plan 6 = .ok (.if_icmp .le 6, 3) := by decide +kernel
theorem dX11_plan_9 : decode cX11_plan 9 = .ok (.bipush (-2), 2) := by decide +kernel
theorem dX11_plan_11 : decode cX11_plan 11 = .ok (.ireturn, 1) := by decide +kernel
theorem dX11_plan_12 : decode cX11_plan 12 = .ok (.aload_n 0, 1) := by decide +kernel
theorem dX11_plan_13 : decode cX11_plan 13 = .ok (.getfield 47, 3) := by decide +kernel
theorem dX11_plan_16 : decode cX11_plan 16 = .ok (.aload_n 0, 1) := by decide +kernel
theorem dX11_plan_17 : decode cX11_plan 17 = .ok (.iconst 0, 1) := by decide +kernel
theorem dX11_plan_18 : decode cX11_plan 18 = .ok (.invokevirtual 217, 3) := by decide +kernel
theorem dX11_plan_21 : decode cX11_plan 21 = .ok (.aload_n 0, 1) := by decide +kernel
theorem dX11_plan_22 : decode cX11_plan 22 = .ok (.iconst 1, 1) := by decide +kernel
theorem dX11_plan_23 : decode cX11_plan 23 = .ok (.invokevirtual 217, 3) := by decide +kernel
theorem dX11_plan_26 : decode cX11_plan 26 = .ok (.invokevirtual 229, 3) := by decide +kernel
theorem dX11_plan_29 : decode cX11_plan 29 = .ok (.aload_n 0, 1) := by decide +kernel
theorem dX11_plan_30 : decode cX11_plan 30 = .ok (.getfield 47, 3) := by decide +kernel
theorem dX11_plan_33 : decode cX11_plan 33 = .ok (.aload_n 0, 1) := by decide +kernel
theorem dX11_plan_34 : decode cX11_plan 34 = .ok (.getfield 79, 3) := by decide +kernel
theorem dX11_plan_37 : decode cX11_plan 37 = .ok (.aload_n 0, 1) := by decide +kernel
theorem dX11_plan_38 : decode cX11_plan 38 = .ok (.getfield 19, 3) := by decide +kernel
theorem dX11_plan_41 : decode cX11_plan 41 = .ok (.iconst 0, 1) := by decide +kernel
theorem dX11_plan_42 : decode cX11_plan 42 = .ok (.invokevirtual 150, 3) := by decide +kernel
theorem dX11_plan_45 : decode cX11_plan 45 = .ok (.aload_n 0, 1) := by decide +kernel
theorem dX11_plan_46 : decode cX11_plan 46 = .ok (.getfield 19, 3) := by decide +kernel
theorem dX11_plan_49 : decode cX11_plan 49 = .ok (.iconst 1, 1) := by decide +kernel
theorem dX11_plan_50 : decode cX11_plan 50 = .ok (.invokevirtual 150, 3) := by decide +kernel
theorem dX11_plan_53 : decode cX11_plan 53 = .ok (.iconst 0, 1) := by decide +kernel
theorem dX11_plan_54 : decode cX11_plan 54 = .ok (.aload_n 0, 1) := by decide +kernel
theorem dX11_plan_55 : decode cX11_plan 55 = .ok (.getfield 19, 3) := by decide +kernel
theorem dX11_plan_58 : decode cX11_plan 58 = .ok (.getfield 127, 3) := by decide +kernel
theorem dX11_plan_61 : decode cX11_plan 61 = .ok (.invokevirtual 232, 3) := by decide +kernel
theorem dX11_plan_64 : decode cX11_plan 64 = .ok (.aload_n 0, 1) := by decide +kernel
theorem dX11_plan_65 : decode cX11_plan 65 = .ok (.getfield 47, 3) := by decide +kernel
theorem dX11_plan_68 : decode cX11_plan 68 = .ok (.getfield 236, 3) := by decide +kernel
theorem dX11_plan_71 : decode cX11_plan 71 = .ok (.ifCond .ne 6, 3) := by decide +kernel
theorem dX11_plan_74 : decode cX11_plan 74 = .ok (.bipush (-9), 2) := by decide +kernel
theorem dX11_plan_76 : decode cX11_plan 76 = .ok (.ireturn, 1) := by decide +kernel
theorem dX11_plan_77 : decode cX11_plan 77 = .ok (.iload_n 1, 1) := by decide +kernel
theorem dX11_plan_78 : decode cX11_plan 78 = .ok (.tableswitch 50 0 2 #[26, 34, 42], 26) := by decide +kernel
theorem dX11_plan_104 : decode cX11_plan 104 = .ok (.aload_n 0, 1) := by decide +kernel
theorem dX11_plan_105 : decode cX11_plan 105 = .ok (.getfield 47, 3) := by decide +kernel
theorem dX11_plan_108 : decode cX11_plan 108 = .ok (.getfield 240, 3) := by decide +kernel
theorem dX11_plan_111 : decode cX11_plan 111 = .ok (.ireturn, 1) := by decide +kernel
theorem dX11_plan_112 : decode cX11_plan 112 = .ok (.aload_n 0, 1) := by decide +kernel
theorem dX11_plan_113 : decode cX11_plan 113 = .ok (.getfield 47, 3) := by decide +kernel
theorem dX11_plan_116 : decode cX11_plan 116 = .ok (.getfield 243, 3) := by decide +kernel
theorem dX11_plan_119 : decode cX11_plan 119 = .ok (.ireturn, 1) := by decide +kernel
theorem dX11_plan_120 : decode cX11_plan 120 = .ok (.aload_n 0, 1) := by decide +kernel
theorem dX11_plan_121 : decode cX11_plan 121 = .ok (.getfield 47, 3) := by decide +kernel
theorem dX11_plan_124 : decode cX11_plan 124 = .ok (.getfield 244, 3) := by decide +kernel
theorem dX11_plan_127 : decode cX11_plan 127 = .ok (.ireturn, 1) := by decide +kernel
theorem dX11_plan_128 : decode cX11_plan 128 = .ok (.aload_n 0, 1) := by decide +kernel
theorem dX11_plan_129 : decode cX11_plan 129 = .ok (.getfield 47, 3) := by decide +kernel
theorem dX11_plan_132 : decode cX11_plan 132 = .ok (.getfield 247, 3) := by decide +kernel
theorem dX11_plan_135 : decode cX11_plan 135 = .ok (.ireturn, 1) := by decide +kernel
theorem dX11_live_0 : decode cX11_live 0 = .ok (.iconst 0, 1) := by decide +kernel
theorem dX11_live_1 : decode cX11_live 1 = .ok (.istore_n 1, 1) := by decide +kernel
theorem dX11_live_2 : decode cX11_live 2 = .ok (.iconst (-1), 1) := by decide +kernel
theorem dX11_live_3 : decode cX11_live 3 = .ok (.istore_n 2, 1) := by decide +kernel
theorem dX11_live_4 : decode cX11_live 4 = .ok (.aload_n 0, 1) := by decide +kernel
theorem dX11_live_5 : decode cX11_live 5 = .ok (.getfield 47, 3) := by decide +kernel
theorem dX11_live_8 : decode cX11_live 8 = .ok (.aload_n 0, 1) := by decide +kernel
theorem dX11_live_9 : decode cX11_live 9 = .ok (.getfield 79, 3) := by decide +kernel
theorem dX11_live_12 : decode cX11_live 12 = .ok (.iconst 0, 1) := by decide +kernel
theorem dX11_live_13 : decode cX11_live 13 = .ok (.invokevirtual 250, 3) := by decide +kernel
theorem dX11_live_16 : decode cX11_live 16 = .ok (.aload_n 0, 1) := by decide +kernel
theorem dX11_live_17 : decode cX11_live 17 = .ok (.getfield 79, 3) := by decide +kernel
theorem dX11_live_20 : decode cX11_live 20 = .ok (.iconst 1, 1) := by decide +kernel
theorem dX11_live_21 : decode cX11_live 21 = .ok (.invokevirtual 250, 3) := by decide +kernel
theorem dX11_live_24 : decode cX11_live 24 = .ok (.invokevirtual 229, 3) := by decide +kernel
theorem dX11_live_27 : decode cX11_live 27 = .ok (.iconst 0, 1) := by decide +kernel
theorem dX11_live_28 : decode cX11_live 28 = .ok (.istore_n 3, 1) := by decide +kernel
theorem dX11_live_29 : decode cX11_live 29 = .ok (.iload_n 3, 1) := by decide +kernel
theorem dX11_live_30 : decode cX11_live 30 = .ok (.aload_n 0, 1) := by decide +kernel
theorem dX11_live_31 : decode cX11_live 31 = .ok (.getfield 79, 3) := by decide +kernel
theorem dX11_live_34 : decode cX11_live 34 = .ok (.getfield 118, 3) := by decide +kernel
theorem dX11_live_37 : decode cX11_live 37 = .ok (.if_icmp .ge 61, 3) := by decide +kernel
theorem dX11_live_40 : decode cX11_live 40 = .ok (.aload_n 0, 1) := by decide +kernel
theorem dX11_live_41 : decode cX11_live 41 = .ok (.getfield 47, 3) := by decide +kernel
theorem dX11_live_44 : decode cX11_live 44 = .ok (.aload_n 0, 1) := by decide +kernel
theorem dX11_live_45 : decode cX11_live 45 = .ok (.getfield 79, 3) := by decide +kernel
theorem dX11_live_48 : decode cX11_live 48 = .ok (.iload_n 3, 1) := by decide +kernel
theorem dX11_live_49 : decode cX11_live 49 = .ok (.iload_n 3, 1) := by decide +kernel
theorem dX11_live_50 : decode cX11_live 50 = .ok (.iload_n 3, 1) := by decide +kernel
theorem dX11_live_51 : decode cX11_live 51 = .ok (.aload_n 0, 1) := by decide +kernel
theorem dX11_live_52 : decode cX11_live 52 = .ok (.getfield 79, 3) := by decide +kernel
theorem dX11_live_55 : decode cX11_live 55 = .ok (.getfield 106, 3) := by decide +kernel
theorem dX11_live_58 : decode cX11_live 58 = .ok (.invokevirtual 232, 3) := by decide +kernel
theorem dX11_live_61 : decode cX11_live 61 = .ok (.aload_n 0, 1) := by decide +kernel
theorem dX11_live_62 : decode cX11_live 62 = .ok (.getfield 47, 3) := by decide +kernel
theorem dX11_live_65 : decode cX11_live 65 = .ok (.getfield 236, 3) := by decide +kernel
theorem dX11_live_68 : decode cX11_live 68 = .ok (.ifCond .eq 24, 3) := by decide +kernel
theorem dX11_live_71 : decode cX11_live 71 = .ok (.aload_n 0, 1) := by decide +kernel
theorem dX11_live_72 : decode cX11_live 72 = .ok (.getfield 47, 3) := by decide +kernel
theorem dX11_live_75 : decode cX11_live 75 = .ok (.getfield 240, 3) := by decide +kernel
theorem dX11_live_78 : decode cX11_live 78 = .ok (.iload_n 2, 1) := by decide +kernel
theorem dX11_live_79 : decode cX11_live 79 = .ok (.if_icmp .le 13, 3) := by decide +kernel
theorem dX11_live_82 : decode cX11_live 82 = .ok (.aload_n 0, 1) := by decide +kernel
theorem dX11_live_83 : decode cX11_live 83 = .ok (.getfield 47, 3) := by decide +kernel
theorem dX11_live_86 : decode cX11_live 86 = .ok (.getfield 240, 3) := by decide +kernel
theorem dX11_live_89 : decode cX11_live 89 = .ok (.istore_n 2, 1) := by decide +kernel
theorem dX11_live_90 : decode cX11_live 90 = .ok (.iload_n 3, 1) := by decide +kernel
theorem dX11_live_91 : decode cX11_live 91 = .ok (.istore_n 1, 1) := by decide +kernel
theorem dX11_live_92 : decode cX11_live 92 = .ok (.iinc 3 1, 3) := by decide +kernel
theorem dX11_live_95 : decode cX11_live 95 = .ok (.goto (-66), 3) := by decide +kernel
theorem dX11_live_98 : decode cX11_live 98 = .ok (.iload_n 1, 1) := by decide +kernel
theorem dX11_live_99 : decode cX11_live 99 = .ok (.ireturn, 1) := by decide +kernel
theorem dX11_byTurns_0 : decode cX11_byTurns 0 = .ok (.iload_n 1, 1) := by decide +kernel
theorem dX11_byTurns_1 : decode cX11_byTurns 1 = .ok (.invokestatic 146, 3) := by decide +kernel
theorem dX11_byTurns_4 : decode cX11_byTurns 4 = .ok (.ifCond .ne 5, 3) := by decide +kernel
theorem dX11_byTurns_7 : decode cX11_byTurns 7 = .ok (.iconst (-1), 1) := by decide +kernel
theorem dX11_byTurns_8 : decode cX11_byTurns 8 = .ok (.ireturn, 1) := by decide +kernel
theorem dX11_byTurns_9 : decode cX11_byTurns 9 = .ok (.aload_n 0, 1) := by decide +kernel
theorem dX11_byTurns_10 : decode cX11_byTurns 10 = .ok (.getfield 79, 3) := by decide +kernel
theorem dX11_byTurns_13 : decode cX11_byTurns 13 = .ok (.invokevirtual 214, 3) := by decide +kernel
theorem dX11_byTurns_16 : decode cX11_byTurns 16 = .ok (.aload_n 0, 1) := by decide +kernel
theorem dX11_byTurns_17 : decode cX11_byTurns 17 = .ok (.getfield 19, 3) := by decide +kernel
theorem dX11_byTurns_20 : decode cX11_byTurns 20 = .ok (.getfield 130, 3) := by decide +kernel
theorem dX11_byTurns_23 : decode cX11_byTurns 23 = .ok (.iconst (-1), 1) := by decide +kernel
theorem dX11_byTurns_24 : decode cX11_byTurns 24 = .ok (.ixor, 1) := by decide +kernel
theorem dX11_byTurns_25 : decode cX11_byTurns 25 = .ok (.iand, 1) := by decide +kernel
theorem dX11_byTurns_26 : decode cX11_byTurns 26 = .ok (.istore_n 2, 1) := by decide +kernel
theorem dX11_byTurns_27 : decode cX11_byTurns 27 = .ok (.iload_n 2, 1) := by decide +kernel
theorem dX11_byTurns_28 : decode cX11_byTurns 28 = .ok (.invokestatic 253, 3) := by decide +kernel
theorem dX11_byTurns_31 : decode cX11_byTurns 31 = .ok (.iconst 5, 1) := by decide +kernel
theorem dX11_byTurns_32 : decode cX11_byTurns 32 = .ok (.if_icmp .le 6, 3) := by decide +kernel
theorem dX11_byTurns_35 : decode cX11_byTurns 35 = .ok (.bipush (-3), 2) := by decide +kernel
theorem dX11_byTurns_37 : decode cX11_byTurns 37 = .ok (.ireturn, 1) := by decide +kernel
theorem dX11_byTurns_38 : decode cX11_byTurns 38 = .ok (.aload_n 0, 1) := by decide +kernel
theorem dX11_byTurns_39 : decode cX11_byTurns 39 = .ok (.getfield 19, 3) := by decide +kernel
theorem dX11_byTurns_42 : decode cX11_byTurns 42 = .ok (.iconst 0, 1) := by decide +kernel
theorem dX11_byTurns_43 : decode cX11_byTurns 43 = .ok (.invokevirtual 150, 3) := by decide +kernel
theorem dX11_byTurns_46 : decode cX11_byTurns 46 = .ok (.istore_n 3, 1) := by decide +kernel
theorem dX11_byTurns_47 : decode cX11_byTurns 47 = .ok (.aload_n 0, 1) := by decide +kernel
theorem dX11_byTurns_48 : decode cX11_byTurns 48 = .ok (.getfield 19, 3) := by decide +kernel
theorem dX11_byTurns_51 : decode cX11_byTurns 51 = .ok (.iconst 1, 1) := by decide +kernel
theorem dX11_byTurns_52 : decode cX11_byTurns 52 = .ok (.invokevirtual 150, 3) := by decide +kernel
theorem dX11_byTurns_55 : decode cX11_byTurns 55 = .ok (.istore 4, 2) := by decide +kernel
theorem dX11_byTurns_57 : decode cX11_byTurns 57 = .ok (.aload_n 0, 1) := by decide +kernel
theorem dX11_byTurns_58 : decode cX11_byTurns 58 = .ok (.getfield 54, 3) := by decide +kernel
theorem dX11_byTurns_61 : decode cX11_byTurns 61 = .ok (.aload_n 0, 1) := by decide +kernel
theorem dX11_byTurns_62 : decode cX11_byTurns 62 = .ok (.getfield 79, 3) := by decide +kernel
theorem dX11_byTurns_65 : decode cX11_byTurns 65 = .ok (.invokevirtual 258, 3) := by decide +kernel
theorem dX11_byTurns_68 : decode cX11_byTurns 68 = .ok (.aload_n 0, 1) := by decide +kernel
theorem dX11_byTurns_69 : decode cX11_byTurns 69 = .ok (.getfield 54, 3) := by decide +kernel
theorem dX11_byTurns_72 : decode cX11_byTurns 72 = .ok (.iload_n 3, 1) := by decide +kernel
theorem dX11_byTurns_73 : decode cX11_byTurns 73 = .ok (.invokevirtual 261, 3) := by decide +kernel
theorem dX11_byTurns_76 : decode cX11_byTurns 76 = .ok (.aload_n 0, 1) := by decide +kernel
theorem dX11_byTurns_77 : decode cX11_byTurns 77 = .ok (.getfield 54, 3) := by decide +kernel
theorem dX11_byTurns_80 : decode cX11_byTurns 80 = .ok (.iload 4, 2) := by decide +kernel
theorem dX11_byTurns_82 : decode cX11_byTurns 82 = .ok (.invokevirtual 261, 3) := by decide +kernel
theorem dX11_byTurns_85 : decode cX11_byTurns 85 = .ok (.iadd, 1) := by decide +kernel
theorem dX11_byTurns_86 : decode cX11_byTurns 86 = .ok (.aload_n 0, 1) := by decide +kernel
theorem dX11_byTurns_87 : decode cX11_byTurns 87 = .ok (.getfield 19, 3) := by decide +kernel
theorem dX11_byTurns_90 : decode cX11_byTurns 90 = .ok (.getfield 127, 3) := by decide +kernel
theorem dX11_byTurns_93 : decode cX11_byTurns 93 = .ok (.if_icmp .le 6, 3) := by decide +kernel
theorem dX11_byTurns_96 : decode cX11_byTurns 96 = .ok (.bipush (-9), 2) := by decide +kernel
theorem dX11_byTurns_98 : decode cX11_byTurns 98 = .ok (.ireturn, 1) := by decide +kernel
theorem dX11_byTurns_99 : decode cX11_byTurns 99 = .ok (.aload_n 0, 1) := by decide +kernel
theorem dX11_byTurns_100 : decode cX11_byTurns 100 = .ok (.getfield 54, 3) := by decide +kernel
theorem dX11_byTurns_103 : decode cX11_byTurns 103 = .ok (.iconst 0, 1) := by decide +kernel
theorem dX11_byTurns_104 : decode cX11_byTurns 104 = .ok (.iconst 0, 1) := by decide +kernel
theorem dX11_byTurns_105 : decode cX11_byTurns 105 = .ok (.iload_n 2, 1) := by decide +kernel
theorem dX11_byTurns_106 : decode cX11_byTurns 106 = .ok (.iload_n 3, 1) := by decide +kernel
theorem dX11_byTurns_107 : decode cX11_byTurns 107 = .ok (.iload 4, 2) := by decide +kernel
theorem dX11_byTurns_109 : decode cX11_byTurns 109 = .ok (.aload_n 0, 1) := by decide +kernel
theorem dX11_byTurns_110 : decode cX11_byTurns 110 = .ok (.getfield 19, 3) := by decide +kernel
theorem dX11_byTurns_113 : decode cX11_byTurns 113 = .ok (.getfield 127, 3) := by decide +kernel
theorem dX11_byTurns_116 : decode cX11_byTurns 116 = .ok (.invokestatic 264, 3) := by decide +kernel
theorem dX11_byTurns_119 : decode cX11_byTurns 119 = .ok (.istore 5, 2) := by decide +kernel
theorem dX11_byTurns_121 : decode cX11_byTurns 121 = .ok (.iload 5, 2) := by decide +kernel
theorem dX11_byTurns_123 : decode cX11_byTurns 123 = .ok (.iload_n 1, 1) := by decide +kernel
theorem dX11_byTurns_124 : decode cX11_byTurns 124 = .ok (.invokestatic 268, 3) := by decide +kernel
theorem dX11_byTurns_127 : decode cX11_byTurns 127 = .ok (.ireturn, 1) := by decide +kernel
theorem dX11_ledger_0 : decode cX11_ledger 0 = .ok (.aload_n 0, 1) := by decide +kernel
theorem dX11_ledger_1 : decode cX11_ledger 1 = .ok (.getfield 79, 3) := by decide +kernel
theorem dX11_ledger_4 : decode cX11_ledger 4 = .ok (.iload_n 1, 1) := by decide +kernel
theorem dX11_ledger_5 : decode cX11_ledger 5 = .ok (.invokevirtual 153, 3) := by decide +kernel
theorem dX11_ledger_8 : decode cX11_ledger 8 = .ok (.ifCond .ne 7, 3) := by decide +kernel
theorem dX11_ledger_11 : decode cX11_ledger 11 = .ok (.ldc2_w 271, 3) := by decide +kernel
theorem dX11_ledger_14 : decode cX11_ledger 14 = .ok (.lreturn, 1) := by decide +kernel
theorem dX11_ledger_15 : decode cX11_ledger 15 = .ok (.iload_n 2, 1) := by decide +kernel
theorem dX11_ledger_16 : decode cX11_ledger 16 = .ok (.ifCond .lt 20, 3) := by decide +kernel
theorem dX11_ledger_19 : decode cX11_ledger 19 = .ok (.iload_n 2, 1) := by decide +kernel
theorem dX11_ledger_20 : decode cX11_ledger 20 = .ok (.bipush 8, 2) := by decide +kernel
theorem dX11_ledger_22 : decode cX11_ledger 22 = .ok (.if_icmp .gt 14, 3) := by decide +kernel
theorem dX11_ledger_25 : decode cX11_ledger 25 = .ok (.iload_n 3, 1) := by decide +kernel
theorem dX11_ledger_26 : decode cX11_ledger 26 = .ok (.ifCond .lt 10, 3) := by decide +kernel
theorem dX11_ledger_29 : decode cX11_ledger 29 = .ok (.iload_n 3, 1) := by decide +kernel
theorem dX11_ledger_30 : decode cX11_ledger 30 = .ok (.sipush 999, 3) := by decide +kernel
theorem dX11_ledger_33 : decode cX11_ledger 33 = .ok (.if_icmp .le 7, 3) := by decide +kernel
theorem dX11_ledger_36 : decode cX11_ledger 36 = .ok (.ldc2_w 273, 3) := by decide +kernel
theorem dX11_ledger_39 : decode cX11_ledger 39 = .ok (.lreturn, 1) := by decide +kernel
theorem dX11_ledger_40 : decode cX11_ledger 40 = .ok (.aload_n 0, 1) := by decide +kernel
theorem dX11_ledger_41 : decode cX11_ledger 41 = .ok (.getfield 61, 3) := by decide +kernel
theorem dX11_ledger_44 : decode cX11_ledger 44 = .ok (.aload_n 0, 1) := by decide +kernel
theorem dX11_ledger_45 : decode cX11_ledger 45 = .ok (.getfield 79, 3) := by decide +kernel
theorem dX11_ledger_48 : decode cX11_ledger 48 = .ok (.iload_n 1, 1) := by decide +kernel
theorem dX11_ledger_49 : decode cX11_ledger 49 = .ok (.iload_n 2, 1) := by decide +kernel
theorem dX11_ledger_50 : decode cX11_ledger 50 = .ok (.iload_n 3, 1) := by decide +kernel
theorem dX11_ledger_51 : decode cX11_ledger 51 = .ok (.invokevirtual 275, 3) := by decide +kernel
theorem dX11_ledger_54 : decode cX11_ledger 54 = .ok (.lconst 0, 1) := by decide +kernel
theorem dX11_ledger_55 : decode cX11_ledger 55 = .ok (.lstore 4, 2) := by decide +kernel
theorem dX11_ledger_57 : decode cX11_ledger 57 = .ok (.iconst 0, 1) := by decide +kernel
theorem dX11_ledger_58 : decode cX11_ledger 58 = .ok (.istore 6, 2) := by decide +kernel
theorem dX11_ledger_60 : decode cX11_ledger 60 = .ok (.iload 6, 2) := by decide +kernel
theorem dX11_ledger_62 : decode cX11_ledger 62 = .ok (.aload_n 0, 1) := by decide +kernel
theorem dX11_ledger_63 : decode cX11_ledger 63 = .ok (.getfield 79, 3) := by decide +kernel
theorem dX11_ledger_66 : decode cX11_ledger 66 = .ok (.getfield 118, 3) := by decide +kernel
theorem dX11_ledger_69 : decode cX11_ledger 69 = .ok (.if_icmp .ge 25, 3) := by decide +kernel
theorem dX11_ledger_72 : decode cX11_ledger 72 = .ok (.lload 4, 2) := by decide +kernel
theorem dX11_ledger_74 : decode cX11_ledger 74 = .ok (.aload_n 0, 1) := by decide +kernel
theorem dX11_ledger_75 : decode cX11_ledger 75 = .ok (.getfield 61, 3) := by decide +kernel
theorem dX11_ledger_78 : decode cX11_ledger 78 = .ok (.iload 6, 2) := by decide +kernel
theorem dX11_ledger_80 : decode cX11_ledger 80 = .ok (.iload_n 3, 1) := by decide +kernel
theorem dX11_ledger_81 : decode cX11_ledger 81 = .ok (.invokevirtual 278, 3) := by decide +kernel
theorem dX11_ledger_84 : decode cX11_ledger 84 = .ok (.i2l, 1) := by decide +kernel
theorem dX11_ledger_85 : decode cX11_ledger 85 = .ok (.ladd, 1) := by decide +kernel
theorem dX11_ledger_86 : decode cX11_ledger 86 = .ok (.lstore 4, 2) := by decide +kernel
theorem dX11_ledger_88 : decode cX11_ledger 88 = .ok (.iinc 6 1, 3) := by decide +kernel
theorem dX11_ledger_91 : decode cX11_ledger 91 = .ok (.goto (-31), 3) := by decide +kernel
theorem dX11_ledger_94 : decode cX11_ledger 94 = .ok (.lload 4, 2) := by decide +kernel
theorem dX11_ledger_96 : decode cX11_ledger 96 = .ok (.lreturn, 1) := by decide +kernel
theorem dX11_ends_0 : decode cX11_ends 0 = .ok (.aload_n 0, 1) := by decide +kernel
theorem dX11_ends_1 : decode cX11_ends 1 = .ok (.getfield 79, 3) := by decide +kernel
theorem dX11_ends_4 : decode cX11_ends 4 = .ok (.iload_n 1, 1) := by decide +kernel
theorem dX11_ends_5 : decode cX11_ends 5 = .ok (.invokevirtual 153, 3) := by decide +kernel
theorem dX11_ends_8 : decode cX11_ends 8 = .ok (.ifCond .ne 5, 3) := by decide +kernel
theorem dX11_ends_11 : decode cX11_ends 11 = .ok (.iconst (-1), 1) := by decide +kernel
theorem dX11_ends_12 : decode cX11_ends 12 = .ok (.ireturn, 1) := by decide +kernel
theorem dX11_ends_13 : decode cX11_ends 13 = .ok (.iload_n 2, 1) := by decide +kernel
theorem dX11_ends_14 : decode cX11_ends 14 = .ok (.ifCond .lt 20, 3) := by decide +kernel
theorem dX11_ends_17 : decode cX11_ends 17 = .ok (.iload_n 2, 1) := by decide +kernel
theorem dX11_ends_18 : decode cX11_ends 18 = .ok (.bipush 8, 2) := by decide +kernel
theorem dX11_ends_20 : decode cX11_ends 20 = .ok (.if_icmp .gt 14, 3) := by decide +kernel
theorem dX11_ends_23 : decode cX11_ends 23 = .ok (.iload_n 3, 1) := by decide +kernel
theorem dX11_ends_24 : decode cX11_ends 24 = .ok (.ifCond .lt 10, 3) := by decide +kernel
theorem dX11_ends_27 : decode cX11_ends 27 = .ok (.iload_n 3, 1) := by decide +kernel
theorem dX11_ends_28 : decode cX11_ends 28 = .ok (.sipush 999, 3) := by decide +kernel
theorem dX11_ends_31 : decode cX11_ends 31 = .ok (.if_icmp .le 6, 3) := by decide +kernel
theorem dX11_ends_34 : decode cX11_ends 34 = .ok (.bipush (-2), 2) := by decide +kernel
theorem dX11_ends_36 : decode cX11_ends 36 = .ok (.ireturn, 1) := by decide +kernel
theorem dX11_ends_37 : decode cX11_ends 37 = .ok (.aload_n 0, 1) := by decide +kernel
theorem dX11_ends_38 : decode cX11_ends 38 = .ok (.getfield 61, 3) := by decide +kernel
theorem dX11_ends_41 : decode cX11_ends 41 = .ok (.aload_n 0, 1) := by decide +kernel
theorem dX11_ends_42 : decode cX11_ends 42 = .ok (.getfield 79, 3) := by decide +kernel
theorem dX11_ends_45 : decode cX11_ends 45 = .ok (.iload_n 1, 1) := by decide +kernel
theorem dX11_ends_46 : decode cX11_ends 46 = .ok (.iload_n 2, 1) := by decide +kernel
theorem dX11_ends_47 : decode cX11_ends 47 = .ok (.iload_n 3, 1) := by decide +kernel
theorem dX11_ends_48 : decode cX11_ends 48 = .ok (.invokevirtual 275, 3) := by decide +kernel
theorem dX11_ends_51 : decode cX11_ends 51 = .ok (.iconst 0, 1) := by decide +kernel
theorem dX11_ends_52 : decode cX11_ends 52 = .ok (.istore 4, 2) := by decide +kernel
theorem dX11_ends_54 : decode cX11_ends 54 = .ok (.iconst 0, 1) := by decide +kernel
theorem dX11_ends_55 : decode cX11_ends 55 = .ok (.istore 5, 2) := by decide +kernel
theorem dX11_ends_57 : decode cX11_ends 57 = .ok (.iload 5, 2) := by decide +kernel
theorem dX11_ends_59 : decode cX11_ends 59 = .ok (.aload_n 0, 1) := by decide +kernel
theorem dX11_ends_60 : decode cX11_ends 60 = .ok (.getfield 79, 3) := by decide +kernel
theorem dX11_ends_63 : decode cX11_ends 63 = .ok (.getfield 118, 3) := by decide +kernel
theorem dX11_ends_66 : decode cX11_ends 66 = .ok (.if_icmp .ge 31, 3) := by decide +kernel
theorem dX11_ends_69 : decode cX11_ends 69 = .ok (.aload_n 0, 1) := by decide +kernel
theorem dX11_ends_70 : decode cX11_ends 70 = .ok (.getfield 61, 3) := by decide +kernel
theorem dX11_ends_73 : decode cX11_ends 73 = .ok (.iload 5, 2) := by decide +kernel
theorem dX11_ends_75 : decode cX11_ends 75 = .ok (.iload_n 3, 1) := by decide +kernel
theorem dX11_ends_76 : decode cX11_ends 76 = .ok (.invokevirtual 278, 3) := by decide +kernel
theorem dX11_ends_79 : decode cX11_ends 79 = .ok (.ifCond .le 12, 3) := by decide +kernel
theorem dX11_ends_82 : decode cX11_ends 82 = .ok (.iload 4, 2) := by decide +kernel
theorem dX11_ends_84 : decode cX11_ends 84 = .ok (.iconst 1, 1) := by decide +kernel
theorem dX11_ends_85 : decode cX11_ends 85 = .ok (.iload 5, 2) := by decide +kernel
theorem dX11_ends_87 : decode cX11_ends 87 = .ok (.ishl, 1) := by decide +kernel
theorem dX11_ends_88 : decode cX11_ends 88 = .ok (.ior, 1) := by decide +kernel
theorem dX11_ends_89 : decode cX11_ends 89 = .ok (.istore 4, 2) := by decide +kernel
theorem dX11_ends_91 : decode cX11_ends 91 = .ok (.iinc 5 1, 3) := by decide +kernel
theorem dX11_ends_94 : decode cX11_ends 94 = .ok (.goto (-37), 3) := by decide +kernel
theorem dX11_ends_97 : decode cX11_ends 97 = .ok (.iload 4, 2) := by decide +kernel
theorem dX11_ends_99 : decode cX11_ends 99 = .ok (.ireturn, 1) := by decide +kernel
theorem dX11_chance_0 : decode cX11_chance 0 = .ok (.iload_n 1, 1) := by decide +kernel
theorem dX11_chance_1 : decode cX11_chance 1 = .ok (.ifCond .lt 20, 3) := by decide +kernel
theorem dX11_chance_4 : decode cX11_chance 4 = .ok (.iload_n 1, 1) := by decide +kernel
theorem dX11_chance_5 : decode cX11_chance 5 = .ok (.bipush 10, 2) := by decide +kernel
theorem dX11_chance_7 : decode cX11_chance 7 = .ok (.if_icmp .gt 14, 3) := by decide +kernel
theorem dX11_chance_10 : decode cX11_chance 10 = .ok (.iload_n 2, 1) := by decide +kernel
theorem dX11_chance_11 : decode cX11_chance 11 = .ok (.ifCond .lt 10, 3) := by decide +kernel
theorem dX11_chance_14 : decode cX11_chance 14 = .ok (.iload_n 2, 1) := by decide +kernel
theorem dX11_chance_15 : decode cX11_chance 15 = .ok (.sipush 999, 3) := by decide +kernel
theorem dX11_chance_18 : decode cX11_chance 18 = .ok (.if_icmp .le 7, 3) := by decide +kernel
theorem dX11_chance_21 : decode cX11_chance 21 = .ok (.ldc2_w 273, 3) := by decide +kernel
theorem dX11_chance_24 : decode cX11_chance 24 = .ok (.lreturn, 1) := by decide +kernel
theorem dX11_chance_25 : decode cX11_chance 25 = .ok (.aload_n 0, 1) := by decide +kernel
theorem dX11_chance_26 : decode cX11_chance 26 = .ok (.iload_n 1, 1) := by decide +kernel
theorem dX11_chance_27 : decode cX11_chance 27 = .ok (.invokevirtual 281, 3) := by decide +kernel
theorem dX11_chance_30 : decode cX11_chance 30 = .ok (.aload_n 0, 1) := by decide +kernel
theorem dX11_chance_31 : decode cX11_chance 31 = .ok (.getfield 68, 3) := by decide +kernel
theorem dX11_chance_34 : decode cX11_chance 34 = .ok (.iload_n 2, 1) := by decide +kernel
theorem dX11_chance_35 : decode cX11_chance 35 = .ok (.invokevirtual 284, 3) := by decide +kernel
theorem dX11_chance_38 : decode cX11_chance 38 = .ok (.i2l, 1) := by decide +kernel
theorem dX11_chance_39 : decode cX11_chance 39 = .ok (.lstore 4, 2) := by decide +kernel
theorem dX11_chance_41 : decode cX11_chance 41 = .ok (.aload_n 0, 1) := by decide +kernel
theorem dX11_chance_42 : decode cX11_chance 42 = .ok (.getfield 68, 3) := by decide +kernel
theorem dX11_chance_45 : decode cX11_chance 45 = .ok (.getfield 287, 3) := by decide +kernel
theorem dX11_chance_48 : decode cX11_chance 48 = .ok (.i2l, 1) := by decide +kernel
theorem dX11_chance_49 : decode cX11_chance 49 = .ok (.lstore 6, 2) := by decide +kernel
theorem dX11_chance_51 : decode cX11_chance 51 = .ok (.lload 4, 2) := by decide +kernel
theorem dX11_chance_53 : decode cX11_chance 53 = .ok (.lload 6, 2) := by decide +kernel
theorem dX11_chance_55 : decode cX11_chance 55 = .ok (.invokestatic 290, 3) := by decide +kernel
theorem dX11_chance_58 : decode cX11_chance 58 = .ok (.lstore 8, 2) := by decide +kernel
theorem dX11_chance_60 : decode cX11_chance 60 = .ok (.lload 8, 2) := by decide +kernel
theorem dX11_chance_62 : decode cX11_chance 62 = .ok (.lconst 1, 1) := by decide +kernel
theorem dX11_chance_63 : decode cX11_chance 63 = .ok (.lcmp, 1) := by decide +kernel
theorem dX11_chance_64 : decode cX11_chance 64 = .ok (.ifCond .ge 5, 3) := by decide +kernel
theorem dX11_chance_67 : decode cX11_chance 67 = .ok (.lconst 0, 1) := by decide +kernel
theorem dX11_chance_68 : decode cX11_chance 68 = .ok (.lreturn, 1) := by decide +kernel
theorem dX11_chance_69 : decode cX11_chance 69 = .ok (.iload_n 3, 1) := by decide +kernel
theorem dX11_chance_70 : decode cX11_chance 70 = .ok (.ifCond .eq 11, 3) := by decide +kernel
theorem dX11_chance_73 : decode cX11_chance 73 = .ok (.lload 4, 2) := by decide +kernel
theorem dX11_chance_75 : decode cX11_chance 75 = .ok (.lload 8, 2) := by decide +kernel
theorem dX11_chance_77 : decode cX11_chance 77 = .ok (.ldiv, 1) := by decide +kernel
theorem dX11_chance_78 : decode cX11_chance 78 = .ok (.goto 8, 3) := by decide +kernel
theorem dX11_chance_81 : decode cX11_chance 81 = .ok (.lload 6, 2) := by decide +kernel
theorem dX11_chance_83 : decode cX11_chance 83 = .ok (.lload 8, 2) := by decide +kernel
theorem dX11_chance_85 : decode cX11_chance 85 = .ok (.ldiv, 1) := by decide +kernel
theorem dX11_chance_86 : decode cX11_chance 86 = .ok (.lreturn, 1) := by decide +kernel
theorem dX11_spare_0 : decode cX11_spare 0 = .ok (.iload_n 1, 1) := by decide +kernel
theorem dX11_spare_1 : decode cX11_spare 1 = .ok (.ifCond .lt 19, 3) := by decide +kernel
theorem dX11_spare_4 : decode cX11_spare 4 = .ok (.iload_n 1, 1) := by decide +kernel
theorem dX11_spare_5 : decode cX11_spare 5 = .ok (.bipush 10, 2) := by decide +kernel
theorem dX11_spare_7 : decode cX11_spare 7 = .ok (.if_icmp .gt 13, 3) := by decide +kernel
theorem dX11_spare_10 : decode cX11_spare 10 = .ok (.iload_n 2, 1) := by decide +kernel
theorem dX11_spare_11 : decode cX11_spare 11 = .ok (.ifCond .lt 9, 3) := by decide +kernel
theorem dX11_spare_14 : decode cX11_spare 14 = .ok (.iload_n 2, 1) := by decide +kernel
theorem dX11_spare_15 : decode cX11_spare 15 = .ok (.bipush 100, 2) := by decide +kernel
theorem dX11_spare_17 : decode cX11_spare 17 = .ok (.if_icmp .le 6, 3) := by decide +kernel
theorem dX11_spare_20 : decode cX11_spare 20 = .ok (.bipush (-2), 2) := by decide +kernel
theorem dX11_spare_22 : decode cX11_spare 22 = .ok (.ireturn, 1) := by decide +kernel
theorem dX11_spare_23 : decode cX11_spare 23 = .ok (.aload_n 0, 1) := by decide +kernel
theorem dX11_spare_24 : decode cX11_spare 24 = .ok (.iload_n 1, 1) := by decide +kernel
theorem dX11_spare_25 : decode cX11_spare 25 = .ok (.invokevirtual 281, 3) := by decide +kernel
theorem dX11_spare_28 : decode cX11_spare 28 = .ok (.aload_n 0, 1) := by decide +kernel
theorem dX11_spare_29 : decode cX11_spare 29 = .ok (.getfield 68, 3) := by decide +kernel
theorem dX11_spare_32 : decode cX11_spare 32 = .ok (.iload_n 2, 1) := by decide +kernel
theorem dX11_spare_33 : decode cX11_spare 33 = .ok (.invokevirtual 294, 3) := by decide +kernel
theorem dX11_spare_36 : decode cX11_spare 36 = .ok (.ireturn, 1) := by decide +kernel
theorem dX11_keep_0 : decode cX11_keep 0 = .ok (.iload_n 1, 1) := by decide +kernel
theorem dX11_keep_1 : decode cX11_keep 1 = .ok (.ifCond .lt 8, 3) := by decide +kernel
theorem dX11_keep_4 : decode cX11_keep 4 = .ok (.iload_n 1, 1) := by decide +kernel
theorem dX11_keep_5 : decode cX11_keep 5 = .ok (.iconst 2, 1) := by decide +kernel
theorem dX11_keep_6 : decode cX11_keep 6 = .ok (.if_icmp .lt 5, 3) := by decide +kernel
theorem dX11_keep_9 : decode cX11_keep 9 = .ok (.iconst (-1), 1) := by decide +kernel
theorem dX11_keep_10 : decode cX11_keep 10 = .ok (.ireturn, 1) := by decide +kernel
theorem dX11_keep_11 : decode cX11_keep 11 = .ok (.aload_n 0, 1) := by decide +kernel
theorem dX11_keep_12 : decode cX11_keep 12 = .ok (.getfield 33, 3) := by decide +kernel
theorem dX11_keep_15 : decode cX11_keep 15 = .ok (.iload_n 1, 1) := by decide +kernel
theorem dX11_keep_16 : decode cX11_keep 16 = .ok (.aload_n 0, 1) := by decide +kernel
theorem dX11_keep_17 : decode cX11_keep 17 = .ok (.getfield 19, 3) := by decide +kernel
theorem dX11_keep_20 : decode cX11_keep 20 = .ok (.invokevirtual 297, 3) := by decide +kernel
theorem dX11_keep_23 : decode cX11_keep 23 = .ok (.aload_n 0, 1) := by decide +kernel
theorem dX11_keep_24 : decode cX11_keep 24 = .ok (.getfield 19, 3) := by decide +kernel
theorem dX11_keep_27 : decode cX11_keep 27 = .ok (.getfield 127, 3) := by decide +kernel
theorem dX11_keep_30 : decode cX11_keep 30 = .ok (.ireturn, 1) := by decide +kernel
theorem dX11_again_0 : decode cX11_again 0 = .ok (.iload_n 1, 1) := by decide +kernel
theorem dX11_again_1 : decode cX11_again 1 = .ok (.ifCond .lt 8, 3) := by decide +kernel
theorem dX11_again_4 : decode cX11_again 4 = .ok (.iload_n 1, 1) := by decide +kernel
theorem dX11_again_5 : decode cX11_again 5 = .ok (.iconst 2, 1) := by decide +kernel
theorem dX11_again_6 : decode cX11_again 6 = .ok (.if_icmp .lt 5, 3) := by decide +kernel
theorem dX11_again_9 : decode cX11_again 9 = .ok (.iconst (-1), 1) := by decide +kernel
theorem dX11_again_10 : decode cX11_again 10 = .ok (.ireturn, 1) := by decide +kernel
theorem dX11_again_11 : decode cX11_again 11 = .ok (.aload_n 0, 1) := by decide +kernel
theorem dX11_again_12 : decode cX11_again 12 = .ok (.getfield 33, 3) := by decide +kernel
theorem dX11_again_15 : decode cX11_again 15 = .ok (.iload_n 1, 1) := by decide +kernel
theorem dX11_again_16 : decode cX11_again 16 = .ok (.invokevirtual 301, 3) := by decide +kernel
theorem dX11_again_19 : decode cX11_again 19 = .ok (.ifCond .ne 6, 3) := by decide +kernel
theorem dX11_again_22 : decode cX11_again 22 = .ok (.bipush (-3), 2) := by decide +kernel
theorem dX11_again_24 : decode cX11_again 24 = .ok (.ireturn, 1) := by decide +kernel
theorem dX11_again_25 : decode cX11_again 25 = .ok (.aload_n 0, 1) := by decide +kernel
theorem dX11_again_26 : decode cX11_again 26 = .ok (.getfield 33, 3) := by decide +kernel
theorem dX11_again_29 : decode cX11_again 29 = .ok (.iload_n 1, 1) := by decide +kernel
theorem dX11_again_30 : decode cX11_again 30 = .ok (.aload_n 0, 1) := by decide +kernel
theorem dX11_again_31 : decode cX11_again 31 = .ok (.getfield 19, 3) := by decide +kernel
theorem dX11_again_34 : decode cX11_again 34 = .ok (.invokevirtual 304, 3) := by decide +kernel
theorem dX11_again_37 : decode cX11_again 37 = .ok (.aload_n 0, 1) := by decide +kernel
theorem dX11_again_38 : decode cX11_again 38 = .ok (.getfield 26, 3) := by decide +kernel
theorem dX11_again_41 : decode cX11_again 41 = .ok (.invokevirtual 114, 3) := by decide +kernel
theorem dX11_again_44 : decode cX11_again 44 = .ok (.aload_n 0, 1) := by decide +kernel
theorem dX11_again_45 : decode cX11_again 45 = .ok (.getfield 19, 3) := by decide +kernel
theorem dX11_again_48 : decode cX11_again 48 = .ok (.getfield 127, 3) := by decide +kernel
theorem dX11_again_51 : decode cX11_again 51 = .ok (.ireturn, 1) := by decide +kernel
theorem dX11_isWalker_0 : decode cX11_isWalker 0 = .ok (.iload_n 0, 1) := by decide +kernel
theorem dX11_isWalker_1 : decode cX11_isWalker 1 = .ok (.ifCond .lt 12, 3) := by decide +kernel
theorem dX11_isWalker_4 : decode cX11_isWalker 4 = .ok (.iload_n 0, 1) := by decide +kernel
theorem dX11_isWalker_5 : decode cX11_isWalker 5 = .ok (.iconst 2, 1) := by decide +kernel
theorem dX11_isWalker_6 : decode cX11_isWalker 6 = .ok (.if_icmp .ge 7, 3) := by decide +kernel
theorem dX11_isWalker_9 : decode cX11_isWalker 9 = .ok (.iconst 1, 1) := by decide +kernel
theorem dX11_isWalker_10 : decode cX11_isWalker 10 = .ok (.goto 4, 3) := by decide +kernel
theorem dX11_isWalker_13 : decode cX11_isWalker 13 = .ok (.iconst 0, 1) := by decide +kernel
theorem dX11_isWalker_14 : decode cX11_isWalker 14 = .ok (.ireturn, 1) := by decide +kernel
theorem dX11_toldSteps_0 : decode cX11_toldSteps 0 = .ok (.iload_n 0, 1) := by decide +kernel
theorem dX11_toldSteps_1 : decode cX11_toldSteps 1 = .ok (.ldc_w 307, 3) := by decide +kernel
theorem dX11_toldSteps_4 : decode cX11_toldSteps 4 = .ok (.if_icmp .lt 8, 3) := by decide +kernel
theorem dX11_toldSteps_7 : decode cX11_toldSteps 7 = .ok (.bipush (-9), 2) := by decide +kernel
theorem dX11_toldSteps_9 : decode cX11_toldSteps 9 = .ok (.goto 4, 3) := by decide +kernel
theorem dX11_toldSteps_12 : decode cX11_toldSteps 12 = .ok (.iload_n 0, 1) := by decide +kernel
theorem dX11_toldSteps_13 : decode cX11_toldSteps 13 = .ok (.ireturn, 1) := by decide +kernel
theorem dX11_splitRow_0 : decode cX11_splitRow 0 = .ok (.iload_n 1, 1) := by decide +kernel
theorem dX11_splitRow_1 : decode cX11_splitRow 1 = .ok (.istore_n 3, 1) := by decide +kernel
theorem dX11_splitRow_2 : decode cX11_splitRow 2 = .ok (.iload_n 2, 1) := by decide +kernel
theorem dX11_splitRow_3 : decode cX11_splitRow 3 = .ok (.iconst 1, 1) := by decide +kernel
theorem dX11_splitRow_4 : decode cX11_splitRow 4 = .ok (.isub, 1) := by decide +kernel
theorem dX11_splitRow_5 : decode cX11_splitRow 5 = .ok (.istore 4, 2) := by decide +kernel
theorem dX11_splitRow_7 : decode cX11_splitRow 7 = .ok (.iload 4, 2) := by decide +kernel
theorem dX11_splitRow_9 : decode cX11_splitRow 9 = .ok (.ifCond .lt 25, 3) := by decide +kernel
theorem dX11_splitRow_12 : decode cX11_splitRow 12 = .ok (.aload_n 0, 1) := by decide +kernel
theorem dX11_splitRow_13 : decode cX11_splitRow 13 = .ok (.getfield 72, 3) := by decide +kernel
theorem dX11_splitRow_16 : decode cX11_splitRow 16 = .ok (.iload 4, 2) := by decide +kernel
theorem dX11_splitRow_18 : decode cX11_splitRow 18 = .ok (.iload_n 3, 1) := by decide +kernel
theorem dX11_splitRow_19 : decode cX11_splitRow 19 = .ok (.bipush 10, 2) := by decide +kernel
theorem dX11_splitRow_21 : decode cX11_splitRow 21 = .ok (.irem, 1) := by decide +kernel
theorem dX11_splitRow_22 : decode cX11_splitRow 22 = .ok (.iastore, 1) := by decide +kernel
theorem dX11_splitRow_23 : decode cX11_splitRow 23 = .ok (.iload_n 3, 1) := by decide +kernel
theorem dX11_splitRow_24 : decode cX11_splitRow 24 = .ok (.bipush 10, 2) := by decide +kernel
theorem dX11_splitRow_26 : decode cX11_splitRow 26 = .ok (.idiv, 1) := by decide +kernel
theorem dX11_splitRow_27 : decode cX11_splitRow 27 = .ok (.istore_n 3, 1) := by decide +kernel
theorem dX11_splitRow_28 : decode cX11_splitRow 28 = .ok (.iinc 4 (-1), 3) := by decide +kernel
theorem dX11_splitRow_31 : decode cX11_splitRow 31 = .ok (.goto (-24), 3) := by decide +kernel
theorem dX11_splitRow_34 : decode cX11_splitRow 34 = .ok (.iload_n 3, 1) := by decide +kernel
theorem dX11_splitRow_35 : decode cX11_splitRow 35 = .ok (.ifCond .ne 7, 3) := by decide +kernel
theorem dX11_splitRow_38 : decode cX11_splitRow 38 = .ok (.iconst 1, 1) := by decide +kernel
theorem dX11_splitRow_39 : decode cX11_splitRow 39 = .ok (.goto 4, 3) := by decide +kernel
theorem dX11_splitRow_42 : decode cX11_splitRow 42 = .ok (.iconst 0, 1) := by decide +kernel
theorem dX11_splitRow_43 : decode cX11_splitRow 43 = .ok (.ireturn, 1) := by decide +kernel
theorem dX11_walkCost_0 : decode cX11_walkCost 0 = .ok (.iload_n 1, 1) := by decide +kernel
theorem dX11_walkCost_1 : decode cX11_walkCost 1 = .ok (.iload_n 2, 1) := by decide +kernel
theorem dX11_walkCost_2 : decode cX11_walkCost 2 = .ok (.if_icmp .ne 9, 3) := by decide +kernel
theorem dX11_walkCost_5 : decode cX11_walkCost 5 = .ok (.ldc_w 307, 3) := by decide +kernel
theorem dX11_walkCost_8 : decode cX11_walkCost 8 = .ok (.goto 12, 3) := by decide +kernel
theorem dX11_walkCost_11 : decode cX11_walkCost 11 = .ok (.aload_n 0, 1) := by decide +kernel
theorem dX11_walkCost_12 : decode cX11_walkCost 12 = .ok (.getfield 79, 3) := by decide +kernel
theorem dX11_walkCost_15 : decode cX11_walkCost 15 = .ok (.iload_n 1, 1) := by decide +kernel
theorem dX11_walkCost_16 : decode cX11_walkCost 16 = .ok (.iload_n 2, 1) := by decide +kernel
theorem dX11_walkCost_17 : decode cX11_walkCost 17 = .ok (.invokevirtual 156, 3) := by decide +kernel
theorem dX11_walkCost_20 : decode cX11_walkCost 20 = .ok (.ireturn, 1) := by decide +kernel
theorem dX11_openTo_0 : decode cX11_openTo 0 = .ok (.aload_n 0, 1) := by decide +kernel
theorem dX11_openTo_1 : decode cX11_openTo 1 = .ok (.getfield 79, 3) := by decide +kernel
theorem dX11_openTo_4 : decode cX11_openTo 4 = .ok (.iload_n 1, 1) := by decide +kernel
theorem dX11_openTo_5 : decode cX11_openTo 5 = .ok (.invokevirtual 250, 3) := by decide +kernel
theorem dX11_openTo_8 : decode cX11_openTo 8 = .ok (.aload_n 0, 1) := by decide +kernel
theorem dX11_openTo_9 : decode cX11_openTo 9 = .ok (.getfield 19, 3) := by decide +kernel
theorem dX11_openTo_12 : decode cX11_openTo 12 = .ok (.getfield 130, 3) := by decide +kernel
theorem dX11_openTo_15 : decode cX11_openTo 15 = .ok (.iconst (-1), 1) := by decide +kernel
theorem dX11_openTo_16 : decode cX11_openTo 16 = .ok (.ixor, 1) := by decide +kernel
theorem dX11_openTo_17 : decode cX11_openTo 17 = .ok (.iand, 1) := by decide +kernel
theorem dX11_openTo_18 : decode cX11_openTo 18 = .ok (.ireturn, 1) := by decide +kernel
theorem dX11_prepareGuess_0 : decode cX11_prepareGuess 0 = .ok (.aload_n 0, 1) := by decide +kernel
theorem dX11_prepareGuess_1 : decode cX11_prepareGuess 1 = .ok (.getfield 40, 3) := by decide +kernel
theorem dX11_prepareGuess_4 : decode cX11_prepareGuess 4 = .ok (.aload_n 0, 1) := by decide +kernel
theorem dX11_prepareGuess_5 : decode cX11_prepareGuess 5 = .ok (.getfield 79, 3) := by decide +kernel
theorem dX11_prepareGuess_8 : decode cX11_prepareGuess 8 = .ok (.iconst 0, 1) := by decide +kernel
theorem dX11_prepareGuess_9 : decode cX11_prepareGuess 9 = .ok (.iconst 0, 1) := by decide +kernel
theorem dX11_prepareGuess_10 : decode cX11_prepareGuess 10 = .ok (.invokevirtual 220, 3) := by decide +kernel
theorem dX11_prepareGuess_13 : decode cX11_prepareGuess 13 = .ok (.aload_n 0, 1) := by decide +kernel
theorem dX11_prepareGuess_14 : decode cX11_prepareGuess 14 = .ok (.getfield 68, 3) := by decide +kernel
theorem dX11_prepareGuess_17 : decode cX11_prepareGuess 17 = .ok (.aload_n 0, 1) := by decide +kernel
theorem dX11_prepareGuess_18 : decode cX11_prepareGuess 18 = .ok (.getfield 79, 3) := by decide +kernel
theorem dX11_prepareGuess_21 : decode cX11_prepareGuess 21 = .ok (.aload_n 0, 1) := by decide +kernel
theorem dX11_prepareGuess_22 : decode cX11_prepareGuess 22 = .ok (.getfield 40, 3) := by decide +kernel
theorem dX11_prepareGuess_25 : decode cX11_prepareGuess 25 = .ok (.iload_n 1, 1) := by decide +kernel
theorem dX11_prepareGuess_26 : decode cX11_prepareGuess 26 = .ok (.invokevirtual 308, 3) := by decide +kernel
theorem dX11_prepareGuess_29 : decode cX11_prepareGuess 29 = .ok (.return_, 1) := by decide +kernel
theorem dX11_commonDivisor_0 : decode cX11_commonDivisor 0 = .ok (.lload_n 0, 1) := by decide +kernel
theorem dX11_commonDivisor_1 : decode cX11_commonDivisor 1 = .ok (.lstore 4, 2) := by decide +kernel
theorem dX11_commonDivisor_3 : decode cX11_commonDivisor 3 = .ok (.lload_n 2, 1) := by decide +kernel
theorem dX11_commonDivisor_4 : decode cX11_commonDivisor 4 = .ok (.lstore 6, 2) := by decide +kernel
theorem dX11_commonDivisor_6 : decode cX11_commonDivisor 6 = .ok (.iconst 0, 1) := by decide +kernel
theorem dX11_commonDivisor_7 : decode cX11_commonDivisor 7 = .ok (.istore 8, 2) := by decide +kernel
theorem dX11_commonDivisor_9 : decode cX11_commonDivisor 9 = .ok (.iload 8, 2) := by decide +kernel
theorem dX11_commonDivisor_11 : decode cX11_commonDivisor 11 = .ok (.bipush 100, 2) := by decide +kernel
theorem dX11_commonDivisor_13 : decode cX11_commonDivisor 13 = .ok (.if_icmp .ge 31, 3) := by decide +kernel
theorem dX11_commonDivisor_16 : decode cX11_commonDivisor 16 = .ok (.lload 6, 2) := by decide +kernel
theorem dX11_commonDivisor_18 : decode cX11_commonDivisor 18 = .ok (.lconst 0, 1) := by decide +kernel
theorem dX11_commonDivisor_19 : decode cX11_commonDivisor 19 = .ok (.lcmp, 1) := by decide +kernel
theorem dX11_commonDivisor_20 : decode cX11_commonDivisor 20 = .ok (.ifCond .le 24, 3) := by decide +kernel
theorem dX11_commonDivisor_23 : decode cX11_commonDivisor 23 = .ok (.lload 4, 2) := by decide +kernel
theorem dX11_commonDivisor_25 : decode cX11_commonDivisor 25 = .ok (.lload 6, 2) := by decide +kernel
theorem dX11_commonDivisor_27 : decode cX11_commonDivisor 27 = .ok (.lrem, 1) := by decide +kernel
theorem dX11_commonDivisor_28 : decode cX11_commonDivisor 28 = .ok (.lstore 9, 2) := by decide +kernel
theorem dX11_commonDivisor_30 : decode cX11_commonDivisor 30 = .ok (.lload 6, 2) := by decide +kernel
theorem dX11_commonDivisor_32 : decode cX11_commonDivisor 32 = .ok (.lstore 4, 2) := by decide +kernel
theorem dX11_commonDivisor_34 : decode cX11_commonDivisor 34 = .ok (.lload 9, 2) := by decide +kernel
theorem dX11_commonDivisor_36 : decode cX11_commonDivisor 36 = .ok (.lstore 6, 2) := by decide +kernel
theorem dX11_commonDivisor_38 : decode cX11_commonDivisor 38 = .ok (.iinc 8 1, 3) := by decide +kernel
theorem dX11_commonDivisor_41 : decode cX11_commonDivisor 41 = .ok (.goto (-32), 3) := by decide +kernel
theorem dX11_commonDivisor_44 : decode cX11_commonDivisor 44 = .ok (.lload 4, 2) := by decide +kernel
theorem dX11_commonDivisor_46 : decode cX11_commonDivisor 46 = .ok (.lreturn, 1) := by decide +kernel
theorem dJ6_bitCount_0f7a4_0 : decode cJ6_bitCount_0f7a4 0 = .ok (.iload_n 0, 1) := by decide +kernel
theorem dJ6_bitCount_0f7a4_1 : decode cJ6_bitCount_0f7a4 1 = .ok (.iload_n 0, 1) := by decide +kernel
theorem dJ6_bitCount_0f7a4_2 : decode cJ6_bitCount_0f7a4 2 = .ok (.iconst 1, 1) := by decide +kernel
theorem dJ6_bitCount_0f7a4_3 : decode cJ6_bitCount_0f7a4 3 = .ok (.iushr, 1) := by decide +kernel
theorem dJ6_bitCount_0f7a4_4 : decode cJ6_bitCount_0f7a4 4 = .ok (.ldc_w 265, 3) := by decide +kernel
theorem dJ6_bitCount_0f7a4_7 : decode cJ6_bitCount_0f7a4 7 = .ok (.iand, 1) := by decide +kernel
theorem dJ6_bitCount_0f7a4_8 : decode cJ6_bitCount_0f7a4 8 = .ok (.isub, 1) := by decide +kernel
theorem dJ6_bitCount_0f7a4_9 : decode cJ6_bitCount_0f7a4 9 = .ok (.istore_n 0, 1) := by decide +kernel
theorem dJ6_bitCount_0f7a4_10 : decode cJ6_bitCount_0f7a4 10 = .ok (.iload_n 0, 1) := by decide +kernel
theorem dJ6_bitCount_0f7a4_11 : decode cJ6_bitCount_0f7a4 11 = .ok (.ldc_w 266, 3) := by decide +kernel
theorem dJ6_bitCount_0f7a4_14 : decode cJ6_bitCount_0f7a4 14 = .ok (.iand, 1) := by decide +kernel
theorem dJ6_bitCount_0f7a4_15 : decode cJ6_bitCount_0f7a4 15 = .ok (.iload_n 0, 1) := by decide +kernel
theorem dJ6_bitCount_0f7a4_16 : decode cJ6_bitCount_0f7a4 16 = .ok (.iconst 2, 1) := by decide +kernel
theorem dJ6_bitCount_0f7a4_17 : decode cJ6_bitCount_0f7a4 17 = .ok (.iushr, 1) := by decide +kernel
theorem dJ6_bitCount_0f7a4_18 : decode cJ6_bitCount_0f7a4 18 = .ok (.ldc_w 266, 3) := by decide +kernel
theorem dJ6_bitCount_0f7a4_21 : decode cJ6_bitCount_0f7a4 21 = .ok (.iand, 1) := by decide +kernel
theorem dJ6_bitCount_0f7a4_22 : decode cJ6_bitCount_0f7a4 22 = .ok (.iadd, 1) := by decide +kernel
theorem dJ6_bitCount_0f7a4_23 : decode cJ6_bitCount_0f7a4 23 = .ok (.istore_n 0, 1) := by decide +kernel
theorem dJ6_bitCount_0f7a4_24 : decode cJ6_bitCount_0f7a4 24 = .ok (.iload_n 0, 1) := by decide +kernel
theorem dJ6_bitCount_0f7a4_25 : decode cJ6_bitCount_0f7a4 25 = .ok (.iload_n 0, 1) := by decide +kernel
theorem dJ6_bitCount_0f7a4_26 : decode cJ6_bitCount_0f7a4 26 = .ok (.iconst 4, 1) := by decide +kernel
theorem dJ6_bitCount_0f7a4_27 : decode cJ6_bitCount_0f7a4 27 = .ok (.iushr, 1) := by decide +kernel
theorem dJ6_bitCount_0f7a4_28 : decode cJ6_bitCount_0f7a4 28 = .ok (.iadd, 1) := by decide +kernel
theorem dJ6_bitCount_0f7a4_29 : decode cJ6_bitCount_0f7a4 29 = .ok (.ldc_w 267, 3) := by decide +kernel
theorem dJ6_bitCount_0f7a4_32 : decode cJ6_bitCount_0f7a4 32 = .ok (.iand, 1) := by decide +kernel
theorem dJ6_bitCount_0f7a4_33 : decode cJ6_bitCount_0f7a4 33 = .ok (.istore_n 0, 1) := by decide +kernel
theorem dJ6_bitCount_0f7a4_34 : decode cJ6_bitCount_0f7a4 34 = .ok (.iload_n 0, 1) := by decide +kernel
theorem dJ6_bitCount_0f7a4_35 : decode cJ6_bitCount_0f7a4 35 = .ok (.iload_n 0, 1) := by decide +kernel
theorem dJ6_bitCount_0f7a4_36 : decode cJ6_bitCount_0f7a4 36 = .ok (.bipush 8, 2) := by decide +kernel
theorem dJ6_bitCount_0f7a4_38 : decode cJ6_bitCount_0f7a4 38 = .ok (.iushr, 1) := by decide +kernel
theorem dJ6_bitCount_0f7a4_39 : decode cJ6_bitCount_0f7a4 39 = .ok (.iadd, 1) := by decide +kernel
theorem dJ6_bitCount_0f7a4_40 : decode cJ6_bitCount_0f7a4 40 = .ok (.istore_n 0, 1) := by decide +kernel
theorem dJ6_bitCount_0f7a4_41 : decode cJ6_bitCount_0f7a4 41 = .ok (.iload_n 0, 1) := by decide +kernel
theorem dJ6_bitCount_0f7a4_42 : decode cJ6_bitCount_0f7a4 42 = .ok (.iload_n 0, 1) := by decide +kernel
theorem dJ6_bitCount_0f7a4_43 : decode cJ6_bitCount_0f7a4 43 = .ok (.bipush 16, 2) := by decide +kernel
theorem dJ6_bitCount_0f7a4_45 : decode cJ6_bitCount_0f7a4 45 = .ok (.iushr, 1) := by decide +kernel
theorem dJ6_bitCount_0f7a4_46 : decode cJ6_bitCount_0f7a4 46 = .ok (.iadd, 1) := by decide +kernel
theorem dJ6_bitCount_0f7a4_47 : decode cJ6_bitCount_0f7a4 47 = .ok (.istore_n 0, 1) := by decide +kernel
theorem dJ6_bitCount_0f7a4_48 : decode cJ6_bitCount_0f7a4 48 = .ok (.iload_n 0, 1) := by decide +kernel
theorem dJ6_bitCount_0f7a4_49 : decode cJ6_bitCount_0f7a4 49 = .ok (.bipush 63, 2) := by decide +kernel
theorem dJ6_bitCount_0f7a4_51 : decode cJ6_bitCount_0f7a4 51 = .ok (.iand, 1) := by decide +kernel
theorem dJ6_bitCount_0f7a4_52 : decode cJ6_bitCount_0f7a4 52 = .ok (.ireturn, 1) := by decide +kernel
theorem dJ9_abs_0f7a4_0 : decode cJ9_abs_0f7a4 0 = .ok (.iload_n 0, 1) := by decide +kernel
theorem dJ9_abs_0f7a4_1 : decode cJ9_abs_0f7a4 1 = .ok (.ifCond .ge 8, 3) := by decide +kernel
theorem dJ9_abs_0f7a4_4 : decode cJ9_abs_0f7a4 4 = .ok (.iload_n 0, 1) := by decide +kernel
theorem dJ9_abs_0f7a4_5 : decode cJ9_abs_0f7a4 5 = .ok (.ineg, 1) := by decide +kernel
theorem dJ9_abs_0f7a4_6 : decode cJ9_abs_0f7a4 6 = .ok (.goto 4, 3) := by decide +kernel
theorem dJ9_abs_0f7a4_9 : decode cJ9_abs_0f7a4 9 = .ok (.iload_n 0, 1) := by decide +kernel
theorem dJ9_abs_0f7a4_10 : decode cJ9_abs_0f7a4 10 = .ok (.ireturn, 1) := by decide +kernel
theorem dJ9_max_7cf53_0 : decode cJ9_max_7cf53 0 = .ok (.iload_n 0, 1) := by decide +kernel
theorem dJ9_max_7cf53_1 : decode cJ9_max_7cf53 1 = .ok (.iload_n 1, 1) := by decide +kernel
theorem dJ9_max_7cf53_2 : decode cJ9_max_7cf53 2 = .ok (.if_icmp .lt 7, 3) := by decide +kernel
theorem dJ9_max_7cf53_5 : decode cJ9_max_7cf53 5 = .ok (.iload_n 0, 1) := by decide +kernel
theorem dJ9_max_7cf53_6 : decode cJ9_max_7cf53 6 = .ok (.goto 4, 3) := by decide +kernel
theorem dJ9_max_7cf53_9 : decode cJ9_max_7cf53 9 = .ok (.iload_n 1, 1) := by decide +kernel
theorem dJ9_max_7cf53_10 : decode cJ9_max_7cf53 10 = .ok (.ireturn, 1) := by decide +kernel
theorem dJ9_min_7cf53_0 : decode cJ9_min_7cf53 0 = .ok (.iload_n 0, 1) := by decide +kernel
theorem dJ9_min_7cf53_1 : decode cJ9_min_7cf53 1 = .ok (.iload_n 1, 1) := by decide +kernel
theorem dJ9_min_7cf53_2 : decode cJ9_min_7cf53 2 = .ok (.if_icmp .gt 7, 3) := by decide +kernel
theorem dJ9_min_7cf53_5 : decode cJ9_min_7cf53 5 = .ok (.iload_n 0, 1) := by decide +kernel
theorem dJ9_min_7cf53_6 : decode cJ9_min_7cf53 6 = .ok (.goto 4, 3) := by decide +kernel
theorem dJ9_min_7cf53_9 : decode cJ9_min_7cf53 9 = .ok (.iload_n 1, 1) := by decide +kernel
theorem dJ9_min_7cf53_10 : decode cJ9_min_7cf53 10 = .ok (.ireturn, 1) := by decide +kernel
