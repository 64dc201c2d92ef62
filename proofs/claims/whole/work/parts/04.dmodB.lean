theorem dX12_note_70 : decode cX12_note 70 = .ok (.iadd, 1) := by decide +kernel
theorem dX12_note_71 : decode cX12_note 71 = .ok (.putfield 177, 3) := by decide +kernel
theorem dX12_note_74 : decode cX12_note 74 = .ok (.return_, 1) := by decide +kernel
theorem dX12_mayWalk_0 : decode cX12_mayWalk 0 = .ok (.iload_n 1, 1) := by decide +kernel
theorem dX12_mayWalk_1 : decode cX12_mayWalk 1 = .ok (.iload_n 2, 1) := by decide +kernel
theorem dX12_mayWalk_2 : decode cX12_mayWalk 2 = .ok (.if_icmp .eq 41, 3) := by decide +kernel
theorem dX12_mayWalk_5 : decode cX12_mayWalk 5 = .ok (.aload_n 0, 1) := by decide +kernel
theorem dX12_mayWalk_6 : decode cX12_mayWalk 6 = .ok (.getfield 17, 3) := by decide +kernel
theorem dX12_mayWalk_9 : decode cX12_mayWalk 9 = .ok (.bipush 6, 2) := by decide +kernel
theorem dX12_mayWalk_11 : decode cX12_mayWalk 11 = .ok (.iload_n 1, 1) := by decide +kernel
theorem dX12_mayWalk_12 : decode cX12_mayWalk 12 = .ok (.imul, 1) := by decide +kernel
theorem dX12_mayWalk_13 : decode cX12_mayWalk 13 = .ok (.iload_n 2, 1) := by decide +kernel
theorem dX12_mayWalk_14 : decode cX12_mayWalk 14 = .ok (.iadd, 1) := by decide +kernel
theorem dX12_mayWalk_15 : decode cX12_mayWalk 15 = .ok (.iaload, 1) := by decide +kernel
theorem dX12_mayWalk_16 : decode cX12_mayWalk 16 = .ok (.ldc 103, 2) := by decide +kernel
theorem dX12_mayWalk_18 : decode cX12_mayWalk 18 = .ok (.if_icmp .ge 25, 3) := by decide +kernel
theorem dX12_mayWalk_21 : decode cX12_mayWalk 21 = .ok (.iload_n 3, 1) := by decide +kernel
theorem dX12_mayWalk_22 : decode cX12_mayWalk 22 = .ok (.aload_n 0, 1) := by decide +kernel
theorem dX12_mayWalk_23 : decode cX12_mayWalk 23 = .ok (.getfield 17, 3) := by decide +kernel
theorem dX12_mayWalk_26 : decode cX12_mayWalk 26 = .ok (.bipush 6, 2) := by decide +kernel
theorem dX12_mayWalk_28 : decode cX12_mayWalk 28 = .ok (.iload_n 1, 1) := by decide +kernel
theorem dX12_mayWalk_29 : decode cX12_mayWalk 29 = .ok (.imul, 1) := by decide +kernel
theorem dX12_mayWalk_30 : decode cX12_mayWalk 30 = .ok (.iload_n 2, 1) := by decide +kernel
theorem dX12_mayWalk_31 : decode cX12_mayWalk 31 = .ok (.iadd, 1) := by decide +kernel
theorem dX12_mayWalk_32 : decode cX12_mayWalk 32 = .ok (.iaload, 1) := by decide +kernel
theorem dX12_mayWalk_33 : decode cX12_mayWalk 33 = .ok (.imul, 1) := by decide +kernel
theorem dX12_mayWalk_34 : decode cX12_mayWalk 34 = .ok (.iload 4, 2) := by decide +kernel
theorem dX12_mayWalk_36 : decode cX12_mayWalk 36 = .ok (.if_icmp .gt 7, 3) := by decide +kernel
theorem dX12_mayWalk_39 : decode cX12_mayWalk 39 = .ok (.iconst 1, 1) := by decide +kernel
theorem dX12_mayWalk_40 : decode cX12_mayWalk 40 = .ok (.goto 4, 3) := by decide +kernel
theorem dX12_mayWalk_43 : decode cX12_mayWalk 43 = .ok (.iconst 0, 1) := by decide +kernel
theorem dX12_mayWalk_44 : decode cX12_mayWalk 44 = .ok (.ireturn, 1) := by decide +kernel
theorem dX12_walk_0 : decode cX12_walk 0 = .ok (.aload_n 0, 1) := by decide +kernel
theorem dX12_walk_1 : decode cX12_walk 1 = .ok (.iconst 0, 1) := by decide +kernel
theorem dX12_walk_2 : decode cX12_walk 2 = .ok (.putfield 104, 3) := by decide +kernel
theorem dX12_walk_5 : decode cX12_walk 5 = .ok (.iload_n 1, 1) := by decide +kernel
theorem dX12_walk_6 : decode cX12_walk 6 = .ok (.invokestatic 191, 3) := by decide +kernel
theorem dX12_walk_9 : decode cX12_walk 9 = .ok (.ifCond .ne 11, 3) := by decide +kernel
theorem dX12_walk_12 : decode cX12_walk 12 = .ok (.aload_n 0, 1) := by decide +kernel
theorem dX12_walk_13 : decode cX12_walk 13 = .ok (.iload_n 2, 1) := by decide +kernel
theorem dX12_walk_14 : decode cX12_walk 14 = .ok (.invokevirtual 194, 3) := by decide +kernel
theorem dX12_walk_17 : decode cX12_walk 17 = .ok (.ifCond .eq 5, 3) := by decide +kernel
theorem dX12_walk_20 : decode cX12_walk 20 = .ok (.iconst (-1), 1) := by decide +kernel
theorem dX12_walk_21 : decode cX12_walk 21 = .ok (.ireturn, 1) := by decide +kernel
theorem dX12_walk_22 : decode cX12_walk 22 = .ok (.aload_n 0, 1) := by decide +kernel
theorem dX12_walk_23 : decode cX12_walk 23 = .ok (.aload_n 0, 1) := by decide +kernel
theorem dX12_walk_24 : decode cX12_walk 24 = .ok (.getfield 41, 3) := by decide +kernel
theorem dX12_walk_27 : decode cX12_walk 27 = .ok (.iload_n 1, 1) := by decide +kernel
theorem dX12_walk_28 : decode cX12_walk 28 = .ok (.iaload, 1) := by decide +kernel
theorem dX12_walk_29 : decode cX12_walk 29 = .ok (.iload_n 2, 1) := by decide +kernel
theorem dX12_walk_30 : decode cX12_walk 30 = .ok (.iconst 1, 1) := by decide +kernel
theorem dX12_walk_31 : decode cX12_walk 31 = .ok (.aload_n 0, 1) := by decide +kernel
theorem dX12_walk_32 : decode cX12_walk 32 = .ok (.getfield 165, 3) := by decide +kernel
theorem dX12_walk_35 : decode cX12_walk 35 = .ok (.invokevirtual 204, 3) := by decide +kernel
theorem dX12_walk_38 : decode cX12_walk 38 = .ok (.ifCond .ne 6, 3) := by decide +kernel
theorem dX12_walk_41 : decode cX12_walk 41 = .ok (.bipush (-3), 2) := by decide +kernel
theorem dX12_walk_43 : decode cX12_walk 43 = .ok (.ireturn, 1) := by decide +kernel
theorem dX12_walk_44 : decode cX12_walk 44 = .ok (.aload_n 0, 1) := by decide +kernel
theorem dX12_walk_45 : decode cX12_walk 45 = .ok (.invokevirtual 208, 3) := by decide +kernel
theorem dX12_walk_48 : decode cX12_walk 48 = .ok (.aload_n 0, 1) := by decide +kernel
theorem dX12_walk_49 : decode cX12_walk 49 = .ok (.dup, 1) := by decide +kernel
theorem dX12_walk_50 : decode cX12_walk 50 = .ok (.getfield 165, 3) := by decide +kernel
theorem dX12_walk_53 : decode cX12_walk 53 = .ok (.aload_n 0, 1) := by decide +kernel
theorem dX12_walk_54 : decode cX12_walk 54 = .ok (.getfield 17, 3) := by decide +kernel
theorem dX12_walk_57 : decode cX12_walk 57 = .ok (.bipush 6, 2) := by decide +kernel
theorem dX12_walk_59 : decode cX12_walk 59 = .ok (.aload_n 0, 1) := by decide +kernel
theorem dX12_walk_60 : decode cX12_walk 60 = .ok (.getfield 41, 3) := by decide +kernel
theorem dX12_walk_63 : decode cX12_walk 63 = .ok (.iload_n 1, 1) := by decide +kernel
theorem dX12_walk_64 : decode cX12_walk 64 = .ok (.iaload, 1) := by decide +kernel
theorem dX12_walk_65 : decode cX12_walk 65 = .ok (.imul, 1) := by decide +kernel
theorem dX12_walk_66 : decode cX12_walk 66 = .ok (.iload_n 2, 1) := by decide +kernel
theorem dX12_walk_67 : decode cX12_walk 67 = .ok (.iadd, 1) := by decide +kernel
theorem dX12_walk_68 : decode cX12_walk 68 = .ok (.iaload, 1) := by decide +kernel
theorem dX12_walk_69 : decode cX12_walk 69 = .ok (.isub, 1) := by decide +kernel
theorem dX12_walk_70 : decode cX12_walk 70 = .ok (.putfield 165, 3) := by decide +kernel
theorem dX12_walk_73 : decode cX12_walk 73 = .ok (.aload_n 0, 1) := by decide +kernel
theorem dX12_walk_74 : decode cX12_walk 74 = .ok (.getfield 41, 3) := by decide +kernel
theorem dX12_walk_77 : decode cX12_walk 77 = .ok (.iload_n 1, 1) := by decide +kernel
theorem dX12_walk_78 : decode cX12_walk 78 = .ok (.iload_n 2, 1) := by decide +kernel
theorem dX12_walk_79 : decode cX12_walk 79 = .ok (.iastore, 1) := by decide +kernel
theorem dX12_walk_80 : decode cX12_walk 80 = .ok (.aload_n 0, 1) := by decide +kernel
theorem dX12_walk_81 : decode cX12_walk 81 = .ok (.getfield 165, 3) := by decide +kernel
theorem dX12_walk_84 : decode cX12_walk 84 = .ok (.ireturn, 1) := by decide +kernel
theorem dX12_carry_0 : decode cX12_carry 0 = .ok (.aload_n 0, 1) := by decide +kernel
theorem dX12_carry_1 : decode cX12_carry 1 = .ok (.iconst 0, 1) := by decide +kernel
theorem dX12_carry_2 : decode cX12_carry 2 = .ok (.putfield 104, 3) := by decide +kernel
theorem dX12_carry_5 : decode cX12_carry 5 = .ok (.iload_n 1, 1) := by decide +kernel
theorem dX12_carry_6 : decode cX12_carry 6 = .ok (.invokestatic 191, 3) := by decide +kernel
theorem dX12_carry_9 : decode cX12_carry 9 = .ok (.ifCond .ne 11, 3) := by decide +kernel
theorem dX12_carry_12 : decode cX12_carry 12 = .ok (.aload_n 0, 1) := by decide +kernel
theorem dX12_carry_13 : decode cX12_carry 13 = .ok (.iload_n 2, 1) := by decide +kernel
theorem dX12_carry_14 : decode cX12_carry 14 = .ok (.invokevirtual 194, 3) := by decide +kernel
theorem dX12_carry_17 : decode cX12_carry 17 = .ok (.ifCond .eq 5, 3) := by decide +kernel
theorem dX12_carry_20 : decode cX12_carry 20 = .ok (.iconst (-1), 1) := by decide +kernel
theorem dX12_carry_21 : decode cX12_carry 21 = .ok (.ireturn, 1) := by decide +kernel
theorem dX12_carry_22 : decode cX12_carry 22 = .ok (.aload_n 0, 1) := by decide +kernel
theorem dX12_carry_23 : decode cX12_carry 23 = .ok (.getfield 41, 3) := by decide +kernel
theorem dX12_carry_26 : decode cX12_carry 26 = .ok (.iconst 0, 1) := by decide +kernel
theorem dX12_carry_27 : decode cX12_carry 27 = .ok (.iaload, 1) := by decide +kernel
theorem dX12_carry_28 : decode cX12_carry 28 = .ok (.aload_n 0, 1) := by decide +kernel
theorem dX12_carry_29 : decode cX12_carry 29 = .ok (.getfield 41, 3) := by decide +kernel
theorem dX12_carry_32 : decode cX12_carry 32 = .ok (.iconst 1, 1) := by decide +kernel
theorem dX12_carry_33 : decode cX12_carry 33 = .ok (.iaload, 1) := by decide +kernel
theorem dX12_carry_34 : decode cX12_carry 34 = .ok (.if_icmp .ne 22, 3) := by decide +kernel
theorem dX12_carry_37 : decode cX12_carry 37 = .ok (.aload_n 0, 1) := by decide +kernel
theorem dX12_carry_38 : decode cX12_carry 38 = .ok (.aload_n 0, 1) := by decide +kernel
theorem dX12_carry_39 : decode cX12_carry 39 = .ok (.getfield 41, 3) := by decide +kernel
theorem dX12_carry_42 : decode cX12_carry 42 = .ok (.iload_n 1, 1) := by decide +kernel
theorem dX12_carry_43 : decode cX12_carry 43 = .ok (.iaload, 1) := by decide +kernel
theorem dX12_carry_44 : decode cX12_carry 44 = .ok (.iload_n 2, 1) := by decide +kernel
theorem dX12_carry_45 : decode cX12_carry 45 = .ok (.iconst 2, 1) := by decide +kernel
theorem dX12_carry_46 : decode cX12_carry 46 = .ok (.aload_n 0, 1) := by decide +kernel
theorem dX12_carry_47 : decode cX12_carry 47 = .ok (.getfield 165, 3) := by decide +kernel
theorem dX12_carry_50 : decode cX12_carry 50 = .ok (.invokevirtual 204, 3) := by decide +kernel
theorem dX12_carry_53 : decode cX12_carry 53 = .ok (.ifCond .ne 6, 3) := by decide +kernel
theorem dX12_carry_56 : decode cX12_carry 56 = .ok (.bipush (-3), 2) := by decide +kernel
theorem dX12_carry_58 : decode cX12_carry 58 = .ok (.ireturn, 1) := by decide +kernel
theorem dX12_carry_59 : decode cX12_carry 59 = .ok (.aload_n 0, 1) := by decide +kernel
theorem dX12_carry_60 : decode cX12_carry 60 = .ok (.invokevirtual 208, 3) := by decide +kernel
theorem dX12_carry_63 : decode cX12_carry 63 = .ok (.aload_n 0, 1) := by decide +kernel
theorem dX12_carry_64 : decode cX12_carry 64 = .ok (.dup, 1) := by decide +kernel
theorem dX12_carry_65 : decode cX12_carry 65 = .ok (.getfield 165, 3) := by decide +kernel
theorem dX12_carry_68 : decode cX12_carry 68 = .ok (.iconst 2, 1) := by decide +kernel
theorem dX12_carry_69 : decode cX12_carry 69 = .ok (.aload_n 0, 1) := by decide +kernel
theorem dX12_carry_70 : decode cX12_carry 70 = .ok (.getfield 17, 3) := by decide +kernel
theorem dX12_carry_73 : decode cX12_carry 73 = .ok (.bipush 6, 2) := by decide +kernel
theorem dX12_carry_75 : decode cX12_carry 75 = .ok (.aload_n 0, 1) := by decide +kernel
theorem dX12_carry_76 : decode cX12_carry 76 = .ok (.getfield 41, 3) := by decide +kernel
theorem dX12_carry_79 : decode cX12_carry 79 = .ok (.iload_n 1, 1) := by decide +kernel
theorem dX12_carry_80 : decode cX12_carry 80 = .ok (.iaload, 1) := by decide +kernel
theorem dX12_carry_81 : decode cX12_carry 81 = .ok (.imul, 1) := by decide +kernel
theorem dX12_carry_82 : decode cX12_carry 82 = .ok (.iload_n 2, 1) := by decide +kernel
theorem dX12_carry_83 : decode cX12_carry 83 = .ok (.iadd, 1) := by decide +kernel
theorem dX12_carry_84 : decode cX12_carry 84 = .ok (.iaload, 1) := by decide +kernel
theorem dX12_carry_85 : decode cX12_carry 85 = .ok (.imul, 1) := by decide +kernel
theorem dX12_carry_86 : decode cX12_carry 86 = .ok (.isub, 1) := by decide +kernel
theorem dX12_carry_87 : decode cX12_carry 87 = .ok (.putfield 165, 3) := by decide +kernel
theorem dX12_carry_90 : decode cX12_carry 90 = .ok (.aload_n 0, 1) := by decide +kernel
theorem dX12_carry_91 : decode cX12_carry 91 = .ok (.getfield 41, 3) := by decide +kernel
theorem dX12_carry_94 : decode cX12_carry 94 = .ok (.iconst 0, 1) := by decide +kernel
theorem dX12_carry_95 : decode cX12_carry 95 = .ok (.iload_n 2, 1) := by decide +kernel
theorem dX12_carry_96 : decode cX12_carry 96 = .ok (.iastore, 1) := by decide +kernel
theorem dX12_carry_97 : decode cX12_carry 97 = .ok (.aload_n 0, 1) := by decide +kernel
theorem dX12_carry_98 : decode cX12_carry 98 = .ok (.getfield 41, 3) := by decide +kernel
theorem dX12_carry_101 : decode cX12_carry 101 = .ok (.iconst 1, 1) := by decide +kernel
theorem dX12_carry_102 : decode cX12_carry 102 = .ok (.iload_n 2, 1) := by decide +kernel
theorem dX12_carry_103 : decode cX12_carry 103 = .ok (.iastore, 1) := by decide +kernel
theorem dX12_carry_104 : decode cX12_carry 104 = .ok (.aload_n 0, 1) := by decide +kernel
theorem dX12_carry_105 : decode cX12_carry 105 = .ok (.getfield 165, 3) := by decide +kernel
theorem dX12_carry_108 : decode cX12_carry 108 = .ok (.ireturn, 1) := by decide +kernel
theorem dX12_canDo_0 : decode cX12_canDo 0 = .ok (.aload_n 0, 1) := by decide +kernel
theorem dX12_canDo_1 : decode cX12_canDo 1 = .ok (.getfield 26, 3) := by decide +kernel
theorem dX12_canDo_4 : decode cX12_canDo 4 = .ok (.iload_n 2, 1) := by decide +kernel
theorem dX12_canDo_5 : decode cX12_canDo 5 = .ok (.iaload, 1) := by decide +kernel
theorem dX12_canDo_6 : decode cX12_canDo 6 = .ok (.iconst 2, 1) := by decide +kernel
theorem dX12_canDo_7 : decode cX12_canDo 7 = .ok (.if_icmp .eq 13, 3) := by decide +kernel
theorem dX12_canDo_10 : decode cX12_canDo 10 = .ok (.aload_n 0, 1) := by decide +kernel
theorem dX12_canDo_11 : decode cX12_canDo 11 = .ok (.getfield 26, 3) := by decide +kernel
theorem dX12_canDo_14 : decode cX12_canDo 14 = .ok (.iload_n 2, 1) := by decide +kernel
theorem dX12_canDo_15 : decode cX12_canDo 15 = .ok (.iaload, 1) := by decide +kernel
theorem dX12_canDo_16 : decode cX12_canDo 16 = .ok (.iload_n 1, 1) := by decide +kernel
theorem dX12_canDo_17 : decode cX12_canDo 17 = .ok (.if_icmp .ne 7, 3) := by decide +kernel
theorem dX12_canDo_20 : decode cX12_canDo 20 = .ok (.iconst 1, 1) := by decide +kernel
theorem dX12_canDo_21 : decode cX12_canDo 21 = .ok (.goto 4, 3) := by decide +kernel
theorem dX12_canDo_24 : decode cX12_canDo 24 = .ok (.iconst 0, 1) := by decide +kernel
theorem dX12_canDo_25 : decode cX12_canDo 25 = .ok (.ireturn, 1) := by decide +kernel
theorem dX12_done_0 : decode cX12_done 0 = .ok (.aload_n 0, 1) := by decide +kernel
theorem dX12_done_1 : decode cX12_done 1 = .ok (.iconst 0, 1) := by decide +kernel
theorem dX12_done_2 : decode cX12_done 2 = .ok (.putfield 104, 3) := by decide +kernel
theorem dX12_done_5 : decode cX12_done 5 = .ok (.iload_n 1, 1) := by decide +kernel
theorem dX12_done_6 : decode cX12_done 6 = .ok (.invokestatic 191, 3) := by decide +kernel
theorem dX12_done_9 : decode cX12_done 9 = .ok (.ifCond .ne 11, 3) := by decide +kernel
theorem dX12_done_12 : decode cX12_done 12 = .ok (.aload_n 0, 1) := by decide +kernel
theorem dX12_done_13 : decode cX12_done 13 = .ok (.iload_n 2, 1) := by decide +kernel
theorem dX12_done_14 : decode cX12_done 14 = .ok (.invokevirtual 197, 3) := by decide +kernel
theorem dX12_done_17 : decode cX12_done 17 = .ok (.ifCond .eq 5, 3) := by decide +kernel
theorem dX12_done_20 : decode cX12_done 20 = .ok (.iconst (-1), 1) := by decide +kernel
theorem dX12_done_21 : decode cX12_done 21 = .ok (.ireturn, 1) := by decide +kernel
theorem dX12_done_22 : decode cX12_done 22 = .ok (.aload_n 0, 1) := by decide +kernel
theorem dX12_done_23 : decode cX12_done 23 = .ok (.getfield 168, 3) := by decide +kernel
theorem dX12_done_26 : decode cX12_done 26 = .ok (.iload_n 2, 1) := by decide +kernel
theorem dX12_done_27 : decode cX12_done 27 = .ok (.invokestatic 180, 3) := by decide +kernel
theorem dX12_done_30 : decode cX12_done 30 = .ok (.ifCond .ne 27, 3) := by decide +kernel
theorem dX12_done_33 : decode cX12_done 33 = .ok (.aload_n 0, 1) := by decide +kernel
theorem dX12_done_34 : decode cX12_done 34 = .ok (.iload_n 1, 1) := by decide +kernel
theorem dX12_done_35 : decode cX12_done 35 = .ok (.iload_n 2, 1) := by decide +kernel
theorem dX12_done_36 : decode cX12_done 36 = .ok (.invokevirtual 211, 3) := by decide +kernel
theorem dX12_done_39 : decode cX12_done 39 = .ok (.ifCond .eq 18, 3) := by decide +kernel
theorem dX12_done_42 : decode cX12_done 42 = .ok (.aload_n 0, 1) := by decide +kernel
theorem dX12_done_43 : decode cX12_done 43 = .ok (.getfield 41, 3) := by decide +kernel
theorem dX12_done_46 : decode cX12_done 46 = .ok (.iload_n 1, 1) := by decide +kernel
theorem dX12_done_47 : decode cX12_done 47 = .ok (.iaload, 1) := by decide +kernel
theorem dX12_done_48 : decode cX12_done 48 = .ok (.aload_n 0, 1) := by decide +kernel
theorem dX12_done_49 : decode cX12_done 49 = .ok (.getfield 20, 3) := by decide +kernel
theorem dX12_done_52 : decode cX12_done 52 = .ok (.iload_n 2, 1) := by decide +kernel
theorem dX12_done_53 : decode cX12_done 53 = .ok (.iaload, 1) := by decide +kernel
theorem dX12_done_54 : decode cX12_done 54 = .ok (.if_icmp .eq 6, 3) := by decide +kernel
theorem dX12_done_57 : decode cX12_done 57 = .ok (.bipush (-3), 2) := by decide +kernel
theorem dX12_done_59 : decode cX12_done 59 = .ok (.ireturn, 1) := by decide +kernel
theorem dX12_done_60 : decode cX12_done 60 = .ok (.aload_n 0, 1) := by decide +kernel
theorem dX12_done_61 : decode cX12_done 61 = .ok (.invokevirtual 208, 3) := by decide +kernel
theorem dX12_done_64 : decode cX12_done 64 = .ok (.aload_n 0, 1) := by decide +kernel
theorem dX12_done_65 : decode cX12_done 65 = .ok (.dup, 1) := by decide +kernel
theorem dX12_done_66 : decode cX12_done 66 = .ok (.getfield 168, 3) := by decide +kernel
theorem dX12_done_69 : decode cX12_done 69 = .ok (.iconst 1, 1) := by decide +kernel
theorem dX12_done_70 : decode cX12_done 70 = .ok (.iload_n 2, 1) := by decide +kernel
theorem dX12_done_71 : decode cX12_done 71 = .ok (.ishl, 1) := by decide +kernel
theorem dX12_done_72 : decode cX12_done 72 = .ok (.ior, 1) := by decide +kernel
theorem dX12_done_73 : decode cX12_done 73 = .ok (.putfield 168, 3) := by decide +kernel
theorem dX12_done_76 : decode cX12_done 76 = .ok (.aload_n 0, 1) := by decide +kernel
theorem dX12_done_77 : decode cX12_done 77 = .ok (.dup, 1) := by decide +kernel
theorem dX12_done_78 : decode cX12_done 78 = .ok (.getfield 171, 3) := by decide +kernel
theorem dX12_done_81 : decode cX12_done 81 = .ok (.iload_n 1, 1) := by decide +kernel
theorem dX12_done_82 : decode cX12_done 82 = .ok (.iload_n 2, 1) := by decide +kernel
theorem dX12_done_83 : decode cX12_done 83 = .ok (.ishl, 1) := by decide +kernel
theorem dX12_done_84 : decode cX12_done 84 = .ok (.ior, 1) := by decide +kernel
theorem dX12_done_85 : decode cX12_done 85 = .ok (.putfield 171, 3) := by decide +kernel
theorem dX12_done_88 : decode cX12_done 88 = .ok (.aload_n 0, 1) := by decide +kernel
theorem dX12_done_89 : decode cX12_done 89 = .ok (.getfield 23, 3) := by decide +kernel
theorem dX12_done_92 : decode cX12_done 92 = .ok (.iload_n 2, 1) := by decide +kernel
theorem dX12_done_93 : decode cX12_done 93 = .ok (.iaload, 1) := by decide +kernel
theorem dX12_done_94 : decode cX12_done 94 = .ok (.ireturn, 1) := by decide +kernel
theorem dX12_loan_0 : decode cX12_loan 0 = .ok (.aload_n 0, 1) := by decide +kernel
theorem dX12_loan_1 : decode cX12_loan 1 = .ok (.iconst 0, 1) := by decide +kernel
theorem dX12_loan_2 : decode cX12_loan 2 = .ok (.putfield 104, 3) := by decide +kernel
theorem dX12_loan_5 : decode cX12_loan 5 = .ok (.iload_n 1, 1) := by decide +kernel
theorem dX12_loan_6 : decode cX12_loan 6 = .ok (.i2l, 1) := by decide +kernel
theorem dX12_loan_7 : decode cX12_loan 7 = .ok (.lconst 1, 1) := by decide +kernel
theorem dX12_loan_8 : decode cX12_loan 8 = .ok (.ldc2_w 214, 3) := by decide +kernel
theorem dX12_loan_11 : decode cX12_loan 11 = .ok (.invokestatic 107, 3) := by decide +kernel
theorem dX12_loan_14 : decode cX12_loan 14 = .ok (.ifCond .ne 6, 3) := by decide +kernel
theorem dX12_loan_17 : decode cX12_loan 17 = .ok (.bipush (-2), 2) := by decide +kernel
theorem dX12_loan_19 : decode cX12_loan 19 = .ok (.ireturn, 1) := by decide +kernel
theorem dX12_loan_20 : decode cX12_loan 20 = .ok (.iload_n 2, 1) := by decide +kernel
theorem dX12_loan_21 : decode cX12_loan 21 = .ok (.ifCond .ne 14, 3) := by decide +kernel
theorem dX12_loan_24 : decode cX12_loan 24 = .ok (.aload_n 0, 1) := by decide +kernel
theorem dX12_loan_25 : decode cX12_loan 25 = .ok (.getfield 165, 3) := by decide +kernel
theorem dX12_loan_28 : decode cX12_loan 28 = .ok (.iload_n 1, 1) := by decide +kernel
theorem dX12_loan_29 : decode cX12_loan 29 = .ok (.if_icmp .ge 6, 3) := by decide +kernel
theorem dX12_loan_32 : decode cX12_loan 32 = .ok (.bipush (-3), 2) := by decide +kernel
theorem dX12_loan_34 : decode cX12_loan 34 = .ok (.ireturn, 1) := by decide +kernel
theorem dX12_loan_35 : decode cX12_loan 35 = .ok (.aload_n 0, 1) := by decide +kernel
theorem dX12_loan_36 : decode cX12_loan 36 = .ok (.getfield 174, 3) := by decide +kernel
theorem dX12_loan_39 : decode cX12_loan 39 = .ok (.bipush 8, 2) := by decide +kernel
theorem dX12_loan_41 : decode cX12_loan 41 = .ok (.if_icmp .ne 6, 3) := by decide +kernel
theorem dX12_loan_44 : decode cX12_loan 44 = .ok (.bipush (-4), 2) := by decide +kernel
theorem dX12_loan_46 : decode cX12_loan 46 = .ok (.ireturn, 1) := by decide +kernel
theorem dX12_loan_47 : decode cX12_loan 47 = .ok (.aload_n 0, 1) := by decide +kernel
theorem dX12_loan_48 : decode cX12_loan 48 = .ok (.invokevirtual 208, 3) := by decide +kernel
theorem dX12_loan_51 : decode cX12_loan 51 = .ok (.aload_n 0, 1) := by decide +kernel
theorem dX12_loan_52 : decode cX12_loan 52 = .ok (.getfield 44, 3) := by decide +kernel
theorem dX12_loan_55 : decode cX12_loan 55 = .ok (.aload_n 0, 1) := by decide +kernel
theorem dX12_loan_56 : decode cX12_loan 56 = .ok (.getfield 174, 3) := by decide +kernel
theorem dX12_loan_59 : decode cX12_loan 59 = .ok (.iload_n 2, 1) := by decide +kernel
theorem dX12_loan_60 : decode cX12_loan 60 = .ok (.ifCond .eq 8, 3) := by decide +kernel
theorem dX12_loan_63 : decode cX12_loan 63 = .ok (.iload_n 1, 1) := by decide +kernel
theorem dX12_loan_64 : decode cX12_loan 64 = .ok (.ineg, 1) := by decide +kernel
theorem dX12_loan_65 : decode cX12_loan 65 = .ok (.goto 4, 3) := by decide +kernel
theorem dX12_loan_68 : decode cX12_loan 68 = .ok (.iload_n 1, 1) := by decide +kernel
theorem dX12_loan_69 : decode cX12_loan 69 = .ok (.iastore, 1) := by decide +kernel
theorem dX12_loan_70 : decode cX12_loan 70 = .ok (.aload_n 0, 1) := by decide +kernel
theorem dX12_loan_71 : decode cX12_loan 71 = .ok (.dup, 1) := by decide +kernel
theorem dX12_loan_72 : decode cX12_loan 72 = .ok (.getfield 174, 3) := by decide +kernel
theorem dX12_loan_75 : decode cX12_loan 75 = .ok (.iconst 1, 1) := by decide +kernel
theorem dX12_loan_76 : decode cX12_loan 76 = .ok (.iadd, 1) := by decide +kernel
theorem dX12_loan_77 : decode cX12_loan 77 = .ok (.putfield 174, 3) := by decide +kernel
theorem dX12_loan_80 : decode cX12_loan 80 = .ok (.aload_n 0, 1) := by decide +kernel
theorem dX12_loan_81 : decode cX12_loan 81 = .ok (.dup, 1) := by decide +kernel
theorem dX12_loan_82 : decode cX12_loan 82 = .ok (.getfield 165, 3) := by decide +kernel
theorem dX12_loan_85 : decode cX12_loan 85 = .ok (.iload_n 2, 1) := by decide +kernel
theorem dX12_loan_86 : decode cX12_loan 86 = .ok (.ifCond .eq 7, 3) := by decide +kernel
theorem dX12_loan_89 : decode cX12_loan 89 = .ok (.iload_n 1, 1) := by decide +kernel
theorem dX12_loan_90 : decode cX12_loan 90 = .ok (.goto 5, 3) := by decide +kernel
theorem dX12_loan_93 : decode cX12_loan 93 = .ok (.iload_n 1, 1) := by decide +kernel
theorem dX12_loan_94 : decode cX12_loan 94 = .ok (.ineg, 1) := by decide +kernel
theorem dX12_loan_95 : decode cX12_loan 95 = .ok (.iadd, 1) := by decide +kernel
theorem dX12_loan_96 : decode cX12_loan 96 = .ok (.putfield 165, 3) := by decide +kernel
theorem dX12_loan_99 : decode cX12_loan 99 = .ok (.aload_n 0, 1) := by decide +kernel
theorem dX12_loan_100 : decode cX12_loan 100 = .ok (.getfield 165, 3) := by decide +kernel
theorem dX12_loan_103 : decode cX12_loan 103 = .ok (.ireturn, 1) := by decide +kernel
theorem dX12_back_0 : decode cX12_back 0 = .ok (.aload_n 0, 1) := by decide +kernel
theorem dX12_back_1 : decode cX12_back 1 = .ok (.iconst 0, 1) := by decide +kernel
theorem dX12_back_2 : decode cX12_back 2 = .ok (.putfield 104, 3) := by decide +kernel
theorem dX12_back_5 : decode cX12_back 5 = .ok (.aload_n 0, 1) := by decide +kernel
theorem dX12_back_6 : decode cX12_back 6 = .ok (.getfield 174, 3) := by decide +kernel
theorem dX12_back_9 : decode cX12_back 9 = .ok (.ifCond .eq 28, 3) := by decide +kernel
theorem dX12_back_12 : decode cX12_back 12 = .ok (.aload_n 0, 1) := by decide +kernel
theorem dX12_back_13 : decode cX12_back 13 = .ok (.getfield 44, 3) := by decide +kernel
theorem dX12_back_16 : decode cX12_back 16 = .ok (.iconst 0, 1) := by decide +kernel
theorem dX12_back_17 : decode cX12_back 17 = .ok (.iaload, 1) := by decide +kernel
theorem dX12_back_18 : decode cX12_back 18 = .ok (.ifCond .ge 22, 3) := by decide +kernel
theorem dX12_back_21 : decode cX12_back 21 = .ok (.aload_n 0, 1) := by decide +kernel
theorem dX12_back_22 : decode cX12_back 22 = .ok (.getfield 165, 3) := by decide +kernel
theorem dX12_back_25 : decode cX12_back 25 = .ok (.aload_n 0, 1) := by decide +kernel
theorem dX12_back_26 : decode cX12_back 26 = .ok (.getfield 44, 3) := by decide +kernel
theorem dX12_back_29 : decode cX12_back 29 = .ok (.iconst 0, 1) := by decide +kernel
theorem dX12_back_30 : decode cX12_back 30 = .ok (.iaload, 1) := by decide +kernel
theorem dX12_back_31 : decode cX12_back 31 = .ok (.invokestatic 184, 3) := by decide +kernel
theorem dX12_back_34 : decode cX12_back 34 = .ok (.if_icmp .ge 6, 3) := by decide +kernel
theorem dX12_back_37 : decode cX12_back 37 = .ok (.bipush (-3), 2) := by decide +kernel
theorem dX12_back_39 : decode cX12_back 39 = .ok (.ireturn, 1) := by decide +kernel
theorem dX12_back_40 : decode cX12_back 40 = .ok (.aload_n 0, 1) := by decide +kernel
theorem dX12_back_41 : decode cX12_back 41 = .ok (.invokevirtual 208, 3) := by decide +kernel
theorem dX12_back_44 : decode cX12_back 44 = .ok (.aload_n 0, 1) := by decide +kernel
theorem dX12_back_45 : decode cX12_back 45 = .ok (.dup, 1) := by decide +kernel
theorem dX12_back_46 : decode cX12_back 46 = .ok (.getfield 165, 3) := by decide +kernel
theorem dX12_back_49 : decode cX12_back 49 = .ok (.aload_n 0, 1) := by decide +kernel
theorem dX12_back_50 : decode cX12_back 50 = .ok (.getfield 44, 3) := by decide +kernel
theorem dX12_back_53 : decode cX12_back 53 = .ok (.iconst 0, 1) := by decide +kernel
theorem dX12_back_54 : decode cX12_back 54 = .ok (.iaload, 1) := by decide +kernel
theorem dX12_back_55 : decode cX12_back 55 = .ok (.ifCond .le 15, 3) := by decide +kernel
theorem dX12_back_58 : decode cX12_back 58 = .ok (.aload_n 0, 1) := by decide +kernel
theorem dX12_back_59 : decode cX12_back 59 = .ok (.getfield 44, 3) := by decide +kernel
theorem dX12_back_62 : decode cX12_back 62 = .ok (.iconst 0, 1) := by decide +kernel
theorem dX12_back_63 : decode cX12_back 63 = .ok (.iaload, 1) := by decide +kernel
theorem dX12_back_64 : decode cX12_back 64 = .ok (.invokestatic 184, 3) := by decide +kernel
theorem dX12_back_67 : decode cX12_back 67 = .ok (.goto 13, 3) := by decide +kernel
theorem dX12_back_70 : decode cX12_back 70 = .ok (.aload_n 0, 1) := by decide +kernel
theorem dX12_back_71 : decode cX12_back 71 = .ok (.getfield 44, 3) := by decide +kernel
theorem dX12_back_74 : decode cX12_back 74 = .ok (.iconst 0, 1) := by decide +kernel
theorem dX12_back_75 : decode cX12_back 75 = .ok (.iaload, 1) := by decide +kernel
theorem dX12_back_76 : decode cX12_back 76 = .ok (.invokestatic 184, 3) := by decide +kernel
theorem dX12_back_79 : decode cX12_back 79 = .ok (.ineg, 1) := by decide +kernel
theorem dX12_back_80 : decode cX12_back 80 = .ok (.iadd, 1) := by decide +kernel
theorem dX12_back_81 : decode cX12_back 81 = .ok (.putfield 165, 3) := by decide +kernel
theorem dX12_back_84 : decode cX12_back 84 = .ok (.aload_n 0, 1) := by decide +kernel
theorem dX12_back_85 : decode cX12_back 85 = .ok (.dup, 1) := by decide +kernel
theorem dX12_back_86 : decode cX12_back 86 = .ok (.getfield 174, 3) := by decide +kernel
theorem dX12_back_89 : decode cX12_back 89 = .ok (.iconst 1, 1) := by decide +kernel
theorem dX12_back_90 : decode cX12_back 90 = .ok (.isub, 1) := by decide +kernel
theorem dX12_back_91 : decode cX12_back 91 = .ok (.putfield 174, 3) := by decide +kernel
theorem dX12_back_94 : decode cX12_back 94 = .ok (.iconst 0, 1) := by decide +kernel
theorem dX12_back_95 : decode cX12_back 95 = .ok (.istore_n 1, 1) := by decide +kernel
theorem dX12_back_96 : decode cX12_back 96 = .ok (.iload_n 1, 1) := by decide +kernel
theorem dX12_back_97 : decode cX12_back 97 = .ok (.aload_n 0, 1) := by decide +kernel
theorem dX12_back_98 : decode cX12_back 98 = .ok (.getfield 174, 3) := by decide +kernel
theorem dX12_back_101 : decode cX12_back 101 = .ok (.if_icmp .ge 23, 3) := by decide +kernel
theorem dX12_back_104 : decode cX12_back 104 = .ok (.aload_n 0, 1) := by decide +kernel
theorem dX12_back_105 : decode cX12_back 105 = .ok (.getfield 44, 3) := by decide +kernel
theorem dX12_back_108 : decode cX12_back 108 = .ok (.iload_n 1, 1) := by decide +kernel
theorem dX12_back_109 : decode cX12_back 109 = .ok (.aload_n 0, 1) := by decide +kernel
theorem dX12_back_110 : decode cX12_back 110 = .ok (.getfield 44, 3) := by decide +kernel
theorem dX12_back_113 : decode cX12_back 113 = .ok (.iload_n 1, 1) := by decide +kernel
theorem dX12_back_114 : decode cX12_back 114 = .ok (.iconst 1, 1) := by decide +kernel
theorem dX12_back_115 : decode cX12_back 115 = .ok (.iadd, 1) := by decide +kernel
theorem dX12_back_116 : decode cX12_back 116 = .ok (.iaload, 1) := by decide +kernel
theorem dX12_back_117 : decode cX12_back 117 = .ok (.iastore, 1) := by decide +kernel
theorem dX12_back_118 : decode cX12_back 118 = .ok (.iinc 1 1, 3) := by decide +kernel
theorem dX12_back_121 : decode cX12_back 121 = .ok (.goto (-25), 3) := by decide +kernel
theorem dX12_back_124 : decode cX12_back 124 = .ok (.aload_n 0, 1) := by decide +kernel
theorem dX12_back_125 : decode cX12_back 125 = .ok (.getfield 165, 3) := by decide +kernel
theorem dX12_back_128 : decode cX12_back 128 = .ok (.ireturn, 1) := by decide +kernel
theorem dX12_undo_0 : decode cX12_undo 0 = .ok (.aload_n 0, 1) := by decide +kernel
theorem dX12_undo_1 : decode cX12_undo 1 = .ok (.iconst 0, 1) := by decide +kernel
theorem dX12_undo_2 : decode cX12_undo 2 = .ok (.putfield 104, 3) := by decide +kernel
theorem dX12_undo_5 : decode cX12_undo 5 = .ok (.aload_n 0, 1) := by decide +kernel
theorem dX12_undo_6 : decode cX12_undo 6 = .ok (.getfield 177, 3) := by decide +kernel
theorem dX12_undo_9 : decode cX12_undo 9 = .ok (.ifCond .ne 6, 3) := by decide +kernel
theorem dX12_undo_12 : decode cX12_undo 12 = .ok (.bipush (-3), 2) := by decide +kernel
theorem dX12_undo_14 : decode cX12_undo 14 = .ok (.ireturn, 1) := by decide +kernel
theorem dX12_undo_15 : decode cX12_undo 15 = .ok (.aload_n 0, 1) := by decide +kernel
theorem dX12_undo_16 : decode cX12_undo 16 = .ok (.dup, 1) := by decide +kernel
theorem dX12_undo_17 : decode cX12_undo 17 = .ok (.getfield 177, 3) := by decide +kernel
theorem dX12_undo_20 : decode cX12_undo 20 = .ok (.iconst 1, 1) := by decide +kernel
theorem dX12_undo_21 : decode cX12_undo 21 = .ok (.isub, 1) := by decide +kernel
theorem dX12_undo_22 : decode cX12_undo 22 = .ok (.putfield 177, 3) := by decide +kernel
theorem dX12_undo_25 : decode cX12_undo 25 = .ok (.aload_n 0, 1) := by decide +kernel
theorem dX12_undo_26 : decode cX12_undo 26 = .ok (.aload_n 0, 1) := by decide +kernel
theorem dX12_undo_27 : decode cX12_undo 27 = .ok (.getfield 47, 3) := by decide +kernel
theorem dX12_undo_30 : decode cX12_undo 30 = .ok (.bipush 28, 2) := by decide +kernel
theorem dX12_undo_32 : decode cX12_undo 32 = .ok (.aload_n 0, 1) := by decide +kernel
theorem dX12_undo_33 : decode cX12_undo 33 = .ok (.getfield 177, 3) := by decide +kernel
theorem dX12_undo_36 : decode cX12_undo 36 = .ok (.imul, 1) := by decide +kernel
theorem dX12_undo_37 : decode cX12_undo 37 = .ok (.invokevirtual 216, 3) := by decide +kernel
theorem dX12_undo_40 : decode cX12_undo 40 = .ok (.aload_n 0, 1) := by decide +kernel
theorem dX12_undo_41 : decode cX12_undo 41 = .ok (.getfield 177, 3) := by decide +kernel
theorem dX12_undo_44 : decode cX12_undo 44 = .ok (.ireturn, 1) := by decide +kernel
theorem dX12_judge_0 : decode cX12_judge 0 = .ok (.aload_n 0, 1) := by decide +kernel
theorem dX12_judge_1 : decode cX12_judge 1 = .ok (.iconst 0, 1) := by decide +kernel
theorem dX12_judge_2 : decode cX12_judge 2 = .ok (.putfield 104, 3) := by decide +kernel
theorem dX12_judge_5 : decode cX12_judge 5 = .ok (.iload_n 1, 1) := by decide +kernel
theorem dX12_judge_6 : decode cX12_judge 6 = .ok (.invokestatic 191, 3) := by decide +kernel
theorem dX12_judge_9 : decode cX12_judge 9 = .ok (.ifCond .eq 5, 3) := by decide +kernel
theorem dX12_judge_12 : decode cX12_judge 12 = .ok (.iconst (-1), 1) := by decide +kernel
theorem dX12_judge_13 : decode cX12_judge 13 = .ok (.ireturn, 1) := by decide +kernel
theorem dX12_judge_14 : decode cX12_judge 14 = .ok (.iload_n 2, 1) := by decide +kernel
theorem dX12_judge_15 : decode cX12_judge 15 = .ok (.i2l, 1) := by decide +kernel
theorem dX12_judge_16 : decode cX12_judge 16 = .ok (.lconst 1, 1) := by decide +kernel
theorem dX12_judge_17 : decode cX12_judge 17 = .ok (.ldc2_w 114, 3) := by decide +kernel
theorem dX12_judge_20 : decode cX12_judge 20 = .ok (.invokestatic 107, 3) := by decide +kernel
theorem dX12_judge_23 : decode cX12_judge 23 = .ok (.ifCond .ne 6, 3) := by decide +kernel
theorem dX12_judge_26 : decode cX12_judge 26 = .ok (.bipush (-2), 2) := by decide +kernel
theorem dX12_judge_28 : decode cX12_judge 28 = .ok (.ireturn, 1) := by decide +kernel
theorem dX12_judge_29 : decode cX12_judge 29 = .ok (.iconst 1, 1) := by decide +kernel
theorem dX12_judge_30 : decode cX12_judge 30 = .ok (.istore 4, 2) := by decide +kernel
theorem dX12_judge_32 : decode cX12_judge 32 = .ok (.iconst 0, 1) := by decide +kernel
theorem dX12_judge_33 : decode cX12_judge 33 = .ok (.istore 5, 2) := by decide +kernel
theorem dX12_judge_35 : decode cX12_judge 35 = .ok (.iload 5, 2) := by decide +kernel
theorem dX12_judge_37 : decode cX12_judge 37 = .ok (.iload_n 2, 1) := by decide +kernel
theorem dX12_judge_38 : decode cX12_judge 38 = .ok (.if_icmp .ge 16, 3) := by decide +kernel
theorem dX12_judge_41 : decode cX12_judge 41 = .ok (.iload 4, 2) := by decide +kernel
theorem dX12_judge_43 : decode cX12_judge 43 = .ok (.bipush 10, 2) := by decide +kernel
theorem dX12_judge_45 : decode cX12_judge 45 = .ok (.imul, 1) := by decide +kernel
theorem dX12_judge_46 : decode cX12_judge 46 = .ok (.istore 4, 2) := by decide +kernel
theorem dX12_judge_48 : decode cX12_judge 48 = .ok (.iinc 5 1, 3) := by decide +kernel
theorem dX12_judge_51 : decode cX12_judge 51 = .ok (.goto (-16), 3) := by decide +kernel
theorem dX12_judge_54 : decode cX12_judge 54 = .ok (.iload_n 3, 1) := by decide +kernel
theorem dX12_judge_55 : decode cX12_judge 55 = .ok (.i2l, 1) := by decide +kernel
theorem dX12_judge_56 : decode cX12_judge 56 = .ok (.lconst 0, 1) := by decide +kernel
theorem dX12_judge_57 : decode cX12_judge 57 = .ok (.iload 4, 2) := by decide +kernel
theorem dX12_judge_59 : decode cX12_judge 59 = .ok (.iconst 1, 1) := by decide +kernel
theorem dX12_judge_60 : decode cX12_judge 60 = .ok (.isub, 1) := by decide +kernel
theorem dX12_judge_61 : decode cX12_judge 61 = .ok (.i2l, 1) := by decide +kernel
theorem dX12_judge_62 : decode cX12_judge 62 = .ok (.invokestatic 107, 3) := by decide +kernel
theorem dX12_judge_65 : decode cX12_judge 65 = .ok (.ifCond .ne 6, 3) := by decide +kernel
theorem dX12_judge_68 : decode cX12_judge 68 = .ok (.bipush (-2), 2) := by decide +kernel
theorem dX12_judge_70 : decode cX12_judge 70 = .ok (.ireturn, 1) := by decide +kernel
theorem dX12_judge_71 : decode cX12_judge 71 = .ok (.aload_n 0, 1) := by decide +kernel
theorem dX12_judge_72 : decode cX12_judge 72 = .ok (.getfield 41, 3) := by decide +kernel
theorem dX12_judge_75 : decode cX12_judge 75 = .ok (.iload_n 1, 1) := by decide +kernel
theorem dX12_judge_76 : decode cX12_judge 76 = .ok (.iaload, 1) := by decide +kernel
theorem dX12_judge_77 : decode cX12_judge 77 = .ok (.istore 5, 2) := by decide +kernel
theorem dX12_judge_79 : decode cX12_judge 79 = .ok (.aload_n 0, 1) := by decide +kernel
theorem dX12_judge_80 : decode cX12_judge 80 = .ok (.getfield 165, 3) := by decide +kernel
theorem dX12_judge_83 : decode cX12_judge 83 = .ok (.istore 6, 2) := by decide +kernel
theorem dX12_judge_85 : decode cX12_judge 85 = .ok (.iconst 0, 1) := by decide +kernel
theorem dX12_judge_86 : decode cX12_judge 86 = .ok (.istore 7, 2) := by decide +kernel
theorem dX12_judge_88 : decode cX12_judge 88 = .ok (.iload 7, 2) := by decide +kernel
theorem dX12_judge_90 : decode cX12_judge 90 = .ok (.iload_n 2, 1) := by decide +kernel
theorem dX12_judge_91 : decode cX12_judge 91 = .ok (.if_icmp .ge 73, 3) := by decide +kernel
theorem dX12_judge_94 : decode cX12_judge 94 = .ok (.iload 4, 2) := by decide +kernel
theorem dX12_judge_96 : decode cX12_judge 96 = .ok (.bipush 10, 2) := by decide +kernel
theorem dX12_judge_98 : decode cX12_judge 98 = .ok (.idiv, 1) := by decide +kernel
theorem dX12_judge_99 : decode cX12_judge 99 = .ok (.istore 4, 2) := by decide +kernel
theorem dX12_judge_101 : decode cX12_judge 101 = .ok (.iload_n 3, 1) := by decide +kernel
theorem dX12_judge_102 : decode cX12_judge 102 = .ok (.iload 4, 2) := by decide +kernel
theorem dX12_judge_104 : decode cX12_judge 104 = .ok (.idiv, 1) := by decide +kernel
theorem dX12_judge_105 : decode cX12_judge 105 = .ok (.bipush 10, 2) := by decide +kernel
theorem dX12_judge_107 : decode cX12_judge 107 = .ok (.irem, 1) := by decide +kernel
theorem dX12_judge_108 : decode cX12_judge 108 = .ok (.istore 8, 2) := by decide +kernel
theorem dX12_judge_110 : decode cX12_judge 110 = .ok (.aload_n 0, 1) := by decide +kernel
theorem dX12_judge_111 : decode cX12_judge 111 = .ok (.iload 8, 2) := by decide +kernel
theorem dX12_judge_113 : decode cX12_judge 113 = .ok (.invokevirtual 194, 3) := by decide +kernel
theorem dX12_judge_116 : decode cX12_judge 116 = .ok (.ifCond .ne 17, 3) := by decide +kernel
theorem dX12_judge_119 : decode cX12_judge 119 = .ok (.aload_n 0, 1) := by decide +kernel
theorem dX12_judge_120 : decode cX12_judge 120 = .ok (.iload 5, 2) := by decide +kernel
theorem dX12_judge_122 : decode cX12_judge 122 = .ok (.iload 8, 2) := by decide +kernel
theorem dX12_judge_124 : decode cX12_judge 124 = .ok (.iconst 1, 1) := by decide +kernel
theorem dX12_judge_125 : decode cX12_judge 125 = .ok (.iload 6, 2) := by decide +kernel
theorem dX12_judge_127 : decode cX12_judge 127 = .ok (.invokevirtual 204, 3) := by decide +kernel
theorem dX12_judge_130 : decode cX12_judge 130 = .ok (.ifCond .ne 6, 3) := by decide +kernel
theorem dX12_judge_133 : decode cX12_judge 133 = .ok (.iload 7, 2) := by decide +kernel
theorem dX12_judge_135 : decode cX12_judge 135 = .ok (.ireturn, 1) := by decide +kernel
theorem dX12_judge_136 : decode cX12_judge 136 = .ok (.iload 6, 2) := by decide +kernel
theorem dX12_judge_138 : decode cX12_judge 138 = .ok (.aload_n 0, 1) := by decide +kernel
theorem dX12_judge_139 : decode cX12_judge 139 = .ok (.getfield 17, 3) := by decide +kernel
theorem dX12_judge_142 : decode cX12_judge 142 = .ok (.bipush 6, 2) := by decide +kernel
theorem dX12_judge_144 : decode cX12_judge 144 = .ok (.iload 5, 2) := by decide +kernel
theorem dX12_judge_146 : decode cX12_judge 146 = .ok (.imul, 1) := by decide +kernel
theorem dX12_judge_147 : decode cX12_judge 147 = .ok (.iload 8, 2) := by decide +kernel
theorem dX12_judge_149 : decode cX12_judge 149 = .ok (.iadd, 1) := by decide +kernel
theorem dX12_judge_150 : decode cX12_judge 150 = .ok (.iaload, 1) := by decide +kernel
theorem dX12_judge_151 : decode cX12_judge 151 = .ok (.isub, 1) := by decide +kernel
theorem dX12_judge_152 : decode cX12_judge 152 = .ok (.istore 6, 2) := by decide +kernel
theorem dX12_judge_154 : decode cX12_judge 154 = .ok (.iload 8, 2) := by decide +kernel
theorem dX12_judge_156 : decode cX12_judge 156 = .ok (.istore 5, 2) := by decide +kernel
theorem dX12_judge_158 : decode cX12_judge 158 = .ok (.iinc 7 1, 3) := by decide +kernel
theorem dX12_judge_161 : decode cX12_judge 161 = .ok (.goto (-73), 3) := by decide +kernel
theorem dX12_judge_164 : decode cX12_judge 164 = .ok (.bipush (-9), 2) := by decide +kernel
theorem dX12_judge_166 : decode cX12_judge 166 = .ok (.ireturn, 1) := by decide +kernel
theorem dX12_layTours_0 : decode cX12_layTours 0 = .ok (.iconst 0, 1) := by decide +kernel
theorem dX12_layTours_1 : decode cX12_layTours 1 = .ok (.istore 4, 2) := by decide +kernel
theorem dX12_layTours_3 : decode cX12_layTours 3 = .ok (.iload 4, 2) := by decide +kernel
theorem dX12_layTours_5 : decode cX12_layTours 5 = .ok (.bipush 64, 2) := by decide +kernel
theorem dX12_layTours_7 : decode cX12_layTours 7 = .ok (.if_icmp .ge 292, 3) := by decide +kernel
theorem dX12_layTours_10 : decode cX12_layTours 10 = .ok (.iload 4, 2) := by decide +kernel
theorem dX12_layTours_12 : decode cX12_layTours 12 = .ok (.ifCond .ne 17, 3) := by decide +kernel
theorem dX12_layTours_15 : decode cX12_layTours 15 = .ok (.aload_n 0, 1) := by decide +kernel
theorem dX12_layTours_16 : decode cX12_layTours 16 = .ok (.getfield 17, 3) := by decide +kernel
theorem dX12_layTours_19 : decode cX12_layTours 19 = .ok (.bipush 6, 2) := by decide +kernel
theorem dX12_layTours_21 : decode cX12_layTours 21 = .ok (.iload_n 2, 1) := by decide +kernel
theorem dX12_layTours_22 : decode cX12_layTours 22 = .ok (.imul, 1) := by decide +kernel
theorem dX12_layTours_23 : decode cX12_layTours 23 = .ok (.iload_n 3, 1) := by decide +kernel
theorem dX12_layTours_24 : decode cX12_layTours 24 = .ok (.iadd, 1) := by decide +kernel
theorem dX12_layTours_25 : decode cX12_layTours 25 = .ok (.iaload, 1) := by decide +kernel
theorem dX12_layTours_26 : decode cX12_layTours 26 = .ok (.goto 5, 3) := by decide +kernel
theorem dX12_layTours_29 : decode cX12_layTours 29 = .ok (.ldc 103, 2) := by decide +kernel
theorem dX12_layTours_31 : decode cX12_layTours 31 = .ok (.istore 5, 2) := by decide +kernel
theorem dX12_layTours_33 : decode cX12_layTours 33 = .ok (.iconst 0, 1) := by decide +kernel
theorem dX12_layTours_34 : decode cX12_layTours 34 = .ok (.istore 6, 2) := by decide +kernel
theorem dX12_layTours_36 : decode cX12_layTours 36 = .ok (.iload 6, 2) := by decide +kernel
theorem dX12_layTours_38 : decode cX12_layTours 38 = .ok (.aload_n 0, 1) := by decide +kernel
theorem dX12_layTours_39 : decode cX12_layTours 39 = .ok (.getfield 111, 3) := by decide +kernel
theorem dX12_layTours_42 : decode cX12_layTours 42 = .ok (.if_icmp .ge 225, 3) := by decide +kernel
theorem dX12_layTours_45 : decode cX12_layTours 45 = .ok (.ldc 103, 2) := by decide +kernel
theorem dX12_layTours_47 : decode cX12_layTours 47 = .ok (.istore 7, 2) := by decide +kernel
theorem dX12_layTours_49 : decode cX12_layTours 49 = .ok (.iload 4, 2) := by decide +kernel
theorem dX12_layTours_51 : decode cX12_layTours 51 = .ok (.iload 6, 2) := by decide +kernel
theorem dX12_layTours_53 : decode cX12_layTours 53 = .ok (.invokestatic 180, 3) := by decide +kernel
theorem dX12_layTours_56 : decode cX12_layTours 56 = .ok (.ifCond .eq 190, 3) := by decide +kernel
theorem dX12_layTours_59 : decode cX12_layTours 59 = .ok (.aload_n 0, 1) := by decide +kernel
theorem dX12_layTours_60 : decode cX12_layTours 60 = .ok (.iload_n 1, 1) := by decide +kernel
theorem dX12_layTours_61 : decode cX12_layTours 61 = .ok (.iload 6, 2) := by decide +kernel
theorem dX12_layTours_63 : decode cX12_layTours 63 = .ok (.invokevirtual 211, 3) := by decide +kernel
theorem dX12_layTours_66 : decode cX12_layTours 66 = .ok (.ifCond .eq 180, 3) := by decide +kernel
theorem dX12_layTours_69 : decode cX12_layTours 69 = .ok (.iload 4, 2) := by decide +kernel
theorem dX12_layTours_71 : decode cX12_layTours 71 = .ok (.iconst 1, 1) := by decide +kernel
theorem dX12_layTours_72 : decode cX12_layTours 72 = .ok (.iload 6, 2) := by decide +kernel
theorem dX12_layTours_74 : decode cX12_layTours 74 = .ok (.ishl, 1) := by decide +kernel
theorem dX12_layTours_75 : decode cX12_layTours 75 = .ok (.iconst (-1), 1) := by decide +kernel
theorem dX12_layTours_76 : decode cX12_layTours 76 = .ok (.ixor, 1) := by decide +kernel
theorem dX12_layTours_77 : decode cX12_layTours 77 = .ok (.iand, 1) := by decide +kernel
theorem dX12_layTours_78 : decode cX12_layTours 78 = .ok (.istore 8, 2) := by decide +kernel
theorem dX12_layTours_80 : decode cX12_layTours 80 = .ok (.iload 8, 2) := by decide +kernel
theorem dX12_layTours_82 : decode cX12_layTours 82 = .ok (.ifCond .ne 23, 3) := by decide +kernel
theorem dX12_layTours_85 : decode cX12_layTours 85 = .ok (.aload_n 0, 1) := by decide +kernel
theorem dX12_layTours_86 : decode cX12_layTours 86 = .ok (.getfield 17, 3) := by decide +kernel
theorem dX12_layTours_89 : decode cX12_layTours 89 = .ok (.bipush 6, 2) := by decide +kernel
theorem dX12_layTours_91 : decode cX12_layTours 91 = .ok (.iload_n 2, 1) := by decide +kernel
theorem dX12_layTours_92 : decode cX12_layTours 92 = .ok (.imul, 1) := by decide +kernel
theorem dX12_layTours_93 : decode cX12_layTours 93 = .ok (.aload_n 0, 1) := by decide +kernel
theorem dX12_layTours_94 : decode cX12_layTours 94 = .ok (.getfield 20, 3) := by decide +kernel
theorem dX12_layTours_97 : decode cX12_layTours 97 = .ok (.iload 6, 2) := by decide +kernel
theorem dX12_layTours_99 : decode cX12_layTours 99 = .ok (.iaload, 1) := by decide +kernel
theorem dX12_layTours_100 : decode cX12_layTours 100 = .ok (.iadd, 1) := by decide +kernel
theorem dX12_layTours_101 : decode cX12_layTours 101 = .ok (.iaload, 1) := by decide +kernel
theorem dX12_layTours_102 : decode cX12_layTours 102 = .ok (.goto 5, 3) := by decide +kernel
theorem dX12_layTours_105 : decode cX12_layTours 105 = .ok (.ldc 103, 2) := by decide +kernel
theorem dX12_layTours_107 : decode cX12_layTours 107 = .ok (.istore 7, 2) := by decide +kernel
theorem dX12_layTours_109 : decode cX12_layTours 109 = .ok (.iconst 0, 1) := by decide +kernel
theorem dX12_layTours_110 : decode cX12_layTours 110 = .ok (.istore 9, 2) := by decide +kernel
theorem dX12_layTours_112 : decode cX12_layTours 112 = .ok (.iload 9, 2) := by decide +kernel
theorem dX12_layTours_114 : decode cX12_layTours 114 = .ok (.aload_n 0, 1) := by decide +kernel
theorem dX12_layTours_115 : decode cX12_layTours 115 = .ok (.getfield 111, 3) := by decide +kernel
theorem dX12_layTours_118 : decode cX12_layTours 118 = .ok (.if_icmp .ge 74, 3) := by decide +kernel
theorem dX12_layTours_121 : decode cX12_layTours 121 = .ok (.iload 8, 2) := by decide +kernel
theorem dX12_layTours_123 : decode cX12_layTours 123 = .ok (.iload 9, 2) := by decide +kernel
theorem dX12_layTours_125 : decode cX12_layTours 125 = .ok (.invokestatic 180, 3) := by decide +kernel
theorem dX12_layTours_128 : decode cX12_layTours 128 = .ok (.ifCond .eq 58, 3) := by decide +kernel
theorem dX12_layTours_131 : decode cX12_layTours 131 = .ok (.aload_n 0, 1) := by decide +kernel
theorem dX12_layTours_132 : decode cX12_layTours 132 = .ok (.getfield 60, 3) := by decide +kernel
theorem dX12_layTours_135 : decode cX12_layTours 135 = .ok (.bipush 6, 2) := by decide +kernel
theorem dX12_layTours_137 : decode cX12_layTours 137 = .ok (.iload 8, 2) := by decide +kernel
theorem dX12_layTours_139 : decode cX12_layTours 139 = .ok (.imul, 1) := by decide +kernel
theorem dX12_layTours_140 : decode cX12_layTours 140 = .ok (.iload 9, 2) := by decide +kernel
theorem dX12_layTours_142 : decode cX12_layTours 142 = .ok (.iadd, 1) := by decide +kernel
theorem dX12_layTours_143 : decode cX12_layTours 143 = .ok (.iaload, 1) := by decide +kernel
theorem dX12_layTours_144 : decode cX12_layTours 144 = .ok (.aload_n 0, 1) := by decide +kernel
theorem dX12_layTours_145 : decode cX12_layTours 145 = .ok (.getfield 17, 3) := by decide +kernel
theorem dX12_layTours_148 : decode cX12_layTours 148 = .ok (.bipush 6, 2) := by decide +kernel
theorem dX12_layTours_150 : decode cX12_layTours 150 = .ok (.aload_n 0, 1) := by decide +kernel
theorem dX12_layTours_151 : decode cX12_layTours 151 = .ok (.getfield 20, 3) := by decide +kernel
theorem dX12_layTours_154 : decode cX12_layTours 154 = .ok (.iload 9, 2) := by decide +kernel
theorem dX12_layTours_156 : decode cX12_layTours 156 = .ok (.iaload, 1) := by decide +kernel
theorem dX12_layTours_157 : decode cX12_layTours 157 = .ok (.imul, 1) := by decide +kernel
theorem dX12_layTours_158 : decode cX12_layTours 158 = .ok (.aload_n 0, 1) := by decide +kernel
theorem dX12_layTours_159 : decode cX12_layTours 159 = .ok (.getfield 20, 3) := by decide +kernel
theorem dX12_layTours_162 : decode cX12_layTours 162 = .ok (.iload 6, 2) := by decide +kernel
theorem dX12_layTours_164 : decode cX12_layTours 164 = .ok (.iaload, 1) := by decide +kernel
theorem dX12_layTours_165 : decode cX12_layTours 165 = .ok (.iadd, 1) := by decide +kernel
theorem dX12_layTours_166 : decode cX12_layTours 166 = .ok (.iaload, 1) := by decide +kernel
theorem dX12_layTours_167 : decode cX12_layTours 167 = .ok (.iadd, 1) := by decide +kernel
theorem dX12_layTours_168 : decode cX12_layTours 168 = .ok (.istore 10, 2) := by decide +kernel
theorem dX12_layTours_170 : decode cX12_layTours 170 = .ok (.iload 10, 2) := by decide +kernel
theorem dX12_layTours_172 : decode cX12_layTours 172 = .ok (.iload 7, 2) := by decide +kernel
theorem dX12_layTours_174 : decode cX12_layTours 174 = .ok (.if_icmp .ge 8, 3) := by decide +kernel
theorem dX12_layTours_177 : decode cX12_layTours 177 = .ok (.iload 10, 2) := by decide +kernel
theorem dX12_layTours_179 : decode cX12_layTours 179 = .ok (.goto 5, 3) := by decide +kernel
theorem dX12_layTours_182 : decode cX12_layTours 182 = .ok (.iload 7, 2) := by decide +kernel
theorem dX12_layTours_184 : decode cX12_layTours 184 = .ok (.istore 7, 2) := by decide +kernel
theorem dX12_layTours_186 : decode cX12_layTours 186 = .ok (.iinc 9 1, 3) := by decide +kernel
theorem dX12_layTours_189 : decode cX12_layTours 189 = .ok (.goto (-77), 3) := by decide +kernel
theorem dX12_layTours_192 : decode cX12_layTours 192 = .ok (.iload 7, 2) := by decide +kernel
theorem dX12_layTours_194 : decode cX12_layTours 194 = .ok (.ldc 103, 2) := by decide +kernel
theorem dX12_layTours_196 : decode cX12_layTours 196 = .ok (.if_icmp .le 8, 3) := by decide +kernel
theorem dX12_layTours_199 : decode cX12_layTours 199 = .ok (.ldc 103, 2) := by decide +kernel
theorem dX12_layTours_201 : decode cX12_layTours 201 = .ok (.goto 5, 3) := by decide +kernel
theorem dX12_layTours_204 : decode cX12_layTours 204 = .ok (.iload 7, 2) := by decide +kernel
theorem dX12_layTours_206 : decode cX12_layTours 206 = .ok (.istore 7, 2) := by decide +kernel
theorem dX12_layTours_208 : decode cX12_layTours 208 = .ok (.iload 7, 2) := by decide +kernel
theorem dX12_layTours_210 : decode cX12_layTours 210 = .ok (.aload_n 0, 1) := by decide +kernel
theorem dX12_layTours_211 : decode cX12_layTours 211 = .ok (.getfield 17, 3) := by decide +kernel
theorem dX12_layTours_214 : decode cX12_layTours 214 = .ok (.bipush 6, 2) := by decide +kernel
theorem dX12_layTours_216 : decode cX12_layTours 216 = .ok (.aload_n 0, 1) := by decide +kernel
theorem dX12_layTours_217 : decode cX12_layTours 217 = .ok (.getfield 20, 3) := by decide +kernel
theorem dX12_layTours_220 : decode cX12_layTours 220 = .ok (.iload 6, 2) := by decide +kernel
theorem dX12_layTours_222 : decode cX12_layTours 222 = .ok (.iaload, 1) := by decide +kernel
theorem dX12_layTours_223 : decode cX12_layTours 223 = .ok (.imul, 1) := by decide +kernel
theorem dX12_layTours_224 : decode cX12_layTours 224 = .ok (.iload_n 3, 1) := by decide +kernel
theorem dX12_layTours_225 : decode cX12_layTours 225 = .ok (.iadd, 1) := by decide +kernel
theorem dX12_layTours_226 : decode cX12_layTours 226 = .ok (.iaload, 1) := by decide +kernel
theorem dX12_layTours_227 : decode cX12_layTours 227 = .ok (.iadd, 1) := by decide +kernel
theorem dX12_layTours_228 : decode cX12_layTours 228 = .ok (.istore 9, 2) := by decide +kernel
theorem dX12_layTours_230 : decode cX12_layTours 230 = .ok (.iload 9, 2) := by decide +kernel
theorem dX12_layTours_232 : decode cX12_layTours 232 = .ok (.iload 5, 2) := by decide +kernel
theorem dX12_layTours_234 : decode cX12_layTours 234 = .ok (.if_icmp .ge 8, 3) := by decide +kernel
theorem dX12_layTours_237 : decode cX12_layTours 237 = .ok (.iload 9, 2) := by decide +kernel
theorem dX12_layTours_239 : decode cX12_layTours 239 = .ok (.goto 5, 3) := by decide +kernel
theorem dX12_layTours_242 : decode cX12_layTours 242 = .ok (.iload 5, 2) := by decide +kernel
theorem dX12_layTours_244 : decode cX12_layTours 244 = .ok (.istore 5, 2) := by decide +kernel
theorem dX12_layTours_246 : decode cX12_layTours 246 = .ok (.aload_n 0, 1) := by decide +kernel
theorem dX12_layTours_247 : decode cX12_layTours 247 = .ok (.getfield 60, 3) := by decide +kernel
theorem dX12_layTours_250 : decode cX12_layTours 250 = .ok (.bipush 6, 2) := by decide +kernel
theorem dX12_layTours_252 : decode cX12_layTours 252 = .ok (.iload 4, 2) := by decide +kernel
theorem dX12_layTours_254 : decode cX12_layTours 254 = .ok (.imul, 1) := by decide +kernel
theorem dX12_layTours_255 : decode cX12_layTours 255 = .ok (.iload 6, 2) := by decide +kernel
theorem dX12_layTours_257 : decode cX12_layTours 257 = .ok (.iadd, 1) := by decide +kernel
theorem dX12_layTours_258 : decode cX12_layTours 258 = .ok (.iload 7, 2) := by decide +kernel
theorem dX12_layTours_260 : decode cX12_layTours 260 = .ok (.iastore, 1) := by decide +kernel
theorem dX12_layTours_261 : decode cX12_layTours 261 = .ok (.iinc 6 1, 3) := by decide +kernel
theorem dX12_layTours_264 : decode cX12_layTours 264 = .ok (.goto (-228), 3) := by decide +kernel
theorem dX12_layTours_267 : decode cX12_layTours 267 = .ok (.aload_n 0, 1) := by decide +kernel
theorem dX12_layTours_268 : decode cX12_layTours 268 = .ok (.getfield 57, 3) := by decide +kernel
theorem dX12_layTours_271 : decode cX12_layTours 271 = .ok (.bipush 64, 2) := by decide +kernel
theorem dX12_layTours_273 : decode cX12_layTours 273 = .ok (.iload_n 1, 1) := by decide +kernel
theorem dX12_layTours_274 : decode cX12_layTours 274 = .ok (.imul, 1) := by decide +kernel
theorem dX12_layTours_275 : decode cX12_layTours 275 = .ok (.iload 4, 2) := by decide +kernel
theorem dX12_layTours_277 : decode cX12_layTours 277 = .ok (.iadd, 1) := by decide +kernel
theorem dX12_layTours_278 : decode cX12_layTours 278 = .ok (.iload 5, 2) := by decide +kernel
theorem dX12_layTours_280 : decode cX12_layTours 280 = .ok (.ldc 103, 2) := by decide +kernel
theorem dX12_layTours_282 : decode cX12_layTours 282 = .ok (.if_icmp .le 8, 3) := by decide +kernel
theorem dX12_layTours_285 : decode cX12_layTours 285 = .ok (.ldc 103, 2) := by decide +kernel
theorem dX12_layTours_287 : decode cX12_layTours 287 = .ok (.goto 5, 3) := by decide +kernel
theorem dX12_layTours_290 : decode cX12_layTours 290 = .ok (.iload 5, 2) := by decide +kernel
theorem dX12_layTours_292 : decode cX12_layTours 292 = .ok (.iastore, 1) := by decide +kernel
theorem dX12_layTours_293 : decode cX12_layTours 293 = .ok (.iinc 4 1, 3) := by decide +kernel
theorem dX12_layTours_296 : decode cX12_layTours 296 = .ok (.goto (-293), 3) := by decide +kernel
theorem dX12_layTours_299 : decode cX12_layTours 299 = .ok (.return_, 1) := by decide +kernel
theorem dX12_tour_0 : decode cX12_tour 0 = .ok (.aload_n 0, 1) := by decide +kernel
theorem dX12_tour_1 : decode cX12_tour 1 = .ok (.iconst 0, 1) := by decide +kernel
theorem dX12_tour_2 : decode cX12_tour 2 = .ok (.putfield 104, 3) := by decide +kernel
theorem dX12_tour_5 : decode cX12_tour 5 = .ok (.iload_n 1, 1) := by decide +kernel
theorem dX12_tour_6 : decode cX12_tour 6 = .ok (.invokestatic 191, 3) := by decide +kernel
theorem dX12_tour_9 : decode cX12_tour 9 = .ok (.ifCond .eq 5, 3) := by decide +kernel
theorem dX12_tour_12 : decode cX12_tour 12 = .ok (.iconst (-1), 1) := by decide +kernel
theorem dX12_tour_13 : decode cX12_tour 13 = .ok (.ireturn, 1) := by decide +kernel
theorem dX12_tour_14 : decode cX12_tour 14 = .ok (.iload_n 2, 1) := by decide +kernel
theorem dX12_tour_15 : decode cX12_tour 15 = .ok (.i2l, 1) := by decide +kernel
theorem dX12_tour_16 : decode cX12_tour 16 = .ok (.lconst 0, 1) := by decide +kernel
theorem dX12_tour_17 : decode cX12_tour 17 = .ok (.iconst 1, 1) := by decide +kernel
theorem dX12_tour_18 : decode cX12_tour 18 = .ok (.aload_n 0, 1) := by decide +kernel
theorem dX12_tour_19 : decode cX12_tour 19 = .ok (.getfield 111, 3) := by decide +kernel
theorem dX12_tour_22 : decode cX12_tour 22 = .ok (.ishl, 1) := by decide +kernel
theorem dX12_tour_23 : decode cX12_tour 23 = .ok (.iconst 1, 1) := by decide +kernel
theorem dX12_tour_24 : decode cX12_tour 24 = .ok (.isub, 1) := by decide +kernel
theorem dX12_tour_25 : decode cX12_tour 25 = .ok (.i2l, 1) := by decide +kernel
theorem dX12_tour_26 : decode cX12_tour 26 = .ok (.invokestatic 107, 3) := by decide +kernel
theorem dX12_tour_29 : decode cX12_tour 29 = .ok (.ifCond .ne 6, 3) := by decide +kernel
theorem dX12_tour_32 : decode cX12_tour 32 = .ok (.bipush (-2), 2) := by decide +kernel
theorem dX12_tour_34 : decode cX12_tour 34 = .ok (.ireturn, 1) := by decide +kernel
theorem dX12_tour_35 : decode cX12_tour 35 = .ok (.iconst 0, 1) := by decide +kernel
theorem dX12_tour_36 : decode cX12_tour 36 = .ok (.istore_n 3, 1) := by decide +kernel
theorem dX12_tour_37 : decode cX12_tour 37 = .ok (.iload_n 3, 1) := by decide +kernel
theorem dX12_tour_38 : decode cX12_tour 38 = .ok (.aload_n 0, 1) := by decide +kernel
theorem dX12_tour_39 : decode cX12_tour 39 = .ok (.getfield 111, 3) := by decide +kernel
theorem dX12_tour_42 : decode cX12_tour 42 = .ok (.if_icmp .ge 40, 3) := by decide +kernel
theorem dX12_tour_45 : decode cX12_tour 45 = .ok (.iload_n 2, 1) := by decide +kernel
theorem dX12_tour_46 : decode cX12_tour 46 = .ok (.iload_n 3, 1) := by decide +kernel
theorem dX12_tour_47 : decode cX12_tour 47 = .ok (.invokestatic 180, 3) := by decide +kernel
theorem dX12_tour_50 : decode cX12_tour 50 = .ok (.ifCond .eq 26, 3) := by decide +kernel
theorem dX12_tour_53 : decode cX12_tour 53 = .ok (.aload_n 0, 1) := by decide +kernel
theorem dX12_tour_54 : decode cX12_tour 54 = .ok (.getfield 168, 3) := by decide +kernel
theorem dX12_tour_57 : decode cX12_tour 57 = .ok (.iload_n 3, 1) := by decide +kernel
theorem dX12_tour_58 : decode cX12_tour 58 = .ok (.invokestatic 180, 3) := by decide +kernel
theorem dX12_tour_61 : decode cX12_tour 61 = .ok (.ifCond .ne 12, 3) := by decide +kernel
theorem dX12_tour_64 : decode cX12_tour 64 = .ok (.aload_n 0, 1) := by decide +kernel
theorem dX12_tour_65 : decode cX12_tour 65 = .ok (.iload_n 1, 1) := by decide +kernel
theorem dX12_tour_66 : decode cX12_tour 66 = .ok (.iload_n 3, 1) := by decide +kernel
theorem dX12_tour_67 : decode cX12_tour 67 = .ok (.invokevirtual 211, 3) := by decide +kernel
theorem dX12_tour_70 : decode cX12_tour 70 = .ok (.ifCond .ne 6, 3) := by decide +kernel
theorem dX12_tour_73 : decode cX12_tour 73 = .ok (.bipush (-3), 2) := by decide +kernel
theorem dX12_tour_75 : decode cX12_tour 75 = .ok (.ireturn, 1) := by decide +kernel
theorem dX12_tour_76 : decode cX12_tour 76 = .ok (.iinc 3 1, 3) := by decide +kernel
theorem dX12_tour_79 : decode cX12_tour 79 = .ok (.goto (-42), 3) := by decide +kernel
theorem dX12_tour_82 : decode cX12_tour 82 = .ok (.aload_n 0, 1) := by decide +kernel
theorem dX12_tour_83 : decode cX12_tour 83 = .ok (.iload_n 1, 1) := by decide +kernel
theorem dX12_tour_84 : decode cX12_tour 84 = .ok (.aload_n 0, 1) := by decide +kernel
theorem dX12_tour_85 : decode cX12_tour 85 = .ok (.getfield 41, 3) := by decide +kernel
theorem dX12_tour_88 : decode cX12_tour 88 = .ok (.iload_n 1, 1) := by decide +kernel
theorem dX12_tour_89 : decode cX12_tour 89 = .ok (.iaload, 1) := by decide +kernel
theorem dX12_tour_90 : decode cX12_tour 90 = .ok (.iconst 0, 1) := by decide +kernel
theorem dX12_tour_91 : decode cX12_tour 91 = .ok (.invokevirtual 219, 3) := by decide +kernel
theorem dX12_tour_94 : decode cX12_tour 94 = .ok (.aload_n 0, 1) := by decide +kernel
theorem dX12_tour_95 : decode cX12_tour 95 = .ok (.getfield 57, 3) := by decide +kernel
theorem dX12_tour_98 : decode cX12_tour 98 = .ok (.bipush 64, 2) := by decide +kernel
theorem dX12_tour_100 : decode cX12_tour 100 = .ok (.iload_n 1, 1) := by decide +kernel
theorem dX12_tour_101 : decode cX12_tour 101 = .ok (.imul, 1) := by decide +kernel
theorem dX12_tour_102 : decode cX12_tour 102 = .ok (.iload_n 2, 1) := by decide +kernel
theorem dX12_tour_103 : decode cX12_tour 103 = .ok (.iadd, 1) := by decide +kernel
theorem dX12_tour_104 : decode cX12_tour 104 = .ok (.iaload, 1) := by decide +kernel
theorem dX12_tour_105 : decode cX12_tour 105 = .ok (.ldc 103, 2) := by decide +kernel
theorem dX12_tour_107 : decode cX12_tour 107 = .ok (.if_icmp .lt 8, 3) := by decide +kernel
theorem dX12_tour_110 : decode cX12_tour 110 = .ok (.bipush (-9), 2) := by decide +kernel
theorem dX12_tour_112 : decode cX12_tour 112 = .ok (.goto 14, 3) := by decide +kernel
theorem dX12_tour_115 : decode cX12_tour 115 = .ok (.aload_n 0, 1) := by decide +kernel
theorem dX12_tour_116 : decode cX12_tour 116 = .ok (.getfield 57, 3) := by decide +kernel
theorem dX12_tour_119 : decode cX12_tour 119 = .ok (.bipush 64, 2) := by decide +kernel
theorem dX12_tour_121 : decode cX12_tour 121 = .ok (.iload_n 1, 1) := by decide +kernel
theorem dX12_tour_122 : decode cX12_tour 122 = .ok (.imul, 1) := by decide +kernel
theorem dX12_tour_123 : decode cX12_tour 123 = .ok (.iload_n 2, 1) := by decide +kernel
theorem dX12_tour_124 : decode cX12_tour 124 = .ok (.iadd, 1) := by decide +kernel
theorem dX12_tour_125 : decode cX12_tour 125 = .ok (.iaload, 1) := by decide +kernel
theorem dX12_tour_126 : decode cX12_tour 126 = .ok (.ireturn, 1) := by decide +kernel
theorem dX12_findPlan_0 : decode cX12_findPlan 0 = .ok (.aload_n 0, 1) := by decide +kernel
theorem dX12_findPlan_1 : decode cX12_findPlan 1 = .ok (.bipush (-9), 2) := by decide +kernel
theorem dX12_findPlan_3 : decode cX12_findPlan 3 = .ok (.putfield 223, 3) := by decide +kernel
theorem dX12_findPlan_6 : decode cX12_findPlan 6 = .ok (.iconst 0, 1) := by decide +kernel
theorem dX12_findPlan_7 : decode cX12_findPlan 7 = .ok (.istore_n 3, 1) := by decide +kernel
theorem dX12_findPlan_8 : decode cX12_findPlan 8 = .ok (.iload_n 3, 1) := by decide +kernel
theorem dX12_findPlan_9 : decode cX12_findPlan 9 = .ok (.iconst 1, 1) := by decide +kernel
theorem dX12_findPlan_10 : decode cX12_findPlan 10 = .ok (.aload_n 0, 1) := by decide +kernel
theorem dX12_findPlan_11 : decode cX12_findPlan 11 = .ok (.getfield 111, 3) := by decide +kernel
theorem dX12_findPlan_14 : decode cX12_findPlan 14 = .ok (.ishl, 1) := by decide +kernel
theorem dX12_findPlan_15 : decode cX12_findPlan 15 = .ok (.if_icmp .ge 137, 3) := by decide +kernel
theorem dX12_findPlan_18 : decode cX12_findPlan 18 = .ok (.iconst 0, 1) := by decide +kernel
theorem dX12_findPlan_19 : decode cX12_findPlan 19 = .ok (.istore 4, 2) := by decide +kernel
theorem dX12_findPlan_21 : decode cX12_findPlan 21 = .ok (.iload 4, 2) := by decide +kernel
theorem dX12_findPlan_23 : decode cX12_findPlan 23 = .ok (.iconst 1, 1) := by decide +kernel
theorem dX12_findPlan_24 : decode cX12_findPlan 24 = .ok (.aload_n 0, 1) := by decide +kernel
theorem dX12_findPlan_25 : decode cX12_findPlan 25 = .ok (.getfield 111, 3) := by decide +kernel
theorem dX12_findPlan_28 : decode cX12_findPlan 28 = .ok (.ishl, 1) := by decide +kernel
theorem dX12_findPlan_29 : decode cX12_findPlan 29 = .ok (.if_icmp .ge 117, 3) := by decide +kernel
theorem dX12_findPlan_32 : decode cX12_findPlan 32 = .ok (.aload_n 0, 1) := by decide +kernel
theorem dX12_findPlan_33 : decode cX12_findPlan 33 = .ok (.getfield 57, 3) := by decide +kernel
theorem dX12_findPlan_36 : decode cX12_findPlan 36 = .ok (.iload_n 3, 1) := by decide +kernel
theorem dX12_findPlan_37 : decode cX12_findPlan 37 = .ok (.iaload, 1) := by decide +kernel
theorem dX12_findPlan_38 : decode cX12_findPlan 38 = .ok (.aload_n 0, 1) := by decide +kernel
theorem dX12_findPlan_39 : decode cX12_findPlan 39 = .ok (.getfield 57, 3) := by decide +kernel
theorem dX12_findPlan_42 : decode cX12_findPlan 42 = .ok (.bipush 64, 2) := by decide +kernel
theorem dX12_findPlan_44 : decode cX12_findPlan 44 = .ok (.iload 4, 2) := by decide +kernel
theorem dX12_findPlan_46 : decode cX12_findPlan 46 = .ok (.iadd, 1) := by decide +kernel
theorem dX12_findPlan_47 : decode cX12_findPlan 47 = .ok (.iaload, 1) := by decide +kernel
theorem dX12_findPlan_48 : decode cX12_findPlan 48 = .ok (.iadd, 1) := by decide +kernel
theorem dX12_findPlan_49 : decode cX12_findPlan 49 = .ok (.istore 5, 2) := by decide +kernel
theorem dX12_findPlan_51 : decode cX12_findPlan 51 = .ok (.iload_n 3, 1) := by decide +kernel
theorem dX12_findPlan_52 : decode cX12_findPlan 52 = .ok (.iload 4, 2) := by decide +kernel
theorem dX12_findPlan_54 : decode cX12_findPlan 54 = .ok (.iand, 1) := by decide +kernel
theorem dX12_findPlan_55 : decode cX12_findPlan 55 = .ok (.ifCond .ne 85, 3) := by decide +kernel
theorem dX12_findPlan_58 : decode cX12_findPlan 58 = .ok (.iload_n 3, 1) := by decide +kernel
theorem dX12_findPlan_59 : decode cX12_findPlan 59 = .ok (.iload 4, 2) := by decide +kernel
theorem dX12_findPlan_61 : decode cX12_findPlan 61 = .ok (.ior, 1) := by decide +kernel
theorem dX12_findPlan_62 : decode cX12_findPlan 62 = .ok (.iload_n 1, 1) := by decide +kernel
theorem dX12_findPlan_63 : decode cX12_findPlan 63 = .ok (.iand, 1) := by decide +kernel
theorem dX12_findPlan_64 : decode cX12_findPlan 64 = .ok (.ifCond .ne 76, 3) := by decide +kernel
theorem dX12_findPlan_67 : decode cX12_findPlan 67 = .ok (.iload 5, 2) := by decide +kernel
theorem dX12_findPlan_69 : decode cX12_findPlan 69 = .ok (.ldc 103, 2) := by decide +kernel
theorem dX12_findPlan_71 : decode cX12_findPlan 71 = .ok (.if_icmp .ge 69, 3) := by decide +kernel
theorem dX12_findPlan_74 : decode cX12_findPlan 74 = .ok (.iload 5, 2) := by decide +kernel
theorem dX12_findPlan_76 : decode cX12_findPlan 76 = .ok (.iload_n 2, 1) := by decide +kernel
theorem dX12_findPlan_77 : decode cX12_findPlan 77 = .ok (.if_icmp .gt 63, 3) := by decide +kernel
theorem dX12_findPlan_80 : decode cX12_findPlan 80 = .ok (.aload_n 0, 1) := by decide +kernel
theorem dX12_findPlan_81 : decode cX12_findPlan 81 = .ok (.iload_n 3, 1) := by decide +kernel
theorem dX12_findPlan_82 : decode cX12_findPlan 82 = .ok (.iload 4, 2) := by decide +kernel
theorem dX12_findPlan_84 : decode cX12_findPlan 84 = .ok (.ior, 1) := by decide +kernel
theorem dX12_findPlan_85 : decode cX12_findPlan 85 = .ok (.invokevirtual 188, 3) := by decide +kernel
theorem dX12_findPlan_88 : decode cX12_findPlan 88 = .ok (.istore 6, 2) := by decide +kernel
theorem dX12_findPlan_90 : decode cX12_findPlan 90 = .ok (.iload 6, 2) := by decide +kernel
theorem dX12_findPlan_92 : decode cX12_findPlan 92 = .ok (.aload_n 0, 1) := by decide +kernel
theorem dX12_findPlan_93 : decode cX12_findPlan 93 = .ok (.getfield 223, 3) := by decide +kernel
theorem dX12_findPlan_96 : decode cX12_findPlan 96 = .ok (.if_icmp .gt 21, 3) := by decide +kernel
theorem dX12_findPlan_99 : decode cX12_findPlan 99 = .ok (.iload 6, 2) := by decide +kernel
theorem dX12_findPlan_101 : decode cX12_findPlan 101 = .ok (.aload_n 0, 1) := by decide +kernel
theorem dX12_findPlan_102 : decode cX12_findPlan 102 = .ok (.getfield 223, 3) := by decide +kernel
theorem dX12_findPlan_105 : decode cX12_findPlan 105 = .ok (.if_icmp .ne 35, 3) := by decide +kernel
theorem dX12_findPlan_108 : decode cX12_findPlan 108 = .ok (.iload 5, 2) := by decide +kernel
theorem dX12_findPlan_110 : decode cX12_findPlan 110 = .ok (.aload_n 0, 1) := by decide +kernel
theorem dX12_findPlan_111 : decode cX12_findPlan 111 = .ok (.getfield 226, 3) := by decide +kernel
theorem dX12_findPlan_114 : decode cX12_findPlan 114 = .ok (.if_icmp .ge 26, 3) := by decide +kernel
theorem dX12_findPlan_117 : decode cX12_findPlan 117 = .ok (.aload_n 0, 1) := by decide +kernel
theorem dX12_findPlan_118 : decode cX12_findPlan 118 = .ok (.iload 6, 2) := by decide +kernel
theorem dX12_findPlan_120 : decode cX12_findPlan 120 = .ok (.putfield 223, 3) := by decide +kernel
theorem dX12_findPlan_123 : decode cX12_findPlan 123 = .ok (.aload_n 0, 1) := by decide +kernel
theorem dX12_findPlan_124 : decode cX12_findPlan 124 = .ok (.iload 5, 2) := by decide +kernel
theorem dX12_findPlan_126 : decode cX12_findPlan 126 = .ok (.putfield 226, 3) := by decide +kernel
theorem dX12_findPlan_129 : decode cX12_findPlan 129 = .ok (.aload_n 0, 1) := by decide +kernel
theorem dX12_findPlan_130 : decode cX12_findPlan 130 = .ok (.iload_n 3, 1) := by decide +kernel
theorem dX12_findPlan_131 : decode cX12_findPlan 131 = .ok (.putfield 229, 3) := by decide +kernel
theorem dX12_findPlan_134 : decode cX12_findPlan 134 = .ok (.aload_n 0, 1) := by decide +kernel
theorem dX12_findPlan_135 : decode cX12_findPlan 135 = .ok (.iload 4, 2) := by decide +kernel
theorem dX12_findPlan_137 : decode cX12_findPlan 137 = .ok (.putfield 232, 3) := by decide +kernel
theorem dX12_findPlan_140 : decode cX12_findPlan 140 = .ok (.iinc 4 1, 3) := by decide +kernel
theorem dX12_findPlan_143 : decode cX12_findPlan 143 = .ok (.goto (-122), 3) := by decide +kernel
theorem dX12_findPlan_146 : decode cX12_findPlan 146 = .ok (.iinc 3 1, 3) := by decide +kernel
theorem dX12_findPlan_149 : decode cX12_findPlan 149 = .ok (.goto (-141), 3) := by decide +kernel
theorem dX12_findPlan_152 : decode cX12_findPlan 152 = .ok (.return_, 1) := by decide +kernel
theorem dX12_plan_0 : decode cX12_plan 0 = .ok (.aload_n 0, 1) := by decide +kernel
theorem dX12_plan_1 : decode cX12_plan 1 = .ok (.iconst 0, 1) := by decide +kernel
theorem dX12_plan_2 : decode cX12_plan 2 = .ok (.putfield 104, 3) := by decide +kernel
theorem dX12_plan_5 : decode cX12_plan 5 = .ok (.iload_n 1, 1) := by decide +kernel
theorem dX12_plan_6 : decode cX12_plan 6 = .ok (.i2l, 1) := by decide +kernel
theorem dX12_plan_7 : decode cX12_plan 7 = .ok (.lconst 0, 1) := by decide +kernel
theorem dX12_plan_8 : decode cX12_plan 8 = .ok (.ldc2_w 235, 3) := by decide +kernel
theorem dX12_plan_11 : decode cX12_plan 11 = .ok (.invokestatic 107, 3) := by decide +kernel
theorem dX12_plan_14 : decode cX12_plan 14 = .ok (.ifCond .ne 6, 3) := by decide +kernel
theorem dX12_plan_17 : decode cX12_plan 17 = .ok (.bipush (-2), 2) := by decide +kernel
theorem dX12_plan_19 : decode cX12_plan 19 = .ok (.ireturn, 1) := by decide +kernel
theorem dX12_plan_20 : decode cX12_plan 20 = .ok (.aload_n 0, 1) := by decide +kernel
theorem dX12_plan_21 : decode cX12_plan 21 = .ok (.iconst 0, 1) := by decide +kernel
theorem dX12_plan_22 : decode cX12_plan 22 = .ok (.aload_n 0, 1) := by decide +kernel
theorem dX12_plan_23 : decode cX12_plan 23 = .ok (.getfield 41, 3) := by decide +kernel
theorem dX12_plan_26 : decode cX12_plan 26 = .ok (.iconst 0, 1) := by decide +kernel
theorem dX12_plan_27 : decode cX12_plan 27 = .ok (.iaload, 1) := by decide +kernel
theorem dX12_plan_28 : decode cX12_plan 28 = .ok (.iconst 0, 1) := by decide +kernel
theorem dX12_plan_29 : decode cX12_plan 29 = .ok (.invokevirtual 219, 3) := by decide +kernel
theorem dX12_plan_32 : decode cX12_plan 32 = .ok (.aload_n 0, 1) := by decide +kernel
theorem dX12_plan_33 : decode cX12_plan 33 = .ok (.iconst 1, 1) := by decide +kernel
theorem dX12_plan_34 : decode cX12_plan 34 = .ok (.aload_n 0, 1) := by decide +kernel
theorem dX12_plan_35 : decode cX12_plan 35 = .ok (.getfield 41, 3) := by decide +kernel
theorem dX12_plan_38 : decode cX12_plan 38 = .ok (.iconst 1, 1) := by decide +kernel
theorem dX12_plan_39 : decode cX12_plan 39 = .ok (.iaload, 1) := by decide +kernel
theorem dX12_plan_40 : decode cX12_plan 40 = .ok (.iconst 0, 1) := by decide +kernel
theorem dX12_plan_41 : decode cX12_plan 41 = .ok (.invokevirtual 219, 3) := by decide +kernel
theorem dX12_plan_44 : decode cX12_plan 44 = .ok (.aload_n 0, 1) := by decide +kernel
theorem dX12_plan_45 : decode cX12_plan 45 = .ok (.aload_n 0, 1) := by decide +kernel
theorem dX12_plan_46 : decode cX12_plan 46 = .ok (.getfield 168, 3) := by decide +kernel
theorem dX12_plan_49 : decode cX12_plan 49 = .ok (.aload_n 0, 1) := by decide +kernel
theorem dX12_plan_50 : decode cX12_plan 50 = .ok (.getfield 165, 3) := by decide +kernel
theorem dX12_plan_53 : decode cX12_plan 53 = .ok (.invokevirtual 237, 3) := by decide +kernel
theorem dX12_plan_56 : decode cX12_plan 56 = .ok (.aload_n 0, 1) := by decide +kernel
theorem dX12_plan_57 : decode cX12_plan 57 = .ok (.getfield 223, 3) := by decide +kernel
theorem dX12_plan_60 : decode cX12_plan 60 = .ok (.bipush (-9), 2) := by decide +kernel
theorem dX12_plan_62 : decode cX12_plan 62 = .ok (.if_icmp .ne 6, 3) := by decide +kernel
theorem dX12_plan_65 : decode cX12_plan 65 = .ok (.bipush (-9), 2) := by decide +kernel
theorem dX12_plan_67 : decode cX12_plan 67 = .ok (.ireturn, 1) := by decide +kernel
theorem dX12_plan_68 : decode cX12_plan 68 = .ok (.iload_n 1, 1) := by decide +kernel
theorem dX12_plan_69 : decode cX12_plan 69 = .ok (.ifCond .ne 10, 3) := by decide +kernel
theorem dX12_plan_72 : decode cX12_plan 72 = .ok (.aload_n 0, 1) := by decide +kernel
theorem dX12_plan_73 : decode cX12_plan 73 = .ok (.getfield 223, 3) := by decide +kernel
theorem dX12_plan_76 : decode cX12_plan 76 = .ok (.goto 31, 3) := by decide +kernel
theorem dX12_plan_79 : decode cX12_plan 79 = .ok (.iload_n 1, 1) := by decide +kernel
theorem dX12_plan_80 : decode cX12_plan 80 = .ok (.iconst 1, 1) := by decide +kernel
theorem dX12_plan_81 : decode cX12_plan 81 = .ok (.if_icmp .ne 10, 3) := by decide +kernel
theorem dX12_plan_84 : decode cX12_plan 84 = .ok (.aload_n 0, 1) := by decide +kernel
theorem dX12_plan_85 : decode cX12_plan 85 = .ok (.getfield 226, 3) := by decide +kernel
theorem dX12_plan_88 : decode cX12_plan 88 = .ok (.goto 19, 3) := by decide +kernel
theorem dX12_plan_91 : decode cX12_plan 91 = .ok (.iload_n 1, 1) := by decide +kernel
theorem dX12_plan_92 : decode cX12_plan 92 = .ok (.iconst 2, 1) := by decide +kernel
theorem dX12_plan_93 : decode cX12_plan 93 = .ok (.if_icmp .ne 10, 3) := by decide +kernel
theorem dX12_plan_96 : decode cX12_plan 96 = .ok (.aload_n 0, 1) := by decide +kernel
theorem dX12_plan_97 : decode cX12_plan 97 = .ok (.getfield 229, 3) := by decide +kernel
theorem dX12_plan_100 : decode cX12_plan 100 = .ok (.goto 7, 3) := by decide +kernel
theorem dX12_plan_103 : decode cX12_plan 103 = .ok (.aload_n 0, 1) := by decide +kernel
theorem dX12_plan_104 : decode cX12_plan 104 = .ok (.getfield 232, 3) := by decide +kernel
theorem dX12_plan_107 : decode cX12_plan 107 = .ok (.ireturn, 1) := by decide +kernel
theorem dX12_live_0 : decode cX12_live 0 = .ok (.aload_n 0, 1) := by decide +kernel
theorem dX12_live_1 : decode cX12_live 1 = .ok (.iconst 0, 1) := by decide +kernel
theorem dX12_live_2 : decode cX12_live 2 = .ok (.putfield 104, 3) := by decide +kernel
theorem dX12_live_5 : decode cX12_live 5 = .ok (.iconst 0, 1) := by decide +kernel
theorem dX12_live_6 : decode cX12_live 6 = .ok (.istore_n 1, 1) := by decide +kernel
theorem dX12_live_7 : decode cX12_live 7 = .ok (.bipush (-9), 2) := by decide +kernel
theorem dX12_live_9 : decode cX12_live 9 = .ok (.istore_n 2, 1) := by decide +kernel
theorem dX12_live_10 : decode cX12_live 10 = .ok (.iconst 0, 1) := by decide +kernel
theorem dX12_live_11 : decode cX12_live 11 = .ok (.istore_n 3, 1) := by decide +kernel
theorem dX12_live_12 : decode cX12_live 12 = .ok (.iload_n 3, 1) := by decide +kernel
theorem dX12_live_13 : decode cX12_live 13 = .ok (.aload_n 0, 1) := by decide +kernel
theorem dX12_live_14 : decode cX12_live 14 = .ok (.getfield 13, 3) := by decide +kernel
theorem dX12_live_17 : decode cX12_live 17 = .ok (.if_icmp .ge 63, 3) := by decide +kernel
theorem dX12_live_20 : decode cX12_live 20 = .ok (.aload_n 0, 1) := by decide +kernel
theorem dX12_live_21 : decode cX12_live 21 = .ok (.iconst 0, 1) := by decide +kernel
theorem dX12_live_22 : decode cX12_live 22 = .ok (.iload_n 3, 1) := by decide +kernel
theorem dX12_live_23 : decode cX12_live 23 = .ok (.iload_n 3, 1) := by decide +kernel
theorem dX12_live_24 : decode cX12_live 24 = .ok (.invokevirtual 219, 3) := by decide +kernel
theorem dX12_live_27 : decode cX12_live 27 = .ok (.aload_n 0, 1) := by decide +kernel
theorem dX12_live_28 : decode cX12_live 28 = .ok (.iconst 1, 1) := by decide +kernel
theorem dX12_live_29 : decode cX12_live 29 = .ok (.iload_n 3, 1) := by decide +kernel
theorem dX12_live_30 : decode cX12_live 30 = .ok (.iload_n 3, 1) := by decide +kernel
theorem dX12_live_31 : decode cX12_live 31 = .ok (.invokevirtual 219, 3) := by decide +kernel
theorem dX12_live_34 : decode cX12_live 34 = .ok (.aload_n 0, 1) := by decide +kernel
theorem dX12_live_35 : decode cX12_live 35 = .ok (.iconst 0, 1) := by decide +kernel
theorem dX12_live_36 : decode cX12_live 36 = .ok (.aload_n 0, 1) := by decide +kernel
theorem dX12_live_37 : decode cX12_live 37 = .ok (.getfield 159, 3) := by decide +kernel
theorem dX12_live_40 : decode cX12_live 40 = .ok (.invokevirtual 237, 3) := by decide +kernel
theorem dX12_live_43 : decode cX12_live 43 = .ok (.aload_n 0, 1) := by decide +kernel
theorem dX12_live_44 : decode cX12_live 44 = .ok (.getfield 223, 3) := by decide +kernel
theorem dX12_live_47 : decode cX12_live 47 = .ok (.iload_n 2, 1) := by decide +kernel
theorem dX12_live_48 : decode cX12_live 48 = .ok (.if_icmp .le 7, 3) := by decide +kernel
theorem dX12_live_51 : decode cX12_live 51 = .ok (.iload_n 3, 1) := by decide +kernel
theorem dX12_live_52 : decode cX12_live 52 = .ok (.goto 4, 3) := by decide +kernel
theorem dX12_live_55 : decode cX12_live 55 = .ok (.iload_n 1, 1) := by decide +kernel
theorem dX12_live_56 : decode cX12_live 56 = .ok (.istore_n 1, 1) := by decide +kernel
theorem dX12_live_57 : decode cX12_live 57 = .ok (.aload_n 0, 1) := by decide +kernel
theorem dX12_live_58 : decode cX12_live 58 = .ok (.getfield 223, 3) := by decide +kernel
theorem dX12_live_61 : decode cX12_live 61 = .ok (.iload_n 2, 1) := by decide +kernel
theorem dX12_live_62 : decode cX12_live 62 = .ok (.if_icmp .le 10, 3) := by decide +kernel
theorem dX12_live_65 : decode cX12_live 65 = .ok (.aload_n 0, 1) := by decide +kernel
theorem dX12_live_66 : decode cX12_live 66 = .ok (.getfield 223, 3) := by decide +kernel
theorem dX12_live_69 : decode cX12_live 69 = .ok (.goto 4, 3) := by decide +kernel
theorem dX12_live_72 : decode cX12_live 72 = .ok (.iload_n 2, 1) := by decide +kernel
theorem dX12_live_73 : decode cX12_live 73 = .ok (.istore_n 2, 1) := by decide +kernel
theorem dX12_live_74 : decode cX12_live 74 = .ok (.iinc 3 1, 3) := by decide +kernel
theorem dX12_live_77 : decode cX12_live 77 = .ok (.goto (-65), 3) := by decide +kernel
theorem dX12_live_80 : decode cX12_live 80 = .ok (.iload_n 1, 1) := by decide +kernel
theorem dX12_live_81 : decode cX12_live 81 = .ok (.ireturn, 1) := by decide +kernel
theorem dX12_canBoth_0 : decode cX12_canBoth 0 = .ok (.aload_n 0, 1) := by decide +kernel
theorem dX12_canBoth_1 : decode cX12_canBoth 1 = .ok (.getfield 17, 3) := by decide +kernel
theorem dX12_canBoth_4 : decode cX12_canBoth 4 = .ok (.bipush 6, 2) := by decide +kernel
theorem dX12_canBoth_6 : decode cX12_canBoth 6 = .ok (.aload_n 0, 1) := by decide +kernel
theorem dX12_canBoth_7 : decode cX12_canBoth 7 = .ok (.getfield 63, 3) := by decide +kernel
theorem dX12_canBoth_10 : decode cX12_canBoth 10 = .ok (.iload_n 1, 1) := by decide +kernel
theorem dX12_canBoth_11 : decode cX12_canBoth 11 = .ok (.iaload, 1) := by decide +kernel
theorem dX12_canBoth_12 : decode cX12_canBoth 12 = .ok (.imul, 1) := by decide +kernel
theorem dX12_canBoth_13 : decode cX12_canBoth 13 = .ok (.iaload, 1) := by decide +kernel
theorem dX12_canBoth_14 : decode cX12_canBoth 14 = .ok (.istore_n 2, 1) := by decide +kernel
theorem dX12_canBoth_15 : decode cX12_canBoth 15 = .ok (.aload_n 0, 1) := by decide +kernel
theorem dX12_canBoth_16 : decode cX12_canBoth 16 = .ok (.getfield 17, 3) := by decide +kernel
theorem dX12_canBoth_19 : decode cX12_canBoth 19 = .ok (.bipush 6, 2) := by decide +kernel
theorem dX12_canBoth_21 : decode cX12_canBoth 21 = .ok (.aload_n 0, 1) := by decide +kernel
theorem dX12_canBoth_22 : decode cX12_canBoth 22 = .ok (.getfield 66, 3) := by decide +kernel
theorem dX12_canBoth_25 : decode cX12_canBoth 25 = .ok (.iload_n 1, 1) := by decide +kernel
theorem dX12_canBoth_26 : decode cX12_canBoth 26 = .ok (.iaload, 1) := by decide +kernel
theorem dX12_canBoth_27 : decode cX12_canBoth 27 = .ok (.imul, 1) := by decide +kernel
theorem dX12_canBoth_28 : decode cX12_canBoth 28 = .ok (.iaload, 1) := by decide +kernel
theorem dX12_canBoth_29 : decode cX12_canBoth 29 = .ok (.istore_n 3, 1) := by decide +kernel
theorem dX12_canBoth_30 : decode cX12_canBoth 30 = .ok (.iload_n 2, 1) := by decide +kernel
theorem dX12_canBoth_31 : decode cX12_canBoth 31 = .ok (.ldc 103, 2) := by decide +kernel
theorem dX12_canBoth_33 : decode cX12_canBoth 33 = .ok (.if_icmp .ge 25, 3) := by decide +kernel
theorem dX12_canBoth_36 : decode cX12_canBoth 36 = .ok (.iload_n 3, 1) := by decide +kernel
theorem dX12_canBoth_37 : decode cX12_canBoth 37 = .ok (.ldc 103, 2) := by decide +kernel
theorem dX12_canBoth_39 : decode cX12_canBoth 39 = .ok (.if_icmp .ge 19, 3) := by decide +kernel
theorem dX12_canBoth_42 : decode cX12_canBoth 42 = .ok (.iload_n 2, 1) := by decide +kernel
theorem dX12_canBoth_43 : decode cX12_canBoth 43 = .ok (.iload_n 3, 1) := by decide +kernel
theorem dX12_canBoth_44 : decode cX12_canBoth 44 = .ok (.iadd, 1) := by decide +kernel
theorem dX12_canBoth_45 : decode cX12_canBoth 45 = .ok (.aload_n 0, 1) := by decide +kernel
theorem dX12_canBoth_46 : decode cX12_canBoth 46 = .ok (.getfield 69, 3) := by decide +kernel
theorem dX12_canBoth_49 : decode cX12_canBoth 49 = .ok (.iload_n 1, 1) := by decide +kernel
theorem dX12_canBoth_50 : decode cX12_canBoth 50 = .ok (.iaload, 1) := by decide +kernel
theorem dX12_canBoth_51 : decode cX12_canBoth 51 = .ok (.if_icmp .gt 7, 3) := by decide +kernel
theorem dX12_canBoth_54 : decode cX12_canBoth 54 = .ok (.iconst 1, 1) := by decide +kernel
theorem dX12_canBoth_55 : decode cX12_canBoth 55 = .ok (.goto 4, 3) := by decide +kernel
theorem dX12_canBoth_58 : decode cX12_canBoth 58 = .ok (.iconst 0, 1) := by decide +kernel
theorem dX12_canBoth_59 : decode cX12_canBoth 59 = .ok (.ireturn, 1) := by decide +kernel
theorem dX12_choose_0 : decode cX12_choose 0 = .ok (.aload_n 0, 1) := by decide +kernel
theorem dX12_choose_1 : decode cX12_choose 1 = .ok (.getfield 78, 3) := by decide +kernel
theorem dX12_choose_4 : decode cX12_choose 4 = .ok (.iload_n 1, 1) := by decide +kernel
theorem dX12_choose_5 : decode cX12_choose 5 = .ok (.iaload, 1) := by decide +kernel
theorem dX12_choose_6 : decode cX12_choose 6 = .ok (.istore_n 3, 1) := by decide +kernel
theorem dX12_choose_7 : decode cX12_choose 7 = .ok (.iload_n 3, 1) := by decide +kernel
theorem dX12_choose_8 : decode cX12_choose 8 = .ok (.ifCond .ne 12, 3) := by decide +kernel
theorem dX12_choose_11 : decode cX12_choose 11 = .ok (.aload_n 0, 1) := by decide +kernel
theorem dX12_choose_12 : decode cX12_choose 12 = .ok (.getfield 63, 3) := by decide +kernel
theorem dX12_choose_15 : decode cX12_choose 15 = .ok (.iload_n 1, 1) := by decide +kernel
theorem dX12_choose_16 : decode cX12_choose 16 = .ok (.iaload, 1) := by decide +kernel
theorem dX12_choose_17 : decode cX12_choose 17 = .ok (.goto 9, 3) := by decide +kernel
theorem dX12_choose_20 : decode cX12_choose 20 = .ok (.aload_n 0, 1) := by decide +kernel
theorem dX12_choose_21 : decode cX12_choose 21 = .ok (.getfield 66, 3) := by decide +kernel
theorem dX12_choose_24 : decode cX12_choose 24 = .ok (.iload_n 1, 1) := by decide +kernel
theorem dX12_choose_25 : decode cX12_choose 25 = .ok (.iaload, 1) := by decide +kernel
theorem dX12_choose_26 : decode cX12_choose 26 = .ok (.istore 4, 2) := by decide +kernel
theorem dX12_choose_28 : decode cX12_choose 28 = .ok (.iload_n 2, 1) := by decide +kernel
theorem dX12_choose_29 : decode cX12_choose 29 = .ok (.iconst 1, 1) := by decide +kernel
theorem dX12_choose_30 : decode cX12_choose 30 = .ok (.isub, 1) := by decide +kernel
theorem dX12_choose_31 : decode cX12_choose 31 = .ok (.istore 5, 2) := by decide +kernel
theorem dX12_choose_33 : decode cX12_choose 33 = .ok (.iload_n 2, 1) := by decide +kernel
theorem dX12_choose_34 : decode cX12_choose 34 = .ok (.ifCond .le 52, 3) := by decide +kernel
theorem dX12_choose_37 : decode cX12_choose 37 = .ok (.aload_n 0, 1) := by decide +kernel
theorem dX12_choose_38 : decode cX12_choose 38 = .ok (.getfield 72, 3) := by decide +kernel
theorem dX12_choose_41 : decode cX12_choose 41 = .ok (.iload_n 1, 1) := by decide +kernel
theorem dX12_choose_42 : decode cX12_choose 42 = .ok (.iaload, 1) := by decide +kernel
theorem dX12_choose_43 : decode cX12_choose 43 = .ok (.iload 5, 2) := by decide +kernel
theorem dX12_choose_45 : decode cX12_choose 45 = .ok (.invokestatic 180, 3) := by decide +kernel
theorem dX12_choose_48 : decode cX12_choose 48 = .ok (.ifCond .ne 36, 3) := by decide +kernel
theorem dX12_choose_51 : decode cX12_choose 51 = .ok (.aload_n 0, 1) := by decide +kernel
theorem dX12_choose_52 : decode cX12_choose 52 = .ok (.iload_n 3, 1) := by decide +kernel
theorem dX12_choose_53 : decode cX12_choose 53 = .ok (.iload 5, 2) := by decide +kernel
theorem dX12_choose_55 : decode cX12_choose 55 = .ok (.invokevirtual 211, 3) := by decide +kernel
theorem dX12_choose_58 : decode cX12_choose 58 = .ok (.ifCond .eq 26, 3) := by decide +kernel
theorem dX12_choose_61 : decode cX12_choose 61 = .ok (.aload_n 0, 1) := by decide +kernel
theorem dX12_choose_62 : decode cX12_choose 62 = .ok (.getfield 17, 3) := by decide +kernel
theorem dX12_choose_65 : decode cX12_choose 65 = .ok (.bipush 6, 2) := by decide +kernel
theorem dX12_choose_67 : decode cX12_choose 67 = .ok (.iload 4, 2) := by decide +kernel
theorem dX12_choose_69 : decode cX12_choose 69 = .ok (.imul, 1) := by decide +kernel
theorem dX12_choose_70 : decode cX12_choose 70 = .ok (.aload_n 0, 1) := by decide +kernel
theorem dX12_choose_71 : decode cX12_choose 71 = .ok (.getfield 20, 3) := by decide +kernel
theorem dX12_choose_74 : decode cX12_choose 74 = .ok (.iload 5, 2) := by decide +kernel
theorem dX12_choose_76 : decode cX12_choose 76 = .ok (.iaload, 1) := by decide +kernel
theorem dX12_choose_77 : decode cX12_choose 77 = .ok (.iadd, 1) := by decide +kernel
theorem dX12_choose_78 : decode cX12_choose 78 = .ok (.iaload, 1) := by decide +kernel
theorem dX12_choose_79 : decode cX12_choose 79 = .ok (.ldc 103, 2) := by decide +kernel
theorem dX12_choose_81 : decode cX12_choose 81 = .ok (.if_icmp .lt 5, 3) := by decide +kernel
theorem dX12_choose_84 : decode cX12_choose 84 = .ok (.iconst 0, 1) := by decide +kernel
theorem dX12_choose_85 : decode cX12_choose 85 = .ok (.ireturn, 1) := by decide +kernel
theorem dX12_choose_86 : decode cX12_choose 86 = .ok (.iload_n 2, 1) := by decide +kernel
theorem dX12_choose_87 : decode cX12_choose 87 = .ok (.ifCond .ne 7, 3) := by decide +kernel
theorem dX12_choose_90 : decode cX12_choose 90 = .ok (.iconst 0, 1) := by decide +kernel
theorem dX12_choose_91 : decode cX12_choose 91 = .ok (.goto 10, 3) := by decide +kernel
theorem dX12_choose_94 : decode cX12_choose 94 = .ok (.aload_n 0, 1) := by decide +kernel
theorem dX12_choose_95 : decode cX12_choose 95 = .ok (.getfield 20, 3) := by decide +kernel
theorem dX12_choose_98 : decode cX12_choose 98 = .ok (.iload 5, 2) := by decide +kernel
theorem dX12_choose_100 : decode cX12_choose 100 = .ok (.iaload, 1) := by decide +kernel
theorem dX12_choose_101 : decode cX12_choose 101 = .ok (.istore 6, 2) := by decide +kernel
theorem dX12_choose_103 : decode cX12_choose 103 = .ok (.iload_n 1, 1) := by decide +kernel
theorem dX12_choose_104 : decode cX12_choose 104 = .ok (.iconst 1, 1) := by decide +kernel
theorem dX12_choose_105 : decode cX12_choose 105 = .ok (.iadd, 1) := by decide +kernel
theorem dX12_choose_106 : decode cX12_choose 106 = .ok (.istore 7, 2) := by decide +kernel
theorem dX12_choose_108 : decode cX12_choose 108 = .ok (.aload_n 0, 1) := by decide +kernel
theorem dX12_choose_109 : decode cX12_choose 109 = .ok (.getfield 63, 3) := by decide +kernel
theorem dX12_choose_112 : decode cX12_choose 112 = .ok (.iload 7, 2) := by decide +kernel
theorem dX12_choose_114 : decode cX12_choose 114 = .ok (.iload_n 3, 1) := by decide +kernel
theorem dX12_choose_115 : decode cX12_choose 115 = .ok (.ifCond .ne 8, 3) := by decide +kernel
theorem dX12_choose_118 : decode cX12_choose 118 = .ok (.iload 6, 2) := by decide +kernel
theorem dX12_choose_120 : decode cX12_choose 120 = .ok (.goto 9, 3) := by decide +kernel
theorem dX12_choose_123 : decode cX12_choose 123 = .ok (.aload_n 0, 1) := by decide +kernel
theorem dX12_choose_124 : decode cX12_choose 124 = .ok (.getfield 63, 3) := by decide +kernel
theorem dX12_choose_127 : decode cX12_choose 127 = .ok (.iload_n 1, 1) := by decide +kernel
theorem dX12_choose_128 : decode cX12_choose 128 = .ok (.iaload, 1) := by decide +kernel
theorem dX12_choose_129 : decode cX12_choose 129 = .ok (.iastore, 1) := by decide +kernel
theorem dX12_choose_130 : decode cX12_choose 130 = .ok (.aload_n 0, 1) := by decide +kernel
theorem dX12_choose_131 : decode cX12_choose 131 = .ok (.getfield 66, 3) := by decide +kernel
theorem dX12_choose_134 : decode cX12_choose 134 = .ok (.iload 7, 2) := by decide +kernel
theorem dX12_choose_136 : decode cX12_choose 136 = .ok (.iload_n 3, 1) := by decide +kernel
theorem dX12_choose_137 : decode cX12_choose 137 = .ok (.iconst 1, 1) := by decide +kernel
theorem dX12_choose_138 : decode cX12_choose 138 = .ok (.if_icmp .ne 8, 3) := by decide +kernel
theorem dX12_choose_141 : decode cX12_choose 141 = .ok (.iload 6, 2) := by decide +kernel
theorem dX12_choose_143 : decode cX12_choose 143 = .ok (.goto 9, 3) := by decide +kernel
theorem dX12_choose_146 : decode cX12_choose 146 = .ok (.aload_n 0, 1) := by decide +kernel
theorem dX12_choose_147 : decode cX12_choose 147 = .ok (.getfield 66, 3) := by decide +kernel
theorem dX12_choose_150 : decode cX12_choose 150 = .ok (.iload_n 1, 1) := by decide +kernel
theorem dX12_choose_151 : decode cX12_choose 151 = .ok (.iaload, 1) := by decide +kernel
theorem dX12_choose_152 : decode cX12_choose 152 = .ok (.iastore, 1) := by decide +kernel
theorem dX12_choose_153 : decode cX12_choose 153 = .ok (.aload_n 0, 1) := by decide +kernel
theorem dX12_choose_154 : decode cX12_choose 154 = .ok (.getfield 69, 3) := by decide +kernel
theorem dX12_choose_157 : decode cX12_choose 157 = .ok (.iload 7, 2) := by decide +kernel
theorem dX12_choose_159 : decode cX12_choose 159 = .ok (.aload_n 0, 1) := by decide +kernel
theorem dX12_choose_160 : decode cX12_choose 160 = .ok (.getfield 69, 3) := by decide +kernel
theorem dX12_choose_163 : decode cX12_choose 163 = .ok (.iload_n 1, 1) := by decide +kernel
theorem dX12_choose_164 : decode cX12_choose 164 = .ok (.iaload, 1) := by decide +kernel
theorem dX12_choose_165 : decode cX12_choose 165 = .ok (.aload_n 0, 1) := by decide +kernel
theorem dX12_choose_166 : decode cX12_choose 166 = .ok (.getfield 17, 3) := by decide +kernel
theorem dX12_choose_169 : decode cX12_choose 169 = .ok (.bipush 6, 2) := by decide +kernel
theorem dX12_choose_171 : decode cX12_choose 171 = .ok (.iload 4, 2) := by decide +kernel
theorem dX12_choose_173 : decode cX12_choose 173 = .ok (.imul, 1) := by decide +kernel
theorem dX12_choose_174 : decode cX12_choose 174 = .ok (.iload 6, 2) := by decide +kernel
theorem dX12_choose_176 : decode cX12_choose 176 = .ok (.iadd, 1) := by decide +kernel
theorem dX12_choose_177 : decode cX12_choose 177 = .ok (.iaload, 1) := by decide +kernel
theorem dX12_choose_178 : decode cX12_choose 178 = .ok (.isub, 1) := by decide +kernel
theorem dX12_choose_179 : decode cX12_choose 179 = .ok (.iastore, 1) := by decide +kernel
theorem dX12_choose_180 : decode cX12_choose 180 = .ok (.aload_n 0, 1) := by decide +kernel
theorem dX12_choose_181 : decode cX12_choose 181 = .ok (.getfield 72, 3) := by decide +kernel
theorem dX12_choose_184 : decode cX12_choose 184 = .ok (.iload 7, 2) := by decide +kernel
theorem dX12_choose_186 : decode cX12_choose 186 = .ok (.aload_n 0, 1) := by decide +kernel
theorem dX12_choose_187 : decode cX12_choose 187 = .ok (.getfield 72, 3) := by decide +kernel
theorem dX12_choose_190 : decode cX12_choose 190 = .ok (.iload_n 1, 1) := by decide +kernel
theorem dX12_choose_191 : decode cX12_choose 191 = .ok (.iaload, 1) := by decide +kernel
theorem dX12_choose_192 : decode cX12_choose 192 = .ok (.iload_n 2, 1) := by decide +kernel
theorem dX12_choose_193 : decode cX12_choose 193 = .ok (.ifCond .le 10, 3) := by decide +kernel
theorem dX12_choose_196 : decode cX12_choose 196 = .ok (.iconst 1, 1) := by decide +kernel
theorem dX12_choose_197 : decode cX12_choose 197 = .ok (.iload 5, 2) := by decide +kernel
theorem dX12_choose_199 : decode cX12_choose 199 = .ok (.ishl, 1) := by decide +kernel
theorem dX12_choose_200 : decode cX12_choose 200 = .ok (.goto 4, 3) := by decide +kernel
theorem dX12_choose_203 : decode cX12_choose 203 = .ok (.iconst 0, 1) := by decide +kernel
theorem dX12_choose_204 : decode cX12_choose 204 = .ok (.ior, 1) := by decide +kernel
theorem dX12_choose_205 : decode cX12_choose 205 = .ok (.iastore, 1) := by decide +kernel
theorem dX12_choose_206 : decode cX12_choose 206 = .ok (.aload_n 0, 1) := by decide +kernel
theorem dX12_choose_207 : decode cX12_choose 207 = .ok (.getfield 75, 3) := by decide +kernel
theorem dX12_choose_210 : decode cX12_choose 210 = .ok (.iload 7, 2) := by decide +kernel
theorem dX12_choose_212 : decode cX12_choose 212 = .ok (.aload_n 0, 1) := by decide +kernel
theorem dX12_choose_213 : decode cX12_choose 213 = .ok (.getfield 75, 3) := by decide +kernel
theorem dX12_choose_216 : decode cX12_choose 216 = .ok (.iload_n 1, 1) := by decide +kernel
theorem dX12_choose_217 : decode cX12_choose 217 = .ok (.iaload, 1) := by decide +kernel
theorem dX12_choose_218 : decode cX12_choose 218 = .ok (.iload_n 2, 1) := by decide +kernel
theorem dX12_choose_219 : decode cX12_choose 219 = .ok (.ifCond .ne 9, 3) := by decide +kernel
theorem dX12_choose_222 : decode cX12_choose 222 = .ok (.iconst 1, 1) := by decide +kernel
theorem dX12_choose_223 : decode cX12_choose 223 = .ok (.iload_n 3, 1) := by decide +kernel
theorem dX12_choose_224 : decode cX12_choose 224 = .ok (.ishl, 1) := by decide +kernel
theorem dX12_choose_225 : decode cX12_choose 225 = .ok (.goto 4, 3) := by decide +kernel
theorem dX12_choose_228 : decode cX12_choose 228 = .ok (.iconst 0, 1) := by decide +kernel
theorem dX12_choose_229 : decode cX12_choose 229 = .ok (.ior, 1) := by decide +kernel
theorem dX12_choose_230 : decode cX12_choose 230 = .ok (.iastore, 1) := by decide +kernel
theorem dX12_choose_231 : decode cX12_choose 231 = .ok (.aload_n 0, 1) := by decide +kernel
theorem dX12_choose_232 : decode cX12_choose 232 = .ok (.getfield 84, 3) := by decide +kernel
theorem dX12_choose_235 : decode cX12_choose 235 = .ok (.iload 7, 2) := by decide +kernel
theorem dX12_choose_237 : decode cX12_choose 237 = .ok (.aload_n 0, 1) := by decide +kernel
theorem dX12_choose_238 : decode cX12_choose 238 = .ok (.getfield 84, 3) := by decide +kernel
theorem dX12_choose_241 : decode cX12_choose 241 = .ok (.iload_n 1, 1) := by decide +kernel
theorem dX12_choose_242 : decode cX12_choose 242 = .ok (.iaload, 1) := by decide +kernel
theorem dX12_choose_243 : decode cX12_choose 243 = .ok (.iload_n 3, 1) := by decide +kernel
theorem dX12_choose_244 : decode cX12_choose 244 = .ok (.ifCond .ne 17, 3) := by decide +kernel
theorem dX12_choose_247 : decode cX12_choose 247 = .ok (.iload_n 2, 1) := by decide +kernel
theorem dX12_choose_248 : decode cX12_choose 248 = .ok (.ifCond .le 13, 3) := by decide +kernel
theorem dX12_choose_251 : decode cX12_choose 251 = .ok (.aload_n 0, 1) := by decide +kernel
theorem dX12_choose_252 : decode cX12_choose 252 = .ok (.getfield 23, 3) := by decide +kernel
theorem dX12_choose_255 : decode cX12_choose 255 = .ok (.iload 5, 2) := by decide +kernel
theorem dX12_choose_257 : decode cX12_choose 257 = .ok (.iaload, 1) := by decide +kernel
theorem dX12_choose_258 : decode cX12_choose 258 = .ok (.goto 4, 3) := by decide +kernel
theorem dX12_choose_261 : decode cX12_choose 261 = .ok (.iconst 0, 1) := by decide +kernel
theorem dX12_choose_262 : decode cX12_choose 262 = .ok (.iadd, 1) := by decide +kernel
theorem dX12_choose_263 : decode cX12_choose 263 = .ok (.iastore, 1) := by decide +kernel
theorem dX12_choose_264 : decode cX12_choose 264 = .ok (.aload_n 0, 1) := by decide +kernel
theorem dX12_choose_265 : decode cX12_choose 265 = .ok (.getfield 87, 3) := by decide +kernel
theorem dX12_choose_268 : decode cX12_choose 268 = .ok (.iload 7, 2) := by decide +kernel
theorem dX12_choose_270 : decode cX12_choose 270 = .ok (.aload_n 0, 1) := by decide +kernel
theorem dX12_choose_271 : decode cX12_choose 271 = .ok (.getfield 87, 3) := by decide +kernel
theorem dX12_choose_274 : decode cX12_choose 274 = .ok (.iload_n 1, 1) := by decide +kernel
theorem dX12_choose_275 : decode cX12_choose 275 = .ok (.iaload, 1) := by decide +kernel
theorem dX12_choose_276 : decode cX12_choose 276 = .ok (.iload_n 3, 1) := by decide +kernel
theorem dX12_choose_277 : decode cX12_choose 277 = .ok (.iconst 1, 1) := by decide +kernel
theorem dX12_choose_278 : decode cX12_choose 278 = .ok (.if_icmp .ne 17, 3) := by decide +kernel
theorem dX12_choose_281 : decode cX12_choose 281 = .ok (.iload_n 2, 1) := by decide +kernel
theorem dX12_choose_282 : decode cX12_choose 282 = .ok (.ifCond .le 13, 3) := by decide +kernel
theorem dX12_choose_285 : decode cX12_choose 285 = .ok (.aload_n 0, 1) := by decide +kernel
theorem dX12_choose_286 : decode cX12_choose 286 = .ok (.getfield 23, 3) := by decide +kernel
theorem dX12_choose_289 : decode cX12_choose 289 = .ok (.iload 5, 2) := by decide +kernel
theorem dX12_choose_291 : decode cX12_choose 291 = .ok (.iaload, 1) := by decide +kernel
theorem dX12_choose_292 : decode cX12_choose 292 = .ok (.goto 4, 3) := by decide +kernel
theorem dX12_choose_295 : decode cX12_choose 295 = .ok (.iconst 0, 1) := by decide +kernel
theorem dX12_choose_296 : decode cX12_choose 296 = .ok (.iadd, 1) := by decide +kernel
theorem dX12_choose_297 : decode cX12_choose 297 = .ok (.iastore, 1) := by decide +kernel
theorem dX12_choose_298 : decode cX12_choose 298 = .ok (.aload_n 0, 1) := by decide +kernel
theorem dX12_choose_299 : decode cX12_choose 299 = .ok (.getfield 78, 3) := by decide +kernel
theorem dX12_choose_302 : decode cX12_choose 302 = .ok (.iload 7, 2) := by decide +kernel
theorem dX12_choose_304 : decode cX12_choose 304 = .ok (.aload_n 0, 1) := by decide +kernel
theorem dX12_choose_305 : decode cX12_choose 305 = .ok (.getfield 75, 3) := by decide +kernel
theorem dX12_choose_308 : decode cX12_choose 308 = .ok (.iload 7, 2) := by decide +kernel
theorem dX12_choose_310 : decode cX12_choose 310 = .ok (.iaload, 1) := by decide +kernel
theorem dX12_choose_311 : decode cX12_choose 311 = .ok (.iconst 1, 1) := by decide +kernel
theorem dX12_choose_312 : decode cX12_choose 312 = .ok (.iload_n 3, 1) := by decide +kernel
theorem dX12_choose_313 : decode cX12_choose 313 = .ok (.isub, 1) := by decide +kernel
theorem dX12_choose_314 : decode cX12_choose 314 = .ok (.invokestatic 180, 3) := by decide +kernel
theorem dX12_choose_317 : decode cX12_choose 317 = .ok (.ifCond .eq 7, 3) := by decide +kernel
theorem dX12_choose_320 : decode cX12_choose 320 = .ok (.iload_n 3, 1) := by decide +kernel
theorem dX12_choose_321 : decode cX12_choose 321 = .ok (.goto 6, 3) := by decide +kernel
theorem dX12_choose_324 : decode cX12_choose 324 = .ok (.iconst 1, 1) := by decide +kernel
theorem dX12_choose_325 : decode cX12_choose 325 = .ok (.iload_n 3, 1) := by decide +kernel
theorem dX12_choose_326 : decode cX12_choose 326 = .ok (.isub, 1) := by decide +kernel
theorem dX12_choose_327 : decode cX12_choose 327 = .ok (.iastore, 1) := by decide +kernel
theorem dX12_choose_328 : decode cX12_choose 328 = .ok (.aload_n 0, 1) := by decide +kernel
theorem dX12_choose_329 : decode cX12_choose 329 = .ok (.getfield 81, 3) := by decide +kernel
theorem dX12_choose_332 : decode cX12_choose 332 = .ok (.iload 7, 2) := by decide +kernel
theorem dX12_choose_334 : decode cX12_choose 334 = .ok (.iconst 0, 1) := by decide +kernel
theorem dX12_choose_335 : decode cX12_choose 335 = .ok (.iastore, 1) := by decide +kernel
theorem dX12_choose_336 : decode cX12_choose 336 = .ok (.aload_n 0, 1) := by decide +kernel
theorem dX12_choose_337 : decode cX12_choose 337 = .ok (.getfield 90, 3) := by decide +kernel
theorem dX12_choose_340 : decode cX12_choose 340 = .ok (.iload 7, 2) := by decide +kernel
theorem dX12_choose_342 : decode cX12_choose 342 = .ok (.bipush (-9), 2) := by decide +kernel
theorem dX12_choose_344 : decode cX12_choose 344 = .ok (.iastore, 1) := by decide +kernel
theorem dX12_choose_345 : decode cX12_choose 345 = .ok (.aload_n 0, 1) := by decide +kernel
theorem dX12_choose_346 : decode cX12_choose 346 = .ok (.getfield 93, 3) := by decide +kernel
theorem dX12_choose_349 : decode cX12_choose 349 = .ok (.iload 7, 2) := by decide +kernel
theorem dX12_choose_351 : decode cX12_choose 351 = .ok (.bipush (-9), 2) := by decide +kernel
theorem dX12_choose_353 : decode cX12_choose 353 = .ok (.iastore, 1) := by decide +kernel
theorem dX12_choose_354 : decode cX12_choose 354 = .ok (.aload_n 0, 1) := by decide +kernel
theorem dX12_choose_355 : decode cX12_choose 355 = .ok (.iload 7, 2) := by decide +kernel
theorem dX12_choose_357 : decode cX12_choose 357 = .ok (.invokevirtual 241, 3) := by decide +kernel
theorem dX12_choose_360 : decode cX12_choose 360 = .ok (.ireturn, 1) := by decide +kernel
theorem dX12_take_0 : decode cX12_take 0 = .ok (.aload_n 0, 1) := by decide +kernel
theorem dX12_take_1 : decode cX12_take 1 = .ok (.getfield 90, 3) := by decide +kernel
theorem dX12_take_4 : decode cX12_take 4 = .ok (.iload_n 1, 1) := by decide +kernel
theorem dX12_take_5 : decode cX12_take 5 = .ok (.iaload, 1) := by decide +kernel
theorem dX12_take_6 : decode cX12_take 6 = .ok (.bipush (-9), 2) := by decide +kernel
theorem dX12_take_8 : decode cX12_take 8 = .ok (.if_icmp .eq 35, 3) := by decide +kernel
theorem dX12_take_11 : decode cX12_take 11 = .ok (.aload_n 0, 1) := by decide +kernel
theorem dX12_take_12 : decode cX12_take 12 = .ok (.getfield 78, 3) := by decide +kernel
theorem dX12_take_15 : decode cX12_take 15 = .ok (.iload_n 1, 1) := by decide +kernel
theorem dX12_take_16 : decode cX12_take 16 = .ok (.iaload, 1) := by decide +kernel
theorem dX12_take_17 : decode cX12_take 17 = .ok (.ifCond .ne 16, 3) := by decide +kernel
theorem dX12_take_20 : decode cX12_take 20 = .ok (.iload_n 2, 1) := by decide +kernel
theorem dX12_take_21 : decode cX12_take 21 = .ok (.aload_n 0, 1) := by decide +kernel
theorem dX12_take_22 : decode cX12_take 22 = .ok (.getfield 90, 3) := by decide +kernel
theorem dX12_take_25 : decode cX12_take 25 = .ok (.iload_n 1, 1) := by decide +kernel
theorem dX12_take_26 : decode cX12_take 26 = .ok (.iaload, 1) := by decide +kernel
theorem dX12_take_27 : decode cX12_take 27 = .ok (.if_icmp .le 20, 3) := by decide +kernel
theorem dX12_take_30 : decode cX12_take 30 = .ok (.goto 13, 3) := by decide +kernel
theorem dX12_take_33 : decode cX12_take 33 = .ok (.iload_n 3, 1) := by decide +kernel
theorem dX12_take_34 : decode cX12_take 34 = .ok (.aload_n 0, 1) := by decide +kernel
theorem dX12_take_35 : decode cX12_take 35 = .ok (.getfield 93, 3) := by decide +kernel
theorem dX12_take_38 : decode cX12_take 38 = .ok (.iload_n 1, 1) := by decide +kernel
theorem dX12_take_39 : decode cX12_take 39 = .ok (.iaload, 1) := by decide +kernel
theorem dX12_take_40 : decode cX12_take 40 = .ok (.if_icmp .le 7, 3) := by decide +kernel
theorem dX12_take_43 : decode cX12_take 43 = .ok (.iconst 1, 1) := by decide +kernel
theorem dX12_take_44 : decode cX12_take 44 = .ok (.goto 4, 3) := by decide +kernel
theorem dX12_take_47 : decode cX12_take 47 = .ok (.iconst 0, 1) := by decide +kernel
theorem dX12_take_48 : decode cX12_take 48 = .ok (.istore 4, 2) := by decide +kernel
theorem dX12_take_50 : decode cX12_take 50 = .ok (.iload 4, 2) := by decide +kernel
theorem dX12_take_52 : decode cX12_take 52 = .ok (.ifCond .eq 17, 3) := by decide +kernel
theorem dX12_take_55 : decode cX12_take 55 = .ok (.aload_n 0, 1) := by decide +kernel
theorem dX12_take_56 : decode cX12_take 56 = .ok (.getfield 90, 3) := by decide +kernel
theorem dX12_take_59 : decode cX12_take 59 = .ok (.iload_n 1, 1) := by decide +kernel
theorem dX12_take_60 : decode cX12_take 60 = .ok (.iload_n 2, 1) := by decide +kernel
theorem dX12_take_61 : decode cX12_take 61 = .ok (.iastore, 1) := by decide +kernel
theorem dX12_take_62 : decode cX12_take 62 = .ok (.aload_n 0, 1) := by decide +kernel
theorem dX12_take_63 : decode cX12_take 63 = .ok (.getfield 93, 3) := by decide +kernel
theorem dX12_take_66 : decode cX12_take 66 = .ok (.iload_n 1, 1) := by decide +kernel
theorem dX12_take_67 : decode cX12_take 67 = .ok (.iload_n 3, 1) := by decide +kernel
theorem dX12_take_68 : decode cX12_take 68 = .ok (.iastore, 1) := by decide +kernel
theorem dX12_take_69 : decode cX12_take 69 = .ok (.return_, 1) := by decide +kernel
theorem dX12_byTurns_0 : decode cX12_byTurns 0 = .ok (.aload_n 0, 1) := by decide +kernel
theorem dX12_byTurns_1 : decode cX12_byTurns 1 = .ok (.iconst 0, 1) := by decide +kernel
theorem dX12_byTurns_2 : decode cX12_byTurns 2 = .ok (.putfield 104, 3) := by decide +kernel
theorem dX12_byTurns_5 : decode cX12_byTurns 5 = .ok (.iload_n 1, 1) := by decide +kernel
theorem dX12_byTurns_6 : decode cX12_byTurns 6 = .ok (.invokestatic 191, 3) := by decide +kernel
theorem dX12_byTurns_9 : decode cX12_byTurns 9 = .ok (.ifCond .eq 5, 3) := by decide +kernel
theorem dX12_byTurns_12 : decode cX12_byTurns 12 = .ok (.iconst (-1), 1) := by decide +kernel
theorem dX12_byTurns_13 : decode cX12_byTurns 13 = .ok (.ireturn, 1) := by decide +kernel
theorem dX12_byTurns_14 : decode cX12_byTurns 14 = .ok (.iconst 0, 1) := by decide +kernel
theorem dX12_byTurns_15 : decode cX12_byTurns 15 = .ok (.istore_n 2, 1) := by decide +kernel
theorem dX12_byTurns_16 : decode cX12_byTurns 16 = .ok (.iconst 0, 1) := by decide +kernel
theorem dX12_byTurns_17 : decode cX12_byTurns 17 = .ok (.istore_n 3, 1) := by decide +kernel
theorem dX12_byTurns_18 : decode cX12_byTurns 18 = .ok (.iload_n 3, 1) := by decide +kernel
theorem dX12_byTurns_19 : decode cX12_byTurns 19 = .ok (.aload_n 0, 1) := by decide +kernel
theorem dX12_byTurns_20 : decode cX12_byTurns 20 = .ok (.getfield 111, 3) := by decide +kernel
theorem dX12_byTurns_23 : decode cX12_byTurns 23 = .ok (.if_icmp .ge 28, 3) := by decide +kernel
theorem dX12_byTurns_26 : decode cX12_byTurns 26 = .ok (.iload_n 2, 1) := by decide +kernel
theorem dX12_byTurns_27 : decode cX12_byTurns 27 = .ok (.aload_n 0, 1) := by decide +kernel
theorem dX12_byTurns_28 : decode cX12_byTurns 28 = .ok (.getfield 168, 3) := by decide +kernel
theorem dX12_byTurns_31 : decode cX12_byTurns 31 = .ok (.iload_n 3, 1) := by decide +kernel
theorem dX12_byTurns_32 : decode cX12_byTurns 32 = .ok (.invokestatic 180, 3) := by decide +kernel
theorem dX12_byTurns_35 : decode cX12_byTurns 35 = .ok (.ifCond .eq 7, 3) := by decide +kernel
theorem dX12_byTurns_38 : decode cX12_byTurns 38 = .ok (.iconst 0, 1) := by decide +kernel
theorem dX12_byTurns_39 : decode cX12_byTurns 39 = .ok (.goto 4, 3) := by decide +kernel
theorem dX12_byTurns_42 : decode cX12_byTurns 42 = .ok (.iconst 1, 1) := by decide +kernel
theorem dX12_byTurns_43 : decode cX12_byTurns 43 = .ok (.iadd, 1) := by decide +kernel
theorem dX12_byTurns_44 : decode cX12_byTurns 44 = .ok (.istore_n 2, 1) := by decide +kernel
theorem dX12_byTurns_45 : decode cX12_byTurns 45 = .ok (.iinc 3 1, 3) := by decide +kernel
theorem dX12_byTurns_48 : decode cX12_byTurns 48 = .ok (.goto (-30), 3) := by decide +kernel
theorem dX12_byTurns_51 : decode cX12_byTurns 51 = .ok (.iload_n 2, 1) := by decide +kernel
theorem dX12_byTurns_52 : decode cX12_byTurns 52 = .ok (.iconst 5, 1) := by decide +kernel
theorem dX12_byTurns_53 : decode cX12_byTurns 53 = .ok (.if_icmp .le 6, 3) := by decide +kernel
theorem dX12_byTurns_56 : decode cX12_byTurns 56 = .ok (.bipush (-3), 2) := by decide +kernel
theorem dX12_byTurns_58 : decode cX12_byTurns 58 = .ok (.ireturn, 1) := by decide +kernel
theorem dX12_byTurns_59 : decode cX12_byTurns 59 = .ok (.aload_n 0, 1) := by decide +kernel
theorem dX12_byTurns_60 : decode cX12_byTurns 60 = .ok (.getfield 63, 3) := by decide +kernel
theorem dX12_byTurns_63 : decode cX12_byTurns 63 = .ok (.iconst 0, 1) := by decide +kernel
theorem dX12_byTurns_64 : decode cX12_byTurns 64 = .ok (.aload_n 0, 1) := by decide +kernel
theorem dX12_byTurns_65 : decode cX12_byTurns 65 = .ok (.getfield 41, 3) := by decide +kernel
theorem dX12_byTurns_68 : decode cX12_byTurns 68 = .ok (.iconst 0, 1) := by decide +kernel
theorem dX12_byTurns_69 : decode cX12_byTurns 69 = .ok (.iaload, 1) := by decide +kernel
theorem dX12_byTurns_70 : decode cX12_byTurns 70 = .ok (.iastore, 1) := by decide +kernel
theorem dX12_byTurns_71 : decode cX12_byTurns 71 = .ok (.aload_n 0, 1) := by decide +kernel
theorem dX12_byTurns_72 : decode cX12_byTurns 72 = .ok (.getfield 66, 3) := by decide +kernel
theorem dX12_byTurns_75 : decode cX12_byTurns 75 = .ok (.iconst 0, 1) := by decide +kernel
theorem dX12_byTurns_76 : decode cX12_byTurns 76 = .ok (.aload_n 0, 1) := by decide +kernel
theorem dX12_byTurns_77 : decode cX12_byTurns 77 = .ok (.getfield 41, 3) := by decide +kernel
theorem dX12_byTurns_80 : decode cX12_byTurns 80 = .ok (.iconst 1, 1) := by decide +kernel
theorem dX12_byTurns_81 : decode cX12_byTurns 81 = .ok (.iaload, 1) := by decide +kernel
theorem dX12_byTurns_82 : decode cX12_byTurns 82 = .ok (.iastore, 1) := by decide +kernel
theorem dX12_byTurns_83 : decode cX12_byTurns 83 = .ok (.aload_n 0, 1) := by decide +kernel
theorem dX12_byTurns_84 : decode cX12_byTurns 84 = .ok (.getfield 69, 3) := by decide +kernel
theorem dX12_byTurns_87 : decode cX12_byTurns 87 = .ok (.iconst 0, 1) := by decide +kernel
