theorem dL_cell_0 : decode cL_cell 0 = .ok (.iload_n 1, 1) := by decide +kernel
theorem dL_cell_1 : decode cL_cell 1 = .ok (.aload_n 0, 1) := by decide +kernel
theorem dL_cell_2 : decode cL_cell 2 = .ok (.arraylength, 1) := by decide +kernel
theorem dL_cell_3 : decode cL_cell 3 = .ok (.if_icmp .ge 9, 3) := by decide +kernel
theorem dL_cell_6 : decode cL_cell 6 = .ok (.aload_n 0, 1) := by decide +kernel
theorem dL_cell_7 : decode cL_cell 7 = .ok (.iload_n 1, 1) := by decide +kernel
theorem dL_cell_8 : decode cL_cell 8 = .ok (.iaload, 1) := by decide +kernel
theorem dL_cell_9 : decode cL_cell 9 = .ok (.goto 11, 3) := by decide +kernel
theorem dL_cell_12 : decode cL_cell 12 = .ok (.ldc 7, 2) := by decide +kernel
theorem dL_cell_14 : decode cL_cell 14 = .ok (.iload_n 1, 1) := by decide +kernel
theorem dL_cell_15 : decode cL_cell 15 = .ok (.imul, 1) := by decide +kernel
theorem dL_cell_16 : decode cL_cell 16 = .ok (.sipush 1801, 3) := by decide +kernel
theorem dL_cell_19 : decode cL_cell 19 = .ok (.iadd, 1) := by decide +kernel
theorem dL_cell_20 : decode cL_cell 20 = .ok (.ireturn, 1) := by decide +kernel
theorem dL_low_0 : decode cL_low 0 = .ok (.iload_n 0, 1) := by decide +kernel
theorem dL_low_1 : decode cL_low 1 = .ok (.ldc 8, 2) := by decide +kernel
theorem dL_low_3 : decode cL_low 3 = .ok (.iand, 1) := by decide +kernel
theorem dL_low_4 : decode cL_low 4 = .ok (.iload_n 1, 1) := by decide +kernel
theorem dL_low_5 : decode cL_low 5 = .ok (.irem, 1) := by decide +kernel
theorem dL_low_6 : decode cL_low 6 = .ok (.ireturn, 1) := by decide +kernel
theorem dL_steps_0 : decode cL_steps 0 = .ok (.aload_n 0, 1) := by decide +kernel
theorem dL_steps_1 : decode cL_steps 1 = .ok (.iload_n 1, 1) := by decide +kernel
theorem dL_steps_2 : decode cL_steps 2 = .ok (.iload_n 2, 1) := by decide +kernel
theorem dL_steps_3 : decode cL_steps 3 = .ok (.iload_n 3, 1) := by decide +kernel
theorem dL_steps_4 : decode cL_steps 4 = .ok (.invokevirtual 9, 3) := by decide +kernel
theorem dL_steps_7 : decode cL_steps 7 = .ok (.ireturn, 1) := by decide +kernel
theorem dL_steps_8 : decode cL_steps 8 = .ok (.astore 4, 2) := by decide +kernel
theorem dL_steps_10 : decode cL_steps 10 = .ok (.bipush (-2), 2) := by decide +kernel
theorem dL_steps_12 : decode cL_steps 12 = .ok (.ireturn, 1) := by decide +kernel
theorem dL_steps_13 : decode cL_steps 13 = .ok (.astore 4, 2) := by decide +kernel
theorem dL_steps_15 : decode cL_steps 15 = .ok (.bipush (-3), 2) := by decide +kernel
theorem dL_steps_17 : decode cL_steps 17 = .ok (.ireturn, 1) := by decide +kernel
theorem dL_steps_18 : decode cL_steps 18 = .ok (.astore 4, 2) := by decide +kernel
theorem dL_steps_20 : decode cL_steps 20 = .ok (.bipush (-4), 2) := by decide +kernel
theorem dL_steps_22 : decode cL_steps 22 = .ok (.ireturn, 1) := by decide +kernel
theorem dL_submits_0 : decode cL_submits 0 = .ok (.aload_n 0, 1) := by decide +kernel
theorem dL_submits_1 : decode cL_submits 1 = .ok (.iload_n 1, 1) := by decide +kernel
theorem dL_submits_2 : decode cL_submits 2 = .ok (.iload_n 2, 1) := by decide +kernel
theorem dL_submits_3 : decode cL_submits 3 = .ok (.iload_n 3, 1) := by decide +kernel
theorem dL_submits_4 : decode cL_submits 4 = .ok (.iload 4, 2) := by decide +kernel
theorem dL_submits_6 : decode cL_submits 6 = .ok (.iload 5, 2) := by decide +kernel
theorem dL_submits_8 : decode cL_submits 8 = .ok (.iload 6, 2) := by decide +kernel
theorem dL_submits_10 : decode cL_submits 10 = .ok (.iconst 3, 1) := by decide +kernel
theorem dL_submits_11 : decode cL_submits 11 = .ok (.ishr, 1) := by decide +kernel
theorem dL_submits_12 : decode cL_submits 12 = .ok (.bipush 40, 2) := by decide +kernel
theorem dL_submits_14 : decode cL_submits 14 = .ok (.invokestatic 21, 3) := by decide +kernel
theorem dL_submits_17 : decode cL_submits 17 = .ok (.bipush 20, 2) := by decide +kernel
theorem dL_submits_19 : decode cL_submits 19 = .ok (.iload 6, 2) := by decide +kernel
theorem dL_submits_21 : decode cL_submits 21 = .ok (.iconst 5, 1) := by decide +kernel
theorem dL_submits_22 : decode cL_submits 22 = .ok (.ishr, 1) := by decide +kernel
theorem dL_submits_23 : decode cL_submits 23 = .ok (.sipush 200, 3) := by decide +kernel
theorem dL_submits_26 : decode cL_submits 26 = .ok (.invokestatic 21, 3) := by decide +kernel
theorem dL_submits_29 : decode cL_submits 29 = .ok (.iadd, 1) := by decide +kernel
theorem dL_submits_30 : decode cL_submits 30 = .ok (.bipush 12, 2) := by decide +kernel
theorem dL_submits_32 : decode cL_submits 32 = .ok (.iload 6, 2) := by decide +kernel
theorem dL_submits_34 : decode cL_submits 34 = .ok (.bipush 7, 2) := by decide +kernel
theorem dL_submits_36 : decode cL_submits 36 = .ok (.ishr, 1) := by decide +kernel
theorem dL_submits_37 : decode cL_submits 37 = .ok (.bipush 20, 2) := by decide +kernel
theorem dL_submits_39 : decode cL_submits 39 = .ok (.invokestatic 21, 3) := by decide +kernel
theorem dL_submits_42 : decode cL_submits 42 = .ok (.iadd, 1) := by decide +kernel
theorem dL_submits_43 : decode cL_submits 43 = .ok (.iload 6, 2) := by decide +kernel
theorem dL_submits_45 : decode cL_submits 45 = .ok (.bipush 9, 2) := by decide +kernel
theorem dL_submits_47 : decode cL_submits 47 = .ok (.ishr, 1) := by decide +kernel
theorem dL_submits_48 : decode cL_submits 48 = .ok (.bipush 13, 2) := by decide +kernel
theorem dL_submits_50 : decode cL_submits 50 = .ok (.invokestatic 21, 3) := by decide +kernel
theorem dL_submits_53 : decode cL_submits 53 = .ok (.invokevirtual 27, 3) := by decide +kernel
theorem dL_submits_56 : decode cL_submits 56 = .ok (.ireturn, 1) := by decide +kernel
theorem dL_submits_57 : decode cL_submits 57 = .ok (.astore 7, 2) := by decide +kernel
theorem dL_submits_59 : decode cL_submits 59 = .ok (.bipush (-2), 2) := by decide +kernel
theorem dL_submits_61 : decode cL_submits 61 = .ok (.ireturn, 1) := by decide +kernel
theorem dL_submits_62 : decode cL_submits 62 = .ok (.astore 7, 2) := by decide +kernel
theorem dL_submits_64 : decode cL_submits 64 = .ok (.bipush (-3), 2) := by decide +kernel
theorem dL_submits_66 : decode cL_submits 66 = .ok (.ireturn, 1) := by decide +kernel
theorem dL_submits_67 : decode cL_submits 67 = .ok (.astore 7, 2) := by decide +kernel
theorem dL_submits_69 : decode cL_submits 69 = .ok (.bipush (-4), 2) := by decide +kernel
theorem dL_submits_71 : decode cL_submits 71 = .ok (.ireturn, 1) := by decide +kernel
theorem dL_claims_0 : decode cL_claims 0 = .ok (.aload_n 0, 1) := by decide +kernel
theorem dL_claims_1 : decode cL_claims 1 = .ok (.iload_n 1, 1) := by decide +kernel
theorem dL_claims_2 : decode cL_claims 2 = .ok (.iload_n 2, 1) := by decide +kernel
theorem dL_claims_3 : decode cL_claims 3 = .ok (.iload_n 3, 1) := by decide +kernel
theorem dL_claims_4 : decode cL_claims 4 = .ok (.iload 4, 2) := by decide +kernel
theorem dL_claims_6 : decode cL_claims 6 = .ok (.bipush 12, 2) := by decide +kernel
theorem dL_claims_8 : decode cL_claims 8 = .ok (.iload 5, 2) := by decide +kernel
theorem dL_claims_10 : decode cL_claims 10 = .ok (.bipush 20, 2) := by decide +kernel
theorem dL_claims_12 : decode cL_claims 12 = .ok (.invokestatic 21, 3) := by decide +kernel
theorem dL_claims_15 : decode cL_claims 15 = .ok (.iadd, 1) := by decide +kernel
theorem dL_claims_16 : decode cL_claims 16 = .ok (.iload 5, 2) := by decide +kernel
theorem dL_claims_18 : decode cL_claims 18 = .ok (.iconst 4, 1) := by decide +kernel
theorem dL_claims_19 : decode cL_claims 19 = .ok (.ishr, 1) := by decide +kernel
theorem dL_claims_20 : decode cL_claims 20 = .ok (.bipush 12, 2) := by decide +kernel
theorem dL_claims_22 : decode cL_claims 22 = .ok (.invokestatic 21, 3) := by decide +kernel
theorem dL_claims_25 : decode cL_claims 25 = .ok (.invokevirtual 31, 3) := by decide +kernel
theorem dL_claims_28 : decode cL_claims 28 = .ok (.ireturn, 1) := by decide +kernel
theorem dL_claims_29 : decode cL_claims 29 = .ok (.astore 6, 2) := by decide +kernel
theorem dL_claims_31 : decode cL_claims 31 = .ok (.bipush (-2), 2) := by decide +kernel
theorem dL_claims_33 : decode cL_claims 33 = .ok (.ireturn, 1) := by decide +kernel
theorem dL_claims_34 : decode cL_claims 34 = .ok (.astore 6, 2) := by decide +kernel
theorem dL_claims_36 : decode cL_claims 36 = .ok (.bipush (-3), 2) := by decide +kernel
theorem dL_claims_38 : decode cL_claims 38 = .ok (.ireturn, 1) := by decide +kernel
theorem dL_claims_39 : decode cL_claims 39 = .ok (.astore 6, 2) := by decide +kernel
theorem dL_claims_41 : decode cL_claims 41 = .ok (.bipush (-4), 2) := by decide +kernel
theorem dL_claims_43 : decode cL_claims 43 = .ok (.ireturn, 1) := by decide +kernel
theorem dL_makes_0 : decode cL_makes 0 = .ok (.aload_n 0, 1) := by decide +kernel
theorem dL_makes_1 : decode cL_makes 1 = .ok (.iload_n 1, 1) := by decide +kernel
theorem dL_makes_2 : decode cL_makes 2 = .ok (.iload_n 2, 1) := by decide +kernel
theorem dL_makes_3 : decode cL_makes 3 = .ok (.iload_n 3, 1) := by decide +kernel
theorem dL_makes_4 : decode cL_makes 4 = .ok (.iload 4, 2) := by decide +kernel
theorem dL_makes_6 : decode cL_makes 6 = .ok (.invokevirtual 35, 3) := by decide +kernel
theorem dL_makes_9 : decode cL_makes 9 = .ok (.ireturn, 1) := by decide +kernel
theorem dL_makes_10 : decode cL_makes 10 = .ok (.astore 5, 2) := by decide +kernel
theorem dL_makes_12 : decode cL_makes 12 = .ok (.bipush (-2), 2) := by decide +kernel
theorem dL_makes_14 : decode cL_makes 14 = .ok (.ireturn, 1) := by decide +kernel
theorem dL_makes_15 : decode cL_makes 15 = .ok (.astore 5, 2) := by decide +kernel
theorem dL_makes_17 : decode cL_makes 17 = .ok (.bipush (-3), 2) := by decide +kernel
theorem dL_makes_19 : decode cL_makes 19 = .ok (.ireturn, 1) := by decide +kernel
theorem dL_makes_20 : decode cL_makes 20 = .ok (.astore 5, 2) := by decide +kernel
theorem dL_makes_22 : decode cL_makes 22 = .ok (.bipush (-4), 2) := by decide +kernel
theorem dL_makes_24 : decode cL_makes 24 = .ok (.ireturn, 1) := by decide +kernel
theorem dL_votes_0 : decode cL_votes 0 = .ok (.aload_n 0, 1) := by decide +kernel
theorem dL_votes_1 : decode cL_votes 1 = .ok (.iload_n 1, 1) := by decide +kernel
theorem dL_votes_2 : decode cL_votes 2 = .ok (.iload_n 2, 1) := by decide +kernel
theorem dL_votes_3 : decode cL_votes 3 = .ok (.iload_n 3, 1) := by decide +kernel
theorem dL_votes_4 : decode cL_votes 4 = .ok (.iload 4, 2) := by decide +kernel
theorem dL_votes_6 : decode cL_votes 6 = .ok (.invokevirtual 39, 3) := by decide +kernel
theorem dL_votes_9 : decode cL_votes 9 = .ok (.ifCond .eq 7, 3) := by decide +kernel
theorem dL_votes_12 : decode cL_votes 12 = .ok (.iconst 1, 1) := by decide +kernel
theorem dL_votes_13 : decode cL_votes 13 = .ok (.goto 4, 3) := by decide +kernel
theorem dL_votes_16 : decode cL_votes 16 = .ok (.iconst 0, 1) := by decide +kernel
theorem dL_votes_17 : decode cL_votes 17 = .ok (.ireturn, 1) := by decide +kernel
theorem dL_votes_18 : decode cL_votes 18 = .ok (.astore 5, 2) := by decide +kernel
theorem dL_votes_20 : decode cL_votes 20 = .ok (.bipush (-2), 2) := by decide +kernel
theorem dL_votes_22 : decode cL_votes 22 = .ok (.ireturn, 1) := by decide +kernel
theorem dL_votes_23 : decode cL_votes 23 = .ok (.astore 5, 2) := by decide +kernel
theorem dL_votes_25 : decode cL_votes 25 = .ok (.bipush (-3), 2) := by decide +kernel
theorem dL_votes_27 : decode cL_votes 27 = .ok (.ireturn, 1) := by decide +kernel
theorem dL_votes_28 : decode cL_votes 28 = .ok (.astore 5, 2) := by decide +kernel
theorem dL_votes_30 : decode cL_votes 30 = .ok (.bipush (-4), 2) := by decide +kernel
theorem dL_votes_32 : decode cL_votes 32 = .ok (.ireturn, 1) := by decide +kernel
theorem dL_coins_0 : decode cL_coins 0 = .ok (.aload_n 0, 1) := by decide +kernel
theorem dL_coins_1 : decode cL_coins 1 = .ok (.iload_n 1, 1) := by decide +kernel
theorem dL_coins_2 : decode cL_coins 2 = .ok (.iload_n 2, 1) := by decide +kernel
theorem dL_coins_3 : decode cL_coins 3 = .ok (.iload_n 3, 1) := by decide +kernel
theorem dL_coins_4 : decode cL_coins 4 = .ok (.invokevirtual 43, 3) := by decide +kernel
theorem dL_coins_7 : decode cL_coins 7 = .ok (.ireturn, 1) := by decide +kernel
theorem dL_coins_8 : decode cL_coins 8 = .ok (.astore 4, 2) := by decide +kernel
theorem dL_coins_10 : decode cL_coins 10 = .ok (.bipush (-2), 2) := by decide +kernel
theorem dL_coins_12 : decode cL_coins 12 = .ok (.ireturn, 1) := by decide +kernel
theorem dL_coins_13 : decode cL_coins 13 = .ok (.astore 4, 2) := by decide +kernel
theorem dL_coins_15 : decode cL_coins 15 = .ok (.bipush (-4), 2) := by decide +kernel
theorem dL_coins_17 : decode cL_coins 17 = .ok (.ireturn, 1) := by decide +kernel
theorem dL_tell_0 : decode cL_tell 0 = .ok (.bipush 64, 2) := by decide +kernel
theorem dL_tell_2 : decode cL_tell 2 = .ok (.newarray .int, 2) := by decide +kernel
theorem dL_tell_4 : decode cL_tell 4 = .ok (.astore_n 2, 1) := by decide +kernel
theorem dL_tell_5 : decode cL_tell 5 = .ok (.iconst 0, 1) := by decide +kernel
theorem dL_tell_6 : decode cL_tell 6 = .ok (.istore_n 3, 1) := by decide +kernel
theorem dL_tell_7 : decode cL_tell 7 = .ok (.iload_n 3, 1) := by decide +kernel
theorem dL_tell_8 : decode cL_tell 8 = .ok (.iconst 2, 1) := by decide +kernel
theorem dL_tell_9 : decode cL_tell 9 = .ok (.if_icmp .ge 138, 3) := by decide +kernel
theorem dL_tell_12 : decode cL_tell 12 = .ok (.iconst 0, 1) := by decide +kernel
theorem dL_tell_13 : decode cL_tell 13 = .ok (.istore 4, 2) := by decide +kernel
theorem dL_tell_15 : decode cL_tell 15 = .ok (.iload 4, 2) := by decide +kernel
theorem dL_tell_17 : decode cL_tell 17 = .ok (.aload_n 1, 1) := by decide +kernel
theorem dL_tell_18 : decode cL_tell 18 = .ok (.iload_n 3, 1) := by decide +kernel
theorem dL_tell_19 : decode cL_tell 19 = .ok (.iaload, 1) := by decide +kernel
theorem dL_tell_20 : decode cL_tell 20 = .ok (.if_icmp .ge 49, 3) := by decide +kernel
theorem dL_tell_23 : decode cL_tell 23 = .ok (.iload 4, 2) := by decide +kernel
theorem dL_tell_25 : decode cL_tell 25 = .ok (.bipush 24, 2) := by decide +kernel
theorem dL_tell_27 : decode cL_tell 27 = .ok (.if_icmp .ge 42, 3) := by decide +kernel
theorem dL_tell_30 : decode cL_tell 30 = .ok (.aload_n 2, 1) := by decide +kernel
theorem dL_tell_31 : decode cL_tell 31 = .ok (.bipush 26, 2) := by decide +kernel
theorem dL_tell_33 : decode cL_tell 33 = .ok (.iload_n 3, 1) := by decide +kernel
theorem dL_tell_34 : decode cL_tell 34 = .ok (.imul, 1) := by decide +kernel
theorem dL_tell_35 : decode cL_tell 35 = .ok (.iload 4, 2) := by decide +kernel
theorem dL_tell_37 : decode cL_tell 37 = .ok (.iadd, 1) := by decide +kernel
theorem dL_tell_38 : decode cL_tell 38 = .ok (.aload_n 0, 1) := by decide +kernel
theorem dL_tell_39 : decode cL_tell 39 = .ok (.iload_n 3, 1) := by decide +kernel
theorem dL_tell_40 : decode cL_tell 40 = .ok (.iload 4, 2) := by decide +kernel
theorem dL_tell_42 : decode cL_tell 42 = .ok (.invokevirtual 46, 3) := by decide +kernel
theorem dL_tell_45 : decode cL_tell 45 = .ok (.aload_n 0, 1) := by decide +kernel
theorem dL_tell_46 : decode cL_tell 46 = .ok (.iload_n 3, 1) := by decide +kernel
theorem dL_tell_47 : decode cL_tell 47 = .ok (.iload 4, 2) := by decide +kernel
theorem dL_tell_49 : decode cL_tell 49 = .ok (.invokevirtual 49, 3) := by decide +kernel
theorem dL_tell_52 : decode cL_tell 52 = .ok (.ifCond .eq 8, 3) := by decide +kernel
theorem dL_tell_55 : decode cL_tell 55 = .ok (.ldc 53, 2) := by decide +kernel
theorem dL_tell_57 : decode cL_tell 57 = .ok (.goto 4, 3) := by decide +kernel
theorem dL_tell_60 : decode cL_tell 60 = .ok (.iconst 0, 1) := by decide +kernel
theorem dL_tell_61 : decode cL_tell 61 = .ok (.iadd, 1) := by decide +kernel
theorem dL_tell_62 : decode cL_tell 62 = .ok (.iastore, 1) := by decide +kernel
theorem dL_tell_63 : decode cL_tell 63 = .ok (.iinc 4 1, 3) := by decide +kernel
theorem dL_tell_66 : decode cL_tell 66 = .ok (.goto (-51), 3) := by decide +kernel
theorem dL_tell_69 : decode cL_tell 69 = .ok (.aload_n 2, 1) := by decide +kernel
theorem dL_tell_70 : decode cL_tell 70 = .ok (.bipush 26, 2) := by decide +kernel
theorem dL_tell_72 : decode cL_tell 72 = .ok (.iload_n 3, 1) := by decide +kernel
theorem dL_tell_73 : decode cL_tell 73 = .ok (.imul, 1) := by decide +kernel
theorem dL_tell_74 : decode cL_tell 74 = .ok (.bipush 24, 2) := by decide +kernel
theorem dL_tell_76 : decode cL_tell 76 = .ok (.iadd, 1) := by decide +kernel
theorem dL_tell_77 : decode cL_tell 77 = .ok (.aload_n 0, 1) := by decide +kernel
theorem dL_tell_78 : decode cL_tell 78 = .ok (.iload_n 3, 1) := by decide +kernel
theorem dL_tell_79 : decode cL_tell 79 = .ok (.invokevirtual 54, 3) := by decide +kernel
theorem dL_tell_82 : decode cL_tell 82 = .ok (.iastore, 1) := by decide +kernel
theorem dL_tell_83 : decode cL_tell 83 = .ok (.aload_n 2, 1) := by decide +kernel
theorem dL_tell_84 : decode cL_tell 84 = .ok (.bipush 26, 2) := by decide +kernel
theorem dL_tell_86 : decode cL_tell 86 = .ok (.iload_n 3, 1) := by decide +kernel
theorem dL_tell_87 : decode cL_tell 87 = .ok (.imul, 1) := by decide +kernel
theorem dL_tell_88 : decode cL_tell 88 = .ok (.bipush 25, 2) := by decide +kernel
theorem dL_tell_90 : decode cL_tell 90 = .ok (.iadd, 1) := by decide +kernel
theorem dL_tell_91 : decode cL_tell 91 = .ok (.aload_n 0, 1) := by decide +kernel
theorem dL_tell_92 : decode cL_tell 92 = .ok (.iload_n 3, 1) := by decide +kernel
theorem dL_tell_93 : decode cL_tell 93 = .ok (.invokevirtual 58, 3) := by decide +kernel
theorem dL_tell_96 : decode cL_tell 96 = .ok (.iastore, 1) := by decide +kernel
theorem dL_tell_97 : decode cL_tell 97 = .ok (.aload_n 2, 1) := by decide +kernel
theorem dL_tell_98 : decode cL_tell 98 = .ok (.bipush 52, 2) := by decide +kernel
theorem dL_tell_100 : decode cL_tell 100 = .ok (.iload_n 3, 1) := by decide +kernel
theorem dL_tell_101 : decode cL_tell 101 = .ok (.iadd, 1) := by decide +kernel
theorem dL_tell_102 : decode cL_tell 102 = .ok (.aload_n 0, 1) := by decide +kernel
theorem dL_tell_103 : decode cL_tell 103 = .ok (.iload_n 3, 1) := by decide +kernel
theorem dL_tell_104 : decode cL_tell 104 = .ok (.invokevirtual 61, 3) := by decide +kernel
theorem dL_tell_107 : decode cL_tell 107 = .ok (.iastore, 1) := by decide +kernel
theorem dL_tell_108 : decode cL_tell 108 = .ok (.iconst 0, 1) := by decide +kernel
theorem dL_tell_109 : decode cL_tell 109 = .ok (.istore 4, 2) := by decide +kernel
theorem dL_tell_111 : decode cL_tell 111 = .ok (.iload 4, 2) := by decide +kernel
theorem dL_tell_113 : decode cL_tell 113 = .ok (.iconst 4, 1) := by decide +kernel
theorem dL_tell_114 : decode cL_tell 114 = .ok (.if_icmp .ge 27, 3) := by decide +kernel
theorem dL_tell_117 : decode cL_tell 117 = .ok (.aload_n 2, 1) := by decide +kernel
theorem dL_tell_118 : decode cL_tell 118 = .ok (.bipush 54, 2) := by decide +kernel
theorem dL_tell_120 : decode cL_tell 120 = .ok (.iconst 4, 1) := by decide +kernel
theorem dL_tell_121 : decode cL_tell 121 = .ok (.iload_n 3, 1) := by decide +kernel
theorem dL_tell_122 : decode cL_tell 122 = .ok (.imul, 1) := by decide +kernel
theorem dL_tell_123 : decode cL_tell 123 = .ok (.iadd, 1) := by decide +kernel
theorem dL_tell_124 : decode cL_tell 124 = .ok (.iload 4, 2) := by decide +kernel
theorem dL_tell_126 : decode cL_tell 126 = .ok (.iadd, 1) := by decide +kernel
theorem dL_tell_127 : decode cL_tell 127 = .ok (.aload_n 0, 1) := by decide +kernel
theorem dL_tell_128 : decode cL_tell 128 = .ok (.iload_n 3, 1) := by decide +kernel
theorem dL_tell_129 : decode cL_tell 129 = .ok (.iload 4, 2) := by decide +kernel
theorem dL_tell_131 : decode cL_tell 131 = .ok (.invokevirtual 64, 3) := by decide +kernel
theorem dL_tell_134 : decode cL_tell 134 = .ok (.iastore, 1) := by decide +kernel
theorem dL_tell_135 : decode cL_tell 135 = .ok (.iinc 4 1, 3) := by decide +kernel
theorem dL_tell_138 : decode cL_tell 138 = .ok (.goto (-27), 3) := by decide +kernel
theorem dL_tell_141 : decode cL_tell 141 = .ok (.iinc 3 1, 3) := by decide +kernel
theorem dL_tell_144 : decode cL_tell 144 = .ok (.goto (-137), 3) := by decide +kernel
theorem dL_tell_147 : decode cL_tell 147 = .ok (.aload_n 2, 1) := by decide +kernel
theorem dL_tell_148 : decode cL_tell 148 = .ok (.areturn, 1) := by decide +kernel
theorem dL_same_0 : decode cL_same 0 = .ok (.iconst 0, 1) := by decide +kernel
theorem dL_same_1 : decode cL_same 1 = .ok (.istore_n 2, 1) := by decide +kernel
theorem dL_same_2 : decode cL_same 2 = .ok (.iload_n 2, 1) := by decide +kernel
theorem dL_same_3 : decode cL_same 3 = .ok (.bipush 64, 2) := by decide +kernel
theorem dL_same_5 : decode cL_same 5 = .ok (.if_icmp .ge 20, 3) := by decide +kernel
theorem dL_same_8 : decode cL_same 8 = .ok (.aload_n 0, 1) := by decide +kernel
theorem dL_same_9 : decode cL_same 9 = .ok (.iload_n 2, 1) := by decide +kernel
theorem dL_same_10 : decode cL_same 10 = .ok (.iaload, 1) := by decide +kernel
theorem dL_same_11 : decode cL_same 11 = .ok (.aload_n 1, 1) := by decide +kernel
theorem dL_same_12 : decode cL_same 12 = .ok (.iload_n 2, 1) := by decide +kernel
theorem dL_same_13 : decode cL_same 13 = .ok (.iaload, 1) := by decide +kernel
theorem dL_same_14 : decode cL_same 14 = .ok (.if_icmp .eq 5, 3) := by decide +kernel
theorem dL_same_17 : decode cL_same 17 = .ok (.iconst 0, 1) := by decide +kernel
theorem dL_same_18 : decode cL_same 18 = .ok (.ireturn, 1) := by decide +kernel
theorem dL_same_19 : decode cL_same 19 = .ok (.iinc 2 1, 3) := by decide +kernel
theorem dL_same_22 : decode cL_same 22 = .ok (.goto (-20), 3) := by decide +kernel
theorem dL_same_25 : decode cL_same 25 = .ok (.iconst 1, 1) := by decide +kernel
theorem dL_same_26 : decode cL_same 26 = .ok (.ireturn, 1) := by decide +kernel
theorem dL_proved_0 : decode cL_proved 0 = .ok (.aload_n 0, 1) := by decide +kernel
theorem dL_proved_1 : decode cL_proved 1 = .ok (.iload_n 1, 1) := by decide +kernel
theorem dL_proved_2 : decode cL_proved 2 = .ok (.iload_n 2, 1) := by decide +kernel
theorem dL_proved_3 : decode cL_proved 3 = .ok (.iload_n 3, 1) := by decide +kernel
theorem dL_proved_4 : decode cL_proved 4 = .ok (.invokevirtual 67, 3) := by decide +kernel
theorem dL_proved_7 : decode cL_proved 7 = .ok (.istore 4, 2) := by decide +kernel
theorem dL_proved_9 : decode cL_proved 9 = .ok (.aload_n 0, 1) := by decide +kernel
theorem dL_proved_10 : decode cL_proved 10 = .ok (.iload_n 1, 1) := by decide +kernel
theorem dL_proved_11 : decode cL_proved 11 = .ok (.iload_n 2, 1) := by decide +kernel
theorem dL_proved_12 : decode cL_proved 12 = .ok (.iload_n 3, 1) := by decide +kernel
theorem dL_proved_13 : decode cL_proved 13 = .ok (.iconst 0, 1) := by decide +kernel
theorem dL_proved_14 : decode cL_proved 14 = .ok (.invokevirtual 70, 3) := by decide +kernel
theorem dL_proved_17 : decode cL_proved 17 = .ok (.istore 5, 2) := by decide +kernel
theorem dL_proved_19 : decode cL_proved 19 = .ok (.aload_n 0, 1) := by decide +kernel
theorem dL_proved_20 : decode cL_proved 20 = .ok (.iload_n 1, 1) := by decide +kernel
theorem dL_proved_21 : decode cL_proved 21 = .ok (.iload_n 2, 1) := by decide +kernel
theorem dL_proved_22 : decode cL_proved 22 = .ok (.iload_n 3, 1) := by decide +kernel
theorem dL_proved_23 : decode cL_proved 23 = .ok (.iload 4, 2) := by decide +kernel
theorem dL_proved_25 : decode cL_proved 25 = .ok (.iload 5, 2) := by decide +kernel
theorem dL_proved_27 : decode cL_proved 27 = .ok (.aload_n 0, 1) := by decide +kernel
theorem dL_proved_28 : decode cL_proved 28 = .ok (.iload_n 1, 1) := by decide +kernel
theorem dL_proved_29 : decode cL_proved 29 = .ok (.iload_n 2, 1) := by decide +kernel
theorem dL_proved_30 : decode cL_proved 30 = .ok (.iload_n 3, 1) := by decide +kernel
theorem dL_proved_31 : decode cL_proved 31 = .ok (.iconst 1, 1) := by decide +kernel
theorem dL_proved_32 : decode cL_proved 32 = .ok (.invokevirtual 70, 3) := by decide +kernel
theorem dL_proved_35 : decode cL_proved 35 = .ok (.aload_n 0, 1) := by decide +kernel
theorem dL_proved_36 : decode cL_proved 36 = .ok (.iload_n 1, 1) := by decide +kernel
theorem dL_proved_37 : decode cL_proved 37 = .ok (.iload_n 2, 1) := by decide +kernel
theorem dL_proved_38 : decode cL_proved 38 = .ok (.iload_n 3, 1) := by decide +kernel
theorem dL_proved_39 : decode cL_proved 39 = .ok (.iconst 2, 1) := by decide +kernel
theorem dL_proved_40 : decode cL_proved 40 = .ok (.invokevirtual 70, 3) := by decide +kernel
theorem dL_proved_43 : decode cL_proved 43 = .ok (.aload_n 0, 1) := by decide +kernel
theorem dL_proved_44 : decode cL_proved 44 = .ok (.iload_n 1, 1) := by decide +kernel
theorem dL_proved_45 : decode cL_proved 45 = .ok (.iload_n 2, 1) := by decide +kernel
theorem dL_proved_46 : decode cL_proved 46 = .ok (.iload_n 3, 1) := by decide +kernel
theorem dL_proved_47 : decode cL_proved 47 = .ok (.iconst 3, 1) := by decide +kernel
theorem dL_proved_48 : decode cL_proved 48 = .ok (.invokevirtual 70, 3) := by decide +kernel
theorem dL_proved_51 : decode cL_proved 51 = .ok (.invokevirtual 73, 3) := by decide +kernel
theorem dL_proved_54 : decode cL_proved 54 = .ok (.ifCond .eq 50, 3) := by decide +kernel
theorem dL_proved_57 : decode cL_proved 57 = .ok (.aload_n 0, 1) := by decide +kernel
theorem dL_proved_58 : decode cL_proved 58 = .ok (.iload_n 1, 1) := by decide +kernel
theorem dL_proved_59 : decode cL_proved 59 = .ok (.iload_n 2, 1) := by decide +kernel
theorem dL_proved_60 : decode cL_proved 60 = .ok (.iload_n 3, 1) := by decide +kernel
theorem dL_proved_61 : decode cL_proved 61 = .ok (.iload 4, 2) := by decide +kernel
theorem dL_proved_63 : decode cL_proved 63 = .ok (.iconst 1, 1) := by decide +kernel
theorem dL_proved_64 : decode cL_proved 64 = .ok (.iadd, 1) := by decide +kernel
theorem dL_proved_65 : decode cL_proved 65 = .ok (.ldc 77, 2) := by decide +kernel
theorem dL_proved_67 : decode cL_proved 67 = .ok (.irem, 1) := by decide +kernel
theorem dL_proved_68 : decode cL_proved 68 = .ok (.iload 5, 2) := by decide +kernel
theorem dL_proved_70 : decode cL_proved 70 = .ok (.aload_n 0, 1) := by decide +kernel
theorem dL_proved_71 : decode cL_proved 71 = .ok (.iload_n 1, 1) := by decide +kernel
theorem dL_proved_72 : decode cL_proved 72 = .ok (.iload_n 2, 1) := by decide +kernel
theorem dL_proved_73 : decode cL_proved 73 = .ok (.iload_n 3, 1) := by decide +kernel
theorem dL_proved_74 : decode cL_proved 74 = .ok (.iconst 1, 1) := by decide +kernel
theorem dL_proved_75 : decode cL_proved 75 = .ok (.invokevirtual 70, 3) := by decide +kernel
theorem dL_proved_78 : decode cL_proved 78 = .ok (.aload_n 0, 1) := by decide +kernel
theorem dL_proved_79 : decode cL_proved 79 = .ok (.iload_n 1, 1) := by decide +kernel
theorem dL_proved_80 : decode cL_proved 80 = .ok (.iload_n 2, 1) := by decide +kernel
theorem dL_proved_81 : decode cL_proved 81 = .ok (.iload_n 3, 1) := by decide +kernel
theorem dL_proved_82 : decode cL_proved 82 = .ok (.iconst 2, 1) := by decide +kernel
theorem dL_proved_83 : decode cL_proved 83 = .ok (.invokevirtual 70, 3) := by decide +kernel
theorem dL_proved_86 : decode cL_proved 86 = .ok (.aload_n 0, 1) := by decide +kernel
theorem dL_proved_87 : decode cL_proved 87 = .ok (.iload_n 1, 1) := by decide +kernel
theorem dL_proved_88 : decode cL_proved 88 = .ok (.iload_n 2, 1) := by decide +kernel
theorem dL_proved_89 : decode cL_proved 89 = .ok (.iload_n 3, 1) := by decide +kernel
theorem dL_proved_90 : decode cL_proved 90 = .ok (.iconst 3, 1) := by decide +kernel
theorem dL_proved_91 : decode cL_proved 91 = .ok (.invokevirtual 70, 3) := by decide +kernel
theorem dL_proved_94 : decode cL_proved 94 = .ok (.invokevirtual 73, 3) := by decide +kernel
theorem dL_proved_97 : decode cL_proved 97 = .ok (.ifCond .ne 7, 3) := by decide +kernel
theorem dL_proved_100 : decode cL_proved 100 = .ok (.iconst 1, 1) := by decide +kernel
theorem dL_proved_101 : decode cL_proved 101 = .ok (.goto 4, 3) := by decide +kernel
theorem dL_proved_104 : decode cL_proved 104 = .ok (.iconst 0, 1) := by decide +kernel
theorem dL_proved_105 : decode cL_proved 105 = .ok (.ireturn, 1) := by decide +kernel
theorem dL_asks_0 : decode cL_asks 0 = .ok (.iconst 0, 1) := by decide +kernel
theorem dL_asks_1 : decode cL_asks 1 = .ok (.istore_n 3, 1) := by decide +kernel
theorem dL_asks_2 : decode cL_asks 2 = .ok (.iload_n 3, 1) := by decide +kernel
theorem dL_asks_3 : decode cL_asks 3 = .ok (.iconst 2, 1) := by decide +kernel
theorem dL_asks_4 : decode cL_asks 4 = .ok (.if_icmp .ge 266, 3) := by decide +kernel
theorem dL_asks_7 : decode cL_asks 7 = .ok (.iconst 0, 1) := by decide +kernel
theorem dL_asks_8 : decode cL_asks 8 = .ok (.istore 4, 2) := by decide +kernel
theorem dL_asks_10 : decode cL_asks 10 = .ok (.iload 4, 2) := by decide +kernel
theorem dL_asks_12 : decode cL_asks 12 = .ok (.aload_n 1, 1) := by decide +kernel
theorem dL_asks_13 : decode cL_asks 13 = .ok (.iload_n 3, 1) := by decide +kernel
theorem dL_asks_14 : decode cL_asks 14 = .ok (.iaload, 1) := by decide +kernel
theorem dL_asks_15 : decode cL_asks 15 = .ok (.if_icmp .ge 134, 3) := by decide +kernel
theorem dL_asks_18 : decode cL_asks 18 = .ok (.aload_n 0, 1) := by decide +kernel
theorem dL_asks_19 : decode cL_asks 19 = .ok (.iload_n 3, 1) := by decide +kernel
theorem dL_asks_20 : decode cL_asks 20 = .ok (.iload 4, 2) := by decide +kernel
theorem dL_asks_22 : decode cL_asks 22 = .ok (.iconst 0, 1) := by decide +kernel
theorem dL_asks_23 : decode cL_asks 23 = .ok (.invokestatic 78, 3) := by decide +kernel
theorem dL_asks_26 : decode cL_asks 26 = .ok (.ifCond .lt 81, 3) := by decide +kernel
theorem dL_asks_29 : decode cL_asks 29 = .ok (.aload_n 0, 1) := by decide +kernel
theorem dL_asks_30 : decode cL_asks 30 = .ok (.iload_n 3, 1) := by decide +kernel
theorem dL_asks_31 : decode cL_asks 31 = .ok (.iload 4, 2) := by decide +kernel
theorem dL_asks_33 : decode cL_asks 33 = .ok (.invokevirtual 81, 3) := by decide +kernel
theorem dL_asks_36 : decode cL_asks 36 = .ok (.istore 5, 2) := by decide +kernel
theorem dL_asks_38 : decode cL_asks 38 = .ok (.iconst 0, 1) := by decide +kernel
theorem dL_asks_39 : decode cL_asks 39 = .ok (.istore 6, 2) := by decide +kernel
theorem dL_asks_41 : decode cL_asks 41 = .ok (.iload 6, 2) := by decide +kernel
theorem dL_asks_43 : decode cL_asks 43 = .ok (.bipush 16, 2) := by decide +kernel
theorem dL_asks_45 : decode cL_asks 45 = .ok (.if_icmp .ge 34, 3) := by decide +kernel
theorem dL_asks_48 : decode cL_asks 48 = .ok (.aload_n 0, 1) := by decide +kernel
theorem dL_asks_49 : decode cL_asks 49 = .ok (.iload_n 3, 1) := by decide +kernel
theorem dL_asks_50 : decode cL_asks 50 = .ok (.iload 4, 2) := by decide +kernel
theorem dL_asks_52 : decode cL_asks 52 = .ok (.iload 6, 2) := by decide +kernel
theorem dL_asks_54 : decode cL_asks 54 = .ok (.invokevirtual 43, 3) := by decide +kernel
theorem dL_asks_57 : decode cL_asks 57 = .ok (.istore 7, 2) := by decide +kernel
theorem dL_asks_59 : decode cL_asks 59 = .ok (.iload 5, 2) := by decide +kernel
theorem dL_asks_61 : decode cL_asks 61 = .ok (.iload 7, 2) := by decide +kernel
theorem dL_asks_63 : decode cL_asks 63 = .ok (.iadd, 1) := by decide +kernel
theorem dL_asks_64 : decode cL_asks 64 = .ok (.istore 5, 2) := by decide +kernel
theorem dL_asks_66 : decode cL_asks 66 = .ok (.iload 7, 2) := by decide +kernel
theorem dL_asks_68 : decode cL_asks 68 = .ok (.ifCond .ge 5, 3) := by decide +kernel
theorem dL_asks_71 : decode cL_asks 71 = .ok (.iconst 0, 1) := by decide +kernel
theorem dL_asks_72 : decode cL_asks 72 = .ok (.ireturn, 1) := by decide +kernel
theorem dL_asks_73 : decode cL_asks 73 = .ok (.iinc 6 1, 3) := by decide +kernel
theorem dL_asks_76 : decode cL_asks 76 = .ok (.goto (-35), 3) := by decide +kernel
theorem dL_asks_79 : decode cL_asks 79 = .ok (.iload 5, 2) := by decide +kernel
theorem dL_asks_81 : decode cL_asks 81 = .ok (.ldc 84, 2) := by decide +kernel
theorem dL_asks_83 : decode cL_asks 83 = .ok (.if_icmp .ne 22, 3) := by decide +kernel
theorem dL_asks_86 : decode cL_asks 86 = .ok (.aload_n 0, 1) := by decide +kernel
theorem dL_asks_87 : decode cL_asks 87 = .ok (.iload_n 3, 1) := by decide +kernel
theorem dL_asks_88 : decode cL_asks 88 = .ok (.iload 4, 2) := by decide +kernel
theorem dL_asks_90 : decode cL_asks 90 = .ok (.iload_n 2, 1) := by decide +kernel
theorem dL_asks_91 : decode cL_asks 91 = .ok (.iload 4, 2) := by decide +kernel
theorem dL_asks_93 : decode cL_asks 93 = .ok (.ishr, 1) := by decide +kernel
theorem dL_asks_94 : decode cL_asks 94 = .ok (.bipush 16, 2) := by decide +kernel
theorem dL_asks_96 : decode cL_asks 96 = .ok (.invokestatic 21, 3) := by decide +kernel
theorem dL_asks_99 : decode cL_asks 99 = .ok (.invokestatic 85, 3) := by decide +kernel
theorem dL_asks_102 : decode cL_asks 102 = .ok (.ifCond .ne 5, 3) := by decide +kernel
theorem dL_asks_105 : decode cL_asks 105 = .ok (.iconst 0, 1) := by decide +kernel
theorem dL_asks_106 : decode cL_asks 106 = .ok (.ireturn, 1) := by decide +kernel
theorem dL_asks_107 : decode cL_asks 107 = .ok (.aload_n 0, 1) := by decide +kernel
theorem dL_asks_108 : decode cL_asks 108 = .ok (.iload_n 3, 1) := by decide +kernel
theorem dL_asks_109 : decode cL_asks 109 = .ok (.iload 4, 2) := by decide +kernel
theorem dL_asks_111 : decode cL_asks 111 = .ok (.invokevirtual 89, 3) := by decide +kernel
theorem dL_asks_114 : decode cL_asks 114 = .ok (.sipush 600, 3) := by decide +kernel
theorem dL_asks_117 : decode cL_asks 117 = .ok (.if_icmp .gt 24, 3) := by decide +kernel
theorem dL_asks_120 : decode cL_asks 120 = .ok (.aload_n 0, 1) := by decide +kernel
theorem dL_asks_121 : decode cL_asks 121 = .ok (.iload_n 3, 1) := by decide +kernel
theorem dL_asks_122 : decode cL_asks 122 = .ok (.iload 4, 2) := by decide +kernel
theorem dL_asks_124 : decode cL_asks 124 = .ok (.invokevirtual 89, 3) := by decide +kernel
theorem dL_asks_127 : decode cL_asks 127 = .ok (.ifCond .lt 14, 3) := by decide +kernel
theorem dL_asks_130 : decode cL_asks 130 = .ok (.aload_n 0, 1) := by decide +kernel
theorem dL_asks_131 : decode cL_asks 131 = .ok (.iload_n 3, 1) := by decide +kernel
theorem dL_asks_132 : decode cL_asks 132 = .ok (.iload 4, 2) := by decide +kernel
theorem dL_asks_134 : decode cL_asks 134 = .ok (.invokevirtual 92, 3) := by decide +kernel
theorem dL_asks_137 : decode cL_asks 137 = .ok (.iconst 1, 1) := by decide +kernel
theorem dL_asks_138 : decode cL_asks 138 = .ok (.if_icmp .ge 5, 3) := by decide +kernel
theorem dL_asks_141 : decode cL_asks 141 = .ok (.iconst 0, 1) := by decide +kernel
theorem dL_asks_142 : decode cL_asks 142 = .ok (.ireturn, 1) := by decide +kernel
theorem dL_asks_143 : decode cL_asks 143 = .ok (.iinc 4 1, 3) := by decide +kernel
theorem dL_asks_146 : decode cL_asks 146 = .ok (.goto (-136), 3) := by decide +kernel
theorem dL_asks_149 : decode cL_asks 149 = .ok (.iload_n 2, 1) := by decide +kernel
theorem dL_asks_150 : decode cL_asks 150 = .ok (.iconst 3, 1) := by decide +kernel
theorem dL_asks_151 : decode cL_asks 151 = .ok (.ishr, 1) := by decide +kernel
theorem dL_asks_152 : decode cL_asks 152 = .ok (.aload_n 1, 1) := by decide +kernel
theorem dL_asks_153 : decode cL_asks 153 = .ok (.iload_n 3, 1) := by decide +kernel
theorem dL_asks_154 : decode cL_asks 154 = .ok (.iaload, 1) := by decide +kernel
theorem dL_asks_155 : decode cL_asks 155 = .ok (.invokestatic 21, 3) := by decide +kernel
theorem dL_asks_158 : decode cL_asks 158 = .ok (.istore 4, 2) := by decide +kernel
theorem dL_asks_160 : decode cL_asks 160 = .ok (.aload_n 0, 1) := by decide +kernel
theorem dL_asks_161 : decode cL_asks 161 = .ok (.iload_n 3, 1) := by decide +kernel
theorem dL_asks_162 : decode cL_asks 162 = .ok (.iload 4, 2) := by decide +kernel
theorem dL_asks_164 : decode cL_asks 164 = .ok (.invokevirtual 95, 3) := by decide +kernel
theorem dL_asks_167 : decode cL_asks 167 = .ok (.aload_n 0, 1) := by decide +kernel
theorem dL_asks_168 : decode cL_asks 168 = .ok (.iload_n 3, 1) := by decide +kernel
theorem dL_asks_169 : decode cL_asks 169 = .ok (.iload 4, 2) := by decide +kernel
theorem dL_asks_171 : decode cL_asks 171 = .ok (.invokevirtual 46, 3) := by decide +kernel
theorem dL_asks_174 : decode cL_asks 174 = .ok (.if_icmp .ne 41, 3) := by decide +kernel
theorem dL_asks_177 : decode cL_asks 177 = .ok (.aload_n 0, 1) := by decide +kernel
theorem dL_asks_178 : decode cL_asks 178 = .ok (.iload_n 3, 1) := by decide +kernel
theorem dL_asks_179 : decode cL_asks 179 = .ok (.invokevirtual 54, 3) := by decide +kernel
theorem dL_asks_182 : decode cL_asks 182 = .ok (.aload_n 1, 1) := by decide +kernel
theorem dL_asks_183 : decode cL_asks 183 = .ok (.iconst 2, 1) := by decide +kernel
theorem dL_asks_184 : decode cL_asks 184 = .ok (.iload_n 3, 1) := by decide +kernel
theorem dL_asks_185 : decode cL_asks 185 = .ok (.iadd, 1) := by decide +kernel
theorem dL_asks_186 : decode cL_asks 186 = .ok (.iaload, 1) := by decide +kernel
theorem dL_asks_187 : decode cL_asks 187 = .ok (.if_icmp .gt 28, 3) := by decide +kernel
theorem dL_asks_190 : decode cL_asks 190 = .ok (.aload_n 0, 1) := by decide +kernel
theorem dL_asks_191 : decode cL_asks 191 = .ok (.iload_n 3, 1) := by decide +kernel
theorem dL_asks_192 : decode cL_asks 192 = .ok (.invokevirtual 58, 3) := by decide +kernel
theorem dL_asks_195 : decode cL_asks 195 = .ok (.aload_n 1, 1) := by decide +kernel
theorem dL_asks_196 : decode cL_asks 196 = .ok (.iload_n 3, 1) := by decide +kernel
theorem dL_asks_197 : decode cL_asks 197 = .ok (.iaload, 1) := by decide +kernel
theorem dL_asks_198 : decode cL_asks 198 = .ok (.if_icmp .ge 17, 3) := by decide +kernel
theorem dL_asks_201 : decode cL_asks 201 = .ok (.aload_n 0, 1) := by decide +kernel
theorem dL_asks_202 : decode cL_asks 202 = .ok (.iload_n 3, 1) := by decide +kernel
theorem dL_asks_203 : decode cL_asks 203 = .ok (.aload_n 0, 1) := by decide +kernel
theorem dL_asks_204 : decode cL_asks 204 = .ok (.iload_n 3, 1) := by decide +kernel
theorem dL_asks_205 : decode cL_asks 205 = .ok (.invokevirtual 61, 3) := by decide +kernel
theorem dL_asks_208 : decode cL_asks 208 = .ok (.iconst 3, 1) := by decide +kernel
theorem dL_asks_209 : decode cL_asks 209 = .ok (.invokestatic 78, 3) := by decide +kernel
theorem dL_asks_212 : decode cL_asks 212 = .ok (.ifCond .ge 5, 3) := by decide +kernel
theorem dL_asks_215 : decode cL_asks 215 = .ok (.iconst 0, 1) := by decide +kernel
theorem dL_asks_216 : decode cL_asks 216 = .ok (.ireturn, 1) := by decide +kernel
theorem dL_asks_217 : decode cL_asks 217 = .ok (.aload_n 0, 1) := by decide +kernel
theorem dL_asks_218 : decode cL_asks 218 = .ok (.iload_n 3, 1) := by decide +kernel
theorem dL_asks_219 : decode cL_asks 219 = .ok (.aload_n 0, 1) := by decide +kernel
theorem dL_asks_220 : decode cL_asks 220 = .ok (.iload_n 3, 1) := by decide +kernel
theorem dL_asks_221 : decode cL_asks 221 = .ok (.invokevirtual 61, 3) := by decide +kernel
theorem dL_asks_224 : decode cL_asks 224 = .ok (.invokevirtual 49, 3) := by decide +kernel
theorem dL_asks_227 : decode cL_asks 227 = .ok (.ifCond .eq 25, 3) := by decide +kernel
theorem dL_asks_230 : decode cL_asks 230 = .ok (.aload_n 0, 1) := by decide +kernel
theorem dL_asks_231 : decode cL_asks 231 = .ok (.iload_n 3, 1) := by decide +kernel
theorem dL_asks_232 : decode cL_asks 232 = .ok (.iconst 0, 1) := by decide +kernel
theorem dL_asks_233 : decode cL_asks 233 = .ok (.invokevirtual 49, 3) := by decide +kernel
theorem dL_asks_236 : decode cL_asks 236 = .ok (.ifCond .eq 16, 3) := by decide +kernel
theorem dL_asks_239 : decode cL_asks 239 = .ok (.aload_n 0, 1) := by decide +kernel
theorem dL_asks_240 : decode cL_asks 240 = .ok (.iload_n 3, 1) := by decide +kernel
theorem dL_asks_241 : decode cL_asks 241 = .ok (.invokevirtual 61, 3) := by decide +kernel
theorem dL_asks_244 : decode cL_asks 244 = .ok (.aload_n 1, 1) := by decide +kernel
theorem dL_asks_245 : decode cL_asks 245 = .ok (.iconst 4, 1) := by decide +kernel
theorem dL_asks_246 : decode cL_asks 246 = .ok (.iload_n 3, 1) := by decide +kernel
theorem dL_asks_247 : decode cL_asks 247 = .ok (.iadd, 1) := by decide +kernel
theorem dL_asks_248 : decode cL_asks 248 = .ok (.iaload, 1) := by decide +kernel
theorem dL_asks_249 : decode cL_asks 249 = .ok (.if_icmp .ge 5, 3) := by decide +kernel
theorem dL_asks_252 : decode cL_asks 252 = .ok (.iconst 0, 1) := by decide +kernel
theorem dL_asks_253 : decode cL_asks 253 = .ok (.ireturn, 1) := by decide +kernel
theorem dL_asks_254 : decode cL_asks 254 = .ok (.aload_n 1, 1) := by decide +kernel
theorem dL_asks_255 : decode cL_asks 255 = .ok (.iconst 4, 1) := by decide +kernel
theorem dL_asks_256 : decode cL_asks 256 = .ok (.iload_n 3, 1) := by decide +kernel
theorem dL_asks_257 : decode cL_asks 257 = .ok (.iadd, 1) := by decide +kernel
theorem dL_asks_258 : decode cL_asks 258 = .ok (.aload_n 0, 1) := by decide +kernel
theorem dL_asks_259 : decode cL_asks 259 = .ok (.iload_n 3, 1) := by decide +kernel
theorem dL_asks_260 : decode cL_asks 260 = .ok (.invokevirtual 61, 3) := by decide +kernel
theorem dL_asks_263 : decode cL_asks 263 = .ok (.iastore, 1) := by decide +kernel
theorem dL_asks_264 : decode cL_asks 264 = .ok (.iinc 3 1, 3) := by decide +kernel
theorem dL_asks_267 : decode cL_asks 267 = .ok (.goto (-265), 3) := by decide +kernel
theorem dL_asks_270 : decode cL_asks 270 = .ok (.iconst 1, 1) := by decide +kernel
theorem dL_asks_271 : decode cL_asks 271 = .ok (.ireturn, 1) := by decide +kernel
theorem dL_act_0 : decode cL_act 0 = .ok (.iload_n 2, 1) := by decide +kernel
theorem dL_act_1 : decode cL_act 1 = .ok (.iconst 2, 1) := by decide +kernel
theorem dL_act_2 : decode cL_act 2 = .ok (.invokestatic 21, 3) := by decide +kernel
theorem dL_act_5 : decode cL_act 5 = .ok (.istore 4, 2) := by decide +kernel
theorem dL_act_7 : decode cL_act 7 = .ok (.iload_n 2, 1) := by decide +kernel
theorem dL_act_8 : decode cL_act 8 = .ok (.iconst 2, 1) := by decide +kernel
theorem dL_act_9 : decode cL_act 9 = .ok (.ishr, 1) := by decide +kernel
theorem dL_act_10 : decode cL_act 10 = .ok (.iconst 4, 1) := by decide +kernel
theorem dL_act_11 : decode cL_act 11 = .ok (.invokestatic 21, 3) := by decide +kernel
theorem dL_act_14 : decode cL_act 14 = .ok (.ifCond .ne 18, 3) := by decide +kernel
theorem dL_act_17 : decode cL_act 17 = .ok (.iload_n 2, 1) := by decide +kernel
theorem dL_act_18 : decode cL_act 18 = .ok (.iconst 4, 1) := by decide +kernel
theorem dL_act_19 : decode cL_act 19 = .ok (.ishr, 1) := by decide +kernel
theorem dL_act_20 : decode cL_act 20 = .ok (.aload_n 1, 1) := by decide +kernel
theorem dL_act_21 : decode cL_act 21 = .ok (.iload 4, 2) := by decide +kernel
theorem dL_act_23 : decode cL_act 23 = .ok (.iaload, 1) := by decide +kernel
theorem dL_act_24 : decode cL_act 24 = .ok (.iconst 1, 1) := by decide +kernel
theorem dL_act_25 : decode cL_act 25 = .ok (.iadd, 1) := by decide +kernel
theorem dL_act_26 : decode cL_act 26 = .ok (.invokestatic 21, 3) := by decide +kernel
theorem dL_act_29 : decode cL_act 29 = .ok (.goto 9, 3) := by decide +kernel
theorem dL_act_32 : decode cL_act 32 = .ok (.aload_n 1, 1) := by decide +kernel
theorem dL_act_33 : decode cL_act 33 = .ok (.iload 4, 2) := by decide +kernel
theorem dL_act_35 : decode cL_act 35 = .ok (.iaload, 1) := by decide +kernel
theorem dL_act_36 : decode cL_act 36 = .ok (.iconst 1, 1) := by decide +kernel
theorem dL_act_37 : decode cL_act 37 = .ok (.isub, 1) := by decide +kernel
theorem dL_act_38 : decode cL_act 38 = .ok (.istore 5, 2) := by decide +kernel
theorem dL_act_40 : decode cL_act 40 = .ok (.iload_n 2, 1) := by decide +kernel
theorem dL_act_41 : decode cL_act 41 = .ok (.iconst 1, 1) := by decide +kernel
theorem dL_act_42 : decode cL_act 42 = .ok (.ishr, 1) := by decide +kernel
theorem dL_act_43 : decode cL_act 43 = .ok (.bipush 7, 2) := by decide +kernel
theorem dL_act_45 : decode cL_act 45 = .ok (.invokestatic 21, 3) := by decide +kernel
theorem dL_act_48 : decode cL_act 48 = .ok (.istore 6, 2) := by decide +kernel
theorem dL_act_50 : decode cL_act 50 = .ok (.iload_n 2, 1) := by decide +kernel
theorem dL_act_51 : decode cL_act 51 = .ok (.bipush 6, 2) := by decide +kernel
theorem dL_act_53 : decode cL_act 53 = .ok (.ishr, 1) := by decide +kernel
theorem dL_act_54 : decode cL_act 54 = .ok (.iconst 3, 1) := by decide +kernel
theorem dL_act_55 : decode cL_act 55 = .ok (.invokestatic 21, 3) := by decide +kernel
theorem dL_act_58 : decode cL_act 58 = .ok (.istore 7, 2) := by decide +kernel
theorem dL_act_60 : decode cL_act 60 = .ok (.iload_n 3, 1) := by decide +kernel
theorem dL_act_61 : decode cL_act 61 = .ok (.tableswitch 355 0 9 #[55, 55, 55, 55, 183, 183, 183, 245, 245, 292], 55) := by decide +kernel
theorem dL_act_116 : decode cL_act 116 = .ok (.aload_n 1, 1) := by decide +kernel
theorem dL_act_117 : decode cL_act 117 = .ok (.iconst 2, 1) := by decide +kernel
theorem dL_act_118 : decode cL_act 118 = .ok (.iload 4, 2) := by decide +kernel
theorem dL_act_120 : decode cL_act 120 = .ok (.iadd, 1) := by decide +kernel
theorem dL_act_121 : decode cL_act 121 = .ok (.iaload, 1) := by decide +kernel
theorem dL_act_122 : decode cL_act 122 = .ok (.bipush 30, 2) := by decide +kernel
theorem dL_act_124 : decode cL_act 124 = .ok (.if_icmp .le 6, 3) := by decide +kernel
theorem dL_act_127 : decode cL_act 127 = .ok (.bipush (-9), 2) := by decide +kernel
theorem dL_act_129 : decode cL_act 129 = .ok (.ireturn, 1) := by decide +kernel
theorem dL_act_130 : decode cL_act 130 = .ok (.iload_n 2, 1) := by decide +kernel
theorem dL_act_131 : decode cL_act 131 = .ok (.bipush 8, 2) := by decide +kernel
theorem dL_act_133 : decode cL_act 133 = .ok (.ishr, 1) := by decide +kernel
theorem dL_act_134 : decode cL_act 134 = .ok (.iconst 4, 1) := by decide +kernel
theorem dL_act_135 : decode cL_act 135 = .ok (.invokestatic 21, 3) := by decide +kernel
theorem dL_act_138 : decode cL_act 138 = .ok (.ifCond .ne 18, 3) := by decide +kernel
theorem dL_act_141 : decode cL_act 141 = .ok (.bipush 16, 2) := by decide +kernel
theorem dL_act_143 : decode cL_act 143 = .ok (.iload_n 2, 1) := by decide +kernel
theorem dL_act_144 : decode cL_act 144 = .ok (.bipush 10, 2) := by decide +kernel
theorem dL_act_146 : decode cL_act 146 = .ok (.ishr, 1) := by decide +kernel
theorem dL_act_147 : decode cL_act 147 = .ok (.bipush 8, 2) := by decide +kernel
theorem dL_act_149 : decode cL_act 149 = .ok (.invokestatic 21, 3) := by decide +kernel
theorem dL_act_152 : decode cL_act 152 = .ok (.iadd, 1) := by decide +kernel
theorem dL_act_153 : decode cL_act 153 = .ok (.goto 42, 3) := by decide +kernel
theorem dL_act_156 : decode cL_act 156 = .ok (.iload_n 2, 1) := by decide +kernel
theorem dL_act_157 : decode cL_act 157 = .ok (.bipush 8, 2) := by decide +kernel
theorem dL_act_159 : decode cL_act 159 = .ok (.ishr, 1) := by decide +kernel
theorem dL_act_160 : decode cL_act 160 = .ok (.iconst 4, 1) := by decide +kernel
theorem dL_act_161 : decode cL_act 161 = .ok (.invokestatic 21, 3) := by decide +kernel
theorem dL_act_164 : decode cL_act 164 = .ok (.iconst 1, 1) := by decide +kernel
theorem dL_act_165 : decode cL_act 165 = .ok (.if_icmp .ne 8, 3) := by decide +kernel
theorem dL_act_168 : decode cL_act 168 = .ok (.bipush 15, 2) := by decide +kernel
theorem dL_act_170 : decode cL_act 170 = .ok (.goto 25, 3) := by decide +kernel
theorem dL_act_173 : decode cL_act 173 = .ok (.iload_n 2, 1) := by decide +kernel
theorem dL_act_174 : decode cL_act 174 = .ok (.bipush 10, 2) := by decide +kernel
theorem dL_act_176 : decode cL_act 176 = .ok (.ishr, 1) := by decide +kernel
theorem dL_act_177 : decode cL_act 177 = .ok (.bipush 17, 2) := by decide +kernel
theorem dL_act_179 : decode cL_act 179 = .ok (.invokestatic 21, 3) := by decide +kernel
theorem dL_act_182 : decode cL_act 182 = .ok (.iload_n 2, 1) := by decide +kernel
theorem dL_act_183 : decode cL_act 183 = .ok (.bipush 12, 2) := by decide +kernel
theorem dL_act_185 : decode cL_act 185 = .ok (.ishr, 1) := by decide +kernel
theorem dL_act_186 : decode cL_act 186 = .ok (.bipush 17, 2) := by decide +kernel
theorem dL_act_188 : decode cL_act 188 = .ok (.invokestatic 21, 3) := by decide +kernel
theorem dL_act_191 : decode cL_act 191 = .ok (.bipush 16, 2) := by decide +kernel
theorem dL_act_193 : decode cL_act 193 = .ok (.idiv, 1) := by decide +kernel
theorem dL_act_194 : decode cL_act 194 = .ok (.isub, 1) := by decide +kernel
theorem dL_act_195 : decode cL_act 195 = .ok (.istore 8, 2) := by decide +kernel
theorem dL_act_197 : decode cL_act 197 = .ok (.aload_n 0, 1) := by decide +kernel
theorem dL_act_198 : decode cL_act 198 = .ok (.iload 4, 2) := by decide +kernel
theorem dL_act_200 : decode cL_act 200 = .ok (.iload 6, 2) := by decide +kernel
theorem dL_act_202 : decode cL_act 202 = .ok (.iload 7, 2) := by decide +kernel
theorem dL_act_204 : decode cL_act 204 = .ok (.iload 8, 2) := by decide +kernel
theorem dL_act_206 : decode cL_act 206 = .ok (.iload_n 2, 1) := by decide +kernel
theorem dL_act_207 : decode cL_act 207 = .ok (.bipush 11, 2) := by decide +kernel
theorem dL_act_209 : decode cL_act 209 = .ok (.ishr, 1) := by decide +kernel
theorem dL_act_210 : decode cL_act 210 = .ok (.sipush 900, 3) := by decide +kernel
theorem dL_act_213 : decode cL_act 213 = .ok (.invokestatic 21, 3) := by decide +kernel
theorem dL_act_216 : decode cL_act 216 = .ok (.iload_n 2, 1) := by decide +kernel
theorem dL_act_217 : decode cL_act 217 = .ok (.invokestatic 98, 3) := by decide +kernel
theorem dL_act_220 : decode cL_act 220 = .ok (.istore 9, 2) := by decide +kernel
theorem dL_act_222 : decode cL_act 222 = .ok (.aload_n 1, 1) := by decide +kernel
theorem dL_act_223 : decode cL_act 223 = .ok (.iconst 2, 1) := by decide +kernel
theorem dL_act_224 : decode cL_act 224 = .ok (.iload 4, 2) := by decide +kernel
theorem dL_act_226 : decode cL_act 226 = .ok (.iadd, 1) := by decide +kernel
theorem dL_act_227 : decode cL_act 227 = .ok (.dup2, 1) := by decide +kernel
theorem dL_act_228 : decode cL_act 228 = .ok (.iaload, 1) := by decide +kernel
theorem dL_act_229 : decode cL_act 229 = .ok (.iload 9, 2) := by decide +kernel
theorem dL_act_231 : decode cL_act 231 = .ok (.ifCond .lt 7, 3) := by decide +kernel
theorem dL_act_234 : decode cL_act 234 = .ok (.iconst 1, 1) := by decide +kernel
theorem dL_act_235 : decode cL_act 235 = .ok (.goto 4, 3) := by decide +kernel
theorem dL_act_238 : decode cL_act 238 = .ok (.iconst 0, 1) := by decide +kernel
theorem dL_act_239 : decode cL_act 239 = .ok (.iadd, 1) := by decide +kernel
theorem dL_act_240 : decode cL_act 240 = .ok (.iastore, 1) := by decide +kernel
theorem dL_act_241 : decode cL_act 241 = .ok (.iload 9, 2) := by decide +kernel
theorem dL_act_243 : decode cL_act 243 = .ok (.ireturn, 1) := by decide +kernel
theorem dL_act_244 : decode cL_act 244 = .ok (.aload_n 1, 1) := by decide +kernel
theorem dL_act_245 : decode cL_act 245 = .ok (.iload 4, 2) := by decide +kernel
theorem dL_act_247 : decode cL_act 247 = .ok (.iaload, 1) := by decide +kernel
theorem dL_act_248 : decode cL_act 248 = .ok (.bipush 20, 2) := by decide +kernel
theorem dL_act_250 : decode cL_act 250 = .ok (.if_icmp .le 6, 3) := by decide +kernel
theorem dL_act_253 : decode cL_act 253 = .ok (.bipush (-9), 2) := by decide +kernel
theorem dL_act_255 : decode cL_act 255 = .ok (.ireturn, 1) := by decide +kernel
theorem dL_act_256 : decode cL_act 256 = .ok (.aload_n 0, 1) := by decide +kernel
theorem dL_act_257 : decode cL_act 257 = .ok (.iload 4, 2) := by decide +kernel
theorem dL_act_259 : decode cL_act 259 = .ok (.iload 5, 2) := by decide +kernel
theorem dL_act_261 : decode cL_act 261 = .ok (.iload_n 2, 1) := by decide +kernel
theorem dL_act_262 : decode cL_act 262 = .ok (.bipush 7, 2) := by decide +kernel
theorem dL_act_264 : decode cL_act 264 = .ok (.ishr, 1) := by decide +kernel
theorem dL_act_265 : decode cL_act 265 = .ok (.bipush 7, 2) := by decide +kernel
theorem dL_act_267 : decode cL_act 267 = .ok (.invokestatic 21, 3) := by decide +kernel
theorem dL_act_270 : decode cL_act 270 = .ok (.iconst 1, 1) := by decide +kernel
theorem dL_act_271 : decode cL_act 271 = .ok (.iload_n 2, 1) := by decide +kernel
theorem dL_act_272 : decode cL_act 272 = .ok (.bipush 9, 2) := by decide +kernel
theorem dL_act_274 : decode cL_act 274 = .ok (.ishr, 1) := by decide +kernel
theorem dL_act_275 : decode cL_act 275 = .ok (.bipush 10, 2) := by decide +kernel
theorem dL_act_277 : decode cL_act 277 = .ok (.invokestatic 21, 3) := by decide +kernel
theorem dL_act_280 : decode cL_act 280 = .ok (.iadd, 1) := by decide +kernel
theorem dL_act_281 : decode cL_act 281 = .ok (.invokestatic 102, 3) := by decide +kernel
theorem dL_act_284 : decode cL_act 284 = .ok (.istore 8, 2) := by decide +kernel
theorem dL_act_286 : decode cL_act 286 = .ok (.aload_n 1, 1) := by decide +kernel
theorem dL_act_287 : decode cL_act 287 = .ok (.iload 4, 2) := by decide +kernel
theorem dL_act_289 : decode cL_act 289 = .ok (.dup2, 1) := by decide +kernel
theorem dL_act_290 : decode cL_act 290 = .ok (.iaload, 1) := by decide +kernel
theorem dL_act_291 : decode cL_act 291 = .ok (.iload 8, 2) := by decide +kernel
theorem dL_act_293 : decode cL_act 293 = .ok (.ifCond .lt 7, 3) := by decide +kernel
theorem dL_act_296 : decode cL_act 296 = .ok (.iconst 1, 1) := by decide +kernel
theorem dL_act_297 : decode cL_act 297 = .ok (.goto 4, 3) := by decide +kernel
theorem dL_act_300 : decode cL_act 300 = .ok (.iconst 0, 1) := by decide +kernel
theorem dL_act_301 : decode cL_act 301 = .ok (.iadd, 1) := by decide +kernel
theorem dL_act_302 : decode cL_act 302 = .ok (.iastore, 1) := by decide +kernel
theorem dL_act_303 : decode cL_act 303 = .ok (.iload 8, 2) := by decide +kernel
theorem dL_act_305 : decode cL_act 305 = .ok (.ireturn, 1) := by decide +kernel
theorem dL_act_306 : decode cL_act 306 = .ok (.aload_n 0, 1) := by decide +kernel
theorem dL_act_307 : decode cL_act 307 = .ok (.iload 4, 2) := by decide +kernel
theorem dL_act_309 : decode cL_act 309 = .ok (.iload_n 2, 1) := by decide +kernel
theorem dL_act_310 : decode cL_act 310 = .ok (.iconst 4, 1) := by decide +kernel
theorem dL_act_311 : decode cL_act 311 = .ok (.ishr, 1) := by decide +kernel
theorem dL_act_312 : decode cL_act 312 = .ok (.iconst 4, 1) := by decide +kernel
theorem dL_act_313 : decode cL_act 313 = .ok (.invokestatic 21, 3) := by decide +kernel
theorem dL_act_316 : decode cL_act 316 = .ok (.iload_n 2, 1) := by decide +kernel
theorem dL_act_317 : decode cL_act 317 = .ok (.bipush 6, 2) := by decide +kernel
theorem dL_act_319 : decode cL_act 319 = .ok (.ishr, 1) := by decide +kernel
theorem dL_act_320 : decode cL_act 320 = .ok (.iconst 2, 1) := by decide +kernel
theorem dL_act_321 : decode cL_act 321 = .ok (.invokestatic 21, 3) := by decide +kernel
theorem dL_act_324 : decode cL_act 324 = .ok (.ifCond .ne 12, 3) := by decide +kernel
theorem dL_act_327 : decode cL_act 327 = .ok (.aload_n 0, 1) := by decide +kernel
theorem dL_act_328 : decode cL_act 328 = .ok (.iload 4, 2) := by decide +kernel
theorem dL_act_330 : decode cL_act 330 = .ok (.invokevirtual 61, 3) := by decide +kernel
theorem dL_act_333 : decode cL_act 333 = .ok (.goto 14, 3) := by decide +kernel
theorem dL_act_336 : decode cL_act 336 = .ok (.iload_n 2, 1) := by decide +kernel
theorem dL_act_337 : decode cL_act 337 = .ok (.bipush 8, 2) := by decide +kernel
theorem dL_act_339 : decode cL_act 339 = .ok (.ishr, 1) := by decide +kernel
theorem dL_act_340 : decode cL_act 340 = .ok (.aload_n 1, 1) := by decide +kernel
theorem dL_act_341 : decode cL_act 341 = .ok (.iload 4, 2) := by decide +kernel
theorem dL_act_343 : decode cL_act 343 = .ok (.iaload, 1) := by decide +kernel
theorem dL_act_344 : decode cL_act 344 = .ok (.invokestatic 21, 3) := by decide +kernel
theorem dL_act_347 : decode cL_act 347 = .ok (.iload 5, 2) := by decide +kernel
theorem dL_act_349 : decode cL_act 349 = .ok (.invokestatic 106, 3) := by decide +kernel
theorem dL_act_352 : decode cL_act 352 = .ok (.ireturn, 1) := by decide +kernel
theorem dL_act_353 : decode cL_act 353 = .ok (.aload_n 1, 1) := by decide +kernel
theorem dL_act_354 : decode cL_act 354 = .ok (.iconst 2, 1) := by decide +kernel
theorem dL_act_355 : decode cL_act 355 = .ok (.iload 4, 2) := by decide +kernel
theorem dL_act_357 : decode cL_act 357 = .ok (.iadd, 1) := by decide +kernel
theorem dL_act_358 : decode cL_act 358 = .ok (.iaload, 1) := by decide +kernel
theorem dL_act_359 : decode cL_act 359 = .ok (.bipush 30, 2) := by decide +kernel
theorem dL_act_361 : decode cL_act 361 = .ok (.if_icmp .le 6, 3) := by decide +kernel
theorem dL_act_364 : decode cL_act 364 = .ok (.bipush (-9), 2) := by decide +kernel
theorem dL_act_366 : decode cL_act 366 = .ok (.ireturn, 1) := by decide +kernel
theorem dL_act_367 : decode cL_act 367 = .ok (.aload_n 0, 1) := by decide +kernel
theorem dL_act_368 : decode cL_act 368 = .ok (.iload 4, 2) := by decide +kernel
theorem dL_act_370 : decode cL_act 370 = .ok (.iload 6, 2) := by decide +kernel
theorem dL_act_372 : decode cL_act 372 = .ok (.iload 7, 2) := by decide +kernel
theorem dL_act_374 : decode cL_act 374 = .ok (.iload_n 2, 1) := by decide +kernel
theorem dL_act_375 : decode cL_act 375 = .ok (.iconst 4, 1) := by decide +kernel
theorem dL_act_376 : decode cL_act 376 = .ok (.ishr, 1) := by decide +kernel
theorem dL_act_377 : decode cL_act 377 = .ok (.aload_n 1, 1) := by decide +kernel
theorem dL_act_378 : decode cL_act 378 = .ok (.iconst 3, 1) := by decide +kernel
theorem dL_act_379 : decode cL_act 379 = .ok (.iload 4, 2) := by decide +kernel
theorem dL_act_381 : decode cL_act 381 = .ok (.isub, 1) := by decide +kernel
theorem dL_act_382 : decode cL_act 382 = .ok (.iaload, 1) := by decide +kernel
theorem dL_act_383 : decode cL_act 383 = .ok (.iconst 1, 1) := by decide +kernel
theorem dL_act_384 : decode cL_act 384 = .ok (.iadd, 1) := by decide +kernel
theorem dL_act_385 : decode cL_act 385 = .ok (.invokestatic 21, 3) := by decide +kernel
theorem dL_act_388 : decode cL_act 388 = .ok (.iload_n 2, 1) := by decide +kernel
theorem dL_act_389 : decode cL_act 389 = .ok (.invokestatic 109, 3) := by decide +kernel
theorem dL_act_392 : decode cL_act 392 = .ok (.istore 8, 2) := by decide +kernel
theorem dL_act_394 : decode cL_act 394 = .ok (.aload_n 1, 1) := by decide +kernel
theorem dL_act_395 : decode cL_act 395 = .ok (.iconst 2, 1) := by decide +kernel
theorem dL_act_396 : decode cL_act 396 = .ok (.iload 4, 2) := by decide +kernel
theorem dL_act_398 : decode cL_act 398 = .ok (.iadd, 1) := by decide +kernel
theorem dL_act_399 : decode cL_act 399 = .ok (.dup2, 1) := by decide +kernel
theorem dL_act_400 : decode cL_act 400 = .ok (.iaload, 1) := by decide +kernel
theorem dL_act_401 : decode cL_act 401 = .ok (.iload 8, 2) := by decide +kernel
theorem dL_act_403 : decode cL_act 403 = .ok (.ifCond .lt 7, 3) := by decide +kernel
theorem dL_act_406 : decode cL_act 406 = .ok (.iconst 1, 1) := by decide +kernel
theorem dL_act_407 : decode cL_act 407 = .ok (.goto 4, 3) := by decide +kernel
theorem dL_act_410 : decode cL_act 410 = .ok (.iconst 0, 1) := by decide +kernel
theorem dL_act_411 : decode cL_act 411 = .ok (.iadd, 1) := by decide +kernel
theorem dL_act_412 : decode cL_act 412 = .ok (.iastore, 1) := by decide +kernel
theorem dL_act_413 : decode cL_act 413 = .ok (.iload 8, 2) := by decide +kernel
theorem dL_act_415 : decode cL_act 415 = .ok (.ireturn, 1) := by decide +kernel
theorem dL_act_416 : decode cL_act 416 = .ok (.aload_n 0, 1) := by decide +kernel
theorem dL_act_417 : decode cL_act 417 = .ok (.iload 4, 2) := by decide +kernel
theorem dL_act_419 : decode cL_act 419 = .ok (.invokevirtual 113, 3) := by decide +kernel
theorem dL_act_422 : decode cL_act 422 = .ok (.pop, 1) := by decide +kernel
theorem dL_act_423 : decode cL_act 423 = .ok (.bipush (-9), 2) := by decide +kernel
theorem dL_act_425 : decode cL_act 425 = .ok (.ireturn, 1) := by decide +kernel
theorem dL_law_0 : decode cL_law 0 = .ok (.new 10, 3) := by decide +kernel
theorem dL_law_3 : decode cL_law 3 = .ok (.dup, 1) := by decide +kernel
theorem dL_law_4 : decode cL_law 4 = .ok (.invokespecial 116, 3) := by decide +kernel
theorem dL_law_7 : decode cL_law 7 = .ok (.astore_n 1, 1) := by decide +kernel
theorem dL_law_8 : decode cL_law 8 = .ok (.bipush 6, 2) := by decide +kernel
theorem dL_law_10 : decode cL_law 10 = .ok (.newarray .int, 2) := by decide +kernel
theorem dL_law_12 : decode cL_law 12 = .ok (.astore_n 2, 1) := by decide +kernel
theorem dL_law_13 : decode cL_law 13 = .ok (.aload_n 2, 1) := by decide +kernel
theorem dL_law_14 : decode cL_law 14 = .ok (.iconst 0, 1) := by decide +kernel
theorem dL_law_15 : decode cL_law 15 = .ok (.iconst 1, 1) := by decide +kernel
theorem dL_law_16 : decode cL_law 16 = .ok (.iastore, 1) := by decide +kernel
theorem dL_law_17 : decode cL_law 17 = .ok (.aload_n 2, 1) := by decide +kernel
theorem dL_law_18 : decode cL_law 18 = .ok (.iconst 1, 1) := by decide +kernel
theorem dL_law_19 : decode cL_law 19 = .ok (.iconst 1, 1) := by decide +kernel
theorem dL_law_20 : decode cL_law 20 = .ok (.iastore, 1) := by decide +kernel
theorem dL_law_21 : decode cL_law 21 = .ok (.iconst 0, 1) := by decide +kernel
theorem dL_law_22 : decode cL_law 22 = .ok (.istore_n 3, 1) := by decide +kernel
theorem dL_law_23 : decode cL_law 23 = .ok (.iload_n 3, 1) := by decide +kernel
theorem dL_law_24 : decode cL_law 24 = .ok (.bipush 40, 2) := by decide +kernel
theorem dL_law_26 : decode cL_law 26 = .ok (.if_icmp .ge 70, 3) := by decide +kernel
theorem dL_law_29 : decode cL_law 29 = .ok (.aload_n 0, 1) := by decide +kernel
theorem dL_law_30 : decode cL_law 30 = .ok (.iload_n 3, 1) := by decide +kernel
theorem dL_law_31 : decode cL_law 31 = .ok (.invokestatic 117, 3) := by decide +kernel
theorem dL_law_34 : decode cL_law 34 = .ok (.istore 4, 2) := by decide +kernel
theorem dL_law_36 : decode cL_law 36 = .ok (.aload_n 1, 1) := by decide +kernel
theorem dL_law_37 : decode cL_law 37 = .ok (.iload 4, 2) := by decide +kernel
theorem dL_law_39 : decode cL_law 39 = .ok (.iconst 4, 1) := by decide +kernel
theorem dL_law_40 : decode cL_law 40 = .ok (.invokestatic 21, 3) := by decide +kernel
theorem dL_law_43 : decode cL_law 43 = .ok (.iload 4, 2) := by decide +kernel
theorem dL_law_45 : decode cL_law 45 = .ok (.iconst 2, 1) := by decide +kernel
theorem dL_law_46 : decode cL_law 46 = .ok (.ishr, 1) := by decide +kernel
theorem dL_law_47 : decode cL_law 47 = .ok (.bipush 25, 2) := by decide +kernel
theorem dL_law_49 : decode cL_law 49 = .ok (.invokestatic 21, 3) := by decide +kernel
theorem dL_law_52 : decode cL_law 52 = .ok (.iload 4, 2) := by decide +kernel
theorem dL_law_54 : decode cL_law 54 = .ok (.bipush 7, 2) := by decide +kernel
theorem dL_law_56 : decode cL_law 56 = .ok (.ishr, 1) := by decide +kernel
theorem dL_law_57 : decode cL_law 57 = .ok (.iconst 5, 1) := by decide +kernel
theorem dL_law_58 : decode cL_law 58 = .ok (.invokestatic 21, 3) := by decide +kernel
theorem dL_law_61 : decode cL_law 61 = .ok (.ifCond .ne 16, 3) := by decide +kernel
theorem dL_law_64 : decode cL_law 64 = .ok (.iload 4, 2) := by decide +kernel
theorem dL_law_66 : decode cL_law 66 = .ok (.bipush 9, 2) := by decide +kernel
theorem dL_law_68 : decode cL_law 68 = .ok (.ishr, 1) := by decide +kernel
theorem dL_law_69 : decode cL_law 69 = .ok (.bipush 16, 2) := by decide +kernel
theorem dL_law_71 : decode cL_law 71 = .ok (.invokestatic 21, 3) := by decide +kernel
theorem dL_law_74 : decode cL_law 74 = .ok (.goto 12, 3) := by decide +kernel
theorem dL_law_77 : decode cL_law 77 = .ok (.iload 4, 2) := by decide +kernel
theorem dL_law_79 : decode cL_law 79 = .ok (.bipush 9, 2) := by decide +kernel
theorem dL_law_81 : decode cL_law 81 = .ok (.ishr, 1) := by decide +kernel
theorem dL_law_82 : decode cL_law 82 = .ok (.iconst 4, 1) := by decide +kernel
theorem dL_law_83 : decode cL_law 83 = .ok (.invokestatic 21, 3) := by decide +kernel
theorem dL_law_86 : decode cL_law 86 = .ok (.invokestatic 121, 3) := by decide +kernel
theorem dL_law_89 : decode cL_law 89 = .ok (.pop, 1) := by decide +kernel
theorem dL_law_90 : decode cL_law 90 = .ok (.iinc 3 1, 3) := by decide +kernel
theorem dL_law_93 : decode cL_law 93 = .ok (.goto (-70), 3) := by decide +kernel
theorem dL_law_96 : decode cL_law 96 = .ok (.iconst 0, 1) := by decide +kernel
theorem dL_law_97 : decode cL_law 97 = .ok (.istore_n 3, 1) := by decide +kernel
theorem dL_law_98 : decode cL_law 98 = .ok (.iload_n 3, 1) := by decide +kernel
theorem dL_law_99 : decode cL_law 99 = .ok (.bipush 40, 2) := by decide +kernel
theorem dL_law_101 : decode cL_law 101 = .ok (.if_icmp .ge 105, 3) := by decide +kernel
theorem dL_law_104 : decode cL_law 104 = .ok (.aload_n 0, 1) := by decide +kernel
theorem dL_law_105 : decode cL_law 105 = .ok (.bipush 40, 2) := by decide +kernel
theorem dL_law_107 : decode cL_law 107 = .ok (.iconst 2, 1) := by decide +kernel
theorem dL_law_108 : decode cL_law 108 = .ok (.iload_n 3, 1) := by decide +kernel
theorem dL_law_109 : decode cL_law 109 = .ok (.imul, 1) := by decide +kernel
theorem dL_law_110 : decode cL_law 110 = .ok (.iadd, 1) := by decide +kernel
theorem dL_law_111 : decode cL_law 111 = .ok (.invokestatic 117, 3) := by decide +kernel
theorem dL_law_114 : decode cL_law 114 = .ok (.istore 4, 2) := by decide +kernel
theorem dL_law_116 : decode cL_law 116 = .ok (.aload_n 0, 1) := by decide +kernel
theorem dL_law_117 : decode cL_law 117 = .ok (.bipush 41, 2) := by decide +kernel
theorem dL_law_119 : decode cL_law 119 = .ok (.iconst 2, 1) := by decide +kernel
theorem dL_law_120 : decode cL_law 120 = .ok (.iload_n 3, 1) := by decide +kernel
theorem dL_law_121 : decode cL_law 121 = .ok (.imul, 1) := by decide +kernel
theorem dL_law_122 : decode cL_law 122 = .ok (.iadd, 1) := by decide +kernel
theorem dL_law_123 : decode cL_law 123 = .ok (.invokestatic 117, 3) := by decide +kernel
theorem dL_law_126 : decode cL_law 126 = .ok (.istore 5, 2) := by decide +kernel
theorem dL_law_128 : decode cL_law 128 = .ok (.aload_n 1, 1) := by decide +kernel
theorem dL_law_129 : decode cL_law 129 = .ok (.aload_n 2, 1) := by decide +kernel
theorem dL_law_130 : decode cL_law 130 = .ok (.invokestatic 124, 3) := by decide +kernel
theorem dL_law_133 : decode cL_law 133 = .ok (.astore 6, 2) := by decide +kernel
theorem dL_law_135 : decode cL_law 135 = .ok (.aload_n 1, 1) := by decide +kernel
theorem dL_law_136 : decode cL_law 136 = .ok (.aload_n 2, 1) := by decide +kernel
theorem dL_law_137 : decode cL_law 137 = .ok (.iload 5, 2) := by decide +kernel
theorem dL_law_139 : decode cL_law 139 = .ok (.iload 4, 2) := by decide +kernel
theorem dL_law_141 : decode cL_law 141 = .ok (.iconst 3, 1) := by decide +kernel
theorem dL_law_142 : decode cL_law 142 = .ok (.ishr, 1) := by decide +kernel
theorem dL_law_143 : decode cL_law 143 = .ok (.bipush 11, 2) := by decide +kernel
theorem dL_law_145 : decode cL_law 145 = .ok (.invokestatic 21, 3) := by decide +kernel
theorem dL_law_148 : decode cL_law 148 = .ok (.invokestatic 128, 3) := by decide +kernel
theorem dL_law_151 : decode cL_law 151 = .ok (.istore 7, 2) := by decide +kernel
theorem dL_law_153 : decode cL_law 153 = .ok (.iload 7, 2) := by decide +kernel
theorem dL_law_155 : decode cL_law 155 = .ok (.ifCond .ge 23, 3) := by decide +kernel
theorem dL_law_158 : decode cL_law 158 = .ok (.iload 7, 2) := by decide +kernel
theorem dL_law_160 : decode cL_law 160 = .ok (.bipush (-9), 2) := by decide +kernel
theorem dL_law_162 : decode cL_law 162 = .ok (.if_icmp .le 16, 3) := by decide +kernel
theorem dL_law_165 : decode cL_law 165 = .ok (.aload 6, 2) := by decide +kernel
theorem dL_law_167 : decode cL_law 167 = .ok (.aload_n 1, 1) := by decide +kernel
theorem dL_law_168 : decode cL_law 168 = .ok (.aload_n 2, 1) := by decide +kernel
theorem dL_law_169 : decode cL_law 169 = .ok (.invokestatic 124, 3) := by decide +kernel
theorem dL_law_172 : decode cL_law 172 = .ok (.invokestatic 132, 3) := by decide +kernel
theorem dL_law_175 : decode cL_law 175 = .ok (.ifCond .eq 23, 3) := by decide +kernel
theorem dL_law_178 : decode cL_law 178 = .ok (.iload 4, 2) := by decide +kernel
theorem dL_law_180 : decode cL_law 180 = .ok (.bipush 6, 2) := by decide +kernel
theorem dL_law_182 : decode cL_law 182 = .ok (.invokestatic 21, 3) := by decide +kernel
theorem dL_law_185 : decode cL_law 185 = .ok (.ifCond .ne 15, 3) := by decide +kernel
theorem dL_law_188 : decode cL_law 188 = .ok (.aload_n 1, 1) := by decide +kernel
theorem dL_law_189 : decode cL_law 189 = .ok (.aload_n 2, 1) := by decide +kernel
theorem dL_law_190 : decode cL_law 190 = .ok (.iload 4, 2) := by decide +kernel
theorem dL_law_192 : decode cL_law 192 = .ok (.invokestatic 136, 3) := by decide +kernel
theorem dL_law_195 : decode cL_law 195 = .ok (.ifCond .ne 5, 3) := by decide +kernel
theorem dL_law_198 : decode cL_law 198 = .ok (.iconst 0, 1) := by decide +kernel
theorem dL_law_199 : decode cL_law 199 = .ok (.ireturn, 1) := by decide +kernel
theorem dL_law_200 : decode cL_law 200 = .ok (.iinc 3 1, 3) := by decide +kernel
theorem dL_law_203 : decode cL_law 203 = .ok (.goto (-105), 3) := by decide +kernel
theorem dL_law_206 : decode cL_law 206 = .ok (.aload_n 1, 1) := by decide +kernel
theorem dL_law_207 : decode cL_law 207 = .ok (.aload_n 2, 1) := by decide +kernel
theorem dL_law_208 : decode cL_law 208 = .ok (.aload_n 0, 1) := by decide +kernel
theorem dL_law_209 : decode cL_law 209 = .ok (.iconst 1, 1) := by decide +kernel
theorem dL_law_210 : decode cL_law 210 = .ok (.invokestatic 117, 3) := by decide +kernel
theorem dL_law_213 : decode cL_law 213 = .ok (.invokestatic 136, 3) := by decide +kernel
theorem dL_law_216 : decode cL_law 216 = .ok (.ifCond .eq 103, 3) := by decide +kernel
theorem dL_law_219 : decode cL_law 219 = .ok (.aload_n 1, 1) := by decide +kernel
theorem dL_law_220 : decode cL_law 220 = .ok (.bipush 8, 2) := by decide +kernel
theorem dL_law_222 : decode cL_law 222 = .ok (.iconst 0, 1) := by decide +kernel
theorem dL_law_223 : decode cL_law 223 = .ok (.iconst 0, 1) := by decide +kernel
theorem dL_law_224 : decode cL_law 224 = .ok (.invokestatic 121, 3) := by decide +kernel
theorem dL_law_227 : decode cL_law 227 = .ok (.bipush (-2), 2) := by decide +kernel
theorem dL_law_229 : decode cL_law 229 = .ok (.if_icmp .ne 90, 3) := by decide +kernel
theorem dL_law_232 : decode cL_law 232 = .ok (.aload_n 1, 1) := by decide +kernel
theorem dL_law_233 : decode cL_law 233 = .ok (.iconst 2, 1) := by decide +kernel
theorem dL_law_234 : decode cL_law 234 = .ok (.iconst 0, 1) := by decide +kernel
theorem dL_law_235 : decode cL_law 235 = .ok (.iconst 0, 1) := by decide +kernel
theorem dL_law_236 : decode cL_law 236 = .ok (.iconst 1, 1) := by decide +kernel
theorem dL_law_237 : decode cL_law 237 = .ok (.invokestatic 102, 3) := by decide +kernel
theorem dL_law_240 : decode cL_law 240 = .ok (.bipush (-2), 2) := by decide +kernel
theorem dL_law_242 : decode cL_law 242 = .ok (.if_icmp .ne 77, 3) := by decide +kernel
theorem dL_law_245 : decode cL_law 245 = .ok (.aload_n 1, 1) := by decide +kernel
theorem dL_law_246 : decode cL_law 246 = .ok (.iconst 0, 1) := by decide +kernel
theorem dL_law_247 : decode cL_law 247 = .ok (.iconst 4, 1) := by decide +kernel
theorem dL_law_248 : decode cL_law 248 = .ok (.iconst 0, 1) := by decide +kernel
theorem dL_law_249 : decode cL_law 249 = .ok (.iconst 0, 1) := by decide +kernel
theorem dL_law_250 : decode cL_law 250 = .ok (.invokestatic 106, 3) := by decide +kernel
theorem dL_law_253 : decode cL_law 253 = .ok (.bipush (-2), 2) := by decide +kernel
theorem dL_law_255 : decode cL_law 255 = .ok (.if_icmp .ne 64, 3) := by decide +kernel
theorem dL_law_258 : decode cL_law 258 = .ok (.aload_n 1, 1) := by decide +kernel
theorem dL_law_259 : decode cL_law 259 = .ok (.iconst 0, 1) := by decide +kernel
theorem dL_law_260 : decode cL_law 260 = .ok (.iconst 0, 1) := by decide +kernel
theorem dL_law_261 : decode cL_law 261 = .ok (.iconst 0, 1) := by decide +kernel
theorem dL_law_262 : decode cL_law 262 = .ok (.iconst 0, 1) := by decide +kernel
theorem dL_law_263 : decode cL_law 263 = .ok (.invokestatic 106, 3) := by decide +kernel
theorem dL_law_266 : decode cL_law 266 = .ok (.bipush (-3), 2) := by decide +kernel
theorem dL_law_268 : decode cL_law 268 = .ok (.if_icmp .ne 51, 3) := by decide +kernel
theorem dL_law_271 : decode cL_law 271 = .ok (.aload_n 1, 1) := by decide +kernel
theorem dL_law_272 : decode cL_law 272 = .ok (.iconst 0, 1) := by decide +kernel
theorem dL_law_273 : decode cL_law 273 = .ok (.iconst 0, 1) := by decide +kernel
theorem dL_law_274 : decode cL_law 274 = .ok (.iconst 0, 1) := by decide +kernel
theorem dL_law_275 : decode cL_law 275 = .ok (.bipush 24, 2) := by decide +kernel
theorem dL_law_277 : decode cL_law 277 = .ok (.iconst 0, 1) := by decide +kernel
theorem dL_law_278 : decode cL_law 278 = .ok (.iconst 1, 1) := by decide +kernel
theorem dL_law_279 : decode cL_law 279 = .ok (.invokestatic 98, 3) := by decide +kernel
theorem dL_law_282 : decode cL_law 282 = .ok (.bipush (-3), 2) := by decide +kernel
theorem dL_law_284 : decode cL_law 284 = .ok (.if_icmp .ne 35, 3) := by decide +kernel
theorem dL_law_287 : decode cL_law 287 = .ok (.aload_n 1, 1) := by decide +kernel
theorem dL_law_288 : decode cL_law 288 = .ok (.iconst 0, 1) := by decide +kernel
theorem dL_law_289 : decode cL_law 289 = .ok (.iconst 0, 1) := by decide +kernel
theorem dL_law_290 : decode cL_law 290 = .ok (.iconst 0, 1) := by decide +kernel
theorem dL_law_291 : decode cL_law 291 = .ok (.iconst (-1), 1) := by decide +kernel
theorem dL_law_292 : decode cL_law 292 = .ok (.iconst 1, 1) := by decide +kernel
theorem dL_law_293 : decode cL_law 293 = .ok (.invokestatic 109, 3) := by decide +kernel
theorem dL_law_296 : decode cL_law 296 = .ok (.bipush (-2), 2) := by decide +kernel
theorem dL_law_298 : decode cL_law 298 = .ok (.if_icmp .ne 21, 3) := by decide +kernel
theorem dL_law_301 : decode cL_law 301 = .ok (.aload_n 1, 1) := by decide +kernel
theorem dL_law_302 : decode cL_law 302 = .ok (.iconst 0, 1) := by decide +kernel
theorem dL_law_303 : decode cL_law 303 = .ok (.aload_n 2, 1) := by decide +kernel
theorem dL_law_304 : decode cL_law 304 = .ok (.iconst 0, 1) := by decide +kernel
theorem dL_law_305 : decode cL_law 305 = .ok (.iaload, 1) := by decide +kernel
theorem dL_law_306 : decode cL_law 306 = .ok (.iconst 0, 1) := by decide +kernel
theorem dL_law_307 : decode cL_law 307 = .ok (.invokestatic 78, 3) := by decide +kernel
theorem dL_law_310 : decode cL_law 310 = .ok (.bipush (-2), 2) := by decide +kernel
theorem dL_law_312 : decode cL_law 312 = .ok (.if_icmp .ne 7, 3) := by decide +kernel
theorem dL_law_315 : decode cL_law 315 = .ok (.iconst 1, 1) := by decide +kernel
theorem dL_law_316 : decode cL_law 316 = .ok (.goto 4, 3) := by decide +kernel
theorem dL_law_319 : decode cL_law 319 = .ok (.iconst 0, 1) := by decide +kernel
theorem dL_law_320 : decode cL_law 320 = .ok (.ireturn, 1) := by decide +kernel
