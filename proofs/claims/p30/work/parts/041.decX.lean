theorem dX0_init_0 : decode cX0_init 0 = .ok (.aload_n 0, 1) := by decide +kernel
theorem dX0_init_1 : decode cX0_init 1 = .ok (.invokespecial 3, 3) := by decide +kernel
theorem dX0_init_4 : decode cX0_init 4 = .ok (.aload_n 0, 1) := by decide +kernel
theorem dX0_init_5 : decode cX0_init 5 = .ok (.new 9, 3) := by decide +kernel
theorem dX0_init_8 : decode cX0_init 8 = .ok (.dup, 1) := by decide +kernel
theorem dX0_init_9 : decode cX0_init 9 = .ok (.invokespecial 11, 3) := by decide +kernel
theorem dX0_init_12 : decode cX0_init 12 = .ok (.putfield 12, 3) := by decide +kernel
theorem dX0_init_15 : decode cX0_init 15 = .ok (.aload_n 0, 1) := by decide +kernel
theorem dX0_init_16 : decode cX0_init 16 = .ok (.bipush 10, 2) := by decide +kernel
theorem dX0_init_18 : decode cX0_init 18 = .ok (.putfield 18, 3) := by decide +kernel
theorem dX0_init_21 : decode cX0_init 21 = .ok (.aload_n 0, 1) := by decide +kernel
theorem dX0_init_22 : decode cX0_init 22 = .ok (.bipush 40, 2) := by decide +kernel
theorem dX0_init_24 : decode cX0_init 24 = .ok (.newarray .int, 2) := by decide +kernel
theorem dX0_init_26 : decode cX0_init 26 = .ok (.putfield 22, 3) := by decide +kernel
theorem dX0_init_29 : decode cX0_init 29 = .ok (.aload_n 0, 1) := by decide +kernel
theorem dX0_init_30 : decode cX0_init 30 = .ok (.bipush 40, 2) := by decide +kernel
theorem dX0_init_32 : decode cX0_init 32 = .ok (.newarray .int, 2) := by decide +kernel
theorem dX0_init_34 : decode cX0_init 34 = .ok (.putfield 26, 3) := by decide +kernel
theorem dX0_init_37 : decode cX0_init 37 = .ok (.aload_n 0, 1) := by decide +kernel
theorem dX0_init_38 : decode cX0_init 38 = .ok (.iload_n 1, 1) := by decide +kernel
theorem dX0_init_39 : decode cX0_init 39 = .ok (.putfield 29, 3) := by decide +kernel
theorem dX0_init_42 : decode cX0_init 42 = .ok (.return_, 1) := by decide +kernel
theorem dX0_becomeFirst_0 : decode cX0_becomeFirst 0 = .ok (.aload_n 0, 1) := by decide +kernel
theorem dX0_becomeFirst_1 : decode cX0_becomeFirst 1 = .ok (.iconst 1, 1) := by decide +kernel
theorem dX0_becomeFirst_2 : decode cX0_becomeFirst 2 = .ok (.putfield 32, 3) := by decide +kernel
theorem dX0_becomeFirst_5 : decode cX0_becomeFirst 5 = .ok (.aload_n 0, 1) := by decide +kernel
theorem dX0_becomeFirst_6 : decode cX0_becomeFirst 6 = .ok (.iconst 1, 1) := by decide +kernel
theorem dX0_becomeFirst_7 : decode cX0_becomeFirst 7 = .ok (.putfield 35, 3) := by decide +kernel
theorem dX0_becomeFirst_10 : decode cX0_becomeFirst 10 = .ok (.aload_n 0, 1) := by decide +kernel
theorem dX0_becomeFirst_11 : decode cX0_becomeFirst 11 = .ok (.getfield 12, 3) := by decide +kernel
theorem dX0_becomeFirst_14 : decode cX0_becomeFirst 14 = .ok (.invokevirtual 39, 3) := by decide +kernel
theorem dX0_becomeFirst_17 : decode cX0_becomeFirst 17 = .ok (.aload_n 0, 1) := by decide +kernel
theorem dX0_becomeFirst_18 : decode cX0_becomeFirst 18 = .ok (.invokevirtual 42, 3) := by decide +kernel
theorem dX0_becomeFirst_21 : decode cX0_becomeFirst 21 = .ok (.return_, 1) := by decide +kernel
theorem dX0_follow_0 : decode cX0_follow 0 = .ok (.aload_n 0, 1) := by decide +kernel
theorem dX0_follow_1 : decode cX0_follow 1 = .ok (.aload_n 1, 1) := by decide +kernel
theorem dX0_follow_2 : decode cX0_follow 2 = .ok (.getfield 45, 3) := by decide +kernel
theorem dX0_follow_5 : decode cX0_follow 5 = .ok (.iconst 1, 1) := by decide +kernel
theorem dX0_follow_6 : decode cX0_follow 6 = .ok (.iadd, 1) := by decide +kernel
theorem dX0_follow_7 : decode cX0_follow 7 = .ok (.putfield 45, 3) := by decide +kernel
theorem dX0_follow_10 : decode cX0_follow 10 = .ok (.aload_n 0, 1) := by decide +kernel
theorem dX0_follow_11 : decode cX0_follow 11 = .ok (.iload_n 2, 1) := by decide +kernel
theorem dX0_follow_12 : decode cX0_follow 12 = .ok (.putfield 48, 3) := by decide +kernel
theorem dX0_follow_15 : decode cX0_follow 15 = .ok (.aload_n 0, 1) := by decide +kernel
theorem dX0_follow_16 : decode cX0_follow 16 = .ok (.aload_n 1, 1) := by decide +kernel
theorem dX0_follow_17 : decode cX0_follow 17 = .ok (.getfield 51, 3) := by decide +kernel
theorem dX0_follow_20 : decode cX0_follow 20 = .ok (.iload_n 3, 1) := by decide +kernel
theorem dX0_follow_21 : decode cX0_follow 21 = .ok (.iadd, 1) := by decide +kernel
theorem dX0_follow_22 : decode cX0_follow 22 = .ok (.putfield 51, 3) := by decide +kernel
theorem dX0_follow_25 : decode cX0_follow 25 = .ok (.aload_n 0, 1) := by decide +kernel
theorem dX0_follow_26 : decode cX0_follow 26 = .ok (.iconst 1, 1) := by decide +kernel
theorem dX0_follow_27 : decode cX0_follow 27 = .ok (.aload_n 1, 1) := by decide +kernel
theorem dX0_follow_28 : decode cX0_follow 28 = .ok (.getfield 18, 3) := by decide +kernel
theorem dX0_follow_31 : decode cX0_follow 31 = .ok (.aload_n 1, 1) := by decide +kernel
theorem dX0_follow_32 : decode cX0_follow 32 = .ok (.getfield 18, 3) := by decide +kernel
theorem dX0_follow_35 : decode cX0_follow 35 = .ok (.aload_n 1, 1) := by decide +kernel
theorem dX0_follow_36 : decode cX0_follow 36 = .ok (.getfield 54, 3) := by decide +kernel
theorem dX0_follow_39 : decode cX0_follow 39 = .ok (.sipush 300, 3) := by decide +kernel
theorem dX0_follow_42 : decode cX0_follow 42 = .ok (.isub, 1) := by decide +kernel
theorem dX0_follow_43 : decode cX0_follow 43 = .ok (.imul, 1) := by decide +kernel
theorem dX0_follow_44 : decode cX0_follow 44 = .ok (.sipush 2400, 3) := by decide +kernel
theorem dX0_follow_47 : decode cX0_follow 47 = .ok (.idiv, 1) := by decide +kernel
theorem dX0_follow_48 : decode cX0_follow 48 = .ok (.iadd, 1) := by decide +kernel
theorem dX0_follow_49 : decode cX0_follow 49 = .ok (.invokestatic 57, 3) := by decide +kernel
theorem dX0_follow_52 : decode cX0_follow 52 = .ok (.putfield 18, 3) := by decide +kernel
theorem dX0_follow_55 : decode cX0_follow 55 = .ok (.aload_n 0, 1) := by decide +kernel
theorem dX0_follow_56 : decode cX0_follow 56 = .ok (.aload_n 1, 1) := by decide +kernel
theorem dX0_follow_57 : decode cX0_follow 57 = .ok (.getfield 32, 3) := by decide +kernel
theorem dX0_follow_60 : decode cX0_follow 60 = .ok (.iconst 1, 1) := by decide +kernel
theorem dX0_follow_61 : decode cX0_follow 61 = .ok (.aload_n 0, 1) := by decide +kernel
theorem dX0_follow_62 : decode cX0_follow 62 = .ok (.getfield 29, 3) := by decide +kernel
theorem dX0_follow_65 : decode cX0_follow 65 = .ok (.ishl, 1) := by decide +kernel
theorem dX0_follow_66 : decode cX0_follow 66 = .ok (.ior, 1) := by decide +kernel
theorem dX0_follow_67 : decode cX0_follow 67 = .ok (.putfield 32, 3) := by decide +kernel
theorem dX0_follow_70 : decode cX0_follow 70 = .ok (.aload_n 0, 1) := by decide +kernel
theorem dX0_follow_71 : decode cX0_follow 71 = .ok (.aload_n 1, 1) := by decide +kernel
theorem dX0_follow_72 : decode cX0_follow 72 = .ok (.getfield 63, 3) := by decide +kernel
theorem dX0_follow_75 : decode cX0_follow 75 = .ok (.putfield 63, 3) := by decide +kernel
theorem dX0_follow_78 : decode cX0_follow 78 = .ok (.aload_n 0, 1) := by decide +kernel
theorem dX0_follow_79 : decode cX0_follow 79 = .ok (.getfield 12, 3) := by decide +kernel
theorem dX0_follow_82 : decode cX0_follow 82 = .ok (.aload_n 1, 1) := by decide +kernel
theorem dX0_follow_83 : decode cX0_follow 83 = .ok (.getfield 12, 3) := by decide +kernel
theorem dX0_follow_86 : decode cX0_follow 86 = .ok (.invokevirtual 67, 3) := by decide +kernel
theorem dX0_follow_89 : decode cX0_follow 89 = .ok (.return_, 1) := by decide +kernel
theorem dX0_imitate_0 : decode cX0_imitate 0 = .ok (.aload_n 0, 1) := by decide +kernel
theorem dX0_imitate_1 : decode cX0_imitate 1 = .ok (.aload_n 1, 1) := by decide +kernel
theorem dX0_imitate_2 : decode cX0_imitate 2 = .ok (.getfield 48, 3) := by decide +kernel
theorem dX0_imitate_5 : decode cX0_imitate 5 = .ok (.putfield 48, 3) := by decide +kernel
theorem dX0_imitate_8 : decode cX0_imitate 8 = .ok (.aload_n 0, 1) := by decide +kernel
theorem dX0_imitate_9 : decode cX0_imitate 9 = .ok (.aload_n 1, 1) := by decide +kernel
theorem dX0_imitate_10 : decode cX0_imitate 10 = .ok (.getfield 18, 3) := by decide +kernel
theorem dX0_imitate_13 : decode cX0_imitate 13 = .ok (.putfield 18, 3) := by decide +kernel
theorem dX0_imitate_16 : decode cX0_imitate 16 = .ok (.aload_n 0, 1) := by decide +kernel
theorem dX0_imitate_17 : decode cX0_imitate 17 = .ok (.iconst 0, 1) := by decide +kernel
theorem dX0_imitate_18 : decode cX0_imitate 18 = .ok (.putfield 71, 3) := by decide +kernel
theorem dX0_imitate_21 : decode cX0_imitate 21 = .ok (.return_, 1) := by decide +kernel
theorem dX0_enter_0 : decode cX0_enter 0 = .ok (.aload_n 0, 1) := by decide +kernel
theorem dX0_enter_1 : decode cX0_enter 1 = .ok (.getfield 22, 3) := by decide +kernel
theorem dX0_enter_4 : decode cX0_enter 4 = .ok (.aload_n 0, 1) := by decide +kernel
theorem dX0_enter_5 : decode cX0_enter 5 = .ok (.getfield 74, 3) := by decide +kernel
theorem dX0_enter_8 : decode cX0_enter 8 = .ok (.ldc 77, 2) := by decide +kernel
theorem dX0_enter_10 : decode cX0_enter 10 = .ok (.iload_n 2, 1) := by decide +kernel
theorem dX0_enter_11 : decode cX0_enter 11 = .ok (.imul, 1) := by decide +kernel
theorem dX0_enter_12 : decode cX0_enter 12 = .ok (.bipush 10, 2) := by decide +kernel
theorem dX0_enter_14 : decode cX0_enter 14 = .ok (.iload_n 1, 1) := by decide +kernel
theorem dX0_enter_15 : decode cX0_enter 15 = .ok (.imul, 1) := by decide +kernel
theorem dX0_enter_16 : decode cX0_enter 16 = .ok (.iadd, 1) := by decide +kernel
theorem dX0_enter_17 : decode cX0_enter 17 = .ok (.iload_n 3, 1) := by decide +kernel
theorem dX0_enter_18 : decode cX0_enter 18 = .ok (.ifCond .eq 7, 3) := by decide +kernel
theorem dX0_enter_21 : decode cX0_enter 21 = .ok (.iconst 1, 1) := by decide +kernel
theorem dX0_enter_22 : decode cX0_enter 22 = .ok (.goto 4, 3) := by decide +kernel
theorem dX0_enter_25 : decode cX0_enter 25 = .ok (.iconst 0, 1) := by decide +kernel
theorem dX0_enter_26 : decode cX0_enter 26 = .ok (.iadd, 1) := by decide +kernel
theorem dX0_enter_27 : decode cX0_enter 27 = .ok (.invokestatic 78, 3) := by decide +kernel
theorem dX0_enter_30 : decode cX0_enter 30 = .ok (.aload_n 0, 1) := by decide +kernel
theorem dX0_enter_31 : decode cX0_enter 31 = .ok (.dup, 1) := by decide +kernel
theorem dX0_enter_32 : decode cX0_enter 32 = .ok (.getfield 74, 3) := by decide +kernel
theorem dX0_enter_35 : decode cX0_enter 35 = .ok (.iconst 1, 1) := by decide +kernel
theorem dX0_enter_36 : decode cX0_enter 36 = .ok (.iadd, 1) := by decide +kernel
theorem dX0_enter_37 : decode cX0_enter 37 = .ok (.putfield 74, 3) := by decide +kernel
theorem dX0_enter_40 : decode cX0_enter 40 = .ok (.aload_n 0, 1) := by decide +kernel
theorem dX0_enter_41 : decode cX0_enter 41 = .ok (.dup, 1) := by decide +kernel
theorem dX0_enter_42 : decode cX0_enter 42 = .ok (.getfield 54, 3) := by decide +kernel
theorem dX0_enter_45 : decode cX0_enter 45 = .ok (.iload_n 2, 1) := by decide +kernel
theorem dX0_enter_46 : decode cX0_enter 46 = .ok (.iadd, 1) := by decide +kernel
theorem dX0_enter_47 : decode cX0_enter 47 = .ok (.putfield 54, 3) := by decide +kernel
theorem dX0_enter_50 : decode cX0_enter 50 = .ok (.aload_n 0, 1) := by decide +kernel
theorem dX0_enter_51 : decode cX0_enter 51 = .ok (.dup, 1) := by decide +kernel
theorem dX0_enter_52 : decode cX0_enter 52 = .ok (.getfield 63, 3) := by decide +kernel
theorem dX0_enter_55 : decode cX0_enter 55 = .ok (.lconst 1, 1) := by decide +kernel
theorem dX0_enter_56 : decode cX0_enter 56 = .ok (.iload_n 1, 1) := by decide +kernel
theorem dX0_enter_57 : decode cX0_enter 57 = .ok (.lshl, 1) := by decide +kernel
theorem dX0_enter_58 : decode cX0_enter 58 = .ok (.lor, 1) := by decide +kernel
theorem dX0_enter_59 : decode cX0_enter 59 = .ok (.putfield 63, 3) := by decide +kernel
theorem dX0_enter_62 : decode cX0_enter 62 = .ok (.return_, 1) := by decide +kernel
theorem dX0_transactionIn_0 : decode cX0_transactionIn 0 = .ok (.aload_n 0, 1) := by decide +kernel
theorem dX0_transactionIn_1 : decode cX0_transactionIn 1 = .ok (.getfield 22, 3) := by decide +kernel
theorem dX0_transactionIn_4 : decode cX0_transactionIn 4 = .ok (.iload_n 1, 1) := by decide +kernel
theorem dX0_transactionIn_5 : decode cX0_transactionIn 5 = .ok (.invokestatic 82, 3) := by decide +kernel
theorem dX0_transactionIn_8 : decode cX0_transactionIn 8 = .ok (.ldc 77, 2) := by decide +kernel
theorem dX0_transactionIn_10 : decode cX0_transactionIn 10 = .ok (.irem, 1) := by decide +kernel
theorem dX0_transactionIn_11 : decode cX0_transactionIn 11 = .ok (.bipush 10, 2) := by decide +kernel
theorem dX0_transactionIn_13 : decode cX0_transactionIn 13 = .ok (.idiv, 1) := by decide +kernel
theorem dX0_transactionIn_14 : decode cX0_transactionIn 14 = .ok (.ireturn, 1) := by decide +kernel
theorem dX0_addEvent_0 : decode cX0_addEvent 0 = .ok (.aload_n 0, 1) := by decide +kernel
theorem dX0_addEvent_1 : decode cX0_addEvent 1 = .ok (.getfield 71, 3) := by decide +kernel
theorem dX0_addEvent_4 : decode cX0_addEvent 4 = .ok (.ifCond .lt 40, 3) := by decide +kernel
theorem dX0_addEvent_7 : decode cX0_addEvent 7 = .ok (.aload_n 0, 1) := by decide +kernel
theorem dX0_addEvent_8 : decode cX0_addEvent 8 = .ok (.getfield 71, 3) := by decide +kernel
theorem dX0_addEvent_11 : decode cX0_addEvent 11 = .ok (.aload_n 0, 1) := by decide +kernel
theorem dX0_addEvent_12 : decode cX0_addEvent 12 = .ok (.getfield 26, 3) := by decide +kernel
theorem dX0_addEvent_15 : decode cX0_addEvent 15 = .ok (.arraylength, 1) := by decide +kernel
theorem dX0_addEvent_16 : decode cX0_addEvent 16 = .ok (.if_icmp .ge 28, 3) := by decide +kernel
theorem dX0_addEvent_19 : decode cX0_addEvent 19 = .ok (.aload_n 0, 1) := by decide +kernel
theorem dX0_addEvent_20 : decode cX0_addEvent 20 = .ok (.getfield 26, 3) := by decide +kernel
theorem dX0_addEvent_23 : decode cX0_addEvent 23 = .ok (.aload_n 0, 1) := by decide +kernel
theorem dX0_addEvent_24 : decode cX0_addEvent 24 = .ok (.getfield 71, 3) := by decide +kernel
theorem dX0_addEvent_27 : decode cX0_addEvent 27 = .ok (.bipush 100, 2) := by decide +kernel
theorem dX0_addEvent_29 : decode cX0_addEvent 29 = .ok (.iload_n 1, 1) := by decide +kernel
theorem dX0_addEvent_30 : decode cX0_addEvent 30 = .ok (.imul, 1) := by decide +kernel
theorem dX0_addEvent_31 : decode cX0_addEvent 31 = .ok (.iload_n 2, 1) := by decide +kernel
theorem dX0_addEvent_32 : decode cX0_addEvent 32 = .ok (.iadd, 1) := by decide +kernel
theorem dX0_addEvent_33 : decode cX0_addEvent 33 = .ok (.iastore, 1) := by decide +kernel
theorem dX0_addEvent_34 : decode cX0_addEvent 34 = .ok (.aload_n 0, 1) := by decide +kernel
theorem dX0_addEvent_35 : decode cX0_addEvent 35 = .ok (.dup, 1) := by decide +kernel
theorem dX0_addEvent_36 : decode cX0_addEvent 36 = .ok (.getfield 71, 3) := by decide +kernel
theorem dX0_addEvent_39 : decode cX0_addEvent 39 = .ok (.iconst 1, 1) := by decide +kernel
theorem dX0_addEvent_40 : decode cX0_addEvent 40 = .ok (.iadd, 1) := by decide +kernel
theorem dX0_addEvent_41 : decode cX0_addEvent 41 = .ok (.putfield 71, 3) := by decide +kernel
theorem dX0_addEvent_44 : decode cX0_addEvent 44 = .ok (.return_, 1) := by decide +kernel
theorem dX0_seal_0 : decode cX0_seal 0 = .ok (.iconst 0, 1) := by decide +kernel
theorem dX0_seal_1 : decode cX0_seal 1 = .ok (.istore_n 1, 1) := by decide +kernel
theorem dX0_seal_2 : decode cX0_seal 2 = .ok (.iload_n 1, 1) := by decide +kernel
theorem dX0_seal_3 : decode cX0_seal 3 = .ok (.aload_n 0, 1) := by decide +kernel
theorem dX0_seal_4 : decode cX0_seal 4 = .ok (.getfield 71, 3) := by decide +kernel
theorem dX0_seal_7 : decode cX0_seal 7 = .ok (.if_icmp .ge 26, 3) := by decide +kernel
theorem dX0_seal_10 : decode cX0_seal 10 = .ok (.aload_n 0, 1) := by decide +kernel
theorem dX0_seal_11 : decode cX0_seal 11 = .ok (.dup, 1) := by decide +kernel
theorem dX0_seal_12 : decode cX0_seal 12 = .ok (.getfield 86, 3) := by decide +kernel
theorem dX0_seal_15 : decode cX0_seal 15 = .ok (.aload_n 0, 1) := by decide +kernel
theorem dX0_seal_16 : decode cX0_seal 16 = .ok (.iload_n 1, 1) := by decide +kernel
theorem dX0_seal_17 : decode cX0_seal 17 = .ok (.invokevirtual 89, 3) := by decide +kernel
theorem dX0_seal_20 : decode cX0_seal 20 = .ok (.invokestatic 93, 3) := by decide +kernel
theorem dX0_seal_23 : decode cX0_seal 23 = .ok (.ior, 1) := by decide +kernel
theorem dX0_seal_24 : decode cX0_seal 24 = .ok (.putfield 86, 3) := by decide +kernel
theorem dX0_seal_27 : decode cX0_seal 27 = .ok (.iinc 1 1, 3) := by decide +kernel
theorem dX0_seal_30 : decode cX0_seal 30 = .ok (.goto (-28), 3) := by decide +kernel
theorem dX0_seal_33 : decode cX0_seal 33 = .ok (.aload_n 0, 1) := by decide +kernel
theorem dX0_seal_34 : decode cX0_seal 34 = .ok (.aload_n 0, 1) := by decide +kernel
theorem dX0_seal_35 : decode cX0_seal 35 = .ok (.getfield 12, 3) := by decide +kernel
theorem dX0_seal_38 : decode cX0_seal 38 = .ok (.iconst 4, 1) := by decide +kernel
theorem dX0_seal_39 : decode cX0_seal 39 = .ok (.iconst 0, 1) := by decide +kernel
theorem dX0_seal_40 : decode cX0_seal 40 = .ok (.invokestatic 96, 3) := by decide +kernel
theorem dX0_seal_43 : decode cX0_seal 43 = .ok (.putfield 100, 3) := by decide +kernel
theorem dX0_seal_46 : decode cX0_seal 46 = .ok (.return_, 1) := by decide +kernel
theorem dX0_topicIn_0 : decode cX0_topicIn 0 = .ok (.aload_n 0, 1) := by decide +kernel
theorem dX0_topicIn_1 : decode cX0_topicIn 1 = .ok (.getfield 26, 3) := by decide +kernel
theorem dX0_topicIn_4 : decode cX0_topicIn 4 = .ok (.iload_n 1, 1) := by decide +kernel
theorem dX0_topicIn_5 : decode cX0_topicIn 5 = .ok (.invokestatic 82, 3) := by decide +kernel
theorem dX0_topicIn_8 : decode cX0_topicIn 8 = .ok (.bipush 100, 2) := by decide +kernel
theorem dX0_topicIn_10 : decode cX0_topicIn 10 = .ok (.idiv, 1) := by decide +kernel
theorem dX0_topicIn_11 : decode cX0_topicIn 11 = .ok (.ireturn, 1) := by decide +kernel
theorem dX0_comesFrom_0 : decode cX0_comesFrom 0 = .ok (.aload_n 0, 1) := by decide +kernel
theorem dX0_comesFrom_1 : decode cX0_comesFrom 1 = .ok (.getfield 32, 3) := by decide +kernel
theorem dX0_comesFrom_4 : decode cX0_comesFrom 4 = .ok (.aload_n 1, 1) := by decide +kernel
theorem dX0_comesFrom_5 : decode cX0_comesFrom 5 = .ok (.getfield 29, 3) := by decide +kernel
theorem dX0_comesFrom_8 : decode cX0_comesFrom 8 = .ok (.ishr, 1) := by decide +kernel
theorem dX0_comesFrom_9 : decode cX0_comesFrom 9 = .ok (.iconst 1, 1) := by decide +kernel
theorem dX0_comesFrom_10 : decode cX0_comesFrom 10 = .ok (.iand, 1) := by decide +kernel
theorem dX0_comesFrom_11 : decode cX0_comesFrom 11 = .ok (.iconst 1, 1) := by decide +kernel
theorem dX0_comesFrom_12 : decode cX0_comesFrom 12 = .ok (.if_icmp .ne 7, 3) := by decide +kernel
theorem dX0_comesFrom_15 : decode cX0_comesFrom 15 = .ok (.iconst 1, 1) := by decide +kernel
theorem dX0_comesFrom_16 : decode cX0_comesFrom 16 = .ok (.goto 4, 3) := by decide +kernel
theorem dX0_comesFrom_19 : decode cX0_comesFrom 19 = .ok (.iconst 0, 1) := by decide +kernel
theorem dX0_comesFrom_20 : decode cX0_comesFrom 20 = .ok (.ireturn, 1) := by decide +kernel
theorem dX0_holds_0 : decode cX0_holds 0 = .ok (.aload_n 0, 1) := by decide +kernel
theorem dX0_holds_1 : decode cX0_holds 1 = .ok (.getfield 63, 3) := by decide +kernel
theorem dX0_holds_4 : decode cX0_holds 4 = .ok (.iload_n 1, 1) := by decide +kernel
theorem dX0_holds_5 : decode cX0_holds 5 = .ok (.lshr, 1) := by decide +kernel
theorem dX0_holds_6 : decode cX0_holds 6 = .ok (.lconst 1, 1) := by decide +kernel
theorem dX0_holds_7 : decode cX0_holds 7 = .ok (.land, 1) := by decide +kernel
theorem dX0_holds_8 : decode cX0_holds 8 = .ok (.lconst 1, 1) := by decide +kernel
theorem dX0_holds_9 : decode cX0_holds 9 = .ok (.lcmp, 1) := by decide +kernel
theorem dX0_holds_10 : decode cX0_holds 10 = .ok (.ifCond .ne 7, 3) := by decide +kernel
theorem dX0_holds_13 : decode cX0_holds 13 = .ok (.iconst 1, 1) := by decide +kernel
theorem dX0_holds_14 : decode cX0_holds 14 = .ok (.goto 4, 3) := by decide +kernel
theorem dX0_holds_17 : decode cX0_holds 17 = .ok (.iconst 0, 1) := by decide +kernel
theorem dX0_holds_18 : decode cX0_holds 18 = .ok (.ireturn, 1) := by decide +kernel
theorem dX0_bloomOf_0 : decode cX0_bloomOf 0 = .ok (.iconst 1, 1) := by decide +kernel
theorem dX0_bloomOf_1 : decode cX0_bloomOf 1 = .ok (.iload_n 0, 1) := by decide +kernel
theorem dX0_bloomOf_2 : decode cX0_bloomOf 2 = .ok (.bipush 8, 2) := by decide +kernel
theorem dX0_bloomOf_4 : decode cX0_bloomOf 4 = .ok (.irem, 1) := by decide +kernel
theorem dX0_bloomOf_5 : decode cX0_bloomOf 5 = .ok (.ishl, 1) := by decide +kernel
theorem dX0_bloomOf_6 : decode cX0_bloomOf 6 = .ok (.iconst 1, 1) := by decide +kernel
theorem dX0_bloomOf_7 : decode cX0_bloomOf 7 = .ok (.bipush 8, 2) := by decide +kernel
theorem dX0_bloomOf_9 : decode cX0_bloomOf 9 = .ok (.iconst 5, 1) := by decide +kernel
theorem dX0_bloomOf_10 : decode cX0_bloomOf 10 = .ok (.iload_n 0, 1) := by decide +kernel
theorem dX0_bloomOf_11 : decode cX0_bloomOf 11 = .ok (.imul, 1) := by decide +kernel
theorem dX0_bloomOf_12 : decode cX0_bloomOf 12 = .ok (.iconst 3, 1) := by decide +kernel
theorem dX0_bloomOf_13 : decode cX0_bloomOf 13 = .ok (.iadd, 1) := by decide +kernel
theorem dX0_bloomOf_14 : decode cX0_bloomOf 14 = .ok (.bipush 8, 2) := by decide +kernel
theorem dX0_bloomOf_16 : decode cX0_bloomOf 16 = .ok (.irem, 1) := by decide +kernel
theorem dX0_bloomOf_17 : decode cX0_bloomOf 17 = .ok (.iadd, 1) := by decide +kernel
theorem dX0_bloomOf_18 : decode cX0_bloomOf 18 = .ok (.ishl, 1) := by decide +kernel
theorem dX0_bloomOf_19 : decode cX0_bloomOf 19 = .ok (.ior, 1) := by decide +kernel
theorem dX0_bloomOf_20 : decode cX0_bloomOf 20 = .ok (.ireturn, 1) := by decide +kernel
theorem dX1_init_0 : decode cX1_init 0 = .ok (.aload_n 0, 1) := by decide +kernel
theorem dX1_init_1 : decode cX1_init 1 = .ok (.invokespecial 3, 3) := by decide +kernel
theorem dX1_init_4 : decode cX1_init 4 = .ok (.aload_n 0, 1) := by decide +kernel
theorem dX1_init_5 : decode cX1_init 5 = .ok (.bipush 24, 2) := by decide +kernel
theorem dX1_init_7 : decode cX1_init 7 = .ok (.anewarray 9, 3) := by decide +kernel
theorem dX1_init_10 : decode cX1_init 10 = .ok (.putfield 11, 3) := by decide +kernel
theorem dX1_init_13 : decode cX1_init 13 = .ok (.aload_n 0, 1) := by decide +kernel
theorem dX1_init_14 : decode cX1_init 14 = .ok (.iconst 1, 1) := by decide +kernel
theorem dX1_init_15 : decode cX1_init 15 = .ok (.putfield 17, 3) := by decide +kernel
theorem dX1_init_18 : decode cX1_init 18 = .ok (.aload_n 0, 1) := by decide +kernel
theorem dX1_init_19 : decode cX1_init 19 = .ok (.bipush 40, 2) := by decide +kernel
theorem dX1_init_21 : decode cX1_init 21 = .ok (.anewarray 21, 3) := by decide +kernel
theorem dX1_init_24 : decode cX1_init 24 = .ok (.putfield 23, 3) := by decide +kernel
theorem dX1_init_27 : decode cX1_init 27 = .ok (.aload_n 0, 1) := by decide +kernel
theorem dX1_init_28 : decode cX1_init 28 = .ok (.sipush 1000, 3) := by decide +kernel
theorem dX1_init_31 : decode cX1_init 31 = .ok (.putfield 27, 3) := by decide +kernel
theorem dX1_init_34 : decode cX1_init 34 = .ok (.aload_n 0, 1) := by decide +kernel
theorem dX1_init_35 : decode cX1_init 35 = .ok (.new 30, 3) := by decide +kernel
theorem dX1_init_38 : decode cX1_init 38 = .ok (.dup, 1) := by decide +kernel
theorem dX1_init_39 : decode cX1_init 39 = .ok (.invokespecial 32, 3) := by decide +kernel
theorem dX1_init_42 : decode cX1_init 42 = .ok (.putfield 33, 3) := by decide +kernel
theorem dX1_init_45 : decode cX1_init 45 = .ok (.iconst 0, 1) := by decide +kernel
theorem dX1_init_46 : decode cX1_init 46 = .ok (.istore_n 1, 1) := by decide +kernel
theorem dX1_init_47 : decode cX1_init 47 = .ok (.iload_n 1, 1) := by decide +kernel
theorem dX1_init_48 : decode cX1_init 48 = .ok (.bipush 24, 2) := by decide +kernel
theorem dX1_init_50 : decode cX1_init 50 = .ok (.if_icmp .ge 23, 3) := by decide +kernel
theorem dX1_init_53 : decode cX1_init 53 = .ok (.aload_n 0, 1) := by decide +kernel
theorem dX1_init_54 : decode cX1_init 54 = .ok (.getfield 11, 3) := by decide +kernel
theorem dX1_init_57 : decode cX1_init 57 = .ok (.iload_n 1, 1) := by decide +kernel
theorem dX1_init_58 : decode cX1_init 58 = .ok (.new 9, 3) := by decide +kernel
theorem dX1_init_61 : decode cX1_init 61 = .ok (.dup, 1) := by decide +kernel
theorem dX1_init_62 : decode cX1_init 62 = .ok (.iload_n 1, 1) := by decide +kernel
theorem dX1_init_63 : decode cX1_init 63 = .ok (.invokespecial 37, 3) := by decide +kernel
theorem dX1_init_66 : decode cX1_init 66 = .ok (.aastore, 1) := by decide +kernel
theorem dX1_init_67 : decode cX1_init 67 = .ok (.iinc 1 1, 3) := by decide +kernel
theorem dX1_init_70 : decode cX1_init 70 = .ok (.goto (-23), 3) := by decide +kernel
theorem dX1_init_73 : decode cX1_init 73 = .ok (.iconst 0, 1) := by decide +kernel
theorem dX1_init_74 : decode cX1_init 74 = .ok (.istore_n 1, 1) := by decide +kernel
theorem dX1_init_75 : decode cX1_init 75 = .ok (.iload_n 1, 1) := by decide +kernel
theorem dX1_init_76 : decode cX1_init 76 = .ok (.bipush 40, 2) := by decide +kernel
theorem dX1_init_78 : decode cX1_init 78 = .ok (.if_icmp .ge 23, 3) := by decide +kernel
theorem dX1_init_81 : decode cX1_init 81 = .ok (.aload_n 0, 1) := by decide +kernel
theorem dX1_init_82 : decode cX1_init 82 = .ok (.getfield 23, 3) := by decide +kernel
theorem dX1_init_85 : decode cX1_init 85 = .ok (.iload_n 1, 1) := by decide +kernel
theorem dX1_init_86 : decode cX1_init 86 = .ok (.new 21, 3) := by decide +kernel
theorem dX1_init_89 : decode cX1_init 89 = .ok (.dup, 1) := by decide +kernel
theorem dX1_init_90 : decode cX1_init 90 = .ok (.iload_n 1, 1) := by decide +kernel
theorem dX1_init_91 : decode cX1_init 91 = .ok (.invokespecial 40, 3) := by decide +kernel
theorem dX1_init_94 : decode cX1_init 94 = .ok (.aastore, 1) := by decide +kernel
theorem dX1_init_95 : decode cX1_init 95 = .ok (.iinc 1 1, 3) := by decide +kernel
theorem dX1_init_98 : decode cX1_init 98 = .ok (.goto (-23), 3) := by decide +kernel
theorem dX1_init_101 : decode cX1_init 101 = .ok (.aload_n 0, 1) := by decide +kernel
theorem dX1_init_102 : decode cX1_init 102 = .ok (.getfield 11, 3) := by decide +kernel
theorem dX1_init_105 : decode cX1_init 105 = .ok (.iconst 0, 1) := by decide +kernel
theorem dX1_init_106 : decode cX1_init 106 = .ok (.aaload, 1) := by decide +kernel
theorem dX1_init_107 : decode cX1_init 107 = .ok (.invokevirtual 41, 3) := by decide +kernel
theorem dX1_init_110 : decode cX1_init 110 = .ok (.return_, 1) := by decide +kernel
theorem dX1_numberedBlock_0 : decode cX1_numberedBlock 0 = .ok (.aload_n 0, 1) := by decide +kernel
theorem dX1_numberedBlock_1 : decode cX1_numberedBlock 1 = .ok (.getfield 11, 3) := by decide +kernel
theorem dX1_numberedBlock_4 : decode cX1_numberedBlock 4 = .ok (.iload_n 1, 1) := by decide +kernel
theorem dX1_numberedBlock_5 : decode cX1_numberedBlock 5 = .ok (.ifCond .lt 13, 3) := by decide +kernel
theorem dX1_numberedBlock_8 : decode cX1_numberedBlock 8 = .ok (.iload_n 1, 1) := by decide +kernel
theorem dX1_numberedBlock_9 : decode cX1_numberedBlock 9 = .ok (.bipush 24, 2) := by decide +kernel
theorem dX1_numberedBlock_11 : decode cX1_numberedBlock 11 = .ok (.if_icmp .ge 7, 3) := by decide +kernel
theorem dX1_numberedBlock_14 : decode cX1_numberedBlock 14 = .ok (.iload_n 1, 1) := by decide +kernel
theorem dX1_numberedBlock_15 : decode cX1_numberedBlock 15 = .ok (.goto 4, 3) := by decide +kernel
theorem dX1_numberedBlock_18 : decode cX1_numberedBlock 18 = .ok (.iconst 0, 1) := by decide +kernel
theorem dX1_numberedBlock_19 : decode cX1_numberedBlock 19 = .ok (.aaload, 1) := by decide +kernel
theorem dX1_numberedBlock_20 : decode cX1_numberedBlock 20 = .ok (.areturn, 1) := by decide +kernel
theorem dX1_numbered_0 : decode cX1_numbered 0 = .ok (.aload_n 0, 1) := by decide +kernel
theorem dX1_numbered_1 : decode cX1_numbered 1 = .ok (.getfield 23, 3) := by decide +kernel
theorem dX1_numbered_4 : decode cX1_numbered 4 = .ok (.iload_n 1, 1) := by decide +kernel
theorem dX1_numbered_5 : decode cX1_numbered 5 = .ok (.ifCond .lt 13, 3) := by decide +kernel
theorem dX1_numbered_8 : decode cX1_numbered 8 = .ok (.iload_n 1, 1) := by decide +kernel
theorem dX1_numbered_9 : decode cX1_numbered 9 = .ok (.bipush 40, 2) := by decide +kernel
theorem dX1_numbered_11 : decode cX1_numbered 11 = .ok (.if_icmp .ge 7, 3) := by decide +kernel
theorem dX1_numbered_14 : decode cX1_numbered 14 = .ok (.iload_n 1, 1) := by decide +kernel
theorem dX1_numbered_15 : decode cX1_numbered 15 = .ok (.goto 4, 3) := by decide +kernel
theorem dX1_numbered_18 : decode cX1_numbered 18 = .ok (.iconst 0, 1) := by decide +kernel
theorem dX1_numbered_19 : decode cX1_numbered 19 = .ok (.aaload, 1) := by decide +kernel
theorem dX1_numbered_20 : decode cX1_numbered 20 = .ok (.areturn, 1) := by decide +kernel
theorem dX1_lastFinalBlock_0 : decode cX1_lastFinalBlock 0 = .ok (.aload_n 0, 1) := by decide +kernel
theorem dX1_lastFinalBlock_1 : decode cX1_lastFinalBlock 1 = .ok (.aload_n 0, 1) := by decide +kernel
theorem dX1_lastFinalBlock_2 : decode cX1_lastFinalBlock 2 = .ok (.getfield 33, 3) := by decide +kernel
theorem dX1_lastFinalBlock_5 : decode cX1_lastFinalBlock 5 = .ok (.getfield 44, 3) := by decide +kernel
theorem dX1_lastFinalBlock_8 : decode cX1_lastFinalBlock 8 = .ok (.invokevirtual 47, 3) := by decide +kernel
theorem dX1_lastFinalBlock_11 : decode cX1_lastFinalBlock 11 = .ok (.areturn, 1) := by decide +kernel
theorem dX1_headBlock_0 : decode cX1_headBlock 0 = .ok (.aload_n 0, 1) := by decide +kernel
theorem dX1_headBlock_1 : decode cX1_headBlock 1 = .ok (.invokevirtual 51, 3) := by decide +kernel
theorem dX1_headBlock_4 : decode cX1_headBlock 4 = .ok (.astore_n 1, 1) := by decide +kernel
theorem dX1_headBlock_5 : decode cX1_headBlock 5 = .ok (.aload_n 1, 1) := by decide +kernel
theorem dX1_headBlock_6 : decode cX1_headBlock 6 = .ok (.astore_n 2, 1) := by decide +kernel
theorem dX1_headBlock_7 : decode cX1_headBlock 7 = .ok (.aload_n 0, 1) := by decide +kernel
theorem dX1_headBlock_8 : decode cX1_headBlock 8 = .ok (.getfield 11, 3) := by decide +kernel
theorem dX1_headBlock_11 : decode cX1_headBlock 11 = .ok (.astore_n 3, 1) := by decide +kernel
theorem dX1_headBlock_12 : decode cX1_headBlock 12 = .ok (.aload_n 3, 1) := by decide +kernel
theorem dX1_headBlock_13 : decode cX1_headBlock 13 = .ok (.arraylength, 1) := by decide +kernel
theorem dX1_headBlock_14 : decode cX1_headBlock 14 = .ok (.istore 4, 2) := by decide +kernel
theorem dX1_headBlock_16 : decode cX1_headBlock 16 = .ok (.iconst 0, 1) := by decide +kernel
theorem dX1_headBlock_17 : decode cX1_headBlock 17 = .ok (.istore 5, 2) := by decide +kernel
theorem dX1_headBlock_19 : decode cX1_headBlock 19 = .ok (.iload 5, 2) := by decide +kernel
theorem dX1_headBlock_21 : decode cX1_headBlock 21 = .ok (.iload 4, 2) := by decide +kernel
theorem dX1_headBlock_23 : decode cX1_headBlock 23 = .ok (.if_icmp .ge 39, 3) := by decide +kernel
theorem dX1_headBlock_26 : decode cX1_headBlock 26 = .ok (.aload_n 3, 1) := by decide +kernel
theorem dX1_headBlock_27 : decode cX1_headBlock 27 = .ok (.iload 5, 2) := by decide +kernel
theorem dX1_headBlock_29 : decode cX1_headBlock 29 = .ok (.aaload, 1) := by decide +kernel
theorem dX1_headBlock_30 : decode cX1_headBlock 30 = .ok (.astore 6, 2) := by decide +kernel
theorem dX1_headBlock_32 : decode cX1_headBlock 32 = .ok (.aload 6, 2) := by decide +kernel
theorem dX1_headBlock_34 : decode cX1_headBlock 34 = .ok (.aload_n 1, 1) := by decide +kernel
theorem dX1_headBlock_35 : decode cX1_headBlock 35 = .ok (.invokevirtual 55, 3) := by decide +kernel
theorem dX1_headBlock_38 : decode cX1_headBlock 38 = .ok (.ifCond .eq 18, 3) := by decide +kernel
theorem dX1_headBlock_41 : decode cX1_headBlock 41 = .ok (.aload 6, 2) := by decide +kernel
theorem dX1_headBlock_43 : decode cX1_headBlock 43 = .ok (.getfield 59, 3) := by decide +kernel
theorem dX1_headBlock_46 : decode cX1_headBlock 46 = .ok (.aload_n 2, 1) := by decide +kernel
theorem dX1_headBlock_47 : decode cX1_headBlock 47 = .ok (.getfield 59, 3) := by decide +kernel
theorem dX1_headBlock_50 : decode cX1_headBlock 50 = .ok (.if_icmp .le 6, 3) := by decide +kernel
theorem dX1_headBlock_53 : decode cX1_headBlock 53 = .ok (.aload 6, 2) := by decide +kernel
theorem dX1_headBlock_55 : decode cX1_headBlock 55 = .ok (.astore_n 2, 1) := by decide +kernel
theorem dX1_headBlock_56 : decode cX1_headBlock 56 = .ok (.iinc 5 1, 3) := by decide +kernel
theorem dX1_headBlock_59 : decode cX1_headBlock 59 = .ok (.goto (-40), 3) := by decide +kernel
theorem dX1_headBlock_62 : decode cX1_headBlock 62 = .ok (.aload_n 2, 1) := by decide +kernel
theorem dX1_headBlock_63 : decode cX1_headBlock 63 = .ok (.areturn, 1) := by decide +kernel
theorem dX1_countWaiting_0 : decode cX1_countWaiting 0 = .ok (.aload_n 0, 1) := by decide +kernel
theorem dX1_countWaiting_1 : decode cX1_countWaiting 1 = .ok (.invokevirtual 62, 3) := by decide +kernel
theorem dX1_countWaiting_4 : decode cX1_countWaiting 4 = .ok (.astore_n 1, 1) := by decide +kernel
theorem dX1_countWaiting_5 : decode cX1_countWaiting 5 = .ok (.iconst 0, 1) := by decide +kernel
theorem dX1_countWaiting_6 : decode cX1_countWaiting 6 = .ok (.istore_n 2, 1) := by decide +kernel
theorem dX1_countWaiting_7 : decode cX1_countWaiting 7 = .ok (.aload_n 0, 1) := by decide +kernel
theorem dX1_countWaiting_8 : decode cX1_countWaiting 8 = .ok (.getfield 23, 3) := by decide +kernel
theorem dX1_countWaiting_11 : decode cX1_countWaiting 11 = .ok (.astore_n 3, 1) := by decide +kernel
theorem dX1_countWaiting_12 : decode cX1_countWaiting 12 = .ok (.aload_n 3, 1) := by decide +kernel
theorem dX1_countWaiting_13 : decode cX1_countWaiting 13 = .ok (.arraylength, 1) := by decide +kernel
theorem dX1_countWaiting_14 : decode cX1_countWaiting 14 = .ok (.istore 4, 2) := by decide +kernel
theorem dX1_countWaiting_16 : decode cX1_countWaiting 16 = .ok (.iconst 0, 1) := by decide +kernel
theorem dX1_countWaiting_17 : decode cX1_countWaiting 17 = .ok (.istore 5, 2) := by decide +kernel
theorem dX1_countWaiting_19 : decode cX1_countWaiting 19 = .ok (.iload 5, 2) := by decide +kernel
theorem dX1_countWaiting_21 : decode cX1_countWaiting 21 = .ok (.iload 4, 2) := by decide +kernel
theorem dX1_countWaiting_23 : decode cX1_countWaiting 23 = .ok (.if_icmp .ge 27, 3) := by decide +kernel
theorem dX1_countWaiting_26 : decode cX1_countWaiting 26 = .ok (.aload_n 3, 1) := by decide +kernel
theorem dX1_countWaiting_27 : decode cX1_countWaiting 27 = .ok (.iload 5, 2) := by decide +kernel
theorem dX1_countWaiting_29 : decode cX1_countWaiting 29 = .ok (.aaload, 1) := by decide +kernel
theorem dX1_countWaiting_30 : decode cX1_countWaiting 30 = .ok (.astore 6, 2) := by decide +kernel
theorem dX1_countWaiting_32 : decode cX1_countWaiting 32 = .ok (.aload 6, 2) := by decide +kernel
theorem dX1_countWaiting_34 : decode cX1_countWaiting 34 = .ok (.aload_n 1, 1) := by decide +kernel
theorem dX1_countWaiting_35 : decode cX1_countWaiting 35 = .ok (.invokevirtual 65, 3) := by decide +kernel
theorem dX1_countWaiting_38 : decode cX1_countWaiting 38 = .ok (.ifCond .eq 6, 3) := by decide +kernel
theorem dX1_countWaiting_41 : decode cX1_countWaiting 41 = .ok (.iinc 2 1, 3) := by decide +kernel
theorem dX1_countWaiting_44 : decode cX1_countWaiting 44 = .ok (.iinc 5 1, 3) := by decide +kernel
theorem dX1_countWaiting_47 : decode cX1_countWaiting 47 = .ok (.goto (-28), 3) := by decide +kernel
theorem dX1_countWaiting_50 : decode cX1_countWaiting 50 = .ok (.iload_n 2, 1) := by decide +kernel
theorem dX1_countWaiting_51 : decode cX1_countWaiting 51 = .ok (.ireturn, 1) := by decide +kernel
theorem dX1_draft_0 : decode cX1_draft 0 = .ok (.aload_n 0, 1) := by decide +kernel
theorem dX1_draft_1 : decode cX1_draft 1 = .ok (.aload_n 0, 1) := by decide +kernel
theorem dX1_draft_2 : decode cX1_draft 2 = .ok (.getfield 68, 3) := by decide +kernel
theorem dX1_draft_5 : decode cX1_draft 5 = .ok (.invokevirtual 71, 3) := by decide +kernel
theorem dX1_draft_8 : decode cX1_draft 8 = .ok (.areturn, 1) := by decide +kernel
theorem dX1_admit_0 : decode cX1_admit 0 = .ok (.aload_n 0, 1) := by decide +kernel
theorem dX1_admit_1 : decode cX1_admit 1 = .ok (.invokevirtual 62, 3) := by decide +kernel
theorem dX1_admit_4 : decode cX1_admit 4 = .ok (.astore_n 2, 1) := by decide +kernel
theorem dX1_admit_5 : decode cX1_admit 5 = .ok (.iconst 0, 1) := by decide +kernel
theorem dX1_admit_6 : decode cX1_admit 6 = .ok (.istore_n 3, 1) := by decide +kernel
theorem dX1_admit_7 : decode cX1_admit 7 = .ok (.aload_n 0, 1) := by decide +kernel
theorem dX1_admit_8 : decode cX1_admit 8 = .ok (.getfield 23, 3) := by decide +kernel
theorem dX1_admit_11 : decode cX1_admit 11 = .ok (.astore 4, 2) := by decide +kernel
theorem dX1_admit_13 : decode cX1_admit 13 = .ok (.aload 4, 2) := by decide +kernel
theorem dX1_admit_15 : decode cX1_admit 15 = .ok (.arraylength, 1) := by decide +kernel
theorem dX1_admit_16 : decode cX1_admit 16 = .ok (.istore 5, 2) := by decide +kernel
theorem dX1_admit_18 : decode cX1_admit 18 = .ok (.iconst 0, 1) := by decide +kernel
theorem dX1_admit_19 : decode cX1_admit 19 = .ok (.istore 6, 2) := by decide +kernel
theorem dX1_admit_21 : decode cX1_admit 21 = .ok (.iload 6, 2) := by decide +kernel
theorem dX1_admit_23 : decode cX1_admit 23 = .ok (.iload 5, 2) := by decide +kernel
theorem dX1_admit_25 : decode cX1_admit 25 = .ok (.if_icmp .ge 47, 3) := by decide +kernel
theorem dX1_admit_28 : decode cX1_admit 28 = .ok (.aload 4, 2) := by decide +kernel
theorem dX1_admit_30 : decode cX1_admit 30 = .ok (.iload 6, 2) := by decide +kernel
theorem dX1_admit_32 : decode cX1_admit 32 = .ok (.aaload, 1) := by decide +kernel
theorem dX1_admit_33 : decode cX1_admit 33 = .ok (.astore 7, 2) := by decide +kernel
theorem dX1_admit_35 : decode cX1_admit 35 = .ok (.aload 7, 2) := by decide +kernel
theorem dX1_admit_37 : decode cX1_admit 37 = .ok (.aload_n 2, 1) := by decide +kernel
theorem dX1_admit_38 : decode cX1_admit 38 = .ok (.invokevirtual 65, 3) := by decide +kernel
theorem dX1_admit_41 : decode cX1_admit 41 = .ok (.ifCond .eq 25, 3) := by decide +kernel
theorem dX1_admit_44 : decode cX1_admit 44 = .ok (.aload 7, 2) := by decide +kernel
theorem dX1_admit_46 : decode cX1_admit 46 = .ok (.aload_n 1, 1) := by decide +kernel
theorem dX1_admit_47 : decode cX1_admit 47 = .ok (.invokevirtual 75, 3) := by decide +kernel
theorem dX1_admit_50 : decode cX1_admit 50 = .ok (.ifCond .eq 16, 3) := by decide +kernel
theorem dX1_admit_53 : decode cX1_admit 53 = .ok (.aload_n 1, 1) := by decide +kernel
theorem dX1_admit_54 : decode cX1_admit 54 = .ok (.aload 7, 2) := by decide +kernel
theorem dX1_admit_56 : decode cX1_admit 56 = .ok (.invokevirtual 79, 3) := by decide +kernel
theorem dX1_admit_59 : decode cX1_admit 59 = .ok (.ifCond .ne 5, 3) := by decide +kernel
theorem dX1_admit_62 : decode cX1_admit 62 = .ok (.iconst (-1), 1) := by decide +kernel
theorem dX1_admit_63 : decode cX1_admit 63 = .ok (.ireturn, 1) := by decide +kernel
theorem dX1_admit_64 : decode cX1_admit 64 = .ok (.iconst 1, 1) := by decide +kernel
theorem dX1_admit_65 : decode cX1_admit 65 = .ok (.istore_n 3, 1) := by decide +kernel
theorem dX1_admit_66 : decode cX1_admit 66 = .ok (.iinc 6 1, 3) := by decide +kernel
theorem dX1_admit_69 : decode cX1_admit 69 = .ok (.goto (-48), 3) := by decide +kernel
theorem dX1_admit_72 : decode cX1_admit 72 = .ok (.iload_n 3, 1) := by decide +kernel
theorem dX1_admit_73 : decode cX1_admit 73 = .ok (.ifCond .eq 12, 3) := by decide +kernel
theorem dX1_admit_76 : decode cX1_admit 76 = .ok (.aload_n 0, 1) := by decide +kernel
theorem dX1_admit_77 : decode cX1_admit 77 = .ok (.aload_n 1, 1) := by decide +kernel
theorem dX1_admit_78 : decode cX1_admit 78 = .ok (.aload_n 2, 1) := by decide +kernel
theorem dX1_admit_79 : decode cX1_admit 79 = .ok (.invokevirtual 82, 3) := by decide +kernel
theorem dX1_admit_82 : decode cX1_admit 82 = .ok (.goto 23, 3) := by decide +kernel
theorem dX1_admit_85 : decode cX1_admit 85 = .ok (.aload_n 0, 1) := by decide +kernel
theorem dX1_admit_86 : decode cX1_admit 86 = .ok (.invokevirtual 86, 3) := by decide +kernel
theorem dX1_admit_89 : decode cX1_admit 89 = .ok (.bipush 10, 2) := by decide +kernel
theorem dX1_admit_91 : decode cX1_admit 91 = .ok (.if_icmp .lt 14, 3) := by decide +kernel
theorem dX1_admit_94 : decode cX1_admit 94 = .ok (.aload_n 0, 1) := by decide +kernel
theorem dX1_admit_95 : decode cX1_admit 95 = .ok (.aload_n 1, 1) := by decide +kernel
theorem dX1_admit_96 : decode cX1_admit 96 = .ok (.aload_n 2, 1) := by decide +kernel
theorem dX1_admit_97 : decode cX1_admit 97 = .ok (.invokevirtual 90, 3) := by decide +kernel
theorem dX1_admit_100 : decode cX1_admit 100 = .ok (.ifCond .ne 5, 3) := by decide +kernel
theorem dX1_admit_103 : decode cX1_admit 103 = .ok (.iconst (-1), 1) := by decide +kernel
theorem dX1_admit_104 : decode cX1_admit 104 = .ok (.ireturn, 1) := by decide +kernel
theorem dX1_admit_105 : decode cX1_admit 105 = .ok (.aload_n 1, 1) := by decide +kernel
theorem dX1_admit_106 : decode cX1_admit 106 = .ok (.iconst 1, 1) := by decide +kernel
theorem dX1_admit_107 : decode cX1_admit 107 = .ok (.putfield 94, 3) := by decide +kernel
theorem dX1_admit_110 : decode cX1_admit 110 = .ok (.aload_n 0, 1) := by decide +kernel
theorem dX1_admit_111 : decode cX1_admit 111 = .ok (.dup, 1) := by decide +kernel
theorem dX1_admit_112 : decode cX1_admit 112 = .ok (.getfield 68, 3) := by decide +kernel
theorem dX1_admit_115 : decode cX1_admit 115 = .ok (.iconst 1, 1) := by decide +kernel
theorem dX1_admit_116 : decode cX1_admit 116 = .ok (.iadd, 1) := by decide +kernel
theorem dX1_admit_117 : decode cX1_admit 117 = .ok (.putfield 68, 3) := by decide +kernel
theorem dX1_admit_120 : decode cX1_admit 120 = .ok (.aload_n 1, 1) := by decide +kernel
theorem dX1_admit_121 : decode cX1_admit 121 = .ok (.getfield 98, 3) := by decide +kernel
theorem dX1_admit_124 : decode cX1_admit 124 = .ok (.ireturn, 1) := by decide +kernel
theorem dX1_dropRivals_0 : decode cX1_dropRivals 0 = .ok (.aload_n 0, 1) := by decide +kernel
theorem dX1_dropRivals_1 : decode cX1_dropRivals 1 = .ok (.getfield 23, 3) := by decide +kernel
theorem dX1_dropRivals_4 : decode cX1_dropRivals 4 = .ok (.astore_n 3, 1) := by decide +kernel
theorem dX1_dropRivals_5 : decode cX1_dropRivals 5 = .ok (.aload_n 3, 1) := by decide +kernel
theorem dX1_dropRivals_6 : decode cX1_dropRivals 6 = .ok (.arraylength, 1) := by decide +kernel
theorem dX1_dropRivals_7 : decode cX1_dropRivals 7 = .ok (.istore 4, 2) := by decide +kernel
theorem dX1_dropRivals_9 : decode cX1_dropRivals 9 = .ok (.iconst 0, 1) := by decide +kernel
theorem dX1_dropRivals_10 : decode cX1_dropRivals 10 = .ok (.istore 5, 2) := by decide +kernel
theorem dX1_dropRivals_12 : decode cX1_dropRivals 12 = .ok (.iload 5, 2) := by decide +kernel
theorem dX1_dropRivals_14 : decode cX1_dropRivals 14 = .ok (.iload 4, 2) := by decide +kernel
theorem dX1_dropRivals_16 : decode cX1_dropRivals 16 = .ok (.if_icmp .ge 39, 3) := by decide +kernel
theorem dX1_dropRivals_19 : decode cX1_dropRivals 19 = .ok (.aload_n 3, 1) := by decide +kernel
theorem dX1_dropRivals_20 : decode cX1_dropRivals 20 = .ok (.iload 5, 2) := by decide +kernel
theorem dX1_dropRivals_22 : decode cX1_dropRivals 22 = .ok (.aaload, 1) := by decide +kernel
theorem dX1_dropRivals_23 : decode cX1_dropRivals 23 = .ok (.astore 6, 2) := by decide +kernel
theorem dX1_dropRivals_25 : decode cX1_dropRivals 25 = .ok (.aload 6, 2) := by decide +kernel
theorem dX1_dropRivals_27 : decode cX1_dropRivals 27 = .ok (.aload_n 2, 1) := by decide +kernel
theorem dX1_dropRivals_28 : decode cX1_dropRivals 28 = .ok (.invokevirtual 65, 3) := by decide +kernel
theorem dX1_dropRivals_31 : decode cX1_dropRivals 31 = .ok (.ifCond .eq 18, 3) := by decide +kernel
theorem dX1_dropRivals_34 : decode cX1_dropRivals 34 = .ok (.aload 6, 2) := by decide +kernel
theorem dX1_dropRivals_36 : decode cX1_dropRivals 36 = .ok (.aload_n 1, 1) := by decide +kernel
theorem dX1_dropRivals_37 : decode cX1_dropRivals 37 = .ok (.invokevirtual 75, 3) := by decide +kernel
theorem dX1_dropRivals_40 : decode cX1_dropRivals 40 = .ok (.ifCond .eq 9, 3) := by decide +kernel
theorem dX1_dropRivals_43 : decode cX1_dropRivals 43 = .ok (.aload 6, 2) := by decide +kernel
theorem dX1_dropRivals_45 : decode cX1_dropRivals 45 = .ok (.iconst 0, 1) := by decide +kernel
theorem dX1_dropRivals_46 : decode cX1_dropRivals 46 = .ok (.putfield 94, 3) := by decide +kernel
theorem dX1_dropRivals_49 : decode cX1_dropRivals 49 = .ok (.iinc 5 1, 3) := by decide +kernel
theorem dX1_dropRivals_52 : decode cX1_dropRivals 52 = .ok (.goto (-40), 3) := by decide +kernel
theorem dX1_dropRivals_55 : decode cX1_dropRivals 55 = .ok (.return_, 1) := by decide +kernel
theorem dX1_throwOutFor_0 : decode cX1_throwOutFor 0 = .ok (.aload_n 1, 1) := by decide +kernel
theorem dX1_throwOutFor_1 : decode cX1_throwOutFor 1 = .ok (.astore_n 3, 1) := by decide +kernel
theorem dX1_throwOutFor_2 : decode cX1_throwOutFor 2 = .ok (.aload_n 0, 1) := by decide +kernel
theorem dX1_throwOutFor_3 : decode cX1_throwOutFor 3 = .ok (.getfield 23, 3) := by decide +kernel
theorem dX1_throwOutFor_6 : decode cX1_throwOutFor 6 = .ok (.astore 4, 2) := by decide +kernel
theorem dX1_throwOutFor_8 : decode cX1_throwOutFor 8 = .ok (.aload 4, 2) := by decide +kernel
theorem dX1_throwOutFor_10 : decode cX1_throwOutFor 10 = .ok (.arraylength, 1) := by decide +kernel
theorem dX1_throwOutFor_11 : decode cX1_throwOutFor 11 = .ok (.istore 5, 2) := by decide +kernel
theorem dX1_throwOutFor_13 : decode cX1_throwOutFor 13 = .ok (.iconst 0, 1) := by decide +kernel
theorem dX1_throwOutFor_14 : decode cX1_throwOutFor 14 = .ok (.istore 6, 2) := by decide +kernel
theorem dX1_throwOutFor_16 : decode cX1_throwOutFor 16 = .ok (.iload 6, 2) := by decide +kernel
theorem dX1_throwOutFor_18 : decode cX1_throwOutFor 18 = .ok (.iload 5, 2) := by decide +kernel
theorem dX1_throwOutFor_20 : decode cX1_throwOutFor 20 = .ok (.if_icmp .ge 40, 3) := by decide +kernel
theorem dX1_throwOutFor_23 : decode cX1_throwOutFor 23 = .ok (.aload 4, 2) := by decide +kernel
theorem dX1_throwOutFor_25 : decode cX1_throwOutFor 25 = .ok (.iload 6, 2) := by decide +kernel
theorem dX1_throwOutFor_27 : decode cX1_throwOutFor 27 = .ok (.aaload, 1) := by decide +kernel
theorem dX1_throwOutFor_28 : decode cX1_throwOutFor 28 = .ok (.astore 7, 2) := by decide +kernel
theorem dX1_throwOutFor_30 : decode cX1_throwOutFor 30 = .ok (.aload 7, 2) := by decide +kernel
theorem dX1_throwOutFor_32 : decode cX1_throwOutFor 32 = .ok (.aload_n 2, 1) := by decide +kernel
theorem dX1_throwOutFor_33 : decode cX1_throwOutFor 33 = .ok (.invokevirtual 65, 3) := by decide +kernel
theorem dX1_throwOutFor_36 : decode cX1_throwOutFor 36 = .ok (.ifCond .eq 18, 3) := by decide +kernel
theorem dX1_throwOutFor_39 : decode cX1_throwOutFor 39 = .ok (.aload 7, 2) := by decide +kernel
theorem dX1_throwOutFor_41 : decode cX1_throwOutFor 41 = .ok (.getfield 101, 3) := by decide +kernel
theorem dX1_throwOutFor_44 : decode cX1_throwOutFor 44 = .ok (.aload_n 3, 1) := by decide +kernel
theorem dX1_throwOutFor_45 : decode cX1_throwOutFor 45 = .ok (.getfield 101, 3) := by decide +kernel
theorem dX1_throwOutFor_48 : decode cX1_throwOutFor 48 = .ok (.if_icmp .gt 6, 3) := by decide +kernel
theorem dX1_throwOutFor_51 : decode cX1_throwOutFor 51 = .ok (.aload 7, 2) := by decide +kernel
theorem dX1_throwOutFor_53 : decode cX1_throwOutFor 53 = .ok (.astore_n 3, 1) := by decide +kernel
theorem dX1_throwOutFor_54 : decode cX1_throwOutFor 54 = .ok (.iinc 6 1, 3) := by decide +kernel
theorem dX1_throwOutFor_57 : decode cX1_throwOutFor 57 = .ok (.goto (-41), 3) := by decide +kernel
theorem dX1_throwOutFor_60 : decode cX1_throwOutFor 60 = .ok (.aload_n 3, 1) := by decide +kernel
theorem dX1_throwOutFor_61 : decode cX1_throwOutFor 61 = .ok (.getfield 101, 3) := by decide +kernel
theorem dX1_throwOutFor_64 : decode cX1_throwOutFor 64 = .ok (.aload_n 1, 1) := by decide +kernel
theorem dX1_throwOutFor_65 : decode cX1_throwOutFor 65 = .ok (.getfield 101, 3) := by decide +kernel
theorem dX1_throwOutFor_68 : decode cX1_throwOutFor 68 = .ok (.if_icmp .lt 5, 3) := by decide +kernel
theorem dX1_throwOutFor_71 : decode cX1_throwOutFor 71 = .ok (.iconst 0, 1) := by decide +kernel
theorem dX1_throwOutFor_72 : decode cX1_throwOutFor 72 = .ok (.ireturn, 1) := by decide +kernel
theorem dX1_throwOutFor_73 : decode cX1_throwOutFor 73 = .ok (.aload_n 3, 1) := by decide +kernel
theorem dX1_throwOutFor_74 : decode cX1_throwOutFor 74 = .ok (.iconst 0, 1) := by decide +kernel
theorem dX1_throwOutFor_75 : decode cX1_throwOutFor 75 = .ok (.putfield 94, 3) := by decide +kernel
theorem dX1_throwOutFor_78 : decode cX1_throwOutFor 78 = .ok (.iconst 1, 1) := by decide +kernel
theorem dX1_throwOutFor_79 : decode cX1_throwOutFor 79 = .ok (.ireturn, 1) := by decide +kernel
theorem dX1_grow_0 : decode cX1_grow 0 = .ok (.aload_n 0, 1) := by decide +kernel
theorem dX1_grow_1 : decode cX1_grow 1 = .ok (.aload_n 0, 1) := by decide +kernel
theorem dX1_grow_2 : decode cX1_grow 2 = .ok (.getfield 17, 3) := by decide +kernel
theorem dX1_grow_5 : decode cX1_grow 5 = .ok (.invokevirtual 47, 3) := by decide +kernel
theorem dX1_grow_8 : decode cX1_grow 8 = .ok (.astore 5, 2) := by decide +kernel
theorem dX1_grow_10 : decode cX1_grow 10 = .ok (.aload 5, 2) := by decide +kernel
theorem dX1_grow_12 : decode cX1_grow 12 = .ok (.aload_n 2, 1) := by decide +kernel
theorem dX1_grow_13 : decode cX1_grow 13 = .ok (.iload_n 3, 1) := by decide +kernel
theorem dX1_grow_14 : decode cX1_grow 14 = .ok (.iload 4, 2) := by decide +kernel
theorem dX1_grow_16 : decode cX1_grow 16 = .ok (.invokevirtual 104, 3) := by decide +kernel
theorem dX1_grow_19 : decode cX1_grow 19 = .ok (.aload_n 1, 1) := by decide +kernel
theorem dX1_grow_20 : decode cX1_grow 20 = .ok (.aload 5, 2) := by decide +kernel
theorem dX1_grow_22 : decode cX1_grow 22 = .ok (.aload_n 0, 1) := by decide +kernel
theorem dX1_grow_23 : decode cX1_grow 23 = .ok (.aload 5, 2) := by decide +kernel
theorem dX1_grow_25 : decode cX1_grow 25 = .ok (.invokevirtual 108, 3) := by decide +kernel
theorem dX1_grow_28 : decode cX1_grow 28 = .ok (.invokevirtual 111, 3) := by decide +kernel
theorem dX1_grow_31 : decode cX1_grow 31 = .ok (.bipush 40, 2) := by decide +kernel
theorem dX1_grow_33 : decode cX1_grow 33 = .ok (.istore 6, 2) := by decide +kernel
theorem dX1_grow_35 : decode cX1_grow 35 = .ok (.iload 6, 2) := by decide +kernel
theorem dX1_grow_37 : decode cX1_grow 37 = .ok (.ifCond .le 49, 3) := by decide +kernel
theorem dX1_grow_40 : decode cX1_grow 40 = .ok (.aload_n 0, 1) := by decide +kernel
theorem dX1_grow_41 : decode cX1_grow 41 = .ok (.aload 5, 2) := by decide +kernel
theorem dX1_grow_43 : decode cX1_grow 43 = .ok (.invokevirtual 117, 3) := by decide +kernel
theorem dX1_grow_46 : decode cX1_grow 46 = .ok (.astore 7, 2) := by decide +kernel
theorem dX1_grow_48 : decode cX1_grow 48 = .ok (.aload 7, 2) := by decide +kernel
theorem dX1_grow_50 : decode cX1_grow 50 = .ok (.ifnonnull 6, 3) := by decide +kernel
theorem dX1_grow_53 : decode cX1_grow 53 = .ok (.goto 33, 3) := by decide +kernel
theorem dX1_grow_56 : decode cX1_grow 56 = .ok (.aload_n 1, 1) := by decide +kernel
theorem dX1_grow_57 : decode cX1_grow 57 = .ok (.aload 7, 2) := by decide +kernel
theorem dX1_grow_59 : decode cX1_grow 59 = .ok (.invokevirtual 121, 3) := by decide +kernel
theorem dX1_grow_62 : decode cX1_grow 62 = .ok (.aload 5, 2) := by decide +kernel
theorem dX1_grow_64 : decode cX1_grow 64 = .ok (.aload 7, 2) := by decide +kernel
theorem dX1_grow_66 : decode cX1_grow 66 = .ok (.getfield 98, 3) := by decide +kernel
theorem dX1_grow_69 : decode cX1_grow 69 = .ok (.aload_n 1, 1) := by decide +kernel
theorem dX1_grow_70 : decode cX1_grow 70 = .ok (.getfield 125, 3) := by decide +kernel
theorem dX1_grow_73 : decode cX1_grow 73 = .ok (.aload_n 1, 1) := by decide +kernel
theorem dX1_grow_74 : decode cX1_grow 74 = .ok (.getfield 128, 3) := by decide +kernel
theorem dX1_grow_77 : decode cX1_grow 77 = .ok (.invokevirtual 131, 3) := by decide +kernel
theorem dX1_grow_80 : decode cX1_grow 80 = .ok (.iinc 6 (-1), 3) := by decide +kernel
theorem dX1_grow_83 : decode cX1_grow 83 = .ok (.goto (-48), 3) := by decide +kernel
theorem dX1_grow_86 : decode cX1_grow 86 = .ok (.aload 5, 2) := by decide +kernel
theorem dX1_grow_88 : decode cX1_grow 88 = .ok (.invokevirtual 135, 3) := by decide +kernel
theorem dX1_grow_91 : decode cX1_grow 91 = .ok (.aload_n 0, 1) := by decide +kernel
theorem dX1_grow_92 : decode cX1_grow 92 = .ok (.dup, 1) := by decide +kernel
theorem dX1_grow_93 : decode cX1_grow 93 = .ok (.getfield 17, 3) := by decide +kernel
theorem dX1_grow_96 : decode cX1_grow 96 = .ok (.iconst 1, 1) := by decide +kernel
theorem dX1_grow_97 : decode cX1_grow 97 = .ok (.iadd, 1) := by decide +kernel
theorem dX1_grow_98 : decode cX1_grow 98 = .ok (.putfield 17, 3) := by decide +kernel
theorem dX1_grow_101 : decode cX1_grow 101 = .ok (.aload 5, 2) := by decide +kernel
theorem dX1_grow_103 : decode cX1_grow 103 = .ok (.getfield 138, 3) := by decide +kernel
theorem dX1_grow_106 : decode cX1_grow 106 = .ok (.ireturn, 1) := by decide +kernel
theorem dX1_bestFor_0 : decode cX1_bestFor 0 = .ok (.aconst_null, 1) := by decide +kernel
theorem dX1_bestFor_1 : decode cX1_bestFor 1 = .ok (.astore_n 2, 1) := by decide +kernel
theorem dX1_bestFor_2 : decode cX1_bestFor 2 = .ok (.aload_n 0, 1) := by decide +kernel
theorem dX1_bestFor_3 : decode cX1_bestFor 3 = .ok (.getfield 23, 3) := by decide +kernel
theorem dX1_bestFor_6 : decode cX1_bestFor 6 = .ok (.astore_n 3, 1) := by decide +kernel
theorem dX1_bestFor_7 : decode cX1_bestFor 7 = .ok (.aload_n 3, 1) := by decide +kernel
theorem dX1_bestFor_8 : decode cX1_bestFor 8 = .ok (.arraylength, 1) := by decide +kernel
theorem dX1_bestFor_9 : decode cX1_bestFor 9 = .ok (.istore 4, 2) := by decide +kernel
theorem dX1_bestFor_11 : decode cX1_bestFor 11 = .ok (.iconst 0, 1) := by decide +kernel
theorem dX1_bestFor_12 : decode cX1_bestFor 12 = .ok (.istore 5, 2) := by decide +kernel
theorem dX1_bestFor_14 : decode cX1_bestFor 14 = .ok (.iload 5, 2) := by decide +kernel
theorem dX1_bestFor_16 : decode cX1_bestFor 16 = .ok (.iload 4, 2) := by decide +kernel
theorem dX1_bestFor_18 : decode cX1_bestFor 18 = .ok (.if_icmp .ge 60, 3) := by decide +kernel
theorem dX1_bestFor_21 : decode cX1_bestFor 21 = .ok (.aload_n 3, 1) := by decide +kernel
theorem dX1_bestFor_22 : decode cX1_bestFor 22 = .ok (.iload 5, 2) := by decide +kernel
theorem dX1_bestFor_24 : decode cX1_bestFor 24 = .ok (.aaload, 1) := by decide +kernel
theorem dX1_bestFor_25 : decode cX1_bestFor 25 = .ok (.astore 6, 2) := by decide +kernel
theorem dX1_bestFor_27 : decode cX1_bestFor 27 = .ok (.aload 6, 2) := by decide +kernel
theorem dX1_bestFor_29 : decode cX1_bestFor 29 = .ok (.aload_n 1, 1) := by decide +kernel
theorem dX1_bestFor_30 : decode cX1_bestFor 30 = .ok (.invokevirtual 65, 3) := by decide +kernel
theorem dX1_bestFor_33 : decode cX1_bestFor 33 = .ok (.ifCond .eq 39, 3) := by decide +kernel
theorem dX1_bestFor_36 : decode cX1_bestFor 36 = .ok (.aload 6, 2) := by decide +kernel
theorem dX1_bestFor_38 : decode cX1_bestFor 38 = .ok (.aload_n 1, 1) := by decide +kernel
theorem dX1_bestFor_39 : decode cX1_bestFor 39 = .ok (.invokevirtual 139, 3) := by decide +kernel
theorem dX1_bestFor_42 : decode cX1_bestFor 42 = .ok (.ifCond .eq 30, 3) := by decide +kernel
theorem dX1_bestFor_45 : decode cX1_bestFor 45 = .ok (.aload_n 2, 1) := by decide +kernel
theorem dX1_bestFor_46 : decode cX1_bestFor 46 = .ok (.ifnull 23, 3) := by decide +kernel
theorem dX1_bestFor_49 : decode cX1_bestFor 49 = .ok (.aload 6, 2) := by decide +kernel
theorem dX1_bestFor_51 : decode cX1_bestFor 51 = .ok (.aload_n 1, 1) := by decide +kernel
theorem dX1_bestFor_52 : decode cX1_bestFor 52 = .ok (.getfield 142, 3) := by decide +kernel
theorem dX1_bestFor_55 : decode cX1_bestFor 55 = .ok (.invokevirtual 145, 3) := by decide +kernel
theorem dX1_bestFor_58 : decode cX1_bestFor 58 = .ok (.aload_n 2, 1) := by decide +kernel
theorem dX1_bestFor_59 : decode cX1_bestFor 59 = .ok (.aload_n 1, 1) := by decide +kernel
theorem dX1_bestFor_60 : decode cX1_bestFor 60 = .ok (.getfield 142, 3) := by decide +kernel
theorem dX1_bestFor_63 : decode cX1_bestFor 63 = .ok (.invokevirtual 145, 3) := by decide +kernel
theorem dX1_bestFor_66 : decode cX1_bestFor 66 = .ok (.if_icmp .le 6, 3) := by decide +kernel
theorem dX1_bestFor_69 : decode cX1_bestFor 69 = .ok (.aload 6, 2) := by decide +kernel
theorem dX1_bestFor_71 : decode cX1_bestFor 71 = .ok (.astore_n 2, 1) := by decide +kernel
theorem dX1_bestFor_72 : decode cX1_bestFor 72 = .ok (.iinc 5 1, 3) := by decide +kernel
theorem dX1_bestFor_75 : decode cX1_bestFor 75 = .ok (.goto (-61), 3) := by decide +kernel
theorem dX1_bestFor_78 : decode cX1_bestFor 78 = .ok (.aload_n 2, 1) := by decide +kernel
theorem dX1_bestFor_79 : decode cX1_bestFor 79 = .ok (.areturn, 1) := by decide +kernel
theorem dX1_isUpgraded_0 : decode cX1_isUpgraded 0 = .ok (.aload_n 1, 1) := by decide +kernel
theorem dX1_isUpgraded_1 : decode cX1_isUpgraded 1 = .ok (.getfield 149, 3) := by decide +kernel
theorem dX1_isUpgraded_4 : decode cX1_isUpgraded 4 = .ok (.aload_n 0, 1) := by decide +kernel
theorem dX1_isUpgraded_5 : decode cX1_isUpgraded 5 = .ok (.getfield 27, 3) := by decide +kernel
theorem dX1_isUpgraded_8 : decode cX1_isUpgraded 8 = .ok (.if_icmp .lt 7, 3) := by decide +kernel
theorem dX1_isUpgraded_11 : decode cX1_isUpgraded 11 = .ok (.iconst 1, 1) := by decide +kernel
theorem dX1_isUpgraded_12 : decode cX1_isUpgraded 12 = .ok (.goto 4, 3) := by decide +kernel
theorem dX1_isUpgraded_15 : decode cX1_isUpgraded 15 = .ok (.iconst 0, 1) := by decide +kernel
theorem dX1_isUpgraded_16 : decode cX1_isUpgraded 16 = .ok (.ireturn, 1) := by decide +kernel
theorem dX1_runAnew_0 : decode cX1_runAnew 0 = .ok (.aload_n 1, 1) := by decide +kernel
theorem dX1_runAnew_1 : decode cX1_runAnew 1 = .ok (.getfield 152, 3) := by decide +kernel
theorem dX1_runAnew_4 : decode cX1_runAnew 4 = .ok (.astore_n 3, 1) := by decide +kernel
theorem dX1_runAnew_5 : decode cX1_runAnew 5 = .ok (.aload_n 3, 1) := by decide +kernel
theorem dX1_runAnew_6 : decode cX1_runAnew 6 = .ok (.getfield 156, 3) := by decide +kernel
theorem dX1_runAnew_9 : decode cX1_runAnew 9 = .ok (.invokevirtual 160, 3) := by decide +kernel
theorem dX1_runAnew_12 : decode cX1_runAnew 12 = .ok (.aload_n 0, 1) := by decide +kernel
theorem dX1_runAnew_13 : decode cX1_runAnew 13 = .ok (.getfield 11, 3) := by decide +kernel
theorem dX1_runAnew_16 : decode cX1_runAnew 16 = .ok (.astore 4, 2) := by decide +kernel
theorem dX1_runAnew_18 : decode cX1_runAnew 18 = .ok (.aload 4, 2) := by decide +kernel
theorem dX1_runAnew_20 : decode cX1_runAnew 20 = .ok (.arraylength, 1) := by decide +kernel
theorem dX1_runAnew_21 : decode cX1_runAnew 21 = .ok (.istore 5, 2) := by decide +kernel
theorem dX1_runAnew_23 : decode cX1_runAnew 23 = .ok (.iconst 0, 1) := by decide +kernel
theorem dX1_runAnew_24 : decode cX1_runAnew 24 = .ok (.istore 6, 2) := by decide +kernel
theorem dX1_runAnew_26 : decode cX1_runAnew 26 = .ok (.iload 6, 2) := by decide +kernel
theorem dX1_runAnew_28 : decode cX1_runAnew 28 = .ok (.iload 5, 2) := by decide +kernel
theorem dX1_runAnew_30 : decode cX1_runAnew 30 = .ok (.if_icmp .ge 76, 3) := by decide +kernel
theorem dX1_runAnew_33 : decode cX1_runAnew 33 = .ok (.aload 4, 2) := by decide +kernel
theorem dX1_runAnew_35 : decode cX1_runAnew 35 = .ok (.iload 6, 2) := by decide +kernel
theorem dX1_runAnew_37 : decode cX1_runAnew 37 = .ok (.aaload, 1) := by decide +kernel
theorem dX1_runAnew_38 : decode cX1_runAnew 38 = .ok (.astore 7, 2) := by decide +kernel
theorem dX1_runAnew_40 : decode cX1_runAnew 40 = .ok (.aload_n 2, 1) := by decide +kernel
theorem dX1_runAnew_41 : decode cX1_runAnew 41 = .ok (.aload 7, 2) := by decide +kernel
theorem dX1_runAnew_43 : decode cX1_runAnew 43 = .ok (.invokevirtual 55, 3) := by decide +kernel
theorem dX1_runAnew_46 : decode cX1_runAnew 46 = .ok (.ifCond .eq 54, 3) := by decide +kernel
theorem dX1_runAnew_49 : decode cX1_runAnew 49 = .ok (.aload_n 3, 1) := by decide +kernel
theorem dX1_runAnew_50 : decode cX1_runAnew 50 = .ok (.aload 7, 2) := by decide +kernel
theorem dX1_runAnew_52 : decode cX1_runAnew 52 = .ok (.invokevirtual 163, 3) := by decide +kernel
theorem dX1_runAnew_55 : decode cX1_runAnew 55 = .ok (.aload_n 1, 1) := by decide +kernel
theorem dX1_runAnew_56 : decode cX1_runAnew 56 = .ok (.aload_n 3, 1) := by decide +kernel
theorem dX1_runAnew_57 : decode cX1_runAnew 57 = .ok (.aload_n 0, 1) := by decide +kernel
theorem dX1_runAnew_58 : decode cX1_runAnew 58 = .ok (.aload 7, 2) := by decide +kernel
theorem dX1_runAnew_60 : decode cX1_runAnew 60 = .ok (.invokevirtual 108, 3) := by decide +kernel
theorem dX1_runAnew_63 : decode cX1_runAnew 63 = .ok (.invokevirtual 111, 3) := by decide +kernel
theorem dX1_runAnew_66 : decode cX1_runAnew 66 = .ok (.iconst 0, 1) := by decide +kernel
theorem dX1_runAnew_67 : decode cX1_runAnew 67 = .ok (.istore 8, 2) := by decide +kernel
theorem dX1_runAnew_69 : decode cX1_runAnew 69 = .ok (.iload 8, 2) := by decide +kernel
theorem dX1_runAnew_71 : decode cX1_runAnew 71 = .ok (.aload 7, 2) := by decide +kernel
theorem dX1_runAnew_73 : decode cX1_runAnew 73 = .ok (.getfield 167, 3) := by decide +kernel
theorem dX1_runAnew_76 : decode cX1_runAnew 76 = .ok (.if_icmp .ge 24, 3) := by decide +kernel
theorem dX1_runAnew_79 : decode cX1_runAnew 79 = .ok (.aload_n 1, 1) := by decide +kernel
theorem dX1_runAnew_80 : decode cX1_runAnew 80 = .ok (.aload_n 0, 1) := by decide +kernel
theorem dX1_runAnew_81 : decode cX1_runAnew 81 = .ok (.aload 7, 2) := by decide +kernel
theorem dX1_runAnew_83 : decode cX1_runAnew 83 = .ok (.iload 8, 2) := by decide +kernel
theorem dX1_runAnew_85 : decode cX1_runAnew 85 = .ok (.invokevirtual 170, 3) := by decide +kernel
theorem dX1_runAnew_88 : decode cX1_runAnew 88 = .ok (.invokevirtual 71, 3) := by decide +kernel
theorem dX1_runAnew_91 : decode cX1_runAnew 91 = .ok (.invokevirtual 121, 3) := by decide +kernel
theorem dX1_runAnew_94 : decode cX1_runAnew 94 = .ok (.iinc 8 1, 3) := by decide +kernel
theorem dX1_runAnew_97 : decode cX1_runAnew 97 = .ok (.goto (-28), 3) := by decide +kernel
theorem dX1_runAnew_100 : decode cX1_runAnew 100 = .ok (.iinc 6 1, 3) := by decide +kernel
theorem dX1_runAnew_103 : decode cX1_runAnew 103 = .ok (.goto (-77), 3) := by decide +kernel
theorem dX1_runAnew_106 : decode cX1_runAnew 106 = .ok (.aload_n 3, 1) := by decide +kernel
theorem dX1_runAnew_107 : decode cX1_runAnew 107 = .ok (.getfield 156, 3) := by decide +kernel
theorem dX1_runAnew_110 : decode cX1_runAnew 110 = .ok (.iconst 4, 1) := by decide +kernel
theorem dX1_runAnew_111 : decode cX1_runAnew 111 = .ok (.iconst 0, 1) := by decide +kernel
theorem dX1_runAnew_112 : decode cX1_runAnew 112 = .ok (.invokestatic 173, 3) := by decide +kernel
theorem dX1_runAnew_115 : decode cX1_runAnew 115 = .ok (.ireturn, 1) := by decide +kernel
theorem dX1_dropLower_0 : decode cX1_dropLower 0 = .ok (.aload_n 0, 1) := by decide +kernel
theorem dX1_dropLower_1 : decode cX1_dropLower 1 = .ok (.invokevirtual 51, 3) := by decide +kernel
theorem dX1_dropLower_4 : decode cX1_dropLower 4 = .ok (.getfield 149, 3) := by decide +kernel
theorem dX1_dropLower_7 : decode cX1_dropLower 7 = .ok (.istore_n 1, 1) := by decide +kernel
theorem dX1_dropLower_8 : decode cX1_dropLower 8 = .ok (.iconst 0, 1) := by decide +kernel
theorem dX1_dropLower_9 : decode cX1_dropLower 9 = .ok (.istore_n 2, 1) := by decide +kernel
theorem dX1_dropLower_10 : decode cX1_dropLower 10 = .ok (.aload_n 0, 1) := by decide +kernel
theorem dX1_dropLower_11 : decode cX1_dropLower 11 = .ok (.getfield 11, 3) := by decide +kernel
theorem dX1_dropLower_14 : decode cX1_dropLower 14 = .ok (.astore_n 3, 1) := by decide +kernel
theorem dX1_dropLower_15 : decode cX1_dropLower 15 = .ok (.aload_n 3, 1) := by decide +kernel
theorem dX1_dropLower_16 : decode cX1_dropLower 16 = .ok (.arraylength, 1) := by decide +kernel
theorem dX1_dropLower_17 : decode cX1_dropLower 17 = .ok (.istore 4, 2) := by decide +kernel
theorem dX1_dropLower_19 : decode cX1_dropLower 19 = .ok (.iconst 0, 1) := by decide +kernel
theorem dX1_dropLower_20 : decode cX1_dropLower 20 = .ok (.istore 5, 2) := by decide +kernel
theorem dX1_dropLower_22 : decode cX1_dropLower 22 = .ok (.iload 5, 2) := by decide +kernel
theorem dX1_dropLower_24 : decode cX1_dropLower 24 = .ok (.iload 4, 2) := by decide +kernel
theorem dX1_dropLower_26 : decode cX1_dropLower 26 = .ok (.if_icmp .ge 49, 3) := by decide +kernel
theorem dX1_dropLower_29 : decode cX1_dropLower 29 = .ok (.aload_n 3, 1) := by decide +kernel
theorem dX1_dropLower_30 : decode cX1_dropLower 30 = .ok (.iload 5, 2) := by decide +kernel
theorem dX1_dropLower_32 : decode cX1_dropLower 32 = .ok (.aaload, 1) := by decide +kernel
theorem dX1_dropLower_33 : decode cX1_dropLower 33 = .ok (.astore 6, 2) := by decide +kernel
theorem dX1_dropLower_35 : decode cX1_dropLower 35 = .ok (.aload 6, 2) := by decide +kernel
theorem dX1_dropLower_37 : decode cX1_dropLower 37 = .ok (.getfield 184, 3) := by decide +kernel
theorem dX1_dropLower_40 : decode cX1_dropLower 40 = .ok (.ifCond .eq 29, 3) := by decide +kernel
theorem dX1_dropLower_43 : decode cX1_dropLower 43 = .ok (.aload 6, 2) := by decide +kernel
theorem dX1_dropLower_45 : decode cX1_dropLower 45 = .ok (.getfield 149, 3) := by decide +kernel
theorem dX1_dropLower_48 : decode cX1_dropLower 48 = .ok (.iload_n 1, 1) := by decide +kernel
theorem dX1_dropLower_49 : decode cX1_dropLower 49 = .ok (.if_icmp .ge 20, 3) := by decide +kernel
theorem dX1_dropLower_52 : decode cX1_dropLower 52 = .ok (.aload 6, 2) := by decide +kernel
theorem dX1_dropLower_54 : decode cX1_dropLower 54 = .ok (.getfield 187, 3) := by decide +kernel
theorem dX1_dropLower_57 : decode cX1_dropLower 57 = .ok (.ifCond .ne 12, 3) := by decide +kernel
theorem dX1_dropLower_60 : decode cX1_dropLower 60 = .ok (.aload 6, 2) := by decide +kernel
theorem dX1_dropLower_62 : decode cX1_dropLower 62 = .ok (.iconst 1, 1) := by decide +kernel
theorem dX1_dropLower_63 : decode cX1_dropLower 63 = .ok (.putfield 187, 3) := by decide +kernel
theorem dX1_dropLower_66 : decode cX1_dropLower 66 = .ok (.iinc 2 1, 3) := by decide +kernel
theorem dX1_dropLower_69 : decode cX1_dropLower 69 = .ok (.iinc 5 1, 3) := by decide +kernel
theorem dX1_dropLower_72 : decode cX1_dropLower 72 = .ok (.goto (-50), 3) := by decide +kernel
theorem dX1_dropLower_75 : decode cX1_dropLower 75 = .ok (.iload_n 2, 1) := by decide +kernel
theorem dX1_dropLower_76 : decode cX1_dropLower 76 = .ok (.ireturn, 1) := by decide +kernel
theorem dX2_init_0 : decode cX2_init 0 = .ok (.aload_n 0, 1) := by decide +kernel
theorem dX2_init_1 : decode cX2_init 1 = .ok (.invokespecial 3, 3) := by decide +kernel
theorem dX2_init_4 : decode cX2_init 4 = .ok (.aload_n 0, 1) := by decide +kernel
theorem dX2_init_5 : decode cX2_init 5 = .ok (.iconst 4, 1) := by decide +kernel
theorem dX2_init_6 : decode cX2_init 6 = .ok (.anewarray 9, 3) := by decide +kernel
theorem dX2_init_9 : decode cX2_init 9 = .ok (.putfield 11, 3) := by decide +kernel
theorem dX2_init_12 : decode cX2_init 12 = .ok (.iconst 0, 1) := by decide +kernel
theorem dX2_init_13 : decode cX2_init 13 = .ok (.istore_n 1, 1) := by decide +kernel
theorem dX2_init_14 : decode cX2_init 14 = .ok (.iload_n 1, 1) := by decide +kernel
theorem dX2_init_15 : decode cX2_init 15 = .ok (.iconst 4, 1) := by decide +kernel
theorem dX2_init_16 : decode cX2_init 16 = .ok (.if_icmp .ge 22, 3) := by decide +kernel
theorem dX2_init_19 : decode cX2_init 19 = .ok (.aload_n 0, 1) := by decide +kernel
theorem dX2_init_20 : decode cX2_init 20 = .ok (.getfield 11, 3) := by decide +kernel
theorem dX2_init_23 : decode cX2_init 23 = .ok (.iload_n 1, 1) := by decide +kernel
theorem dX2_init_24 : decode cX2_init 24 = .ok (.new 9, 3) := by decide +kernel
theorem dX2_init_27 : decode cX2_init 27 = .ok (.dup, 1) := by decide +kernel
theorem dX2_init_28 : decode cX2_init 28 = .ok (.invokespecial 17, 3) := by decide +kernel
theorem dX2_init_31 : decode cX2_init 31 = .ok (.aastore, 1) := by decide +kernel
theorem dX2_init_32 : decode cX2_init 32 = .ok (.iinc 1 1, 3) := by decide +kernel
theorem dX2_init_35 : decode cX2_init 35 = .ok (.goto (-21), 3) := by decide +kernel
theorem dX2_init_38 : decode cX2_init 38 = .ok (.return_, 1) := by decide +kernel
theorem dX2_validator_0 : decode cX2_validator 0 = .ok (.aload_n 0, 1) := by decide +kernel
theorem dX2_validator_1 : decode cX2_validator 1 = .ok (.getfield 11, 3) := by decide +kernel
theorem dX2_validator_4 : decode cX2_validator 4 = .ok (.iload_n 1, 1) := by decide +kernel
theorem dX2_validator_5 : decode cX2_validator 5 = .ok (.ifCond .lt 12, 3) := by decide +kernel
theorem dX2_validator_8 : decode cX2_validator 8 = .ok (.iload_n 1, 1) := by decide +kernel
theorem dX2_validator_9 : decode cX2_validator 9 = .ok (.iconst 4, 1) := by decide +kernel
theorem dX2_validator_10 : decode cX2_validator 10 = .ok (.if_icmp .ge 7, 3) := by decide +kernel
theorem dX2_validator_13 : decode cX2_validator 13 = .ok (.iload_n 1, 1) := by decide +kernel
theorem dX2_validator_14 : decode cX2_validator 14 = .ok (.goto 4, 3) := by decide +kernel
theorem dX2_validator_17 : decode cX2_validator 17 = .ok (.iconst 0, 1) := by decide +kernel
theorem dX2_validator_18 : decode cX2_validator 18 = .ok (.aaload, 1) := by decide +kernel
theorem dX2_validator_19 : decode cX2_validator 19 = .ok (.areturn, 1) := by decide +kernel
theorem dX2_settle_0 : decode cX2_settle 0 = .ok (.iconst 1, 1) := by decide +kernel
theorem dX2_settle_1 : decode cX2_settle 1 = .ok (.istore_n 2, 1) := by decide +kernel
theorem dX2_settle_2 : decode cX2_settle 2 = .ok (.iconst 0, 1) := by decide +kernel
theorem dX2_settle_3 : decode cX2_settle 3 = .ok (.istore_n 3, 1) := by decide +kernel
theorem dX2_settle_4 : decode cX2_settle 4 = .ok (.iload_n 2, 1) := by decide +kernel
theorem dX2_settle_5 : decode cX2_settle 5 = .ok (.ifCond .eq 21, 3) := by decide +kernel
theorem dX2_settle_8 : decode cX2_settle 8 = .ok (.iload_n 3, 1) := by decide +kernel
theorem dX2_settle_9 : decode cX2_settle 9 = .ok (.bipush 100, 2) := by decide +kernel
theorem dX2_settle_11 : decode cX2_settle 11 = .ok (.if_icmp .ge 15, 3) := by decide +kernel
theorem dX2_settle_14 : decode cX2_settle 14 = .ok (.aload_n 0, 1) := by decide +kernel
theorem dX2_settle_15 : decode cX2_settle 15 = .ok (.aload_n 1, 1) := by decide +kernel
theorem dX2_settle_16 : decode cX2_settle 16 = .ok (.invokevirtual 18, 3) := by decide +kernel
theorem dX2_settle_19 : decode cX2_settle 19 = .ok (.istore_n 2, 1) := by decide +kernel
theorem dX2_settle_20 : decode cX2_settle 20 = .ok (.iinc 3 1, 3) := by decide +kernel
theorem dX2_settle_23 : decode cX2_settle 23 = .ok (.goto (-19), 3) := by decide +kernel
theorem dX2_settle_26 : decode cX2_settle 26 = .ok (.aload_n 0, 1) := by decide +kernel
theorem dX2_settle_27 : decode cX2_settle 27 = .ok (.aload_n 1, 1) := by decide +kernel
theorem dX2_settle_28 : decode cX2_settle 28 = .ok (.invokevirtual 22, 3) := by decide +kernel
theorem dX2_settle_31 : decode cX2_settle 31 = .ok (.return_, 1) := by decide +kernel
theorem dX2_justifyOne_0 : decode cX2_justifyOne 0 = .ok (.aload_n 0, 1) := by decide +kernel
theorem dX2_justifyOne_1 : decode cX2_justifyOne 1 = .ok (.getfield 11, 3) := by decide +kernel
theorem dX2_justifyOne_4 : decode cX2_justifyOne 4 = .ok (.astore_n 2, 1) := by decide +kernel
theorem dX2_justifyOne_5 : decode cX2_justifyOne 5 = .ok (.aload_n 2, 1) := by decide +kernel
theorem dX2_justifyOne_6 : decode cX2_justifyOne 6 = .ok (.arraylength, 1) := by decide +kernel
theorem dX2_justifyOne_7 : decode cX2_justifyOne 7 = .ok (.istore_n 3, 1) := by decide +kernel
theorem dX2_justifyOne_8 : decode cX2_justifyOne 8 = .ok (.iconst 0, 1) := by decide +kernel
theorem dX2_justifyOne_9 : decode cX2_justifyOne 9 = .ok (.istore 4, 2) := by decide +kernel
theorem dX2_justifyOne_11 : decode cX2_justifyOne 11 = .ok (.iload 4, 2) := by decide +kernel
theorem dX2_justifyOne_13 : decode cX2_justifyOne 13 = .ok (.iload_n 3, 1) := by decide +kernel
theorem dX2_justifyOne_14 : decode cX2_justifyOne 14 = .ok (.if_icmp .ge 51, 3) := by decide +kernel
theorem dX2_justifyOne_17 : decode cX2_justifyOne 17 = .ok (.aload_n 2, 1) := by decide +kernel
theorem dX2_justifyOne_18 : decode cX2_justifyOne 18 = .ok (.iload 4, 2) := by decide +kernel
theorem dX2_justifyOne_20 : decode cX2_justifyOne 20 = .ok (.aaload, 1) := by decide +kernel
theorem dX2_justifyOne_21 : decode cX2_justifyOne 21 = .ok (.astore 5, 2) := by decide +kernel
theorem dX2_justifyOne_23 : decode cX2_justifyOne 23 = .ok (.iconst 0, 1) := by decide +kernel
theorem dX2_justifyOne_24 : decode cX2_justifyOne 24 = .ok (.istore 6, 2) := by decide +kernel
theorem dX2_justifyOne_26 : decode cX2_justifyOne 26 = .ok (.iload 6, 2) := by decide +kernel
theorem dX2_justifyOne_28 : decode cX2_justifyOne 28 = .ok (.aload 5, 2) := by decide +kernel
theorem dX2_justifyOne_30 : decode cX2_justifyOne 30 = .ok (.invokevirtual 26, 3) := by decide +kernel
theorem dX2_justifyOne_33 : decode cX2_justifyOne 33 = .ok (.if_icmp .ge 26, 3) := by decide +kernel
theorem dX2_justifyOne_36 : decode cX2_justifyOne 36 = .ok (.aload_n 0, 1) := by decide +kernel
theorem dX2_justifyOne_37 : decode cX2_justifyOne 37 = .ok (.aload_n 1, 1) := by decide +kernel
theorem dX2_justifyOne_38 : decode cX2_justifyOne 38 = .ok (.aload 5, 2) := by decide +kernel
theorem dX2_justifyOne_40 : decode cX2_justifyOne 40 = .ok (.iload 6, 2) := by decide +kernel
theorem dX2_justifyOne_42 : decode cX2_justifyOne 42 = .ok (.invokevirtual 30, 3) := by decide +kernel
theorem dX2_justifyOne_45 : decode cX2_justifyOne 45 = .ok (.invokevirtual 34, 3) := by decide +kernel
theorem dX2_justifyOne_48 : decode cX2_justifyOne 48 = .ok (.ifCond .eq 5, 3) := by decide +kernel
theorem dX2_justifyOne_51 : decode cX2_justifyOne 51 = .ok (.iconst 1, 1) := by decide +kernel
theorem dX2_justifyOne_52 : decode cX2_justifyOne 52 = .ok (.ireturn, 1) := by decide +kernel
theorem dX2_justifyOne_53 : decode cX2_justifyOne 53 = .ok (.iinc 6 1, 3) := by decide +kernel
theorem dX2_justifyOne_56 : decode cX2_justifyOne 56 = .ok (.goto (-30), 3) := by decide +kernel
theorem dX2_justifyOne_59 : decode cX2_justifyOne 59 = .ok (.iinc 4 1, 3) := by decide +kernel
theorem dX2_justifyOne_62 : decode cX2_justifyOne 62 = .ok (.goto (-51), 3) := by decide +kernel
theorem dX2_justifyOne_65 : decode cX2_justifyOne 65 = .ok (.iconst 0, 1) := by decide +kernel
theorem dX2_justifyOne_66 : decode cX2_justifyOne 66 = .ok (.ireturn, 1) := by decide +kernel
theorem dX2_justify_0 : decode cX2_justify 0 = .ok (.aload_n 2, 1) := by decide +kernel
theorem dX2_justify_1 : decode cX2_justify 1 = .ok (.getfield 38, 3) := by decide +kernel
theorem dX2_justify_4 : decode cX2_justify 4 = .ok (.istore_n 3, 1) := by decide +kernel
theorem dX2_justify_5 : decode cX2_justify 5 = .ok (.aload_n 2, 1) := by decide +kernel
theorem dX2_justify_6 : decode cX2_justify 6 = .ok (.getfield 44, 3) := by decide +kernel
theorem dX2_justify_9 : decode cX2_justify 9 = .ok (.istore 4, 2) := by decide +kernel
theorem dX2_justify_11 : decode cX2_justify 11 = .ok (.iload_n 3, 1) := by decide +kernel
theorem dX2_justify_12 : decode cX2_justify 12 = .ok (.ifCond .lt 21, 3) := by decide +kernel
theorem dX2_justify_15 : decode cX2_justify 15 = .ok (.iload_n 3, 1) := by decide +kernel
theorem dX2_justify_16 : decode cX2_justify 16 = .ok (.aload_n 1, 1) := by decide +kernel
theorem dX2_justify_17 : decode cX2_justify 17 = .ok (.arraylength, 1) := by decide +kernel
theorem dX2_justify_18 : decode cX2_justify 18 = .ok (.if_icmp .ge 15, 3) := by decide +kernel
theorem dX2_justify_21 : decode cX2_justify 21 = .ok (.iload 4, 2) := by decide +kernel
theorem dX2_justify_23 : decode cX2_justify 23 = .ok (.ifCond .lt 10, 3) := by decide +kernel
theorem dX2_justify_26 : decode cX2_justify 26 = .ok (.iload 4, 2) := by decide +kernel
theorem dX2_justify_28 : decode cX2_justify 28 = .ok (.aload_n 1, 1) := by decide +kernel
theorem dX2_justify_29 : decode cX2_justify 29 = .ok (.arraylength, 1) := by decide +kernel
theorem dX2_justify_30 : decode cX2_justify 30 = .ok (.if_icmp .lt 5, 3) := by decide +kernel
theorem dX2_justify_33 : decode cX2_justify 33 = .ok (.iconst 0, 1) := by decide +kernel
theorem dX2_justify_34 : decode cX2_justify 34 = .ok (.ireturn, 1) := by decide +kernel
theorem dX2_justify_35 : decode cX2_justify 35 = .ok (.aload_n 1, 1) := by decide +kernel
theorem dX2_justify_36 : decode cX2_justify 36 = .ok (.iload_n 3, 1) := by decide +kernel
theorem dX2_justify_37 : decode cX2_justify 37 = .ok (.aaload, 1) := by decide +kernel
theorem dX2_justify_38 : decode cX2_justify 38 = .ok (.getfield 47, 3) := by decide +kernel
theorem dX2_justify_41 : decode cX2_justify 41 = .ok (.iload 4, 2) := by decide +kernel
theorem dX2_justify_43 : decode cX2_justify 43 = .ok (.ishr, 1) := by decide +kernel
theorem dX2_justify_44 : decode cX2_justify 44 = .ok (.iconst 1, 1) := by decide +kernel
theorem dX2_justify_45 : decode cX2_justify 45 = .ok (.iand, 1) := by decide +kernel
theorem dX2_justify_46 : decode cX2_justify 46 = .ok (.iconst 1, 1) := by decide +kernel
theorem dX2_justify_47 : decode cX2_justify 47 = .ok (.if_icmp .ne 7, 3) := by decide +kernel
theorem dX2_justify_50 : decode cX2_justify 50 = .ok (.iconst 1, 1) := by decide +kernel
theorem dX2_justify_51 : decode cX2_justify 51 = .ok (.goto 4, 3) := by decide +kernel
theorem dX2_justify_54 : decode cX2_justify 54 = .ok (.iconst 0, 1) := by decide +kernel
theorem dX2_justify_55 : decode cX2_justify 55 = .ok (.istore 5, 2) := by decide +kernel
theorem dX2_justify_57 : decode cX2_justify 57 = .ok (.iload 5, 2) := by decide +kernel
theorem dX2_justify_59 : decode cX2_justify 59 = .ok (.ifCond .ne 20, 3) := by decide +kernel
theorem dX2_justify_62 : decode cX2_justify 62 = .ok (.aload_n 1, 1) := by decide +kernel
theorem dX2_justify_63 : decode cX2_justify 63 = .ok (.iload_n 3, 1) := by decide +kernel
theorem dX2_justify_64 : decode cX2_justify 64 = .ok (.aaload, 1) := by decide +kernel
theorem dX2_justify_65 : decode cX2_justify 65 = .ok (.getfield 52, 3) := by decide +kernel
theorem dX2_justify_68 : decode cX2_justify 68 = .ok (.ifCond .eq 11, 3) := by decide +kernel
theorem dX2_justify_71 : decode cX2_justify 71 = .ok (.aload_n 0, 1) := by decide +kernel
theorem dX2_justify_72 : decode cX2_justify 72 = .ok (.aload_n 2, 1) := by decide +kernel
theorem dX2_justify_73 : decode cX2_justify 73 = .ok (.invokevirtual 56, 3) := by decide +kernel
theorem dX2_justify_76 : decode cX2_justify 76 = .ok (.ifCond .ne 5, 3) := by decide +kernel
theorem dX2_justify_79 : decode cX2_justify 79 = .ok (.iconst 0, 1) := by decide +kernel
theorem dX2_justify_80 : decode cX2_justify 80 = .ok (.ireturn, 1) := by decide +kernel
theorem dX2_justify_81 : decode cX2_justify 81 = .ok (.aload_n 1, 1) := by decide +kernel
theorem dX2_justify_82 : decode cX2_justify 82 = .ok (.iload_n 3, 1) := by decide +kernel
theorem dX2_justify_83 : decode cX2_justify 83 = .ok (.aaload, 1) := by decide +kernel
theorem dX2_justify_84 : decode cX2_justify 84 = .ok (.dup, 1) := by decide +kernel
theorem dX2_justify_85 : decode cX2_justify 85 = .ok (.getfield 47, 3) := by decide +kernel
theorem dX2_justify_88 : decode cX2_justify 88 = .ok (.iconst 1, 1) := by decide +kernel
theorem dX2_justify_89 : decode cX2_justify 89 = .ok (.iload 4, 2) := by decide +kernel
theorem dX2_justify_91 : decode cX2_justify 91 = .ok (.ishl, 1) := by decide +kernel
theorem dX2_justify_92 : decode cX2_justify 92 = .ok (.ior, 1) := by decide +kernel
theorem dX2_justify_93 : decode cX2_justify 93 = .ok (.putfield 47, 3) := by decide +kernel
theorem dX2_justify_96 : decode cX2_justify 96 = .ok (.aload_n 1, 1) := by decide +kernel
theorem dX2_justify_97 : decode cX2_justify 97 = .ok (.iload 4, 2) := by decide +kernel
theorem dX2_justify_99 : decode cX2_justify 99 = .ok (.aaload, 1) := by decide +kernel
theorem dX2_justify_100 : decode cX2_justify 100 = .ok (.iconst 1, 1) := by decide +kernel
theorem dX2_justify_101 : decode cX2_justify 101 = .ok (.putfield 52, 3) := by decide +kernel
theorem dX2_justify_104 : decode cX2_justify 104 = .ok (.iconst 1, 1) := by decide +kernel
theorem dX2_justify_105 : decode cX2_justify 105 = .ok (.ireturn, 1) := by decide +kernel
theorem dX2_carries_0 : decode cX2_carries 0 = .ok (.iconst 0, 1) := by decide +kernel
theorem dX2_carries_1 : decode cX2_carries 1 = .ok (.istore_n 2, 1) := by decide +kernel
theorem dX2_carries_2 : decode cX2_carries 2 = .ok (.iconst 0, 1) := by decide +kernel
theorem dX2_carries_3 : decode cX2_carries 3 = .ok (.istore_n 3, 1) := by decide +kernel
theorem dX2_carries_4 : decode cX2_carries 4 = .ok (.aload_n 0, 1) := by decide +kernel
theorem dX2_carries_5 : decode cX2_carries 5 = .ok (.getfield 11, 3) := by decide +kernel
theorem dX2_carries_8 : decode cX2_carries 8 = .ok (.astore 4, 2) := by decide +kernel
theorem dX2_carries_10 : decode cX2_carries 10 = .ok (.aload 4, 2) := by decide +kernel
theorem dX2_carries_12 : decode cX2_carries 12 = .ok (.arraylength, 1) := by decide +kernel
theorem dX2_carries_13 : decode cX2_carries 13 = .ok (.istore 5, 2) := by decide +kernel
theorem dX2_carries_15 : decode cX2_carries 15 = .ok (.iconst 0, 1) := by decide +kernel
theorem dX2_carries_16 : decode cX2_carries 16 = .ok (.istore 6, 2) := by decide +kernel
theorem dX2_carries_18 : decode cX2_carries 18 = .ok (.iload 6, 2) := by decide +kernel
theorem dX2_carries_20 : decode cX2_carries 20 = .ok (.iload 5, 2) := by decide +kernel
theorem dX2_carries_22 : decode cX2_carries 22 = .ok (.if_icmp .ge 45, 3) := by decide +kernel
theorem dX2_carries_25 : decode cX2_carries 25 = .ok (.aload 4, 2) := by decide +kernel
theorem dX2_carries_27 : decode cX2_carries 27 = .ok (.iload 6, 2) := by decide +kernel
theorem dX2_carries_29 : decode cX2_carries 29 = .ok (.aaload, 1) := by decide +kernel
theorem dX2_carries_30 : decode cX2_carries 30 = .ok (.astore 7, 2) := by decide +kernel
theorem dX2_carries_32 : decode cX2_carries 32 = .ok (.iload_n 2, 1) := by decide +kernel
theorem dX2_carries_33 : decode cX2_carries 33 = .ok (.aload 7, 2) := by decide +kernel
theorem dX2_carries_35 : decode cX2_carries 35 = .ok (.invokevirtual 60, 3) := by decide +kernel
theorem dX2_carries_38 : decode cX2_carries 38 = .ok (.iadd, 1) := by decide +kernel
theorem dX2_carries_39 : decode cX2_carries 39 = .ok (.istore_n 2, 1) := by decide +kernel
theorem dX2_carries_40 : decode cX2_carries 40 = .ok (.iload_n 3, 1) := by decide +kernel
theorem dX2_carries_41 : decode cX2_carries 41 = .ok (.aload 7, 2) := by decide +kernel
theorem dX2_carries_43 : decode cX2_carries 43 = .ok (.aload_n 1, 1) := by decide +kernel
theorem dX2_carries_44 : decode cX2_carries 44 = .ok (.invokevirtual 63, 3) := by decide +kernel
theorem dX2_carries_47 : decode cX2_carries 47 = .ok (.ifCond .eq 11, 3) := by decide +kernel
theorem dX2_carries_50 : decode cX2_carries 50 = .ok (.aload 7, 2) := by decide +kernel
theorem dX2_carries_52 : decode cX2_carries 52 = .ok (.invokevirtual 60, 3) := by decide +kernel
theorem dX2_carries_55 : decode cX2_carries 55 = .ok (.goto 4, 3) := by decide +kernel
theorem dX2_carries_58 : decode cX2_carries 58 = .ok (.iconst 0, 1) := by decide +kernel
theorem dX2_carries_59 : decode cX2_carries 59 = .ok (.iadd, 1) := by decide +kernel
theorem dX2_carries_60 : decode cX2_carries 60 = .ok (.istore_n 3, 1) := by decide +kernel
theorem dX2_carries_61 : decode cX2_carries 61 = .ok (.iinc 6 1, 3) := by decide +kernel
theorem dX2_carries_64 : decode cX2_carries 64 = .ok (.goto (-46), 3) := by decide +kernel
theorem dX2_carries_67 : decode cX2_carries 67 = .ok (.iconst 3, 1) := by decide +kernel
theorem dX2_carries_68 : decode cX2_carries 68 = .ok (.iload_n 3, 1) := by decide +kernel
theorem dX2_carries_69 : decode cX2_carries 69 = .ok (.imul, 1) := by decide +kernel
theorem dX2_carries_70 : decode cX2_carries 70 = .ok (.iconst 2, 1) := by decide +kernel
theorem dX2_carries_71 : decode cX2_carries 71 = .ok (.iload_n 2, 1) := by decide +kernel
theorem dX2_carries_72 : decode cX2_carries 72 = .ok (.imul, 1) := by decide +kernel
theorem dX2_carries_73 : decode cX2_carries 73 = .ok (.if_icmp .lt 7, 3) := by decide +kernel
theorem dX2_carries_76 : decode cX2_carries 76 = .ok (.iconst 1, 1) := by decide +kernel
theorem dX2_carries_77 : decode cX2_carries 77 = .ok (.goto 4, 3) := by decide +kernel
theorem dX2_carries_80 : decode cX2_carries 80 = .ok (.iconst 0, 1) := by decide +kernel
theorem dX2_carries_81 : decode cX2_carries 81 = .ok (.ireturn, 1) := by decide +kernel
theorem dX2_moveFinal_0 : decode cX2_moveFinal 0 = .ok (.aload_n 0, 1) := by decide +kernel
theorem dX2_moveFinal_1 : decode cX2_moveFinal 1 = .ok (.getfield 66, 3) := by decide +kernel
theorem dX2_moveFinal_4 : decode cX2_moveFinal 4 = .ok (.ifCond .lt 12, 3) := by decide +kernel
theorem dX2_moveFinal_7 : decode cX2_moveFinal 7 = .ok (.aload_n 0, 1) := by decide +kernel
theorem dX2_moveFinal_8 : decode cX2_moveFinal 8 = .ok (.getfield 66, 3) := by decide +kernel
theorem dX2_moveFinal_11 : decode cX2_moveFinal 11 = .ok (.aload_n 1, 1) := by decide +kernel
theorem dX2_moveFinal_12 : decode cX2_moveFinal 12 = .ok (.arraylength, 1) := by decide +kernel
theorem dX2_moveFinal_13 : decode cX2_moveFinal 13 = .ok (.if_icmp .lt 4, 3) := by decide +kernel
theorem dX2_moveFinal_16 : decode cX2_moveFinal 16 = .ok (.return_, 1) := by decide +kernel
theorem dX2_moveFinal_17 : decode cX2_moveFinal 17 = .ok (.aload_n 1, 1) := by decide +kernel
theorem dX2_moveFinal_18 : decode cX2_moveFinal 18 = .ok (.aload_n 0, 1) := by decide +kernel
theorem dX2_moveFinal_19 : decode cX2_moveFinal 19 = .ok (.getfield 66, 3) := by decide +kernel
theorem dX2_moveFinal_22 : decode cX2_moveFinal 22 = .ok (.aaload, 1) := by decide +kernel
theorem dX2_moveFinal_23 : decode cX2_moveFinal 23 = .ok (.astore_n 2, 1) := by decide +kernel
theorem dX2_moveFinal_24 : decode cX2_moveFinal 24 = .ok (.aload_n 2, 1) := by decide +kernel
theorem dX2_moveFinal_25 : decode cX2_moveFinal 25 = .ok (.astore_n 3, 1) := by decide +kernel
theorem dX2_moveFinal_26 : decode cX2_moveFinal 26 = .ok (.aload_n 1, 1) := by decide +kernel
theorem dX2_moveFinal_27 : decode cX2_moveFinal 27 = .ok (.astore 4, 2) := by decide +kernel
theorem dX2_moveFinal_29 : decode cX2_moveFinal 29 = .ok (.aload 4, 2) := by decide +kernel
theorem dX2_moveFinal_31 : decode cX2_moveFinal 31 = .ok (.arraylength, 1) := by decide +kernel
theorem dX2_moveFinal_32 : decode cX2_moveFinal 32 = .ok (.istore 5, 2) := by decide +kernel
theorem dX2_moveFinal_34 : decode cX2_moveFinal 34 = .ok (.iconst 0, 1) := by decide +kernel
theorem dX2_moveFinal_35 : decode cX2_moveFinal 35 = .ok (.istore 6, 2) := by decide +kernel
theorem dX2_moveFinal_37 : decode cX2_moveFinal 37 = .ok (.iload 6, 2) := by decide +kernel
theorem dX2_moveFinal_39 : decode cX2_moveFinal 39 = .ok (.iload 5, 2) := by decide +kernel
theorem dX2_moveFinal_41 : decode cX2_moveFinal 41 = .ok (.if_icmp .ge 49, 3) := by decide +kernel
theorem dX2_moveFinal_44 : decode cX2_moveFinal 44 = .ok (.aload 4, 2) := by decide +kernel
theorem dX2_moveFinal_46 : decode cX2_moveFinal 46 = .ok (.iload 6, 2) := by decide +kernel
theorem dX2_moveFinal_48 : decode cX2_moveFinal 48 = .ok (.aaload, 1) := by decide +kernel
theorem dX2_moveFinal_49 : decode cX2_moveFinal 49 = .ok (.astore 7, 2) := by decide +kernel
theorem dX2_moveFinal_51 : decode cX2_moveFinal 51 = .ok (.aload 7, 2) := by decide +kernel
theorem dX2_moveFinal_53 : decode cX2_moveFinal 53 = .ok (.aload_n 2, 1) := by decide +kernel
theorem dX2_moveFinal_54 : decode cX2_moveFinal 54 = .ok (.invokevirtual 69, 3) := by decide +kernel
theorem dX2_moveFinal_57 : decode cX2_moveFinal 57 = .ok (.ifCond .eq 27, 3) := by decide +kernel
theorem dX2_moveFinal_60 : decode cX2_moveFinal 60 = .ok (.aload 7, 2) := by decide +kernel
theorem dX2_moveFinal_62 : decode cX2_moveFinal 62 = .ok (.getfield 73, 3) := by decide +kernel
theorem dX2_moveFinal_65 : decode cX2_moveFinal 65 = .ok (.aload_n 3, 1) := by decide +kernel
theorem dX2_moveFinal_66 : decode cX2_moveFinal 66 = .ok (.getfield 73, 3) := by decide +kernel
theorem dX2_moveFinal_69 : decode cX2_moveFinal 69 = .ok (.if_icmp .le 15, 3) := by decide +kernel
theorem dX2_moveFinal_72 : decode cX2_moveFinal 72 = .ok (.aload_n 1, 1) := by decide +kernel
theorem dX2_moveFinal_73 : decode cX2_moveFinal 73 = .ok (.aload 7, 2) := by decide +kernel
theorem dX2_moveFinal_75 : decode cX2_moveFinal 75 = .ok (.invokestatic 76, 3) := by decide +kernel
theorem dX2_moveFinal_78 : decode cX2_moveFinal 78 = .ok (.ifCond .eq 6, 3) := by decide +kernel
theorem dX2_moveFinal_81 : decode cX2_moveFinal 81 = .ok (.aload 7, 2) := by decide +kernel
theorem dX2_moveFinal_83 : decode cX2_moveFinal 83 = .ok (.astore_n 3, 1) := by decide +kernel
theorem dX2_moveFinal_84 : decode cX2_moveFinal 84 = .ok (.iinc 6 1, 3) := by decide +kernel
theorem dX2_moveFinal_87 : decode cX2_moveFinal 87 = .ok (.goto (-50), 3) := by decide +kernel
theorem dX2_moveFinal_90 : decode cX2_moveFinal 90 = .ok (.aload_n 0, 1) := by decide +kernel
theorem dX2_moveFinal_91 : decode cX2_moveFinal 91 = .ok (.aload_n 3, 1) := by decide +kernel
theorem dX2_moveFinal_92 : decode cX2_moveFinal 92 = .ok (.getfield 80, 3) := by decide +kernel
theorem dX2_moveFinal_95 : decode cX2_moveFinal 95 = .ok (.putfield 66, 3) := by decide +kernel
theorem dX2_moveFinal_98 : decode cX2_moveFinal 98 = .ok (.return_, 1) := by decide +kernel
theorem dX2_justifiesNext_0 : decode cX2_justifiesNext 0 = .ok (.aload_n 0, 1) := by decide +kernel
theorem dX2_justifiesNext_1 : decode cX2_justifiesNext 1 = .ok (.astore_n 2, 1) := by decide +kernel
theorem dX2_justifiesNext_2 : decode cX2_justifiesNext 2 = .ok (.aload_n 2, 1) := by decide +kernel
theorem dX2_justifiesNext_3 : decode cX2_justifiesNext 3 = .ok (.arraylength, 1) := by decide +kernel
theorem dX2_justifiesNext_4 : decode cX2_justifiesNext 4 = .ok (.istore_n 3, 1) := by decide +kernel
theorem dX2_justifiesNext_5 : decode cX2_justifiesNext 5 = .ok (.iconst 0, 1) := by decide +kernel
theorem dX2_justifiesNext_6 : decode cX2_justifiesNext 6 = .ok (.istore 4, 2) := by decide +kernel
theorem dX2_justifiesNext_8 : decode cX2_justifiesNext 8 = .ok (.iload 4, 2) := by decide +kernel
theorem dX2_justifiesNext_10 : decode cX2_justifiesNext 10 = .ok (.iload_n 3, 1) := by decide +kernel
theorem dX2_justifiesNext_11 : decode cX2_justifiesNext 11 = .ok (.if_icmp .ge 47, 3) := by decide +kernel
theorem dX2_justifiesNext_14 : decode cX2_justifiesNext 14 = .ok (.aload_n 2, 1) := by decide +kernel
theorem dX2_justifiesNext_15 : decode cX2_justifiesNext 15 = .ok (.iload 4, 2) := by decide +kernel
theorem dX2_justifiesNext_17 : decode cX2_justifiesNext 17 = .ok (.aaload, 1) := by decide +kernel
theorem dX2_justifiesNext_18 : decode cX2_justifiesNext 18 = .ok (.astore 5, 2) := by decide +kernel
theorem dX2_justifiesNext_20 : decode cX2_justifiesNext 20 = .ok (.aload_n 1, 1) := by decide +kernel
theorem dX2_justifiesNext_21 : decode cX2_justifiesNext 21 = .ok (.getfield 47, 3) := by decide +kernel
theorem dX2_justifiesNext_24 : decode cX2_justifiesNext 24 = .ok (.aload 5, 2) := by decide +kernel
theorem dX2_justifiesNext_26 : decode cX2_justifiesNext 26 = .ok (.getfield 80, 3) := by decide +kernel
theorem dX2_justifiesNext_29 : decode cX2_justifiesNext 29 = .ok (.ishr, 1) := by decide +kernel
theorem dX2_justifiesNext_30 : decode cX2_justifiesNext 30 = .ok (.iconst 1, 1) := by decide +kernel
theorem dX2_justifiesNext_31 : decode cX2_justifiesNext 31 = .ok (.iand, 1) := by decide +kernel
theorem dX2_justifiesNext_32 : decode cX2_justifiesNext 32 = .ok (.iconst 1, 1) := by decide +kernel
theorem dX2_justifiesNext_33 : decode cX2_justifiesNext 33 = .ok (.if_icmp .ne 19, 3) := by decide +kernel
theorem dX2_justifiesNext_36 : decode cX2_justifiesNext 36 = .ok (.aload 5, 2) := by decide +kernel
theorem dX2_justifiesNext_38 : decode cX2_justifiesNext 38 = .ok (.getfield 73, 3) := by decide +kernel
theorem dX2_justifiesNext_41 : decode cX2_justifiesNext 41 = .ok (.aload_n 1, 1) := by decide +kernel
theorem dX2_justifiesNext_42 : decode cX2_justifiesNext 42 = .ok (.getfield 73, 3) := by decide +kernel
theorem dX2_justifiesNext_45 : decode cX2_justifiesNext 45 = .ok (.iconst 1, 1) := by decide +kernel
theorem dX2_justifiesNext_46 : decode cX2_justifiesNext 46 = .ok (.iadd, 1) := by decide +kernel
theorem dX2_justifiesNext_47 : decode cX2_justifiesNext 47 = .ok (.if_icmp .ne 5, 3) := by decide +kernel
theorem dX2_justifiesNext_50 : decode cX2_justifiesNext 50 = .ok (.iconst 1, 1) := by decide +kernel
theorem dX2_justifiesNext_51 : decode cX2_justifiesNext 51 = .ok (.ireturn, 1) := by decide +kernel
theorem dX2_justifiesNext_52 : decode cX2_justifiesNext 52 = .ok (.iinc 4 1, 3) := by decide +kernel
theorem dX2_justifiesNext_55 : decode cX2_justifiesNext 55 = .ok (.goto (-47), 3) := by decide +kernel
theorem dX2_justifiesNext_58 : decode cX2_justifiesNext 58 = .ok (.iconst 0, 1) := by decide +kernel
theorem dX2_justifiesNext_59 : decode cX2_justifiesNext 59 = .ok (.ireturn, 1) := by decide +kernel
theorem dX3_init_0 : decode cX3_init 0 = .ok (.aload_n 0, 1) := by decide +kernel
theorem dX3_init_1 : decode cX3_init 1 = .ok (.invokespecial 3, 3) := by decide +kernel
theorem dX3_init_4 : decode cX3_init 4 = .ok (.aload_n 0, 1) := by decide +kernel
theorem dX3_init_5 : decode cX3_init 5 = .ok (.bipush 16, 2) := by decide +kernel
theorem dX3_init_7 : decode cX3_init 7 = .ok (.newarray .int, 2) := by decide +kernel
theorem dX3_init_9 : decode cX3_init 9 = .ok (.putfield 9, 3) := by decide +kernel
theorem dX3_init_12 : decode cX3_init 12 = .ok (.aload_n 0, 1) := by decide +kernel
theorem dX3_init_13 : decode cX3_init 13 = .ok (.bipush 16, 2) := by decide +kernel
theorem dX3_init_15 : decode cX3_init 15 = .ok (.newarray .int, 2) := by decide +kernel
theorem dX3_init_17 : decode cX3_init 17 = .ok (.putfield 15, 3) := by decide +kernel
theorem dX3_init_20 : decode cX3_init 20 = .ok (.aload_n 0, 1) := by decide +kernel
theorem dX3_init_21 : decode cX3_init 21 = .ok (.new 18, 3) := by decide +kernel
theorem dX3_init_24 : decode cX3_init 24 = .ok (.dup, 1) := by decide +kernel
theorem dX3_init_25 : decode cX3_init 25 = .ok (.invokespecial 20, 3) := by decide +kernel
theorem dX3_init_28 : decode cX3_init 28 = .ok (.putfield 21, 3) := by decide +kernel
theorem dX3_init_31 : decode cX3_init 31 = .ok (.return_, 1) := by decide +kernel
theorem dX3_open_0 : decode cX3_open 0 = .ok (.aload_n 0, 1) := by decide +kernel
theorem dX3_open_1 : decode cX3_open 1 = .ok (.iload_n 1, 1) := by decide +kernel
theorem dX3_open_2 : decode cX3_open 2 = .ok (.putfield 25, 3) := by decide +kernel
theorem dX3_open_5 : decode cX3_open 5 = .ok (.aload_n 0, 1) := by decide +kernel
theorem dX3_open_6 : decode cX3_open 6 = .ok (.iload_n 2, 1) := by decide +kernel
theorem dX3_open_7 : decode cX3_open 7 = .ok (.putfield 29, 3) := by decide +kernel
theorem dX3_open_10 : decode cX3_open 10 = .ok (.aload_n 0, 1) := by decide +kernel
theorem dX3_open_11 : decode cX3_open 11 = .ok (.iload_n 3, 1) := by decide +kernel
theorem dX3_open_12 : decode cX3_open 12 = .ok (.putfield 32, 3) := by decide +kernel
theorem dX3_open_15 : decode cX3_open 15 = .ok (.aload_n 0, 1) := by decide +kernel
theorem dX3_open_16 : decode cX3_open 16 = .ok (.iload 4, 2) := by decide +kernel
theorem dX3_open_18 : decode cX3_open 18 = .ok (.putfield 35, 3) := by decide +kernel
theorem dX3_open_21 : decode cX3_open 21 = .ok (.aload_n 0, 1) := by decide +kernel
theorem dX3_open_22 : decode cX3_open 22 = .ok (.iload 5, 2) := by decide +kernel
theorem dX3_open_24 : decode cX3_open 24 = .ok (.putfield 38, 3) := by decide +kernel
theorem dX3_open_27 : decode cX3_open 27 = .ok (.aload_n 0, 1) := by decide +kernel
theorem dX3_open_28 : decode cX3_open 28 = .ok (.iconst 0, 1) := by decide +kernel
theorem dX3_open_29 : decode cX3_open 29 = .ok (.putfield 41, 3) := by decide +kernel
theorem dX3_open_32 : decode cX3_open 32 = .ok (.aload_n 0, 1) := by decide +kernel
theorem dX3_open_33 : decode cX3_open 33 = .ok (.iconst 0, 1) := by decide +kernel
theorem dX3_open_34 : decode cX3_open 34 = .ok (.putfield 44, 3) := by decide +kernel
theorem dX3_open_37 : decode cX3_open 37 = .ok (.aload_n 0, 1) := by decide +kernel
theorem dX3_open_38 : decode cX3_open 38 = .ok (.iconst (-1), 1) := by decide +kernel
theorem dX3_open_39 : decode cX3_open 39 = .ok (.putfield 47, 3) := by decide +kernel
theorem dX3_open_42 : decode cX3_open 42 = .ok (.iconst 0, 1) := by decide +kernel
theorem dX3_open_43 : decode cX3_open 43 = .ok (.istore 6, 2) := by decide +kernel
theorem dX3_open_45 : decode cX3_open 45 = .ok (.iload 6, 2) := by decide +kernel
theorem dX3_open_47 : decode cX3_open 47 = .ok (.bipush 16, 2) := by decide +kernel
theorem dX3_open_49 : decode cX3_open 49 = .ok (.if_icmp .ge 19, 3) := by decide +kernel
theorem dX3_open_52 : decode cX3_open 52 = .ok (.aload_n 0, 1) := by decide +kernel
theorem dX3_open_53 : decode cX3_open 53 = .ok (.getfield 15, 3) := by decide +kernel
theorem dX3_open_56 : decode cX3_open 56 = .ok (.iload 6, 2) := by decide +kernel
theorem dX3_open_58 : decode cX3_open 58 = .ok (.iconst 0, 1) := by decide +kernel
theorem dX3_open_59 : decode cX3_open 59 = .ok (.invokestatic 50, 3) := by decide +kernel
theorem dX3_open_62 : decode cX3_open 62 = .ok (.iinc 6 1, 3) := by decide +kernel
theorem dX3_open_65 : decode cX3_open 65 = .ok (.goto (-20), 3) := by decide +kernel
theorem dX3_open_68 : decode cX3_open 68 = .ok (.return_, 1) := by decide +kernel
theorem dX3_save_0 : decode cX3_save 0 = .ok (.aload_n 0, 1) := by decide +kernel
theorem dX3_save_1 : decode cX3_save 1 = .ok (.getfield 21, 3) := by decide +kernel
theorem dX3_save_4 : decode cX3_save 4 = .ok (.aload_n 1, 1) := by decide +kernel
theorem dX3_save_5 : decode cX3_save 5 = .ok (.invokevirtual 54, 3) := by decide +kernel
theorem dX3_save_8 : decode cX3_save 8 = .ok (.aload_n 0, 1) := by decide +kernel
theorem dX3_save_9 : decode cX3_save 9 = .ok (.iload_n 2, 1) := by decide +kernel
theorem dX3_save_10 : decode cX3_save 10 = .ok (.putfield 58, 3) := by decide +kernel
theorem dX3_save_13 : decode cX3_save 13 = .ok (.aload_n 0, 1) := by decide +kernel
theorem dX3_save_14 : decode cX3_save 14 = .ok (.iload_n 3, 1) := by decide +kernel
theorem dX3_save_15 : decode cX3_save 15 = .ok (.putfield 61, 3) := by decide +kernel
theorem dX3_save_18 : decode cX3_save 18 = .ok (.return_, 1) := by decide +kernel
theorem dX3_heapAllows_0 : decode cX3_heapAllows 0 = .ok (.aload_n 0, 1) := by decide +kernel
theorem dX3_heapAllows_1 : decode cX3_heapAllows 1 = .ok (.getfield 44, 3) := by decide +kernel
theorem dX3_heapAllows_4 : decode cX3_heapAllows 4 = .ok (.getstatic 64, 3) := by decide +kernel
theorem dX3_heapAllows_7 : decode cX3_heapAllows 7 = .ok (.iload_n 1, 1) := by decide +kernel
theorem dX3_heapAllows_8 : decode cX3_heapAllows 8 = .ok (.invokestatic 67, 3) := by decide +kernel
theorem dX3_heapAllows_11 : decode cX3_heapAllows 11 = .ok (.isub, 1) := by decide +kernel
theorem dX3_heapAllows_12 : decode cX3_heapAllows 12 = .ok (.istore_n 2, 1) := by decide +kernel
theorem dX3_heapAllows_13 : decode cX3_heapAllows 13 = .ok (.iload_n 2, 1) := by decide +kernel
theorem dX3_heapAllows_14 : decode cX3_heapAllows 14 = .ok (.ifCond .lt 21, 3) := by decide +kernel
theorem dX3_heapAllows_17 : decode cX3_heapAllows 17 = .ok (.iload_n 2, 1) := by decide +kernel
theorem dX3_heapAllows_18 : decode cX3_heapAllows 18 = .ok (.getstatic 71, 3) := by decide +kernel
theorem dX3_heapAllows_21 : decode cX3_heapAllows 21 = .ok (.iload_n 1, 1) := by decide +kernel
theorem dX3_heapAllows_22 : decode cX3_heapAllows 22 = .ok (.invokestatic 67, 3) := by decide +kernel
theorem dX3_heapAllows_25 : decode cX3_heapAllows 25 = .ok (.iadd, 1) := by decide +kernel
theorem dX3_heapAllows_26 : decode cX3_heapAllows 26 = .ok (.bipush 16, 2) := by decide +kernel
theorem dX3_heapAllows_28 : decode cX3_heapAllows 28 = .ok (.if_icmp .gt 7, 3) := by decide +kernel
theorem dX3_heapAllows_31 : decode cX3_heapAllows 31 = .ok (.iconst 1, 1) := by decide +kernel
theorem dX3_heapAllows_32 : decode cX3_heapAllows 32 = .ok (.goto 4, 3) := by decide +kernel
theorem dX3_heapAllows_35 : decode cX3_heapAllows 35 = .ok (.iconst 0, 1) := by decide +kernel
theorem dX3_heapAllows_36 : decode cX3_heapAllows 36 = .ok (.ireturn, 1) := by decide +kernel
theorem dX3_top_0 : decode cX3_top 0 = .ok (.aload_n 0, 1) := by decide +kernel
theorem dX3_top_1 : decode cX3_top 1 = .ok (.getfield 9, 3) := by decide +kernel
theorem dX3_top_4 : decode cX3_top 4 = .ok (.aload_n 0, 1) := by decide +kernel
theorem dX3_top_5 : decode cX3_top 5 = .ok (.getfield 44, 3) := by decide +kernel
theorem dX3_top_8 : decode cX3_top 8 = .ok (.iconst 1, 1) := by decide +kernel
theorem dX3_top_9 : decode cX3_top 9 = .ok (.isub, 1) := by decide +kernel
theorem dX3_top_10 : decode cX3_top 10 = .ok (.invokestatic 67, 3) := by decide +kernel
theorem dX3_top_13 : decode cX3_top 13 = .ok (.ireturn, 1) := by decide +kernel
theorem dX3_take_0 : decode cX3_take 0 = .ok (.aload_n 0, 1) := by decide +kernel
theorem dX3_take_1 : decode cX3_take 1 = .ok (.getfield 44, 3) := by decide +kernel
theorem dX3_take_4 : decode cX3_take 4 = .ok (.ifCond .le 15, 3) := by decide +kernel
theorem dX3_take_7 : decode cX3_take 7 = .ok (.aload_n 0, 1) := by decide +kernel
theorem dX3_take_8 : decode cX3_take 8 = .ok (.getfield 44, 3) := by decide +kernel
theorem dX3_take_11 : decode cX3_take 11 = .ok (.aload_n 0, 1) := by decide +kernel
theorem dX3_take_12 : decode cX3_take 12 = .ok (.getfield 9, 3) := by decide +kernel
theorem dX3_take_15 : decode cX3_take 15 = .ok (.arraylength, 1) := by decide +kernel
theorem dX3_take_16 : decode cX3_take 16 = .ok (.if_icmp .le 5, 3) := by decide +kernel
theorem dX3_take_19 : decode cX3_take 19 = .ok (.iconst 0, 1) := by decide +kernel
theorem dX3_take_20 : decode cX3_take 20 = .ok (.ireturn, 1) := by decide +kernel
theorem dX3_take_21 : decode cX3_take 21 = .ok (.aload_n 0, 1) := by decide +kernel
theorem dX3_take_22 : decode cX3_take 22 = .ok (.dup, 1) := by decide +kernel
theorem dX3_take_23 : decode cX3_take 23 = .ok (.getfield 44, 3) := by decide +kernel
theorem dX3_take_26 : decode cX3_take 26 = .ok (.iconst 1, 1) := by decide +kernel
theorem dX3_take_27 : decode cX3_take 27 = .ok (.isub, 1) := by decide +kernel
theorem dX3_take_28 : decode cX3_take 28 = .ok (.putfield 44, 3) := by decide +kernel
theorem dX3_take_31 : decode cX3_take 31 = .ok (.aload_n 0, 1) := by decide +kernel
theorem dX3_take_32 : decode cX3_take 32 = .ok (.getfield 9, 3) := by decide +kernel
theorem dX3_take_35 : decode cX3_take 35 = .ok (.aload_n 0, 1) := by decide +kernel
theorem dX3_take_36 : decode cX3_take 36 = .ok (.getfield 44, 3) := by decide +kernel
theorem dX3_take_39 : decode cX3_take 39 = .ok (.iaload, 1) := by decide +kernel
theorem dX3_take_40 : decode cX3_take 40 = .ok (.ireturn, 1) := by decide +kernel
theorem dX3_push_0 : decode cX3_push 0 = .ok (.aload_n 0, 1) := by decide +kernel
theorem dX3_push_1 : decode cX3_push 1 = .ok (.getfield 44, 3) := by decide +kernel
theorem dX3_push_4 : decode cX3_push 4 = .ok (.ifCond .lt 35, 3) := by decide +kernel
theorem dX3_push_7 : decode cX3_push 7 = .ok (.aload_n 0, 1) := by decide +kernel
theorem dX3_push_8 : decode cX3_push 8 = .ok (.getfield 44, 3) := by decide +kernel
theorem dX3_push_11 : decode cX3_push 11 = .ok (.aload_n 0, 1) := by decide +kernel
theorem dX3_push_12 : decode cX3_push 12 = .ok (.getfield 9, 3) := by decide +kernel
theorem dX3_push_15 : decode cX3_push 15 = .ok (.arraylength, 1) := by decide +kernel
theorem dX3_push_16 : decode cX3_push 16 = .ok (.if_icmp .ge 23, 3) := by decide +kernel
theorem dX3_push_19 : decode cX3_push 19 = .ok (.aload_n 0, 1) := by decide +kernel
theorem dX3_push_20 : decode cX3_push 20 = .ok (.getfield 9, 3) := by decide +kernel
theorem dX3_push_23 : decode cX3_push 23 = .ok (.aload_n 0, 1) := by decide +kernel
theorem dX3_push_24 : decode cX3_push 24 = .ok (.getfield 44, 3) := by decide +kernel
theorem dX3_push_27 : decode cX3_push 27 = .ok (.iload_n 1, 1) := by decide +kernel
theorem dX3_push_28 : decode cX3_push 28 = .ok (.iastore, 1) := by decide +kernel
theorem dX3_push_29 : decode cX3_push 29 = .ok (.aload_n 0, 1) := by decide +kernel
theorem dX3_push_30 : decode cX3_push 30 = .ok (.dup, 1) := by decide +kernel
theorem dX3_push_31 : decode cX3_push 31 = .ok (.getfield 44, 3) := by decide +kernel
theorem dX3_push_34 : decode cX3_push 34 = .ok (.iconst 1, 1) := by decide +kernel
theorem dX3_push_35 : decode cX3_push 35 = .ok (.iadd, 1) := by decide +kernel
theorem dX3_push_36 : decode cX3_push 36 = .ok (.putfield 44, 3) := by decide +kernel
theorem dX3_push_39 : decode cX3_push 39 = .ok (.return_, 1) := by decide +kernel
theorem dX3_growthTo_0 : decode cX3_growthTo 0 = .ok (.iload_n 1, 1) := by decide +kernel
theorem dX3_growthTo_1 : decode cX3_growthTo 1 = .ok (.aload_n 0, 1) := by decide +kernel
theorem dX3_growthTo_2 : decode cX3_growthTo 2 = .ok (.getfield 47, 3) := by decide +kernel
theorem dX3_growthTo_5 : decode cX3_growthTo 5 = .ok (.if_icmp .le 18, 3) := by decide +kernel
theorem dX3_growthTo_8 : decode cX3_growthTo 8 = .ok (.iload_n 1, 1) := by decide +kernel
theorem dX3_growthTo_9 : decode cX3_growthTo 9 = .ok (.invokestatic 74, 3) := by decide +kernel
theorem dX3_growthTo_12 : decode cX3_growthTo 12 = .ok (.aload_n 0, 1) := by decide +kernel
theorem dX3_growthTo_13 : decode cX3_growthTo 13 = .ok (.getfield 47, 3) := by decide +kernel
theorem dX3_growthTo_16 : decode cX3_growthTo 16 = .ok (.invokestatic 74, 3) := by decide +kernel
theorem dX3_growthTo_19 : decode cX3_growthTo 19 = .ok (.isub, 1) := by decide +kernel
theorem dX3_growthTo_20 : decode cX3_growthTo 20 = .ok (.goto 4, 3) := by decide +kernel
theorem dX3_growthTo_23 : decode cX3_growthTo 23 = .ok (.iconst 0, 1) := by decide +kernel
theorem dX3_growthTo_24 : decode cX3_growthTo 24 = .ok (.ireturn, 1) := by decide +kernel
theorem dX3_memoryGas_0 : decode cX3_memoryGas 0 = .ok (.iload_n 0, 1) := by decide +kernel
theorem dX3_memoryGas_1 : decode cX3_memoryGas 1 = .ok (.iconst 1, 1) := by decide +kernel
theorem dX3_memoryGas_2 : decode cX3_memoryGas 2 = .ok (.iadd, 1) := by decide +kernel
theorem dX3_memoryGas_3 : decode cX3_memoryGas 3 = .ok (.iload_n 0, 1) := by decide +kernel
theorem dX3_memoryGas_4 : decode cX3_memoryGas 4 = .ok (.iconst 1, 1) := by decide +kernel
theorem dX3_memoryGas_5 : decode cX3_memoryGas 5 = .ok (.iadd, 1) := by decide +kernel
theorem dX3_memoryGas_6 : decode cX3_memoryGas 6 = .ok (.imul, 1) := by decide +kernel
theorem dX3_memoryGas_7 : decode cX3_memoryGas 7 = .ok (.iconst 2, 1) := by decide +kernel
theorem dX3_memoryGas_8 : decode cX3_memoryGas 8 = .ok (.idiv, 1) := by decide +kernel
theorem dX3_memoryGas_9 : decode cX3_memoryGas 9 = .ok (.ireturn, 1) := by decide +kernel
theorem dX3_reach_0 : decode cX3_reach 0 = .ok (.aload_n 0, 1) := by decide +kernel
theorem dX3_reach_1 : decode cX3_reach 1 = .ok (.aload_n 0, 1) := by decide +kernel
theorem dX3_reach_2 : decode cX3_reach 2 = .ok (.getfield 47, 3) := by decide +kernel
theorem dX3_reach_5 : decode cX3_reach 5 = .ok (.iload_n 1, 1) := by decide +kernel
theorem dX3_reach_6 : decode cX3_reach 6 = .ok (.invokestatic 78, 3) := by decide +kernel
theorem dX3_reach_9 : decode cX3_reach 9 = .ok (.putfield 47, 3) := by decide +kernel
theorem dX3_reach_12 : decode cX3_reach 12 = .ok (.return_, 1) := by decide +kernel
theorem dX3_perform_0 : decode cX3_perform 0 = .ok (.iload_n 1, 1) := by decide +kernel
theorem dX3_perform_1 : decode cX3_perform 1 = .ok (.tableswitch 221 0 18 #[91, 221, 221, 221, 221, 221, 99, 221, 110, 221, 221, 118, 126, 148, 159, 170, 221, 181, 201], 91) := by decide +kernel
theorem dX3_perform_92 : decode cX3_perform 92 = .ok (.aload_n 0, 1) := by decide +kernel
theorem dX3_perform_93 : decode cX3_perform 93 = .ok (.iload_n 2, 1) := by decide +kernel
theorem dX3_perform_94 : decode cX3_perform 94 = .ok (.invokevirtual 84, 3) := by decide +kernel
theorem dX3_perform_97 : decode cX3_perform 97 = .ok (.goto 130, 3) := by decide +kernel
theorem dX3_perform_100 : decode cX3_perform 100 = .ok (.aload_n 0, 1) := by decide +kernel
theorem dX3_perform_101 : decode cX3_perform 101 = .ok (.aload_n 0, 1) := by decide +kernel
theorem dX3_perform_102 : decode cX3_perform 102 = .ok (.invokevirtual 88, 3) := by decide +kernel
theorem dX3_perform_105 : decode cX3_perform 105 = .ok (.invokevirtual 84, 3) := by decide +kernel
theorem dX3_perform_108 : decode cX3_perform 108 = .ok (.goto 119, 3) := by decide +kernel
theorem dX3_perform_111 : decode cX3_perform 111 = .ok (.aload_n 0, 1) := by decide +kernel
theorem dX3_perform_112 : decode cX3_perform 112 = .ok (.invokevirtual 92, 3) := by decide +kernel
theorem dX3_perform_115 : decode cX3_perform 115 = .ok (.pop, 1) := by decide +kernel
theorem dX3_perform_116 : decode cX3_perform 116 = .ok (.goto 111, 3) := by decide +kernel
theorem dX3_perform_119 : decode cX3_perform 119 = .ok (.aload_n 0, 1) := by decide +kernel
theorem dX3_perform_120 : decode cX3_perform 120 = .ok (.iload_n 2, 1) := by decide +kernel
theorem dX3_perform_121 : decode cX3_perform 121 = .ok (.putfield 41, 3) := by decide +kernel
theorem dX3_perform_124 : decode cX3_perform 124 = .ok (.goto 103, 3) := by decide +kernel
theorem dX3_perform_127 : decode cX3_perform 127 = .ok (.aload_n 0, 1) := by decide +kernel
theorem dX3_perform_128 : decode cX3_perform 128 = .ok (.aload_n 0, 1) := by decide +kernel
theorem dX3_perform_129 : decode cX3_perform 129 = .ok (.invokevirtual 92, 3) := by decide +kernel
theorem dX3_perform_132 : decode cX3_perform 132 = .ok (.ifCond .ne 7, 3) := by decide +kernel
theorem dX3_perform_135 : decode cX3_perform 135 = .ok (.iload_n 2, 1) := by decide +kernel
theorem dX3_perform_136 : decode cX3_perform 136 = .ok (.goto 7, 3) := by decide +kernel
theorem dX3_perform_139 : decode cX3_perform 139 = .ok (.aload_n 0, 1) := by decide +kernel
theorem dX3_perform_140 : decode cX3_perform 140 = .ok (.getfield 41, 3) := by decide +kernel
theorem dX3_perform_143 : decode cX3_perform 143 = .ok (.putfield 41, 3) := by decide +kernel
theorem dX3_perform_146 : decode cX3_perform 146 = .ok (.goto 81, 3) := by decide +kernel
theorem dX3_perform_149 : decode cX3_perform 149 = .ok (.aload_n 0, 1) := by decide +kernel
theorem dX3_perform_150 : decode cX3_perform 150 = .ok (.aload_n 0, 1) := by decide +kernel
theorem dX3_perform_151 : decode cX3_perform 151 = .ok (.getfield 29, 3) := by decide +kernel
theorem dX3_perform_154 : decode cX3_perform 154 = .ok (.invokevirtual 84, 3) := by decide +kernel
theorem dX3_perform_157 : decode cX3_perform 157 = .ok (.goto 70, 3) := by decide +kernel
theorem dX3_perform_160 : decode cX3_perform 160 = .ok (.aload_n 0, 1) := by decide +kernel
theorem dX3_perform_161 : decode cX3_perform 161 = .ok (.aload_n 0, 1) := by decide +kernel
theorem dX3_perform_162 : decode cX3_perform 162 = .ok (.getfield 35, 3) := by decide +kernel
theorem dX3_perform_165 : decode cX3_perform 165 = .ok (.invokevirtual 84, 3) := by decide +kernel
theorem dX3_perform_168 : decode cX3_perform 168 = .ok (.goto 59, 3) := by decide +kernel
theorem dX3_perform_171 : decode cX3_perform 171 = .ok (.aload_n 0, 1) := by decide +kernel
theorem dX3_perform_172 : decode cX3_perform 172 = .ok (.aload_n 0, 1) := by decide +kernel
theorem dX3_perform_173 : decode cX3_perform 173 = .ok (.getfield 38, 3) := by decide +kernel
theorem dX3_perform_176 : decode cX3_perform 176 = .ok (.invokevirtual 84, 3) := by decide +kernel
theorem dX3_perform_179 : decode cX3_perform 179 = .ok (.goto 48, 3) := by decide +kernel
theorem dX3_perform_182 : decode cX3_perform 182 = .ok (.aload_n 0, 1) := by decide +kernel
theorem dX3_perform_183 : decode cX3_perform 183 = .ok (.iload_n 2, 1) := by decide +kernel
theorem dX3_perform_184 : decode cX3_perform 184 = .ok (.invokevirtual 95, 3) := by decide +kernel
theorem dX3_perform_187 : decode cX3_perform 187 = .ok (.aload_n 0, 1) := by decide +kernel
theorem dX3_perform_188 : decode cX3_perform 188 = .ok (.getfield 15, 3) := by decide +kernel
theorem dX3_perform_191 : decode cX3_perform 191 = .ok (.iload_n 2, 1) := by decide +kernel
theorem dX3_perform_192 : decode cX3_perform 192 = .ok (.aload_n 0, 1) := by decide +kernel
theorem dX3_perform_193 : decode cX3_perform 193 = .ok (.invokevirtual 92, 3) := by decide +kernel
theorem dX3_perform_196 : decode cX3_perform 196 = .ok (.invokestatic 50, 3) := by decide +kernel
theorem dX3_perform_199 : decode cX3_perform 199 = .ok (.goto 28, 3) := by decide +kernel
theorem dX3_perform_202 : decode cX3_perform 202 = .ok (.aload_n 0, 1) := by decide +kernel
theorem dX3_perform_203 : decode cX3_perform 203 = .ok (.iload_n 2, 1) := by decide +kernel
theorem dX3_perform_204 : decode cX3_perform 204 = .ok (.invokevirtual 95, 3) := by decide +kernel
theorem dX3_perform_207 : decode cX3_perform 207 = .ok (.aload_n 0, 1) := by decide +kernel
theorem dX3_perform_208 : decode cX3_perform 208 = .ok (.aload_n 0, 1) := by decide +kernel
theorem dX3_perform_209 : decode cX3_perform 209 = .ok (.getfield 15, 3) := by decide +kernel
theorem dX3_perform_212 : decode cX3_perform 212 = .ok (.iload_n 2, 1) := by decide +kernel
theorem dX3_perform_213 : decode cX3_perform 213 = .ok (.invokestatic 67, 3) := by decide +kernel
theorem dX3_perform_216 : decode cX3_perform 216 = .ok (.invokevirtual 84, 3) := by decide +kernel
theorem dX3_perform_219 : decode cX3_perform 219 = .ok (.goto 8, 3) := by decide +kernel
theorem dX3_perform_222 : decode cX3_perform 222 = .ok (.aload_n 0, 1) := by decide +kernel
theorem dX3_perform_223 : decode cX3_perform 223 = .ok (.iload_n 1, 1) := by decide +kernel
theorem dX3_perform_224 : decode cX3_perform 224 = .ok (.invokevirtual 98, 3) := by decide +kernel
theorem dX3_perform_227 : decode cX3_perform 227 = .ok (.return_, 1) := by decide +kernel
theorem dX3_calculate_0 : decode cX3_calculate 0 = .ok (.aload_n 0, 1) := by decide +kernel
theorem dX3_calculate_1 : decode cX3_calculate 1 = .ok (.invokevirtual 92, 3) := by decide +kernel
theorem dX3_calculate_4 : decode cX3_calculate 4 = .ok (.istore_n 2, 1) := by decide +kernel
theorem dX3_calculate_5 : decode cX3_calculate 5 = .ok (.aload_n 0, 1) := by decide +kernel
theorem dX3_calculate_6 : decode cX3_calculate 6 = .ok (.invokevirtual 92, 3) := by decide +kernel
theorem dX3_calculate_9 : decode cX3_calculate 9 = .ok (.istore_n 3, 1) := by decide +kernel
theorem dX3_calculate_10 : decode cX3_calculate 10 = .ok (.iload_n 1, 1) := by decide +kernel
theorem dX3_calculate_11 : decode cX3_calculate 11 = .ok (.tableswitch 133 1 7 #[41, 54, 69, 86, 103, 133, 120], 41) := by decide +kernel
theorem dX3_calculate_52 : decode cX3_calculate 52 = .ok (.aload_n 0, 1) := by decide +kernel
theorem dX3_calculate_53 : decode cX3_calculate 53 = .ok (.iload_n 3, 1) := by decide +kernel
theorem dX3_calculate_54 : decode cX3_calculate 54 = .ok (.iload_n 2, 1) := by decide +kernel
theorem dX3_calculate_55 : decode cX3_calculate 55 = .ok (.iadd, 1) := by decide +kernel
theorem dX3_calculate_56 : decode cX3_calculate 56 = .ok (.ldc 101, 2) := by decide +kernel
theorem dX3_calculate_58 : decode cX3_calculate 58 = .ok (.irem, 1) := by decide +kernel
theorem dX3_calculate_59 : decode cX3_calculate 59 = .ok (.invokevirtual 84, 3) := by decide +kernel
theorem dX3_calculate_62 : decode cX3_calculate 62 = .ok (.goto 82, 3) := by decide +kernel
theorem dX3_calculate_65 : decode cX3_calculate 65 = .ok (.aload_n 0, 1) := by decide +kernel
theorem dX3_calculate_66 : decode cX3_calculate 66 = .ok (.iload_n 3, 1) := by decide +kernel
theorem dX3_calculate_67 : decode cX3_calculate 67 = .ok (.iload_n 2, 1) := by decide +kernel
theorem dX3_calculate_68 : decode cX3_calculate 68 = .ok (.isub, 1) := by decide +kernel
theorem dX3_calculate_69 : decode cX3_calculate 69 = .ok (.ldc 101, 2) := by decide +kernel
theorem dX3_calculate_71 : decode cX3_calculate 71 = .ok (.invokestatic 102, 3) := by decide +kernel
theorem dX3_calculate_74 : decode cX3_calculate 74 = .ok (.invokevirtual 84, 3) := by decide +kernel
theorem dX3_calculate_77 : decode cX3_calculate 77 = .ok (.goto 67, 3) := by decide +kernel
theorem dX3_calculate_80 : decode cX3_calculate 80 = .ok (.aload_n 0, 1) := by decide +kernel
theorem dX3_calculate_81 : decode cX3_calculate 81 = .ok (.iload_n 3, 1) := by decide +kernel
theorem dX3_calculate_82 : decode cX3_calculate 82 = .ok (.i2l, 1) := by decide +kernel
theorem dX3_calculate_83 : decode cX3_calculate 83 = .ok (.iload_n 2, 1) := by decide +kernel
theorem dX3_calculate_84 : decode cX3_calculate 84 = .ok (.i2l, 1) := by decide +kernel
theorem dX3_calculate_85 : decode cX3_calculate 85 = .ok (.lmul, 1) := by decide +kernel
theorem dX3_calculate_86 : decode cX3_calculate 86 = .ok (.ldc2_w 105, 3) := by decide +kernel
theorem dX3_calculate_89 : decode cX3_calculate 89 = .ok (.lrem, 1) := by decide +kernel
theorem dX3_calculate_90 : decode cX3_calculate 90 = .ok (.l2i, 1) := by decide +kernel
theorem dX3_calculate_91 : decode cX3_calculate 91 = .ok (.invokevirtual 84, 3) := by decide +kernel
theorem dX3_calculate_94 : decode cX3_calculate 94 = .ok (.goto 50, 3) := by decide +kernel
theorem dX3_calculate_97 : decode cX3_calculate 97 = .ok (.aload_n 0, 1) := by decide +kernel
theorem dX3_calculate_98 : decode cX3_calculate 98 = .ok (.iload_n 3, 1) := by decide +kernel
theorem dX3_calculate_99 : decode cX3_calculate 99 = .ok (.iload_n 2, 1) := by decide +kernel
theorem dX3_calculate_100 : decode cX3_calculate 100 = .ok (.if_icmp .ge 7, 3) := by decide +kernel
theorem dX3_calculate_103 : decode cX3_calculate 103 = .ok (.iconst 1, 1) := by decide +kernel
theorem dX3_calculate_104 : decode cX3_calculate 104 = .ok (.goto 4, 3) := by decide +kernel
theorem dX3_calculate_107 : decode cX3_calculate 107 = .ok (.iconst 0, 1) := by decide +kernel
theorem dX3_calculate_108 : decode cX3_calculate 108 = .ok (.invokevirtual 84, 3) := by decide +kernel
theorem dX3_calculate_111 : decode cX3_calculate 111 = .ok (.goto 33, 3) := by decide +kernel
theorem dX3_calculate_114 : decode cX3_calculate 114 = .ok (.aload_n 0, 1) := by decide +kernel
theorem dX3_calculate_115 : decode cX3_calculate 115 = .ok (.iload_n 3, 1) := by decide +kernel
theorem dX3_calculate_116 : decode cX3_calculate 116 = .ok (.iload_n 2, 1) := by decide +kernel
theorem dX3_calculate_117 : decode cX3_calculate 117 = .ok (.if_icmp .ne 7, 3) := by decide +kernel
theorem dX3_calculate_120 : decode cX3_calculate 120 = .ok (.iconst 1, 1) := by decide +kernel
theorem dX3_calculate_121 : decode cX3_calculate 121 = .ok (.goto 4, 3) := by decide +kernel
theorem dX3_calculate_124 : decode cX3_calculate 124 = .ok (.iconst 0, 1) := by decide +kernel
theorem dX3_calculate_125 : decode cX3_calculate 125 = .ok (.invokevirtual 84, 3) := by decide +kernel
theorem dX3_calculate_128 : decode cX3_calculate 128 = .ok (.goto 16, 3) := by decide +kernel
theorem dX3_calculate_131 : decode cX3_calculate 131 = .ok (.aload_n 0, 1) := by decide +kernel
theorem dX3_calculate_132 : decode cX3_calculate 132 = .ok (.iload_n 2, 1) := by decide +kernel
theorem dX3_calculate_133 : decode cX3_calculate 133 = .ok (.invokevirtual 84, 3) := by decide +kernel
theorem dX3_calculate_136 : decode cX3_calculate 136 = .ok (.aload_n 0, 1) := by decide +kernel
theorem dX3_calculate_137 : decode cX3_calculate 137 = .ok (.iload_n 3, 1) := by decide +kernel
theorem dX3_calculate_138 : decode cX3_calculate 138 = .ok (.invokevirtual 84, 3) := by decide +kernel
theorem dX3_calculate_141 : decode cX3_calculate 141 = .ok (.goto 3, 3) := by decide +kernel
theorem dX3_calculate_144 : decode cX3_calculate 144 = .ok (.return_, 1) := by decide +kernel
theorem dX4_init_0 : decode cX4_init 0 = .ok (.aload_n 0, 1) := by decide +kernel
theorem dX4_init_1 : decode cX4_init 1 = .ok (.invokespecial 3, 3) := by decide +kernel
theorem dX4_init_4 : decode cX4_init 4 = .ok (.aload_n 0, 1) := by decide +kernel
theorem dX4_init_5 : decode cX4_init 5 = .ok (.iconst 4, 1) := by decide +kernel
theorem dX4_init_6 : decode cX4_init 6 = .ok (.anewarray 9, 3) := by decide +kernel
theorem dX4_init_9 : decode cX4_init 9 = .ok (.putfield 11, 3) := by decide +kernel
theorem dX4_init_12 : decode cX4_init 12 = .ok (.aload_n 0, 1) := by decide +kernel
theorem dX4_init_13 : decode cX4_init 13 = .ok (.new 17, 3) := by decide +kernel
theorem dX4_init_16 : decode cX4_init 16 = .ok (.dup, 1) := by decide +kernel
theorem dX4_init_17 : decode cX4_init 17 = .ok (.iconst (-1), 1) := by decide +kernel
theorem dX4_init_18 : decode cX4_init 18 = .ok (.invokespecial 19, 3) := by decide +kernel
theorem dX4_init_21 : decode cX4_init 21 = .ok (.putfield 22, 3) := by decide +kernel
theorem dX4_init_24 : decode cX4_init 24 = .ok (.aload_n 0, 1) := by decide +kernel
theorem dX4_init_25 : decode cX4_init 25 = .ok (.aload_n 0, 1) := by decide +kernel
theorem dX4_init_26 : decode cX4_init 26 = .ok (.getfield 22, 3) := by decide +kernel
theorem dX4_init_29 : decode cX4_init 29 = .ok (.putfield 26, 3) := by decide +kernel
theorem dX4_init_32 : decode cX4_init 32 = .ok (.aload_n 0, 1) := by decide +kernel
theorem dX4_init_33 : decode cX4_init 33 = .ok (.aload_n 0, 1) := by decide +kernel
theorem dX4_init_34 : decode cX4_init 34 = .ok (.getfield 22, 3) := by decide +kernel
theorem dX4_init_37 : decode cX4_init 37 = .ok (.getfield 29, 3) := by decide +kernel
theorem dX4_init_40 : decode cX4_init 40 = .ok (.putfield 33, 3) := by decide +kernel
theorem dX4_init_43 : decode cX4_init 43 = .ok (.aload_n 0, 1) := by decide +kernel
theorem dX4_init_44 : decode cX4_init 44 = .ok (.aload_n 1, 1) := by decide +kernel
theorem dX4_init_45 : decode cX4_init 45 = .ok (.putfield 34, 3) := by decide +kernel
theorem dX4_init_48 : decode cX4_init 48 = .ok (.iconst 0, 1) := by decide +kernel
theorem dX4_init_49 : decode cX4_init 49 = .ok (.istore_n 2, 1) := by decide +kernel
theorem dX4_init_50 : decode cX4_init 50 = .ok (.iload_n 2, 1) := by decide +kernel
theorem dX4_init_51 : decode cX4_init 51 = .ok (.iconst 4, 1) := by decide +kernel
theorem dX4_init_52 : decode cX4_init 52 = .ok (.if_icmp .ge 22, 3) := by decide +kernel
theorem dX4_init_55 : decode cX4_init 55 = .ok (.aload_n 0, 1) := by decide +kernel
theorem dX4_init_56 : decode cX4_init 56 = .ok (.getfield 11, 3) := by decide +kernel
theorem dX4_init_59 : decode cX4_init 59 = .ok (.iload_n 2, 1) := by decide +kernel
theorem dX4_init_60 : decode cX4_init 60 = .ok (.new 9, 3) := by decide +kernel
theorem dX4_init_63 : decode cX4_init 63 = .ok (.dup, 1) := by decide +kernel
theorem dX4_init_64 : decode cX4_init 64 = .ok (.invokespecial 38, 3) := by decide +kernel
theorem dX4_init_67 : decode cX4_init 67 = .ok (.aastore, 1) := by decide +kernel
theorem dX4_init_68 : decode cX4_init 68 = .ok (.iinc 2 1, 3) := by decide +kernel
theorem dX4_init_71 : decode cX4_init 71 = .ok (.goto (-21), 3) := by decide +kernel
theorem dX4_init_74 : decode cX4_init 74 = .ok (.return_, 1) := by decide +kernel
theorem dX4_open_0 : decode cX4_open 0 = .ok (.aload_n 0, 1) := by decide +kernel
theorem dX4_open_1 : decode cX4_open 1 = .ok (.aload_n 1, 1) := by decide +kernel
theorem dX4_open_2 : decode cX4_open 2 = .ok (.putfield 26, 3) := by decide +kernel
theorem dX4_open_5 : decode cX4_open 5 = .ok (.aload_n 0, 1) := by decide +kernel
theorem dX4_open_6 : decode cX4_open 6 = .ok (.aload_n 1, 1) := by decide +kernel
theorem dX4_open_7 : decode cX4_open 7 = .ok (.getfield 29, 3) := by decide +kernel
theorem dX4_open_10 : decode cX4_open 10 = .ok (.putfield 33, 3) := by decide +kernel
theorem dX4_open_13 : decode cX4_open 13 = .ok (.aload_n 0, 1) := by decide +kernel
theorem dX4_open_14 : decode cX4_open 14 = .ok (.iload_n 2, 1) := by decide +kernel
theorem dX4_open_15 : decode cX4_open 15 = .ok (.ifCond .eq 9, 3) := by decide +kernel
theorem dX4_open_18 : decode cX4_open 18 = .ok (.sipush 150, 3) := by decide +kernel
theorem dX4_open_21 : decode cX4_open 21 = .ok (.goto 5, 3) := by decide +kernel
theorem dX4_open_24 : decode cX4_open 24 = .ok (.bipush 100, 2) := by decide +kernel
theorem dX4_open_26 : decode cX4_open 26 = .ok (.putfield 39, 3) := by decide +kernel
theorem dX4_open_29 : decode cX4_open 29 = .ok (.return_, 1) := by decide +kernel
theorem dX4_transact_0 : decode cX4_transact 0 = .ok (.aload_n 1, 1) := by decide +kernel
theorem dX4_transact_1 : decode cX4_transact 1 = .ok (.aload_n 0, 1) := by decide +kernel
theorem dX4_transact_2 : decode cX4_transact 2 = .ok (.getfield 26, 3) := by decide +kernel
theorem dX4_transact_5 : decode cX4_transact 5 = .ok (.getfield 43, 3) := by decide +kernel
theorem dX4_transact_8 : decode cX4_transact 8 = .ok (.invokevirtual 46, 3) := by decide +kernel
theorem dX4_transact_11 : decode cX4_transact 11 = .ok (.istore_n 2, 1) := by decide +kernel
theorem dX4_transact_12 : decode cX4_transact 12 = .ok (.aload_n 0, 1) := by decide +kernel
theorem dX4_transact_13 : decode cX4_transact 13 = .ok (.getfield 33, 3) := by decide +kernel
theorem dX4_transact_16 : decode cX4_transact 16 = .ok (.aload_n 1, 1) := by decide +kernel
theorem dX4_transact_17 : decode cX4_transact 17 = .ok (.getfield 52, 3) := by decide +kernel
theorem dX4_transact_20 : decode cX4_transact 20 = .ok (.invokevirtual 55, 3) := by decide +kernel
theorem dX4_transact_23 : decode cX4_transact 23 = .ok (.aload_n 0, 1) := by decide +kernel
theorem dX4_transact_24 : decode cX4_transact 24 = .ok (.getfield 33, 3) := by decide +kernel
theorem dX4_transact_27 : decode cX4_transact 27 = .ok (.aload_n 1, 1) := by decide +kernel
theorem dX4_transact_28 : decode cX4_transact 28 = .ok (.getfield 52, 3) := by decide +kernel
theorem dX4_transact_31 : decode cX4_transact 31 = .ok (.aload_n 1, 1) := by decide +kernel
theorem dX4_transact_32 : decode cX4_transact 32 = .ok (.getfield 60, 3) := by decide +kernel
theorem dX4_transact_35 : decode cX4_transact 35 = .ok (.ineg, 1) := by decide +kernel
theorem dX4_transact_36 : decode cX4_transact 36 = .ok (.iload_n 2, 1) := by decide +kernel
theorem dX4_transact_37 : decode cX4_transact 37 = .ok (.imul, 1) := by decide +kernel
theorem dX4_transact_38 : decode cX4_transact 38 = .ok (.invokevirtual 63, 3) := by decide +kernel
theorem dX4_transact_41 : decode cX4_transact 41 = .ok (.aload_n 0, 1) := by decide +kernel
theorem dX4_transact_42 : decode cX4_transact 42 = .ok (.iconst 0, 1) := by decide +kernel
theorem dX4_transact_43 : decode cX4_transact 43 = .ok (.putfield 67, 3) := by decide +kernel
theorem dX4_transact_46 : decode cX4_transact 46 = .ok (.aload_n 0, 1) := by decide +kernel
theorem dX4_transact_47 : decode cX4_transact 47 = .ok (.getfield 11, 3) := by decide +kernel
theorem dX4_transact_50 : decode cX4_transact 50 = .ok (.iconst 0, 1) := by decide +kernel
theorem dX4_transact_51 : decode cX4_transact 51 = .ok (.aaload, 1) := by decide +kernel
theorem dX4_transact_52 : decode cX4_transact 52 = .ok (.astore_n 3, 1) := by decide +kernel
theorem dX4_transact_53 : decode cX4_transact 53 = .ok (.aload_n 3, 1) := by decide +kernel
theorem dX4_transact_54 : decode cX4_transact 54 = .ok (.aload_n 1, 1) := by decide +kernel
theorem dX4_transact_55 : decode cX4_transact 55 = .ok (.getfield 60, 3) := by decide +kernel
theorem dX4_transact_58 : decode cX4_transact 58 = .ok (.bipush 20, 2) := by decide +kernel
theorem dX4_transact_60 : decode cX4_transact 60 = .ok (.isub, 1) := by decide +kernel
theorem dX4_transact_61 : decode cX4_transact 61 = .ok (.putfield 70, 3) := by decide +kernel
theorem dX4_transact_64 : decode cX4_transact 64 = .ok (.aload_n 1, 1) := by decide +kernel
theorem dX4_transact_65 : decode cX4_transact 65 = .ok (.getfield 71, 3) := by decide +kernel
theorem dX4_transact_68 : decode cX4_transact 68 = .ok (.iconst (-1), 1) := by decide +kernel
theorem dX4_transact_69 : decode cX4_transact 69 = .ok (.if_icmp .eq 15, 3) := by decide +kernel
theorem dX4_transact_72 : decode cX4_transact 72 = .ok (.aload_n 0, 1) := by decide +kernel
theorem dX4_transact_73 : decode cX4_transact 73 = .ok (.aload_n 0, 1) := by decide +kernel
theorem dX4_transact_74 : decode cX4_transact 74 = .ok (.aload_n 1, 1) := by decide +kernel
theorem dX4_transact_75 : decode cX4_transact 75 = .ok (.invokevirtual 74, 3) := by decide +kernel
theorem dX4_transact_78 : decode cX4_transact 78 = .ok (.putfield 78, 3) := by decide +kernel
theorem dX4_transact_81 : decode cX4_transact 81 = .ok (.goto 79, 3) := by decide +kernel
theorem dX4_transact_84 : decode cX4_transact 84 = .ok (.aload_n 1, 1) := by decide +kernel
theorem dX4_transact_85 : decode cX4_transact 85 = .ok (.getfield 82, 3) := by decide +kernel
theorem dX4_transact_88 : decode cX4_transact 88 = .ok (.bipush 16, 2) := by decide +kernel
theorem dX4_transact_90 : decode cX4_transact 90 = .ok (.if_icmp .lt 41, 3) := by decide +kernel
theorem dX4_transact_93 : decode cX4_transact 93 = .ok (.aload_n 0, 1) := by decide +kernel
theorem dX4_transact_94 : decode cX4_transact 94 = .ok (.aload_n 0, 1) := by decide +kernel
theorem dX4_transact_95 : decode cX4_transact 95 = .ok (.aload_n 1, 1) := by decide +kernel
theorem dX4_transact_96 : decode cX4_transact 96 = .ok (.getfield 52, 3) := by decide +kernel
theorem dX4_transact_99 : decode cX4_transact 99 = .ok (.aload_n 1, 1) := by decide +kernel
theorem dX4_transact_100 : decode cX4_transact 100 = .ok (.getfield 85, 3) := by decide +kernel
theorem dX4_transact_103 : decode cX4_transact 103 = .ok (.aload_n 1, 1) := by decide +kernel
theorem dX4_transact_104 : decode cX4_transact 104 = .ok (.getfield 82, 3) := by decide +kernel
theorem dX4_transact_107 : decode cX4_transact 107 = .ok (.bipush 16, 2) := by decide +kernel
theorem dX4_transact_109 : decode cX4_transact 109 = .ok (.isub, 1) := by decide +kernel
theorem dX4_transact_110 : decode cX4_transact 110 = .ok (.aload_n 1, 1) := by decide +kernel
theorem dX4_transact_111 : decode cX4_transact 111 = .ok (.getfield 88, 3) := by decide +kernel
theorem dX4_transact_114 : decode cX4_transact 114 = .ok (.invokevirtual 91, 3) := by decide +kernel
theorem dX4_transact_117 : decode cX4_transact 117 = .ok (.ifCond .eq 7, 3) := by decide +kernel
theorem dX4_transact_120 : decode cX4_transact 120 = .ok (.iconst 1, 1) := by decide +kernel
theorem dX4_transact_121 : decode cX4_transact 121 = .ok (.goto 4, 3) := by decide +kernel
theorem dX4_transact_124 : decode cX4_transact 124 = .ok (.iconst 0, 1) := by decide +kernel
theorem dX4_transact_125 : decode cX4_transact 125 = .ok (.putfield 78, 3) := by decide +kernel
theorem dX4_transact_128 : decode cX4_transact 128 = .ok (.goto 32, 3) := by decide +kernel
theorem dX4_transact_131 : decode cX4_transact 131 = .ok (.aload_n 0, 1) := by decide +kernel
theorem dX4_transact_132 : decode cX4_transact 132 = .ok (.aload_n 0, 1) := by decide +kernel
theorem dX4_transact_133 : decode cX4_transact 133 = .ok (.iconst 1, 1) := by decide +kernel
theorem dX4_transact_134 : decode cX4_transact 134 = .ok (.aload_n 1, 1) := by decide +kernel
theorem dX4_transact_135 : decode cX4_transact 135 = .ok (.getfield 52, 3) := by decide +kernel
theorem dX4_transact_138 : decode cX4_transact 138 = .ok (.aload_n 1, 1) := by decide +kernel
theorem dX4_transact_139 : decode cX4_transact 139 = .ok (.getfield 82, 3) := by decide +kernel
theorem dX4_transact_142 : decode cX4_transact 142 = .ok (.aload_n 1, 1) := by decide +kernel
theorem dX4_transact_143 : decode cX4_transact 143 = .ok (.getfield 88, 3) := by decide +kernel
theorem dX4_transact_146 : decode cX4_transact 146 = .ok (.aload_n 1, 1) := by decide +kernel
theorem dX4_transact_147 : decode cX4_transact 147 = .ok (.getfield 95, 3) := by decide +kernel
theorem dX4_transact_150 : decode cX4_transact 150 = .ok (.aload_n 3, 1) := by decide +kernel
theorem dX4_transact_151 : decode cX4_transact 151 = .ok (.getfield 70, 3) := by decide +kernel
theorem dX4_transact_154 : decode cX4_transact 154 = .ok (.invokevirtual 98, 3) := by decide +kernel
theorem dX4_transact_157 : decode cX4_transact 157 = .ok (.putfield 78, 3) := by decide +kernel
theorem dX4_transact_160 : decode cX4_transact 160 = .ok (.aload_n 0, 1) := by decide +kernel
theorem dX4_transact_161 : decode cX4_transact 161 = .ok (.aload_n 1, 1) := by decide +kernel
theorem dX4_transact_162 : decode cX4_transact 162 = .ok (.iload_n 2, 1) := by decide +kernel
theorem dX4_transact_163 : decode cX4_transact 163 = .ok (.aload_n 1, 1) := by decide +kernel
theorem dX4_transact_164 : decode cX4_transact 164 = .ok (.getfield 60, 3) := by decide +kernel
theorem dX4_transact_167 : decode cX4_transact 167 = .ok (.aload_n 3, 1) := by decide +kernel
theorem dX4_transact_168 : decode cX4_transact 168 = .ok (.getfield 70, 3) := by decide +kernel
theorem dX4_transact_171 : decode cX4_transact 171 = .ok (.isub, 1) := by decide +kernel
theorem dX4_transact_172 : decode cX4_transact 172 = .ok (.invokevirtual 102, 3) := by decide +kernel
theorem dX4_transact_175 : decode cX4_transact 175 = .ok (.return_, 1) := by decide +kernel
theorem dX4_settleGas_0 : decode cX4_settleGas 0 = .ok (.aload_n 0, 1) := by decide +kernel
theorem dX4_settleGas_1 : decode cX4_settleGas 1 = .ok (.iload_n 3, 1) := by decide +kernel
theorem dX4_settleGas_2 : decode cX4_settleGas 2 = .ok (.aload_n 0, 1) := by decide +kernel
theorem dX4_settleGas_3 : decode cX4_settleGas 3 = .ok (.getfield 67, 3) := by decide +kernel
theorem dX4_settleGas_6 : decode cX4_settleGas 6 = .ok (.iload_n 3, 1) := by decide +kernel
theorem dX4_settleGas_7 : decode cX4_settleGas 7 = .ok (.iconst 5, 1) := by decide +kernel
theorem dX4_settleGas_8 : decode cX4_settleGas 8 = .ok (.idiv, 1) := by decide +kernel
theorem dX4_settleGas_9 : decode cX4_settleGas 9 = .ok (.invokestatic 106, 3) := by decide +kernel
theorem dX4_settleGas_12 : decode cX4_settleGas 12 = .ok (.isub, 1) := by decide +kernel
theorem dX4_settleGas_13 : decode cX4_settleGas 13 = .ok (.putfield 112, 3) := by decide +kernel
theorem dX4_settleGas_16 : decode cX4_settleGas 16 = .ok (.aload_n 0, 1) := by decide +kernel
theorem dX4_settleGas_17 : decode cX4_settleGas 17 = .ok (.getfield 33, 3) := by decide +kernel
theorem dX4_settleGas_20 : decode cX4_settleGas 20 = .ok (.aload_n 1, 1) := by decide +kernel
theorem dX4_settleGas_21 : decode cX4_settleGas 21 = .ok (.getfield 52, 3) := by decide +kernel
theorem dX4_settleGas_24 : decode cX4_settleGas 24 = .ok (.aload_n 1, 1) := by decide +kernel
theorem dX4_settleGas_25 : decode cX4_settleGas 25 = .ok (.getfield 60, 3) := by decide +kernel
theorem dX4_settleGas_28 : decode cX4_settleGas 28 = .ok (.aload_n 0, 1) := by decide +kernel
theorem dX4_settleGas_29 : decode cX4_settleGas 29 = .ok (.getfield 112, 3) := by decide +kernel
theorem dX4_settleGas_32 : decode cX4_settleGas 32 = .ok (.isub, 1) := by decide +kernel
theorem dX4_settleGas_33 : decode cX4_settleGas 33 = .ok (.iload_n 2, 1) := by decide +kernel
theorem dX4_settleGas_34 : decode cX4_settleGas 34 = .ok (.imul, 1) := by decide +kernel
theorem dX4_settleGas_35 : decode cX4_settleGas 35 = .ok (.invokevirtual 63, 3) := by decide +kernel
theorem dX4_settleGas_38 : decode cX4_settleGas 38 = .ok (.aload_n 0, 1) := by decide +kernel
theorem dX4_settleGas_39 : decode cX4_settleGas 39 = .ok (.getfield 33, 3) := by decide +kernel
theorem dX4_settleGas_42 : decode cX4_settleGas 42 = .ok (.dup, 1) := by decide +kernel
theorem dX4_settleGas_43 : decode cX4_settleGas 43 = .ok (.getfield 115, 3) := by decide +kernel
theorem dX4_settleGas_46 : decode cX4_settleGas 46 = .ok (.aload_n 0, 1) := by decide +kernel
theorem dX4_settleGas_47 : decode cX4_settleGas 47 = .ok (.getfield 112, 3) := by decide +kernel
theorem dX4_settleGas_50 : decode cX4_settleGas 50 = .ok (.aload_n 0, 1) := by decide +kernel
theorem dX4_settleGas_51 : decode cX4_settleGas 51 = .ok (.getfield 26, 3) := by decide +kernel
theorem dX4_settleGas_54 : decode cX4_settleGas 54 = .ok (.getfield 43, 3) := by decide +kernel
theorem dX4_settleGas_57 : decode cX4_settleGas 57 = .ok (.imul, 1) := by decide +kernel
theorem dX4_settleGas_58 : decode cX4_settleGas 58 = .ok (.iadd, 1) := by decide +kernel
theorem dX4_settleGas_59 : decode cX4_settleGas 59 = .ok (.putfield 115, 3) := by decide +kernel
theorem dX4_settleGas_62 : decode cX4_settleGas 62 = .ok (.aload_n 0, 1) := by decide +kernel
theorem dX4_settleGas_63 : decode cX4_settleGas 63 = .ok (.getfield 33, 3) := by decide +kernel
theorem dX4_settleGas_66 : decode cX4_settleGas 66 = .ok (.aload_n 0, 1) := by decide +kernel
theorem dX4_settleGas_67 : decode cX4_settleGas 67 = .ok (.getfield 26, 3) := by decide +kernel
theorem dX4_settleGas_70 : decode cX4_settleGas 70 = .ok (.getfield 118, 3) := by decide +kernel
theorem dX4_settleGas_73 : decode cX4_settleGas 73 = .ok (.aload_n 0, 1) := by decide +kernel
theorem dX4_settleGas_74 : decode cX4_settleGas 74 = .ok (.getfield 112, 3) := by decide +kernel
theorem dX4_settleGas_77 : decode cX4_settleGas 77 = .ok (.iload_n 2, 1) := by decide +kernel
theorem dX4_settleGas_78 : decode cX4_settleGas 78 = .ok (.aload_n 0, 1) := by decide +kernel
theorem dX4_settleGas_79 : decode cX4_settleGas 79 = .ok (.getfield 26, 3) := by decide +kernel
theorem dX4_settleGas_82 : decode cX4_settleGas 82 = .ok (.getfield 43, 3) := by decide +kernel
theorem dX4_settleGas_85 : decode cX4_settleGas 85 = .ok (.isub, 1) := by decide +kernel
theorem dX4_settleGas_86 : decode cX4_settleGas 86 = .ok (.imul, 1) := by decide +kernel
theorem dX4_settleGas_87 : decode cX4_settleGas 87 = .ok (.invokevirtual 63, 3) := by decide +kernel
theorem dX4_settleGas_90 : decode cX4_settleGas 90 = .ok (.return_, 1) := by decide +kernel
theorem dX4_payOut_0 : decode cX4_payOut 0 = .ok (.aload_n 0, 1) := by decide +kernel
theorem dX4_payOut_1 : decode cX4_payOut 1 = .ok (.getfield 33, 3) := by decide +kernel
theorem dX4_payOut_4 : decode cX4_payOut 4 = .ok (.aload_n 1, 1) := by decide +kernel
theorem dX4_payOut_5 : decode cX4_payOut 5 = .ok (.getfield 71, 3) := by decide +kernel
theorem dX4_payOut_8 : decode cX4_payOut 8 = .ok (.invokevirtual 121, 3) := by decide +kernel
theorem dX4_payOut_11 : decode cX4_payOut 11 = .ok (.ifCond .ne 22, 3) := by decide +kernel
theorem dX4_payOut_14 : decode cX4_payOut 14 = .ok (.aload_n 0, 1) := by decide +kernel
theorem dX4_payOut_15 : decode cX4_payOut 15 = .ok (.getfield 33, 3) := by decide +kernel
theorem dX4_payOut_18 : decode cX4_payOut 18 = .ok (.getfield 125, 3) := by decide +kernel
theorem dX4_payOut_21 : decode cX4_payOut 21 = .ok (.bipush 15, 2) := by decide +kernel
theorem dX4_payOut_23 : decode cX4_payOut 23 = .ok (.invokestatic 129, 3) := by decide +kernel
theorem dX4_payOut_26 : decode cX4_payOut 26 = .ok (.aload_n 1, 1) := by decide +kernel
theorem dX4_payOut_27 : decode cX4_payOut 27 = .ok (.getfield 133, 3) := by decide +kernel
theorem dX4_payOut_30 : decode cX4_payOut 30 = .ok (.if_icmp .ge 5, 3) := by decide +kernel
theorem dX4_payOut_33 : decode cX4_payOut 33 = .ok (.iconst 0, 1) := by decide +kernel
theorem dX4_payOut_34 : decode cX4_payOut 34 = .ok (.ireturn, 1) := by decide +kernel
theorem dX4_payOut_35 : decode cX4_payOut 35 = .ok (.aload_n 0, 1) := by decide +kernel
theorem dX4_payOut_36 : decode cX4_payOut 36 = .ok (.getfield 33, 3) := by decide +kernel
theorem dX4_payOut_39 : decode cX4_payOut 39 = .ok (.bipush 15, 2) := by decide +kernel
theorem dX4_payOut_41 : decode cX4_payOut 41 = .ok (.aload_n 1, 1) := by decide +kernel
theorem dX4_payOut_42 : decode cX4_payOut 42 = .ok (.getfield 136, 3) := by decide +kernel
theorem dX4_payOut_45 : decode cX4_payOut 45 = .ok (.aload_n 1, 1) := by decide +kernel
theorem dX4_payOut_46 : decode cX4_payOut 46 = .ok (.getfield 133, 3) := by decide +kernel
theorem dX4_payOut_49 : decode cX4_payOut 49 = .ok (.invokevirtual 139, 3) := by decide +kernel
theorem dX4_payOut_52 : decode cX4_payOut 52 = .ok (.aload_n 0, 1) := by decide +kernel
theorem dX4_payOut_53 : decode cX4_payOut 53 = .ok (.getfield 33, 3) := by decide +kernel
theorem dX4_payOut_56 : decode cX4_payOut 56 = .ok (.dup, 1) := by decide +kernel
theorem dX4_payOut_57 : decode cX4_payOut 57 = .ok (.getfield 143, 3) := by decide +kernel
theorem dX4_payOut_60 : decode cX4_payOut 60 = .ok (.lconst 1, 1) := by decide +kernel
theorem dX4_payOut_61 : decode cX4_payOut 61 = .ok (.aload_n 1, 1) := by decide +kernel
theorem dX4_payOut_62 : decode cX4_payOut 62 = .ok (.getfield 71, 3) := by decide +kernel
theorem dX4_payOut_65 : decode cX4_payOut 65 = .ok (.lshl, 1) := by decide +kernel
theorem dX4_payOut_66 : decode cX4_payOut 66 = .ok (.lor, 1) := by decide +kernel
theorem dX4_payOut_67 : decode cX4_payOut 67 = .ok (.putfield 143, 3) := by decide +kernel
theorem dX4_payOut_70 : decode cX4_payOut 70 = .ok (.iconst 1, 1) := by decide +kernel
theorem dX4_payOut_71 : decode cX4_payOut 71 = .ok (.ireturn, 1) := by decide +kernel
theorem dX4_found_0 : decode cX4_found 0 = .ok (.bipush 6, 2) := by decide +kernel
theorem dX4_found_2 : decode cX4_found 2 = .ok (.iconst 5, 1) := by decide +kernel
theorem dX4_found_3 : decode cX4_found 3 = .ok (.iload_n 1, 1) := by decide +kernel
theorem dX4_found_4 : decode cX4_found 4 = .ok (.imul, 1) := by decide +kernel
theorem dX4_found_5 : decode cX4_found 5 = .ok (.iconst 3, 1) := by decide +kernel
theorem dX4_found_6 : decode cX4_found 6 = .ok (.iload_n 2, 1) := by decide +kernel
theorem dX4_found_7 : decode cX4_found 7 = .ok (.imul, 1) := by decide +kernel
theorem dX4_found_8 : decode cX4_found 8 = .ok (.iadd, 1) := by decide +kernel
theorem dX4_found_9 : decode cX4_found 9 = .ok (.bipush 9, 2) := by decide +kernel
theorem dX4_found_11 : decode cX4_found 11 = .ok (.irem, 1) := by decide +kernel
theorem dX4_found_12 : decode cX4_found 12 = .ok (.iadd, 1) := by decide +kernel
theorem dX4_found_13 : decode cX4_found 13 = .ok (.istore 5, 2) := by decide +kernel
theorem dX4_found_15 : decode cX4_found 15 = .ok (.aload_n 0, 1) := by decide +kernel
theorem dX4_found_16 : decode cX4_found 16 = .ok (.getfield 33, 3) := by decide +kernel
theorem dX4_found_19 : decode cX4_found 19 = .ok (.getfield 147, 3) := by decide +kernel
theorem dX4_found_22 : decode cX4_found 22 = .ok (.iload 5, 2) := by decide +kernel
theorem dX4_found_24 : decode cX4_found 24 = .ok (.invokestatic 129, 3) := by decide +kernel
theorem dX4_found_27 : decode cX4_found 27 = .ok (.ifCond .ne 18, 3) := by decide +kernel
theorem dX4_found_30 : decode cX4_found 30 = .ok (.aload_n 0, 1) := by decide +kernel
theorem dX4_found_31 : decode cX4_found 31 = .ok (.getfield 33, 3) := by decide +kernel
theorem dX4_found_34 : decode cX4_found 34 = .ok (.getfield 150, 3) := by decide +kernel
theorem dX4_found_37 : decode cX4_found 37 = .ok (.iload 5, 2) := by decide +kernel
theorem dX4_found_39 : decode cX4_found 39 = .ok (.invokestatic 129, 3) := by decide +kernel
theorem dX4_found_42 : decode cX4_found 42 = .ok (.ifCond .eq 5, 3) := by decide +kernel
theorem dX4_found_45 : decode cX4_found 45 = .ok (.iconst 0, 1) := by decide +kernel
theorem dX4_found_46 : decode cX4_found 46 = .ok (.ireturn, 1) := by decide +kernel
theorem dX4_found_47 : decode cX4_found 47 = .ok (.aload_n 0, 1) := by decide +kernel
theorem dX4_found_48 : decode cX4_found 48 = .ok (.getfield 33, 3) := by decide +kernel
theorem dX4_found_51 : decode cX4_found 51 = .ok (.getfield 147, 3) := by decide +kernel
theorem dX4_found_54 : decode cX4_found 54 = .ok (.iload 5, 2) := by decide +kernel
theorem dX4_found_56 : decode cX4_found 56 = .ok (.iload_n 3, 1) := by decide +kernel
theorem dX4_found_57 : decode cX4_found 57 = .ok (.iconst 1, 1) := by decide +kernel
theorem dX4_found_58 : decode cX4_found 58 = .ok (.iadd, 1) := by decide +kernel
theorem dX4_found_59 : decode cX4_found 59 = .ok (.invokestatic 153, 3) := by decide +kernel
theorem dX4_found_62 : decode cX4_found 62 = .ok (.aload_n 0, 1) := by decide +kernel
theorem dX4_found_63 : decode cX4_found 63 = .ok (.getfield 33, 3) := by decide +kernel
theorem dX4_found_66 : decode cX4_found 66 = .ok (.getfield 150, 3) := by decide +kernel
theorem dX4_found_69 : decode cX4_found 69 = .ok (.iload 5, 2) := by decide +kernel
theorem dX4_found_71 : decode cX4_found 71 = .ok (.iconst 1, 1) := by decide +kernel
theorem dX4_found_72 : decode cX4_found 72 = .ok (.invokestatic 153, 3) := by decide +kernel
theorem dX4_found_75 : decode cX4_found 75 = .ok (.aload_n 0, 1) := by decide +kernel
theorem dX4_found_76 : decode cX4_found 76 = .ok (.getfield 33, 3) := by decide +kernel
theorem dX4_found_79 : decode cX4_found 79 = .ok (.iload_n 1, 1) := by decide +kernel
theorem dX4_found_80 : decode cX4_found 80 = .ok (.iload 5, 2) := by decide +kernel
theorem dX4_found_82 : decode cX4_found 82 = .ok (.iload 4, 2) := by decide +kernel
theorem dX4_found_84 : decode cX4_found 84 = .ok (.invokevirtual 139, 3) := by decide +kernel
theorem dX4_found_87 : decode cX4_found 87 = .ok (.iload 5, 2) := by decide +kernel
theorem dX4_found_89 : decode cX4_found 89 = .ok (.ireturn, 1) := by decide +kernel
theorem dX4_deliver_0 : decode cX4_deliver 0 = .ok (.iload_n 1, 1) := by decide +kernel
theorem dX4_deliver_1 : decode cX4_deliver 1 = .ok (.iconst 1, 1) := by decide +kernel
theorem dX4_deliver_2 : decode cX4_deliver 2 = .ok (.if_icmp .lt 8, 3) := by decide +kernel
theorem dX4_deliver_5 : decode cX4_deliver 5 = .ok (.iload_n 1, 1) := by decide +kernel
theorem dX4_deliver_6 : decode cX4_deliver 6 = .ok (.iconst 4, 1) := by decide +kernel
theorem dX4_deliver_7 : decode cX4_deliver 7 = .ok (.if_icmp .le 5, 3) := by decide +kernel
theorem dX4_deliver_10 : decode cX4_deliver 10 = .ok (.iconst 0, 1) := by decide +kernel
theorem dX4_deliver_11 : decode cX4_deliver 11 = .ok (.ireturn, 1) := by decide +kernel
theorem dX4_deliver_12 : decode cX4_deliver 12 = .ok (.aload_n 0, 1) := by decide +kernel
theorem dX4_deliver_13 : decode cX4_deliver 13 = .ok (.getfield 11, 3) := by decide +kernel
theorem dX4_deliver_16 : decode cX4_deliver 16 = .ok (.iload_n 1, 1) := by decide +kernel
theorem dX4_deliver_17 : decode cX4_deliver 17 = .ok (.iconst 1, 1) := by decide +kernel
theorem dX4_deliver_18 : decode cX4_deliver 18 = .ok (.isub, 1) := by decide +kernel
theorem dX4_deliver_19 : decode cX4_deliver 19 = .ok (.aaload, 1) := by decide +kernel
theorem dX4_deliver_20 : decode cX4_deliver 20 = .ok (.astore 7, 2) := by decide +kernel
theorem dX4_deliver_22 : decode cX4_deliver 22 = .ok (.aload 7, 2) := by decide +kernel
theorem dX4_deliver_24 : decode cX4_deliver 24 = .ok (.iload 6, 2) := by decide +kernel
theorem dX4_deliver_26 : decode cX4_deliver 26 = .ok (.putfield 70, 3) := by decide +kernel
theorem dX4_deliver_29 : decode cX4_deliver 29 = .ok (.aload_n 0, 1) := by decide +kernel
theorem dX4_deliver_30 : decode cX4_deliver 30 = .ok (.getfield 33, 3) := by decide +kernel
theorem dX4_deliver_33 : decode cX4_deliver 33 = .ok (.getfield 147, 3) := by decide +kernel
theorem dX4_deliver_36 : decode cX4_deliver 36 = .ok (.iload_n 3, 1) := by decide +kernel
theorem dX4_deliver_37 : decode cX4_deliver 37 = .ok (.invokestatic 129, 3) := by decide +kernel
theorem dX4_deliver_40 : decode cX4_deliver 40 = .ok (.istore 8, 2) := by decide +kernel
theorem dX4_deliver_42 : decode cX4_deliver 42 = .ok (.iload 8, 2) := by decide +kernel
theorem dX4_deliver_44 : decode cX4_deliver 44 = .ok (.ifCond .ne 16, 3) := by decide +kernel
theorem dX4_deliver_47 : decode cX4_deliver 47 = .ok (.aload_n 0, 1) := by decide +kernel
theorem dX4_deliver_48 : decode cX4_deliver 48 = .ok (.getfield 33, 3) := by decide +kernel
theorem dX4_deliver_51 : decode cX4_deliver 51 = .ok (.iload_n 2, 1) := by decide +kernel
theorem dX4_deliver_52 : decode cX4_deliver 52 = .ok (.iload_n 3, 1) := by decide +kernel
theorem dX4_deliver_53 : decode cX4_deliver 53 = .ok (.iload 4, 2) := by decide +kernel
theorem dX4_deliver_55 : decode cX4_deliver 55 = .ok (.invokevirtual 139, 3) := by decide +kernel
theorem dX4_deliver_58 : decode cX4_deliver 58 = .ok (.iconst 1, 1) := by decide +kernel
theorem dX4_deliver_59 : decode cX4_deliver 59 = .ok (.ireturn, 1) := by decide +kernel
theorem dX4_deliver_60 : decode cX4_deliver 60 = .ok (.aload 7, 2) := by decide +kernel
theorem dX4_deliver_62 : decode cX4_deliver 62 = .ok (.iload 8, 2) := by decide +kernel
theorem dX4_deliver_64 : decode cX4_deliver 64 = .ok (.iconst 1, 1) := by decide +kernel
theorem dX4_deliver_65 : decode cX4_deliver 65 = .ok (.isub, 1) := by decide +kernel
theorem dX4_deliver_66 : decode cX4_deliver 66 = .ok (.iload_n 2, 1) := by decide +kernel
theorem dX4_deliver_67 : decode cX4_deliver 67 = .ok (.iload_n 3, 1) := by decide +kernel
theorem dX4_deliver_68 : decode cX4_deliver 68 = .ok (.iload 4, 2) := by decide +kernel
theorem dX4_deliver_70 : decode cX4_deliver 70 = .ok (.iload 5, 2) := by decide +kernel
theorem dX4_deliver_72 : decode cX4_deliver 72 = .ok (.invokevirtual 157, 3) := by decide +kernel
theorem dX4_deliver_75 : decode cX4_deliver 75 = .ok (.aload 7, 2) := by decide +kernel
theorem dX4_deliver_77 : decode cX4_deliver 77 = .ok (.aload_n 0, 1) := by decide +kernel
theorem dX4_deliver_78 : decode cX4_deliver 78 = .ok (.getfield 33, 3) := by decide +kernel
theorem dX4_deliver_81 : decode cX4_deliver 81 = .ok (.aload_n 0, 1) := by decide +kernel
theorem dX4_deliver_82 : decode cX4_deliver 82 = .ok (.getfield 26, 3) := by decide +kernel
theorem dX4_deliver_85 : decode cX4_deliver 85 = .ok (.getfield 161, 3) := by decide +kernel
theorem dX4_deliver_88 : decode cX4_deliver 88 = .ok (.aload_n 0, 1) := by decide +kernel
theorem dX4_deliver_89 : decode cX4_deliver 89 = .ok (.getfield 67, 3) := by decide +kernel
theorem dX4_deliver_92 : decode cX4_deliver 92 = .ok (.invokevirtual 164, 3) := by decide +kernel
theorem dX4_deliver_95 : decode cX4_deliver 95 = .ok (.aload_n 0, 1) := by decide +kernel
theorem dX4_deliver_96 : decode cX4_deliver 96 = .ok (.getfield 33, 3) := by decide +kernel
theorem dX4_deliver_99 : decode cX4_deliver 99 = .ok (.iload_n 2, 1) := by decide +kernel
theorem dX4_deliver_100 : decode cX4_deliver 100 = .ok (.iload_n 3, 1) := by decide +kernel
theorem dX4_deliver_101 : decode cX4_deliver 101 = .ok (.iload 4, 2) := by decide +kernel
theorem dX4_deliver_103 : decode cX4_deliver 103 = .ok (.invokevirtual 139, 3) := by decide +kernel
theorem dX4_deliver_106 : decode cX4_deliver 106 = .ok (.aload_n 0, 1) := by decide +kernel
theorem dX4_deliver_107 : decode cX4_deliver 107 = .ok (.iload_n 1, 1) := by decide +kernel
theorem dX4_deliver_108 : decode cX4_deliver 108 = .ok (.aload 7, 2) := by decide +kernel
theorem dX4_deliver_110 : decode cX4_deliver 110 = .ok (.invokevirtual 168, 3) := by decide +kernel
theorem dX4_deliver_113 : decode cX4_deliver 113 = .ok (.istore 9, 2) := by decide +kernel
theorem dX4_deliver_115 : decode cX4_deliver 115 = .ok (.iload 9, 2) := by decide +kernel
theorem dX4_deliver_117 : decode cX4_deliver 117 = .ok (.ifCond .ne 9, 3) := by decide +kernel
theorem dX4_deliver_120 : decode cX4_deliver 120 = .ok (.aload_n 0, 1) := by decide +kernel
theorem dX4_deliver_121 : decode cX4_deliver 121 = .ok (.aload 7, 2) := by decide +kernel
theorem dX4_deliver_123 : decode cX4_deliver 123 = .ok (.invokevirtual 172, 3) := by decide +kernel
theorem dX4_deliver_126 : decode cX4_deliver 126 = .ok (.iload 9, 2) := by decide +kernel
theorem dX4_deliver_128 : decode cX4_deliver 128 = .ok (.ireturn, 1) := by decide +kernel
theorem dX4_undo_0 : decode cX4_undo 0 = .ok (.aload_n 0, 1) := by decide +kernel
theorem dX4_undo_1 : decode cX4_undo 1 = .ok (.getfield 33, 3) := by decide +kernel
theorem dX4_undo_4 : decode cX4_undo 4 = .ok (.aload_n 1, 1) := by decide +kernel
theorem dX4_undo_5 : decode cX4_undo 5 = .ok (.getfield 176, 3) := by decide +kernel
theorem dX4_undo_8 : decode cX4_undo 8 = .ok (.invokevirtual 179, 3) := by decide +kernel
theorem dX4_undo_11 : decode cX4_undo 11 = .ok (.aload_n 0, 1) := by decide +kernel
theorem dX4_undo_12 : decode cX4_undo 12 = .ok (.getfield 26, 3) := by decide +kernel
theorem dX4_undo_15 : decode cX4_undo 15 = .ok (.aload_n 1, 1) := by decide +kernel
theorem dX4_undo_16 : decode cX4_undo 16 = .ok (.getfield 183, 3) := by decide +kernel
theorem dX4_undo_19 : decode cX4_undo 19 = .ok (.putfield 161, 3) := by decide +kernel
theorem dX4_undo_22 : decode cX4_undo 22 = .ok (.aload_n 0, 1) := by decide +kernel
theorem dX4_undo_23 : decode cX4_undo 23 = .ok (.aload_n 1, 1) := by decide +kernel
theorem dX4_undo_24 : decode cX4_undo 24 = .ok (.getfield 186, 3) := by decide +kernel
theorem dX4_undo_27 : decode cX4_undo 27 = .ok (.putfield 67, 3) := by decide +kernel
theorem dX4_undo_30 : decode cX4_undo 30 = .ok (.return_, 1) := by decide +kernel
theorem dX4_runProgram_0 : decode cX4_runProgram 0 = .ok (.iconst 0, 1) := by decide +kernel
theorem dX4_runProgram_1 : decode cX4_runProgram 1 = .ok (.istore_n 3, 1) := by decide +kernel
theorem dX4_runProgram_2 : decode cX4_runProgram 2 = .ok (.iload_n 3, 1) := by decide +kernel
theorem dX4_runProgram_3 : decode cX4_runProgram 3 = .ok (.ldc 189, 2) := by decide +kernel
theorem dX4_runProgram_5 : decode cX4_runProgram 5 = .ok (.if_icmp .ge 197, 3) := by decide +kernel
theorem dX4_runProgram_8 : decode cX4_runProgram 8 = .ok (.aload_n 2, 1) := by decide +kernel
theorem dX4_runProgram_9 : decode cX4_runProgram 9 = .ok (.getfield 190, 3) := by decide +kernel
theorem dX4_runProgram_12 : decode cX4_runProgram 12 = .ok (.aload_n 0, 1) := by decide +kernel
theorem dX4_runProgram_13 : decode cX4_runProgram 13 = .ok (.getfield 34, 3) := by decide +kernel
theorem dX4_runProgram_16 : decode cX4_runProgram 16 = .ok (.aload_n 2, 1) := by decide +kernel
theorem dX4_runProgram_17 : decode cX4_runProgram 17 = .ok (.getfield 193, 3) := by decide +kernel
theorem dX4_runProgram_20 : decode cX4_runProgram 20 = .ok (.invokevirtual 196, 3) := by decide +kernel
theorem dX4_runProgram_23 : decode cX4_runProgram 23 = .ok (.if_icmp .lt 5, 3) := by decide +kernel
theorem dX4_runProgram_26 : decode cX4_runProgram 26 = .ok (.iconst 1, 1) := by decide +kernel
theorem dX4_runProgram_27 : decode cX4_runProgram 27 = .ok (.ireturn, 1) := by decide +kernel
theorem dX4_runProgram_28 : decode cX4_runProgram 28 = .ok (.aload_n 0, 1) := by decide +kernel
theorem dX4_runProgram_29 : decode cX4_runProgram 29 = .ok (.getfield 34, 3) := by decide +kernel
theorem dX4_runProgram_32 : decode cX4_runProgram 32 = .ok (.aload_n 2, 1) := by decide +kernel
theorem dX4_runProgram_33 : decode cX4_runProgram 33 = .ok (.getfield 193, 3) := by decide +kernel
theorem dX4_runProgram_36 : decode cX4_runProgram 36 = .ok (.aload_n 2, 1) := by decide +kernel
theorem dX4_runProgram_37 : decode cX4_runProgram 37 = .ok (.getfield 190, 3) := by decide +kernel
theorem dX4_runProgram_40 : decode cX4_runProgram 40 = .ok (.invokevirtual 201, 3) := by decide +kernel
theorem dX4_runProgram_43 : decode cX4_runProgram 43 = .ok (.istore 4, 2) := by decide +kernel
theorem dX4_runProgram_45 : decode cX4_runProgram 45 = .ok (.aload_n 0, 1) := by decide +kernel
theorem dX4_runProgram_46 : decode cX4_runProgram 46 = .ok (.getfield 34, 3) := by decide +kernel
theorem dX4_runProgram_49 : decode cX4_runProgram 49 = .ok (.aload_n 2, 1) := by decide +kernel
theorem dX4_runProgram_50 : decode cX4_runProgram 50 = .ok (.getfield 193, 3) := by decide +kernel
theorem dX4_runProgram_53 : decode cX4_runProgram 53 = .ok (.aload_n 2, 1) := by decide +kernel
theorem dX4_runProgram_54 : decode cX4_runProgram 54 = .ok (.getfield 190, 3) := by decide +kernel
theorem dX4_runProgram_57 : decode cX4_runProgram 57 = .ok (.invokevirtual 204, 3) := by decide +kernel
theorem dX4_runProgram_60 : decode cX4_runProgram 60 = .ok (.istore 5, 2) := by decide +kernel
theorem dX4_runProgram_62 : decode cX4_runProgram 62 = .ok (.getstatic 207, 3) := by decide +kernel
theorem dX4_runProgram_65 : decode cX4_runProgram 65 = .ok (.iload 4, 2) := by decide +kernel
theorem dX4_runProgram_67 : decode cX4_runProgram 67 = .ok (.invokestatic 129, 3) := by decide +kernel
theorem dX4_runProgram_70 : decode cX4_runProgram 70 = .ok (.aload_n 0, 1) := by decide +kernel
theorem dX4_runProgram_71 : decode cX4_runProgram 71 = .ok (.aload_n 2, 1) := by decide +kernel
theorem dX4_runProgram_72 : decode cX4_runProgram 72 = .ok (.iload 4, 2) := by decide +kernel
theorem dX4_runProgram_74 : decode cX4_runProgram 74 = .ok (.iload 5, 2) := by decide +kernel
theorem dX4_runProgram_76 : decode cX4_runProgram 76 = .ok (.invokevirtual 210, 3) := by decide +kernel
theorem dX4_runProgram_79 : decode cX4_runProgram 79 = .ok (.iadd, 1) := by decide +kernel
theorem dX4_runProgram_80 : decode cX4_runProgram 80 = .ok (.istore 6, 2) := by decide +kernel
theorem dX4_runProgram_82 : decode cX4_runProgram 82 = .ok (.aload_n 2, 1) := by decide +kernel
theorem dX4_runProgram_83 : decode cX4_runProgram 83 = .ok (.iload 4, 2) := by decide +kernel
theorem dX4_runProgram_85 : decode cX4_runProgram 85 = .ok (.invokevirtual 214, 3) := by decide +kernel
theorem dX4_runProgram_88 : decode cX4_runProgram 88 = .ok (.ifCond .eq 12, 3) := by decide +kernel
theorem dX4_runProgram_91 : decode cX4_runProgram 91 = .ok (.iload 6, 2) := by decide +kernel
theorem dX4_runProgram_93 : decode cX4_runProgram 93 = .ok (.aload_n 2, 1) := by decide +kernel
theorem dX4_runProgram_94 : decode cX4_runProgram 94 = .ok (.getfield 70, 3) := by decide +kernel
theorem dX4_runProgram_97 : decode cX4_runProgram 97 = .ok (.if_icmp .le 10, 3) := by decide +kernel
theorem dX4_runProgram_100 : decode cX4_runProgram 100 = .ok (.aload_n 2, 1) := by decide +kernel
theorem dX4_runProgram_101 : decode cX4_runProgram 101 = .ok (.iconst 0, 1) := by decide +kernel
theorem dX4_runProgram_102 : decode cX4_runProgram 102 = .ok (.putfield 70, 3) := by decide +kernel
theorem dX4_runProgram_105 : decode cX4_runProgram 105 = .ok (.iconst 0, 1) := by decide +kernel
theorem dX4_runProgram_106 : decode cX4_runProgram 106 = .ok (.ireturn, 1) := by decide +kernel
theorem dX4_runProgram_107 : decode cX4_runProgram 107 = .ok (.aload_n 2, 1) := by decide +kernel
theorem dX4_runProgram_108 : decode cX4_runProgram 108 = .ok (.dup, 1) := by decide +kernel
theorem dX4_runProgram_109 : decode cX4_runProgram 109 = .ok (.getfield 70, 3) := by decide +kernel
theorem dX4_runProgram_112 : decode cX4_runProgram 112 = .ok (.iload 6, 2) := by decide +kernel
theorem dX4_runProgram_114 : decode cX4_runProgram 114 = .ok (.isub, 1) := by decide +kernel
theorem dX4_runProgram_115 : decode cX4_runProgram 115 = .ok (.putfield 70, 3) := by decide +kernel
theorem dX4_runProgram_118 : decode cX4_runProgram 118 = .ok (.aload_n 2, 1) := by decide +kernel
theorem dX4_runProgram_119 : decode cX4_runProgram 119 = .ok (.dup, 1) := by decide +kernel
theorem dX4_runProgram_120 : decode cX4_runProgram 120 = .ok (.getfield 190, 3) := by decide +kernel
theorem dX4_runProgram_123 : decode cX4_runProgram 123 = .ok (.iconst 1, 1) := by decide +kernel
theorem dX4_runProgram_124 : decode cX4_runProgram 124 = .ok (.iadd, 1) := by decide +kernel
theorem dX4_runProgram_125 : decode cX4_runProgram 125 = .ok (.putfield 190, 3) := by decide +kernel
theorem dX4_runProgram_128 : decode cX4_runProgram 128 = .ok (.iload 4, 2) := by decide +kernel
theorem dX4_runProgram_130 : decode cX4_runProgram 130 = .ok (.bipush 22, 2) := by decide +kernel
theorem dX4_runProgram_132 : decode cX4_runProgram 132 = .ok (.if_icmp .lt 11, 3) := by decide +kernel
theorem dX4_runProgram_135 : decode cX4_runProgram 135 = .ok (.aload_n 0, 1) := by decide +kernel
theorem dX4_runProgram_136 : decode cX4_runProgram 136 = .ok (.aload_n 2, 1) := by decide +kernel
theorem dX4_runProgram_137 : decode cX4_runProgram 137 = .ok (.iload 4, 2) := by decide +kernel
theorem dX4_runProgram_139 : decode cX4_runProgram 139 = .ok (.invokevirtual 217, 3) := by decide +kernel
theorem dX4_runProgram_142 : decode cX4_runProgram 142 = .ok (.ireturn, 1) := by decide +kernel
theorem dX4_runProgram_143 : decode cX4_runProgram 143 = .ok (.iload 4, 2) := by decide +kernel
theorem dX4_runProgram_145 : decode cX4_runProgram 145 = .ok (.bipush 19, 2) := by decide +kernel
theorem dX4_runProgram_147 : decode cX4_runProgram 147 = .ok (.if_icmp .ne 12, 3) := by decide +kernel
theorem dX4_runProgram_150 : decode cX4_runProgram 150 = .ok (.aload_n 0, 1) := by decide +kernel
theorem dX4_runProgram_151 : decode cX4_runProgram 151 = .ok (.iload_n 1, 1) := by decide +kernel
theorem dX4_runProgram_152 : decode cX4_runProgram 152 = .ok (.aload_n 2, 1) := by decide +kernel
theorem dX4_runProgram_153 : decode cX4_runProgram 153 = .ok (.invokevirtual 221, 3) := by decide +kernel
theorem dX4_runProgram_156 : decode cX4_runProgram 156 = .ok (.goto 40, 3) := by decide +kernel
theorem dX4_runProgram_159 : decode cX4_runProgram 159 = .ok (.iload 4, 2) := by decide +kernel
theorem dX4_runProgram_161 : decode cX4_runProgram 161 = .ok (.bipush 21, 2) := by decide +kernel
theorem dX4_runProgram_163 : decode cX4_runProgram 163 = .ok (.if_icmp .ne 13, 3) := by decide +kernel
theorem dX4_runProgram_166 : decode cX4_runProgram 166 = .ok (.aload_n 0, 1) := by decide +kernel
theorem dX4_runProgram_167 : decode cX4_runProgram 167 = .ok (.aload_n 2, 1) := by decide +kernel
theorem dX4_runProgram_168 : decode cX4_runProgram 168 = .ok (.iload 5, 2) := by decide +kernel
theorem dX4_runProgram_170 : decode cX4_runProgram 170 = .ok (.invokevirtual 225, 3) := by decide +kernel
theorem dX4_runProgram_173 : decode cX4_runProgram 173 = .ok (.goto 23, 3) := by decide +kernel
theorem dX4_runProgram_176 : decode cX4_runProgram 176 = .ok (.aload_n 0, 1) := by decide +kernel
theorem dX4_runProgram_177 : decode cX4_runProgram 177 = .ok (.aload_n 2, 1) := by decide +kernel
theorem dX4_runProgram_178 : decode cX4_runProgram 178 = .ok (.iload 4, 2) := by decide +kernel
theorem dX4_runProgram_180 : decode cX4_runProgram 180 = .ok (.iload 5, 2) := by decide +kernel
theorem dX4_runProgram_182 : decode cX4_runProgram 182 = .ok (.invokevirtual 229, 3) := by decide +kernel
theorem dX4_runProgram_185 : decode cX4_runProgram 185 = .ok (.ifCond .ne 11, 3) := by decide +kernel
theorem dX4_runProgram_188 : decode cX4_runProgram 188 = .ok (.aload_n 2, 1) := by decide +kernel
theorem dX4_runProgram_189 : decode cX4_runProgram 189 = .ok (.iload 4, 2) := by decide +kernel
theorem dX4_runProgram_191 : decode cX4_runProgram 191 = .ok (.iload 5, 2) := by decide +kernel
theorem dX4_runProgram_193 : decode cX4_runProgram 193 = .ok (.invokevirtual 233, 3) := by decide +kernel
theorem dX4_runProgram_196 : decode cX4_runProgram 196 = .ok (.iinc 3 1, 3) := by decide +kernel
theorem dX4_runProgram_199 : decode cX4_runProgram 199 = .ok (.goto (-197), 3) := by decide +kernel
theorem dX4_runProgram_202 : decode cX4_runProgram 202 = .ok (.iconst 0, 1) := by decide +kernel
theorem dX4_runProgram_203 : decode cX4_runProgram 203 = .ok (.ireturn, 1) := by decide +kernel
theorem dX4_extraGas_0 : decode cX4_extraGas 0 = .ok (.iload_n 2, 1) := by decide +kernel
theorem dX4_extraGas_1 : decode cX4_extraGas 1 = .ok (.bipush 17, 2) := by decide +kernel
theorem dX4_extraGas_3 : decode cX4_extraGas 3 = .ok (.if_icmp .eq 9, 3) := by decide +kernel
theorem dX4_extraGas_6 : decode cX4_extraGas 6 = .ok (.iload_n 2, 1) := by decide +kernel
theorem dX4_extraGas_7 : decode cX4_extraGas 7 = .ok (.bipush 18, 2) := by decide +kernel
theorem dX4_extraGas_9 : decode cX4_extraGas 9 = .ok (.if_icmp .ne 9, 3) := by decide +kernel
theorem dX4_extraGas_12 : decode cX4_extraGas 12 = .ok (.aload_n 1, 1) := by decide +kernel
theorem dX4_extraGas_13 : decode cX4_extraGas 13 = .ok (.iload_n 3, 1) := by decide +kernel
theorem dX4_extraGas_14 : decode cX4_extraGas 14 = .ok (.invokevirtual 236, 3) := by decide +kernel
theorem dX4_extraGas_17 : decode cX4_extraGas 17 = .ok (.ireturn, 1) := by decide +kernel
theorem dX4_extraGas_18 : decode cX4_extraGas 18 = .ok (.iload_n 2, 1) := by decide +kernel
theorem dX4_extraGas_19 : decode cX4_extraGas 19 = .ok (.bipush 10, 2) := by decide +kernel
theorem dX4_extraGas_21 : decode cX4_extraGas 21 = .ok (.if_icmp .ne 35, 3) := by decide +kernel
theorem dX4_extraGas_24 : decode cX4_extraGas 24 = .ok (.aload_n 0, 1) := by decide +kernel
theorem dX4_extraGas_25 : decode cX4_extraGas 25 = .ok (.getfield 33, 3) := by decide +kernel
theorem dX4_extraGas_28 : decode cX4_extraGas 28 = .ok (.getfield 239, 3) := by decide +kernel
theorem dX4_extraGas_31 : decode cX4_extraGas 31 = .ok (.aload_n 1, 1) := by decide +kernel
theorem dX4_extraGas_32 : decode cX4_extraGas 32 = .ok (.getfield 242, 3) := by decide +kernel
theorem dX4_extraGas_35 : decode cX4_extraGas 35 = .ok (.iconst 4, 1) := by decide +kernel
theorem dX4_extraGas_36 : decode cX4_extraGas 36 = .ok (.imul, 1) := by decide +kernel
theorem dX4_extraGas_37 : decode cX4_extraGas 37 = .ok (.iload_n 3, 1) := by decide +kernel
theorem dX4_extraGas_38 : decode cX4_extraGas 38 = .ok (.iadd, 1) := by decide +kernel
theorem dX4_extraGas_39 : decode cX4_extraGas 39 = .ok (.invokestatic 129, 3) := by decide +kernel
theorem dX4_extraGas_42 : decode cX4_extraGas 42 = .ok (.ifCond .ne 14, 3) := by decide +kernel
theorem dX4_extraGas_45 : decode cX4_extraGas 45 = .ok (.aload_n 1, 1) := by decide +kernel
theorem dX4_extraGas_46 : decode cX4_extraGas 46 = .ok (.invokevirtual 245, 3) := by decide +kernel
theorem dX4_extraGas_49 : decode cX4_extraGas 49 = .ok (.ifCond .eq 7, 3) := by decide +kernel
theorem dX4_extraGas_52 : decode cX4_extraGas 52 = .ok (.iconst 1, 1) := by decide +kernel
theorem dX4_extraGas_53 : decode cX4_extraGas 53 = .ok (.goto 4, 3) := by decide +kernel
theorem dX4_extraGas_56 : decode cX4_extraGas 56 = .ok (.iconst 0, 1) := by decide +kernel
theorem dX4_extraGas_57 : decode cX4_extraGas 57 = .ok (.istore 4, 2) := by decide +kernel
theorem dX4_extraGas_59 : decode cX4_extraGas 59 = .ok (.iload 4, 2) := by decide +kernel
theorem dX4_extraGas_61 : decode cX4_extraGas 61 = .ok (.ifCond .eq 13, 3) := by decide +kernel
theorem dX4_extraGas_64 : decode cX4_extraGas 64 = .ok (.aload_n 0, 1) := by decide +kernel
theorem dX4_extraGas_65 : decode cX4_extraGas 65 = .ok (.getfield 39, 3) := by decide +kernel
theorem dX4_extraGas_68 : decode cX4_extraGas 68 = .ok (.bipush 30, 2) := by decide +kernel
theorem dX4_extraGas_70 : decode cX4_extraGas 70 = .ok (.isub, 1) := by decide +kernel
theorem dX4_extraGas_71 : decode cX4_extraGas 71 = .ok (.goto 4, 3) := by decide +kernel
theorem dX4_extraGas_74 : decode cX4_extraGas 74 = .ok (.iconst 0, 1) := by decide +kernel
theorem dX4_extraGas_75 : decode cX4_extraGas 75 = .ok (.ireturn, 1) := by decide +kernel
theorem dX4_finish_0 : decode cX4_finish 0 = .ok (.iload_n 2, 1) := by decide +kernel
theorem dX4_finish_1 : decode cX4_finish 1 = .ok (.bipush 22, 2) := by decide +kernel
theorem dX4_finish_3 : decode cX4_finish 3 = .ok (.if_icmp .ne 98, 3) := by decide +kernel
theorem dX4_finish_6 : decode cX4_finish 6 = .ok (.aload_n 1, 1) := by decide +kernel
theorem dX4_finish_7 : decode cX4_finish 7 = .ok (.invokevirtual 249, 3) := by decide +kernel
theorem dX4_finish_10 : decode cX4_finish 10 = .ok (.bipush 16, 2) := by decide +kernel
theorem dX4_finish_12 : decode cX4_finish 12 = .ok (.irem, 1) := by decide +kernel
theorem dX4_finish_13 : decode cX4_finish 13 = .ok (.istore_n 3, 1) := by decide +kernel
theorem dX4_finish_14 : decode cX4_finish 14 = .ok (.aload_n 0, 1) := by decide +kernel
theorem dX4_finish_15 : decode cX4_finish 15 = .ok (.getfield 33, 3) := by decide +kernel
theorem dX4_finish_18 : decode cX4_finish 18 = .ok (.getfield 125, 3) := by decide +kernel
theorem dX4_finish_21 : decode cX4_finish 21 = .ok (.aload_n 1, 1) := by decide +kernel
theorem dX4_finish_22 : decode cX4_finish 22 = .ok (.getfield 242, 3) := by decide +kernel
theorem dX4_finish_25 : decode cX4_finish 25 = .ok (.invokestatic 129, 3) := by decide +kernel
theorem dX4_finish_28 : decode cX4_finish 28 = .ok (.istore 4, 2) := by decide +kernel
theorem dX4_finish_30 : decode cX4_finish 30 = .ok (.aload_n 0, 1) := by decide +kernel
theorem dX4_finish_31 : decode cX4_finish 31 = .ok (.getfield 33, 3) := by decide +kernel
theorem dX4_finish_34 : decode cX4_finish 34 = .ok (.aload_n 1, 1) := by decide +kernel
theorem dX4_finish_35 : decode cX4_finish 35 = .ok (.getfield 242, 3) := by decide +kernel
theorem dX4_finish_38 : decode cX4_finish 38 = .ok (.iload 4, 2) := by decide +kernel
theorem dX4_finish_40 : decode cX4_finish 40 = .ok (.ineg, 1) := by decide +kernel
theorem dX4_finish_41 : decode cX4_finish 41 = .ok (.invokevirtual 63, 3) := by decide +kernel
theorem dX4_finish_44 : decode cX4_finish 44 = .ok (.iload_n 3, 1) := by decide +kernel
theorem dX4_finish_45 : decode cX4_finish 45 = .ok (.aload_n 1, 1) := by decide +kernel
theorem dX4_finish_46 : decode cX4_finish 46 = .ok (.getfield 242, 3) := by decide +kernel
theorem dX4_finish_49 : decode cX4_finish 49 = .ok (.if_icmp .ne 20, 3) := by decide +kernel
theorem dX4_finish_52 : decode cX4_finish 52 = .ok (.aload_n 0, 1) := by decide +kernel
theorem dX4_finish_53 : decode cX4_finish 53 = .ok (.getfield 33, 3) := by decide +kernel
theorem dX4_finish_56 : decode cX4_finish 56 = .ok (.dup, 1) := by decide +kernel
theorem dX4_finish_57 : decode cX4_finish 57 = .ok (.getfield 115, 3) := by decide +kernel
theorem dX4_finish_60 : decode cX4_finish 60 = .ok (.iload 4, 2) := by decide +kernel
theorem dX4_finish_62 : decode cX4_finish 62 = .ok (.iadd, 1) := by decide +kernel
theorem dX4_finish_63 : decode cX4_finish 63 = .ok (.putfield 115, 3) := by decide +kernel
theorem dX4_finish_66 : decode cX4_finish 66 = .ok (.goto 13, 3) := by decide +kernel
theorem dX4_finish_69 : decode cX4_finish 69 = .ok (.aload_n 0, 1) := by decide +kernel
theorem dX4_finish_70 : decode cX4_finish 70 = .ok (.getfield 33, 3) := by decide +kernel
theorem dX4_finish_73 : decode cX4_finish 73 = .ok (.iload_n 3, 1) := by decide +kernel
theorem dX4_finish_74 : decode cX4_finish 74 = .ok (.iload 4, 2) := by decide +kernel
theorem dX4_finish_76 : decode cX4_finish 76 = .ok (.invokevirtual 63, 3) := by decide +kernel
theorem dX4_finish_79 : decode cX4_finish 79 = .ok (.aload_n 0, 1) := by decide +kernel
theorem dX4_finish_80 : decode cX4_finish 80 = .ok (.getfield 33, 3) := by decide +kernel
theorem dX4_finish_83 : decode cX4_finish 83 = .ok (.aload_n 1, 1) := by decide +kernel
theorem dX4_finish_84 : decode cX4_finish 84 = .ok (.getfield 242, 3) := by decide +kernel
theorem dX4_finish_87 : decode cX4_finish 87 = .ok (.invokevirtual 252, 3) := by decide +kernel
theorem dX4_finish_90 : decode cX4_finish 90 = .ok (.aload_n 0, 1) := by decide +kernel
theorem dX4_finish_91 : decode cX4_finish 91 = .ok (.dup, 1) := by decide +kernel
theorem dX4_finish_92 : decode cX4_finish 92 = .ok (.getfield 67, 3) := by decide +kernel
theorem dX4_finish_95 : decode cX4_finish 95 = .ok (.bipush 60, 2) := by decide +kernel
theorem dX4_finish_97 : decode cX4_finish 97 = .ok (.iadd, 1) := by decide +kernel
theorem dX4_finish_98 : decode cX4_finish 98 = .ok (.putfield 67, 3) := by decide +kernel
theorem dX4_finish_101 : decode cX4_finish 101 = .ok (.iload_n 2, 1) := by decide +kernel
theorem dX4_finish_102 : decode cX4_finish 102 = .ok (.bipush 23, 2) := by decide +kernel
theorem dX4_finish_104 : decode cX4_finish 104 = .ok (.if_icmp .eq 7, 3) := by decide +kernel
theorem dX4_finish_107 : decode cX4_finish 107 = .ok (.iconst 1, 1) := by decide +kernel
theorem dX4_finish_108 : decode cX4_finish 108 = .ok (.goto 4, 3) := by decide +kernel
theorem dX4_finish_111 : decode cX4_finish 111 = .ok (.iconst 0, 1) := by decide +kernel
theorem dX4_finish_112 : decode cX4_finish 112 = .ok (.ireturn, 1) := by decide +kernel
theorem dX4_touchState_0 : decode cX4_touchState 0 = .ok (.iload_n 2, 1) := by decide +kernel
theorem dX4_touchState_1 : decode cX4_touchState 1 = .ok (.lookupswitch 131 #[(9, 43), (10, 67), (16, 85), (20, 111)], 43) := by decide +kernel
theorem dX4_touchState_44 : decode cX4_touchState 44 = .ok (.aload_n 1, 1) := by decide +kernel
theorem dX4_touchState_45 : decode cX4_touchState 45 = .ok (.aload_n 0, 1) := by decide +kernel
theorem dX4_touchState_46 : decode cX4_touchState 46 = .ok (.getfield 33, 3) := by decide +kernel
theorem dX4_touchState_49 : decode cX4_touchState 49 = .ok (.getfield 239, 3) := by decide +kernel
theorem dX4_touchState_52 : decode cX4_touchState 52 = .ok (.aload_n 1, 1) := by decide +kernel
theorem dX4_touchState_53 : decode cX4_touchState 53 = .ok (.getfield 242, 3) := by decide +kernel
theorem dX4_touchState_56 : decode cX4_touchState 56 = .ok (.iconst 4, 1) := by decide +kernel
theorem dX4_touchState_57 : decode cX4_touchState 57 = .ok (.imul, 1) := by decide +kernel
theorem dX4_touchState_58 : decode cX4_touchState 58 = .ok (.iload_n 3, 1) := by decide +kernel
theorem dX4_touchState_59 : decode cX4_touchState 59 = .ok (.iadd, 1) := by decide +kernel
theorem dX4_touchState_60 : decode cX4_touchState 60 = .ok (.invokestatic 129, 3) := by decide +kernel
theorem dX4_touchState_63 : decode cX4_touchState 63 = .ok (.invokevirtual 255, 3) := by decide +kernel
theorem dX4_touchState_66 : decode cX4_touchState 66 = .ok (.iconst 1, 1) := by decide +kernel
theorem dX4_touchState_67 : decode cX4_touchState 67 = .ok (.ireturn, 1) := by decide +kernel
theorem dX4_touchState_68 : decode cX4_touchState 68 = .ok (.aload_n 0, 1) := by decide +kernel
theorem dX4_touchState_69 : decode cX4_touchState 69 = .ok (.aload_n 1, 1) := by decide +kernel
theorem dX4_touchState_70 : decode cX4_touchState 70 = .ok (.getfield 242, 3) := by decide +kernel
theorem dX4_touchState_73 : decode cX4_touchState 73 = .ok (.iconst 4, 1) := by decide +kernel
theorem dX4_touchState_74 : decode cX4_touchState 74 = .ok (.imul, 1) := by decide +kernel
theorem dX4_touchState_75 : decode cX4_touchState 75 = .ok (.iload_n 3, 1) := by decide +kernel
theorem dX4_touchState_76 : decode cX4_touchState 76 = .ok (.iadd, 1) := by decide +kernel
theorem dX4_touchState_77 : decode cX4_touchState 77 = .ok (.aload_n 1, 1) := by decide +kernel
theorem dX4_touchState_78 : decode cX4_touchState 78 = .ok (.invokevirtual 249, 3) := by decide +kernel
theorem dX4_touchState_81 : decode cX4_touchState 81 = .ok (.invokevirtual 258, 3) := by decide +kernel
theorem dX4_touchState_84 : decode cX4_touchState 84 = .ok (.iconst 1, 1) := by decide +kernel
theorem dX4_touchState_85 : decode cX4_touchState 85 = .ok (.ireturn, 1) := by decide +kernel
theorem dX4_touchState_86 : decode cX4_touchState 86 = .ok (.aload_n 1, 1) := by decide +kernel
theorem dX4_touchState_87 : decode cX4_touchState 87 = .ok (.aload_n 0, 1) := by decide +kernel
theorem dX4_touchState_88 : decode cX4_touchState 88 = .ok (.getfield 33, 3) := by decide +kernel
theorem dX4_touchState_91 : decode cX4_touchState 91 = .ok (.getfield 125, 3) := by decide +kernel
theorem dX4_touchState_94 : decode cX4_touchState 94 = .ok (.aload_n 1, 1) := by decide +kernel
theorem dX4_touchState_95 : decode cX4_touchState 95 = .ok (.invokevirtual 249, 3) := by decide +kernel
theorem dX4_touchState_98 : decode cX4_touchState 98 = .ok (.bipush 16, 2) := by decide +kernel
theorem dX4_touchState_100 : decode cX4_touchState 100 = .ok (.irem, 1) := by decide +kernel
theorem dX4_touchState_101 : decode cX4_touchState 101 = .ok (.invokestatic 129, 3) := by decide +kernel
theorem dX4_touchState_104 : decode cX4_touchState 104 = .ok (.ldc 189, 2) := by decide +kernel
theorem dX4_touchState_106 : decode cX4_touchState 106 = .ok (.irem, 1) := by decide +kernel
theorem dX4_touchState_107 : decode cX4_touchState 107 = .ok (.invokevirtual 255, 3) := by decide +kernel
theorem dX4_touchState_110 : decode cX4_touchState 110 = .ok (.iconst 1, 1) := by decide +kernel
theorem dX4_touchState_111 : decode cX4_touchState 111 = .ok (.ireturn, 1) := by decide +kernel
theorem dX4_touchState_112 : decode cX4_touchState 112 = .ok (.aload_n 0, 1) := by decide +kernel
theorem dX4_touchState_113 : decode cX4_touchState 113 = .ok (.getfield 26, 3) := by decide +kernel
theorem dX4_touchState_116 : decode cX4_touchState 116 = .ok (.aload_n 1, 1) := by decide +kernel
theorem dX4_touchState_117 : decode cX4_touchState 117 = .ok (.invokevirtual 249, 3) := by decide +kernel
theorem dX4_touchState_120 : decode cX4_touchState 120 = .ok (.bipush 16, 2) := by decide +kernel
theorem dX4_touchState_122 : decode cX4_touchState 122 = .ok (.irem, 1) := by decide +kernel
theorem dX4_touchState_123 : decode cX4_touchState 123 = .ok (.aload_n 1, 1) := by decide +kernel
theorem dX4_touchState_124 : decode cX4_touchState 124 = .ok (.getfield 242, 3) := by decide +kernel
theorem dX4_touchState_127 : decode cX4_touchState 127 = .ok (.invokevirtual 261, 3) := by decide +kernel
theorem dX4_touchState_130 : decode cX4_touchState 130 = .ok (.iconst 1, 1) := by decide +kernel
theorem dX4_touchState_131 : decode cX4_touchState 131 = .ok (.ireturn, 1) := by decide +kernel
theorem dX4_touchState_132 : decode cX4_touchState 132 = .ok (.iconst 0, 1) := by decide +kernel
theorem dX4_touchState_133 : decode cX4_touchState 133 = .ok (.ireturn, 1) := by decide +kernel
theorem dX4_write_0 : decode cX4_write 0 = .ok (.aload_n 0, 1) := by decide +kernel
theorem dX4_write_1 : decode cX4_write 1 = .ok (.getfield 33, 3) := by decide +kernel
theorem dX4_write_4 : decode cX4_write 4 = .ok (.getfield 239, 3) := by decide +kernel
theorem dX4_write_7 : decode cX4_write 7 = .ok (.iload_n 1, 1) := by decide +kernel
theorem dX4_write_8 : decode cX4_write 8 = .ok (.invokestatic 129, 3) := by decide +kernel
theorem dX4_write_11 : decode cX4_write 11 = .ok (.ifCond .eq 18, 3) := by decide +kernel
theorem dX4_write_14 : decode cX4_write 14 = .ok (.iload_n 2, 1) := by decide +kernel
theorem dX4_write_15 : decode cX4_write 15 = .ok (.ifCond .ne 14, 3) := by decide +kernel
theorem dX4_write_18 : decode cX4_write 18 = .ok (.aload_n 0, 1) := by decide +kernel
theorem dX4_write_19 : decode cX4_write 19 = .ok (.dup, 1) := by decide +kernel
theorem dX4_write_20 : decode cX4_write 20 = .ok (.getfield 67, 3) := by decide +kernel
theorem dX4_write_23 : decode cX4_write 23 = .ok (.bipush 40, 2) := by decide +kernel
theorem dX4_write_25 : decode cX4_write 25 = .ok (.iadd, 1) := by decide +kernel
theorem dX4_write_26 : decode cX4_write 26 = .ok (.putfield 67, 3) := by decide +kernel
theorem dX4_write_29 : decode cX4_write 29 = .ok (.aload_n 0, 1) := by decide +kernel
theorem dX4_write_30 : decode cX4_write 30 = .ok (.getfield 33, 3) := by decide +kernel
theorem dX4_write_33 : decode cX4_write 33 = .ok (.getfield 239, 3) := by decide +kernel
theorem dX4_write_36 : decode cX4_write 36 = .ok (.iload_n 1, 1) := by decide +kernel
theorem dX4_write_37 : decode cX4_write 37 = .ok (.iload_n 2, 1) := by decide +kernel
theorem dX4_write_38 : decode cX4_write 38 = .ok (.invokestatic 153, 3) := by decide +kernel
theorem dX4_write_41 : decode cX4_write 41 = .ok (.return_, 1) := by decide +kernel
theorem dX4_callFrom_0 : decode cX4_callFrom 0 = .ok (.aload_n 2, 1) := by decide +kernel
theorem dX4_callFrom_1 : decode cX4_callFrom 1 = .ok (.invokevirtual 249, 3) := by decide +kernel
theorem dX4_callFrom_4 : decode cX4_callFrom 4 = .ok (.istore_n 3, 1) := by decide +kernel
theorem dX4_callFrom_5 : decode cX4_callFrom 5 = .ok (.aload_n 2, 1) := by decide +kernel
theorem dX4_callFrom_6 : decode cX4_callFrom 6 = .ok (.invokevirtual 249, 3) := by decide +kernel
theorem dX4_callFrom_9 : decode cX4_callFrom 9 = .ok (.istore 4, 2) := by decide +kernel
theorem dX4_callFrom_11 : decode cX4_callFrom 11 = .ok (.aload_n 2, 1) := by decide +kernel
theorem dX4_callFrom_12 : decode cX4_callFrom 12 = .ok (.invokevirtual 249, 3) := by decide +kernel
theorem dX4_callFrom_15 : decode cX4_callFrom 15 = .ok (.bipush 16, 2) := by decide +kernel
theorem dX4_callFrom_17 : decode cX4_callFrom 17 = .ok (.irem, 1) := by decide +kernel
theorem dX4_callFrom_18 : decode cX4_callFrom 18 = .ok (.istore 5, 2) := by decide +kernel
theorem dX4_callFrom_20 : decode cX4_callFrom 20 = .ok (.iload_n 1, 1) := by decide +kernel
theorem dX4_callFrom_21 : decode cX4_callFrom 21 = .ok (.iconst 1, 1) := by decide +kernel
theorem dX4_callFrom_22 : decode cX4_callFrom 22 = .ok (.if_icmp .lt 27, 3) := by decide +kernel
theorem dX4_callFrom_25 : decode cX4_callFrom 25 = .ok (.iload_n 1, 1) := by decide +kernel
theorem dX4_callFrom_26 : decode cX4_callFrom 26 = .ok (.iconst 4, 1) := by decide +kernel
theorem dX4_callFrom_27 : decode cX4_callFrom 27 = .ok (.if_icmp .ge 22, 3) := by decide +kernel
theorem dX4_callFrom_30 : decode cX4_callFrom 30 = .ok (.aload_n 0, 1) := by decide +kernel
theorem dX4_callFrom_31 : decode cX4_callFrom 31 = .ok (.getfield 33, 3) := by decide +kernel
theorem dX4_callFrom_34 : decode cX4_callFrom 34 = .ok (.getfield 125, 3) := by decide +kernel
theorem dX4_callFrom_37 : decode cX4_callFrom 37 = .ok (.aload_n 2, 1) := by decide +kernel
theorem dX4_callFrom_38 : decode cX4_callFrom 38 = .ok (.getfield 242, 3) := by decide +kernel
theorem dX4_callFrom_41 : decode cX4_callFrom 41 = .ok (.invokestatic 129, 3) := by decide +kernel
theorem dX4_callFrom_44 : decode cX4_callFrom 44 = .ok (.iload 4, 2) := by decide +kernel
theorem dX4_callFrom_46 : decode cX4_callFrom 46 = .ok (.if_icmp .ge 9, 3) := by decide +kernel
theorem dX4_callFrom_49 : decode cX4_callFrom 49 = .ok (.aload_n 2, 1) := by decide +kernel
theorem dX4_callFrom_50 : decode cX4_callFrom 50 = .ok (.iconst 0, 1) := by decide +kernel
theorem dX4_callFrom_51 : decode cX4_callFrom 51 = .ok (.invokevirtual 255, 3) := by decide +kernel
theorem dX4_callFrom_54 : decode cX4_callFrom 54 = .ok (.return_, 1) := by decide +kernel
theorem dX4_callFrom_55 : decode cX4_callFrom 55 = .ok (.aload_n 2, 1) := by decide +kernel
theorem dX4_callFrom_56 : decode cX4_callFrom 56 = .ok (.getfield 70, 3) := by decide +kernel
theorem dX4_callFrom_59 : decode cX4_callFrom 59 = .ok (.aload_n 2, 1) := by decide +kernel
theorem dX4_callFrom_60 : decode cX4_callFrom 60 = .ok (.getfield 70, 3) := by decide +kernel
theorem dX4_callFrom_63 : decode cX4_callFrom 63 = .ok (.iconst 4, 1) := by decide +kernel
theorem dX4_callFrom_64 : decode cX4_callFrom 64 = .ok (.idiv, 1) := by decide +kernel
theorem dX4_callFrom_65 : decode cX4_callFrom 65 = .ok (.isub, 1) := by decide +kernel
theorem dX4_callFrom_66 : decode cX4_callFrom 66 = .ok (.istore 6, 2) := by decide +kernel
theorem dX4_callFrom_68 : decode cX4_callFrom 68 = .ok (.aload_n 0, 1) := by decide +kernel
theorem dX4_callFrom_69 : decode cX4_callFrom 69 = .ok (.iload_n 1, 1) := by decide +kernel
theorem dX4_callFrom_70 : decode cX4_callFrom 70 = .ok (.iconst 1, 1) := by decide +kernel
theorem dX4_callFrom_71 : decode cX4_callFrom 71 = .ok (.iadd, 1) := by decide +kernel
theorem dX4_callFrom_72 : decode cX4_callFrom 72 = .ok (.aload_n 2, 1) := by decide +kernel
theorem dX4_callFrom_73 : decode cX4_callFrom 73 = .ok (.getfield 242, 3) := by decide +kernel
theorem dX4_callFrom_76 : decode cX4_callFrom 76 = .ok (.iload 5, 2) := by decide +kernel
theorem dX4_callFrom_78 : decode cX4_callFrom 78 = .ok (.iload 4, 2) := by decide +kernel
theorem dX4_callFrom_80 : decode cX4_callFrom 80 = .ok (.iload_n 3, 1) := by decide +kernel
theorem dX4_callFrom_81 : decode cX4_callFrom 81 = .ok (.iload 6, 2) := by decide +kernel
theorem dX4_callFrom_83 : decode cX4_callFrom 83 = .ok (.invokevirtual 98, 3) := by decide +kernel
theorem dX4_callFrom_86 : decode cX4_callFrom 86 = .ok (.istore 7, 2) := by decide +kernel
theorem dX4_callFrom_88 : decode cX4_callFrom 88 = .ok (.aload_n 2, 1) := by decide +kernel
theorem dX4_callFrom_89 : decode cX4_callFrom 89 = .ok (.dup, 1) := by decide +kernel
theorem dX4_callFrom_90 : decode cX4_callFrom 90 = .ok (.getfield 70, 3) := by decide +kernel
theorem dX4_callFrom_93 : decode cX4_callFrom 93 = .ok (.aload_n 0, 1) := by decide +kernel
theorem dX4_callFrom_94 : decode cX4_callFrom 94 = .ok (.getfield 11, 3) := by decide +kernel
theorem dX4_callFrom_97 : decode cX4_callFrom 97 = .ok (.iload_n 1, 1) := by decide +kernel
theorem dX4_callFrom_98 : decode cX4_callFrom 98 = .ok (.aaload, 1) := by decide +kernel
theorem dX4_callFrom_99 : decode cX4_callFrom 99 = .ok (.getfield 70, 3) := by decide +kernel
theorem dX4_callFrom_102 : decode cX4_callFrom 102 = .ok (.iload 6, 2) := by decide +kernel
theorem dX4_callFrom_104 : decode cX4_callFrom 104 = .ok (.isub, 1) := by decide +kernel
theorem dX4_callFrom_105 : decode cX4_callFrom 105 = .ok (.iadd, 1) := by decide +kernel
theorem dX4_callFrom_106 : decode cX4_callFrom 106 = .ok (.putfield 70, 3) := by decide +kernel
theorem dX4_callFrom_109 : decode cX4_callFrom 109 = .ok (.aload_n 2, 1) := by decide +kernel
theorem dX4_callFrom_110 : decode cX4_callFrom 110 = .ok (.iload 7, 2) := by decide +kernel
theorem dX4_callFrom_112 : decode cX4_callFrom 112 = .ok (.ifCond .eq 7, 3) := by decide +kernel
theorem dX4_callFrom_115 : decode cX4_callFrom 115 = .ok (.iconst 1, 1) := by decide +kernel
theorem dX4_callFrom_116 : decode cX4_callFrom 116 = .ok (.goto 4, 3) := by decide +kernel
theorem dX4_callFrom_119 : decode cX4_callFrom 119 = .ok (.iconst 0, 1) := by decide +kernel
theorem dX4_callFrom_120 : decode cX4_callFrom 120 = .ok (.invokevirtual 255, 3) := by decide +kernel
theorem dX4_callFrom_123 : decode cX4_callFrom 123 = .ok (.return_, 1) := by decide +kernel
theorem dX4_makeFrom_0 : decode cX4_makeFrom 0 = .ok (.aload_n 1, 1) := by decide +kernel
theorem dX4_makeFrom_1 : decode cX4_makeFrom 1 = .ok (.invokevirtual 249, 3) := by decide +kernel
theorem dX4_makeFrom_4 : decode cX4_makeFrom 4 = .ok (.istore_n 3, 1) := by decide +kernel
theorem dX4_makeFrom_5 : decode cX4_makeFrom 5 = .ok (.aload_n 0, 1) := by decide +kernel
theorem dX4_makeFrom_6 : decode cX4_makeFrom 6 = .ok (.getfield 33, 3) := by decide +kernel
theorem dX4_makeFrom_9 : decode cX4_makeFrom 9 = .ok (.getfield 150, 3) := by decide +kernel
theorem dX4_makeFrom_12 : decode cX4_makeFrom 12 = .ok (.aload_n 1, 1) := by decide +kernel
theorem dX4_makeFrom_13 : decode cX4_makeFrom 13 = .ok (.getfield 242, 3) := by decide +kernel
theorem dX4_makeFrom_16 : decode cX4_makeFrom 16 = .ok (.invokestatic 129, 3) := by decide +kernel
theorem dX4_makeFrom_19 : decode cX4_makeFrom 19 = .ok (.istore 4, 2) := by decide +kernel
theorem dX4_makeFrom_21 : decode cX4_makeFrom 21 = .ok (.aload_n 0, 1) := by decide +kernel
theorem dX4_makeFrom_22 : decode cX4_makeFrom 22 = .ok (.getfield 33, 3) := by decide +kernel
theorem dX4_makeFrom_25 : decode cX4_makeFrom 25 = .ok (.aload_n 1, 1) := by decide +kernel
theorem dX4_makeFrom_26 : decode cX4_makeFrom 26 = .ok (.getfield 242, 3) := by decide +kernel
theorem dX4_makeFrom_29 : decode cX4_makeFrom 29 = .ok (.invokevirtual 55, 3) := by decide +kernel
theorem dX4_makeFrom_32 : decode cX4_makeFrom 32 = .ok (.aload_n 0, 1) := by decide +kernel
theorem dX4_makeFrom_33 : decode cX4_makeFrom 33 = .ok (.getfield 33, 3) := by decide +kernel
theorem dX4_makeFrom_36 : decode cX4_makeFrom 36 = .ok (.getfield 125, 3) := by decide +kernel
theorem dX4_makeFrom_39 : decode cX4_makeFrom 39 = .ok (.aload_n 1, 1) := by decide +kernel
theorem dX4_makeFrom_40 : decode cX4_makeFrom 40 = .ok (.getfield 242, 3) := by decide +kernel
theorem dX4_makeFrom_43 : decode cX4_makeFrom 43 = .ok (.invokestatic 129, 3) := by decide +kernel
theorem dX4_makeFrom_46 : decode cX4_makeFrom 46 = .ok (.iload_n 3, 1) := by decide +kernel
theorem dX4_makeFrom_47 : decode cX4_makeFrom 47 = .ok (.if_icmp .lt 7, 3) := by decide +kernel
theorem dX4_makeFrom_50 : decode cX4_makeFrom 50 = .ok (.iconst 1, 1) := by decide +kernel
theorem dX4_makeFrom_51 : decode cX4_makeFrom 51 = .ok (.goto 4, 3) := by decide +kernel
theorem dX4_makeFrom_54 : decode cX4_makeFrom 54 = .ok (.iconst 0, 1) := by decide +kernel
theorem dX4_makeFrom_55 : decode cX4_makeFrom 55 = .ok (.istore 5, 2) := by decide +kernel
theorem dX4_makeFrom_57 : decode cX4_makeFrom 57 = .ok (.aload_n 1, 1) := by decide +kernel
theorem dX4_makeFrom_58 : decode cX4_makeFrom 58 = .ok (.iload 5, 2) := by decide +kernel
theorem dX4_makeFrom_60 : decode cX4_makeFrom 60 = .ok (.ifCond .eq 18, 3) := by decide +kernel
theorem dX4_makeFrom_63 : decode cX4_makeFrom 63 = .ok (.aload_n 0, 1) := by decide +kernel
theorem dX4_makeFrom_64 : decode cX4_makeFrom 64 = .ok (.aload_n 1, 1) := by decide +kernel
theorem dX4_makeFrom_65 : decode cX4_makeFrom 65 = .ok (.getfield 242, 3) := by decide +kernel
theorem dX4_makeFrom_68 : decode cX4_makeFrom 68 = .ok (.iload 4, 2) := by decide +kernel
theorem dX4_makeFrom_70 : decode cX4_makeFrom 70 = .ok (.iload_n 2, 1) := by decide +kernel
theorem dX4_makeFrom_71 : decode cX4_makeFrom 71 = .ok (.iload_n 3, 1) := by decide +kernel
theorem dX4_makeFrom_72 : decode cX4_makeFrom 72 = .ok (.invokevirtual 91, 3) := by decide +kernel
theorem dX4_makeFrom_75 : decode cX4_makeFrom 75 = .ok (.goto 4, 3) := by decide +kernel
theorem dX4_makeFrom_78 : decode cX4_makeFrom 78 = .ok (.iconst 0, 1) := by decide +kernel
theorem dX4_makeFrom_79 : decode cX4_makeFrom 79 = .ok (.invokevirtual 255, 3) := by decide +kernel
theorem dX4_makeFrom_82 : decode cX4_makeFrom 82 = .ok (.return_, 1) := by decide +kernel
theorem dX5_init_0 : decode cX5_init 0 = .ok (.aload_n 0, 1) := by decide +kernel
theorem dX5_init_1 : decode cX5_init 1 = .ok (.invokespecial 3, 3) := by decide +kernel
theorem dX5_init_4 : decode cX5_init 4 = .ok (.aload_n 0, 1) := by decide +kernel
theorem dX5_init_5 : decode cX5_init 5 = .ok (.sipush 160, 3) := by decide +kernel
theorem dX5_init_8 : decode cX5_init 8 = .ok (.newarray .int, 2) := by decide +kernel
theorem dX5_init_10 : decode cX5_init 10 = .ok (.putfield 9, 3) := by decide +kernel
theorem dX5_init_13 : decode cX5_init 13 = .ok (.aload_n 0, 1) := by decide +kernel
theorem dX5_init_14 : decode cX5_init 14 = .ok (.sipush 160, 3) := by decide +kernel
theorem dX5_init_17 : decode cX5_init 17 = .ok (.newarray .int, 2) := by decide +kernel
theorem dX5_init_19 : decode cX5_init 19 = .ok (.putfield 15, 3) := by decide +kernel
theorem dX5_init_22 : decode cX5_init 22 = .ok (.aload_n 0, 1) := by decide +kernel
theorem dX5_init_23 : decode cX5_init 23 = .ok (.bipush 8, 2) := by decide +kernel
theorem dX5_init_25 : decode cX5_init 25 = .ok (.newarray .int, 2) := by decide +kernel
theorem dX5_init_27 : decode cX5_init 27 = .ok (.putfield 18, 3) := by decide +kernel
theorem dX5_init_30 : decode cX5_init 30 = .ok (.return_, 1) := by decide +kernel
theorem dX5_lengthOf_0 : decode cX5_lengthOf 0 = .ok (.aload_n 0, 1) := by decide +kernel
theorem dX5_lengthOf_1 : decode cX5_lengthOf 1 = .ok (.getfield 18, 3) := by decide +kernel
theorem dX5_lengthOf_4 : decode cX5_lengthOf 4 = .ok (.iload_n 1, 1) := by decide +kernel
theorem dX5_lengthOf_5 : decode cX5_lengthOf 5 = .ok (.invokestatic 21, 3) := by decide +kernel
theorem dX5_lengthOf_8 : decode cX5_lengthOf 8 = .ok (.ireturn, 1) := by decide +kernel
theorem dX5_operationAt_0 : decode cX5_operationAt 0 = .ok (.aload_n 0, 1) := by decide +kernel
theorem dX5_operationAt_1 : decode cX5_operationAt 1 = .ok (.getfield 9, 3) := by decide +kernel
theorem dX5_operationAt_4 : decode cX5_operationAt 4 = .ok (.iload_n 1, 1) := by decide +kernel
theorem dX5_operationAt_5 : decode cX5_operationAt 5 = .ok (.bipush 20, 2) := by decide +kernel
theorem dX5_operationAt_7 : decode cX5_operationAt 7 = .ok (.imul, 1) := by decide +kernel
theorem dX5_operationAt_8 : decode cX5_operationAt 8 = .ok (.iload_n 2, 1) := by decide +kernel
theorem dX5_operationAt_9 : decode cX5_operationAt 9 = .ok (.iadd, 1) := by decide +kernel
theorem dX5_operationAt_10 : decode cX5_operationAt 10 = .ok (.invokestatic 21, 3) := by decide +kernel
theorem dX5_operationAt_13 : decode cX5_operationAt 13 = .ok (.ireturn, 1) := by decide +kernel
theorem dX5_argumentAt_0 : decode cX5_argumentAt 0 = .ok (.aload_n 0, 1) := by decide +kernel
theorem dX5_argumentAt_1 : decode cX5_argumentAt 1 = .ok (.getfield 15, 3) := by decide +kernel
theorem dX5_argumentAt_4 : decode cX5_argumentAt 4 = .ok (.iload_n 1, 1) := by decide +kernel
theorem dX5_argumentAt_5 : decode cX5_argumentAt 5 = .ok (.bipush 20, 2) := by decide +kernel
theorem dX5_argumentAt_7 : decode cX5_argumentAt 7 = .ok (.imul, 1) := by decide +kernel
theorem dX5_argumentAt_8 : decode cX5_argumentAt 8 = .ok (.iload_n 2, 1) := by decide +kernel
theorem dX5_argumentAt_9 : decode cX5_argumentAt 9 = .ok (.iadd, 1) := by decide +kernel
theorem dX5_argumentAt_10 : decode cX5_argumentAt 10 = .ok (.invokestatic 21, 3) := by decide +kernel
theorem dX5_argumentAt_13 : decode cX5_argumentAt 13 = .ok (.ireturn, 1) := by decide +kernel
theorem dX5_append_0 : decode cX5_append 0 = .ok (.aload_n 0, 1) := by decide +kernel
theorem dX5_append_1 : decode cX5_append 1 = .ok (.iload_n 1, 1) := by decide +kernel
theorem dX5_append_2 : decode cX5_append 2 = .ok (.invokevirtual 25, 3) := by decide +kernel
theorem dX5_append_5 : decode cX5_append 5 = .ok (.istore 4, 2) := by decide +kernel
theorem dX5_append_7 : decode cX5_append 7 = .ok (.aload_n 0, 1) := by decide +kernel
theorem dX5_append_8 : decode cX5_append 8 = .ok (.getfield 9, 3) := by decide +kernel
theorem dX5_append_11 : decode cX5_append 11 = .ok (.iload_n 1, 1) := by decide +kernel
theorem dX5_append_12 : decode cX5_append 12 = .ok (.bipush 20, 2) := by decide +kernel
theorem dX5_append_14 : decode cX5_append 14 = .ok (.imul, 1) := by decide +kernel
theorem dX5_append_15 : decode cX5_append 15 = .ok (.iload 4, 2) := by decide +kernel
theorem dX5_append_17 : decode cX5_append 17 = .ok (.iadd, 1) := by decide +kernel
theorem dX5_append_18 : decode cX5_append 18 = .ok (.iload_n 2, 1) := by decide +kernel
theorem dX5_append_19 : decode cX5_append 19 = .ok (.invokestatic 29, 3) := by decide +kernel
theorem dX5_append_22 : decode cX5_append 22 = .ok (.aload_n 0, 1) := by decide +kernel
theorem dX5_append_23 : decode cX5_append 23 = .ok (.getfield 15, 3) := by decide +kernel
theorem dX5_append_26 : decode cX5_append 26 = .ok (.iload_n 1, 1) := by decide +kernel
theorem dX5_append_27 : decode cX5_append 27 = .ok (.bipush 20, 2) := by decide +kernel
theorem dX5_append_29 : decode cX5_append 29 = .ok (.imul, 1) := by decide +kernel
theorem dX5_append_30 : decode cX5_append 30 = .ok (.iload 4, 2) := by decide +kernel
theorem dX5_append_32 : decode cX5_append 32 = .ok (.iadd, 1) := by decide +kernel
theorem dX5_append_33 : decode cX5_append 33 = .ok (.iload_n 3, 1) := by decide +kernel
theorem dX5_append_34 : decode cX5_append 34 = .ok (.invokestatic 29, 3) := by decide +kernel
theorem dX5_append_37 : decode cX5_append 37 = .ok (.aload_n 0, 1) := by decide +kernel
theorem dX5_append_38 : decode cX5_append 38 = .ok (.getfield 18, 3) := by decide +kernel
theorem dX5_append_41 : decode cX5_append 41 = .ok (.iload_n 1, 1) := by decide +kernel
theorem dX5_append_42 : decode cX5_append 42 = .ok (.iload 4, 2) := by decide +kernel
theorem dX5_append_44 : decode cX5_append 44 = .ok (.iconst 1, 1) := by decide +kernel
theorem dX5_append_45 : decode cX5_append 45 = .ok (.iadd, 1) := by decide +kernel
theorem dX5_append_46 : decode cX5_append 46 = .ok (.invokestatic 29, 3) := by decide +kernel
theorem dX5_append_49 : decode cX5_append 49 = .ok (.iload 4, 2) := by decide +kernel
theorem dX5_append_51 : decode cX5_append 51 = .ok (.iconst 1, 1) := by decide +kernel
theorem dX5_append_52 : decode cX5_append 52 = .ok (.iadd, 1) := by decide +kernel
theorem dX5_append_53 : decode cX5_append 53 = .ok (.ireturn, 1) := by decide +kernel
theorem dX6_init_0 : decode cX6_init 0 = .ok (.aload_n 0, 1) := by decide +kernel
theorem dX6_init_1 : decode cX6_init 1 = .ok (.invokespecial 3, 3) := by decide +kernel
theorem dX6_init_4 : decode cX6_init 4 = .ok (.aload_n 0, 1) := by decide +kernel
theorem dX6_init_5 : decode cX6_init 5 = .ok (.bipush 16, 2) := by decide +kernel
theorem dX6_init_7 : decode cX6_init 7 = .ok (.newarray .int, 2) := by decide +kernel
theorem dX6_init_9 : decode cX6_init 9 = .ok (.putfield 9, 3) := by decide +kernel
theorem dX6_init_12 : decode cX6_init 12 = .ok (.aload_n 0, 1) := by decide +kernel
theorem dX6_init_13 : decode cX6_init 13 = .ok (.bipush 16, 2) := by decide +kernel
theorem dX6_init_15 : decode cX6_init 15 = .ok (.newarray .int, 2) := by decide +kernel
theorem dX6_init_17 : decode cX6_init 17 = .ok (.putfield 15, 3) := by decide +kernel
theorem dX6_init_20 : decode cX6_init 20 = .ok (.aload_n 0, 1) := by decide +kernel
theorem dX6_init_21 : decode cX6_init 21 = .ok (.bipush 16, 2) := by decide +kernel
theorem dX6_init_23 : decode cX6_init 23 = .ok (.newarray .int, 2) := by decide +kernel
theorem dX6_init_25 : decode cX6_init 25 = .ok (.putfield 18, 3) := by decide +kernel
theorem dX6_init_28 : decode cX6_init 28 = .ok (.aload_n 0, 1) := by decide +kernel
theorem dX6_init_29 : decode cX6_init 29 = .ok (.bipush 64, 2) := by decide +kernel
theorem dX6_init_31 : decode cX6_init 31 = .ok (.newarray .int, 2) := by decide +kernel
theorem dX6_init_33 : decode cX6_init 33 = .ok (.putfield 21, 3) := by decide +kernel
theorem dX6_init_36 : decode cX6_init 36 = .ok (.return_, 1) := by decide +kernel
theorem dX6_becomeFirst_0 : decode cX6_becomeFirst 0 = .ok (.iconst 0, 1) := by decide +kernel
theorem dX6_becomeFirst_1 : decode cX6_becomeFirst 1 = .ok (.istore_n 1, 1) := by decide +kernel
theorem dX6_becomeFirst_2 : decode cX6_becomeFirst 2 = .ok (.iload_n 1, 1) := by decide +kernel
theorem dX6_becomeFirst_3 : decode cX6_becomeFirst 3 = .ok (.bipush 16, 2) := by decide +kernel
theorem dX6_becomeFirst_5 : decode cX6_becomeFirst 5 = .ok (.if_icmp .ge 56, 3) := by decide +kernel
theorem dX6_becomeFirst_8 : decode cX6_becomeFirst 8 = .ok (.aload_n 0, 1) := by decide +kernel
theorem dX6_becomeFirst_9 : decode cX6_becomeFirst 9 = .ok (.getfield 9, 3) := by decide +kernel
theorem dX6_becomeFirst_12 : decode cX6_becomeFirst 12 = .ok (.iload_n 1, 1) := by decide +kernel
theorem dX6_becomeFirst_13 : decode cX6_becomeFirst 13 = .ok (.iload_n 1, 1) := by decide +kernel
theorem dX6_becomeFirst_14 : decode cX6_becomeFirst 14 = .ok (.bipush 6, 2) := by decide +kernel
theorem dX6_becomeFirst_16 : decode cX6_becomeFirst 16 = .ok (.if_icmp .ge 9, 3) := by decide +kernel
theorem dX6_becomeFirst_19 : decode cX6_becomeFirst 19 = .ok (.sipush 10000, 3) := by decide +kernel
theorem dX6_becomeFirst_22 : decode cX6_becomeFirst 22 = .ok (.goto 16, 3) := by decide +kernel
theorem dX6_becomeFirst_25 : decode cX6_becomeFirst 25 = .ok (.iload_n 1, 1) := by decide +kernel
theorem dX6_becomeFirst_26 : decode cX6_becomeFirst 26 = .ok (.bipush 15, 2) := by decide +kernel
theorem dX6_becomeFirst_28 : decode cX6_becomeFirst 28 = .ok (.if_icmp .ne 9, 3) := by decide +kernel
theorem dX6_becomeFirst_31 : decode cX6_becomeFirst 31 = .ok (.sipush 20000, 3) := by decide +kernel
theorem dX6_becomeFirst_34 : decode cX6_becomeFirst 34 = .ok (.goto 4, 3) := by decide +kernel
theorem dX6_becomeFirst_37 : decode cX6_becomeFirst 37 = .ok (.iconst 0, 1) := by decide +kernel
theorem dX6_becomeFirst_38 : decode cX6_becomeFirst 38 = .ok (.invokestatic 24, 3) := by decide +kernel
theorem dX6_becomeFirst_41 : decode cX6_becomeFirst 41 = .ok (.aload_n 0, 1) := by decide +kernel
theorem dX6_becomeFirst_42 : decode cX6_becomeFirst 42 = .ok (.getfield 15, 3) := by decide +kernel
theorem dX6_becomeFirst_45 : decode cX6_becomeFirst 45 = .ok (.iload_n 1, 1) := by decide +kernel
theorem dX6_becomeFirst_46 : decode cX6_becomeFirst 46 = .ok (.iconst 0, 1) := by decide +kernel
theorem dX6_becomeFirst_47 : decode cX6_becomeFirst 47 = .ok (.invokestatic 24, 3) := by decide +kernel
theorem dX6_becomeFirst_50 : decode cX6_becomeFirst 50 = .ok (.aload_n 0, 1) := by decide +kernel
theorem dX6_becomeFirst_51 : decode cX6_becomeFirst 51 = .ok (.iload_n 1, 1) := by decide +kernel
theorem dX6_becomeFirst_52 : decode cX6_becomeFirst 52 = .ok (.invokevirtual 28, 3) := by decide +kernel
theorem dX6_becomeFirst_55 : decode cX6_becomeFirst 55 = .ok (.iinc 1 1, 3) := by decide +kernel
theorem dX6_becomeFirst_58 : decode cX6_becomeFirst 58 = .ok (.goto (-56), 3) := by decide +kernel
theorem dX6_becomeFirst_61 : decode cX6_becomeFirst 61 = .ok (.aload_n 0, 1) := by decide +kernel
theorem dX6_becomeFirst_62 : decode cX6_becomeFirst 62 = .ok (.iconst 0, 1) := by decide +kernel
theorem dX6_becomeFirst_63 : decode cX6_becomeFirst 63 = .ok (.putfield 32, 3) := by decide +kernel
theorem dX6_becomeFirst_66 : decode cX6_becomeFirst 66 = .ok (.aload_n 0, 1) := by decide +kernel
theorem dX6_becomeFirst_67 : decode cX6_becomeFirst 67 = .ok (.lconst 0, 1) := by decide +kernel
theorem dX6_becomeFirst_68 : decode cX6_becomeFirst 68 = .ok (.putfield 36, 3) := by decide +kernel
theorem dX6_becomeFirst_71 : decode cX6_becomeFirst 71 = .ok (.return_, 1) := by decide +kernel
theorem dX6_copyFrom_0 : decode cX6_copyFrom 0 = .ok (.aload_n 1, 1) := by decide +kernel
theorem dX6_copyFrom_1 : decode cX6_copyFrom 1 = .ok (.getfield 9, 3) := by decide +kernel
theorem dX6_copyFrom_4 : decode cX6_copyFrom 4 = .ok (.iconst 0, 1) := by decide +kernel
theorem dX6_copyFrom_5 : decode cX6_copyFrom 5 = .ok (.aload_n 0, 1) := by decide +kernel
theorem dX6_copyFrom_6 : decode cX6_copyFrom 6 = .ok (.getfield 9, 3) := by decide +kernel
theorem dX6_copyFrom_9 : decode cX6_copyFrom 9 = .ok (.iconst 0, 1) := by decide +kernel
theorem dX6_copyFrom_10 : decode cX6_copyFrom 10 = .ok (.bipush 16, 2) := by decide +kernel
theorem dX6_copyFrom_12 : decode cX6_copyFrom 12 = .ok (.invokestatic 40, 3) := by decide +kernel
theorem dX6_copyFrom_15 : decode cX6_copyFrom 15 = .ok (.aload_n 1, 1) := by decide +kernel
theorem dX6_copyFrom_16 : decode cX6_copyFrom 16 = .ok (.getfield 15, 3) := by decide +kernel
theorem dX6_copyFrom_19 : decode cX6_copyFrom 19 = .ok (.iconst 0, 1) := by decide +kernel
theorem dX6_copyFrom_20 : decode cX6_copyFrom 20 = .ok (.aload_n 0, 1) := by decide +kernel
theorem dX6_copyFrom_21 : decode cX6_copyFrom 21 = .ok (.getfield 15, 3) := by decide +kernel
theorem dX6_copyFrom_24 : decode cX6_copyFrom 24 = .ok (.iconst 0, 1) := by decide +kernel
theorem dX6_copyFrom_25 : decode cX6_copyFrom 25 = .ok (.bipush 16, 2) := by decide +kernel
theorem dX6_copyFrom_27 : decode cX6_copyFrom 27 = .ok (.invokestatic 40, 3) := by decide +kernel
theorem dX6_copyFrom_30 : decode cX6_copyFrom 30 = .ok (.aload_n 1, 1) := by decide +kernel
theorem dX6_copyFrom_31 : decode cX6_copyFrom 31 = .ok (.getfield 18, 3) := by decide +kernel
theorem dX6_copyFrom_34 : decode cX6_copyFrom 34 = .ok (.iconst 0, 1) := by decide +kernel
theorem dX6_copyFrom_35 : decode cX6_copyFrom 35 = .ok (.aload_n 0, 1) := by decide +kernel
theorem dX6_copyFrom_36 : decode cX6_copyFrom 36 = .ok (.getfield 18, 3) := by decide +kernel
theorem dX6_copyFrom_39 : decode cX6_copyFrom 39 = .ok (.iconst 0, 1) := by decide +kernel
theorem dX6_copyFrom_40 : decode cX6_copyFrom 40 = .ok (.bipush 16, 2) := by decide +kernel
theorem dX6_copyFrom_42 : decode cX6_copyFrom 42 = .ok (.invokestatic 40, 3) := by decide +kernel
theorem dX6_copyFrom_45 : decode cX6_copyFrom 45 = .ok (.aload_n 1, 1) := by decide +kernel
theorem dX6_copyFrom_46 : decode cX6_copyFrom 46 = .ok (.getfield 21, 3) := by decide +kernel
theorem dX6_copyFrom_49 : decode cX6_copyFrom 49 = .ok (.iconst 0, 1) := by decide +kernel
theorem dX6_copyFrom_50 : decode cX6_copyFrom 50 = .ok (.aload_n 0, 1) := by decide +kernel
theorem dX6_copyFrom_51 : decode cX6_copyFrom 51 = .ok (.getfield 21, 3) := by decide +kernel
theorem dX6_copyFrom_54 : decode cX6_copyFrom 54 = .ok (.iconst 0, 1) := by decide +kernel
theorem dX6_copyFrom_55 : decode cX6_copyFrom 55 = .ok (.bipush 64, 2) := by decide +kernel
theorem dX6_copyFrom_57 : decode cX6_copyFrom 57 = .ok (.invokestatic 40, 3) := by decide +kernel
theorem dX6_copyFrom_60 : decode cX6_copyFrom 60 = .ok (.aload_n 0, 1) := by decide +kernel
theorem dX6_copyFrom_61 : decode cX6_copyFrom 61 = .ok (.aload_n 1, 1) := by decide +kernel
theorem dX6_copyFrom_62 : decode cX6_copyFrom 62 = .ok (.getfield 32, 3) := by decide +kernel
theorem dX6_copyFrom_65 : decode cX6_copyFrom 65 = .ok (.putfield 32, 3) := by decide +kernel
theorem dX6_copyFrom_68 : decode cX6_copyFrom 68 = .ok (.aload_n 0, 1) := by decide +kernel
theorem dX6_copyFrom_69 : decode cX6_copyFrom 69 = .ok (.aload_n 1, 1) := by decide +kernel
theorem dX6_copyFrom_70 : decode cX6_copyFrom 70 = .ok (.getfield 36, 3) := by decide +kernel
theorem dX6_copyFrom_73 : decode cX6_copyFrom 73 = .ok (.putfield 36, 3) := by decide +kernel
theorem dX6_copyFrom_76 : decode cX6_copyFrom 76 = .ok (.return_, 1) := by decide +kernel
theorem dX6_gain_0 : decode cX6_gain 0 = .ok (.iload_n 1, 1) := by decide +kernel
theorem dX6_gain_1 : decode cX6_gain 1 = .ok (.ifCond .lt 22, 3) := by decide +kernel
theorem dX6_gain_4 : decode cX6_gain 4 = .ok (.iload_n 1, 1) := by decide +kernel
theorem dX6_gain_5 : decode cX6_gain 5 = .ok (.aload_n 0, 1) := by decide +kernel
theorem dX6_gain_6 : decode cX6_gain 6 = .ok (.getfield 9, 3) := by decide +kernel
theorem dX6_gain_9 : decode cX6_gain 9 = .ok (.arraylength, 1) := by decide +kernel
theorem dX6_gain_10 : decode cX6_gain 10 = .ok (.if_icmp .ge 13, 3) := by decide +kernel
theorem dX6_gain_13 : decode cX6_gain 13 = .ok (.aload_n 0, 1) := by decide +kernel
theorem dX6_gain_14 : decode cX6_gain 14 = .ok (.getfield 9, 3) := by decide +kernel
theorem dX6_gain_17 : decode cX6_gain 17 = .ok (.iload_n 1, 1) := by decide +kernel
theorem dX6_gain_18 : decode cX6_gain 18 = .ok (.dup2, 1) := by decide +kernel
theorem dX6_gain_19 : decode cX6_gain 19 = .ok (.iaload, 1) := by decide +kernel
theorem dX6_gain_20 : decode cX6_gain 20 = .ok (.iload_n 2, 1) := by decide +kernel
theorem dX6_gain_21 : decode cX6_gain 21 = .ok (.iadd, 1) := by decide +kernel
theorem dX6_gain_22 : decode cX6_gain 22 = .ok (.iastore, 1) := by decide +kernel
theorem dX6_gain_23 : decode cX6_gain 23 = .ok (.return_, 1) := by decide +kernel
theorem dX6_move_0 : decode cX6_move 0 = .ok (.iload_n 1, 1) := by decide +kernel
theorem dX6_move_1 : decode cX6_move 1 = .ok (.ifCond .lt 45, 3) := by decide +kernel
theorem dX6_move_4 : decode cX6_move 4 = .ok (.iload_n 1, 1) := by decide +kernel
theorem dX6_move_5 : decode cX6_move 5 = .ok (.aload_n 0, 1) := by decide +kernel
theorem dX6_move_6 : decode cX6_move 6 = .ok (.getfield 9, 3) := by decide +kernel
theorem dX6_move_9 : decode cX6_move 9 = .ok (.arraylength, 1) := by decide +kernel
theorem dX6_move_10 : decode cX6_move 10 = .ok (.if_icmp .ge 36, 3) := by decide +kernel
theorem dX6_move_13 : decode cX6_move 13 = .ok (.iload_n 2, 1) := by decide +kernel
theorem dX6_move_14 : decode cX6_move 14 = .ok (.ifCond .lt 32, 3) := by decide +kernel
theorem dX6_move_17 : decode cX6_move 17 = .ok (.iload_n 2, 1) := by decide +kernel
theorem dX6_move_18 : decode cX6_move 18 = .ok (.aload_n 0, 1) := by decide +kernel
theorem dX6_move_19 : decode cX6_move 19 = .ok (.getfield 9, 3) := by decide +kernel
theorem dX6_move_22 : decode cX6_move 22 = .ok (.arraylength, 1) := by decide +kernel
theorem dX6_move_23 : decode cX6_move 23 = .ok (.if_icmp .ge 23, 3) := by decide +kernel
theorem dX6_move_26 : decode cX6_move 26 = .ok (.aload_n 0, 1) := by decide +kernel
theorem dX6_move_27 : decode cX6_move 27 = .ok (.getfield 9, 3) := by decide +kernel
theorem dX6_move_30 : decode cX6_move 30 = .ok (.iload_n 1, 1) := by decide +kernel
theorem dX6_move_31 : decode cX6_move 31 = .ok (.dup2, 1) := by decide +kernel
theorem dX6_move_32 : decode cX6_move 32 = .ok (.iaload, 1) := by decide +kernel
theorem dX6_move_33 : decode cX6_move 33 = .ok (.iload_n 3, 1) := by decide +kernel
theorem dX6_move_34 : decode cX6_move 34 = .ok (.isub, 1) := by decide +kernel
theorem dX6_move_35 : decode cX6_move 35 = .ok (.iastore, 1) := by decide +kernel
theorem dX6_move_36 : decode cX6_move 36 = .ok (.aload_n 0, 1) := by decide +kernel
theorem dX6_move_37 : decode cX6_move 37 = .ok (.getfield 9, 3) := by decide +kernel
theorem dX6_move_40 : decode cX6_move 40 = .ok (.iload_n 2, 1) := by decide +kernel
theorem dX6_move_41 : decode cX6_move 41 = .ok (.dup2, 1) := by decide +kernel
theorem dX6_move_42 : decode cX6_move 42 = .ok (.iaload, 1) := by decide +kernel
theorem dX6_move_43 : decode cX6_move 43 = .ok (.iload_n 3, 1) := by decide +kernel
theorem dX6_move_44 : decode cX6_move 44 = .ok (.iadd, 1) := by decide +kernel
theorem dX6_move_45 : decode cX6_move 45 = .ok (.iastore, 1) := by decide +kernel
theorem dX6_move_46 : decode cX6_move 46 = .ok (.return_, 1) := by decide +kernel
theorem dX6_raiseNonce_0 : decode cX6_raiseNonce 0 = .ok (.iload_n 1, 1) := by decide +kernel
theorem dX6_raiseNonce_1 : decode cX6_raiseNonce 1 = .ok (.ifCond .lt 22, 3) := by decide +kernel
theorem dX6_raiseNonce_4 : decode cX6_raiseNonce 4 = .ok (.iload_n 1, 1) := by decide +kernel
theorem dX6_raiseNonce_5 : decode cX6_raiseNonce 5 = .ok (.aload_n 0, 1) := by decide +kernel
theorem dX6_raiseNonce_6 : decode cX6_raiseNonce 6 = .ok (.getfield 15, 3) := by decide +kernel
theorem dX6_raiseNonce_9 : decode cX6_raiseNonce 9 = .ok (.arraylength, 1) := by decide +kernel
theorem dX6_raiseNonce_10 : decode cX6_raiseNonce 10 = .ok (.if_icmp .ge 13, 3) := by decide +kernel
theorem dX6_raiseNonce_13 : decode cX6_raiseNonce 13 = .ok (.aload_n 0, 1) := by decide +kernel
theorem dX6_raiseNonce_14 : decode cX6_raiseNonce 14 = .ok (.getfield 15, 3) := by decide +kernel
theorem dX6_raiseNonce_17 : decode cX6_raiseNonce 17 = .ok (.iload_n 1, 1) := by decide +kernel
theorem dX6_raiseNonce_18 : decode cX6_raiseNonce 18 = .ok (.dup2, 1) := by decide +kernel
theorem dX6_raiseNonce_19 : decode cX6_raiseNonce 19 = .ok (.iaload, 1) := by decide +kernel
theorem dX6_raiseNonce_20 : decode cX6_raiseNonce 20 = .ok (.iconst 1, 1) := by decide +kernel
theorem dX6_raiseNonce_21 : decode cX6_raiseNonce 21 = .ok (.iadd, 1) := by decide +kernel
theorem dX6_raiseNonce_22 : decode cX6_raiseNonce 22 = .ok (.iastore, 1) := by decide +kernel
theorem dX6_raiseNonce_23 : decode cX6_raiseNonce 23 = .ok (.return_, 1) := by decide +kernel
theorem dX6_dropProgram_0 : decode cX6_dropProgram 0 = .ok (.aload_n 0, 1) := by decide +kernel
theorem dX6_dropProgram_1 : decode cX6_dropProgram 1 = .ok (.getfield 18, 3) := by decide +kernel
theorem dX6_dropProgram_4 : decode cX6_dropProgram 4 = .ok (.iload_n 1, 1) := by decide +kernel
theorem dX6_dropProgram_5 : decode cX6_dropProgram 5 = .ok (.iconst 0, 1) := by decide +kernel
theorem dX6_dropProgram_6 : decode cX6_dropProgram 6 = .ok (.invokestatic 24, 3) := by decide +kernel
theorem dX6_dropProgram_9 : decode cX6_dropProgram 9 = .ok (.iconst 0, 1) := by decide +kernel
theorem dX6_dropProgram_10 : decode cX6_dropProgram 10 = .ok (.istore_n 2, 1) := by decide +kernel
theorem dX6_dropProgram_11 : decode cX6_dropProgram 11 = .ok (.iload_n 2, 1) := by decide +kernel
theorem dX6_dropProgram_12 : decode cX6_dropProgram 12 = .ok (.iconst 4, 1) := by decide +kernel
theorem dX6_dropProgram_13 : decode cX6_dropProgram 13 = .ok (.if_icmp .ge 22, 3) := by decide +kernel
theorem dX6_dropProgram_16 : decode cX6_dropProgram 16 = .ok (.aload_n 0, 1) := by decide +kernel
theorem dX6_dropProgram_17 : decode cX6_dropProgram 17 = .ok (.getfield 21, 3) := by decide +kernel
theorem dX6_dropProgram_20 : decode cX6_dropProgram 20 = .ok (.iload_n 1, 1) := by decide +kernel
theorem dX6_dropProgram_21 : decode cX6_dropProgram 21 = .ok (.iconst 4, 1) := by decide +kernel
theorem dX6_dropProgram_22 : decode cX6_dropProgram 22 = .ok (.imul, 1) := by decide +kernel
theorem dX6_dropProgram_23 : decode cX6_dropProgram 23 = .ok (.iload_n 2, 1) := by decide +kernel
theorem dX6_dropProgram_24 : decode cX6_dropProgram 24 = .ok (.iadd, 1) := by decide +kernel
theorem dX6_dropProgram_25 : decode cX6_dropProgram 25 = .ok (.iconst 0, 1) := by decide +kernel
theorem dX6_dropProgram_26 : decode cX6_dropProgram 26 = .ok (.invokestatic 24, 3) := by decide +kernel
theorem dX6_dropProgram_29 : decode cX6_dropProgram 29 = .ok (.iinc 2 1, 3) := by decide +kernel
theorem dX6_dropProgram_32 : decode cX6_dropProgram 32 = .ok (.goto (-21), 3) := by decide +kernel
theorem dX6_dropProgram_35 : decode cX6_dropProgram 35 = .ok (.return_, 1) := by decide +kernel
theorem dX6_isPaid_0 : decode cX6_isPaid 0 = .ok (.aload_n 0, 1) := by decide +kernel
theorem dX6_isPaid_1 : decode cX6_isPaid 1 = .ok (.getfield 36, 3) := by decide +kernel
theorem dX6_isPaid_4 : decode cX6_isPaid 4 = .ok (.iload_n 1, 1) := by decide +kernel
theorem dX6_isPaid_5 : decode cX6_isPaid 5 = .ok (.lshr, 1) := by decide +kernel
theorem dX6_isPaid_6 : decode cX6_isPaid 6 = .ok (.lconst 1, 1) := by decide +kernel
theorem dX6_isPaid_7 : decode cX6_isPaid 7 = .ok (.land, 1) := by decide +kernel
theorem dX6_isPaid_8 : decode cX6_isPaid 8 = .ok (.lconst 1, 1) := by decide +kernel
theorem dX6_isPaid_9 : decode cX6_isPaid 9 = .ok (.lcmp, 1) := by decide +kernel
theorem dX6_isPaid_10 : decode cX6_isPaid 10 = .ok (.ifCond .ne 7, 3) := by decide +kernel
theorem dX6_isPaid_13 : decode cX6_isPaid 13 = .ok (.iconst 1, 1) := by decide +kernel
theorem dX6_isPaid_14 : decode cX6_isPaid 14 = .ok (.goto 4, 3) := by decide +kernel
theorem dX6_isPaid_17 : decode cX6_isPaid 17 = .ok (.iconst 0, 1) := by decide +kernel
theorem dX6_isPaid_18 : decode cX6_isPaid 18 = .ok (.ireturn, 1) := by decide +kernel
theorem dX6_leafOf_0 : decode cX6_leafOf 0 = .ok (.iload_n 1, 1) := by decide +kernel
theorem dX6_leafOf_1 : decode cX6_leafOf 1 = .ok (.iconst 4, 1) := by decide +kernel
theorem dX6_leafOf_2 : decode cX6_leafOf 2 = .ok (.imul, 1) := by decide +kernel
theorem dX6_leafOf_3 : decode cX6_leafOf 3 = .ok (.istore_n 2, 1) := by decide +kernel
theorem dX6_leafOf_4 : decode cX6_leafOf 4 = .ok (.aload_n 0, 1) := by decide +kernel
theorem dX6_leafOf_5 : decode cX6_leafOf 5 = .ok (.getfield 21, 3) := by decide +kernel
theorem dX6_leafOf_8 : decode cX6_leafOf 8 = .ok (.iload_n 2, 1) := by decide +kernel
theorem dX6_leafOf_9 : decode cX6_leafOf 9 = .ok (.invokestatic 46, 3) := by decide +kernel
theorem dX6_leafOf_12 : decode cX6_leafOf 12 = .ok (.aload_n 0, 1) := by decide +kernel
theorem dX6_leafOf_13 : decode cX6_leafOf 13 = .ok (.getfield 21, 3) := by decide +kernel
theorem dX6_leafOf_16 : decode cX6_leafOf 16 = .ok (.iload_n 2, 1) := by decide +kernel
theorem dX6_leafOf_17 : decode cX6_leafOf 17 = .ok (.iconst 1, 1) := by decide +kernel
theorem dX6_leafOf_18 : decode cX6_leafOf 18 = .ok (.iadd, 1) := by decide +kernel
theorem dX6_leafOf_19 : decode cX6_leafOf 19 = .ok (.invokestatic 46, 3) := by decide +kernel
theorem dX6_leafOf_22 : decode cX6_leafOf 22 = .ok (.invokestatic 50, 3) := by decide +kernel
theorem dX6_leafOf_25 : decode cX6_leafOf 25 = .ok (.aload_n 0, 1) := by decide +kernel
theorem dX6_leafOf_26 : decode cX6_leafOf 26 = .ok (.getfield 21, 3) := by decide +kernel
theorem dX6_leafOf_29 : decode cX6_leafOf 29 = .ok (.iload_n 2, 1) := by decide +kernel
theorem dX6_leafOf_30 : decode cX6_leafOf 30 = .ok (.iconst 2, 1) := by decide +kernel
theorem dX6_leafOf_31 : decode cX6_leafOf 31 = .ok (.iadd, 1) := by decide +kernel
theorem dX6_leafOf_32 : decode cX6_leafOf 32 = .ok (.invokestatic 46, 3) := by decide +kernel
theorem dX6_leafOf_35 : decode cX6_leafOf 35 = .ok (.aload_n 0, 1) := by decide +kernel
theorem dX6_leafOf_36 : decode cX6_leafOf 36 = .ok (.getfield 21, 3) := by decide +kernel
theorem dX6_leafOf_39 : decode cX6_leafOf 39 = .ok (.iload_n 2, 1) := by decide +kernel
theorem dX6_leafOf_40 : decode cX6_leafOf 40 = .ok (.iconst 3, 1) := by decide +kernel
theorem dX6_leafOf_41 : decode cX6_leafOf 41 = .ok (.iadd, 1) := by decide +kernel
theorem dX6_leafOf_42 : decode cX6_leafOf 42 = .ok (.invokestatic 46, 3) := by decide +kernel
theorem dX6_leafOf_45 : decode cX6_leafOf 45 = .ok (.invokestatic 50, 3) := by decide +kernel
theorem dX6_leafOf_48 : decode cX6_leafOf 48 = .ok (.invokestatic 50, 3) := by decide +kernel
theorem dX6_leafOf_51 : decode cX6_leafOf 51 = .ok (.istore_n 3, 1) := by decide +kernel
theorem dX6_leafOf_52 : decode cX6_leafOf 52 = .ok (.aload_n 0, 1) := by decide +kernel
theorem dX6_leafOf_53 : decode cX6_leafOf 53 = .ok (.getfield 9, 3) := by decide +kernel
theorem dX6_leafOf_56 : decode cX6_leafOf 56 = .ok (.iload_n 1, 1) := by decide +kernel
theorem dX6_leafOf_57 : decode cX6_leafOf 57 = .ok (.invokestatic 46, 3) := by decide +kernel
theorem dX6_leafOf_60 : decode cX6_leafOf 60 = .ok (.ldc 54, 2) := by decide +kernel
theorem dX6_leafOf_62 : decode cX6_leafOf 62 = .ok (.irem, 1) := by decide +kernel
theorem dX6_leafOf_63 : decode cX6_leafOf 63 = .ok (.aload_n 0, 1) := by decide +kernel
theorem dX6_leafOf_64 : decode cX6_leafOf 64 = .ok (.getfield 15, 3) := by decide +kernel
theorem dX6_leafOf_67 : decode cX6_leafOf 67 = .ok (.iload_n 1, 1) := by decide +kernel
theorem dX6_leafOf_68 : decode cX6_leafOf 68 = .ok (.invokestatic 46, 3) := by decide +kernel
theorem dX6_leafOf_71 : decode cX6_leafOf 71 = .ok (.aload_n 0, 1) := by decide +kernel
theorem dX6_leafOf_72 : decode cX6_leafOf 72 = .ok (.getfield 18, 3) := by decide +kernel
theorem dX6_leafOf_75 : decode cX6_leafOf 75 = .ok (.iload_n 1, 1) := by decide +kernel
theorem dX6_leafOf_76 : decode cX6_leafOf 76 = .ok (.invokestatic 46, 3) := by decide +kernel
theorem dX6_leafOf_79 : decode cX6_leafOf 79 = .ok (.iload_n 3, 1) := by decide +kernel
theorem dX6_leafOf_80 : decode cX6_leafOf 80 = .ok (.invokestatic 50, 3) := by decide +kernel
theorem dX6_leafOf_83 : decode cX6_leafOf 83 = .ok (.invokestatic 50, 3) := by decide +kernel
theorem dX6_leafOf_86 : decode cX6_leafOf 86 = .ok (.invokestatic 50, 3) := by decide +kernel
theorem dX6_leafOf_89 : decode cX6_leafOf 89 = .ok (.ireturn, 1) := by decide +kernel
theorem dX7_init_0 : decode cX7_init 0 = .ok (.aload_n 0, 1) := by decide +kernel
theorem dX7_init_1 : decode cX7_init 1 = .ok (.invokespecial 3, 3) := by decide +kernel
theorem dX7_init_4 : decode cX7_init 4 = .ok (.aload_n 0, 1) := by decide +kernel
theorem dX7_init_5 : decode cX7_init 5 = .ok (.iconst (-1), 1) := by decide +kernel
theorem dX7_init_6 : decode cX7_init 6 = .ok (.putfield 9, 3) := by decide +kernel
theorem dX7_init_9 : decode cX7_init 9 = .ok (.aload_n 0, 1) := by decide +kernel
theorem dX7_init_10 : decode cX7_init 10 = .ok (.iload_n 1, 1) := by decide +kernel
theorem dX7_init_11 : decode cX7_init 11 = .ok (.putfield 15, 3) := by decide +kernel
theorem dX7_init_14 : decode cX7_init 14 = .ok (.return_, 1) := by decide +kernel
theorem dX7_order_0 : decode cX7_order 0 = .ok (.aload_n 0, 1) := by decide +kernel
theorem dX7_order_1 : decode cX7_order 1 = .ok (.iload_n 1, 1) := by decide +kernel
theorem dX7_order_2 : decode cX7_order 2 = .ok (.putfield 18, 3) := by decide +kernel
theorem dX7_order_5 : decode cX7_order 5 = .ok (.aload_n 0, 1) := by decide +kernel
theorem dX7_order_6 : decode cX7_order 6 = .ok (.iload_n 2, 1) := by decide +kernel
theorem dX7_order_7 : decode cX7_order 7 = .ok (.putfield 21, 3) := by decide +kernel
theorem dX7_order_10 : decode cX7_order 10 = .ok (.aload_n 0, 1) := by decide +kernel
theorem dX7_order_11 : decode cX7_order 11 = .ok (.iload_n 3, 1) := by decide +kernel
theorem dX7_order_12 : decode cX7_order 12 = .ok (.putfield 24, 3) := by decide +kernel
theorem dX7_order_15 : decode cX7_order 15 = .ok (.aload_n 0, 1) := by decide +kernel
theorem dX7_order_16 : decode cX7_order 16 = .ok (.iload 4, 2) := by decide +kernel
theorem dX7_order_18 : decode cX7_order 18 = .ok (.putfield 27, 3) := by decide +kernel
theorem dX7_order_21 : decode cX7_order 21 = .ok (.aload_n 0, 1) := by decide +kernel
theorem dX7_order_22 : decode cX7_order 22 = .ok (.iload 5, 2) := by decide +kernel
theorem dX7_order_24 : decode cX7_order 24 = .ok (.putfield 30, 3) := by decide +kernel
theorem dX7_order_27 : decode cX7_order 27 = .ok (.aload_n 0, 1) := by decide +kernel
theorem dX7_order_28 : decode cX7_order 28 = .ok (.iload 6, 2) := by decide +kernel
theorem dX7_order_30 : decode cX7_order 30 = .ok (.putfield 33, 3) := by decide +kernel
theorem dX7_order_33 : decode cX7_order 33 = .ok (.aload_n 0, 1) := by decide +kernel
theorem dX7_order_34 : decode cX7_order 34 = .ok (.iconst (-1), 1) := by decide +kernel
theorem dX7_order_35 : decode cX7_order 35 = .ok (.putfield 9, 3) := by decide +kernel
theorem dX7_order_38 : decode cX7_order 38 = .ok (.return_, 1) := by decide +kernel
theorem dX7_bid_0 : decode cX7_bid 0 = .ok (.aload_n 0, 1) := by decide +kernel
theorem dX7_bid_1 : decode cX7_bid 1 = .ok (.iload_n 1, 1) := by decide +kernel
theorem dX7_bid_2 : decode cX7_bid 2 = .ok (.putfield 36, 3) := by decide +kernel
theorem dX7_bid_5 : decode cX7_bid 5 = .ok (.aload_n 0, 1) := by decide +kernel
theorem dX7_bid_6 : decode cX7_bid 6 = .ok (.iload_n 2, 1) := by decide +kernel
theorem dX7_bid_7 : decode cX7_bid 7 = .ok (.putfield 39, 3) := by decide +kernel
theorem dX7_bid_10 : decode cX7_bid 10 = .ok (.return_, 1) := by decide +kernel
theorem dX7_nameLock_0 : decode cX7_nameLock 0 = .ok (.aload_n 0, 1) := by decide +kernel
theorem dX7_nameLock_1 : decode cX7_nameLock 1 = .ok (.aload_n 1, 1) := by decide +kernel
theorem dX7_nameLock_2 : decode cX7_nameLock 2 = .ok (.getfield 15, 3) := by decide +kernel
theorem dX7_nameLock_5 : decode cX7_nameLock 5 = .ok (.putfield 9, 3) := by decide +kernel
theorem dX7_nameLock_8 : decode cX7_nameLock 8 = .ok (.aload_n 0, 1) := by decide +kernel
theorem dX7_nameLock_9 : decode cX7_nameLock 9 = .ok (.aload_n 1, 1) := by decide +kernel
theorem dX7_nameLock_10 : decode cX7_nameLock 10 = .ok (.getfield 27, 3) := by decide +kernel
theorem dX7_nameLock_13 : decode cX7_nameLock 13 = .ok (.putfield 42, 3) := by decide +kernel
theorem dX7_nameLock_16 : decode cX7_nameLock 16 = .ok (.aload_n 0, 1) := by decide +kernel
theorem dX7_nameLock_17 : decode cX7_nameLock 17 = .ok (.aload_n 1, 1) := by decide +kernel
theorem dX7_nameLock_18 : decode cX7_nameLock 18 = .ok (.getfield 30, 3) := by decide +kernel
theorem dX7_nameLock_21 : decode cX7_nameLock 21 = .ok (.bipush 6, 2) := by decide +kernel
theorem dX7_nameLock_23 : decode cX7_nameLock 23 = .ok (.irem, 1) := by decide +kernel
theorem dX7_nameLock_24 : decode cX7_nameLock 24 = .ok (.putfield 45, 3) := by decide +kernel
theorem dX7_nameLock_27 : decode cX7_nameLock 27 = .ok (.return_, 1) := by decide +kernel
theorem dX7_isLock_0 : decode cX7_isLock 0 = .ok (.aload_n 0, 1) := by decide +kernel
theorem dX7_isLock_1 : decode cX7_isLock 1 = .ok (.getfield 24, 3) := by decide +kernel
theorem dX7_isLock_4 : decode cX7_isLock 4 = .ok (.bipush 15, 2) := by decide +kernel
theorem dX7_isLock_6 : decode cX7_isLock 6 = .ok (.if_icmp .ne 14, 3) := by decide +kernel
theorem dX7_isLock_9 : decode cX7_isLock 9 = .ok (.aload_n 0, 1) := by decide +kernel
theorem dX7_isLock_10 : decode cX7_isLock 10 = .ok (.getfield 27, 3) := by decide +kernel
theorem dX7_isLock_13 : decode cX7_isLock 13 = .ok (.ifCond .le 7, 3) := by decide +kernel
theorem dX7_isLock_16 : decode cX7_isLock 16 = .ok (.iconst 1, 1) := by decide +kernel
theorem dX7_isLock_17 : decode cX7_isLock 17 = .ok (.goto 4, 3) := by decide +kernel
theorem dX7_isLock_20 : decode cX7_isLock 20 = .ok (.iconst 0, 1) := by decide +kernel
theorem dX7_isLock_21 : decode cX7_isLock 21 = .ok (.ireturn, 1) := by decide +kernel
theorem dX7_rivals_0 : decode cX7_rivals 0 = .ok (.aload_n 0, 1) := by decide +kernel
theorem dX7_rivals_1 : decode cX7_rivals 1 = .ok (.getfield 18, 3) := by decide +kernel
theorem dX7_rivals_4 : decode cX7_rivals 4 = .ok (.aload_n 1, 1) := by decide +kernel
theorem dX7_rivals_5 : decode cX7_rivals 5 = .ok (.getfield 18, 3) := by decide +kernel
theorem dX7_rivals_8 : decode cX7_rivals 8 = .ok (.if_icmp .ne 18, 3) := by decide +kernel
theorem dX7_rivals_11 : decode cX7_rivals 11 = .ok (.aload_n 0, 1) := by decide +kernel
theorem dX7_rivals_12 : decode cX7_rivals 12 = .ok (.getfield 21, 3) := by decide +kernel
theorem dX7_rivals_15 : decode cX7_rivals 15 = .ok (.aload_n 1, 1) := by decide +kernel
theorem dX7_rivals_16 : decode cX7_rivals 16 = .ok (.getfield 21, 3) := by decide +kernel
theorem dX7_rivals_19 : decode cX7_rivals 19 = .ok (.if_icmp .ne 7, 3) := by decide +kernel
theorem dX7_rivals_22 : decode cX7_rivals 22 = .ok (.iconst 1, 1) := by decide +kernel
theorem dX7_rivals_23 : decode cX7_rivals 23 = .ok (.goto 4, 3) := by decide +kernel
theorem dX7_rivals_26 : decode cX7_rivals 26 = .ok (.iconst 0, 1) := by decide +kernel
theorem dX7_rivals_27 : decode cX7_rivals 27 = .ok (.ireturn, 1) := by decide +kernel
theorem dX7_outbids_0 : decode cX7_outbids 0 = .ok (.bipush 10, 2) := by decide +kernel
theorem dX7_outbids_2 : decode cX7_outbids 2 = .ok (.aload_n 0, 1) := by decide +kernel
theorem dX7_outbids_3 : decode cX7_outbids 3 = .ok (.getfield 36, 3) := by decide +kernel
theorem dX7_outbids_6 : decode cX7_outbids 6 = .ok (.imul, 1) := by decide +kernel
theorem dX7_outbids_7 : decode cX7_outbids 7 = .ok (.bipush 11, 2) := by decide +kernel
theorem dX7_outbids_9 : decode cX7_outbids 9 = .ok (.aload_n 1, 1) := by decide +kernel
theorem dX7_outbids_10 : decode cX7_outbids 10 = .ok (.getfield 36, 3) := by decide +kernel
theorem dX7_outbids_13 : decode cX7_outbids 13 = .ok (.imul, 1) := by decide +kernel
theorem dX7_outbids_14 : decode cX7_outbids 14 = .ok (.if_icmp .lt 24, 3) := by decide +kernel
theorem dX7_outbids_17 : decode cX7_outbids 17 = .ok (.bipush 10, 2) := by decide +kernel
theorem dX7_outbids_19 : decode cX7_outbids 19 = .ok (.aload_n 0, 1) := by decide +kernel
theorem dX7_outbids_20 : decode cX7_outbids 20 = .ok (.getfield 39, 3) := by decide +kernel
theorem dX7_outbids_23 : decode cX7_outbids 23 = .ok (.imul, 1) := by decide +kernel
theorem dX7_outbids_24 : decode cX7_outbids 24 = .ok (.bipush 11, 2) := by decide +kernel
theorem dX7_outbids_26 : decode cX7_outbids 26 = .ok (.aload_n 1, 1) := by decide +kernel
theorem dX7_outbids_27 : decode cX7_outbids 27 = .ok (.getfield 39, 3) := by decide +kernel
theorem dX7_outbids_30 : decode cX7_outbids 30 = .ok (.imul, 1) := by decide +kernel
theorem dX7_outbids_31 : decode cX7_outbids 31 = .ok (.if_icmp .lt 7, 3) := by decide +kernel
theorem dX7_outbids_34 : decode cX7_outbids 34 = .ok (.iconst 1, 1) := by decide +kernel
theorem dX7_outbids_35 : decode cX7_outbids 35 = .ok (.goto 4, 3) := by decide +kernel
theorem dX7_outbids_38 : decode cX7_outbids 38 = .ok (.iconst 0, 1) := by decide +kernel
theorem dX7_outbids_39 : decode cX7_outbids 39 = .ok (.ireturn, 1) := by decide +kernel
theorem dX7_waitsBehind_0 : decode cX7_waitsBehind 0 = .ok (.aload_n 0, 1) := by decide +kernel
theorem dX7_waitsBehind_1 : decode cX7_waitsBehind 1 = .ok (.getfield 48, 3) := by decide +kernel
theorem dX7_waitsBehind_4 : decode cX7_waitsBehind 4 = .ok (.ifCond .eq 18, 3) := by decide +kernel
theorem dX7_waitsBehind_7 : decode cX7_waitsBehind 7 = .ok (.aload_n 1, 1) := by decide +kernel
theorem dX7_waitsBehind_8 : decode cX7_waitsBehind 8 = .ok (.aload_n 0, 1) := by decide +kernel
theorem dX7_waitsBehind_9 : decode cX7_waitsBehind 9 = .ok (.getfield 15, 3) := by decide +kernel
theorem dX7_waitsBehind_12 : decode cX7_waitsBehind 12 = .ok (.invokevirtual 52, 3) := by decide +kernel
theorem dX7_waitsBehind_15 : decode cX7_waitsBehind 15 = .ok (.ifCond .ne 7, 3) := by decide +kernel
theorem dX7_waitsBehind_18 : decode cX7_waitsBehind 18 = .ok (.iconst 1, 1) := by decide +kernel
theorem dX7_waitsBehind_19 : decode cX7_waitsBehind 19 = .ok (.goto 4, 3) := by decide +kernel
theorem dX7_waitsBehind_22 : decode cX7_waitsBehind 22 = .ok (.iconst 0, 1) := by decide +kernel
theorem dX7_waitsBehind_23 : decode cX7_waitsBehind 23 = .ok (.ireturn, 1) := by decide +kernel
theorem dX7_priceAt_0 : decode cX7_priceAt 0 = .ok (.aload_n 0, 1) := by decide +kernel
theorem dX7_priceAt_1 : decode cX7_priceAt 1 = .ok (.getfield 36, 3) := by decide +kernel
theorem dX7_priceAt_4 : decode cX7_priceAt 4 = .ok (.iload_n 1, 1) := by decide +kernel
theorem dX7_priceAt_5 : decode cX7_priceAt 5 = .ok (.aload_n 0, 1) := by decide +kernel
theorem dX7_priceAt_6 : decode cX7_priceAt 6 = .ok (.getfield 39, 3) := by decide +kernel
theorem dX7_priceAt_9 : decode cX7_priceAt 9 = .ok (.iadd, 1) := by decide +kernel
theorem dX7_priceAt_10 : decode cX7_priceAt 10 = .ok (.invokestatic 58, 3) := by decide +kernel
theorem dX7_priceAt_13 : decode cX7_priceAt 13 = .ok (.ireturn, 1) := by decide +kernel
theorem dX7_fits_0 : decode cX7_fits 0 = .ok (.aload_n 0, 1) := by decide +kernel
theorem dX7_fits_1 : decode cX7_fits 1 = .ok (.getfield 36, 3) := by decide +kernel
theorem dX7_fits_4 : decode cX7_fits 4 = .ok (.aload_n 1, 1) := by decide +kernel
theorem dX7_fits_5 : decode cX7_fits 5 = .ok (.getfield 64, 3) := by decide +kernel
theorem dX7_fits_8 : decode cX7_fits 8 = .ok (.if_icmp .lt 74, 3) := by decide +kernel
theorem dX7_fits_11 : decode cX7_fits 11 = .ok (.aload_n 0, 1) := by decide +kernel
theorem dX7_fits_12 : decode cX7_fits 12 = .ok (.getfield 33, 3) := by decide +kernel
theorem dX7_fits_15 : decode cX7_fits 15 = .ok (.sipush 600, 3) := by decide +kernel
theorem dX7_fits_18 : decode cX7_fits 18 = .ok (.aload_n 1, 1) := by decide +kernel
theorem dX7_fits_19 : decode cX7_fits 19 = .ok (.getfield 67, 3) := by decide +kernel
theorem dX7_fits_22 : decode cX7_fits 22 = .ok (.isub, 1) := by decide +kernel
theorem dX7_fits_23 : decode cX7_fits 23 = .ok (.if_icmp .gt 59, 3) := by decide +kernel
theorem dX7_fits_26 : decode cX7_fits 26 = .ok (.aload_n 1, 1) := by decide +kernel
theorem dX7_fits_27 : decode cX7_fits 27 = .ok (.getfield 70, 3) := by decide +kernel
theorem dX7_fits_30 : decode cX7_fits 30 = .ok (.getfield 74, 3) := by decide +kernel
theorem dX7_fits_33 : decode cX7_fits 33 = .ok (.aload_n 0, 1) := by decide +kernel
theorem dX7_fits_34 : decode cX7_fits 34 = .ok (.getfield 18, 3) := by decide +kernel
theorem dX7_fits_37 : decode cX7_fits 37 = .ok (.invokestatic 80, 3) := by decide +kernel
theorem dX7_fits_40 : decode cX7_fits 40 = .ok (.aload_n 0, 1) := by decide +kernel
theorem dX7_fits_41 : decode cX7_fits 41 = .ok (.getfield 21, 3) := by decide +kernel
theorem dX7_fits_44 : decode cX7_fits 44 = .ok (.if_icmp .ne 38, 3) := by decide +kernel
theorem dX7_fits_47 : decode cX7_fits 47 = .ok (.aload_n 1, 1) := by decide +kernel
theorem dX7_fits_48 : decode cX7_fits 48 = .ok (.getfield 70, 3) := by decide +kernel
theorem dX7_fits_51 : decode cX7_fits 51 = .ok (.getfield 84, 3) := by decide +kernel
theorem dX7_fits_54 : decode cX7_fits 54 = .ok (.aload_n 0, 1) := by decide +kernel
theorem dX7_fits_55 : decode cX7_fits 55 = .ok (.getfield 18, 3) := by decide +kernel
theorem dX7_fits_58 : decode cX7_fits 58 = .ok (.invokestatic 80, 3) := by decide +kernel
theorem dX7_fits_61 : decode cX7_fits 61 = .ok (.aload_n 0, 1) := by decide +kernel
theorem dX7_fits_62 : decode cX7_fits 62 = .ok (.getfield 27, 3) := by decide +kernel
theorem dX7_fits_65 : decode cX7_fits 65 = .ok (.aload_n 0, 1) := by decide +kernel
theorem dX7_fits_66 : decode cX7_fits 66 = .ok (.getfield 33, 3) := by decide +kernel
theorem dX7_fits_69 : decode cX7_fits 69 = .ok (.aload_n 0, 1) := by decide +kernel
theorem dX7_fits_70 : decode cX7_fits 70 = .ok (.getfield 36, 3) := by decide +kernel
theorem dX7_fits_73 : decode cX7_fits 73 = .ok (.imul, 1) := by decide +kernel
theorem dX7_fits_74 : decode cX7_fits 74 = .ok (.iadd, 1) := by decide +kernel
theorem dX7_fits_75 : decode cX7_fits 75 = .ok (.if_icmp .lt 7, 3) := by decide +kernel
theorem dX7_fits_78 : decode cX7_fits 78 = .ok (.iconst 1, 1) := by decide +kernel
theorem dX7_fits_79 : decode cX7_fits 79 = .ok (.goto 4, 3) := by decide +kernel
theorem dX7_fits_82 : decode cX7_fits 82 = .ok (.iconst 0, 1) := by decide +kernel
theorem dX7_fits_83 : decode cX7_fits 83 = .ok (.ireturn, 1) := by decide +kernel
theorem dX8_init_0 : decode cX8_init 0 = .ok (.aload_n 0, 1) := by decide +kernel
theorem dX8_init_1 : decode cX8_init 1 = .ok (.invokespecial 3, 3) := by decide +kernel
theorem dX8_init_4 : decode cX8_init 4 = .ok (.aload_n 0, 1) := by decide +kernel
theorem dX8_init_5 : decode cX8_init 5 = .ok (.bipush 20, 2) := by decide +kernel
theorem dX8_init_7 : decode cX8_init 7 = .ok (.anewarray 9, 3) := by decide +kernel
theorem dX8_init_10 : decode cX8_init 10 = .ok (.putfield 11, 3) := by decide +kernel
theorem dX8_init_13 : decode cX8_init 13 = .ok (.iconst 0, 1) := by decide +kernel
theorem dX8_init_14 : decode cX8_init 14 = .ok (.istore_n 1, 1) := by decide +kernel
theorem dX8_init_15 : decode cX8_init 15 = .ok (.iload_n 1, 1) := by decide +kernel
theorem dX8_init_16 : decode cX8_init 16 = .ok (.bipush 20, 2) := by decide +kernel
theorem dX8_init_18 : decode cX8_init 18 = .ok (.if_icmp .ge 22, 3) := by decide +kernel
theorem dX8_init_21 : decode cX8_init 21 = .ok (.aload_n 0, 1) := by decide +kernel
theorem dX8_init_22 : decode cX8_init 22 = .ok (.getfield 11, 3) := by decide +kernel
theorem dX8_init_25 : decode cX8_init 25 = .ok (.iload_n 1, 1) := by decide +kernel
theorem dX8_init_26 : decode cX8_init 26 = .ok (.new 9, 3) := by decide +kernel
theorem dX8_init_29 : decode cX8_init 29 = .ok (.dup, 1) := by decide +kernel
theorem dX8_init_30 : decode cX8_init 30 = .ok (.invokespecial 17, 3) := by decide +kernel
theorem dX8_init_33 : decode cX8_init 33 = .ok (.aastore, 1) := by decide +kernel
theorem dX8_init_34 : decode cX8_init 34 = .ok (.iinc 1 1, 3) := by decide +kernel
theorem dX8_init_37 : decode cX8_init 37 = .ok (.goto (-22), 3) := by decide +kernel
theorem dX8_init_40 : decode cX8_init 40 = .ok (.return_, 1) := by decide +kernel
theorem dX8_stakeNow_0 : decode cX8_stakeNow 0 = .ok (.aload_n 0, 1) := by decide +kernel
theorem dX8_stakeNow_1 : decode cX8_stakeNow 1 = .ok (.getfield 18, 3) := by decide +kernel
theorem dX8_stakeNow_4 : decode cX8_stakeNow 4 = .ok (.ifCond .eq 7, 3) := by decide +kernel
theorem dX8_stakeNow_7 : decode cX8_stakeNow 7 = .ok (.iconst 0, 1) := by decide +kernel
theorem dX8_stakeNow_8 : decode cX8_stakeNow 8 = .ok (.goto 5, 3) := by decide +kernel
theorem dX8_stakeNow_11 : decode cX8_stakeNow 11 = .ok (.bipush 100, 2) := by decide +kernel
theorem dX8_stakeNow_13 : decode cX8_stakeNow 13 = .ok (.ireturn, 1) := by decide +kernel
theorem dX8_countingVotes_0 : decode cX8_countingVotes 0 = .ok (.aload_n 0, 1) := by decide +kernel
theorem dX8_countingVotes_1 : decode cX8_countingVotes 1 = .ok (.getfield 18, 3) := by decide +kernel
theorem dX8_countingVotes_4 : decode cX8_countingVotes 4 = .ok (.ifCond .eq 7, 3) := by decide +kernel
theorem dX8_countingVotes_7 : decode cX8_countingVotes 7 = .ok (.iconst 0, 1) := by decide +kernel
theorem dX8_countingVotes_8 : decode cX8_countingVotes 8 = .ok (.goto 12, 3) := by decide +kernel
theorem dX8_countingVotes_11 : decode cX8_countingVotes 11 = .ok (.aload_n 0, 1) := by decide +kernel
theorem dX8_countingVotes_12 : decode cX8_countingVotes 12 = .ok (.getfield 22, 3) := by decide +kernel
theorem dX8_countingVotes_15 : decode cX8_countingVotes 15 = .ok (.bipush 20, 2) := by decide +kernel
theorem dX8_countingVotes_17 : decode cX8_countingVotes 17 = .ok (.invokestatic 26, 3) := by decide +kernel
theorem dX8_countingVotes_20 : decode cX8_countingVotes 20 = .ok (.ireturn, 1) := by decide +kernel
theorem dX8_voteAt_0 : decode cX8_voteAt 0 = .ok (.aload_n 0, 1) := by decide +kernel
theorem dX8_voteAt_1 : decode cX8_voteAt 1 = .ok (.getfield 11, 3) := by decide +kernel
theorem dX8_voteAt_4 : decode cX8_voteAt 4 = .ok (.iload_n 1, 1) := by decide +kernel
theorem dX8_voteAt_5 : decode cX8_voteAt 5 = .ok (.ifCond .lt 13, 3) := by decide +kernel
theorem dX8_voteAt_8 : decode cX8_voteAt 8 = .ok (.iload_n 1, 1) := by decide +kernel
theorem dX8_voteAt_9 : decode cX8_voteAt 9 = .ok (.bipush 20, 2) := by decide +kernel
theorem dX8_voteAt_11 : decode cX8_voteAt 11 = .ok (.if_icmp .ge 7, 3) := by decide +kernel
theorem dX8_voteAt_14 : decode cX8_voteAt 14 = .ok (.iload_n 1, 1) := by decide +kernel
theorem dX8_voteAt_15 : decode cX8_voteAt 15 = .ok (.goto 4, 3) := by decide +kernel
theorem dX8_voteAt_18 : decode cX8_voteAt 18 = .ok (.iconst 0, 1) := by decide +kernel
theorem dX8_voteAt_19 : decode cX8_voteAt 19 = .ok (.aaload, 1) := by decide +kernel
theorem dX8_voteAt_20 : decode cX8_voteAt 20 = .ok (.areturn, 1) := by decide +kernel
theorem dX8_give_0 : decode cX8_give 0 = .ok (.aload_n 0, 1) := by decide +kernel
theorem dX8_give_1 : decode cX8_give 1 = .ok (.aload_n 0, 1) := by decide +kernel
theorem dX8_give_2 : decode cX8_give 2 = .ok (.getfield 22, 3) := by decide +kernel
theorem dX8_give_5 : decode cX8_give 5 = .ok (.invokevirtual 32, 3) := by decide +kernel
theorem dX8_give_8 : decode cX8_give 8 = .ok (.astore_n 3, 1) := by decide +kernel
theorem dX8_give_9 : decode cX8_give 9 = .ok (.aload_n 3, 1) := by decide +kernel
theorem dX8_give_10 : decode cX8_give 10 = .ok (.aload_n 1, 1) := by decide +kernel
theorem dX8_give_11 : decode cX8_give 11 = .ok (.aload_n 2, 1) := by decide +kernel
theorem dX8_give_12 : decode cX8_give 12 = .ok (.invokevirtual 36, 3) := by decide +kernel
theorem dX8_give_15 : decode cX8_give 15 = .ok (.iconst 0, 1) := by decide +kernel
theorem dX8_give_16 : decode cX8_give 16 = .ok (.istore 4, 2) := by decide +kernel
theorem dX8_give_18 : decode cX8_give 18 = .ok (.iload 4, 2) := by decide +kernel
theorem dX8_give_20 : decode cX8_give 20 = .ok (.aload_n 0, 1) := by decide +kernel
theorem dX8_give_21 : decode cX8_give 21 = .ok (.getfield 22, 3) := by decide +kernel
theorem dX8_give_24 : decode cX8_give 24 = .ok (.if_icmp .ge 27, 3) := by decide +kernel
theorem dX8_give_27 : decode cX8_give 27 = .ok (.aload_n 3, 1) := by decide +kernel
theorem dX8_give_28 : decode cX8_give 28 = .ok (.aload_n 0, 1) := by decide +kernel
theorem dX8_give_29 : decode cX8_give 29 = .ok (.iload 4, 2) := by decide +kernel
theorem dX8_give_31 : decode cX8_give 31 = .ok (.invokevirtual 32, 3) := by decide +kernel
theorem dX8_give_34 : decode cX8_give 34 = .ok (.invokevirtual 40, 3) := by decide +kernel
theorem dX8_give_37 : decode cX8_give 37 = .ok (.ifCond .eq 8, 3) := by decide +kernel
theorem dX8_give_40 : decode cX8_give 40 = .ok (.aload_n 0, 1) := by decide +kernel
theorem dX8_give_41 : decode cX8_give 41 = .ok (.iconst 1, 1) := by decide +kernel
theorem dX8_give_42 : decode cX8_give 42 = .ok (.putfield 18, 3) := by decide +kernel
theorem dX8_give_45 : decode cX8_give 45 = .ok (.iinc 4 1, 3) := by decide +kernel
theorem dX8_give_48 : decode cX8_give 48 = .ok (.goto (-30), 3) := by decide +kernel
theorem dX8_give_51 : decode cX8_give 51 = .ok (.aload_n 0, 1) := by decide +kernel
theorem dX8_give_52 : decode cX8_give 52 = .ok (.dup, 1) := by decide +kernel
theorem dX8_give_53 : decode cX8_give 53 = .ok (.getfield 22, 3) := by decide +kernel
theorem dX8_give_56 : decode cX8_give 56 = .ok (.iconst 1, 1) := by decide +kernel
theorem dX8_give_57 : decode cX8_give 57 = .ok (.iadd, 1) := by decide +kernel
theorem dX8_give_58 : decode cX8_give 58 = .ok (.putfield 22, 3) := by decide +kernel
theorem dX8_give_61 : decode cX8_give 61 = .ok (.aload_n 0, 1) := by decide +kernel
theorem dX8_give_62 : decode cX8_give 62 = .ok (.getfield 18, 3) := by decide +kernel
theorem dX8_give_65 : decode cX8_give 65 = .ok (.ifCond .ne 7, 3) := by decide +kernel
theorem dX8_give_68 : decode cX8_give 68 = .ok (.iconst 1, 1) := by decide +kernel
theorem dX8_give_69 : decode cX8_give 69 = .ok (.goto 4, 3) := by decide +kernel
theorem dX8_give_72 : decode cX8_give 72 = .ok (.iconst 0, 1) := by decide +kernel
theorem dX8_give_73 : decode cX8_give 73 = .ok (.ireturn, 1) := by decide +kernel
theorem dX8_supports_0 : decode cX8_supports 0 = .ok (.iconst 0, 1) := by decide +kernel
theorem dX8_supports_1 : decode cX8_supports 1 = .ok (.istore_n 2, 1) := by decide +kernel
theorem dX8_supports_2 : decode cX8_supports 2 = .ok (.iload_n 2, 1) := by decide +kernel
theorem dX8_supports_3 : decode cX8_supports 3 = .ok (.aload_n 0, 1) := by decide +kernel
theorem dX8_supports_4 : decode cX8_supports 4 = .ok (.invokevirtual 44, 3) := by decide +kernel
theorem dX8_supports_7 : decode cX8_supports 7 = .ok (.if_icmp .ge 39, 3) := by decide +kernel
theorem dX8_supports_10 : decode cX8_supports 10 = .ok (.aload_n 0, 1) := by decide +kernel
theorem dX8_supports_11 : decode cX8_supports 11 = .ok (.iload_n 2, 1) := by decide +kernel
theorem dX8_supports_12 : decode cX8_supports 12 = .ok (.invokevirtual 32, 3) := by decide +kernel
theorem dX8_supports_15 : decode cX8_supports 15 = .ok (.astore_n 3, 1) := by decide +kernel
theorem dX8_supports_16 : decode cX8_supports 16 = .ok (.aload_n 3, 1) := by decide +kernel
theorem dX8_supports_17 : decode cX8_supports 17 = .ok (.getfield 48, 3) := by decide +kernel
theorem dX8_supports_20 : decode cX8_supports 20 = .ok (.aload_n 1, 1) := by decide +kernel
theorem dX8_supports_21 : decode cX8_supports 21 = .ok (.getfield 48, 3) := by decide +kernel
theorem dX8_supports_24 : decode cX8_supports 24 = .ok (.if_icmp .ne 16, 3) := by decide +kernel
theorem dX8_supports_27 : decode cX8_supports 27 = .ok (.aload_n 3, 1) := by decide +kernel
theorem dX8_supports_28 : decode cX8_supports 28 = .ok (.getfield 51, 3) := by decide +kernel
theorem dX8_supports_31 : decode cX8_supports 31 = .ok (.aload_n 1, 1) := by decide +kernel
theorem dX8_supports_32 : decode cX8_supports 32 = .ok (.getfield 51, 3) := by decide +kernel
theorem dX8_supports_35 : decode cX8_supports 35 = .ok (.if_icmp .ne 5, 3) := by decide +kernel
theorem dX8_supports_38 : decode cX8_supports 38 = .ok (.iconst 1, 1) := by decide +kernel
theorem dX8_supports_39 : decode cX8_supports 39 = .ok (.ireturn, 1) := by decide +kernel
theorem dX8_supports_40 : decode cX8_supports 40 = .ok (.iinc 2 1, 3) := by decide +kernel
theorem dX8_supports_43 : decode cX8_supports 43 = .ok (.goto (-41), 3) := by decide +kernel
theorem dX8_supports_46 : decode cX8_supports 46 = .ok (.iconst 0, 1) := by decide +kernel
theorem dX8_supports_47 : decode cX8_supports 47 = .ok (.ireturn, 1) := by decide +kernel
theorem dX9_init_0 : decode cX9_init 0 = .ok (.aload_n 0, 1) := by decide +kernel
theorem dX9_init_1 : decode cX9_init 1 = .ok (.invokespecial 1, 3) := by decide +kernel
theorem dX9_init_4 : decode cX9_init 4 = .ok (.return_, 1) := by decide +kernel
theorem dX9_become_0 : decode cX9_become 0 = .ok (.aload_n 0, 1) := by decide +kernel
theorem dX9_become_1 : decode cX9_become 1 = .ok (.aload_n 1, 1) := by decide +kernel
theorem dX9_become_2 : decode cX9_become 2 = .ok (.getfield 7, 3) := by decide +kernel
theorem dX9_become_5 : decode cX9_become 5 = .ok (.putfield 13, 3) := by decide +kernel
theorem dX9_become_8 : decode cX9_become 8 = .ok (.aload_n 0, 1) := by decide +kernel
theorem dX9_become_9 : decode cX9_become 9 = .ok (.aload_n 2, 1) := by decide +kernel
theorem dX9_become_10 : decode cX9_become 10 = .ok (.getfield 7, 3) := by decide +kernel
theorem dX9_become_13 : decode cX9_become 13 = .ok (.putfield 18, 3) := by decide +kernel
theorem dX9_become_16 : decode cX9_become 16 = .ok (.aload_n 0, 1) := by decide +kernel
theorem dX9_become_17 : decode cX9_become 17 = .ok (.aload_n 1, 1) := by decide +kernel
theorem dX9_become_18 : decode cX9_become 18 = .ok (.getfield 21, 3) := by decide +kernel
theorem dX9_become_21 : decode cX9_become 21 = .ok (.putfield 24, 3) := by decide +kernel
theorem dX9_become_24 : decode cX9_become 24 = .ok (.aload_n 0, 1) := by decide +kernel
theorem dX9_become_25 : decode cX9_become 25 = .ok (.aload_n 2, 1) := by decide +kernel
theorem dX9_become_26 : decode cX9_become 26 = .ok (.getfield 21, 3) := by decide +kernel
theorem dX9_become_29 : decode cX9_become 29 = .ok (.putfield 27, 3) := by decide +kernel
theorem dX9_become_32 : decode cX9_become 32 = .ok (.return_, 1) := by decide +kernel
theorem dX9_clashesWith_0 : decode cX9_clashesWith 0 = .ok (.aload_n 0, 1) := by decide +kernel
theorem dX9_clashesWith_1 : decode cX9_clashesWith 1 = .ok (.getfield 27, 3) := by decide +kernel
theorem dX9_clashesWith_4 : decode cX9_clashesWith 4 = .ok (.aload_n 1, 1) := by decide +kernel
theorem dX9_clashesWith_5 : decode cX9_clashesWith 5 = .ok (.getfield 27, 3) := by decide +kernel
theorem dX9_clashesWith_8 : decode cX9_clashesWith 8 = .ok (.if_icmp .ne 14, 3) := by decide +kernel
theorem dX9_clashesWith_11 : decode cX9_clashesWith 11 = .ok (.aload_n 0, 1) := by decide +kernel
theorem dX9_clashesWith_12 : decode cX9_clashesWith 12 = .ok (.getfield 18, 3) := by decide +kernel
theorem dX9_clashesWith_15 : decode cX9_clashesWith 15 = .ok (.aload_n 1, 1) := by decide +kernel
theorem dX9_clashesWith_16 : decode cX9_clashesWith 16 = .ok (.getfield 18, 3) := by decide +kernel
theorem dX9_clashesWith_19 : decode cX9_clashesWith 19 = .ok (.if_icmp .ne 19, 3) := by decide +kernel
theorem dX9_clashesWith_22 : decode cX9_clashesWith 22 = .ok (.aload_n 0, 1) := by decide +kernel
theorem dX9_clashesWith_23 : decode cX9_clashesWith 23 = .ok (.aload_n 1, 1) := by decide +kernel
theorem dX9_clashesWith_24 : decode cX9_clashesWith 24 = .ok (.invokevirtual 30, 3) := by decide +kernel
theorem dX9_clashesWith_27 : decode cX9_clashesWith 27 = .ok (.ifCond .ne 11, 3) := by decide +kernel
theorem dX9_clashesWith_30 : decode cX9_clashesWith 30 = .ok (.aload_n 1, 1) := by decide +kernel
theorem dX9_clashesWith_31 : decode cX9_clashesWith 31 = .ok (.aload_n 0, 1) := by decide +kernel
theorem dX9_clashesWith_32 : decode cX9_clashesWith 32 = .ok (.invokevirtual 30, 3) := by decide +kernel
theorem dX9_clashesWith_35 : decode cX9_clashesWith 35 = .ok (.ifCond .eq 7, 3) := by decide +kernel
theorem dX9_clashesWith_38 : decode cX9_clashesWith 38 = .ok (.iconst 1, 1) := by decide +kernel
theorem dX9_clashesWith_39 : decode cX9_clashesWith 39 = .ok (.goto 4, 3) := by decide +kernel
theorem dX9_clashesWith_42 : decode cX9_clashesWith 42 = .ok (.iconst 0, 1) := by decide +kernel
theorem dX9_clashesWith_43 : decode cX9_clashesWith 43 = .ok (.ireturn, 1) := by decide +kernel
theorem dX9_surrounds_0 : decode cX9_surrounds 0 = .ok (.aload_n 0, 1) := by decide +kernel
theorem dX9_surrounds_1 : decode cX9_surrounds 1 = .ok (.getfield 24, 3) := by decide +kernel
theorem dX9_surrounds_4 : decode cX9_surrounds 4 = .ok (.aload_n 1, 1) := by decide +kernel
theorem dX9_surrounds_5 : decode cX9_surrounds 5 = .ok (.getfield 24, 3) := by decide +kernel
theorem dX9_surrounds_8 : decode cX9_surrounds 8 = .ok (.if_icmp .ge 18, 3) := by decide +kernel
theorem dX9_surrounds_11 : decode cX9_surrounds 11 = .ok (.aload_n 0, 1) := by decide +kernel
theorem dX9_surrounds_12 : decode cX9_surrounds 12 = .ok (.getfield 27, 3) := by decide +kernel
theorem dX9_surrounds_15 : decode cX9_surrounds 15 = .ok (.aload_n 1, 1) := by decide +kernel
theorem dX9_surrounds_16 : decode cX9_surrounds 16 = .ok (.getfield 27, 3) := by decide +kernel
theorem dX9_surrounds_19 : decode cX9_surrounds 19 = .ok (.if_icmp .le 7, 3) := by decide +kernel
theorem dX9_surrounds_22 : decode cX9_surrounds 22 = .ok (.iconst 1, 1) := by decide +kernel
theorem dX9_surrounds_23 : decode cX9_surrounds 23 = .ok (.goto 4, 3) := by decide +kernel
theorem dX9_surrounds_26 : decode cX9_surrounds 26 = .ok (.iconst 0, 1) := by decide +kernel
theorem dX9_surrounds_27 : decode cX9_surrounds 27 = .ok (.ireturn, 1) := by decide +kernel
theorem dX10_init_0 : decode cX10_init 0 = .ok (.aload_n 0, 1) := by decide +kernel
theorem dX10_init_1 : decode cX10_init 1 = .ok (.invokespecial 1, 3) := by decide +kernel
theorem dX10_init_4 : decode cX10_init 4 = .ok (.new 7, 3) := by decide +kernel
theorem dX10_init_7 : decode cX10_init 7 = .ok (.dup, 1) := by decide +kernel
theorem dX10_init_8 : decode cX10_init 8 = .ok (.invokespecial 9, 3) := by decide +kernel
theorem dX10_init_11 : decode cX10_init 11 = .ok (.astore_n 1, 1) := by decide +kernel
theorem dX10_init_12 : decode cX10_init 12 = .ok (.aload_n 0, 1) := by decide +kernel
theorem dX10_init_13 : decode cX10_init 13 = .ok (.aload_n 1, 1) := by decide +kernel
theorem dX10_init_14 : decode cX10_init 14 = .ok (.putfield 10, 3) := by decide +kernel
theorem dX10_init_17 : decode cX10_init 17 = .ok (.aload_n 0, 1) := by decide +kernel
theorem dX10_init_18 : decode cX10_init 18 = .ok (.new 16, 3) := by decide +kernel
theorem dX10_init_21 : decode cX10_init 21 = .ok (.dup, 1) := by decide +kernel
theorem dX10_init_22 : decode cX10_init 22 = .ok (.aload_n 1, 1) := by decide +kernel
theorem dX10_init_23 : decode cX10_init 23 = .ok (.invokespecial 18, 3) := by decide +kernel
theorem dX10_init_26 : decode cX10_init 26 = .ok (.putfield 21, 3) := by decide +kernel
theorem dX10_init_29 : decode cX10_init 29 = .ok (.aload_n 0, 1) := by decide +kernel
theorem dX10_init_30 : decode cX10_init 30 = .ok (.iconst 2, 1) := by decide +kernel
theorem dX10_init_31 : decode cX10_init 31 = .ok (.anewarray 25, 3) := by decide +kernel
theorem dX10_init_34 : decode cX10_init 34 = .ok (.putfield 27, 3) := by decide +kernel
theorem dX10_init_37 : decode cX10_init 37 = .ok (.iconst 0, 1) := by decide +kernel
theorem dX10_init_38 : decode cX10_init 38 = .ok (.istore_n 2, 1) := by decide +kernel
theorem dX10_init_39 : decode cX10_init 39 = .ok (.iload_n 2, 1) := by decide +kernel
theorem dX10_init_40 : decode cX10_init 40 = .ok (.iconst 2, 1) := by decide +kernel
theorem dX10_init_41 : decode cX10_init 41 = .ok (.if_icmp .ge 22, 3) := by decide +kernel
theorem dX10_init_44 : decode cX10_init 44 = .ok (.aload_n 0, 1) := by decide +kernel
theorem dX10_init_45 : decode cX10_init 45 = .ok (.getfield 27, 3) := by decide +kernel
theorem dX10_init_48 : decode cX10_init 48 = .ok (.iload_n 2, 1) := by decide +kernel
theorem dX10_init_49 : decode cX10_init 49 = .ok (.new 25, 3) := by decide +kernel
theorem dX10_init_52 : decode cX10_init 52 = .ok (.dup, 1) := by decide +kernel
theorem dX10_init_53 : decode cX10_init 53 = .ok (.invokespecial 31, 3) := by decide +kernel
theorem dX10_init_56 : decode cX10_init 56 = .ok (.aastore, 1) := by decide +kernel
theorem dX10_init_57 : decode cX10_init 57 = .ok (.iinc 2 1, 3) := by decide +kernel
theorem dX10_init_60 : decode cX10_init 60 = .ok (.goto (-21), 3) := by decide +kernel
theorem dX10_init_63 : decode cX10_init 63 = .ok (.return_, 1) := by decide +kernel
theorem dX10_step_0 : decode cX10_step 0 = .ok (.iload_n 1, 1) := by decide +kernel
theorem dX10_step_1 : decode cX10_step 1 = .ok (.bipush 8, 2) := by decide +kernel
theorem dX10_step_3 : decode cX10_step 3 = .ok (.invokestatic 32, 3) := by decide +kernel
theorem dX10_step_6 : decode cX10_step 6 = .ok (.iload_n 2, 1) := by decide +kernel
theorem dX10_step_7 : decode cX10_step 7 = .ok (.iconst 0, 1) := by decide +kernel
theorem dX10_step_8 : decode cX10_step 8 = .ok (.bipush 24, 2) := by decide +kernel
theorem dX10_step_10 : decode cX10_step 10 = .ok (.invokestatic 36, 3) := by decide +kernel
theorem dX10_step_13 : decode cX10_step 13 = .ok (.iload_n 3, 1) := by decide +kernel
theorem dX10_step_14 : decode cX10_step 14 = .ok (.iconst 0, 1) := by decide +kernel
theorem dX10_step_15 : decode cX10_step 15 = .ok (.getstatic 40, 3) := by decide +kernel
theorem dX10_step_18 : decode cX10_step 18 = .ok (.iload_n 2, 1) := by decide +kernel
theorem dX10_step_19 : decode cX10_step 19 = .ok (.invokestatic 44, 3) := by decide +kernel
theorem dX10_step_22 : decode cX10_step 22 = .ok (.invokestatic 36, 3) := by decide +kernel
theorem dX10_step_25 : decode cX10_step 25 = .ok (.aload_n 0, 1) := by decide +kernel
theorem dX10_step_26 : decode cX10_step 26 = .ok (.getfield 10, 3) := by decide +kernel
theorem dX10_step_29 : decode cX10_step 29 = .ok (.iload_n 1, 1) := by decide +kernel
theorem dX10_step_30 : decode cX10_step 30 = .ok (.invokevirtual 48, 3) := by decide +kernel
theorem dX10_step_33 : decode cX10_step 33 = .ok (.bipush 20, 2) := by decide +kernel
theorem dX10_step_35 : decode cX10_step 35 = .ok (.if_icmp .ge 7, 3) := by decide +kernel
theorem dX10_step_38 : decode cX10_step 38 = .ok (.iconst 1, 1) := by decide +kernel
theorem dX10_step_39 : decode cX10_step 39 = .ok (.goto 4, 3) := by decide +kernel
theorem dX10_step_42 : decode cX10_step 42 = .ok (.iconst 0, 1) := by decide +kernel
theorem dX10_step_43 : decode cX10_step 43 = .ok (.invokestatic 52, 3) := by decide +kernel
theorem dX10_step_46 : decode cX10_step 46 = .ok (.aload_n 0, 1) := by decide +kernel
theorem dX10_step_47 : decode cX10_step 47 = .ok (.getfield 27, 3) := by decide +kernel
theorem dX10_step_50 : decode cX10_step 50 = .ok (.astore 4, 2) := by decide +kernel
theorem dX10_step_52 : decode cX10_step 52 = .ok (.aload 4, 2) := by decide +kernel
theorem dX10_step_54 : decode cX10_step 54 = .ok (.arraylength, 1) := by decide +kernel
theorem dX10_step_55 : decode cX10_step 55 = .ok (.istore 5, 2) := by decide +kernel
theorem dX10_step_57 : decode cX10_step 57 = .ok (.iconst 0, 1) := by decide +kernel
theorem dX10_step_58 : decode cX10_step 58 = .ok (.istore 6, 2) := by decide +kernel
theorem dX10_step_60 : decode cX10_step 60 = .ok (.iload 6, 2) := by decide +kernel
theorem dX10_step_62 : decode cX10_step 62 = .ok (.iload 5, 2) := by decide +kernel
theorem dX10_step_64 : decode cX10_step 64 = .ok (.if_icmp .ge 32, 3) := by decide +kernel
theorem dX10_step_67 : decode cX10_step 67 = .ok (.aload 4, 2) := by decide +kernel
theorem dX10_step_69 : decode cX10_step 69 = .ok (.iload 6, 2) := by decide +kernel
theorem dX10_step_71 : decode cX10_step 71 = .ok (.aaload, 1) := by decide +kernel
theorem dX10_step_72 : decode cX10_step 72 = .ok (.astore 7, 2) := by decide +kernel
theorem dX10_step_74 : decode cX10_step 74 = .ok (.aload 7, 2) := by decide +kernel
theorem dX10_step_76 : decode cX10_step 76 = .ok (.getfield 56, 3) := by decide +kernel
theorem dX10_step_79 : decode cX10_step 79 = .ok (.ifCond .ne 7, 3) := by decide +kernel
theorem dX10_step_82 : decode cX10_step 82 = .ok (.iconst 1, 1) := by decide +kernel
theorem dX10_step_83 : decode cX10_step 83 = .ok (.goto 4, 3) := by decide +kernel
theorem dX10_step_86 : decode cX10_step 86 = .ok (.iconst 0, 1) := by decide +kernel
theorem dX10_step_87 : decode cX10_step 87 = .ok (.invokestatic 52, 3) := by decide +kernel
theorem dX10_step_90 : decode cX10_step 90 = .ok (.iinc 6 1, 3) := by decide +kernel
theorem dX10_step_93 : decode cX10_step 93 = .ok (.goto (-33), 3) := by decide +kernel
theorem dX10_step_96 : decode cX10_step 96 = .ok (.aload_n 0, 1) := by decide +kernel
theorem dX10_step_97 : decode cX10_step 97 = .ok (.getfield 10, 3) := by decide +kernel
theorem dX10_step_100 : decode cX10_step 100 = .ok (.iload_n 1, 1) := by decide +kernel
theorem dX10_step_101 : decode cX10_step 101 = .ok (.iload_n 2, 1) := by decide +kernel
theorem dX10_step_102 : decode cX10_step 102 = .ok (.iload_n 3, 1) := by decide +kernel
theorem dX10_step_103 : decode cX10_step 103 = .ok (.invokevirtual 60, 3) := by decide +kernel
theorem dX10_step_106 : decode cX10_step 106 = .ok (.ireturn, 1) := by decide +kernel
theorem dX10_submit_0 : decode cX10_submit 0 = .ok (.aload_n 0, 1) := by decide +kernel
theorem dX10_submit_1 : decode cX10_submit 1 = .ok (.iload_n 1, 1) := by decide +kernel
theorem dX10_submit_2 : decode cX10_submit 2 = .ok (.invokevirtual 64, 3) := by decide +kernel
theorem dX10_submit_5 : decode cX10_submit 5 = .ok (.astore 10, 2) := by decide +kernel
theorem dX10_submit_7 : decode cX10_submit 7 = .ok (.iload_n 2, 1) := by decide +kernel
theorem dX10_submit_8 : decode cX10_submit 8 = .ok (.bipush 6, 2) := by decide +kernel
theorem dX10_submit_10 : decode cX10_submit 10 = .ok (.invokestatic 32, 3) := by decide +kernel
theorem dX10_submit_13 : decode cX10_submit 13 = .ok (.iload_n 3, 1) := by decide +kernel
theorem dX10_submit_14 : decode cX10_submit 14 = .ok (.iconst 0, 1) := by decide +kernel
theorem dX10_submit_15 : decode cX10_submit 15 = .ok (.bipush 9, 2) := by decide +kernel
theorem dX10_submit_17 : decode cX10_submit 17 = .ok (.invokestatic 36, 3) := by decide +kernel
theorem dX10_submit_20 : decode cX10_submit 20 = .ok (.iload 4, 2) := by decide +kernel
theorem dX10_submit_22 : decode cX10_submit 22 = .ok (.iconst 0, 1) := by decide +kernel
theorem dX10_submit_23 : decode cX10_submit 23 = .ok (.bipush 23, 2) := by decide +kernel
theorem dX10_submit_25 : decode cX10_submit 25 = .ok (.invokestatic 36, 3) := by decide +kernel
theorem dX10_submit_28 : decode cX10_submit 28 = .ok (.iload 5, 2) := by decide +kernel
theorem dX10_submit_30 : decode cX10_submit 30 = .ok (.iconst 0, 1) := by decide +kernel
theorem dX10_submit_31 : decode cX10_submit 31 = .ok (.sipush 10000, 3) := by decide +kernel
theorem dX10_submit_34 : decode cX10_submit 34 = .ok (.invokestatic 36, 3) := by decide +kernel
theorem dX10_submit_37 : decode cX10_submit 37 = .ok (.iload 6, 2) := by decide +kernel
theorem dX10_submit_39 : decode cX10_submit 39 = .ok (.iconst 0, 1) := by decide +kernel
theorem dX10_submit_40 : decode cX10_submit 40 = .ok (.sipush 9999, 3) := by decide +kernel
theorem dX10_submit_43 : decode cX10_submit 43 = .ok (.invokestatic 36, 3) := by decide +kernel
theorem dX10_submit_46 : decode cX10_submit 46 = .ok (.iload 7, 2) := by decide +kernel
theorem dX10_submit_48 : decode cX10_submit 48 = .ok (.bipush 20, 2) := by decide +kernel
theorem dX10_submit_50 : decode cX10_submit 50 = .ok (.sipush 600, 3) := by decide +kernel
theorem dX10_submit_53 : decode cX10_submit 53 = .ok (.invokestatic 36, 3) := by decide +kernel
theorem dX10_submit_56 : decode cX10_submit 56 = .ok (.iload 8, 2) := by decide +kernel
theorem dX10_submit_58 : decode cX10_submit 58 = .ok (.iconst 1, 1) := by decide +kernel
theorem dX10_submit_59 : decode cX10_submit 59 = .ok (.bipush 100, 2) := by decide +kernel
theorem dX10_submit_61 : decode cX10_submit 61 = .ok (.invokestatic 36, 3) := by decide +kernel
theorem dX10_submit_64 : decode cX10_submit 64 = .ok (.iload 9, 2) := by decide +kernel
theorem dX10_submit_66 : decode cX10_submit 66 = .ok (.iconst 0, 1) := by decide +kernel
theorem dX10_submit_67 : decode cX10_submit 67 = .ok (.iload 8, 2) := by decide +kernel
theorem dX10_submit_69 : decode cX10_submit 69 = .ok (.invokestatic 36, 3) := by decide +kernel
theorem dX10_submit_72 : decode cX10_submit 72 = .ok (.aload 10, 2) := by decide +kernel
theorem dX10_submit_74 : decode cX10_submit 74 = .ok (.getfield 56, 3) := by decide +kernel
theorem dX10_submit_77 : decode cX10_submit 77 = .ok (.bipush 40, 2) := by decide +kernel
theorem dX10_submit_79 : decode cX10_submit 79 = .ok (.if_icmp .ge 7, 3) := by decide +kernel
theorem dX10_submit_82 : decode cX10_submit 82 = .ok (.iconst 1, 1) := by decide +kernel
theorem dX10_submit_83 : decode cX10_submit 83 = .ok (.goto 4, 3) := by decide +kernel
theorem dX10_submit_86 : decode cX10_submit 86 = .ok (.iconst 0, 1) := by decide +kernel
theorem dX10_submit_87 : decode cX10_submit 87 = .ok (.invokestatic 52, 3) := by decide +kernel
theorem dX10_submit_90 : decode cX10_submit 90 = .ok (.aload 10, 2) := by decide +kernel
theorem dX10_submit_92 : decode cX10_submit 92 = .ok (.invokevirtual 74, 3) := by decide +kernel
theorem dX10_submit_95 : decode cX10_submit 95 = .ok (.astore 11, 2) := by decide +kernel
theorem dX10_submit_97 : decode cX10_submit 97 = .ok (.aload 11, 2) := by decide +kernel
theorem dX10_submit_99 : decode cX10_submit 99 = .ok (.iload_n 2, 1) := by decide +kernel
theorem dX10_submit_100 : decode cX10_submit 100 = .ok (.iload_n 3, 1) := by decide +kernel
theorem dX10_submit_101 : decode cX10_submit 101 = .ok (.iload 4, 2) := by decide +kernel
theorem dX10_submit_103 : decode cX10_submit 103 = .ok (.iload 5, 2) := by decide +kernel
theorem dX10_submit_105 : decode cX10_submit 105 = .ok (.iload 6, 2) := by decide +kernel
theorem dX10_submit_107 : decode cX10_submit 107 = .ok (.iload 7, 2) := by decide +kernel
theorem dX10_submit_109 : decode cX10_submit 109 = .ok (.invokevirtual 78, 3) := by decide +kernel
theorem dX10_submit_112 : decode cX10_submit 112 = .ok (.aload 11, 2) := by decide +kernel
theorem dX10_submit_114 : decode cX10_submit 114 = .ok (.iload 8, 2) := by decide +kernel
theorem dX10_submit_116 : decode cX10_submit 116 = .ok (.iload 9, 2) := by decide +kernel
theorem dX10_submit_118 : decode cX10_submit 118 = .ok (.invokevirtual 84, 3) := by decide +kernel
theorem dX10_submit_121 : decode cX10_submit 121 = .ok (.aload 10, 2) := by decide +kernel
theorem dX10_submit_123 : decode cX10_submit 123 = .ok (.aload 11, 2) := by decide +kernel
theorem dX10_submit_125 : decode cX10_submit 125 = .ok (.invokevirtual 87, 3) := by decide +kernel
theorem dX10_submit_128 : decode cX10_submit 128 = .ok (.ireturn, 1) := by decide +kernel
theorem dX10_claim_0 : decode cX10_claim 0 = .ok (.aload_n 0, 1) := by decide +kernel
theorem dX10_claim_1 : decode cX10_claim 1 = .ok (.iload_n 1, 1) := by decide +kernel
theorem dX10_claim_2 : decode cX10_claim 2 = .ok (.invokevirtual 64, 3) := by decide +kernel
theorem dX10_claim_5 : decode cX10_claim 5 = .ok (.astore 7, 2) := by decide +kernel
theorem dX10_claim_7 : decode cX10_claim 7 = .ok (.aload_n 0, 1) := by decide +kernel
theorem dX10_claim_8 : decode cX10_claim 8 = .ok (.iconst 1, 1) := by decide +kernel
theorem dX10_claim_9 : decode cX10_claim 9 = .ok (.iload_n 1, 1) := by decide +kernel
theorem dX10_claim_10 : decode cX10_claim 10 = .ok (.isub, 1) := by decide +kernel
theorem dX10_claim_11 : decode cX10_claim 11 = .ok (.invokevirtual 64, 3) := by decide +kernel
theorem dX10_claim_14 : decode cX10_claim 14 = .ok (.astore 8, 2) := by decide +kernel
theorem dX10_claim_16 : decode cX10_claim 16 = .ok (.iload 4, 2) := by decide +kernel
theorem dX10_claim_18 : decode cX10_claim 18 = .ok (.aload 8, 2) := by decide +kernel
theorem dX10_claim_20 : decode cX10_claim 20 = .ok (.getfield 56, 3) := by decide +kernel
theorem dX10_claim_23 : decode cX10_claim 23 = .ok (.invokestatic 32, 3) := by decide +kernel
theorem dX10_claim_26 : decode cX10_claim 26 = .ok (.iload_n 2, 1) := by decide +kernel
theorem dX10_claim_27 : decode cX10_claim 27 = .ok (.bipush 6, 2) := by decide +kernel
theorem dX10_claim_29 : decode cX10_claim 29 = .ok (.invokestatic 32, 3) := by decide +kernel
theorem dX10_claim_32 : decode cX10_claim 32 = .ok (.iload_n 3, 1) := by decide +kernel
theorem dX10_claim_33 : decode cX10_claim 33 = .ok (.iconst 0, 1) := by decide +kernel
theorem dX10_claim_34 : decode cX10_claim 34 = .ok (.bipush 9, 2) := by decide +kernel
theorem dX10_claim_36 : decode cX10_claim 36 = .ok (.invokestatic 36, 3) := by decide +kernel
theorem dX10_claim_39 : decode cX10_claim 39 = .ok (.iload 5, 2) := by decide +kernel
theorem dX10_claim_41 : decode cX10_claim 41 = .ok (.iconst 1, 1) := by decide +kernel
theorem dX10_claim_42 : decode cX10_claim 42 = .ok (.bipush 100, 2) := by decide +kernel
theorem dX10_claim_44 : decode cX10_claim 44 = .ok (.invokestatic 36, 3) := by decide +kernel
theorem dX10_claim_47 : decode cX10_claim 47 = .ok (.iload 6, 2) := by decide +kernel
theorem dX10_claim_49 : decode cX10_claim 49 = .ok (.iconst 0, 1) := by decide +kernel
theorem dX10_claim_50 : decode cX10_claim 50 = .ok (.iload 5, 2) := by decide +kernel
theorem dX10_claim_52 : decode cX10_claim 52 = .ok (.invokestatic 36, 3) := by decide +kernel
theorem dX10_claim_55 : decode cX10_claim 55 = .ok (.aload 8, 2) := by decide +kernel
theorem dX10_claim_57 : decode cX10_claim 57 = .ok (.iload 4, 2) := by decide +kernel
theorem dX10_claim_59 : decode cX10_claim 59 = .ok (.invokevirtual 91, 3) := by decide +kernel
theorem dX10_claim_62 : decode cX10_claim 62 = .ok (.astore 9, 2) := by decide +kernel
theorem dX10_claim_64 : decode cX10_claim 64 = .ok (.aload 9, 2) := by decide +kernel
theorem dX10_claim_66 : decode cX10_claim 66 = .ok (.invokevirtual 95, 3) := by decide +kernel
theorem dX10_claim_69 : decode cX10_claim 69 = .ok (.invokestatic 99, 3) := by decide +kernel
theorem dX10_claim_72 : decode cX10_claim 72 = .ok (.aload 8, 2) := by decide +kernel
theorem dX10_claim_74 : decode cX10_claim 74 = .ok (.invokevirtual 102, 3) := by decide +kernel
theorem dX10_claim_77 : decode cX10_claim 77 = .ok (.iload 4, 2) := by decide +kernel
theorem dX10_claim_79 : decode cX10_claim 79 = .ok (.invokevirtual 106, 3) := by decide +kernel
theorem dX10_claim_82 : decode cX10_claim 82 = .ok (.invokestatic 52, 3) := by decide +kernel
theorem dX10_claim_85 : decode cX10_claim 85 = .ok (.aload 7, 2) := by decide +kernel
theorem dX10_claim_87 : decode cX10_claim 87 = .ok (.getfield 56, 3) := by decide +kernel
theorem dX10_claim_90 : decode cX10_claim 90 = .ok (.bipush 40, 2) := by decide +kernel
theorem dX10_claim_92 : decode cX10_claim 92 = .ok (.if_icmp .ge 7, 3) := by decide +kernel
theorem dX10_claim_95 : decode cX10_claim 95 = .ok (.iconst 1, 1) := by decide +kernel
theorem dX10_claim_96 : decode cX10_claim 96 = .ok (.goto 4, 3) := by decide +kernel
theorem dX10_claim_99 : decode cX10_claim 99 = .ok (.iconst 0, 1) := by decide +kernel
theorem dX10_claim_100 : decode cX10_claim 100 = .ok (.invokestatic 52, 3) := by decide +kernel
theorem dX10_claim_103 : decode cX10_claim 103 = .ok (.aload 7, 2) := by decide +kernel
theorem dX10_claim_105 : decode cX10_claim 105 = .ok (.invokevirtual 74, 3) := by decide +kernel
theorem dX10_claim_108 : decode cX10_claim 108 = .ok (.astore 10, 2) := by decide +kernel
theorem dX10_claim_110 : decode cX10_claim 110 = .ok (.aload 10, 2) := by decide +kernel
theorem dX10_claim_112 : decode cX10_claim 112 = .ok (.iload_n 2, 1) := by decide +kernel
theorem dX10_claim_113 : decode cX10_claim 113 = .ok (.iload_n 3, 1) := by decide +kernel
theorem dX10_claim_114 : decode cX10_claim 114 = .ok (.bipush 15, 2) := by decide +kernel
theorem dX10_claim_116 : decode cX10_claim 116 = .ok (.iconst 0, 1) := by decide +kernel
theorem dX10_claim_117 : decode cX10_claim 117 = .ok (.iconst 0, 1) := by decide +kernel
theorem dX10_claim_118 : decode cX10_claim 118 = .ok (.bipush 60, 2) := by decide +kernel
theorem dX10_claim_120 : decode cX10_claim 120 = .ok (.invokevirtual 78, 3) := by decide +kernel
theorem dX10_claim_123 : decode cX10_claim 123 = .ok (.aload 10, 2) := by decide +kernel
theorem dX10_claim_125 : decode cX10_claim 125 = .ok (.iload 5, 2) := by decide +kernel
theorem dX10_claim_127 : decode cX10_claim 127 = .ok (.iload 6, 2) := by decide +kernel
theorem dX10_claim_129 : decode cX10_claim 129 = .ok (.invokevirtual 84, 3) := by decide +kernel
theorem dX10_claim_132 : decode cX10_claim 132 = .ok (.aload 10, 2) := by decide +kernel
theorem dX10_claim_134 : decode cX10_claim 134 = .ok (.aload 9, 2) := by decide +kernel
theorem dX10_claim_136 : decode cX10_claim 136 = .ok (.invokevirtual 112, 3) := by decide +kernel
theorem dX10_claim_139 : decode cX10_claim 139 = .ok (.aload 7, 2) := by decide +kernel
theorem dX10_claim_141 : decode cX10_claim 141 = .ok (.aload 10, 2) := by decide +kernel
theorem dX10_claim_143 : decode cX10_claim 143 = .ok (.invokevirtual 87, 3) := by decide +kernel
theorem dX10_claim_146 : decode cX10_claim 146 = .ok (.ireturn, 1) := by decide +kernel
theorem dX10_pool_0 : decode cX10_pool 0 = .ok (.aload_n 0, 1) := by decide +kernel
theorem dX10_pool_1 : decode cX10_pool 1 = .ok (.iload_n 1, 1) := by decide +kernel
theorem dX10_pool_2 : decode cX10_pool 2 = .ok (.invokevirtual 64, 3) := by decide +kernel
theorem dX10_pool_5 : decode cX10_pool 5 = .ok (.invokevirtual 116, 3) := by decide +kernel
theorem dX10_pool_8 : decode cX10_pool 8 = .ok (.ireturn, 1) := by decide +kernel
theorem dX10_make_0 : decode cX10_make 0 = .ok (.aload_n 0, 1) := by decide +kernel
theorem dX10_make_1 : decode cX10_make 1 = .ok (.iload_n 1, 1) := by decide +kernel
theorem dX10_make_2 : decode cX10_make 2 = .ok (.invokevirtual 64, 3) := by decide +kernel
theorem dX10_make_5 : decode cX10_make 5 = .ok (.astore 5, 2) := by decide +kernel
theorem dX10_make_7 : decode cX10_make 7 = .ok (.aload_n 0, 1) := by decide +kernel
theorem dX10_make_8 : decode cX10_make 8 = .ok (.iload_n 1, 1) := by decide +kernel
theorem dX10_make_9 : decode cX10_make 9 = .ok (.iload_n 2, 1) := by decide +kernel
theorem dX10_make_10 : decode cX10_make 10 = .ok (.invokevirtual 120, 3) := by decide +kernel
theorem dX10_make_13 : decode cX10_make 13 = .ok (.astore 6, 2) := by decide +kernel
theorem dX10_make_15 : decode cX10_make 15 = .ok (.iload_n 3, 1) := by decide +kernel
theorem dX10_make_16 : decode cX10_make 16 = .ok (.bipush 6, 2) := by decide +kernel
theorem dX10_make_18 : decode cX10_make 18 = .ok (.invokestatic 32, 3) := by decide +kernel
theorem dX10_make_21 : decode cX10_make 21 = .ok (.iload 4, 2) := by decide +kernel
theorem dX10_make_23 : decode cX10_make 23 = .ok (.iconst 1, 1) := by decide +kernel
theorem dX10_make_24 : decode cX10_make 24 = .ok (.bipush 9, 2) := by decide +kernel
theorem dX10_make_26 : decode cX10_make 26 = .ok (.invokestatic 36, 3) := by decide +kernel
theorem dX10_make_29 : decode cX10_make 29 = .ok (.aload 5, 2) := by decide +kernel
theorem dX10_make_31 : decode cX10_make 31 = .ok (.getfield 68, 3) := by decide +kernel
theorem dX10_make_34 : decode cX10_make 34 = .ok (.bipush 24, 2) := by decide +kernel
theorem dX10_make_36 : decode cX10_make 36 = .ok (.if_icmp .ge 15, 3) := by decide +kernel
theorem dX10_make_39 : decode cX10_make 39 = .ok (.aload 6, 2) := by decide +kernel
theorem dX10_make_41 : decode cX10_make 41 = .ok (.getfield 124, 3) := by decide +kernel
theorem dX10_make_44 : decode cX10_make 44 = .ok (.ifCond .ne 7, 3) := by decide +kernel
theorem dX10_make_47 : decode cX10_make 47 = .ok (.iconst 1, 1) := by decide +kernel
theorem dX10_make_48 : decode cX10_make 48 = .ok (.goto 4, 3) := by decide +kernel
theorem dX10_make_51 : decode cX10_make 51 = .ok (.iconst 0, 1) := by decide +kernel
theorem dX10_make_52 : decode cX10_make 52 = .ok (.invokestatic 52, 3) := by decide +kernel
theorem dX10_make_55 : decode cX10_make 55 = .ok (.aload 5, 2) := by decide +kernel
theorem dX10_make_57 : decode cX10_make 57 = .ok (.aload_n 0, 1) := by decide +kernel
theorem dX10_make_58 : decode cX10_make 58 = .ok (.getfield 21, 3) := by decide +kernel
theorem dX10_make_61 : decode cX10_make 61 = .ok (.aload 6, 2) := by decide +kernel
theorem dX10_make_63 : decode cX10_make 63 = .ok (.iload_n 3, 1) := by decide +kernel
theorem dX10_make_64 : decode cX10_make 64 = .ok (.iload 4, 2) := by decide +kernel
theorem dX10_make_66 : decode cX10_make 66 = .ok (.invokevirtual 128, 3) := by decide +kernel
theorem dX10_make_69 : decode cX10_make 69 = .ok (.ireturn, 1) := by decide +kernel
theorem dX10_head_0 : decode cX10_head 0 = .ok (.aload_n 0, 1) := by decide +kernel
theorem dX10_head_1 : decode cX10_head 1 = .ok (.iload_n 1, 1) := by decide +kernel
theorem dX10_head_2 : decode cX10_head 2 = .ok (.invokevirtual 64, 3) := by decide +kernel
theorem dX10_head_5 : decode cX10_head 5 = .ok (.invokevirtual 132, 3) := by decide +kernel
theorem dX10_head_8 : decode cX10_head 8 = .ok (.getfield 135, 3) := by decide +kernel
theorem dX10_head_11 : decode cX10_head 11 = .ok (.ireturn, 1) := by decide +kernel
theorem dX10_base_0 : decode cX10_base 0 = .ok (.aload_n 0, 1) := by decide +kernel
theorem dX10_base_1 : decode cX10_base 1 = .ok (.iload_n 1, 1) := by decide +kernel
theorem dX10_base_2 : decode cX10_base 2 = .ok (.iload_n 2, 1) := by decide +kernel
theorem dX10_base_3 : decode cX10_base 3 = .ok (.invokevirtual 120, 3) := by decide +kernel
theorem dX10_base_6 : decode cX10_base 6 = .ok (.getfield 138, 3) := by decide +kernel
theorem dX10_base_9 : decode cX10_base 9 = .ok (.ireturn, 1) := by decide +kernel
theorem dX10_used_0 : decode cX10_used 0 = .ok (.aload_n 0, 1) := by decide +kernel
theorem dX10_used_1 : decode cX10_used 1 = .ok (.iload_n 1, 1) := by decide +kernel
theorem dX10_used_2 : decode cX10_used 2 = .ok (.iload_n 2, 1) := by decide +kernel
theorem dX10_used_3 : decode cX10_used 3 = .ok (.invokevirtual 120, 3) := by decide +kernel
theorem dX10_used_6 : decode cX10_used 6 = .ok (.getfield 141, 3) := by decide +kernel
theorem dX10_used_9 : decode cX10_used 9 = .ok (.ireturn, 1) := by decide +kernel
theorem dX10_coins_0 : decode cX10_coins 0 = .ok (.aload_n 0, 1) := by decide +kernel
theorem dX10_coins_1 : decode cX10_coins 1 = .ok (.iload_n 1, 1) := by decide +kernel
theorem dX10_coins_2 : decode cX10_coins 2 = .ok (.iload_n 2, 1) := by decide +kernel
theorem dX10_coins_3 : decode cX10_coins 3 = .ok (.iload_n 3, 1) := by decide +kernel
theorem dX10_coins_4 : decode cX10_coins 4 = .ok (.invokevirtual 162, 3) := by decide +kernel
theorem dX10_coins_7 : decode cX10_coins 7 = .ok (.getfield 165, 3) := by decide +kernel
theorem dX10_coins_10 : decode cX10_coins 10 = .ok (.iload_n 3, 1) := by decide +kernel
theorem dX10_coins_11 : decode cX10_coins 11 = .ok (.invokestatic 44, 3) := by decide +kernel
theorem dX10_coins_14 : decode cX10_coins 14 = .ok (.ireturn, 1) := by decide +kernel
theorem dX10_burned_0 : decode cX10_burned 0 = .ok (.aload_n 0, 1) := by decide +kernel
theorem dX10_burned_1 : decode cX10_burned 1 = .ok (.iload_n 1, 1) := by decide +kernel
theorem dX10_burned_2 : decode cX10_burned 2 = .ok (.iload_n 2, 1) := by decide +kernel
theorem dX10_burned_3 : decode cX10_burned 3 = .ok (.iconst 0, 1) := by decide +kernel
theorem dX10_burned_4 : decode cX10_burned 4 = .ok (.invokevirtual 162, 3) := by decide +kernel
theorem dX10_burned_7 : decode cX10_burned 7 = .ok (.getfield 179, 3) := by decide +kernel
theorem dX10_burned_10 : decode cX10_burned 10 = .ok (.ireturn, 1) := by decide +kernel
theorem dX10_root_0 : decode cX10_root 0 = .ok (.aload_n 0, 1) := by decide +kernel
theorem dX10_root_1 : decode cX10_root 1 = .ok (.iload_n 1, 1) := by decide +kernel
theorem dX10_root_2 : decode cX10_root 2 = .ok (.iload_n 2, 1) := by decide +kernel
theorem dX10_root_3 : decode cX10_root 3 = .ok (.invokevirtual 120, 3) := by decide +kernel
theorem dX10_root_6 : decode cX10_root 6 = .ok (.getfield 182, 3) := by decide +kernel
theorem dX10_root_9 : decode cX10_root 9 = .ok (.ireturn, 1) := by decide +kernel
theorem dX10_rootAnew_0 : decode cX10_rootAnew 0 = .ok (.aload_n 0, 1) := by decide +kernel
theorem dX10_rootAnew_1 : decode cX10_rootAnew 1 = .ok (.iload_n 1, 1) := by decide +kernel
theorem dX10_rootAnew_2 : decode cX10_rootAnew 2 = .ok (.iload_n 2, 1) := by decide +kernel
theorem dX10_rootAnew_3 : decode cX10_rootAnew 3 = .ok (.invokevirtual 120, 3) := by decide +kernel
theorem dX10_rootAnew_6 : decode cX10_rootAnew 6 = .ok (.astore_n 3, 1) := by decide +kernel
theorem dX10_rootAnew_7 : decode cX10_rootAnew 7 = .ok (.aload_n 0, 1) := by decide +kernel
theorem dX10_rootAnew_8 : decode cX10_rootAnew 8 = .ok (.iload_n 1, 1) := by decide +kernel
theorem dX10_rootAnew_9 : decode cX10_rootAnew 9 = .ok (.invokevirtual 64, 3) := by decide +kernel
theorem dX10_rootAnew_12 : decode cX10_rootAnew 12 = .ok (.aload_n 0, 1) := by decide +kernel
theorem dX10_rootAnew_13 : decode cX10_rootAnew 13 = .ok (.getfield 21, 3) := by decide +kernel
theorem dX10_rootAnew_16 : decode cX10_rootAnew 16 = .ok (.aload_n 3, 1) := by decide +kernel
theorem dX10_rootAnew_17 : decode cX10_rootAnew 17 = .ok (.invokevirtual 185, 3) := by decide +kernel
theorem dX10_rootAnew_20 : decode cX10_rootAnew 20 = .ok (.ireturn, 1) := by decide +kernel
theorem dX10_leaf_0 : decode cX10_leaf 0 = .ok (.aload_n 0, 1) := by decide +kernel
theorem dX10_leaf_1 : decode cX10_leaf 1 = .ok (.iload_n 1, 1) := by decide +kernel
theorem dX10_leaf_2 : decode cX10_leaf 2 = .ok (.iload_n 2, 1) := by decide +kernel
theorem dX10_leaf_3 : decode cX10_leaf 3 = .ok (.iload_n 3, 1) := by decide +kernel
theorem dX10_leaf_4 : decode cX10_leaf 4 = .ok (.invokevirtual 162, 3) := by decide +kernel
theorem dX10_leaf_7 : decode cX10_leaf 7 = .ok (.iconst 0, 1) := by decide +kernel
theorem dX10_leaf_8 : decode cX10_leaf 8 = .ok (.iload_n 3, 1) := by decide +kernel
theorem dX10_leaf_9 : decode cX10_leaf 9 = .ok (.invokestatic 189, 3) := by decide +kernel
theorem dX10_leaf_12 : decode cX10_leaf 12 = .ok (.ireturn, 1) := by decide +kernel
theorem dX10_proof_0 : decode cX10_proof 0 = .ok (.iload 4, 2) := by decide +kernel
theorem dX10_proof_2 : decode cX10_proof 2 = .ok (.iconst 4, 1) := by decide +kernel
theorem dX10_proof_3 : decode cX10_proof 3 = .ok (.invokestatic 32, 3) := by decide +kernel
theorem dX10_proof_6 : decode cX10_proof 6 = .ok (.aload_n 0, 1) := by decide +kernel
theorem dX10_proof_7 : decode cX10_proof 7 = .ok (.iload_n 1, 1) := by decide +kernel
theorem dX10_proof_8 : decode cX10_proof 8 = .ok (.iload_n 2, 1) := by decide +kernel
theorem dX10_proof_9 : decode cX10_proof 9 = .ok (.iload_n 3, 1) := by decide +kernel
theorem dX10_proof_10 : decode cX10_proof 10 = .ok (.invokevirtual 162, 3) := by decide +kernel
theorem dX10_proof_13 : decode cX10_proof 13 = .ok (.iload 4, 2) := by decide +kernel
theorem dX10_proof_15 : decode cX10_proof 15 = .ok (.iload_n 3, 1) := by decide +kernel
theorem dX10_proof_16 : decode cX10_proof 16 = .ok (.iload 4, 2) := by decide +kernel
theorem dX10_proof_18 : decode cX10_proof 18 = .ok (.ishr, 1) := by decide +kernel
theorem dX10_proof_19 : decode cX10_proof 19 = .ok (.iconst 1, 1) := by decide +kernel
theorem dX10_proof_20 : decode cX10_proof 20 = .ok (.ixor, 1) := by decide +kernel
theorem dX10_proof_21 : decode cX10_proof 21 = .ok (.invokestatic 189, 3) := by decide +kernel
theorem dX10_proof_24 : decode cX10_proof 24 = .ok (.ireturn, 1) := by decide +kernel
theorem dX10_proves_0 : decode cX10_proves 0 = .ok (.aload_n 0, 1) := by decide +kernel
theorem dX10_proves_1 : decode cX10_proves 1 = .ok (.iload_n 1, 1) := by decide +kernel
theorem dX10_proves_2 : decode cX10_proves 2 = .ok (.iload_n 2, 1) := by decide +kernel
theorem dX10_proves_3 : decode cX10_proves 3 = .ok (.invokevirtual 120, 3) := by decide +kernel
theorem dX10_proves_6 : decode cX10_proves 6 = .ok (.astore 9, 2) := by decide +kernel
theorem dX10_proves_8 : decode cX10_proves 8 = .ok (.iload_n 3, 1) := by decide +kernel
theorem dX10_proves_9 : decode cX10_proves 9 = .ok (.bipush 16, 2) := by decide +kernel
theorem dX10_proves_11 : decode cX10_proves 11 = .ok (.invokestatic 32, 3) := by decide +kernel
theorem dX10_proves_14 : decode cX10_proves 14 = .ok (.iload 4, 2) := by decide +kernel
theorem dX10_proves_16 : decode cX10_proves 16 = .ok (.iconst 0, 1) := by decide +kernel
theorem dX10_proves_17 : decode cX10_proves 17 = .ok (.ldc 193, 2) := by decide +kernel
theorem dX10_proves_19 : decode cX10_proves 19 = .ok (.invokestatic 36, 3) := by decide +kernel
theorem dX10_proves_22 : decode cX10_proves 22 = .ok (.iload 5, 2) := by decide +kernel
theorem dX10_proves_24 : decode cX10_proves 24 = .ok (.iconst 0, 1) := by decide +kernel
theorem dX10_proves_25 : decode cX10_proves 25 = .ok (.ldc 193, 2) := by decide +kernel
theorem dX10_proves_27 : decode cX10_proves 27 = .ok (.invokestatic 36, 3) := by decide +kernel
theorem dX10_proves_30 : decode cX10_proves 30 = .ok (.iload 6, 2) := by decide +kernel
theorem dX10_proves_32 : decode cX10_proves 32 = .ok (.iconst 0, 1) := by decide +kernel
theorem dX10_proves_33 : decode cX10_proves 33 = .ok (.ldc 193, 2) := by decide +kernel
theorem dX10_proves_35 : decode cX10_proves 35 = .ok (.invokestatic 36, 3) := by decide +kernel
theorem dX10_proves_38 : decode cX10_proves 38 = .ok (.iload 7, 2) := by decide +kernel
theorem dX10_proves_40 : decode cX10_proves 40 = .ok (.iconst 0, 1) := by decide +kernel
theorem dX10_proves_41 : decode cX10_proves 41 = .ok (.ldc 193, 2) := by decide +kernel
theorem dX10_proves_43 : decode cX10_proves 43 = .ok (.invokestatic 36, 3) := by decide +kernel
theorem dX10_proves_46 : decode cX10_proves 46 = .ok (.iload 8, 2) := by decide +kernel
theorem dX10_proves_48 : decode cX10_proves 48 = .ok (.iconst 0, 1) := by decide +kernel
theorem dX10_proves_49 : decode cX10_proves 49 = .ok (.ldc 193, 2) := by decide +kernel
theorem dX10_proves_51 : decode cX10_proves 51 = .ok (.invokestatic 36, 3) := by decide +kernel
theorem dX10_proves_54 : decode cX10_proves 54 = .ok (.iload_n 3, 1) := by decide +kernel
theorem dX10_proves_55 : decode cX10_proves 55 = .ok (.iload 4, 2) := by decide +kernel
theorem dX10_proves_57 : decode cX10_proves 57 = .ok (.iload 5, 2) := by decide +kernel
theorem dX10_proves_59 : decode cX10_proves 59 = .ok (.invokestatic 194, 3) := by decide +kernel
theorem dX10_proves_62 : decode cX10_proves 62 = .ok (.istore 10, 2) := by decide +kernel
theorem dX10_proves_64 : decode cX10_proves 64 = .ok (.iload_n 3, 1) := by decide +kernel
theorem dX10_proves_65 : decode cX10_proves 65 = .ok (.iconst 1, 1) := by decide +kernel
theorem dX10_proves_66 : decode cX10_proves 66 = .ok (.ishr, 1) := by decide +kernel
theorem dX10_proves_67 : decode cX10_proves 67 = .ok (.iload 10, 2) := by decide +kernel
theorem dX10_proves_69 : decode cX10_proves 69 = .ok (.iload 6, 2) := by decide +kernel
theorem dX10_proves_71 : decode cX10_proves 71 = .ok (.invokestatic 194, 3) := by decide +kernel
theorem dX10_proves_74 : decode cX10_proves 74 = .ok (.istore 10, 2) := by decide +kernel
theorem dX10_proves_76 : decode cX10_proves 76 = .ok (.iload_n 3, 1) := by decide +kernel
theorem dX10_proves_77 : decode cX10_proves 77 = .ok (.iconst 2, 1) := by decide +kernel
theorem dX10_proves_78 : decode cX10_proves 78 = .ok (.ishr, 1) := by decide +kernel
theorem dX10_proves_79 : decode cX10_proves 79 = .ok (.iload 10, 2) := by decide +kernel
theorem dX10_proves_81 : decode cX10_proves 81 = .ok (.iload 7, 2) := by decide +kernel
theorem dX10_proves_83 : decode cX10_proves 83 = .ok (.invokestatic 194, 3) := by decide +kernel
theorem dX10_proves_86 : decode cX10_proves 86 = .ok (.istore 10, 2) := by decide +kernel
theorem dX10_proves_88 : decode cX10_proves 88 = .ok (.iload_n 3, 1) := by decide +kernel
theorem dX10_proves_89 : decode cX10_proves 89 = .ok (.iconst 3, 1) := by decide +kernel
theorem dX10_proves_90 : decode cX10_proves 90 = .ok (.ishr, 1) := by decide +kernel
theorem dX10_proves_91 : decode cX10_proves 91 = .ok (.iload 10, 2) := by decide +kernel
theorem dX10_proves_93 : decode cX10_proves 93 = .ok (.iload 8, 2) := by decide +kernel
theorem dX10_proves_95 : decode cX10_proves 95 = .ok (.invokestatic 194, 3) := by decide +kernel
theorem dX10_proves_98 : decode cX10_proves 98 = .ok (.aload 9, 2) := by decide +kernel
theorem dX10_proves_100 : decode cX10_proves 100 = .ok (.getfield 182, 3) := by decide +kernel
theorem dX10_proves_103 : decode cX10_proves 103 = .ok (.if_icmp .ne 7, 3) := by decide +kernel
theorem dX10_proves_106 : decode cX10_proves 106 = .ok (.iconst 1, 1) := by decide +kernel
theorem dX10_proves_107 : decode cX10_proves 107 = .ok (.goto 4, 3) := by decide +kernel
theorem dX10_proves_110 : decode cX10_proves 110 = .ok (.iconst 0, 1) := by decide +kernel
theorem dX10_proves_111 : decode cX10_proves 111 = .ok (.ireturn, 1) := by decide +kernel
theorem dX10_prune_0 : decode cX10_prune 0 = .ok (.aload_n 0, 1) := by decide +kernel
theorem dX10_prune_1 : decode cX10_prune 1 = .ok (.iload_n 1, 1) := by decide +kernel
theorem dX10_prune_2 : decode cX10_prune 2 = .ok (.invokevirtual 64, 3) := by decide +kernel
theorem dX10_prune_5 : decode cX10_prune 5 = .ok (.invokevirtual 197, 3) := by decide +kernel
theorem dX10_prune_8 : decode cX10_prune 8 = .ok (.ireturn, 1) := by decide +kernel
theorem dX10_vote_0 : decode cX10_vote 0 = .ok (.aload_n 0, 1) := by decide +kernel
theorem dX10_vote_1 : decode cX10_vote 1 = .ok (.iload_n 1, 1) := by decide +kernel
theorem dX10_vote_2 : decode cX10_vote 2 = .ok (.invokevirtual 64, 3) := by decide +kernel
theorem dX10_vote_5 : decode cX10_vote 5 = .ok (.astore 5, 2) := by decide +kernel
theorem dX10_vote_7 : decode cX10_vote 7 = .ok (.iload_n 2, 1) := by decide +kernel
theorem dX10_vote_8 : decode cX10_vote 8 = .ok (.iconst 4, 1) := by decide +kernel
theorem dX10_vote_9 : decode cX10_vote 9 = .ok (.invokestatic 32, 3) := by decide +kernel
theorem dX10_vote_12 : decode cX10_vote 12 = .ok (.aload_n 0, 1) := by decide +kernel
theorem dX10_vote_13 : decode cX10_vote 13 = .ok (.iload_n 1, 1) := by decide +kernel
theorem dX10_vote_14 : decode cX10_vote 14 = .ok (.iload_n 3, 1) := by decide +kernel
theorem dX10_vote_15 : decode cX10_vote 15 = .ok (.invokevirtual 120, 3) := by decide +kernel
theorem dX10_vote_18 : decode cX10_vote 18 = .ok (.astore 6, 2) := by decide +kernel
theorem dX10_vote_20 : decode cX10_vote 20 = .ok (.aload_n 0, 1) := by decide +kernel
theorem dX10_vote_21 : decode cX10_vote 21 = .ok (.iload_n 1, 1) := by decide +kernel
theorem dX10_vote_22 : decode cX10_vote 22 = .ok (.iload 4, 2) := by decide +kernel
theorem dX10_vote_24 : decode cX10_vote 24 = .ok (.invokevirtual 120, 3) := by decide +kernel
theorem dX10_vote_27 : decode cX10_vote 27 = .ok (.astore 7, 2) := by decide +kernel
theorem dX10_vote_29 : decode cX10_vote 29 = .ok (.iload_n 3, 1) := by decide +kernel
theorem dX10_vote_30 : decode cX10_vote 30 = .ok (.iload 4, 2) := by decide +kernel
theorem dX10_vote_32 : decode cX10_vote 32 = .ok (.if_icmp .eq 17, 3) := by decide +kernel
theorem dX10_vote_35 : decode cX10_vote 35 = .ok (.aload 7, 2) := by decide +kernel
theorem dX10_vote_37 : decode cX10_vote 37 = .ok (.aload 6, 2) := by decide +kernel
theorem dX10_vote_39 : decode cX10_vote 39 = .ok (.invokevirtual 200, 3) := by decide +kernel
theorem dX10_vote_42 : decode cX10_vote 42 = .ok (.ifCond .eq 7, 3) := by decide +kernel
theorem dX10_vote_45 : decode cX10_vote 45 = .ok (.iconst 1, 1) := by decide +kernel
theorem dX10_vote_46 : decode cX10_vote 46 = .ok (.goto 4, 3) := by decide +kernel
theorem dX10_vote_49 : decode cX10_vote 49 = .ok (.iconst 0, 1) := by decide +kernel
theorem dX10_vote_50 : decode cX10_vote 50 = .ok (.invokestatic 99, 3) := by decide +kernel
theorem dX10_vote_53 : decode cX10_vote 53 = .ok (.aload 5, 2) := by decide +kernel
theorem dX10_vote_55 : decode cX10_vote 55 = .ok (.getfield 204, 3) := by decide +kernel
theorem dX10_vote_58 : decode cX10_vote 58 = .ok (.iload_n 2, 1) := by decide +kernel
theorem dX10_vote_59 : decode cX10_vote 59 = .ok (.invokevirtual 208, 3) := by decide +kernel
theorem dX10_vote_62 : decode cX10_vote 62 = .ok (.astore 8, 2) := by decide +kernel
theorem dX10_vote_64 : decode cX10_vote 64 = .ok (.aload 8, 2) := by decide +kernel
theorem dX10_vote_66 : decode cX10_vote 66 = .ok (.getfield 214, 3) := by decide +kernel
theorem dX10_vote_69 : decode cX10_vote 69 = .ok (.ifCond .ne 17, 3) := by decide +kernel
theorem dX10_vote_72 : decode cX10_vote 72 = .ok (.aload 8, 2) := by decide +kernel
theorem dX10_vote_74 : decode cX10_vote 74 = .ok (.getfield 219, 3) := by decide +kernel
theorem dX10_vote_77 : decode cX10_vote 77 = .ok (.bipush 20, 2) := by decide +kernel
theorem dX10_vote_79 : decode cX10_vote 79 = .ok (.if_icmp .ge 7, 3) := by decide +kernel
theorem dX10_vote_82 : decode cX10_vote 82 = .ok (.iconst 1, 1) := by decide +kernel
theorem dX10_vote_83 : decode cX10_vote 83 = .ok (.goto 4, 3) := by decide +kernel
theorem dX10_vote_86 : decode cX10_vote 86 = .ok (.iconst 0, 1) := by decide +kernel
theorem dX10_vote_87 : decode cX10_vote 87 = .ok (.invokestatic 52, 3) := by decide +kernel
theorem dX10_vote_90 : decode cX10_vote 90 = .ok (.aload 8, 2) := by decide +kernel
theorem dX10_vote_92 : decode cX10_vote 92 = .ok (.aload 6, 2) := by decide +kernel
theorem dX10_vote_94 : decode cX10_vote 94 = .ok (.aload 7, 2) := by decide +kernel
theorem dX10_vote_96 : decode cX10_vote 96 = .ok (.invokevirtual 222, 3) := by decide +kernel
theorem dX10_vote_99 : decode cX10_vote 99 = .ok (.istore 9, 2) := by decide +kernel
theorem dX10_vote_101 : decode cX10_vote 101 = .ok (.aload 5, 2) := by decide +kernel
theorem dX10_vote_103 : decode cX10_vote 103 = .ok (.getfield 204, 3) := by decide +kernel
theorem dX10_vote_106 : decode cX10_vote 106 = .ok (.aload 5, 2) := by decide +kernel
theorem dX10_vote_108 : decode cX10_vote 108 = .ok (.getfield 226, 3) := by decide +kernel
theorem dX10_vote_111 : decode cX10_vote 111 = .ok (.invokevirtual 230, 3) := by decide +kernel
theorem dX10_vote_114 : decode cX10_vote 114 = .ok (.iload 9, 2) := by decide +kernel
theorem dX10_vote_116 : decode cX10_vote 116 = .ok (.ireturn, 1) := by decide +kernel
theorem dX10_isJustified_0 : decode cX10_isJustified 0 = .ok (.aload_n 0, 1) := by decide +kernel
theorem dX10_isJustified_1 : decode cX10_isJustified 1 = .ok (.iload_n 1, 1) := by decide +kernel
theorem dX10_isJustified_2 : decode cX10_isJustified 2 = .ok (.iload_n 2, 1) := by decide +kernel
theorem dX10_isJustified_3 : decode cX10_isJustified 3 = .ok (.invokevirtual 120, 3) := by decide +kernel
theorem dX10_isJustified_6 : decode cX10_isJustified 6 = .ok (.getfield 234, 3) := by decide +kernel
theorem dX10_isJustified_9 : decode cX10_isJustified 9 = .ok (.ireturn, 1) := by decide +kernel
theorem dX10_lastFinal_0 : decode cX10_lastFinal 0 = .ok (.aload_n 0, 1) := by decide +kernel
theorem dX10_lastFinal_1 : decode cX10_lastFinal 1 = .ok (.iload_n 1, 1) := by decide +kernel
theorem dX10_lastFinal_2 : decode cX10_lastFinal 2 = .ok (.invokevirtual 64, 3) := by decide +kernel
theorem dX10_lastFinal_5 : decode cX10_lastFinal 5 = .ok (.invokevirtual 102, 3) := by decide +kernel
theorem dX10_lastFinal_8 : decode cX10_lastFinal 8 = .ok (.getfield 135, 3) := by decide +kernel
theorem dX10_lastFinal_11 : decode cX10_lastFinal 11 = .ok (.ireturn, 1) := by decide +kernel
theorem dX10_stake_0 : decode cX10_stake 0 = .ok (.aload_n 0, 1) := by decide +kernel
theorem dX10_stake_1 : decode cX10_stake 1 = .ok (.iload_n 1, 1) := by decide +kernel
theorem dX10_stake_2 : decode cX10_stake 2 = .ok (.invokevirtual 64, 3) := by decide +kernel
theorem dX10_stake_5 : decode cX10_stake 5 = .ok (.astore_n 3, 1) := by decide +kernel
theorem dX10_stake_6 : decode cX10_stake 6 = .ok (.iload_n 2, 1) := by decide +kernel
theorem dX10_stake_7 : decode cX10_stake 7 = .ok (.iconst 4, 1) := by decide +kernel
theorem dX10_stake_8 : decode cX10_stake 8 = .ok (.invokestatic 32, 3) := by decide +kernel
theorem dX10_stake_11 : decode cX10_stake 11 = .ok (.aload_n 3, 1) := by decide +kernel
theorem dX10_stake_12 : decode cX10_stake 12 = .ok (.getfield 204, 3) := by decide +kernel
theorem dX10_stake_15 : decode cX10_stake 15 = .ok (.iload_n 2, 1) := by decide +kernel
theorem dX10_stake_16 : decode cX10_stake 16 = .ok (.invokevirtual 208, 3) := by decide +kernel
theorem dX10_stake_19 : decode cX10_stake 19 = .ok (.invokevirtual 237, 3) := by decide +kernel
theorem dX10_stake_22 : decode cX10_stake 22 = .ok (.ireturn, 1) := by decide +kernel
theorem dX10_demandIndex_0 : decode cX10_demandIndex 0 = .ok (.iload_n 0, 1) := by decide +kernel
theorem dX10_demandIndex_1 : decode cX10_demandIndex 1 = .ok (.ifCond .lt 8, 3) := by decide +kernel
theorem dX10_demandIndex_4 : decode cX10_demandIndex 4 = .ok (.iload_n 0, 1) := by decide +kernel
theorem dX10_demandIndex_5 : decode cX10_demandIndex 5 = .ok (.iload_n 1, 1) := by decide +kernel
theorem dX10_demandIndex_6 : decode cX10_demandIndex 6 = .ok (.if_icmp .lt 11, 3) := by decide +kernel
theorem dX10_demandIndex_9 : decode cX10_demandIndex 9 = .ok (.new 240, 3) := by decide +kernel
theorem dX10_demandIndex_12 : decode cX10_demandIndex 12 = .ok (.dup, 1) := by decide +kernel
theorem dX10_demandIndex_13 : decode cX10_demandIndex 13 = .ok (.invokespecial 242, 3) := by decide +kernel
theorem dX10_demandIndex_16 : decode cX10_demandIndex 16 = .ok (.athrow, 1) := by decide +kernel
theorem dX10_demandIndex_17 : decode cX10_demandIndex 17 = .ok (.return_, 1) := by decide +kernel
theorem dX10_demandArgument_0 : decode cX10_demandArgument 0 = .ok (.iload_n 0, 1) := by decide +kernel
theorem dX10_demandArgument_1 : decode cX10_demandArgument 1 = .ok (.ifCond .ne 11, 3) := by decide +kernel
theorem dX10_demandArgument_4 : decode cX10_demandArgument 4 = .ok (.new 243, 3) := by decide +kernel
theorem dX10_demandArgument_7 : decode cX10_demandArgument 7 = .ok (.dup, 1) := by decide +kernel
theorem dX10_demandArgument_8 : decode cX10_demandArgument 8 = .ok (.invokespecial 245, 3) := by decide +kernel
theorem dX10_demandArgument_11 : decode cX10_demandArgument 11 = .ok (.athrow, 1) := by decide +kernel
theorem dX10_demandArgument_12 : decode cX10_demandArgument 12 = .ok (.return_, 1) := by decide +kernel
theorem dX10_demandRange_0 : decode cX10_demandRange 0 = .ok (.iload_n 0, 1) := by decide +kernel
theorem dX10_demandRange_1 : decode cX10_demandRange 1 = .ok (.iload_n 1, 1) := by decide +kernel
theorem dX10_demandRange_2 : decode cX10_demandRange 2 = .ok (.if_icmp .lt 12, 3) := by decide +kernel
theorem dX10_demandRange_5 : decode cX10_demandRange 5 = .ok (.iload_n 0, 1) := by decide +kernel
theorem dX10_demandRange_6 : decode cX10_demandRange 6 = .ok (.iload_n 2, 1) := by decide +kernel
theorem dX10_demandRange_7 : decode cX10_demandRange 7 = .ok (.if_icmp .gt 7, 3) := by decide +kernel
theorem dX10_demandRange_10 : decode cX10_demandRange 10 = .ok (.iconst 1, 1) := by decide +kernel
theorem dX10_demandRange_11 : decode cX10_demandRange 11 = .ok (.goto 4, 3) := by decide +kernel
theorem dX10_demandRange_14 : decode cX10_demandRange 14 = .ok (.iconst 0, 1) := by decide +kernel
theorem dX10_demandRange_15 : decode cX10_demandRange 15 = .ok (.invokestatic 99, 3) := by decide +kernel
theorem dX10_demandRange_18 : decode cX10_demandRange 18 = .ok (.return_, 1) := by decide +kernel
theorem dX10_demandState_0 : decode cX10_demandState 0 = .ok (.iload_n 0, 1) := by decide +kernel
theorem dX10_demandState_1 : decode cX10_demandState 1 = .ok (.ifCond .ne 11, 3) := by decide +kernel
theorem dX10_demandState_4 : decode cX10_demandState 4 = .ok (.new 246, 3) := by decide +kernel
theorem dX10_demandState_7 : decode cX10_demandState 7 = .ok (.dup, 1) := by decide +kernel
theorem dX10_demandState_8 : decode cX10_demandState 8 = .ok (.invokespecial 248, 3) := by decide +kernel
theorem dX10_demandState_11 : decode cX10_demandState 11 = .ok (.athrow, 1) := by decide +kernel
theorem dX10_demandState_12 : decode cX10_demandState 12 = .ok (.return_, 1) := by decide +kernel
theorem dX10_demandChain_0 : decode cX10_demandChain 0 = .ok (.iload_n 1, 1) := by decide +kernel
theorem dX10_demandChain_1 : decode cX10_demandChain 1 = .ok (.ifCond .lt 12, 3) := by decide +kernel
theorem dX10_demandChain_4 : decode cX10_demandChain 4 = .ok (.iload_n 1, 1) := by decide +kernel
theorem dX10_demandChain_5 : decode cX10_demandChain 5 = .ok (.aload_n 0, 1) := by decide +kernel
theorem dX10_demandChain_6 : decode cX10_demandChain 6 = .ok (.getfield 27, 3) := by decide +kernel
theorem dX10_demandChain_9 : decode cX10_demandChain 9 = .ok (.arraylength, 1) := by decide +kernel
theorem dX10_demandChain_10 : decode cX10_demandChain 10 = .ok (.if_icmp .lt 11, 3) := by decide +kernel
theorem dX10_demandChain_13 : decode cX10_demandChain 13 = .ok (.new 240, 3) := by decide +kernel
theorem dX10_demandChain_16 : decode cX10_demandChain 16 = .ok (.dup, 1) := by decide +kernel
theorem dX10_demandChain_17 : decode cX10_demandChain 17 = .ok (.invokespecial 242, 3) := by decide +kernel
theorem dX10_demandChain_20 : decode cX10_demandChain 20 = .ok (.athrow, 1) := by decide +kernel
theorem dX10_demandChain_21 : decode cX10_demandChain 21 = .ok (.aload_n 0, 1) := by decide +kernel
theorem dX10_demandChain_22 : decode cX10_demandChain 22 = .ok (.getfield 27, 3) := by decide +kernel
theorem dX10_demandChain_25 : decode cX10_demandChain 25 = .ok (.iload_n 1, 1) := by decide +kernel
theorem dX10_demandChain_26 : decode cX10_demandChain 26 = .ok (.aaload, 1) := by decide +kernel
theorem dX10_demandChain_27 : decode cX10_demandChain 27 = .ok (.areturn, 1) := by decide +kernel
theorem dX10_demandBlock_0 : decode cX10_demandBlock 0 = .ok (.aload_n 0, 1) := by decide +kernel
theorem dX10_demandBlock_1 : decode cX10_demandBlock 1 = .ok (.iload_n 1, 1) := by decide +kernel
theorem dX10_demandBlock_2 : decode cX10_demandBlock 2 = .ok (.invokevirtual 64, 3) := by decide +kernel
theorem dX10_demandBlock_5 : decode cX10_demandBlock 5 = .ok (.astore_n 3, 1) := by decide +kernel
theorem dX10_demandBlock_6 : decode cX10_demandBlock 6 = .ok (.iload_n 2, 1) := by decide +kernel
theorem dX10_demandBlock_7 : decode cX10_demandBlock 7 = .ok (.aload_n 3, 1) := by decide +kernel
theorem dX10_demandBlock_8 : decode cX10_demandBlock 8 = .ok (.getfield 68, 3) := by decide +kernel
theorem dX10_demandBlock_11 : decode cX10_demandBlock 11 = .ok (.invokestatic 32, 3) := by decide +kernel
theorem dX10_demandBlock_14 : decode cX10_demandBlock 14 = .ok (.aload_n 3, 1) := by decide +kernel
theorem dX10_demandBlock_15 : decode cX10_demandBlock 15 = .ok (.iload_n 2, 1) := by decide +kernel
theorem dX10_demandBlock_16 : decode cX10_demandBlock 16 = .ok (.invokevirtual 249, 3) := by decide +kernel
theorem dX10_demandBlock_19 : decode cX10_demandBlock 19 = .ok (.areturn, 1) := by decide +kernel
theorem dX10_demandState__0 : decode cX10_demandState_ 0 = .ok (.aload_n 0, 1) := by decide +kernel
theorem dX10_demandState__1 : decode cX10_demandState_ 1 = .ok (.iload_n 1, 1) := by decide +kernel
theorem dX10_demandState__2 : decode cX10_demandState_ 2 = .ok (.iload_n 2, 1) := by decide +kernel
theorem dX10_demandState__3 : decode cX10_demandState_ 3 = .ok (.invokevirtual 120, 3) := by decide +kernel
theorem dX10_demandState__6 : decode cX10_demandState_ 6 = .ok (.astore 4, 2) := by decide +kernel
theorem dX10_demandState__8 : decode cX10_demandState_ 8 = .ok (.iload_n 3, 1) := by decide +kernel
theorem dX10_demandState__9 : decode cX10_demandState_ 9 = .ok (.bipush 16, 2) := by decide +kernel
theorem dX10_demandState__11 : decode cX10_demandState_ 11 = .ok (.invokestatic 32, 3) := by decide +kernel
theorem dX10_demandState__14 : decode cX10_demandState_ 14 = .ok (.aload 4, 2) := by decide +kernel
theorem dX10_demandState__16 : decode cX10_demandState_ 16 = .ok (.getfield 124, 3) := by decide +kernel
theorem dX10_demandState__19 : decode cX10_demandState_ 19 = .ok (.ifCond .ne 7, 3) := by decide +kernel
theorem dX10_demandState__22 : decode cX10_demandState_ 22 = .ok (.iconst 1, 1) := by decide +kernel
theorem dX10_demandState__23 : decode cX10_demandState_ 23 = .ok (.goto 4, 3) := by decide +kernel
theorem dX10_demandState__26 : decode cX10_demandState_ 26 = .ok (.iconst 0, 1) := by decide +kernel
theorem dX10_demandState__27 : decode cX10_demandState_ 27 = .ok (.invokestatic 52, 3) := by decide +kernel
theorem dX10_demandState__30 : decode cX10_demandState_ 30 = .ok (.aload 4, 2) := by decide +kernel
theorem dX10_demandState__32 : decode cX10_demandState_ 32 = .ok (.getfield 253, 3) := by decide +kernel
theorem dX10_demandState__35 : decode cX10_demandState_ 35 = .ok (.areturn, 1) := by decide +kernel
theorem dX10_at_0 : decode cX10_at 0 = .ok (.iload_n 1, 1) := by decide +kernel
theorem dX10_at_1 : decode cX10_at 1 = .ok (.ifCond .lt 15, 3) := by decide +kernel
theorem dX10_at_4 : decode cX10_at 4 = .ok (.iload_n 1, 1) := by decide +kernel
theorem dX10_at_5 : decode cX10_at 5 = .ok (.aload_n 0, 1) := by decide +kernel
theorem dX10_at_6 : decode cX10_at 6 = .ok (.arraylength, 1) := by decide +kernel
theorem dX10_at_7 : decode cX10_at 7 = .ok (.if_icmp .ge 9, 3) := by decide +kernel
theorem dX10_at_10 : decode cX10_at 10 = .ok (.aload_n 0, 1) := by decide +kernel
theorem dX10_at_11 : decode cX10_at 11 = .ok (.iload_n 1, 1) := by decide +kernel
theorem dX10_at_12 : decode cX10_at 12 = .ok (.iaload, 1) := by decide +kernel
theorem dX10_at_13 : decode cX10_at 13 = .ok (.goto 4, 3) := by decide +kernel
theorem dX10_at_16 : decode cX10_at 16 = .ok (.iconst 0, 1) := by decide +kernel
theorem dX10_at_17 : decode cX10_at 17 = .ok (.ireturn, 1) := by decide +kernel
theorem dX10_put_0 : decode cX10_put 0 = .ok (.iload_n 1, 1) := by decide +kernel
theorem dX10_put_1 : decode cX10_put 1 = .ok (.ifCond .lt 13, 3) := by decide +kernel
theorem dX10_put_4 : decode cX10_put 4 = .ok (.iload_n 1, 1) := by decide +kernel
theorem dX10_put_5 : decode cX10_put 5 = .ok (.aload_n 0, 1) := by decide +kernel
theorem dX10_put_6 : decode cX10_put 6 = .ok (.arraylength, 1) := by decide +kernel
theorem dX10_put_7 : decode cX10_put 7 = .ok (.if_icmp .ge 7, 3) := by decide +kernel
theorem dX10_put_10 : decode cX10_put 10 = .ok (.aload_n 0, 1) := by decide +kernel
theorem dX10_put_11 : decode cX10_put 11 = .ok (.iload_n 1, 1) := by decide +kernel
theorem dX10_put_12 : decode cX10_put 12 = .ok (.iload_n 2, 1) := by decide +kernel
theorem dX10_put_13 : decode cX10_put 13 = .ok (.iastore, 1) := by decide +kernel
theorem dX10_put_14 : decode cX10_put 14 = .ok (.return_, 1) := by decide +kernel
theorem dX10_mix_0 : decode cX10_mix 0 = .ok (.ldc2_w 257, 3) := by decide +kernel
theorem dX10_mix_3 : decode cX10_mix 3 = .ok (.iload_n 0, 1) := by decide +kernel
theorem dX10_mix_4 : decode cX10_mix 4 = .ok (.i2l, 1) := by decide +kernel
theorem dX10_mix_5 : decode cX10_mix 5 = .ok (.lmul, 1) := by decide +kernel
theorem dX10_mix_6 : decode cX10_mix 6 = .ok (.ldc2_w 259, 3) := by decide +kernel
theorem dX10_mix_9 : decode cX10_mix 9 = .ok (.iload_n 1, 1) := by decide +kernel
theorem dX10_mix_10 : decode cX10_mix 10 = .ok (.i2l, 1) := by decide +kernel
theorem dX10_mix_11 : decode cX10_mix 11 = .ok (.lmul, 1) := by decide +kernel
theorem dX10_mix_12 : decode cX10_mix 12 = .ok (.ladd, 1) := by decide +kernel
theorem dX10_mix_13 : decode cX10_mix 13 = .ok (.ldc2_w 261, 3) := by decide +kernel
theorem dX10_mix_16 : decode cX10_mix 16 = .ok (.ladd, 1) := by decide +kernel
theorem dX10_mix_17 : decode cX10_mix 17 = .ok (.ldc2_w 263, 3) := by decide +kernel
theorem dX10_mix_20 : decode cX10_mix 20 = .ok (.lrem, 1) := by decide +kernel
theorem dX10_mix_21 : decode cX10_mix 21 = .ok (.l2i, 1) := by decide +kernel
theorem dX10_mix_22 : decode cX10_mix 22 = .ok (.ireturn, 1) := by decide +kernel
theorem dX10_join_0 : decode cX10_join 0 = .ok (.iload_n 0, 1) := by decide +kernel
theorem dX10_join_1 : decode cX10_join 1 = .ok (.iconst 1, 1) := by decide +kernel
theorem dX10_join_2 : decode cX10_join 2 = .ok (.iand, 1) := by decide +kernel
theorem dX10_join_3 : decode cX10_join 3 = .ok (.ifCond .ne 11, 3) := by decide +kernel
theorem dX10_join_6 : decode cX10_join 6 = .ok (.iload_n 1, 1) := by decide +kernel
theorem dX10_join_7 : decode cX10_join 7 = .ok (.iload_n 2, 1) := by decide +kernel
theorem dX10_join_8 : decode cX10_join 8 = .ok (.invokestatic 265, 3) := by decide +kernel
theorem dX10_join_11 : decode cX10_join 11 = .ok (.goto 8, 3) := by decide +kernel
theorem dX10_join_14 : decode cX10_join 14 = .ok (.iload_n 2, 1) := by decide +kernel
theorem dX10_join_15 : decode cX10_join 15 = .ok (.iload_n 1, 1) := by decide +kernel
theorem dX10_join_16 : decode cX10_join 16 = .ok (.invokestatic 265, 3) := by decide +kernel
theorem dX10_join_19 : decode cX10_join 19 = .ok (.ireturn, 1) := by decide +kernel
theorem dX10_nodeOver_0 : decode cX10_nodeOver 0 = .ok (.iload_n 1, 1) := by decide +kernel
theorem dX10_nodeOver_1 : decode cX10_nodeOver 1 = .ok (.ifCond .le 8, 3) := by decide +kernel
theorem dX10_nodeOver_4 : decode cX10_nodeOver 4 = .ok (.iload_n 1, 1) := by decide +kernel
theorem dX10_nodeOver_5 : decode cX10_nodeOver 5 = .ok (.iconst 4, 1) := by decide +kernel
theorem dX10_nodeOver_6 : decode cX10_nodeOver 6 = .ok (.if_icmp .le 9, 3) := by decide +kernel
theorem dX10_nodeOver_9 : decode cX10_nodeOver 9 = .ok (.aload_n 0, 1) := by decide +kernel
theorem dX10_nodeOver_10 : decode cX10_nodeOver 10 = .ok (.iload_n 2, 1) := by decide +kernel
theorem dX10_nodeOver_11 : decode cX10_nodeOver 11 = .ok (.invokevirtual 269, 3) := by decide +kernel
theorem dX10_nodeOver_14 : decode cX10_nodeOver 14 = .ok (.ireturn, 1) := by decide +kernel
theorem dX10_nodeOver_15 : decode cX10_nodeOver 15 = .ok (.aload_n 0, 1) := by decide +kernel
theorem dX10_nodeOver_16 : decode cX10_nodeOver 16 = .ok (.iload_n 1, 1) := by decide +kernel
theorem dX10_nodeOver_17 : decode cX10_nodeOver 17 = .ok (.iconst 1, 1) := by decide +kernel
theorem dX10_nodeOver_18 : decode cX10_nodeOver 18 = .ok (.isub, 1) := by decide +kernel
theorem dX10_nodeOver_19 : decode cX10_nodeOver 19 = .ok (.iconst 2, 1) := by decide +kernel
theorem dX10_nodeOver_20 : decode cX10_nodeOver 20 = .ok (.iload_n 2, 1) := by decide +kernel
theorem dX10_nodeOver_21 : decode cX10_nodeOver 21 = .ok (.imul, 1) := by decide +kernel
theorem dX10_nodeOver_22 : decode cX10_nodeOver 22 = .ok (.invokestatic 189, 3) := by decide +kernel
theorem dX10_nodeOver_25 : decode cX10_nodeOver 25 = .ok (.aload_n 0, 1) := by decide +kernel
theorem dX10_nodeOver_26 : decode cX10_nodeOver 26 = .ok (.iload_n 1, 1) := by decide +kernel
theorem dX10_nodeOver_27 : decode cX10_nodeOver 27 = .ok (.iconst 1, 1) := by decide +kernel
theorem dX10_nodeOver_28 : decode cX10_nodeOver 28 = .ok (.isub, 1) := by decide +kernel
theorem dX10_nodeOver_29 : decode cX10_nodeOver 29 = .ok (.iconst 2, 1) := by decide +kernel
theorem dX10_nodeOver_30 : decode cX10_nodeOver 30 = .ok (.iload_n 2, 1) := by decide +kernel
theorem dX10_nodeOver_31 : decode cX10_nodeOver 31 = .ok (.imul, 1) := by decide +kernel
theorem dX10_nodeOver_32 : decode cX10_nodeOver 32 = .ok (.iconst 1, 1) := by decide +kernel
theorem dX10_nodeOver_33 : decode cX10_nodeOver 33 = .ok (.iadd, 1) := by decide +kernel
theorem dX10_nodeOver_34 : decode cX10_nodeOver 34 = .ok (.invokestatic 189, 3) := by decide +kernel
theorem dX10_nodeOver_37 : decode cX10_nodeOver 37 = .ok (.invokestatic 265, 3) := by decide +kernel
theorem dX10_nodeOver_40 : decode cX10_nodeOver 40 = .ok (.ireturn, 1) := by decide +kernel
theorem dJ9_floorMod_7cf53_0 : decode cJ9_floorMod_7cf53 0 = .ok (.iload_n 0, 1) := by decide +kernel
theorem dJ9_floorMod_7cf53_1 : decode cJ9_floorMod_7cf53 1 = .ok (.iload_n 1, 1) := by decide +kernel
theorem dJ9_floorMod_7cf53_2 : decode cJ9_floorMod_7cf53 2 = .ok (.irem, 1) := by decide +kernel
theorem dJ9_floorMod_7cf53_3 : decode cJ9_floorMod_7cf53 3 = .ok (.istore_n 2, 1) := by decide +kernel
theorem dJ9_floorMod_7cf53_4 : decode cJ9_floorMod_7cf53 4 = .ok (.iload_n 0, 1) := by decide +kernel
theorem dJ9_floorMod_7cf53_5 : decode cJ9_floorMod_7cf53 5 = .ok (.iload_n 1, 1) := by decide +kernel
theorem dJ9_floorMod_7cf53_6 : decode cJ9_floorMod_7cf53 6 = .ok (.ixor, 1) := by decide +kernel
theorem dJ9_floorMod_7cf53_7 : decode cJ9_floorMod_7cf53 7 = .ok (.ifCond .ge 11, 3) := by decide +kernel
theorem dJ9_floorMod_7cf53_10 : decode cJ9_floorMod_7cf53 10 = .ok (.iload_n 2, 1) := by decide +kernel
theorem dJ9_floorMod_7cf53_11 : decode cJ9_floorMod_7cf53 11 = .ok (.ifCond .eq 7, 3) := by decide +kernel
theorem dJ9_floorMod_7cf53_14 : decode cJ9_floorMod_7cf53 14 = .ok (.iload_n 2, 1) := by decide +kernel
theorem dJ9_floorMod_7cf53_15 : decode cJ9_floorMod_7cf53 15 = .ok (.iload_n 1, 1) := by decide +kernel
theorem dJ9_floorMod_7cf53_16 : decode cJ9_floorMod_7cf53 16 = .ok (.iadd, 1) := by decide +kernel
theorem dJ9_floorMod_7cf53_17 : decode cJ9_floorMod_7cf53 17 = .ok (.ireturn, 1) := by decide +kernel
theorem dJ9_floorMod_7cf53_18 : decode cJ9_floorMod_7cf53 18 = .ok (.iload_n 2, 1) := by decide +kernel
theorem dJ9_floorMod_7cf53_19 : decode cJ9_floorMod_7cf53 19 = .ok (.ireturn, 1) := by decide +kernel
theorem dJ9_max_7cf53_0 : decode cJ9_max_7cf53 0 = .ok (.iload_n 0, 1) := by decide +kernel
theorem dJ9_max_7cf53_1 : decode cJ9_max_7cf53 1 = .ok (.iload_n 1, 1) := by decide +kernel
theorem dJ9_max_7cf53_2 : decode cJ9_max_7cf53 2 = .ok (.if_icmp .lt 7, 3) := by decide +kernel
theorem dJ9_max_7cf53_5 : decode cJ9_max_7cf53 5 = .ok (.iload_n 0, 1) := by decide +kernel
theorem dJ9_max_7cf53_6 : decode cJ9_max_7cf53 6 = .ok (.goto 4, 3) := by decide +kernel
theorem dJ9_max_7cf53_9 : decode cJ9_max_7cf53 9 = .ok (.iload_n 1, 1) := by decide +kernel
theorem dJ9_max_7cf53_10 : decode cJ9_max_7cf53 10 = .ok (.ireturn, 1) := by decide +kernel
theorem dJ9_min_7cf53_0 : decode cJ9_min_7cf53 0 = .ok (.iload_n 0, 1) := by decide +kernel
theorem dJ9_min_7cf53_1 : decode cJ9_min_7cf53 1 = .ok (.iload_n 1, 1) := by decide +kernel
theorem dJ9_min_7cf53_2 : decode cJ9_min_7cf53 2 = .ok (.if_icmp .gt 7, 3) := by decide +kernel
theorem dJ9_min_7cf53_5 : decode cJ9_min_7cf53 5 = .ok (.iload_n 0, 1) := by decide +kernel
theorem dJ9_min_7cf53_6 : decode cJ9_min_7cf53 6 = .ok (.goto 4, 3) := by decide +kernel
theorem dJ9_min_7cf53_9 : decode cJ9_min_7cf53 9 = .ok (.iload_n 1, 1) := by decide +kernel
theorem dJ9_min_7cf53_10 : decode cJ9_min_7cf53 10 = .ok (.ireturn, 1) := by decide +kernel
