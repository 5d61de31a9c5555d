theorem dX1_init_0 : decode cX1_init 0 = .ok (.aload_n 0, 1) := by decide +kernel
theorem dX1_init_1 : decode cX1_init 1 = .ok (.invokespecial 1, 3) := by decide +kernel
theorem dX1_init_4 : decode cX1_init 4 = .ok (.aload_n 0, 1) := by decide +kernel
theorem dX1_init_5 : decode cX1_init 5 = .ok (.iconst 1, 1) := by decide +kernel
theorem dX1_init_6 : decode cX1_init 6 = .ok (.putfield 7, 3) := by decide +kernel
theorem dX1_init_9 : decode cX1_init 9 = .ok (.aload_n 0, 1) := by decide +kernel
theorem dX1_init_10 : decode cX1_init 10 = .ok (.bipush 60, 2) := by decide +kernel
theorem dX1_init_12 : decode cX1_init 12 = .ok (.newarray .boolean, 2) := by decide +kernel
theorem dX1_init_14 : decode cX1_init 14 = .ok (.putfield 13, 3) := by decide +kernel
theorem dX1_init_17 : decode cX1_init 17 = .ok (.aload_n 0, 1) := by decide +kernel
theorem dX1_init_18 : decode cX1_init 18 = .ok (.bipush 60, 2) := by decide +kernel
theorem dX1_init_20 : decode cX1_init 20 = .ok (.newarray .int, 2) := by decide +kernel
theorem dX1_init_22 : decode cX1_init 22 = .ok (.putfield 17, 3) := by decide +kernel
theorem dX1_init_25 : decode cX1_init 25 = .ok (.aload_n 0, 1) := by decide +kernel
theorem dX1_init_26 : decode cX1_init 26 = .ok (.bipush 60, 2) := by decide +kernel
theorem dX1_init_28 : decode cX1_init 28 = .ok (.newarray .int, 2) := by decide +kernel
theorem dX1_init_30 : decode cX1_init 30 = .ok (.putfield 21, 3) := by decide +kernel
theorem dX1_init_33 : decode cX1_init 33 = .ok (.aload_n 0, 1) := by decide +kernel
theorem dX1_init_34 : decode cX1_init 34 = .ok (.bipush 60, 2) := by decide +kernel
theorem dX1_init_36 : decode cX1_init 36 = .ok (.newarray .int, 2) := by decide +kernel
theorem dX1_init_38 : decode cX1_init 38 = .ok (.putfield 24, 3) := by decide +kernel
theorem dX1_init_41 : decode cX1_init 41 = .ok (.aload_n 0, 1) := by decide +kernel
theorem dX1_init_42 : decode cX1_init 42 = .ok (.bipush 60, 2) := by decide +kernel
theorem dX1_init_44 : decode cX1_init 44 = .ok (.newarray .int, 2) := by decide +kernel
theorem dX1_init_46 : decode cX1_init 46 = .ok (.putfield 27, 3) := by decide +kernel
theorem dX1_init_49 : decode cX1_init 49 = .ok (.aload_n 0, 1) := by decide +kernel
theorem dX1_init_50 : decode cX1_init 50 = .ok (.sipush 720, 3) := by decide +kernel
theorem dX1_init_53 : decode cX1_init 53 = .ok (.newarray .int, 2) := by decide +kernel
theorem dX1_init_55 : decode cX1_init 55 = .ok (.putfield 30, 3) := by decide +kernel
theorem dX1_init_58 : decode cX1_init 58 = .ok (.aload_n 0, 1) := by decide +kernel
theorem dX1_init_59 : decode cX1_init 59 = .ok (.bipush 60, 2) := by decide +kernel
theorem dX1_init_61 : decode cX1_init 61 = .ok (.newarray .boolean, 2) := by decide +kernel
theorem dX1_init_63 : decode cX1_init 63 = .ok (.putfield 33, 3) := by decide +kernel
theorem dX1_init_66 : decode cX1_init 66 = .ok (.aload_n 0, 1) := by decide +kernel
theorem dX1_init_67 : decode cX1_init 67 = .ok (.bipush 60, 2) := by decide +kernel
theorem dX1_init_69 : decode cX1_init 69 = .ok (.newarray .boolean, 2) := by decide +kernel
theorem dX1_init_71 : decode cX1_init 71 = .ok (.putfield 36, 3) := by decide +kernel
theorem dX1_init_74 : decode cX1_init 74 = .ok (.aload_n 0, 1) := by decide +kernel
theorem dX1_init_75 : decode cX1_init 75 = .ok (.bipush 60, 2) := by decide +kernel
theorem dX1_init_77 : decode cX1_init 77 = .ok (.newarray .boolean, 2) := by decide +kernel
theorem dX1_init_79 : decode cX1_init 79 = .ok (.putfield 39, 3) := by decide +kernel
theorem dX1_init_82 : decode cX1_init 82 = .ok (.aload_n 0, 1) := by decide +kernel
theorem dX1_init_83 : decode cX1_init 83 = .ok (.bipush 60, 2) := by decide +kernel
theorem dX1_init_85 : decode cX1_init 85 = .ok (.newarray .int, 2) := by decide +kernel
theorem dX1_init_87 : decode cX1_init 87 = .ok (.putfield 42, 3) := by decide +kernel
theorem dX1_init_90 : decode cX1_init 90 = .ok (.aload_n 0, 1) := by decide +kernel
theorem dX1_init_91 : decode cX1_init 91 = .ok (.bipush 60, 2) := by decide +kernel
theorem dX1_init_93 : decode cX1_init 93 = .ok (.newarray .int, 2) := by decide +kernel
theorem dX1_init_95 : decode cX1_init 95 = .ok (.putfield 45, 3) := by decide +kernel
theorem dX1_init_98 : decode cX1_init 98 = .ok (.aload_n 0, 1) := by decide +kernel
theorem dX1_init_99 : decode cX1_init 99 = .ok (.getfield 17, 3) := by decide +kernel
theorem dX1_init_102 : decode cX1_init 102 = .ok (.iconst 0, 1) := by decide +kernel
theorem dX1_init_103 : decode cX1_init 103 = .ok (.bipush 50, 2) := by decide +kernel
theorem dX1_init_105 : decode cX1_init 105 = .ok (.iastore, 1) := by decide +kernel
theorem dX1_init_106 : decode cX1_init 106 = .ok (.aload_n 0, 1) := by decide +kernel
theorem dX1_init_107 : decode cX1_init 107 = .ok (.getfield 21, 3) := by decide +kernel
theorem dX1_init_110 : decode cX1_init 110 = .ok (.iconst 0, 1) := by decide +kernel
theorem dX1_init_111 : decode cX1_init 111 = .ok (.bipush 50, 2) := by decide +kernel
theorem dX1_init_113 : decode cX1_init 113 = .ok (.iastore, 1) := by decide +kernel
theorem dX1_init_114 : decode cX1_init 114 = .ok (.return_, 1) := by decide +kernel
theorem dX1_thrown_0 : decode cX1_thrown 0 = .ok (.aload_n 0, 1) := by decide +kernel
theorem dX1_thrown_1 : decode cX1_thrown 1 = .ok (.getfield 48, 3) := by decide +kernel
theorem dX1_thrown_4 : decode cX1_thrown 4 = .ok (.ireturn, 1) := by decide +kernel
theorem dX1_states_0 : decode cX1_states 0 = .ok (.aload_n 0, 1) := by decide +kernel
theorem dX1_states_1 : decode cX1_states 1 = .ok (.iload_n 1, 1) := by decide +kernel
theorem dX1_states_2 : decode cX1_states 2 = .ok (.iconst 1, 1) := by decide +kernel
theorem dX1_states_3 : decode cX1_states 3 = .ok (.if_icmp .lt 9, 3) := by decide +kernel
theorem dX1_states_6 : decode cX1_states 6 = .ok (.iload_n 1, 1) := by decide +kernel
theorem dX1_states_7 : decode cX1_states 7 = .ok (.bipush 60, 2) := by decide +kernel
theorem dX1_states_9 : decode cX1_states 9 = .ok (.if_icmp .le 7, 3) := by decide +kernel
theorem dX1_states_12 : decode cX1_states 12 = .ok (.iconst 1, 1) := by decide +kernel
theorem dX1_states_13 : decode cX1_states 13 = .ok (.goto 4, 3) := by decide +kernel
theorem dX1_states_16 : decode cX1_states 16 = .ok (.iconst 0, 1) := by decide +kernel
theorem dX1_states_17 : decode cX1_states 17 = .ok (.putfield 48, 3) := by decide +kernel
theorem dX1_states_20 : decode cX1_states 20 = .ok (.aload_n 0, 1) := by decide +kernel
theorem dX1_states_21 : decode cX1_states 21 = .ok (.getfield 48, 3) := by decide +kernel
theorem dX1_states_24 : decode cX1_states 24 = .ok (.ifCond .eq 4, 3) := by decide +kernel
theorem dX1_states_27 : decode cX1_states 27 = .ok (.return_, 1) := by decide +kernel
theorem dX1_states_28 : decode cX1_states 28 = .ok (.aload_n 0, 1) := by decide +kernel
theorem dX1_states_29 : decode cX1_states 29 = .ok (.iload_n 1, 1) := by decide +kernel
theorem dX1_states_30 : decode cX1_states 30 = .ok (.putfield 7, 3) := by decide +kernel
theorem dX1_states_33 : decode cX1_states 33 = .ok (.iconst 0, 1) := by decide +kernel
theorem dX1_states_34 : decode cX1_states 34 = .ok (.istore_n 2, 1) := by decide +kernel
theorem dX1_states_35 : decode cX1_states 35 = .ok (.iload_n 2, 1) := by decide +kernel
theorem dX1_states_36 : decode cX1_states 36 = .ok (.iload_n 1, 1) := by decide +kernel
theorem dX1_states_37 : decode cX1_states 37 = .ok (.if_icmp .ge 32, 3) := by decide +kernel
theorem dX1_states_40 : decode cX1_states 40 = .ok (.aload_n 0, 1) := by decide +kernel
theorem dX1_states_41 : decode cX1_states 41 = .ok (.getfield 13, 3) := by decide +kernel
theorem dX1_states_44 : decode cX1_states 44 = .ok (.iload_n 2, 1) := by decide +kernel
theorem dX1_states_45 : decode cX1_states 45 = .ok (.iconst 0, 1) := by decide +kernel
theorem dX1_states_46 : decode cX1_states 46 = .ok (.bastore, 1) := by decide +kernel
theorem dX1_states_47 : decode cX1_states 47 = .ok (.aload_n 0, 1) := by decide +kernel
theorem dX1_states_48 : decode cX1_states 48 = .ok (.getfield 17, 3) := by decide +kernel
theorem dX1_states_51 : decode cX1_states 51 = .ok (.iload_n 2, 1) := by decide +kernel
theorem dX1_states_52 : decode cX1_states 52 = .ok (.bipush 50, 2) := by decide +kernel
theorem dX1_states_54 : decode cX1_states 54 = .ok (.iastore, 1) := by decide +kernel
theorem dX1_states_55 : decode cX1_states 55 = .ok (.aload_n 0, 1) := by decide +kernel
theorem dX1_states_56 : decode cX1_states 56 = .ok (.getfield 21, 3) := by decide +kernel
theorem dX1_states_59 : decode cX1_states 59 = .ok (.iload_n 2, 1) := by decide +kernel
theorem dX1_states_60 : decode cX1_states 60 = .ok (.bipush 50, 2) := by decide +kernel
theorem dX1_states_62 : decode cX1_states 62 = .ok (.iastore, 1) := by decide +kernel
theorem dX1_states_63 : decode cX1_states 63 = .ok (.iinc 2 1, 3) := by decide +kernel
theorem dX1_states_66 : decode cX1_states 66 = .ok (.goto (-31), 3) := by decide +kernel
theorem dX1_states_69 : decode cX1_states 69 = .ok (.return_, 1) := by decide +kernel
theorem dX1_isState_0 : decode cX1_isState 0 = .ok (.iload_n 1, 1) := by decide +kernel
theorem dX1_isState_1 : decode cX1_isState 1 = .ok (.ifCond .lt 15, 3) := by decide +kernel
theorem dX1_isState_4 : decode cX1_isState 4 = .ok (.iload_n 1, 1) := by decide +kernel
theorem dX1_isState_5 : decode cX1_isState 5 = .ok (.aload_n 0, 1) := by decide +kernel
theorem dX1_isState_6 : decode cX1_isState 6 = .ok (.getfield 7, 3) := by decide +kernel
theorem dX1_isState_9 : decode cX1_isState 9 = .ok (.if_icmp .ge 7, 3) := by decide +kernel
theorem dX1_isState_12 : decode cX1_isState 12 = .ok (.iconst 1, 1) := by decide +kernel
theorem dX1_isState_13 : decode cX1_isState 13 = .ok (.goto 4, 3) := by decide +kernel
theorem dX1_isState_16 : decode cX1_isState 16 = .ok (.iconst 0, 1) := by decide +kernel
theorem dX1_isState_17 : decode cX1_isState 17 = .ok (.ireturn, 1) := by decide +kernel
theorem dX1_end_0 : decode cX1_end 0 = .ok (.aload_n 0, 1) := by decide +kernel
theorem dX1_end_1 : decode cX1_end 1 = .ok (.aload_n 0, 1) := by decide +kernel
theorem dX1_end_2 : decode cX1_end 2 = .ok (.iload_n 1, 1) := by decide +kernel
theorem dX1_end_3 : decode cX1_end 3 = .ok (.invokevirtual 51, 3) := by decide +kernel
theorem dX1_end_6 : decode cX1_end 6 = .ok (.ifCond .ne 7, 3) := by decide +kernel
theorem dX1_end_9 : decode cX1_end 9 = .ok (.iconst 1, 1) := by decide +kernel
theorem dX1_end_10 : decode cX1_end 10 = .ok (.goto 32, 3) := by decide +kernel
theorem dX1_end_13 : decode cX1_end 13 = .ok (.iload_n 2, 1) := by decide +kernel
theorem dX1_end_14 : decode cX1_end 14 = .ok (.bipush (-2), 2) := by decide +kernel
theorem dX1_end_16 : decode cX1_end 16 = .ok (.if_icmp .lt 21, 3) := by decide +kernel
theorem dX1_end_19 : decode cX1_end 19 = .ok (.iload_n 2, 1) := by decide +kernel
theorem dX1_end_20 : decode cX1_end 20 = .ok (.bipush 100, 2) := by decide +kernel
theorem dX1_end_22 : decode cX1_end 22 = .ok (.if_icmp .gt 15, 3) := by decide +kernel
theorem dX1_end_25 : decode cX1_end 25 = .ok (.iload_n 3, 1) := by decide +kernel
theorem dX1_end_26 : decode cX1_end 26 = .ok (.bipush (-2), 2) := by decide +kernel
theorem dX1_end_28 : decode cX1_end 28 = .ok (.if_icmp .lt 9, 3) := by decide +kernel
theorem dX1_end_31 : decode cX1_end 31 = .ok (.iload_n 3, 1) := by decide +kernel
theorem dX1_end_32 : decode cX1_end 32 = .ok (.bipush 100, 2) := by decide +kernel
theorem dX1_end_34 : decode cX1_end 34 = .ok (.if_icmp .le 7, 3) := by decide +kernel
theorem dX1_end_37 : decode cX1_end 37 = .ok (.iconst 2, 1) := by decide +kernel
theorem dX1_end_38 : decode cX1_end 38 = .ok (.goto 4, 3) := by decide +kernel
theorem dX1_end_41 : decode cX1_end 41 = .ok (.iconst 0, 1) := by decide +kernel
theorem dX1_end_42 : decode cX1_end 42 = .ok (.putfield 48, 3) := by decide +kernel
theorem dX1_end_45 : decode cX1_end 45 = .ok (.aload_n 0, 1) := by decide +kernel
theorem dX1_end_46 : decode cX1_end 46 = .ok (.getfield 48, 3) := by decide +kernel
theorem dX1_end_49 : decode cX1_end 49 = .ok (.ifCond .eq 4, 3) := by decide +kernel
theorem dX1_end_52 : decode cX1_end 52 = .ok (.return_, 1) := by decide +kernel
theorem dX1_end_53 : decode cX1_end 53 = .ok (.aload_n 0, 1) := by decide +kernel
theorem dX1_end_54 : decode cX1_end 54 = .ok (.getfield 13, 3) := by decide +kernel
theorem dX1_end_57 : decode cX1_end 57 = .ok (.iload_n 1, 1) := by decide +kernel
theorem dX1_end_58 : decode cX1_end 58 = .ok (.iconst 0, 1) := by decide +kernel
theorem dX1_end_59 : decode cX1_end 59 = .ok (.bastore, 1) := by decide +kernel
theorem dX1_end_60 : decode cX1_end 60 = .ok (.aload_n 0, 1) := by decide +kernel
theorem dX1_end_61 : decode cX1_end 61 = .ok (.getfield 17, 3) := by decide +kernel
theorem dX1_end_64 : decode cX1_end 64 = .ok (.iload_n 1, 1) := by decide +kernel
theorem dX1_end_65 : decode cX1_end 65 = .ok (.iload_n 2, 1) := by decide +kernel
theorem dX1_end_66 : decode cX1_end 66 = .ok (.iastore, 1) := by decide +kernel
theorem dX1_end_67 : decode cX1_end 67 = .ok (.aload_n 0, 1) := by decide +kernel
theorem dX1_end_68 : decode cX1_end 68 = .ok (.getfield 21, 3) := by decide +kernel
theorem dX1_end_71 : decode cX1_end 71 = .ok (.iload_n 1, 1) := by decide +kernel
theorem dX1_end_72 : decode cX1_end 72 = .ok (.iload_n 3, 1) := by decide +kernel
theorem dX1_end_73 : decode cX1_end 73 = .ok (.iastore, 1) := by decide +kernel
theorem dX1_end_74 : decode cX1_end 74 = .ok (.return_, 1) := by decide +kernel
theorem dX1_isMany_0 : decode cX1_isMany 0 = .ok (.iload_n 0, 1) := by decide +kernel
theorem dX1_isMany_1 : decode cX1_isMany 1 = .ok (.ifCond .lt 13, 3) := by decide +kernel
theorem dX1_isMany_4 : decode cX1_isMany 4 = .ok (.iload_n 0, 1) := by decide +kernel
theorem dX1_isMany_5 : decode cX1_isMany 5 = .ok (.bipush 12, 2) := by decide +kernel
theorem dX1_isMany_7 : decode cX1_isMany 7 = .ok (.if_icmp .gt 7, 3) := by decide +kernel
theorem dX1_isMany_10 : decode cX1_isMany 10 = .ok (.iconst 1, 1) := by decide +kernel
theorem dX1_isMany_11 : decode cX1_isMany 11 = .ok (.goto 4, 3) := by decide +kernel
theorem dX1_isMany_14 : decode cX1_isMany 14 = .ok (.iconst 0, 1) := by decide +kernel
theorem dX1_isMany_15 : decode cX1_isMany 15 = .ok (.ireturn, 1) := by decide +kernel
theorem dX1_open_0 : decode cX1_open 0 = .ok (.aload_n 0, 1) := by decide +kernel
theorem dX1_open_1 : decode cX1_open 1 = .ok (.aload_n 0, 1) := by decide +kernel
theorem dX1_open_2 : decode cX1_open 2 = .ok (.iload_n 1, 1) := by decide +kernel
theorem dX1_open_3 : decode cX1_open 3 = .ok (.invokevirtual 51, 3) := by decide +kernel
theorem dX1_open_6 : decode cX1_open 6 = .ok (.ifCond .ne 7, 3) := by decide +kernel
theorem dX1_open_9 : decode cX1_open 9 = .ok (.iconst 1, 1) := by decide +kernel
theorem dX1_open_10 : decode cX1_open 10 = .ok (.goto 30, 3) := by decide +kernel
theorem dX1_open_13 : decode cX1_open 13 = .ok (.iload_n 2, 1) := by decide +kernel
theorem dX1_open_14 : decode cX1_open 14 = .ok (.invokestatic 55, 3) := by decide +kernel
theorem dX1_open_17 : decode cX1_open 17 = .ok (.ifCond .eq 18, 3) := by decide +kernel
theorem dX1_open_20 : decode cX1_open 20 = .ok (.iload_n 3, 1) := by decide +kernel
theorem dX1_open_21 : decode cX1_open 21 = .ok (.invokestatic 55, 3) := by decide +kernel
theorem dX1_open_24 : decode cX1_open 24 = .ok (.ifCond .eq 11, 3) := by decide +kernel
theorem dX1_open_27 : decode cX1_open 27 = .ok (.iload_n 2, 1) := by decide +kernel
theorem dX1_open_28 : decode cX1_open 28 = .ok (.iload_n 3, 1) := by decide +kernel
theorem dX1_open_29 : decode cX1_open 29 = .ok (.imul, 1) := by decide +kernel
theorem dX1_open_30 : decode cX1_open 30 = .ok (.bipush 12, 2) := by decide +kernel
theorem dX1_open_32 : decode cX1_open 32 = .ok (.if_icmp .le 7, 3) := by decide +kernel
theorem dX1_open_35 : decode cX1_open 35 = .ok (.iconst 2, 1) := by decide +kernel
theorem dX1_open_36 : decode cX1_open 36 = .ok (.goto 4, 3) := by decide +kernel
theorem dX1_open_39 : decode cX1_open 39 = .ok (.iconst 0, 1) := by decide +kernel
theorem dX1_open_40 : decode cX1_open 40 = .ok (.putfield 48, 3) := by decide +kernel
theorem dX1_open_43 : decode cX1_open 43 = .ok (.aload_n 0, 1) := by decide +kernel
theorem dX1_open_44 : decode cX1_open 44 = .ok (.getfield 48, 3) := by decide +kernel
theorem dX1_open_47 : decode cX1_open 47 = .ok (.ifCond .eq 4, 3) := by decide +kernel
theorem dX1_open_50 : decode cX1_open 50 = .ok (.return_, 1) := by decide +kernel
theorem dX1_open_51 : decode cX1_open 51 = .ok (.aload_n 0, 1) := by decide +kernel
theorem dX1_open_52 : decode cX1_open 52 = .ok (.getfield 13, 3) := by decide +kernel
theorem dX1_open_55 : decode cX1_open 55 = .ok (.iload_n 1, 1) := by decide +kernel
theorem dX1_open_56 : decode cX1_open 56 = .ok (.iconst 1, 1) := by decide +kernel
theorem dX1_open_57 : decode cX1_open 57 = .ok (.bastore, 1) := by decide +kernel
theorem dX1_open_58 : decode cX1_open 58 = .ok (.aload_n 0, 1) := by decide +kernel
theorem dX1_open_59 : decode cX1_open 59 = .ok (.getfield 24, 3) := by decide +kernel
theorem dX1_open_62 : decode cX1_open 62 = .ok (.iload_n 1, 1) := by decide +kernel
theorem dX1_open_63 : decode cX1_open 63 = .ok (.iload_n 2, 1) := by decide +kernel
theorem dX1_open_64 : decode cX1_open 64 = .ok (.iastore, 1) := by decide +kernel
theorem dX1_open_65 : decode cX1_open 65 = .ok (.aload_n 0, 1) := by decide +kernel
theorem dX1_open_66 : decode cX1_open 66 = .ok (.getfield 27, 3) := by decide +kernel
theorem dX1_open_69 : decode cX1_open 69 = .ok (.iload_n 1, 1) := by decide +kernel
theorem dX1_open_70 : decode cX1_open 70 = .ok (.iload_n 3, 1) := by decide +kernel
theorem dX1_open_71 : decode cX1_open 71 = .ok (.iastore, 1) := by decide +kernel
theorem dX1_open_72 : decode cX1_open 72 = .ok (.iconst 0, 1) := by decide +kernel
theorem dX1_open_73 : decode cX1_open 73 = .ok (.istore 4, 2) := by decide +kernel
theorem dX1_open_75 : decode cX1_open 75 = .ok (.iload 4, 2) := by decide +kernel
theorem dX1_open_77 : decode cX1_open 77 = .ok (.bipush 12, 2) := by decide +kernel
theorem dX1_open_79 : decode cX1_open 79 = .ok (.if_icmp .ge 22, 3) := by decide +kernel
theorem dX1_open_82 : decode cX1_open 82 = .ok (.aload_n 0, 1) := by decide +kernel
theorem dX1_open_83 : decode cX1_open 83 = .ok (.getfield 30, 3) := by decide +kernel
theorem dX1_open_86 : decode cX1_open 86 = .ok (.bipush 12, 2) := by decide +kernel
theorem dX1_open_88 : decode cX1_open 88 = .ok (.iload_n 1, 1) := by decide +kernel
theorem dX1_open_89 : decode cX1_open 89 = .ok (.imul, 1) := by decide +kernel
theorem dX1_open_90 : decode cX1_open 90 = .ok (.iload 4, 2) := by decide +kernel
theorem dX1_open_92 : decode cX1_open 92 = .ok (.iadd, 1) := by decide +kernel
theorem dX1_open_93 : decode cX1_open 93 = .ok (.iconst 0, 1) := by decide +kernel
theorem dX1_open_94 : decode cX1_open 94 = .ok (.iastore, 1) := by decide +kernel
theorem dX1_open_95 : decode cX1_open 95 = .ok (.iinc 4 1, 3) := by decide +kernel
theorem dX1_open_98 : decode cX1_open 98 = .ok (.goto (-23), 3) := by decide +kernel
theorem dX1_open_101 : decode cX1_open 101 = .ok (.return_, 1) := by decide +kernel
theorem dX1_joint_0 : decode cX1_joint 0 = .ok (.aload_n 0, 1) := by decide +kernel
theorem dX1_joint_1 : decode cX1_joint 1 = .ok (.getfield 13, 3) := by decide +kernel
theorem dX1_joint_4 : decode cX1_joint 4 = .ok (.iload_n 1, 1) := by decide +kernel
theorem dX1_joint_5 : decode cX1_joint 5 = .ok (.baload, 1) := by decide +kernel
theorem dX1_joint_6 : decode cX1_joint 6 = .ok (.ifCond .eq 19, 3) := by decide +kernel
theorem dX1_joint_9 : decode cX1_joint 9 = .ok (.aload_n 0, 1) := by decide +kernel
theorem dX1_joint_10 : decode cX1_joint 10 = .ok (.getfield 24, 3) := by decide +kernel
theorem dX1_joint_13 : decode cX1_joint 13 = .ok (.iload_n 1, 1) := by decide +kernel
theorem dX1_joint_14 : decode cX1_joint 14 = .ok (.iaload, 1) := by decide +kernel
theorem dX1_joint_15 : decode cX1_joint 15 = .ok (.aload_n 0, 1) := by decide +kernel
theorem dX1_joint_16 : decode cX1_joint 16 = .ok (.getfield 27, 3) := by decide +kernel
theorem dX1_joint_19 : decode cX1_joint 19 = .ok (.iload_n 1, 1) := by decide +kernel
theorem dX1_joint_20 : decode cX1_joint 20 = .ok (.iaload, 1) := by decide +kernel
theorem dX1_joint_21 : decode cX1_joint 21 = .ok (.imul, 1) := by decide +kernel
theorem dX1_joint_22 : decode cX1_joint 22 = .ok (.goto 4, 3) := by decide +kernel
theorem dX1_joint_25 : decode cX1_joint 25 = .ok (.iconst 0, 1) := by decide +kernel
theorem dX1_joint_26 : decode cX1_joint 26 = .ok (.ireturn, 1) := by decide +kernel
theorem dX1_isJoint_0 : decode cX1_isJoint 0 = .ok (.aload_n 0, 1) := by decide +kernel
theorem dX1_isJoint_1 : decode cX1_isJoint 1 = .ok (.iload_n 1, 1) := by decide +kernel
theorem dX1_isJoint_2 : decode cX1_isJoint 2 = .ok (.invokevirtual 51, 3) := by decide +kernel
theorem dX1_isJoint_5 : decode cX1_isJoint 5 = .ok (.ifCond .eq 20, 3) := by decide +kernel
theorem dX1_isJoint_8 : decode cX1_isJoint 8 = .ok (.iload_n 2, 1) := by decide +kernel
theorem dX1_isJoint_9 : decode cX1_isJoint 9 = .ok (.ifCond .lt 16, 3) := by decide +kernel
theorem dX1_isJoint_12 : decode cX1_isJoint 12 = .ok (.iload_n 2, 1) := by decide +kernel
theorem dX1_isJoint_13 : decode cX1_isJoint 13 = .ok (.aload_n 0, 1) := by decide +kernel
theorem dX1_isJoint_14 : decode cX1_isJoint 14 = .ok (.iload_n 1, 1) := by decide +kernel
theorem dX1_isJoint_15 : decode cX1_isJoint 15 = .ok (.invokevirtual 58, 3) := by decide +kernel
theorem dX1_isJoint_18 : decode cX1_isJoint 18 = .ok (.if_icmp .ge 7, 3) := by decide +kernel
theorem dX1_isJoint_21 : decode cX1_isJoint 21 = .ok (.iconst 1, 1) := by decide +kernel
theorem dX1_isJoint_22 : decode cX1_isJoint 22 = .ok (.goto 4, 3) := by decide +kernel
theorem dX1_isJoint_25 : decode cX1_isJoint 25 = .ok (.iconst 0, 1) := by decide +kernel
theorem dX1_isJoint_26 : decode cX1_isJoint 26 = .ok (.ireturn, 1) := by decide +kernel
theorem dX1_link_0 : decode cX1_link 0 = .ok (.aload_n 0, 1) := by decide +kernel
theorem dX1_link_1 : decode cX1_link 1 = .ok (.aload_n 0, 1) := by decide +kernel
theorem dX1_link_2 : decode cX1_link 2 = .ok (.iload_n 1, 1) := by decide +kernel
theorem dX1_link_3 : decode cX1_link 3 = .ok (.iload_n 2, 1) := by decide +kernel
theorem dX1_link_4 : decode cX1_link 4 = .ok (.invokevirtual 62, 3) := by decide +kernel
theorem dX1_link_7 : decode cX1_link 7 = .ok (.ifCond .eq 15, 3) := by decide +kernel
theorem dX1_link_10 : decode cX1_link 10 = .ok (.aload_n 0, 1) := by decide +kernel
theorem dX1_link_11 : decode cX1_link 11 = .ok (.iload_n 3, 1) := by decide +kernel
theorem dX1_link_12 : decode cX1_link 12 = .ok (.invokevirtual 51, 3) := by decide +kernel
theorem dX1_link_15 : decode cX1_link 15 = .ok (.ifCond .eq 7, 3) := by decide +kernel
theorem dX1_link_18 : decode cX1_link 18 = .ok (.iconst 0, 1) := by decide +kernel
theorem dX1_link_19 : decode cX1_link 19 = .ok (.goto 4, 3) := by decide +kernel
theorem dX1_link_22 : decode cX1_link 22 = .ok (.iconst 1, 1) := by decide +kernel
theorem dX1_link_23 : decode cX1_link 23 = .ok (.putfield 48, 3) := by decide +kernel
theorem dX1_link_26 : decode cX1_link 26 = .ok (.aload_n 0, 1) := by decide +kernel
theorem dX1_link_27 : decode cX1_link 27 = .ok (.getfield 48, 3) := by decide +kernel
theorem dX1_link_30 : decode cX1_link 30 = .ok (.ifCond .ne 15, 3) := by decide +kernel
theorem dX1_link_33 : decode cX1_link 33 = .ok (.aload_n 0, 1) := by decide +kernel
theorem dX1_link_34 : decode cX1_link 34 = .ok (.getfield 30, 3) := by decide +kernel
theorem dX1_link_37 : decode cX1_link 37 = .ok (.bipush 12, 2) := by decide +kernel
theorem dX1_link_39 : decode cX1_link 39 = .ok (.iload_n 1, 1) := by decide +kernel
theorem dX1_link_40 : decode cX1_link 40 = .ok (.imul, 1) := by decide +kernel
theorem dX1_link_41 : decode cX1_link 41 = .ok (.iload_n 2, 1) := by decide +kernel
theorem dX1_link_42 : decode cX1_link 42 = .ok (.iadd, 1) := by decide +kernel
theorem dX1_link_43 : decode cX1_link 43 = .ok (.iload_n 3, 1) := by decide +kernel
theorem dX1_link_44 : decode cX1_link 44 = .ok (.iastore, 1) := by decide +kernel
theorem dX1_link_45 : decode cX1_link 45 = .ok (.return_, 1) := by decide +kernel
theorem dX1_next_0 : decode cX1_next 0 = .ok (.aload_n 0, 1) := by decide +kernel
theorem dX1_next_1 : decode cX1_next 1 = .ok (.aload_n 0, 1) := by decide +kernel
theorem dX1_next_2 : decode cX1_next 2 = .ok (.iload_n 1, 1) := by decide +kernel
theorem dX1_next_3 : decode cX1_next 3 = .ok (.iload_n 2, 1) := by decide +kernel
theorem dX1_next_4 : decode cX1_next 4 = .ok (.invokevirtual 62, 3) := by decide +kernel
theorem dX1_next_7 : decode cX1_next 7 = .ok (.ifCond .eq 7, 3) := by decide +kernel
theorem dX1_next_10 : decode cX1_next 10 = .ok (.iconst 0, 1) := by decide +kernel
theorem dX1_next_11 : decode cX1_next 11 = .ok (.goto 4, 3) := by decide +kernel
theorem dX1_next_14 : decode cX1_next 14 = .ok (.iconst 1, 1) := by decide +kernel
theorem dX1_next_15 : decode cX1_next 15 = .ok (.putfield 48, 3) := by decide +kernel
theorem dX1_next_18 : decode cX1_next 18 = .ok (.aload_n 0, 1) := by decide +kernel
theorem dX1_next_19 : decode cX1_next 19 = .ok (.getfield 48, 3) := by decide +kernel
theorem dX1_next_22 : decode cX1_next 22 = .ok (.ifCond .eq 7, 3) := by decide +kernel
theorem dX1_next_25 : decode cX1_next 25 = .ok (.iconst 0, 1) := by decide +kernel
theorem dX1_next_26 : decode cX1_next 26 = .ok (.goto 14, 3) := by decide +kernel
theorem dX1_next_29 : decode cX1_next 29 = .ok (.aload_n 0, 1) := by decide +kernel
theorem dX1_next_30 : decode cX1_next 30 = .ok (.getfield 30, 3) := by decide +kernel
theorem dX1_next_33 : decode cX1_next 33 = .ok (.bipush 12, 2) := by decide +kernel
theorem dX1_next_35 : decode cX1_next 35 = .ok (.iload_n 1, 1) := by decide +kernel
theorem dX1_next_36 : decode cX1_next 36 = .ok (.imul, 1) := by decide +kernel
theorem dX1_next_37 : decode cX1_next 37 = .ok (.iload_n 2, 1) := by decide +kernel
theorem dX1_next_38 : decode cX1_next 38 = .ok (.iadd, 1) := by decide +kernel
theorem dX1_next_39 : decode cX1_next 39 = .ok (.iaload, 1) := by decide +kernel
theorem dX1_next_40 : decode cX1_next 40 = .ok (.ireturn, 1) := by decide +kernel
theorem dX1_spread_0 : decode cX1_spread 0 = .ok (.iconst 0, 1) := by decide +kernel
theorem dX1_spread_1 : decode cX1_spread 1 = .ok (.istore_n 2, 1) := by decide +kernel
theorem dX1_spread_2 : decode cX1_spread 2 = .ok (.iload_n 2, 1) := by decide +kernel
theorem dX1_spread_3 : decode cX1_spread 3 = .ok (.aload_n 0, 1) := by decide +kernel
theorem dX1_spread_4 : decode cX1_spread 4 = .ok (.getfield 7, 3) := by decide +kernel
theorem dX1_spread_7 : decode cX1_spread 7 = .ok (.if_icmp .ge 65, 3) := by decide +kernel
theorem dX1_spread_10 : decode cX1_spread 10 = .ok (.iconst 0, 1) := by decide +kernel
theorem dX1_spread_11 : decode cX1_spread 11 = .ok (.istore_n 3, 1) := by decide +kernel
theorem dX1_spread_12 : decode cX1_spread 12 = .ok (.iload_n 3, 1) := by decide +kernel
theorem dX1_spread_13 : decode cX1_spread 13 = .ok (.aload_n 0, 1) := by decide +kernel
theorem dX1_spread_14 : decode cX1_spread 14 = .ok (.getfield 7, 3) := by decide +kernel
theorem dX1_spread_17 : decode cX1_spread 17 = .ok (.if_icmp .ge 49, 3) := by decide +kernel
theorem dX1_spread_20 : decode cX1_spread 20 = .ok (.iconst 0, 1) := by decide +kernel
theorem dX1_spread_21 : decode cX1_spread 21 = .ok (.istore 4, 2) := by decide +kernel
theorem dX1_spread_23 : decode cX1_spread 23 = .ok (.iload 4, 2) := by decide +kernel
theorem dX1_spread_25 : decode cX1_spread 25 = .ok (.aload_n 0, 1) := by decide +kernel
theorem dX1_spread_26 : decode cX1_spread 26 = .ok (.iload_n 3, 1) := by decide +kernel
theorem dX1_spread_27 : decode cX1_spread 27 = .ok (.invokevirtual 58, 3) := by decide +kernel
theorem dX1_spread_30 : decode cX1_spread 30 = .ok (.if_icmp .ge 30, 3) := by decide +kernel
theorem dX1_spread_33 : decode cX1_spread 33 = .ok (.aload_n 1, 1) := by decide +kernel
theorem dX1_spread_34 : decode cX1_spread 34 = .ok (.iload_n 3, 1) := by decide +kernel
theorem dX1_spread_35 : decode cX1_spread 35 = .ok (.baload, 1) := by decide +kernel
theorem dX1_spread_36 : decode cX1_spread 36 = .ok (.ifCond .eq 24, 3) := by decide +kernel
theorem dX1_spread_39 : decode cX1_spread 39 = .ok (.aload_n 1, 1) := by decide +kernel
theorem dX1_spread_40 : decode cX1_spread 40 = .ok (.aload_n 0, 1) := by decide +kernel
theorem dX1_spread_41 : decode cX1_spread 41 = .ok (.getfield 30, 3) := by decide +kernel
theorem dX1_spread_44 : decode cX1_spread 44 = .ok (.bipush 12, 2) := by decide +kernel
theorem dX1_spread_46 : decode cX1_spread 46 = .ok (.iload_n 3, 1) := by decide +kernel
theorem dX1_spread_47 : decode cX1_spread 47 = .ok (.imul, 1) := by decide +kernel
theorem dX1_spread_48 : decode cX1_spread 48 = .ok (.iload 4, 2) := by decide +kernel
theorem dX1_spread_50 : decode cX1_spread 50 = .ok (.iadd, 1) := by decide +kernel
theorem dX1_spread_51 : decode cX1_spread 51 = .ok (.iaload, 1) := by decide +kernel
theorem dX1_spread_52 : decode cX1_spread 52 = .ok (.iconst 1, 1) := by decide +kernel
theorem dX1_spread_53 : decode cX1_spread 53 = .ok (.bastore, 1) := by decide +kernel
theorem dX1_spread_54 : decode cX1_spread 54 = .ok (.iinc 4 1, 3) := by decide +kernel
theorem dX1_spread_57 : decode cX1_spread 57 = .ok (.goto (-34), 3) := by decide +kernel
theorem dX1_spread_60 : decode cX1_spread 60 = .ok (.iinc 3 1, 3) := by decide +kernel
theorem dX1_spread_63 : decode cX1_spread 63 = .ok (.goto (-51), 3) := by decide +kernel
theorem dX1_spread_66 : decode cX1_spread 66 = .ok (.iinc 2 1, 3) := by decide +kernel
theorem dX1_spread_69 : decode cX1_spread 69 = .ok (.goto (-67), 3) := by decide +kernel
theorem dX1_spread_72 : decode cX1_spread 72 = .ok (.return_, 1) := by decide +kernel
theorem dX1_reach_0 : decode cX1_reach 0 = .ok (.iconst 0, 1) := by decide +kernel
theorem dX1_reach_1 : decode cX1_reach 1 = .ok (.istore_n 1, 1) := by decide +kernel
theorem dX1_reach_2 : decode cX1_reach 2 = .ok (.iload_n 1, 1) := by decide +kernel
theorem dX1_reach_3 : decode cX1_reach 3 = .ok (.bipush 60, 2) := by decide +kernel
theorem dX1_reach_5 : decode cX1_reach 5 = .ok (.if_icmp .ge 24, 3) := by decide +kernel
theorem dX1_reach_8 : decode cX1_reach 8 = .ok (.aload_n 0, 1) := by decide +kernel
theorem dX1_reach_9 : decode cX1_reach 9 = .ok (.getfield 33, 3) := by decide +kernel
theorem dX1_reach_12 : decode cX1_reach 12 = .ok (.iload_n 1, 1) := by decide +kernel
theorem dX1_reach_13 : decode cX1_reach 13 = .ok (.iload_n 1, 1) := by decide +kernel
theorem dX1_reach_14 : decode cX1_reach 14 = .ok (.ifCond .ne 7, 3) := by decide +kernel
theorem dX1_reach_17 : decode cX1_reach 17 = .ok (.iconst 1, 1) := by decide +kernel
theorem dX1_reach_18 : decode cX1_reach 18 = .ok (.goto 4, 3) := by decide +kernel
theorem dX1_reach_21 : decode cX1_reach 21 = .ok (.iconst 0, 1) := by decide +kernel
theorem dX1_reach_22 : decode cX1_reach 22 = .ok (.bastore, 1) := by decide +kernel
theorem dX1_reach_23 : decode cX1_reach 23 = .ok (.iinc 1 1, 3) := by decide +kernel
theorem dX1_reach_26 : decode cX1_reach 26 = .ok (.goto (-24), 3) := by decide +kernel
theorem dX1_reach_29 : decode cX1_reach 29 = .ok (.aload_n 0, 1) := by decide +kernel
theorem dX1_reach_30 : decode cX1_reach 30 = .ok (.aload_n 0, 1) := by decide +kernel
theorem dX1_reach_31 : decode cX1_reach 31 = .ok (.getfield 33, 3) := by decide +kernel
theorem dX1_reach_34 : decode cX1_reach 34 = .ok (.invokevirtual 66, 3) := by decide +kernel
theorem dX1_reach_37 : decode cX1_reach 37 = .ok (.return_, 1) := by decide +kernel
theorem dX1_reached_0 : decode cX1_reached 0 = .ok (.aload_n 0, 1) := by decide +kernel
theorem dX1_reached_1 : decode cX1_reached 1 = .ok (.iconst 0, 1) := by decide +kernel
theorem dX1_reached_2 : decode cX1_reached 2 = .ok (.putfield 48, 3) := by decide +kernel
theorem dX1_reached_5 : decode cX1_reached 5 = .ok (.aload_n 0, 1) := by decide +kernel
theorem dX1_reached_6 : decode cX1_reached 6 = .ok (.invokevirtual 70, 3) := by decide +kernel
theorem dX1_reached_9 : decode cX1_reached 9 = .ok (.iconst 0, 1) := by decide +kernel
theorem dX1_reached_10 : decode cX1_reached 10 = .ok (.istore_n 1, 1) := by decide +kernel
theorem dX1_reached_11 : decode cX1_reached 11 = .ok (.iconst 0, 1) := by decide +kernel
theorem dX1_reached_12 : decode cX1_reached 12 = .ok (.istore_n 2, 1) := by decide +kernel
theorem dX1_reached_13 : decode cX1_reached 13 = .ok (.iload_n 2, 1) := by decide +kernel
theorem dX1_reached_14 : decode cX1_reached 14 = .ok (.aload_n 0, 1) := by decide +kernel
theorem dX1_reached_15 : decode cX1_reached 15 = .ok (.getfield 7, 3) := by decide +kernel
theorem dX1_reached_18 : decode cX1_reached 18 = .ok (.if_icmp .ge 21, 3) := by decide +kernel
theorem dX1_reached_21 : decode cX1_reached 21 = .ok (.aload_n 0, 1) := by decide +kernel
theorem dX1_reached_22 : decode cX1_reached 22 = .ok (.getfield 33, 3) := by decide +kernel
theorem dX1_reached_25 : decode cX1_reached 25 = .ok (.iload_n 2, 1) := by decide +kernel
theorem dX1_reached_26 : decode cX1_reached 26 = .ok (.baload, 1) := by decide +kernel
theorem dX1_reached_27 : decode cX1_reached 27 = .ok (.ifCond .eq 6, 3) := by decide +kernel
theorem dX1_reached_30 : decode cX1_reached 30 = .ok (.iinc 1 1, 3) := by decide +kernel
theorem dX1_reached_33 : decode cX1_reached 33 = .ok (.iinc 2 1, 3) := by decide +kernel
theorem dX1_reached_36 : decode cX1_reached 36 = .ok (.goto (-23), 3) := by decide +kernel
theorem dX1_reached_39 : decode cX1_reached 39 = .ok (.iload_n 1, 1) := by decide +kernel
theorem dX1_reached_40 : decode cX1_reached 40 = .ok (.ireturn, 1) := by decide +kernel
theorem dX1_own_0 : decode cX1_own 0 = .ok (.aload_n 0, 1) := by decide +kernel
theorem dX1_own_1 : decode cX1_own 1 = .ok (.getfield 13, 3) := by decide +kernel
theorem dX1_own_4 : decode cX1_own 4 = .ok (.iload_n 1, 1) := by decide +kernel
theorem dX1_own_5 : decode cX1_own 5 = .ok (.baload, 1) := by decide +kernel
theorem dX1_own_6 : decode cX1_own 6 = .ok (.ifCond .eq 51, 3) := by decide +kernel
theorem dX1_own_9 : decode cX1_own 9 = .ok (.aload_n 0, 1) := by decide +kernel
theorem dX1_own_10 : decode cX1_own 10 = .ok (.getfield 24, 3) := by decide +kernel
theorem dX1_own_13 : decode cX1_own 13 = .ok (.iload_n 1, 1) := by decide +kernel
theorem dX1_own_14 : decode cX1_own 14 = .ok (.iaload, 1) := by decide +kernel
theorem dX1_own_15 : decode cX1_own 15 = .ok (.ifCond .eq 12, 3) := by decide +kernel
theorem dX1_own_18 : decode cX1_own 18 = .ok (.aload_n 0, 1) := by decide +kernel
theorem dX1_own_19 : decode cX1_own 19 = .ok (.getfield 27, 3) := by decide +kernel
theorem dX1_own_22 : decode cX1_own 22 = .ok (.iload_n 1, 1) := by decide +kernel
theorem dX1_own_23 : decode cX1_own 23 = .ok (.iaload, 1) := by decide +kernel
theorem dX1_own_24 : decode cX1_own 24 = .ok (.ifCond .ne 7, 3) := by decide +kernel
theorem dX1_own_27 : decode cX1_own 27 = .ok (.iconst 2, 1) := by decide +kernel
theorem dX1_own_28 : decode cX1_own 28 = .ok (.goto 28, 3) := by decide +kernel
theorem dX1_own_31 : decode cX1_own 31 = .ok (.aload_n 0, 1) := by decide +kernel
theorem dX1_own_32 : decode cX1_own 32 = .ok (.getfield 24, 3) := by decide +kernel
theorem dX1_own_35 : decode cX1_own 35 = .ok (.iload_n 1, 1) := by decide +kernel
theorem dX1_own_36 : decode cX1_own 36 = .ok (.iaload, 1) := by decide +kernel
theorem dX1_own_37 : decode cX1_own 37 = .ok (.iconst 1, 1) := by decide +kernel
theorem dX1_own_38 : decode cX1_own 38 = .ok (.if_icmp .le 17, 3) := by decide +kernel
theorem dX1_own_41 : decode cX1_own 41 = .ok (.aload_n 0, 1) := by decide +kernel
theorem dX1_own_42 : decode cX1_own 42 = .ok (.getfield 27, 3) := by decide +kernel
theorem dX1_own_45 : decode cX1_own 45 = .ok (.iload_n 1, 1) := by decide +kernel
theorem dX1_own_46 : decode cX1_own 46 = .ok (.iaload, 1) := by decide +kernel
theorem dX1_own_47 : decode cX1_own 47 = .ok (.iconst 1, 1) := by decide +kernel
theorem dX1_own_48 : decode cX1_own 48 = .ok (.if_icmp .le 7, 3) := by decide +kernel
theorem dX1_own_51 : decode cX1_own 51 = .ok (.iconst 3, 1) := by decide +kernel
theorem dX1_own_52 : decode cX1_own 52 = .ok (.goto 4, 3) := by decide +kernel
theorem dX1_own_55 : decode cX1_own 55 = .ok (.iconst 0, 1) := by decide +kernel
theorem dX1_own_56 : decode cX1_own 56 = .ok (.ireturn, 1) := by decide +kernel
theorem dX1_own_57 : decode cX1_own 57 = .ok (.aload_n 0, 1) := by decide +kernel
theorem dX1_own_58 : decode cX1_own 58 = .ok (.getfield 17, 3) := by decide +kernel
theorem dX1_own_61 : decode cX1_own 61 = .ok (.iload_n 1, 1) := by decide +kernel
theorem dX1_own_62 : decode cX1_own 62 = .ok (.iaload, 1) := by decide +kernel
theorem dX1_own_63 : decode cX1_own 63 = .ok (.ifCond .lt 12, 3) := by decide +kernel
theorem dX1_own_66 : decode cX1_own 66 = .ok (.aload_n 0, 1) := by decide +kernel
theorem dX1_own_67 : decode cX1_own 67 = .ok (.getfield 21, 3) := by decide +kernel
theorem dX1_own_70 : decode cX1_own 70 = .ok (.iload_n 1, 1) := by decide +kernel
theorem dX1_own_71 : decode cX1_own 71 = .ok (.iaload, 1) := by decide +kernel
theorem dX1_own_72 : decode cX1_own 72 = .ok (.ifCond .ge 7, 3) := by decide +kernel
theorem dX1_own_75 : decode cX1_own 75 = .ok (.iconst 4, 1) := by decide +kernel
theorem dX1_own_76 : decode cX1_own 76 = .ok (.goto 26, 3) := by decide +kernel
theorem dX1_own_79 : decode cX1_own 79 = .ok (.aload_n 0, 1) := by decide +kernel
theorem dX1_own_80 : decode cX1_own 80 = .ok (.getfield 17, 3) := by decide +kernel
theorem dX1_own_83 : decode cX1_own 83 = .ok (.iload_n 1, 1) := by decide +kernel
theorem dX1_own_84 : decode cX1_own 84 = .ok (.iaload, 1) := by decide +kernel
theorem dX1_own_85 : decode cX1_own 85 = .ok (.aload_n 0, 1) := by decide +kernel
theorem dX1_own_86 : decode cX1_own 86 = .ok (.getfield 21, 3) := by decide +kernel
theorem dX1_own_89 : decode cX1_own 89 = .ok (.iload_n 1, 1) := by decide +kernel
theorem dX1_own_90 : decode cX1_own 90 = .ok (.iaload, 1) := by decide +kernel
theorem dX1_own_91 : decode cX1_own 91 = .ok (.iadd, 1) := by decide +kernel
theorem dX1_own_92 : decode cX1_own 92 = .ok (.bipush 100, 2) := by decide +kernel
theorem dX1_own_94 : decode cX1_own 94 = .ok (.if_icmp .eq 7, 3) := by decide +kernel
theorem dX1_own_97 : decode cX1_own 97 = .ok (.iconst 5, 1) := by decide +kernel
theorem dX1_own_98 : decode cX1_own 98 = .ok (.goto 4, 3) := by decide +kernel
theorem dX1_own_101 : decode cX1_own 101 = .ok (.iconst 0, 1) := by decide +kernel
theorem dX1_own_102 : decode cX1_own 102 = .ok (.ireturn, 1) := by decide +kernel
theorem dX1_comesAgain_0 : decode cX1_comesAgain 0 = .ok (.iconst 0, 1) := by decide +kernel
theorem dX1_comesAgain_1 : decode cX1_comesAgain 1 = .ok (.istore_n 2, 1) := by decide +kernel
theorem dX1_comesAgain_2 : decode cX1_comesAgain 2 = .ok (.iload_n 2, 1) := by decide +kernel
theorem dX1_comesAgain_3 : decode cX1_comesAgain 3 = .ok (.bipush 60, 2) := by decide +kernel
theorem dX1_comesAgain_5 : decode cX1_comesAgain 5 = .ok (.if_icmp .ge 16, 3) := by decide +kernel
theorem dX1_comesAgain_8 : decode cX1_comesAgain 8 = .ok (.aload_n 0, 1) := by decide +kernel
theorem dX1_comesAgain_9 : decode cX1_comesAgain 9 = .ok (.getfield 36, 3) := by decide +kernel
theorem dX1_comesAgain_12 : decode cX1_comesAgain 12 = .ok (.iload_n 2, 1) := by decide +kernel
theorem dX1_comesAgain_13 : decode cX1_comesAgain 13 = .ok (.iconst 0, 1) := by decide +kernel
theorem dX1_comesAgain_14 : decode cX1_comesAgain 14 = .ok (.bastore, 1) := by decide +kernel
theorem dX1_comesAgain_15 : decode cX1_comesAgain 15 = .ok (.iinc 2 1, 3) := by decide +kernel
theorem dX1_comesAgain_18 : decode cX1_comesAgain 18 = .ok (.goto (-16), 3) := by decide +kernel
theorem dX1_comesAgain_21 : decode cX1_comesAgain 21 = .ok (.iconst 0, 1) := by decide +kernel
theorem dX1_comesAgain_22 : decode cX1_comesAgain 22 = .ok (.istore_n 2, 1) := by decide +kernel
theorem dX1_comesAgain_23 : decode cX1_comesAgain 23 = .ok (.iload_n 2, 1) := by decide +kernel
theorem dX1_comesAgain_24 : decode cX1_comesAgain 24 = .ok (.aload_n 0, 1) := by decide +kernel
theorem dX1_comesAgain_25 : decode cX1_comesAgain 25 = .ok (.iload_n 1, 1) := by decide +kernel
theorem dX1_comesAgain_26 : decode cX1_comesAgain 26 = .ok (.invokevirtual 58, 3) := by decide +kernel
theorem dX1_comesAgain_29 : decode cX1_comesAgain 29 = .ok (.if_icmp .ge 26, 3) := by decide +kernel
theorem dX1_comesAgain_32 : decode cX1_comesAgain 32 = .ok (.aload_n 0, 1) := by decide +kernel
theorem dX1_comesAgain_33 : decode cX1_comesAgain 33 = .ok (.getfield 36, 3) := by decide +kernel
theorem dX1_comesAgain_36 : decode cX1_comesAgain 36 = .ok (.aload_n 0, 1) := by decide +kernel
theorem dX1_comesAgain_37 : decode cX1_comesAgain 37 = .ok (.getfield 30, 3) := by decide +kernel
theorem dX1_comesAgain_40 : decode cX1_comesAgain 40 = .ok (.bipush 12, 2) := by decide +kernel
theorem dX1_comesAgain_42 : decode cX1_comesAgain 42 = .ok (.iload_n 1, 1) := by decide +kernel
theorem dX1_comesAgain_43 : decode cX1_comesAgain 43 = .ok (.imul, 1) := by decide +kernel
theorem dX1_comesAgain_44 : decode cX1_comesAgain 44 = .ok (.iload_n 2, 1) := by decide +kernel
theorem dX1_comesAgain_45 : decode cX1_comesAgain 45 = .ok (.iadd, 1) := by decide +kernel
theorem dX1_comesAgain_46 : decode cX1_comesAgain 46 = .ok (.iaload, 1) := by decide +kernel
theorem dX1_comesAgain_47 : decode cX1_comesAgain 47 = .ok (.iconst 1, 1) := by decide +kernel
theorem dX1_comesAgain_48 : decode cX1_comesAgain 48 = .ok (.bastore, 1) := by decide +kernel
theorem dX1_comesAgain_49 : decode cX1_comesAgain 49 = .ok (.iinc 2 1, 3) := by decide +kernel
theorem dX1_comesAgain_52 : decode cX1_comesAgain 52 = .ok (.goto (-29), 3) := by decide +kernel
theorem dX1_comesAgain_55 : decode cX1_comesAgain 55 = .ok (.aload_n 0, 1) := by decide +kernel
theorem dX1_comesAgain_56 : decode cX1_comesAgain 56 = .ok (.aload_n 0, 1) := by decide +kernel
theorem dX1_comesAgain_57 : decode cX1_comesAgain 57 = .ok (.getfield 36, 3) := by decide +kernel
theorem dX1_comesAgain_60 : decode cX1_comesAgain 60 = .ok (.invokevirtual 66, 3) := by decide +kernel
theorem dX1_comesAgain_63 : decode cX1_comesAgain 63 = .ok (.aload_n 0, 1) := by decide +kernel
theorem dX1_comesAgain_64 : decode cX1_comesAgain 64 = .ok (.getfield 36, 3) := by decide +kernel
theorem dX1_comesAgain_67 : decode cX1_comesAgain 67 = .ok (.iload_n 1, 1) := by decide +kernel
theorem dX1_comesAgain_68 : decode cX1_comesAgain 68 = .ok (.baload, 1) := by decide +kernel
theorem dX1_comesAgain_69 : decode cX1_comesAgain 69 = .ok (.ireturn, 1) := by decide +kernel
theorem dX1_defective_0 : decode cX1_defective 0 = .ok (.aload_n 0, 1) := by decide +kernel
theorem dX1_defective_1 : decode cX1_defective 1 = .ok (.invokevirtual 70, 3) := by decide +kernel
theorem dX1_defective_4 : decode cX1_defective 4 = .ok (.iconst 0, 1) := by decide +kernel
theorem dX1_defective_5 : decode cX1_defective 5 = .ok (.istore_n 1, 1) := by decide +kernel
theorem dX1_defective_6 : decode cX1_defective 6 = .ok (.iload_n 1, 1) := by decide +kernel
theorem dX1_defective_7 : decode cX1_defective 7 = .ok (.aload_n 0, 1) := by decide +kernel
theorem dX1_defective_8 : decode cX1_defective 8 = .ok (.getfield 7, 3) := by decide +kernel
theorem dX1_defective_11 : decode cX1_defective 11 = .ok (.if_icmp .ge 28, 3) := by decide +kernel
theorem dX1_defective_14 : decode cX1_defective 14 = .ok (.aload_n 0, 1) := by decide +kernel
theorem dX1_defective_15 : decode cX1_defective 15 = .ok (.getfield 33, 3) := by decide +kernel
theorem dX1_defective_18 : decode cX1_defective 18 = .ok (.iload_n 1, 1) := by decide +kernel
theorem dX1_defective_19 : decode cX1_defective 19 = .ok (.baload, 1) := by decide +kernel
theorem dX1_defective_20 : decode cX1_defective 20 = .ok (.ifCond .eq 13, 3) := by decide +kernel
theorem dX1_defective_23 : decode cX1_defective 23 = .ok (.aload_n 0, 1) := by decide +kernel
theorem dX1_defective_24 : decode cX1_defective 24 = .ok (.iload_n 1, 1) := by decide +kernel
theorem dX1_defective_25 : decode cX1_defective 25 = .ok (.invokevirtual 73, 3) := by decide +kernel
theorem dX1_defective_28 : decode cX1_defective 28 = .ok (.ifCond .eq 5, 3) := by decide +kernel
theorem dX1_defective_31 : decode cX1_defective 31 = .ok (.iload_n 1, 1) := by decide +kernel
theorem dX1_defective_32 : decode cX1_defective 32 = .ok (.ireturn, 1) := by decide +kernel
theorem dX1_defective_33 : decode cX1_defective 33 = .ok (.iinc 1 1, 3) := by decide +kernel
theorem dX1_defective_36 : decode cX1_defective 36 = .ok (.goto (-30), 3) := by decide +kernel
theorem dX1_defective_39 : decode cX1_defective 39 = .ok (.iconst 0, 1) := by decide +kernel
theorem dX1_defective_40 : decode cX1_defective 40 = .ok (.istore_n 1, 1) := by decide +kernel
theorem dX1_defective_41 : decode cX1_defective 41 = .ok (.iload_n 1, 1) := by decide +kernel
theorem dX1_defective_42 : decode cX1_defective 42 = .ok (.aload_n 0, 1) := by decide +kernel
theorem dX1_defective_43 : decode cX1_defective 43 = .ok (.getfield 7, 3) := by decide +kernel
theorem dX1_defective_46 : decode cX1_defective 46 = .ok (.if_icmp .ge 28, 3) := by decide +kernel
theorem dX1_defective_49 : decode cX1_defective 49 = .ok (.aload_n 0, 1) := by decide +kernel
theorem dX1_defective_50 : decode cX1_defective 50 = .ok (.getfield 33, 3) := by decide +kernel
theorem dX1_defective_53 : decode cX1_defective 53 = .ok (.iload_n 1, 1) := by decide +kernel
theorem dX1_defective_54 : decode cX1_defective 54 = .ok (.baload, 1) := by decide +kernel
theorem dX1_defective_55 : decode cX1_defective 55 = .ok (.ifCond .eq 13, 3) := by decide +kernel
theorem dX1_defective_58 : decode cX1_defective 58 = .ok (.aload_n 0, 1) := by decide +kernel
theorem dX1_defective_59 : decode cX1_defective 59 = .ok (.iload_n 1, 1) := by decide +kernel
theorem dX1_defective_60 : decode cX1_defective 60 = .ok (.invokevirtual 76, 3) := by decide +kernel
theorem dX1_defective_63 : decode cX1_defective 63 = .ok (.ifCond .eq 5, 3) := by decide +kernel
theorem dX1_defective_66 : decode cX1_defective 66 = .ok (.iload_n 1, 1) := by decide +kernel
theorem dX1_defective_67 : decode cX1_defective 67 = .ok (.ireturn, 1) := by decide +kernel
theorem dX1_defective_68 : decode cX1_defective 68 = .ok (.iinc 1 1, 3) := by decide +kernel
theorem dX1_defective_71 : decode cX1_defective 71 = .ok (.goto (-30), 3) := by decide +kernel
theorem dX1_defective_74 : decode cX1_defective 74 = .ok (.iconst (-1), 1) := by decide +kernel
theorem dX1_defective_75 : decode cX1_defective 75 = .ok (.ireturn, 1) := by decide +kernel
theorem dX1_defect_0 : decode cX1_defect 0 = .ok (.aload_n 0, 1) := by decide +kernel
theorem dX1_defect_1 : decode cX1_defect 1 = .ok (.iload_n 1, 1) := by decide +kernel
theorem dX1_defect_2 : decode cX1_defect 2 = .ok (.ifCond .eq 8, 3) := by decide +kernel
theorem dX1_defect_5 : decode cX1_defect 5 = .ok (.iload_n 1, 1) := by decide +kernel
theorem dX1_defect_6 : decode cX1_defect 6 = .ok (.iconst 1, 1) := by decide +kernel
theorem dX1_defect_7 : decode cX1_defect 7 = .ok (.if_icmp .ne 7, 3) := by decide +kernel
theorem dX1_defect_10 : decode cX1_defect 10 = .ok (.iconst 0, 1) := by decide +kernel
theorem dX1_defect_11 : decode cX1_defect 11 = .ok (.goto 4, 3) := by decide +kernel
theorem dX1_defect_14 : decode cX1_defect 14 = .ok (.iconst 1, 1) := by decide +kernel
theorem dX1_defect_15 : decode cX1_defect 15 = .ok (.putfield 48, 3) := by decide +kernel
theorem dX1_defect_18 : decode cX1_defect 18 = .ok (.aload_n 0, 1) := by decide +kernel
theorem dX1_defect_19 : decode cX1_defect 19 = .ok (.getfield 48, 3) := by decide +kernel
theorem dX1_defect_22 : decode cX1_defect 22 = .ok (.ifCond .eq 5, 3) := by decide +kernel
theorem dX1_defect_25 : decode cX1_defect 25 = .ok (.iconst 0, 1) := by decide +kernel
theorem dX1_defect_26 : decode cX1_defect 26 = .ok (.ireturn, 1) := by decide +kernel
theorem dX1_defect_27 : decode cX1_defect 27 = .ok (.aload_n 0, 1) := by decide +kernel
theorem dX1_defect_28 : decode cX1_defect 28 = .ok (.invokevirtual 79, 3) := by decide +kernel
theorem dX1_defect_31 : decode cX1_defect 31 = .ok (.istore_n 2, 1) := by decide +kernel
theorem dX1_defect_32 : decode cX1_defect 32 = .ok (.iload_n 1, 1) := by decide +kernel
theorem dX1_defect_33 : decode cX1_defect 33 = .ok (.iconst 1, 1) := by decide +kernel
theorem dX1_defect_34 : decode cX1_defect 34 = .ok (.if_icmp .ne 7, 3) := by decide +kernel
theorem dX1_defect_37 : decode cX1_defect 37 = .ok (.iload_n 2, 1) := by decide +kernel
theorem dX1_defect_38 : decode cX1_defect 38 = .ok (.goto 30, 3) := by decide +kernel
theorem dX1_defect_41 : decode cX1_defect 41 = .ok (.iload_n 2, 1) := by decide +kernel
theorem dX1_defect_42 : decode cX1_defect 42 = .ok (.iconst (-1), 1) := by decide +kernel
theorem dX1_defect_43 : decode cX1_defect 43 = .ok (.if_icmp .ne 7, 3) := by decide +kernel
theorem dX1_defect_46 : decode cX1_defect 46 = .ok (.iconst 0, 1) := by decide +kernel
theorem dX1_defect_47 : decode cX1_defect 47 = .ok (.goto 21, 3) := by decide +kernel
theorem dX1_defect_50 : decode cX1_defect 50 = .ok (.aload_n 0, 1) := by decide +kernel
theorem dX1_defect_51 : decode cX1_defect 51 = .ok (.iload_n 2, 1) := by decide +kernel
theorem dX1_defect_52 : decode cX1_defect 52 = .ok (.invokevirtual 73, 3) := by decide +kernel
theorem dX1_defect_55 : decode cX1_defect 55 = .ok (.ifCond .eq 11, 3) := by decide +kernel
theorem dX1_defect_58 : decode cX1_defect 58 = .ok (.aload_n 0, 1) := by decide +kernel
theorem dX1_defect_59 : decode cX1_defect 59 = .ok (.iload_n 2, 1) := by decide +kernel
theorem dX1_defect_60 : decode cX1_defect 60 = .ok (.invokevirtual 73, 3) := by decide +kernel
theorem dX1_defect_63 : decode cX1_defect 63 = .ok (.goto 5, 3) := by decide +kernel
theorem dX1_defect_66 : decode cX1_defect 66 = .ok (.bipush 6, 2) := by decide +kernel
theorem dX1_defect_68 : decode cX1_defect 68 = .ok (.ireturn, 1) := by decide +kernel
theorem dX1_learn_0 : decode cX1_learn 0 = .ok (.aload_n 0, 1) := by decide +kernel
theorem dX1_learn_1 : decode cX1_learn 1 = .ok (.getfield 42, 3) := by decide +kernel
theorem dX1_learn_4 : decode cX1_learn 4 = .ok (.iload_n 1, 1) := by decide +kernel
theorem dX1_learn_5 : decode cX1_learn 5 = .ok (.aload_n 0, 1) := by decide +kernel
theorem dX1_learn_6 : decode cX1_learn 6 = .ok (.getfield 17, 3) := by decide +kernel
theorem dX1_learn_9 : decode cX1_learn 9 = .ok (.iload_n 1, 1) := by decide +kernel
theorem dX1_learn_10 : decode cX1_learn 10 = .ok (.iaload, 1) := by decide +kernel
theorem dX1_learn_11 : decode cX1_learn 11 = .ok (.iastore, 1) := by decide +kernel
theorem dX1_learn_12 : decode cX1_learn 12 = .ok (.aload_n 0, 1) := by decide +kernel
theorem dX1_learn_13 : decode cX1_learn 13 = .ok (.getfield 45, 3) := by decide +kernel
theorem dX1_learn_16 : decode cX1_learn 16 = .ok (.iload_n 1, 1) := by decide +kernel
theorem dX1_learn_17 : decode cX1_learn 17 = .ok (.iconst 0, 1) := by decide +kernel
theorem dX1_learn_18 : decode cX1_learn 18 = .ok (.iastore, 1) := by decide +kernel
theorem dX1_learn_19 : decode cX1_learn 19 = .ok (.aload_n 0, 1) := by decide +kernel
theorem dX1_learn_20 : decode cX1_learn 20 = .ok (.getfield 39, 3) := by decide +kernel
theorem dX1_learn_23 : decode cX1_learn 23 = .ok (.iload_n 1, 1) := by decide +kernel
theorem dX1_learn_24 : decode cX1_learn 24 = .ok (.iconst 1, 1) := by decide +kernel
theorem dX1_learn_25 : decode cX1_learn 25 = .ok (.bastore, 1) := by decide +kernel
theorem dX1_learn_26 : decode cX1_learn 26 = .ok (.iconst 0, 1) := by decide +kernel
theorem dX1_learn_27 : decode cX1_learn 27 = .ok (.istore_n 2, 1) := by decide +kernel
theorem dX1_learn_28 : decode cX1_learn 28 = .ok (.iload_n 2, 1) := by decide +kernel
theorem dX1_learn_29 : decode cX1_learn 29 = .ok (.aload_n 0, 1) := by decide +kernel
theorem dX1_learn_30 : decode cX1_learn 30 = .ok (.iload_n 1, 1) := by decide +kernel
theorem dX1_learn_31 : decode cX1_learn 31 = .ok (.invokevirtual 58, 3) := by decide +kernel
theorem dX1_learn_34 : decode cX1_learn 34 = .ok (.if_icmp .ge 35, 3) := by decide +kernel
theorem dX1_learn_37 : decode cX1_learn 37 = .ok (.aload_n 0, 1) := by decide +kernel
theorem dX1_learn_38 : decode cX1_learn 38 = .ok (.getfield 39, 3) := by decide +kernel
theorem dX1_learn_41 : decode cX1_learn 41 = .ok (.aload_n 0, 1) := by decide +kernel
theorem dX1_learn_42 : decode cX1_learn 42 = .ok (.getfield 30, 3) := by decide +kernel
theorem dX1_learn_45 : decode cX1_learn 45 = .ok (.bipush 12, 2) := by decide +kernel
theorem dX1_learn_47 : decode cX1_learn 47 = .ok (.iload_n 1, 1) := by decide +kernel
theorem dX1_learn_48 : decode cX1_learn 48 = .ok (.imul, 1) := by decide +kernel
theorem dX1_learn_49 : decode cX1_learn 49 = .ok (.iload_n 2, 1) := by decide +kernel
theorem dX1_learn_50 : decode cX1_learn 50 = .ok (.iadd, 1) := by decide +kernel
theorem dX1_learn_51 : decode cX1_learn 51 = .ok (.iaload, 1) := by decide +kernel
theorem dX1_learn_52 : decode cX1_learn 52 = .ok (.baload, 1) := by decide +kernel
theorem dX1_learn_53 : decode cX1_learn 53 = .ok (.ifCond .ne 10, 3) := by decide +kernel
theorem dX1_learn_56 : decode cX1_learn 56 = .ok (.aload_n 0, 1) := by decide +kernel
theorem dX1_learn_57 : decode cX1_learn 57 = .ok (.getfield 39, 3) := by decide +kernel
theorem dX1_learn_60 : decode cX1_learn 60 = .ok (.iload_n 1, 1) := by decide +kernel
theorem dX1_learn_61 : decode cX1_learn 61 = .ok (.iconst 0, 1) := by decide +kernel
theorem dX1_learn_62 : decode cX1_learn 62 = .ok (.bastore, 1) := by decide +kernel
theorem dX1_learn_63 : decode cX1_learn 63 = .ok (.iinc 2 1, 3) := by decide +kernel
theorem dX1_learn_66 : decode cX1_learn 66 = .ok (.goto (-38), 3) := by decide +kernel
theorem dX1_learn_69 : decode cX1_learn 69 = .ok (.iconst 0, 1) := by decide +kernel
theorem dX1_learn_70 : decode cX1_learn 70 = .ok (.istore_n 2, 1) := by decide +kernel
theorem dX1_learn_71 : decode cX1_learn 71 = .ok (.iload_n 2, 1) := by decide +kernel
theorem dX1_learn_72 : decode cX1_learn 72 = .ok (.aload_n 0, 1) := by decide +kernel
theorem dX1_learn_73 : decode cX1_learn 73 = .ok (.iload_n 1, 1) := by decide +kernel
theorem dX1_learn_74 : decode cX1_learn 74 = .ok (.invokevirtual 58, 3) := by decide +kernel
theorem dX1_learn_77 : decode cX1_learn 77 = .ok (.if_icmp .ge 137, 3) := by decide +kernel
theorem dX1_learn_80 : decode cX1_learn 80 = .ok (.aload_n 0, 1) := by decide +kernel
theorem dX1_learn_81 : decode cX1_learn 81 = .ok (.getfield 39, 3) := by decide +kernel
theorem dX1_learn_84 : decode cX1_learn 84 = .ok (.iload_n 1, 1) := by decide +kernel
theorem dX1_learn_85 : decode cX1_learn 85 = .ok (.baload, 1) := by decide +kernel
theorem dX1_learn_86 : decode cX1_learn 86 = .ok (.ifCond .eq 128, 3) := by decide +kernel
theorem dX1_learn_89 : decode cX1_learn 89 = .ok (.aload_n 0, 1) := by decide +kernel
theorem dX1_learn_90 : decode cX1_learn 90 = .ok (.getfield 30, 3) := by decide +kernel
theorem dX1_learn_93 : decode cX1_learn 93 = .ok (.bipush 12, 2) := by decide +kernel
theorem dX1_learn_95 : decode cX1_learn 95 = .ok (.iload_n 1, 1) := by decide +kernel
theorem dX1_learn_96 : decode cX1_learn 96 = .ok (.imul, 1) := by decide +kernel
theorem dX1_learn_97 : decode cX1_learn 97 = .ok (.iload_n 2, 1) := by decide +kernel
theorem dX1_learn_98 : decode cX1_learn 98 = .ok (.iadd, 1) := by decide +kernel
theorem dX1_learn_99 : decode cX1_learn 99 = .ok (.iaload, 1) := by decide +kernel
theorem dX1_learn_100 : decode cX1_learn 100 = .ok (.istore_n 3, 1) := by decide +kernel
theorem dX1_learn_101 : decode cX1_learn 101 = .ok (.aload_n 0, 1) := by decide +kernel
theorem dX1_learn_102 : decode cX1_learn 102 = .ok (.getfield 24, 3) := by decide +kernel
theorem dX1_learn_105 : decode cX1_learn 105 = .ok (.iload_n 1, 1) := by decide +kernel
theorem dX1_learn_106 : decode cX1_learn 106 = .ok (.iaload, 1) := by decide +kernel
theorem dX1_learn_107 : decode cX1_learn 107 = .ok (.iconst 1, 1) := by decide +kernel
theorem dX1_learn_108 : decode cX1_learn 108 = .ok (.if_icmp .le 26, 3) := by decide +kernel
theorem dX1_learn_111 : decode cX1_learn 111 = .ok (.aload_n 0, 1) := by decide +kernel
theorem dX1_learn_112 : decode cX1_learn 112 = .ok (.getfield 42, 3) := by decide +kernel
theorem dX1_learn_115 : decode cX1_learn 115 = .ok (.iload_n 3, 1) := by decide +kernel
theorem dX1_learn_116 : decode cX1_learn 116 = .ok (.iaload, 1) := by decide +kernel
theorem dX1_learn_117 : decode cX1_learn 117 = .ok (.aload_n 0, 1) := by decide +kernel
theorem dX1_learn_118 : decode cX1_learn 118 = .ok (.getfield 42, 3) := by decide +kernel
theorem dX1_learn_121 : decode cX1_learn 121 = .ok (.iload_n 1, 1) := by decide +kernel
theorem dX1_learn_122 : decode cX1_learn 122 = .ok (.iaload, 1) := by decide +kernel
theorem dX1_learn_123 : decode cX1_learn 123 = .ok (.if_icmp .le 7, 3) := by decide +kernel
theorem dX1_learn_126 : decode cX1_learn 126 = .ok (.iconst 1, 1) := by decide +kernel
theorem dX1_learn_127 : decode cX1_learn 127 = .ok (.goto 27, 3) := by decide +kernel
theorem dX1_learn_130 : decode cX1_learn 130 = .ok (.iconst 0, 1) := by decide +kernel
theorem dX1_learn_131 : decode cX1_learn 131 = .ok (.goto 23, 3) := by decide +kernel
theorem dX1_learn_134 : decode cX1_learn 134 = .ok (.aload_n 0, 1) := by decide +kernel
theorem dX1_learn_135 : decode cX1_learn 135 = .ok (.getfield 42, 3) := by decide +kernel
theorem dX1_learn_138 : decode cX1_learn 138 = .ok (.iload_n 3, 1) := by decide +kernel
theorem dX1_learn_139 : decode cX1_learn 139 = .ok (.iaload, 1) := by decide +kernel
theorem dX1_learn_140 : decode cX1_learn 140 = .ok (.aload_n 0, 1) := by decide +kernel
theorem dX1_learn_141 : decode cX1_learn 141 = .ok (.getfield 42, 3) := by decide +kernel
theorem dX1_learn_144 : decode cX1_learn 144 = .ok (.iload_n 1, 1) := by decide +kernel
theorem dX1_learn_145 : decode cX1_learn 145 = .ok (.iaload, 1) := by decide +kernel
theorem dX1_learn_146 : decode cX1_learn 146 = .ok (.if_icmp .ge 7, 3) := by decide +kernel
theorem dX1_learn_149 : decode cX1_learn 149 = .ok (.iconst 1, 1) := by decide +kernel
theorem dX1_learn_150 : decode cX1_learn 150 = .ok (.goto 4, 3) := by decide +kernel
theorem dX1_learn_153 : decode cX1_learn 153 = .ok (.iconst 0, 1) := by decide +kernel
theorem dX1_learn_154 : decode cX1_learn 154 = .ok (.istore 4, 2) := by decide +kernel
theorem dX1_learn_156 : decode cX1_learn 156 = .ok (.iload_n 2, 1) := by decide +kernel
theorem dX1_learn_157 : decode cX1_learn 157 = .ok (.ifCond .eq 8, 3) := by decide +kernel
theorem dX1_learn_160 : decode cX1_learn 160 = .ok (.iload 4, 2) := by decide +kernel
theorem dX1_learn_162 : decode cX1_learn 162 = .ok (.ifCond .eq 15, 3) := by decide +kernel
theorem dX1_learn_165 : decode cX1_learn 165 = .ok (.aload_n 0, 1) := by decide +kernel
theorem dX1_learn_166 : decode cX1_learn 166 = .ok (.getfield 42, 3) := by decide +kernel
theorem dX1_learn_169 : decode cX1_learn 169 = .ok (.iload_n 1, 1) := by decide +kernel
theorem dX1_learn_170 : decode cX1_learn 170 = .ok (.aload_n 0, 1) := by decide +kernel
theorem dX1_learn_171 : decode cX1_learn 171 = .ok (.getfield 42, 3) := by decide +kernel
theorem dX1_learn_174 : decode cX1_learn 174 = .ok (.iload_n 3, 1) := by decide +kernel
theorem dX1_learn_175 : decode cX1_learn 175 = .ok (.iaload, 1) := by decide +kernel
theorem dX1_learn_176 : decode cX1_learn 176 = .ok (.iastore, 1) := by decide +kernel
theorem dX1_learn_177 : decode cX1_learn 177 = .ok (.aload_n 0, 1) := by decide +kernel
theorem dX1_learn_178 : decode cX1_learn 178 = .ok (.getfield 45, 3) := by decide +kernel
theorem dX1_learn_181 : decode cX1_learn 181 = .ok (.iload_n 3, 1) := by decide +kernel
theorem dX1_learn_182 : decode cX1_learn 182 = .ok (.iaload, 1) := by decide +kernel
theorem dX1_learn_183 : decode cX1_learn 183 = .ok (.iconst 1, 1) := by decide +kernel
theorem dX1_learn_184 : decode cX1_learn 184 = .ok (.iadd, 1) := by decide +kernel
theorem dX1_learn_185 : decode cX1_learn 185 = .ok (.aload_n 0, 1) := by decide +kernel
theorem dX1_learn_186 : decode cX1_learn 186 = .ok (.getfield 45, 3) := by decide +kernel
theorem dX1_learn_189 : decode cX1_learn 189 = .ok (.iload_n 1, 1) := by decide +kernel
theorem dX1_learn_190 : decode cX1_learn 190 = .ok (.iaload, 1) := by decide +kernel
theorem dX1_learn_191 : decode cX1_learn 191 = .ok (.if_icmp .le 17, 3) := by decide +kernel
theorem dX1_learn_194 : decode cX1_learn 194 = .ok (.aload_n 0, 1) := by decide +kernel
theorem dX1_learn_195 : decode cX1_learn 195 = .ok (.getfield 45, 3) := by decide +kernel
theorem dX1_learn_198 : decode cX1_learn 198 = .ok (.iload_n 1, 1) := by decide +kernel
theorem dX1_learn_199 : decode cX1_learn 199 = .ok (.aload_n 0, 1) := by decide +kernel
theorem dX1_learn_200 : decode cX1_learn 200 = .ok (.getfield 45, 3) := by decide +kernel
theorem dX1_learn_203 : decode cX1_learn 203 = .ok (.iload_n 3, 1) := by decide +kernel
theorem dX1_learn_204 : decode cX1_learn 204 = .ok (.iaload, 1) := by decide +kernel
theorem dX1_learn_205 : decode cX1_learn 205 = .ok (.iconst 1, 1) := by decide +kernel
theorem dX1_learn_206 : decode cX1_learn 206 = .ok (.iadd, 1) := by decide +kernel
theorem dX1_learn_207 : decode cX1_learn 207 = .ok (.iastore, 1) := by decide +kernel
theorem dX1_learn_208 : decode cX1_learn 208 = .ok (.iinc 2 1, 3) := by decide +kernel
theorem dX1_learn_211 : decode cX1_learn 211 = .ok (.goto (-140), 3) := by decide +kernel
theorem dX1_learn_214 : decode cX1_learn 214 = .ok (.return_, 1) := by decide +kernel
theorem dX1_asked_0 : decode cX1_asked 0 = .ok (.aload_n 0, 1) := by decide +kernel
theorem dX1_asked_1 : decode cX1_asked 1 = .ok (.aload_n 0, 1) := by decide +kernel
theorem dX1_asked_2 : decode cX1_asked 2 = .ok (.invokevirtual 79, 3) := by decide +kernel
theorem dX1_asked_5 : decode cX1_asked 5 = .ok (.iconst (-1), 1) := by decide +kernel
theorem dX1_asked_6 : decode cX1_asked 6 = .ok (.if_icmp .eq 7, 3) := by decide +kernel
theorem dX1_asked_9 : decode cX1_asked 9 = .ok (.iconst 1, 1) := by decide +kernel
theorem dX1_asked_10 : decode cX1_asked 10 = .ok (.goto 25, 3) := by decide +kernel
theorem dX1_asked_13 : decode cX1_asked 13 = .ok (.aload_n 0, 1) := by decide +kernel
theorem dX1_asked_14 : decode cX1_asked 14 = .ok (.iload_n 1, 1) := by decide +kernel
theorem dX1_asked_15 : decode cX1_asked 15 = .ok (.invokevirtual 51, 3) := by decide +kernel
theorem dX1_asked_18 : decode cX1_asked 18 = .ok (.ifCond .eq 12, 3) := by decide +kernel
theorem dX1_asked_21 : decode cX1_asked 21 = .ok (.aload_n 0, 1) := by decide +kernel
theorem dX1_asked_22 : decode cX1_asked 22 = .ok (.getfield 33, 3) := by decide +kernel
theorem dX1_asked_25 : decode cX1_asked 25 = .ok (.iload_n 1, 1) := by decide +kernel
theorem dX1_asked_26 : decode cX1_asked 26 = .ok (.baload, 1) := by decide +kernel
theorem dX1_asked_27 : decode cX1_asked 27 = .ok (.ifCond .ne 7, 3) := by decide +kernel
theorem dX1_asked_30 : decode cX1_asked 30 = .ok (.iconst 2, 1) := by decide +kernel
theorem dX1_asked_31 : decode cX1_asked 31 = .ok (.goto 4, 3) := by decide +kernel
theorem dX1_asked_34 : decode cX1_asked 34 = .ok (.iconst 0, 1) := by decide +kernel
theorem dX1_asked_35 : decode cX1_asked 35 = .ok (.putfield 48, 3) := by decide +kernel
theorem dX1_asked_38 : decode cX1_asked 38 = .ok (.aload_n 0, 1) := by decide +kernel
theorem dX1_asked_39 : decode cX1_asked 39 = .ok (.getfield 48, 3) := by decide +kernel
theorem dX1_asked_42 : decode cX1_asked 42 = .ok (.ifCond .eq 5, 3) := by decide +kernel
theorem dX1_asked_45 : decode cX1_asked 45 = .ok (.iconst 0, 1) := by decide +kernel
theorem dX1_asked_46 : decode cX1_asked 46 = .ok (.ireturn, 1) := by decide +kernel
theorem dX1_asked_47 : decode cX1_asked 47 = .ok (.iconst 0, 1) := by decide +kernel
theorem dX1_asked_48 : decode cX1_asked 48 = .ok (.istore_n 2, 1) := by decide +kernel
theorem dX1_asked_49 : decode cX1_asked 49 = .ok (.iload_n 2, 1) := by decide +kernel
theorem dX1_asked_50 : decode cX1_asked 50 = .ok (.aload_n 0, 1) := by decide +kernel
theorem dX1_asked_51 : decode cX1_asked 51 = .ok (.getfield 7, 3) := by decide +kernel
theorem dX1_asked_54 : decode cX1_asked 54 = .ok (.if_icmp .ge 16, 3) := by decide +kernel
theorem dX1_asked_57 : decode cX1_asked 57 = .ok (.aload_n 0, 1) := by decide +kernel
theorem dX1_asked_58 : decode cX1_asked 58 = .ok (.getfield 39, 3) := by decide +kernel
theorem dX1_asked_61 : decode cX1_asked 61 = .ok (.iload_n 2, 1) := by decide +kernel
theorem dX1_asked_62 : decode cX1_asked 62 = .ok (.iconst 0, 1) := by decide +kernel
theorem dX1_asked_63 : decode cX1_asked 63 = .ok (.bastore, 1) := by decide +kernel
theorem dX1_asked_64 : decode cX1_asked 64 = .ok (.iinc 2 1, 3) := by decide +kernel
theorem dX1_asked_67 : decode cX1_asked 67 = .ok (.goto (-18), 3) := by decide +kernel
theorem dX1_asked_70 : decode cX1_asked 70 = .ok (.iconst 0, 1) := by decide +kernel
theorem dX1_asked_71 : decode cX1_asked 71 = .ok (.istore_n 2, 1) := by decide +kernel
theorem dX1_asked_72 : decode cX1_asked 72 = .ok (.iload_n 2, 1) := by decide +kernel
theorem dX1_asked_73 : decode cX1_asked 73 = .ok (.aload_n 0, 1) := by decide +kernel
theorem dX1_asked_74 : decode cX1_asked 74 = .ok (.getfield 7, 3) := by decide +kernel
theorem dX1_asked_77 : decode cX1_asked 77 = .ok (.if_icmp .ge 48, 3) := by decide +kernel
theorem dX1_asked_80 : decode cX1_asked 80 = .ok (.iconst 0, 1) := by decide +kernel
theorem dX1_asked_81 : decode cX1_asked 81 = .ok (.istore_n 3, 1) := by decide +kernel
theorem dX1_asked_82 : decode cX1_asked 82 = .ok (.iload_n 3, 1) := by decide +kernel
theorem dX1_asked_83 : decode cX1_asked 83 = .ok (.aload_n 0, 1) := by decide +kernel
theorem dX1_asked_84 : decode cX1_asked 84 = .ok (.getfield 7, 3) := by decide +kernel
theorem dX1_asked_87 : decode cX1_asked 87 = .ok (.if_icmp .ge 32, 3) := by decide +kernel
theorem dX1_asked_90 : decode cX1_asked 90 = .ok (.aload_n 0, 1) := by decide +kernel
theorem dX1_asked_91 : decode cX1_asked 91 = .ok (.getfield 33, 3) := by decide +kernel
theorem dX1_asked_94 : decode cX1_asked 94 = .ok (.iload_n 3, 1) := by decide +kernel
theorem dX1_asked_95 : decode cX1_asked 95 = .ok (.baload, 1) := by decide +kernel
theorem dX1_asked_96 : decode cX1_asked 96 = .ok (.ifCond .eq 17, 3) := by decide +kernel
theorem dX1_asked_99 : decode cX1_asked 99 = .ok (.aload_n 0, 1) := by decide +kernel
theorem dX1_asked_100 : decode cX1_asked 100 = .ok (.getfield 39, 3) := by decide +kernel
theorem dX1_asked_103 : decode cX1_asked 103 = .ok (.iload_n 3, 1) := by decide +kernel
theorem dX1_asked_104 : decode cX1_asked 104 = .ok (.baload, 1) := by decide +kernel
theorem dX1_asked_105 : decode cX1_asked 105 = .ok (.ifCond .ne 8, 3) := by decide +kernel
theorem dX1_asked_108 : decode cX1_asked 108 = .ok (.aload_n 0, 1) := by decide +kernel
theorem dX1_asked_109 : decode cX1_asked 109 = .ok (.iload_n 3, 1) := by decide +kernel
theorem dX1_asked_110 : decode cX1_asked 110 = .ok (.invokevirtual 83, 3) := by decide +kernel
theorem dX1_asked_113 : decode cX1_asked 113 = .ok (.iinc 3 1, 3) := by decide +kernel
theorem dX1_asked_116 : decode cX1_asked 116 = .ok (.goto (-34), 3) := by decide +kernel
theorem dX1_asked_119 : decode cX1_asked 119 = .ok (.iinc 2 1, 3) := by decide +kernel
theorem dX1_asked_122 : decode cX1_asked 122 = .ok (.goto (-50), 3) := by decide +kernel
theorem dX1_asked_125 : decode cX1_asked 125 = .ok (.iconst 1, 1) := by decide +kernel
theorem dX1_asked_126 : decode cX1_asked 126 = .ok (.ireturn, 1) := by decide +kernel
theorem dX1_value_0 : decode cX1_value 0 = .ok (.aload_n 0, 1) := by decide +kernel
theorem dX1_value_1 : decode cX1_value 1 = .ok (.iload_n 1, 1) := by decide +kernel
theorem dX1_value_2 : decode cX1_value 2 = .ok (.invokevirtual 87, 3) := by decide +kernel
theorem dX1_value_5 : decode cX1_value 5 = .ok (.ifCond .eq 12, 3) := by decide +kernel
theorem dX1_value_8 : decode cX1_value 8 = .ok (.aload_n 0, 1) := by decide +kernel
theorem dX1_value_9 : decode cX1_value 9 = .ok (.getfield 42, 3) := by decide +kernel
theorem dX1_value_12 : decode cX1_value 12 = .ok (.iload_n 1, 1) := by decide +kernel
theorem dX1_value_13 : decode cX1_value 13 = .ok (.iaload, 1) := by decide +kernel
theorem dX1_value_14 : decode cX1_value 14 = .ok (.goto 4, 3) := by decide +kernel
theorem dX1_value_17 : decode cX1_value 17 = .ok (.iconst 0, 1) := by decide +kernel
theorem dX1_value_18 : decode cX1_value 18 = .ok (.ireturn, 1) := by decide +kernel
theorem dX1_best_0 : decode cX1_best 0 = .ok (.aload_n 0, 1) := by decide +kernel
theorem dX1_best_1 : decode cX1_best 1 = .ok (.iload_n 1, 1) := by decide +kernel
theorem dX1_best_2 : decode cX1_best 2 = .ok (.invokevirtual 87, 3) := by decide +kernel
theorem dX1_best_5 : decode cX1_best 5 = .ok (.ifCond .ne 5, 3) := by decide +kernel
theorem dX1_best_8 : decode cX1_best 8 = .ok (.iconst 0, 1) := by decide +kernel
theorem dX1_best_9 : decode cX1_best 9 = .ok (.ireturn, 1) := by decide +kernel
theorem dX1_best_10 : decode cX1_best 10 = .ok (.iconst 0, 1) := by decide +kernel
theorem dX1_best_11 : decode cX1_best 11 = .ok (.istore_n 2, 1) := by decide +kernel
theorem dX1_best_12 : decode cX1_best 12 = .ok (.iload_n 2, 1) := by decide +kernel
theorem dX1_best_13 : decode cX1_best 13 = .ok (.aload_n 0, 1) := by decide +kernel
theorem dX1_best_14 : decode cX1_best 14 = .ok (.iload_n 1, 1) := by decide +kernel
theorem dX1_best_15 : decode cX1_best 15 = .ok (.invokevirtual 58, 3) := by decide +kernel
theorem dX1_best_18 : decode cX1_best 18 = .ok (.if_icmp .ge 36, 3) := by decide +kernel
theorem dX1_best_21 : decode cX1_best 21 = .ok (.aload_n 0, 1) := by decide +kernel
theorem dX1_best_22 : decode cX1_best 22 = .ok (.getfield 42, 3) := by decide +kernel
theorem dX1_best_25 : decode cX1_best 25 = .ok (.aload_n 0, 1) := by decide +kernel
theorem dX1_best_26 : decode cX1_best 26 = .ok (.getfield 30, 3) := by decide +kernel
theorem dX1_best_29 : decode cX1_best 29 = .ok (.bipush 12, 2) := by decide +kernel
theorem dX1_best_31 : decode cX1_best 31 = .ok (.iload_n 1, 1) := by decide +kernel
theorem dX1_best_32 : decode cX1_best 32 = .ok (.imul, 1) := by decide +kernel
theorem dX1_best_33 : decode cX1_best 33 = .ok (.iload_n 2, 1) := by decide +kernel
theorem dX1_best_34 : decode cX1_best 34 = .ok (.iadd, 1) := by decide +kernel
theorem dX1_best_35 : decode cX1_best 35 = .ok (.iaload, 1) := by decide +kernel
theorem dX1_best_36 : decode cX1_best 36 = .ok (.iaload, 1) := by decide +kernel
theorem dX1_best_37 : decode cX1_best 37 = .ok (.aload_n 0, 1) := by decide +kernel
theorem dX1_best_38 : decode cX1_best 38 = .ok (.getfield 42, 3) := by decide +kernel
theorem dX1_best_41 : decode cX1_best 41 = .ok (.iload_n 1, 1) := by decide +kernel
theorem dX1_best_42 : decode cX1_best 42 = .ok (.iaload, 1) := by decide +kernel
theorem dX1_best_43 : decode cX1_best 43 = .ok (.if_icmp .ne 5, 3) := by decide +kernel
theorem dX1_best_46 : decode cX1_best 46 = .ok (.iload_n 2, 1) := by decide +kernel
theorem dX1_best_47 : decode cX1_best 47 = .ok (.ireturn, 1) := by decide +kernel
theorem dX1_best_48 : decode cX1_best 48 = .ok (.iinc 2 1, 3) := by decide +kernel
theorem dX1_best_51 : decode cX1_best 51 = .ok (.goto (-39), 3) := by decide +kernel
theorem dX1_best_54 : decode cX1_best 54 = .ok (.iconst (-1), 1) := by decide +kernel
theorem dX1_best_55 : decode cX1_best 55 = .ok (.ireturn, 1) := by decide +kernel
theorem dX1_length_0 : decode cX1_length 0 = .ok (.aload_n 0, 1) := by decide +kernel
theorem dX1_length_1 : decode cX1_length 1 = .ok (.iload_n 1, 1) := by decide +kernel
theorem dX1_length_2 : decode cX1_length 2 = .ok (.invokevirtual 87, 3) := by decide +kernel
theorem dX1_length_5 : decode cX1_length 5 = .ok (.ifCond .eq 12, 3) := by decide +kernel
theorem dX1_length_8 : decode cX1_length 8 = .ok (.aload_n 0, 1) := by decide +kernel
theorem dX1_length_9 : decode cX1_length 9 = .ok (.getfield 45, 3) := by decide +kernel
theorem dX1_length_12 : decode cX1_length 12 = .ok (.iload_n 1, 1) := by decide +kernel
theorem dX1_length_13 : decode cX1_length 13 = .ok (.iaload, 1) := by decide +kernel
theorem dX1_length_14 : decode cX1_length 14 = .ok (.goto 4, 3) := by decide +kernel
theorem dX1_length_17 : decode cX1_length 17 = .ok (.iconst 0, 1) := by decide +kernel
theorem dX1_length_18 : decode cX1_length 18 = .ok (.ireturn, 1) := by decide +kernel
