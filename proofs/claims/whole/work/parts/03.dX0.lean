theorem dX0_init_0 : decode cX0_init 0 = .ok (.aload_n 0, 1) := by decide +kernel
theorem dX0_init_1 : decode cX0_init 1 = .ok (.invokespecial 1, 3) := by decide +kernel
theorem dX0_init_4 : decode cX0_init 4 = .ok (.aload_n 0, 1) := by decide +kernel
theorem dX0_init_5 : decode cX0_init 5 = .ok (.bipush 60, 2) := by decide +kernel
theorem dX0_init_7 : decode cX0_init 7 = .ok (.newarray .boolean, 2) := by decide +kernel
theorem dX0_init_9 : decode cX0_init 9 = .ok (.putfield 9, 3) := by decide +kernel
theorem dX0_init_12 : decode cX0_init 12 = .ok (.aload_n 0, 1) := by decide +kernel
theorem dX0_init_13 : decode cX0_init 13 = .ok (.bipush 60, 2) := by decide +kernel
theorem dX0_init_15 : decode cX0_init 15 = .ok (.newarray .int, 2) := by decide +kernel
theorem dX0_init_17 : decode cX0_init 17 = .ok (.putfield 13, 3) := by decide +kernel
theorem dX0_init_20 : decode cX0_init 20 = .ok (.aload_n 0, 1) := by decide +kernel
theorem dX0_init_21 : decode cX0_init 21 = .ok (.bipush 60, 2) := by decide +kernel
theorem dX0_init_23 : decode cX0_init 23 = .ok (.newarray .int, 2) := by decide +kernel
theorem dX0_init_25 : decode cX0_init 25 = .ok (.putfield 17, 3) := by decide +kernel
theorem dX0_init_28 : decode cX0_init 28 = .ok (.aload_n 0, 1) := by decide +kernel
theorem dX0_init_29 : decode cX0_init 29 = .ok (.sipush 720, 3) := by decide +kernel
theorem dX0_init_32 : decode cX0_init 32 = .ok (.newarray .int, 2) := by decide +kernel
theorem dX0_init_34 : decode cX0_init 34 = .ok (.putfield 20, 3) := by decide +kernel
theorem dX0_init_37 : decode cX0_init 37 = .ok (.aload_n 0, 1) := by decide +kernel
theorem dX0_init_38 : decode cX0_init 38 = .ok (.bipush 60, 2) := by decide +kernel
theorem dX0_init_40 : decode cX0_init 40 = .ok (.newarray .long, 2) := by decide +kernel
theorem dX0_init_42 : decode cX0_init 42 = .ok (.putfield 23, 3) := by decide +kernel
theorem dX0_init_45 : decode cX0_init 45 = .ok (.aload_n 0, 1) := by decide +kernel
theorem dX0_init_46 : decode cX0_init 46 = .ok (.bipush 60, 2) := by decide +kernel
theorem dX0_init_48 : decode cX0_init 48 = .ok (.newarray .int, 2) := by decide +kernel
theorem dX0_init_50 : decode cX0_init 50 = .ok (.putfield 27, 3) := by decide +kernel
theorem dX0_init_53 : decode cX0_init 53 = .ok (.aload_n 0, 1) := by decide +kernel
theorem dX0_init_54 : decode cX0_init 54 = .ok (.bipush 60, 2) := by decide +kernel
theorem dX0_init_56 : decode cX0_init 56 = .ok (.newarray .int, 2) := by decide +kernel
theorem dX0_init_58 : decode cX0_init 58 = .ok (.putfield 30, 3) := by decide +kernel
theorem dX0_init_61 : decode cX0_init 61 = .ok (.aload_n 0, 1) := by decide +kernel
theorem dX0_init_62 : decode cX0_init 62 = .ok (.bipush 60, 2) := by decide +kernel
theorem dX0_init_64 : decode cX0_init 64 = .ok (.newarray .int, 2) := by decide +kernel
theorem dX0_init_66 : decode cX0_init 66 = .ok (.putfield 33, 3) := by decide +kernel
theorem dX0_init_69 : decode cX0_init 69 = .ok (.aload_n 0, 1) := by decide +kernel
theorem dX0_init_70 : decode cX0_init 70 = .ok (.iconst 1, 1) := by decide +kernel
theorem dX0_init_71 : decode cX0_init 71 = .ok (.invokevirtual 36, 3) := by decide +kernel
theorem dX0_init_74 : decode cX0_init 74 = .ok (.return_, 1) := by decide +kernel
theorem dX0_states_0 : decode cX0_states 0 = .ok (.iload_n 1, 1) := by decide +kernel
theorem dX0_states_1 : decode cX0_states 1 = .ok (.iconst 1, 1) := by decide +kernel
theorem dX0_states_2 : decode cX0_states 2 = .ok (.if_icmp .lt 9, 3) := by decide +kernel
theorem dX0_states_5 : decode cX0_states 5 = .ok (.iload_n 1, 1) := by decide +kernel
theorem dX0_states_6 : decode cX0_states 6 = .ok (.bipush 60, 2) := by decide +kernel
theorem dX0_states_8 : decode cX0_states 8 = .ok (.if_icmp .le 13, 3) := by decide +kernel
theorem dX0_states_11 : decode cX0_states 11 = .ok (.new 40, 3) := by decide +kernel
theorem dX0_states_14 : decode cX0_states 14 = .ok (.dup, 1) := by decide +kernel
theorem dX0_states_15 : decode cX0_states 15 = .ok (.ldc 42, 2) := by decide +kernel
theorem dX0_states_17 : decode cX0_states 17 = .ok (.invokespecial 44, 3) := by decide +kernel
theorem dX0_states_20 : decode cX0_states 20 = .ok (.athrow, 1) := by decide +kernel
theorem dX0_states_21 : decode cX0_states 21 = .ok (.aload_n 0, 1) := by decide +kernel
theorem dX0_states_22 : decode cX0_states 22 = .ok (.iload_n 1, 1) := by decide +kernel
theorem dX0_states_23 : decode cX0_states 23 = .ok (.invokevirtual 36, 3) := by decide +kernel
theorem dX0_states_26 : decode cX0_states 26 = .ok (.return_, 1) := by decide +kernel
theorem dX0_end_0 : decode cX0_end 0 = .ok (.aload_n 0, 1) := by decide +kernel
theorem dX0_end_1 : decode cX0_end 1 = .ok (.iload_n 1, 1) := by decide +kernel
theorem dX0_end_2 : decode cX0_end 2 = .ok (.invokevirtual 47, 3) := by decide +kernel
theorem dX0_end_5 : decode cX0_end 5 = .ok (.iload_n 2, 1) := by decide +kernel
theorem dX0_end_6 : decode cX0_end 6 = .ok (.invokestatic 50, 3) := by decide +kernel
theorem dX0_end_9 : decode cX0_end 9 = .ok (.ifCond .eq 10, 3) := by decide +kernel
theorem dX0_end_12 : decode cX0_end 12 = .ok (.iload_n 3, 1) := by decide +kernel
theorem dX0_end_13 : decode cX0_end 13 = .ok (.invokestatic 50, 3) := by decide +kernel
theorem dX0_end_16 : decode cX0_end 16 = .ok (.ifCond .ne 13, 3) := by decide +kernel
theorem dX0_end_19 : decode cX0_end 19 = .ok (.new 40, 3) := by decide +kernel
theorem dX0_end_22 : decode cX0_end 22 = .ok (.dup, 1) := by decide +kernel
theorem dX0_end_23 : decode cX0_end 23 = .ok (.ldc 54, 2) := by decide +kernel
theorem dX0_end_25 : decode cX0_end 25 = .ok (.invokespecial 44, 3) := by decide +kernel
theorem dX0_end_28 : decode cX0_end 28 = .ok (.athrow, 1) := by decide +kernel
theorem dX0_end_29 : decode cX0_end 29 = .ok (.aload_n 0, 1) := by decide +kernel
theorem dX0_end_30 : decode cX0_end 30 = .ok (.iload_n 1, 1) := by decide +kernel
theorem dX0_end_31 : decode cX0_end 31 = .ok (.iconst 0, 1) := by decide +kernel
theorem dX0_end_32 : decode cX0_end 32 = .ok (.iload_n 2, 1) := by decide +kernel
theorem dX0_end_33 : decode cX0_end 33 = .ok (.iload_n 3, 1) := by decide +kernel
theorem dX0_end_34 : decode cX0_end 34 = .ok (.invokevirtual 56, 3) := by decide +kernel
theorem dX0_end_37 : decode cX0_end 37 = .ok (.return_, 1) := by decide +kernel
theorem dX0_open_0 : decode cX0_open 0 = .ok (.aload_n 0, 1) := by decide +kernel
theorem dX0_open_1 : decode cX0_open 1 = .ok (.iload_n 1, 1) := by decide +kernel
theorem dX0_open_2 : decode cX0_open 2 = .ok (.invokevirtual 47, 3) := by decide +kernel
theorem dX0_open_5 : decode cX0_open 5 = .ok (.iload_n 2, 1) := by decide +kernel
theorem dX0_open_6 : decode cX0_open 6 = .ok (.invokestatic 60, 3) := by decide +kernel
theorem dX0_open_9 : decode cX0_open 9 = .ok (.ifCond .eq 18, 3) := by decide +kernel
theorem dX0_open_12 : decode cX0_open 12 = .ok (.iload_n 3, 1) := by decide +kernel
theorem dX0_open_13 : decode cX0_open 13 = .ok (.invokestatic 60, 3) := by decide +kernel
theorem dX0_open_16 : decode cX0_open 16 = .ok (.ifCond .eq 11, 3) := by decide +kernel
theorem dX0_open_19 : decode cX0_open 19 = .ok (.iload_n 2, 1) := by decide +kernel
theorem dX0_open_20 : decode cX0_open 20 = .ok (.iload_n 3, 1) := by decide +kernel
theorem dX0_open_21 : decode cX0_open 21 = .ok (.imul, 1) := by decide +kernel
theorem dX0_open_22 : decode cX0_open 22 = .ok (.bipush 12, 2) := by decide +kernel
theorem dX0_open_24 : decode cX0_open 24 = .ok (.if_icmp .le 13, 3) := by decide +kernel
theorem dX0_open_27 : decode cX0_open 27 = .ok (.new 40, 3) := by decide +kernel
theorem dX0_open_30 : decode cX0_open 30 = .ok (.dup, 1) := by decide +kernel
theorem dX0_open_31 : decode cX0_open 31 = .ok (.ldc 63, 2) := by decide +kernel
theorem dX0_open_33 : decode cX0_open 33 = .ok (.invokespecial 44, 3) := by decide +kernel
theorem dX0_open_36 : decode cX0_open 36 = .ok (.athrow, 1) := by decide +kernel
theorem dX0_open_37 : decode cX0_open 37 = .ok (.aload_n 0, 1) := by decide +kernel
theorem dX0_open_38 : decode cX0_open 38 = .ok (.iload_n 1, 1) := by decide +kernel
theorem dX0_open_39 : decode cX0_open 39 = .ok (.iconst 1, 1) := by decide +kernel
theorem dX0_open_40 : decode cX0_open 40 = .ok (.iload_n 2, 1) := by decide +kernel
theorem dX0_open_41 : decode cX0_open 41 = .ok (.iload_n 3, 1) := by decide +kernel
theorem dX0_open_42 : decode cX0_open 42 = .ok (.invokevirtual 56, 3) := by decide +kernel
theorem dX0_open_45 : decode cX0_open 45 = .ok (.return_, 1) := by decide +kernel
theorem dX0_link_0 : decode cX0_link 0 = .ok (.aload_n 0, 1) := by decide +kernel
theorem dX0_link_1 : decode cX0_link 1 = .ok (.iload_n 1, 1) := by decide +kernel
theorem dX0_link_2 : decode cX0_link 2 = .ok (.iload_n 2, 1) := by decide +kernel
theorem dX0_link_3 : decode cX0_link 3 = .ok (.invokevirtual 65, 3) := by decide +kernel
theorem dX0_link_6 : decode cX0_link 6 = .ok (.aload_n 0, 1) := by decide +kernel
theorem dX0_link_7 : decode cX0_link 7 = .ok (.iload_n 3, 1) := by decide +kernel
theorem dX0_link_8 : decode cX0_link 8 = .ok (.invokevirtual 47, 3) := by decide +kernel
theorem dX0_link_11 : decode cX0_link 11 = .ok (.aload_n 0, 1) := by decide +kernel
theorem dX0_link_12 : decode cX0_link 12 = .ok (.getfield 20, 3) := by decide +kernel
theorem dX0_link_15 : decode cX0_link 15 = .ok (.iload_n 1, 1) := by decide +kernel
theorem dX0_link_16 : decode cX0_link 16 = .ok (.bipush 12, 2) := by decide +kernel
theorem dX0_link_18 : decode cX0_link 18 = .ok (.imul, 1) := by decide +kernel
theorem dX0_link_19 : decode cX0_link 19 = .ok (.iload_n 2, 1) := by decide +kernel
theorem dX0_link_20 : decode cX0_link 20 = .ok (.iadd, 1) := by decide +kernel
theorem dX0_link_21 : decode cX0_link 21 = .ok (.iload_n 3, 1) := by decide +kernel
theorem dX0_link_22 : decode cX0_link 22 = .ok (.iastore, 1) := by decide +kernel
theorem dX0_link_23 : decode cX0_link 23 = .ok (.aload_n 0, 1) := by decide +kernel
theorem dX0_link_24 : decode cX0_link 24 = .ok (.iconst 0, 1) := by decide +kernel
theorem dX0_link_25 : decode cX0_link 25 = .ok (.putfield 69, 3) := by decide +kernel
theorem dX0_link_28 : decode cX0_link 28 = .ok (.return_, 1) := by decide +kernel
theorem dX0_next_0 : decode cX0_next 0 = .ok (.aload_n 0, 1) := by decide +kernel
theorem dX0_next_1 : decode cX0_next 1 = .ok (.iload_n 1, 1) := by decide +kernel
theorem dX0_next_2 : decode cX0_next 2 = .ok (.iload_n 2, 1) := by decide +kernel
theorem dX0_next_3 : decode cX0_next 3 = .ok (.invokevirtual 65, 3) := by decide +kernel
theorem dX0_next_6 : decode cX0_next 6 = .ok (.aload_n 0, 1) := by decide +kernel
theorem dX0_next_7 : decode cX0_next 7 = .ok (.iload_n 1, 1) := by decide +kernel
theorem dX0_next_8 : decode cX0_next 8 = .ok (.iload_n 2, 1) := by decide +kernel
theorem dX0_next_9 : decode cX0_next 9 = .ok (.invokevirtual 73, 3) := by decide +kernel
theorem dX0_next_12 : decode cX0_next 12 = .ok (.ireturn, 1) := by decide +kernel
theorem dX0_reached_0 : decode cX0_reached 0 = .ok (.aload_n 0, 1) := by decide +kernel
theorem dX0_reached_1 : decode cX0_reached 1 = .ok (.invokevirtual 77, 3) := by decide +kernel
theorem dX0_reached_4 : decode cX0_reached 4 = .ok (.aload_n 0, 1) := by decide +kernel
theorem dX0_reached_5 : decode cX0_reached 5 = .ok (.getfield 80, 3) := by decide +kernel
theorem dX0_reached_8 : decode cX0_reached 8 = .ok (.invokestatic 84, 3) := by decide +kernel
theorem dX0_reached_11 : decode cX0_reached 11 = .ok (.ireturn, 1) := by decide +kernel
theorem dX0_defect_0 : decode cX0_defect 0 = .ok (.iload_n 1, 1) := by decide +kernel
theorem dX0_defect_1 : decode cX0_defect 1 = .ok (.ifCond .eq 18, 3) := by decide +kernel
theorem dX0_defect_4 : decode cX0_defect 4 = .ok (.iload_n 1, 1) := by decide +kernel
theorem dX0_defect_5 : decode cX0_defect 5 = .ok (.iconst 1, 1) := by decide +kernel
theorem dX0_defect_6 : decode cX0_defect 6 = .ok (.if_icmp .eq 13, 3) := by decide +kernel
theorem dX0_defect_9 : decode cX0_defect 9 = .ok (.new 40, 3) := by decide +kernel
theorem dX0_defect_12 : decode cX0_defect 12 = .ok (.dup, 1) := by decide +kernel
theorem dX0_defect_13 : decode cX0_defect 13 = .ok (.ldc 90, 2) := by decide +kernel
theorem dX0_defect_15 : decode cX0_defect 15 = .ok (.invokespecial 44, 3) := by decide +kernel
theorem dX0_defect_18 : decode cX0_defect 18 = .ok (.athrow, 1) := by decide +kernel
theorem dX0_defect_19 : decode cX0_defect 19 = .ok (.aload_n 0, 1) := by decide +kernel
theorem dX0_defect_20 : decode cX0_defect 20 = .ok (.invokevirtual 77, 3) := by decide +kernel
theorem dX0_defect_23 : decode cX0_defect 23 = .ok (.iload_n 1, 1) := by decide +kernel
theorem dX0_defect_24 : decode cX0_defect 24 = .ok (.ifCond .ne 10, 3) := by decide +kernel
theorem dX0_defect_27 : decode cX0_defect 27 = .ok (.aload_n 0, 1) := by decide +kernel
theorem dX0_defect_28 : decode cX0_defect 28 = .ok (.getfield 92, 3) := by decide +kernel
theorem dX0_defect_31 : decode cX0_defect 31 = .ok (.goto 7, 3) := by decide +kernel
theorem dX0_defect_34 : decode cX0_defect 34 = .ok (.aload_n 0, 1) := by decide +kernel
theorem dX0_defect_35 : decode cX0_defect 35 = .ok (.getfield 96, 3) := by decide +kernel
theorem dX0_defect_38 : decode cX0_defect 38 = .ok (.ireturn, 1) := by decide +kernel
theorem dX0_value_0 : decode cX0_value 0 = .ok (.aload_n 0, 1) := by decide +kernel
theorem dX0_value_1 : decode cX0_value 1 = .ok (.iload_n 1, 1) := by decide +kernel
theorem dX0_value_2 : decode cX0_value 2 = .ok (.invokevirtual 99, 3) := by decide +kernel
theorem dX0_value_5 : decode cX0_value 5 = .ok (.aload_n 0, 1) := by decide +kernel
theorem dX0_value_6 : decode cX0_value 6 = .ok (.iload_n 1, 1) := by decide +kernel
theorem dX0_value_7 : decode cX0_value 7 = .ok (.invokevirtual 102, 3) := by decide +kernel
theorem dX0_value_10 : decode cX0_value 10 = .ok (.ireturn, 1) := by decide +kernel
theorem dX0_best_0 : decode cX0_best 0 = .ok (.aload_n 0, 1) := by decide +kernel
theorem dX0_best_1 : decode cX0_best 1 = .ok (.iload_n 1, 1) := by decide +kernel
theorem dX0_best_2 : decode cX0_best 2 = .ok (.invokevirtual 99, 3) := by decide +kernel
theorem dX0_best_5 : decode cX0_best 5 = .ok (.aload_n 0, 1) := by decide +kernel
theorem dX0_best_6 : decode cX0_best 6 = .ok (.iload_n 1, 1) := by decide +kernel
theorem dX0_best_7 : decode cX0_best 7 = .ok (.invokevirtual 106, 3) := by decide +kernel
theorem dX0_best_10 : decode cX0_best 10 = .ok (.ireturn, 1) := by decide +kernel
theorem dX0_length_0 : decode cX0_length 0 = .ok (.aload_n 0, 1) := by decide +kernel
theorem dX0_length_1 : decode cX0_length 1 = .ok (.iload_n 1, 1) := by decide +kernel
theorem dX0_length_2 : decode cX0_length 2 = .ok (.invokevirtual 99, 3) := by decide +kernel
theorem dX0_length_5 : decode cX0_length 5 = .ok (.aload_n 0, 1) := by decide +kernel
theorem dX0_length_6 : decode cX0_length 6 = .ok (.getfield 27, 3) := by decide +kernel
theorem dX0_length_9 : decode cX0_length 9 = .ok (.iload_n 1, 1) := by decide +kernel
theorem dX0_length_10 : decode cX0_length 10 = .ok (.iaload, 1) := by decide +kernel
theorem dX0_length_11 : decode cX0_length 11 = .ok (.ireturn, 1) := by decide +kernel
theorem dX0_hasState_0 : decode cX0_hasState 0 = .ok (.iload_n 1, 1) := by decide +kernel
theorem dX0_hasState_1 : decode cX0_hasState 1 = .ok (.ifCond .lt 15, 3) := by decide +kernel
theorem dX0_hasState_4 : decode cX0_hasState 4 = .ok (.iload_n 1, 1) := by decide +kernel
theorem dX0_hasState_5 : decode cX0_hasState 5 = .ok (.aload_n 0, 1) := by decide +kernel
theorem dX0_hasState_6 : decode cX0_hasState 6 = .ok (.getfield 109, 3) := by decide +kernel
theorem dX0_hasState_9 : decode cX0_hasState 9 = .ok (.if_icmp .ge 7, 3) := by decide +kernel
theorem dX0_hasState_12 : decode cX0_hasState 12 = .ok (.iconst 1, 1) := by decide +kernel
theorem dX0_hasState_13 : decode cX0_hasState 13 = .ok (.goto 4, 3) := by decide +kernel
theorem dX0_hasState_16 : decode cX0_hasState 16 = .ok (.iconst 0, 1) := by decide +kernel
theorem dX0_hasState_17 : decode cX0_hasState 17 = .ok (.ireturn, 1) := by decide +kernel
theorem dX0_requireState_0 : decode cX0_requireState 0 = .ok (.aload_n 0, 1) := by decide +kernel
theorem dX0_requireState_1 : decode cX0_requireState 1 = .ok (.iload_n 1, 1) := by decide +kernel
theorem dX0_requireState_2 : decode cX0_requireState 2 = .ok (.invokevirtual 112, 3) := by decide +kernel
theorem dX0_requireState_5 : decode cX0_requireState 5 = .ok (.ifCond .ne 13, 3) := by decide +kernel
theorem dX0_requireState_8 : decode cX0_requireState 8 = .ok (.new 115, 3) := by decide +kernel
theorem dX0_requireState_11 : decode cX0_requireState 11 = .ok (.dup, 1) := by decide +kernel
theorem dX0_requireState_12 : decode cX0_requireState 12 = .ok (.ldc 117, 2) := by decide +kernel
theorem dX0_requireState_14 : decode cX0_requireState 14 = .ok (.invokespecial 119, 3) := by decide +kernel
theorem dX0_requireState_17 : decode cX0_requireState 17 = .ok (.athrow, 1) := by decide +kernel
theorem dX0_requireState_18 : decode cX0_requireState 18 = .ok (.return_, 1) := by decide +kernel
theorem dX0_requireJointMove_0 : decode cX0_requireJointMove 0 = .ok (.aload_n 0, 1) := by decide +kernel
theorem dX0_requireJointMove_1 : decode cX0_requireJointMove 1 = .ok (.iload_n 1, 1) := by decide +kernel
theorem dX0_requireJointMove_2 : decode cX0_requireJointMove 2 = .ok (.invokevirtual 47, 3) := by decide +kernel
theorem dX0_requireJointMove_5 : decode cX0_requireJointMove 5 = .ok (.iload_n 2, 1) := by decide +kernel
theorem dX0_requireJointMove_6 : decode cX0_requireJointMove 6 = .ok (.ifCond .lt 12, 3) := by decide +kernel
theorem dX0_requireJointMove_9 : decode cX0_requireJointMove 9 = .ok (.iload_n 2, 1) := by decide +kernel
theorem dX0_requireJointMove_10 : decode cX0_requireJointMove 10 = .ok (.aload_n 0, 1) := by decide +kernel
theorem dX0_requireJointMove_11 : decode cX0_requireJointMove 11 = .ok (.iload_n 1, 1) := by decide +kernel
theorem dX0_requireJointMove_12 : decode cX0_requireJointMove 12 = .ok (.invokevirtual 120, 3) := by decide +kernel
theorem dX0_requireJointMove_15 : decode cX0_requireJointMove 15 = .ok (.if_icmp .lt 13, 3) := by decide +kernel
theorem dX0_requireJointMove_18 : decode cX0_requireJointMove 18 = .ok (.new 115, 3) := by decide +kernel
theorem dX0_requireJointMove_21 : decode cX0_requireJointMove 21 = .ok (.dup, 1) := by decide +kernel
theorem dX0_requireJointMove_22 : decode cX0_requireJointMove 22 = .ok (.ldc 123, 2) := by decide +kernel
theorem dX0_requireJointMove_24 : decode cX0_requireJointMove 24 = .ok (.invokespecial 119, 3) := by decide +kernel
theorem dX0_requireJointMove_27 : decode cX0_requireJointMove 27 = .ok (.athrow, 1) := by decide +kernel
theorem dX0_requireJointMove_28 : decode cX0_requireJointMove 28 = .ok (.return_, 1) := by decide +kernel
theorem dX0_requireValued_0 : decode cX0_requireValued 0 = .ok (.aload_n 0, 1) := by decide +kernel
theorem dX0_requireValued_1 : decode cX0_requireValued 1 = .ok (.invokevirtual 77, 3) := by decide +kernel
theorem dX0_requireValued_4 : decode cX0_requireValued 4 = .ok (.aload_n 0, 1) := by decide +kernel
theorem dX0_requireValued_5 : decode cX0_requireValued 5 = .ok (.getfield 92, 3) := by decide +kernel
theorem dX0_requireValued_8 : decode cX0_requireValued 8 = .ok (.ifCond .eq 13, 3) := by decide +kernel
theorem dX0_requireValued_11 : decode cX0_requireValued 11 = .ok (.new 125, 3) := by decide +kernel
theorem dX0_requireValued_14 : decode cX0_requireValued 14 = .ok (.dup, 1) := by decide +kernel
theorem dX0_requireValued_15 : decode cX0_requireValued 15 = .ok (.ldc 127, 2) := by decide +kernel
theorem dX0_requireValued_17 : decode cX0_requireValued 17 = .ok (.invokespecial 129, 3) := by decide +kernel
theorem dX0_requireValued_20 : decode cX0_requireValued 20 = .ok (.athrow, 1) := by decide +kernel
theorem dX0_requireValued_21 : decode cX0_requireValued 21 = .ok (.aload_n 0, 1) := by decide +kernel
theorem dX0_requireValued_22 : decode cX0_requireValued 22 = .ok (.iload_n 1, 1) := by decide +kernel
theorem dX0_requireValued_23 : decode cX0_requireValued 23 = .ok (.invokevirtual 112, 3) := by decide +kernel
theorem dX0_requireValued_26 : decode cX0_requireValued 26 = .ok (.ifCond .eq 14, 3) := by decide +kernel
theorem dX0_requireValued_29 : decode cX0_requireValued 29 = .ok (.aload_n 0, 1) := by decide +kernel
theorem dX0_requireValued_30 : decode cX0_requireValued 30 = .ok (.getfield 80, 3) := by decide +kernel
theorem dX0_requireValued_33 : decode cX0_requireValued 33 = .ok (.iload_n 1, 1) := by decide +kernel
theorem dX0_requireValued_34 : decode cX0_requireValued 34 = .ok (.invokestatic 130, 3) := by decide +kernel
theorem dX0_requireValued_37 : decode cX0_requireValued 37 = .ok (.ifCond .ne 13, 3) := by decide +kernel
theorem dX0_requireValued_40 : decode cX0_requireValued 40 = .ok (.new 115, 3) := by decide +kernel
theorem dX0_requireValued_43 : decode cX0_requireValued 43 = .ok (.dup, 1) := by decide +kernel
theorem dX0_requireValued_44 : decode cX0_requireValued 44 = .ok (.ldc 134, 2) := by decide +kernel
theorem dX0_requireValued_46 : decode cX0_requireValued 46 = .ok (.invokespecial 119, 3) := by decide +kernel
theorem dX0_requireValued_49 : decode cX0_requireValued 49 = .ok (.athrow, 1) := by decide +kernel
theorem dX0_requireValued_50 : decode cX0_requireValued 50 = .ok (.return_, 1) := by decide +kernel
theorem dX0_isGoal_0 : decode cX0_isGoal 0 = .ok (.iload_n 0, 1) := by decide +kernel
theorem dX0_isGoal_1 : decode cX0_isGoal 1 = .ok (.bipush (-2), 2) := by decide +kernel
theorem dX0_isGoal_3 : decode cX0_isGoal 3 = .ok (.if_icmp .lt 13, 3) := by decide +kernel
theorem dX0_isGoal_6 : decode cX0_isGoal 6 = .ok (.iload_n 0, 1) := by decide +kernel
theorem dX0_isGoal_7 : decode cX0_isGoal 7 = .ok (.bipush 100, 2) := by decide +kernel
theorem dX0_isGoal_9 : decode cX0_isGoal 9 = .ok (.if_icmp .gt 7, 3) := by decide +kernel
theorem dX0_isGoal_12 : decode cX0_isGoal 12 = .ok (.iconst 1, 1) := by decide +kernel
theorem dX0_isGoal_13 : decode cX0_isGoal 13 = .ok (.goto 4, 3) := by decide +kernel
theorem dX0_isGoal_16 : decode cX0_isGoal 16 = .ok (.iconst 0, 1) := by decide +kernel
theorem dX0_isGoal_17 : decode cX0_isGoal 17 = .ok (.ireturn, 1) := by decide +kernel
theorem dX0_isNumberOfMoves_0 : decode cX0_isNumberOfMoves 0 = .ok (.iload_n 0, 1) := by decide +kernel
theorem dX0_isNumberOfMoves_1 : decode cX0_isNumberOfMoves 1 = .ok (.ifCond .lt 13, 3) := by decide +kernel
theorem dX0_isNumberOfMoves_4 : decode cX0_isNumberOfMoves 4 = .ok (.iload_n 0, 1) := by decide +kernel
theorem dX0_isNumberOfMoves_5 : decode cX0_isNumberOfMoves 5 = .ok (.bipush 12, 2) := by decide +kernel
theorem dX0_isNumberOfMoves_7 : decode cX0_isNumberOfMoves 7 = .ok (.if_icmp .gt 7, 3) := by decide +kernel
theorem dX0_isNumberOfMoves_10 : decode cX0_isNumberOfMoves 10 = .ok (.iconst 1, 1) := by decide +kernel
theorem dX0_isNumberOfMoves_11 : decode cX0_isNumberOfMoves 11 = .ok (.goto 4, 3) := by decide +kernel
theorem dX0_isNumberOfMoves_14 : decode cX0_isNumberOfMoves 14 = .ok (.iconst 0, 1) := by decide +kernel
theorem dX0_isNumberOfMoves_15 : decode cX0_isNumberOfMoves 15 = .ok (.ireturn, 1) := by decide +kernel
theorem dX0_contains_0 : decode cX0_contains 0 = .ok (.lload_n 0, 1) := by decide +kernel
theorem dX0_contains_1 : decode cX0_contains 1 = .ok (.iload_n 2, 1) := by decide +kernel
theorem dX0_contains_2 : decode cX0_contains 2 = .ok (.lushr, 1) := by decide +kernel
theorem dX0_contains_3 : decode cX0_contains 3 = .ok (.lconst 1, 1) := by decide +kernel
theorem dX0_contains_4 : decode cX0_contains 4 = .ok (.land, 1) := by decide +kernel
theorem dX0_contains_5 : decode cX0_contains 5 = .ok (.lconst 0, 1) := by decide +kernel
theorem dX0_contains_6 : decode cX0_contains 6 = .ok (.lcmp, 1) := by decide +kernel
theorem dX0_contains_7 : decode cX0_contains 7 = .ok (.ifCond .eq 7, 3) := by decide +kernel
theorem dX0_contains_10 : decode cX0_contains 10 = .ok (.iconst 1, 1) := by decide +kernel
theorem dX0_contains_11 : decode cX0_contains 11 = .ok (.goto 4, 3) := by decide +kernel
theorem dX0_contains_14 : decode cX0_contains 14 = .ok (.iconst 0, 1) := by decide +kernel
theorem dX0_contains_15 : decode cX0_contains 15 = .ok (.ireturn, 1) := by decide +kernel
theorem dX0_jointMoves_0 : decode cX0_jointMoves 0 = .ok (.aload_n 0, 1) := by decide +kernel
theorem dX0_jointMoves_1 : decode cX0_jointMoves 1 = .ok (.getfield 9, 3) := by decide +kernel
theorem dX0_jointMoves_4 : decode cX0_jointMoves 4 = .ok (.iload_n 1, 1) := by decide +kernel
theorem dX0_jointMoves_5 : decode cX0_jointMoves 5 = .ok (.baload, 1) := by decide +kernel
theorem dX0_jointMoves_6 : decode cX0_jointMoves 6 = .ok (.ifCond .eq 19, 3) := by decide +kernel
theorem dX0_jointMoves_9 : decode cX0_jointMoves 9 = .ok (.aload_n 0, 1) := by decide +kernel
theorem dX0_jointMoves_10 : decode cX0_jointMoves 10 = .ok (.getfield 13, 3) := by decide +kernel
theorem dX0_jointMoves_13 : decode cX0_jointMoves 13 = .ok (.iload_n 1, 1) := by decide +kernel
theorem dX0_jointMoves_14 : decode cX0_jointMoves 14 = .ok (.iaload, 1) := by decide +kernel
theorem dX0_jointMoves_15 : decode cX0_jointMoves 15 = .ok (.aload_n 0, 1) := by decide +kernel
theorem dX0_jointMoves_16 : decode cX0_jointMoves 16 = .ok (.getfield 17, 3) := by decide +kernel
theorem dX0_jointMoves_19 : decode cX0_jointMoves 19 = .ok (.iload_n 1, 1) := by decide +kernel
theorem dX0_jointMoves_20 : decode cX0_jointMoves 20 = .ok (.iaload, 1) := by decide +kernel
theorem dX0_jointMoves_21 : decode cX0_jointMoves 21 = .ok (.imul, 1) := by decide +kernel
theorem dX0_jointMoves_22 : decode cX0_jointMoves 22 = .ok (.goto 4, 3) := by decide +kernel
theorem dX0_jointMoves_25 : decode cX0_jointMoves 25 = .ok (.iconst 0, 1) := by decide +kernel
theorem dX0_jointMoves_26 : decode cX0_jointMoves 26 = .ok (.ireturn, 1) := by decide +kernel
theorem dX0_target_0 : decode cX0_target 0 = .ok (.aload_n 0, 1) := by decide +kernel
theorem dX0_target_1 : decode cX0_target 1 = .ok (.getfield 20, 3) := by decide +kernel
theorem dX0_target_4 : decode cX0_target 4 = .ok (.iload_n 1, 1) := by decide +kernel
theorem dX0_target_5 : decode cX0_target 5 = .ok (.bipush 12, 2) := by decide +kernel
theorem dX0_target_7 : decode cX0_target 7 = .ok (.imul, 1) := by decide +kernel
theorem dX0_target_8 : decode cX0_target 8 = .ok (.iload_n 2, 1) := by decide +kernel
theorem dX0_target_9 : decode cX0_target 9 = .ok (.iadd, 1) := by decide +kernel
theorem dX0_target_10 : decode cX0_target 10 = .ok (.iaload, 1) := by decide +kernel
theorem dX0_target_11 : decode cX0_target 11 = .ok (.ireturn, 1) := by decide +kernel
theorem dX0_makeEvenEnds_0 : decode cX0_makeEvenEnds 0 = .ok (.aload_n 0, 1) := by decide +kernel
theorem dX0_makeEvenEnds_1 : decode cX0_makeEvenEnds 1 = .ok (.iload_n 1, 1) := by decide +kernel
theorem dX0_makeEvenEnds_2 : decode cX0_makeEvenEnds 2 = .ok (.putfield 109, 3) := by decide +kernel
theorem dX0_makeEvenEnds_5 : decode cX0_makeEvenEnds 5 = .ok (.iconst 0, 1) := by decide +kernel
theorem dX0_makeEvenEnds_6 : decode cX0_makeEvenEnds 6 = .ok (.istore_n 2, 1) := by decide +kernel
theorem dX0_makeEvenEnds_7 : decode cX0_makeEvenEnds 7 = .ok (.iload_n 2, 1) := by decide +kernel
theorem dX0_makeEvenEnds_8 : decode cX0_makeEvenEnds 8 = .ok (.iload_n 1, 1) := by decide +kernel
theorem dX0_makeEvenEnds_9 : decode cX0_makeEvenEnds 9 = .ok (.if_icmp .ge 19, 3) := by decide +kernel
theorem dX0_makeEvenEnds_12 : decode cX0_makeEvenEnds 12 = .ok (.aload_n 0, 1) := by decide +kernel
theorem dX0_makeEvenEnds_13 : decode cX0_makeEvenEnds 13 = .ok (.iload_n 2, 1) := by decide +kernel
theorem dX0_makeEvenEnds_14 : decode cX0_makeEvenEnds 14 = .ok (.iconst 0, 1) := by decide +kernel
theorem dX0_makeEvenEnds_15 : decode cX0_makeEvenEnds 15 = .ok (.bipush 50, 2) := by decide +kernel
theorem dX0_makeEvenEnds_17 : decode cX0_makeEvenEnds 17 = .ok (.bipush 50, 2) := by decide +kernel
theorem dX0_makeEvenEnds_19 : decode cX0_makeEvenEnds 19 = .ok (.invokevirtual 56, 3) := by decide +kernel
theorem dX0_makeEvenEnds_22 : decode cX0_makeEvenEnds 22 = .ok (.iinc 2 1, 3) := by decide +kernel
theorem dX0_makeEvenEnds_25 : decode cX0_makeEvenEnds 25 = .ok (.goto (-18), 3) := by decide +kernel
theorem dX0_makeEvenEnds_28 : decode cX0_makeEvenEnds 28 = .ok (.return_, 1) := by decide +kernel
theorem dX0_makeState_0 : decode cX0_makeState 0 = .ok (.aload_n 0, 1) := by decide +kernel
theorem dX0_makeState_1 : decode cX0_makeState 1 = .ok (.getfield 9, 3) := by decide +kernel
theorem dX0_makeState_4 : decode cX0_makeState 4 = .ok (.iload_n 1, 1) := by decide +kernel
theorem dX0_makeState_5 : decode cX0_makeState 5 = .ok (.iload_n 2, 1) := by decide +kernel
theorem dX0_makeState_6 : decode cX0_makeState 6 = .ok (.bastore, 1) := by decide +kernel
theorem dX0_makeState_7 : decode cX0_makeState 7 = .ok (.aload_n 0, 1) := by decide +kernel
theorem dX0_makeState_8 : decode cX0_makeState 8 = .ok (.getfield 13, 3) := by decide +kernel
theorem dX0_makeState_11 : decode cX0_makeState 11 = .ok (.iload_n 1, 1) := by decide +kernel
theorem dX0_makeState_12 : decode cX0_makeState 12 = .ok (.iload_n 3, 1) := by decide +kernel
theorem dX0_makeState_13 : decode cX0_makeState 13 = .ok (.iastore, 1) := by decide +kernel
theorem dX0_makeState_14 : decode cX0_makeState 14 = .ok (.aload_n 0, 1) := by decide +kernel
theorem dX0_makeState_15 : decode cX0_makeState 15 = .ok (.getfield 17, 3) := by decide +kernel
theorem dX0_makeState_18 : decode cX0_makeState 18 = .ok (.iload_n 1, 1) := by decide +kernel
theorem dX0_makeState_19 : decode cX0_makeState 19 = .ok (.iload 4, 2) := by decide +kernel
theorem dX0_makeState_21 : decode cX0_makeState 21 = .ok (.iastore, 1) := by decide +kernel
theorem dX0_makeState_22 : decode cX0_makeState 22 = .ok (.iconst 0, 1) := by decide +kernel
theorem dX0_makeState_23 : decode cX0_makeState 23 = .ok (.istore 5, 2) := by decide +kernel
theorem dX0_makeState_25 : decode cX0_makeState 25 = .ok (.iload 5, 2) := by decide +kernel
theorem dX0_makeState_27 : decode cX0_makeState 27 = .ok (.bipush 12, 2) := by decide +kernel
theorem dX0_makeState_29 : decode cX0_makeState 29 = .ok (.if_icmp .ge 22, 3) := by decide +kernel
theorem dX0_makeState_32 : decode cX0_makeState 32 = .ok (.aload_n 0, 1) := by decide +kernel
theorem dX0_makeState_33 : decode cX0_makeState 33 = .ok (.getfield 20, 3) := by decide +kernel
theorem dX0_makeState_36 : decode cX0_makeState 36 = .ok (.iload_n 1, 1) := by decide +kernel
theorem dX0_makeState_37 : decode cX0_makeState 37 = .ok (.bipush 12, 2) := by decide +kernel
theorem dX0_makeState_39 : decode cX0_makeState 39 = .ok (.imul, 1) := by decide +kernel
theorem dX0_makeState_40 : decode cX0_makeState 40 = .ok (.iload 5, 2) := by decide +kernel
theorem dX0_makeState_42 : decode cX0_makeState 42 = .ok (.iadd, 1) := by decide +kernel
theorem dX0_makeState_43 : decode cX0_makeState 43 = .ok (.iconst 0, 1) := by decide +kernel
theorem dX0_makeState_44 : decode cX0_makeState 44 = .ok (.iastore, 1) := by decide +kernel
theorem dX0_makeState_45 : decode cX0_makeState 45 = .ok (.iinc 5 1, 3) := by decide +kernel
theorem dX0_makeState_48 : decode cX0_makeState 48 = .ok (.goto (-23), 3) := by decide +kernel
theorem dX0_makeState_51 : decode cX0_makeState 51 = .ok (.aload_n 0, 1) := by decide +kernel
theorem dX0_makeState_52 : decode cX0_makeState 52 = .ok (.iconst 0, 1) := by decide +kernel
theorem dX0_makeState_53 : decode cX0_makeState 53 = .ok (.putfield 69, 3) := by decide +kernel
theorem dX0_makeState_56 : decode cX0_makeState 56 = .ok (.return_, 1) := by decide +kernel
theorem dX0_survey_0 : decode cX0_survey 0 = .ok (.aload_n 0, 1) := by decide +kernel
theorem dX0_survey_1 : decode cX0_survey 1 = .ok (.getfield 69, 3) := by decide +kernel
theorem dX0_survey_4 : decode cX0_survey 4 = .ok (.ifCond .eq 4, 3) := by decide +kernel
theorem dX0_survey_7 : decode cX0_survey 7 = .ok (.return_, 1) := by decide +kernel
theorem dX0_survey_8 : decode cX0_survey 8 = .ok (.aload_n 0, 1) := by decide +kernel
theorem dX0_survey_9 : decode cX0_survey 9 = .ok (.invokevirtual 136, 3) := by decide +kernel
theorem dX0_survey_12 : decode cX0_survey 12 = .ok (.aload_n 0, 1) := by decide +kernel
theorem dX0_survey_13 : decode cX0_survey 13 = .ok (.aload_n 0, 1) := by decide +kernel
theorem dX0_survey_14 : decode cX0_survey 14 = .ok (.getfield 23, 3) := by decide +kernel
theorem dX0_survey_17 : decode cX0_survey 17 = .ok (.iconst 0, 1) := by decide +kernel
theorem dX0_survey_18 : decode cX0_survey 18 = .ok (.laload, 1) := by decide +kernel
theorem dX0_survey_19 : decode cX0_survey 19 = .ok (.lconst 1, 1) := by decide +kernel
theorem dX0_survey_20 : decode cX0_survey 20 = .ok (.lor, 1) := by decide +kernel
theorem dX0_survey_21 : decode cX0_survey 21 = .ok (.putfield 80, 3) := by decide +kernel
theorem dX0_survey_24 : decode cX0_survey 24 = .ok (.aload_n 0, 1) := by decide +kernel
theorem dX0_survey_25 : decode cX0_survey 25 = .ok (.invokevirtual 139, 3) := by decide +kernel
theorem dX0_survey_28 : decode cX0_survey 28 = .ok (.aload_n 0, 1) := by decide +kernel
theorem dX0_survey_29 : decode cX0_survey 29 = .ok (.getfield 92, 3) := by decide +kernel
theorem dX0_survey_32 : decode cX0_survey 32 = .ok (.ifCond .ne 11, 3) := by decide +kernel
theorem dX0_survey_35 : decode cX0_survey 35 = .ok (.aload_n 0, 1) := by decide +kernel
theorem dX0_survey_36 : decode cX0_survey 36 = .ok (.invokevirtual 142, 3) := by decide +kernel
theorem dX0_survey_39 : decode cX0_survey 39 = .ok (.aload_n 0, 1) := by decide +kernel
theorem dX0_survey_40 : decode cX0_survey 40 = .ok (.invokevirtual 145, 3) := by decide +kernel
theorem dX0_survey_43 : decode cX0_survey 43 = .ok (.aload_n 0, 1) := by decide +kernel
theorem dX0_survey_44 : decode cX0_survey 44 = .ok (.iconst 1, 1) := by decide +kernel
theorem dX0_survey_45 : decode cX0_survey 45 = .ok (.putfield 69, 3) := by decide +kernel
theorem dX0_survey_48 : decode cX0_survey 48 = .ok (.return_, 1) := by decide +kernel
theorem dX0_findWhatStatesComeTo_0 : decode cX0_findWhatStatesComeTo 0 = .ok (.iconst 0, 1) := by decide +kernel
theorem dX0_findWhatStatesComeTo_1 : decode cX0_findWhatStatesComeTo 1 = .ok (.istore_n 1, 1) := by decide +kernel
theorem dX0_findWhatStatesComeTo_2 : decode cX0_findWhatStatesComeTo 2 = .ok (.iload_n 1, 1) := by decide +kernel
theorem dX0_findWhatStatesComeTo_3 : decode cX0_findWhatStatesComeTo 3 = .ok (.aload_n 0, 1) := by decide +kernel
theorem dX0_findWhatStatesComeTo_4 : decode cX0_findWhatStatesComeTo 4 = .ok (.getfield 109, 3) := by decide +kernel
theorem dX0_findWhatStatesComeTo_7 : decode cX0_findWhatStatesComeTo 7 = .ok (.if_icmp .ge 20, 3) := by decide +kernel
theorem dX0_findWhatStatesComeTo_10 : decode cX0_findWhatStatesComeTo 10 = .ok (.aload_n 0, 1) := by decide +kernel
theorem dX0_findWhatStatesComeTo_11 : decode cX0_findWhatStatesComeTo 11 = .ok (.getfield 23, 3) := by decide +kernel
theorem dX0_findWhatStatesComeTo_14 : decode cX0_findWhatStatesComeTo 14 = .ok (.iload_n 1, 1) := by decide +kernel
theorem dX0_findWhatStatesComeTo_15 : decode cX0_findWhatStatesComeTo 15 = .ok (.aload_n 0, 1) := by decide +kernel
theorem dX0_findWhatStatesComeTo_16 : decode cX0_findWhatStatesComeTo 16 = .ok (.iload_n 1, 1) := by decide +kernel
theorem dX0_findWhatStatesComeTo_17 : decode cX0_findWhatStatesComeTo 17 = .ok (.invokevirtual 148, 3) := by decide +kernel
theorem dX0_findWhatStatesComeTo_20 : decode cX0_findWhatStatesComeTo 20 = .ok (.lastore, 1) := by decide +kernel
theorem dX0_findWhatStatesComeTo_21 : decode cX0_findWhatStatesComeTo 21 = .ok (.iinc 1 1, 3) := by decide +kernel
theorem dX0_findWhatStatesComeTo_24 : decode cX0_findWhatStatesComeTo 24 = .ok (.goto (-22), 3) := by decide +kernel
theorem dX0_findWhatStatesComeTo_27 : decode cX0_findWhatStatesComeTo 27 = .ok (.iconst 0, 1) := by decide +kernel
theorem dX0_findWhatStatesComeTo_28 : decode cX0_findWhatStatesComeTo 28 = .ok (.istore_n 1, 1) := by decide +kernel
theorem dX0_findWhatStatesComeTo_29 : decode cX0_findWhatStatesComeTo 29 = .ok (.iload_n 1, 1) := by decide +kernel
theorem dX0_findWhatStatesComeTo_30 : decode cX0_findWhatStatesComeTo 30 = .ok (.aload_n 0, 1) := by decide +kernel
theorem dX0_findWhatStatesComeTo_31 : decode cX0_findWhatStatesComeTo 31 = .ok (.getfield 109, 3) := by decide +kernel
theorem dX0_findWhatStatesComeTo_34 : decode cX0_findWhatStatesComeTo 34 = .ok (.if_icmp .ge 53, 3) := by decide +kernel
theorem dX0_findWhatStatesComeTo_37 : decode cX0_findWhatStatesComeTo 37 = .ok (.iconst 0, 1) := by decide +kernel
theorem dX0_findWhatStatesComeTo_38 : decode cX0_findWhatStatesComeTo 38 = .ok (.istore_n 2, 1) := by decide +kernel
theorem dX0_findWhatStatesComeTo_39 : decode cX0_findWhatStatesComeTo 39 = .ok (.iload_n 2, 1) := by decide +kernel
theorem dX0_findWhatStatesComeTo_40 : decode cX0_findWhatStatesComeTo 40 = .ok (.aload_n 0, 1) := by decide +kernel
theorem dX0_findWhatStatesComeTo_41 : decode cX0_findWhatStatesComeTo 41 = .ok (.getfield 109, 3) := by decide +kernel
theorem dX0_findWhatStatesComeTo_44 : decode cX0_findWhatStatesComeTo 44 = .ok (.if_icmp .ge 37, 3) := by decide +kernel
theorem dX0_findWhatStatesComeTo_47 : decode cX0_findWhatStatesComeTo 47 = .ok (.aload_n 0, 1) := by decide +kernel
theorem dX0_findWhatStatesComeTo_48 : decode cX0_findWhatStatesComeTo 48 = .ok (.getfield 23, 3) := by decide +kernel
theorem dX0_findWhatStatesComeTo_51 : decode cX0_findWhatStatesComeTo 51 = .ok (.iload_n 2, 1) := by decide +kernel
theorem dX0_findWhatStatesComeTo_52 : decode cX0_findWhatStatesComeTo 52 = .ok (.laload, 1) := by decide +kernel
theorem dX0_findWhatStatesComeTo_53 : decode cX0_findWhatStatesComeTo 53 = .ok (.iload_n 1, 1) := by decide +kernel
theorem dX0_findWhatStatesComeTo_54 : decode cX0_findWhatStatesComeTo 54 = .ok (.invokestatic 130, 3) := by decide +kernel
theorem dX0_findWhatStatesComeTo_57 : decode cX0_findWhatStatesComeTo 57 = .ok (.ifCond .eq 18, 3) := by decide +kernel
theorem dX0_findWhatStatesComeTo_60 : decode cX0_findWhatStatesComeTo 60 = .ok (.aload_n 0, 1) := by decide +kernel
theorem dX0_findWhatStatesComeTo_61 : decode cX0_findWhatStatesComeTo 61 = .ok (.getfield 23, 3) := by decide +kernel
theorem dX0_findWhatStatesComeTo_64 : decode cX0_findWhatStatesComeTo 64 = .ok (.iload_n 2, 1) := by decide +kernel
theorem dX0_findWhatStatesComeTo_65 : decode cX0_findWhatStatesComeTo 65 = .ok (.dup2, 1) := by decide +kernel
theorem dX0_findWhatStatesComeTo_66 : decode cX0_findWhatStatesComeTo 66 = .ok (.laload, 1) := by decide +kernel
theorem dX0_findWhatStatesComeTo_67 : decode cX0_findWhatStatesComeTo 67 = .ok (.aload_n 0, 1) := by decide +kernel
theorem dX0_findWhatStatesComeTo_68 : decode cX0_findWhatStatesComeTo 68 = .ok (.getfield 23, 3) := by decide +kernel
theorem dX0_findWhatStatesComeTo_71 : decode cX0_findWhatStatesComeTo 71 = .ok (.iload_n 1, 1) := by decide +kernel
theorem dX0_findWhatStatesComeTo_72 : decode cX0_findWhatStatesComeTo 72 = .ok (.laload, 1) := by decide +kernel
theorem dX0_findWhatStatesComeTo_73 : decode cX0_findWhatStatesComeTo 73 = .ok (.lor, 1) := by decide +kernel
theorem dX0_findWhatStatesComeTo_74 : decode cX0_findWhatStatesComeTo 74 = .ok (.lastore, 1) := by decide +kernel
theorem dX0_findWhatStatesComeTo_75 : decode cX0_findWhatStatesComeTo 75 = .ok (.iinc 2 1, 3) := by decide +kernel
theorem dX0_findWhatStatesComeTo_78 : decode cX0_findWhatStatesComeTo 78 = .ok (.goto (-39), 3) := by decide +kernel
theorem dX0_findWhatStatesComeTo_81 : decode cX0_findWhatStatesComeTo 81 = .ok (.iinc 1 1, 3) := by decide +kernel
theorem dX0_findWhatStatesComeTo_84 : decode cX0_findWhatStatesComeTo 84 = .ok (.goto (-55), 3) := by decide +kernel
theorem dX0_findWhatStatesComeTo_87 : decode cX0_findWhatStatesComeTo 87 = .ok (.return_, 1) := by decide +kernel
theorem dX0_goesTo_0 : decode cX0_goesTo 0 = .ok (.lconst 0, 1) := by decide +kernel
theorem dX0_goesTo_1 : decode cX0_goesTo 1 = .ok (.lstore_n 2, 1) := by decide +kernel
theorem dX0_goesTo_2 : decode cX0_goesTo 2 = .ok (.aload_n 0, 1) := by decide +kernel
theorem dX0_goesTo_3 : decode cX0_goesTo 3 = .ok (.iload_n 1, 1) := by decide +kernel
theorem dX0_goesTo_4 : decode cX0_goesTo 4 = .ok (.invokevirtual 120, 3) := by decide +kernel
theorem dX0_goesTo_7 : decode cX0_goesTo 7 = .ok (.istore 4, 2) := by decide +kernel
theorem dX0_goesTo_9 : decode cX0_goesTo 9 = .ok (.iconst 0, 1) := by decide +kernel
theorem dX0_goesTo_10 : decode cX0_goesTo 10 = .ok (.istore 5, 2) := by decide +kernel
theorem dX0_goesTo_12 : decode cX0_goesTo 12 = .ok (.iload 5, 2) := by decide +kernel
theorem dX0_goesTo_14 : decode cX0_goesTo 14 = .ok (.iload 4, 2) := by decide +kernel
theorem dX0_goesTo_16 : decode cX0_goesTo 16 = .ok (.if_icmp .ge 21, 3) := by decide +kernel
theorem dX0_goesTo_19 : decode cX0_goesTo 19 = .ok (.lload_n 2, 1) := by decide +kernel
theorem dX0_goesTo_20 : decode cX0_goesTo 20 = .ok (.lconst 1, 1) := by decide +kernel
theorem dX0_goesTo_21 : decode cX0_goesTo 21 = .ok (.aload_n 0, 1) := by decide +kernel
theorem dX0_goesTo_22 : decode cX0_goesTo 22 = .ok (.iload_n 1, 1) := by decide +kernel
theorem dX0_goesTo_23 : decode cX0_goesTo 23 = .ok (.iload 5, 2) := by decide +kernel
theorem dX0_goesTo_25 : decode cX0_goesTo 25 = .ok (.invokevirtual 73, 3) := by decide +kernel
theorem dX0_goesTo_28 : decode cX0_goesTo 28 = .ok (.lshl, 1) := by decide +kernel
theorem dX0_goesTo_29 : decode cX0_goesTo 29 = .ok (.lor, 1) := by decide +kernel
theorem dX0_goesTo_30 : decode cX0_goesTo 30 = .ok (.lstore_n 2, 1) := by decide +kernel
theorem dX0_goesTo_31 : decode cX0_goesTo 31 = .ok (.iinc 5 1, 3) := by decide +kernel
theorem dX0_goesTo_34 : decode cX0_goesTo 34 = .ok (.goto (-22), 3) := by decide +kernel
theorem dX0_goesTo_37 : decode cX0_goesTo 37 = .ok (.lload_n 2, 1) := by decide +kernel
theorem dX0_goesTo_38 : decode cX0_goesTo 38 = .ok (.lreturn, 1) := by decide +kernel
theorem dX0_findDefect_0 : decode cX0_findDefect 0 = .ok (.aload_n 0, 1) := by decide +kernel
theorem dX0_findDefect_1 : decode cX0_findDefect 1 = .ok (.iconst 0, 1) := by decide +kernel
theorem dX0_findDefect_2 : decode cX0_findDefect 2 = .ok (.putfield 92, 3) := by decide +kernel
theorem dX0_findDefect_5 : decode cX0_findDefect 5 = .ok (.aload_n 0, 1) := by decide +kernel
theorem dX0_findDefect_6 : decode cX0_findDefect 6 = .ok (.iconst (-1), 1) := by decide +kernel
theorem dX0_findDefect_7 : decode cX0_findDefect 7 = .ok (.putfield 96, 3) := by decide +kernel
theorem dX0_findDefect_10 : decode cX0_findDefect 10 = .ok (.iconst 0, 1) := by decide +kernel
theorem dX0_findDefect_11 : decode cX0_findDefect 11 = .ok (.istore_n 1, 1) := by decide +kernel
theorem dX0_findDefect_12 : decode cX0_findDefect 12 = .ok (.iload_n 1, 1) := by decide +kernel
theorem dX0_findDefect_13 : decode cX0_findDefect 13 = .ok (.aload_n 0, 1) := by decide +kernel
theorem dX0_findDefect_14 : decode cX0_findDefect 14 = .ok (.getfield 109, 3) := by decide +kernel
theorem dX0_findDefect_17 : decode cX0_findDefect 17 = .ok (.if_icmp .ge 54, 3) := by decide +kernel
theorem dX0_findDefect_20 : decode cX0_findDefect 20 = .ok (.aload_n 0, 1) := by decide +kernel
theorem dX0_findDefect_21 : decode cX0_findDefect 21 = .ok (.getfield 92, 3) := by decide +kernel
theorem dX0_findDefect_24 : decode cX0_findDefect 24 = .ok (.ifCond .ne 47, 3) := by decide +kernel
theorem dX0_findDefect_27 : decode cX0_findDefect 27 = .ok (.aload_n 0, 1) := by decide +kernel
theorem dX0_findDefect_28 : decode cX0_findDefect 28 = .ok (.getfield 80, 3) := by decide +kernel
theorem dX0_findDefect_31 : decode cX0_findDefect 31 = .ok (.iload_n 1, 1) := by decide +kernel
theorem dX0_findDefect_32 : decode cX0_findDefect 32 = .ok (.invokestatic 130, 3) := by decide +kernel
theorem dX0_findDefect_35 : decode cX0_findDefect 35 = .ok (.ifCond .eq 30, 3) := by decide +kernel
theorem dX0_findDefect_38 : decode cX0_findDefect 38 = .ok (.aload_n 0, 1) := by decide +kernel
theorem dX0_findDefect_39 : decode cX0_findDefect 39 = .ok (.iload_n 1, 1) := by decide +kernel
theorem dX0_findDefect_40 : decode cX0_findDefect 40 = .ok (.aload_n 0, 1) := by decide +kernel
theorem dX0_findDefect_41 : decode cX0_findDefect 41 = .ok (.getfield 9, 3) := by decide +kernel
theorem dX0_findDefect_44 : decode cX0_findDefect 44 = .ok (.iload_n 1, 1) := by decide +kernel
theorem dX0_findDefect_45 : decode cX0_findDefect 45 = .ok (.baload, 1) := by decide +kernel
theorem dX0_findDefect_46 : decode cX0_findDefect 46 = .ok (.ifCond .eq 11, 3) := by decide +kernel
theorem dX0_findDefect_49 : decode cX0_findDefect 49 = .ok (.aload_n 0, 1) := by decide +kernel
theorem dX0_findDefect_50 : decode cX0_findDefect 50 = .ok (.iload_n 1, 1) := by decide +kernel
theorem dX0_findDefect_51 : decode cX0_findDefect 51 = .ok (.invokevirtual 152, 3) := by decide +kernel
theorem dX0_findDefect_54 : decode cX0_findDefect 54 = .ok (.goto 8, 3) := by decide +kernel
theorem dX0_findDefect_57 : decode cX0_findDefect 57 = .ok (.aload_n 0, 1) := by decide +kernel
theorem dX0_findDefect_58 : decode cX0_findDefect 58 = .ok (.iload_n 1, 1) := by decide +kernel
theorem dX0_findDefect_59 : decode cX0_findDefect 59 = .ok (.invokevirtual 155, 3) := by decide +kernel
theorem dX0_findDefect_62 : decode cX0_findDefect 62 = .ok (.invokevirtual 158, 3) := by decide +kernel
theorem dX0_findDefect_65 : decode cX0_findDefect 65 = .ok (.iinc 1 1, 3) := by decide +kernel
theorem dX0_findDefect_68 : decode cX0_findDefect 68 = .ok (.goto (-56), 3) := by decide +kernel
theorem dX0_findDefect_71 : decode cX0_findDefect 71 = .ok (.iconst 0, 1) := by decide +kernel
theorem dX0_findDefect_72 : decode cX0_findDefect 72 = .ok (.istore_n 1, 1) := by decide +kernel
theorem dX0_findDefect_73 : decode cX0_findDefect 73 = .ok (.iload_n 1, 1) := by decide +kernel
theorem dX0_findDefect_74 : decode cX0_findDefect 74 = .ok (.aload_n 0, 1) := by decide +kernel
theorem dX0_findDefect_75 : decode cX0_findDefect 75 = .ok (.getfield 109, 3) := by decide +kernel
theorem dX0_findDefect_78 : decode cX0_findDefect 78 = .ok (.if_icmp .ge 51, 3) := by decide +kernel
theorem dX0_findDefect_81 : decode cX0_findDefect 81 = .ok (.aload_n 0, 1) := by decide +kernel
theorem dX0_findDefect_82 : decode cX0_findDefect 82 = .ok (.getfield 92, 3) := by decide +kernel
theorem dX0_findDefect_85 : decode cX0_findDefect 85 = .ok (.ifCond .ne 44, 3) := by decide +kernel
theorem dX0_findDefect_88 : decode cX0_findDefect 88 = .ok (.aload_n 0, 1) := by decide +kernel
theorem dX0_findDefect_89 : decode cX0_findDefect 89 = .ok (.getfield 80, 3) := by decide +kernel
theorem dX0_findDefect_92 : decode cX0_findDefect 92 = .ok (.iload_n 1, 1) := by decide +kernel
theorem dX0_findDefect_93 : decode cX0_findDefect 93 = .ok (.invokestatic 130, 3) := by decide +kernel
theorem dX0_findDefect_96 : decode cX0_findDefect 96 = .ok (.ifCond .eq 27, 3) := by decide +kernel
theorem dX0_findDefect_99 : decode cX0_findDefect 99 = .ok (.aload_n 0, 1) := by decide +kernel
theorem dX0_findDefect_100 : decode cX0_findDefect 100 = .ok (.iload_n 1, 1) := by decide +kernel
theorem dX0_findDefect_101 : decode cX0_findDefect 101 = .ok (.aload_n 0, 1) := by decide +kernel
theorem dX0_findDefect_102 : decode cX0_findDefect 102 = .ok (.getfield 23, 3) := by decide +kernel
theorem dX0_findDefect_105 : decode cX0_findDefect 105 = .ok (.iload_n 1, 1) := by decide +kernel
theorem dX0_findDefect_106 : decode cX0_findDefect 106 = .ok (.laload, 1) := by decide +kernel
theorem dX0_findDefect_107 : decode cX0_findDefect 107 = .ok (.iload_n 1, 1) := by decide +kernel
theorem dX0_findDefect_108 : decode cX0_findDefect 108 = .ok (.invokestatic 130, 3) := by decide +kernel
theorem dX0_findDefect_111 : decode cX0_findDefect 111 = .ok (.ifCond .eq 8, 3) := by decide +kernel
theorem dX0_findDefect_114 : decode cX0_findDefect 114 = .ok (.bipush 6, 2) := by decide +kernel
theorem dX0_findDefect_116 : decode cX0_findDefect 116 = .ok (.goto 4, 3) := by decide +kernel
theorem dX0_findDefect_119 : decode cX0_findDefect 119 = .ok (.iconst 0, 1) := by decide +kernel
theorem dX0_findDefect_120 : decode cX0_findDefect 120 = .ok (.invokevirtual 158, 3) := by decide +kernel
theorem dX0_findDefect_123 : decode cX0_findDefect 123 = .ok (.iinc 1 1, 3) := by decide +kernel
theorem dX0_findDefect_126 : decode cX0_findDefect 126 = .ok (.goto (-53), 3) := by decide +kernel
theorem dX0_findDefect_129 : decode cX0_findDefect 129 = .ok (.return_, 1) := by decide +kernel
theorem dX0_noteDefect_0 : decode cX0_noteDefect 0 = .ok (.iload_n 2, 1) := by decide +kernel
theorem dX0_noteDefect_1 : decode cX0_noteDefect 1 = .ok (.ifCond .eq 13, 3) := by decide +kernel
theorem dX0_noteDefect_4 : decode cX0_noteDefect 4 = .ok (.aload_n 0, 1) := by decide +kernel
theorem dX0_noteDefect_5 : decode cX0_noteDefect 5 = .ok (.iload_n 2, 1) := by decide +kernel
theorem dX0_noteDefect_6 : decode cX0_noteDefect 6 = .ok (.putfield 92, 3) := by decide +kernel
theorem dX0_noteDefect_9 : decode cX0_noteDefect 9 = .ok (.aload_n 0, 1) := by decide +kernel
theorem dX0_noteDefect_10 : decode cX0_noteDefect 10 = .ok (.iload_n 1, 1) := by decide +kernel
theorem dX0_noteDefect_11 : decode cX0_noteDefect 11 = .ok (.putfield 96, 3) := by decide +kernel
theorem dX0_noteDefect_14 : decode cX0_noteDefect 14 = .ok (.return_, 1) := by decide +kernel
theorem dX0_defectOfOpen_0 : decode cX0_defectOfOpen 0 = .ok (.aload_n 0, 1) := by decide +kernel
theorem dX0_defectOfOpen_1 : decode cX0_defectOfOpen 1 = .ok (.iload_n 1, 1) := by decide +kernel
theorem dX0_defectOfOpen_2 : decode cX0_defectOfOpen 2 = .ok (.invokevirtual 120, 3) := by decide +kernel
theorem dX0_defectOfOpen_5 : decode cX0_defectOfOpen 5 = .ok (.ifCond .ne 5, 3) := by decide +kernel
theorem dX0_defectOfOpen_8 : decode cX0_defectOfOpen 8 = .ok (.iconst 2, 1) := by decide +kernel
theorem dX0_defectOfOpen_9 : decode cX0_defectOfOpen 9 = .ok (.ireturn, 1) := by decide +kernel
theorem dX0_defectOfOpen_10 : decode cX0_defectOfOpen 10 = .ok (.aload_n 0, 1) := by decide +kernel
theorem dX0_defectOfOpen_11 : decode cX0_defectOfOpen 11 = .ok (.getfield 13, 3) := by decide +kernel
theorem dX0_defectOfOpen_14 : decode cX0_defectOfOpen 14 = .ok (.iload_n 1, 1) := by decide +kernel
theorem dX0_defectOfOpen_15 : decode cX0_defectOfOpen 15 = .ok (.iaload, 1) := by decide +kernel
theorem dX0_defectOfOpen_16 : decode cX0_defectOfOpen 16 = .ok (.iconst 1, 1) := by decide +kernel
theorem dX0_defectOfOpen_17 : decode cX0_defectOfOpen 17 = .ok (.if_icmp .le 17, 3) := by decide +kernel
theorem dX0_defectOfOpen_20 : decode cX0_defectOfOpen 20 = .ok (.aload_n 0, 1) := by decide +kernel
theorem dX0_defectOfOpen_21 : decode cX0_defectOfOpen 21 = .ok (.getfield 17, 3) := by decide +kernel
theorem dX0_defectOfOpen_24 : decode cX0_defectOfOpen 24 = .ok (.iload_n 1, 1) := by decide +kernel
theorem dX0_defectOfOpen_25 : decode cX0_defectOfOpen 25 = .ok (.iaload, 1) := by decide +kernel
theorem dX0_defectOfOpen_26 : decode cX0_defectOfOpen 26 = .ok (.iconst 1, 1) := by decide +kernel
theorem dX0_defectOfOpen_27 : decode cX0_defectOfOpen 27 = .ok (.if_icmp .le 7, 3) := by decide +kernel
theorem dX0_defectOfOpen_30 : decode cX0_defectOfOpen 30 = .ok (.iconst 3, 1) := by decide +kernel
theorem dX0_defectOfOpen_31 : decode cX0_defectOfOpen 31 = .ok (.goto 4, 3) := by decide +kernel
theorem dX0_defectOfOpen_34 : decode cX0_defectOfOpen 34 = .ok (.iconst 0, 1) := by decide +kernel
theorem dX0_defectOfOpen_35 : decode cX0_defectOfOpen 35 = .ok (.ireturn, 1) := by decide +kernel
theorem dX0_defectOfEnd_0 : decode cX0_defectOfEnd 0 = .ok (.aload_n 0, 1) := by decide +kernel
theorem dX0_defectOfEnd_1 : decode cX0_defectOfEnd 1 = .ok (.getfield 13, 3) := by decide +kernel
theorem dX0_defectOfEnd_4 : decode cX0_defectOfEnd 4 = .ok (.iload_n 1, 1) := by decide +kernel
theorem dX0_defectOfEnd_5 : decode cX0_defectOfEnd 5 = .ok (.iaload, 1) := by decide +kernel
theorem dX0_defectOfEnd_6 : decode cX0_defectOfEnd 6 = .ok (.ifCond .lt 12, 3) := by decide +kernel
theorem dX0_defectOfEnd_9 : decode cX0_defectOfEnd 9 = .ok (.aload_n 0, 1) := by decide +kernel
theorem dX0_defectOfEnd_10 : decode cX0_defectOfEnd 10 = .ok (.getfield 17, 3) := by decide +kernel
theorem dX0_defectOfEnd_13 : decode cX0_defectOfEnd 13 = .ok (.iload_n 1, 1) := by decide +kernel
theorem dX0_defectOfEnd_14 : decode cX0_defectOfEnd 14 = .ok (.iaload, 1) := by decide +kernel
theorem dX0_defectOfEnd_15 : decode cX0_defectOfEnd 15 = .ok (.ifCond .ge 5, 3) := by decide +kernel
theorem dX0_defectOfEnd_18 : decode cX0_defectOfEnd 18 = .ok (.iconst 4, 1) := by decide +kernel
theorem dX0_defectOfEnd_19 : decode cX0_defectOfEnd 19 = .ok (.ireturn, 1) := by decide +kernel
theorem dX0_defectOfEnd_20 : decode cX0_defectOfEnd 20 = .ok (.aload_n 0, 1) := by decide +kernel
theorem dX0_defectOfEnd_21 : decode cX0_defectOfEnd 21 = .ok (.getfield 13, 3) := by decide +kernel
theorem dX0_defectOfEnd_24 : decode cX0_defectOfEnd 24 = .ok (.iload_n 1, 1) := by decide +kernel
theorem dX0_defectOfEnd_25 : decode cX0_defectOfEnd 25 = .ok (.iaload, 1) := by decide +kernel
theorem dX0_defectOfEnd_26 : decode cX0_defectOfEnd 26 = .ok (.aload_n 0, 1) := by decide +kernel
theorem dX0_defectOfEnd_27 : decode cX0_defectOfEnd 27 = .ok (.getfield 17, 3) := by decide +kernel
theorem dX0_defectOfEnd_30 : decode cX0_defectOfEnd 30 = .ok (.iload_n 1, 1) := by decide +kernel
theorem dX0_defectOfEnd_31 : decode cX0_defectOfEnd 31 = .ok (.iaload, 1) := by decide +kernel
theorem dX0_defectOfEnd_32 : decode cX0_defectOfEnd 32 = .ok (.iadd, 1) := by decide +kernel
theorem dX0_defectOfEnd_33 : decode cX0_defectOfEnd 33 = .ok (.bipush 100, 2) := by decide +kernel
theorem dX0_defectOfEnd_35 : decode cX0_defectOfEnd 35 = .ok (.if_icmp .eq 7, 3) := by decide +kernel
theorem dX0_defectOfEnd_38 : decode cX0_defectOfEnd 38 = .ok (.iconst 5, 1) := by decide +kernel
theorem dX0_defectOfEnd_39 : decode cX0_defectOfEnd 39 = .ok (.goto 4, 3) := by decide +kernel
theorem dX0_defectOfEnd_42 : decode cX0_defectOfEnd 42 = .ok (.iconst 0, 1) := by decide +kernel
theorem dX0_defectOfEnd_43 : decode cX0_defectOfEnd 43 = .ok (.ireturn, 1) := by decide +kernel
theorem dX0_findLengths_0 : decode cX0_findLengths 0 = .ok (.lconst 0, 1) := by decide +kernel
theorem dX0_findLengths_1 : decode cX0_findLengths 1 = .ok (.lstore_n 1, 1) := by decide +kernel
theorem dX0_findLengths_2 : decode cX0_findLengths 2 = .ok (.iconst 0, 1) := by decide +kernel
theorem dX0_findLengths_3 : decode cX0_findLengths 3 = .ok (.istore_n 3, 1) := by decide +kernel
theorem dX0_findLengths_4 : decode cX0_findLengths 4 = .ok (.iload_n 3, 1) := by decide +kernel
theorem dX0_findLengths_5 : decode cX0_findLengths 5 = .ok (.aload_n 0, 1) := by decide +kernel
theorem dX0_findLengths_6 : decode cX0_findLengths 6 = .ok (.getfield 109, 3) := by decide +kernel
theorem dX0_findLengths_9 : decode cX0_findLengths 9 = .ok (.if_icmp .ge 98, 3) := by decide +kernel
theorem dX0_findLengths_12 : decode cX0_findLengths 12 = .ok (.lload_n 1, 1) := by decide +kernel
theorem dX0_findLengths_13 : decode cX0_findLengths 13 = .ok (.lstore 4, 2) := by decide +kernel
theorem dX0_findLengths_15 : decode cX0_findLengths 15 = .ok (.iconst 0, 1) := by decide +kernel
theorem dX0_findLengths_16 : decode cX0_findLengths 16 = .ok (.istore 6, 2) := by decide +kernel
theorem dX0_findLengths_18 : decode cX0_findLengths 18 = .ok (.iload 6, 2) := by decide +kernel
theorem dX0_findLengths_20 : decode cX0_findLengths 20 = .ok (.aload_n 0, 1) := by decide +kernel
theorem dX0_findLengths_21 : decode cX0_findLengths 21 = .ok (.getfield 109, 3) := by decide +kernel
theorem dX0_findLengths_24 : decode cX0_findLengths 24 = .ok (.if_icmp .ge 77, 3) := by decide +kernel
theorem dX0_findLengths_27 : decode cX0_findLengths 27 = .ok (.aload_n 0, 1) := by decide +kernel
theorem dX0_findLengths_28 : decode cX0_findLengths 28 = .ok (.getfield 80, 3) := by decide +kernel
theorem dX0_findLengths_31 : decode cX0_findLengths 31 = .ok (.iload 6, 2) := by decide +kernel
theorem dX0_findLengths_33 : decode cX0_findLengths 33 = .ok (.invokestatic 130, 3) := by decide +kernel
theorem dX0_findLengths_36 : decode cX0_findLengths 36 = .ok (.ifCond .eq 17, 3) := by decide +kernel
theorem dX0_findLengths_39 : decode cX0_findLengths 39 = .ok (.lload 4, 2) := by decide +kernel
theorem dX0_findLengths_41 : decode cX0_findLengths 41 = .ok (.iload 6, 2) := by decide +kernel
theorem dX0_findLengths_43 : decode cX0_findLengths 43 = .ok (.invokestatic 130, 3) := by decide +kernel
theorem dX0_findLengths_46 : decode cX0_findLengths 46 = .ok (.ifCond .ne 7, 3) := by decide +kernel
theorem dX0_findLengths_49 : decode cX0_findLengths 49 = .ok (.iconst 1, 1) := by decide +kernel
theorem dX0_findLengths_50 : decode cX0_findLengths 50 = .ok (.goto 4, 3) := by decide +kernel
theorem dX0_findLengths_53 : decode cX0_findLengths 53 = .ok (.iconst 0, 1) := by decide +kernel
theorem dX0_findLengths_54 : decode cX0_findLengths 54 = .ok (.istore 7, 2) := by decide +kernel
theorem dX0_findLengths_56 : decode cX0_findLengths 56 = .ok (.iload 7, 2) := by decide +kernel
theorem dX0_findLengths_58 : decode cX0_findLengths 58 = .ok (.ifCond .eq 37, 3) := by decide +kernel
theorem dX0_findLengths_61 : decode cX0_findLengths 61 = .ok (.aload_n 0, 1) := by decide +kernel
theorem dX0_findLengths_62 : decode cX0_findLengths 62 = .ok (.getfield 23, 3) := by decide +kernel
theorem dX0_findLengths_65 : decode cX0_findLengths 65 = .ok (.iload 6, 2) := by decide +kernel
theorem dX0_findLengths_67 : decode cX0_findLengths 67 = .ok (.laload, 1) := by decide +kernel
theorem dX0_findLengths_68 : decode cX0_findLengths 68 = .ok (.lload 4, 2) := by decide +kernel
theorem dX0_findLengths_70 : decode cX0_findLengths 70 = .ok (.ldc2_w 161, 3) := by decide +kernel
theorem dX0_findLengths_73 : decode cX0_findLengths 73 = .ok (.lxor, 1) := by decide +kernel
theorem dX0_findLengths_74 : decode cX0_findLengths 74 = .ok (.land, 1) := by decide +kernel
theorem dX0_findLengths_75 : decode cX0_findLengths 75 = .ok (.lconst 0, 1) := by decide +kernel
theorem dX0_findLengths_76 : decode cX0_findLengths 76 = .ok (.lcmp, 1) := by decide +kernel
theorem dX0_findLengths_77 : decode cX0_findLengths 77 = .ok (.ifCond .ne 18, 3) := by decide +kernel
theorem dX0_findLengths_80 : decode cX0_findLengths 80 = .ok (.aload_n 0, 1) := by decide +kernel
theorem dX0_findLengths_81 : decode cX0_findLengths 81 = .ok (.getfield 27, 3) := by decide +kernel
theorem dX0_findLengths_84 : decode cX0_findLengths 84 = .ok (.iload 6, 2) := by decide +kernel
theorem dX0_findLengths_86 : decode cX0_findLengths 86 = .ok (.iload_n 3, 1) := by decide +kernel
theorem dX0_findLengths_87 : decode cX0_findLengths 87 = .ok (.iastore, 1) := by decide +kernel
theorem dX0_findLengths_88 : decode cX0_findLengths 88 = .ok (.lload_n 1, 1) := by decide +kernel
theorem dX0_findLengths_89 : decode cX0_findLengths 89 = .ok (.lconst 1, 1) := by decide +kernel
theorem dX0_findLengths_90 : decode cX0_findLengths 90 = .ok (.iload 6, 2) := by decide +kernel
theorem dX0_findLengths_92 : decode cX0_findLengths 92 = .ok (.lshl, 1) := by decide +kernel
theorem dX0_findLengths_93 : decode cX0_findLengths 93 = .ok (.lor, 1) := by decide +kernel
theorem dX0_findLengths_94 : decode cX0_findLengths 94 = .ok (.lstore_n 1, 1) := by decide +kernel
theorem dX0_findLengths_95 : decode cX0_findLengths 95 = .ok (.iinc 6 1, 3) := by decide +kernel
theorem dX0_findLengths_98 : decode cX0_findLengths 98 = .ok (.goto (-80), 3) := by decide +kernel
theorem dX0_findLengths_101 : decode cX0_findLengths 101 = .ok (.iinc 3 1, 3) := by decide +kernel
theorem dX0_findLengths_104 : decode cX0_findLengths 104 = .ok (.goto (-100), 3) := by decide +kernel
theorem dX0_findLengths_107 : decode cX0_findLengths 107 = .ok (.return_, 1) := by decide +kernel
theorem dX0_boundValues_0 : decode cX0_boundValues 0 = .ok (.iconst 0, 1) := by decide +kernel
theorem dX0_boundValues_1 : decode cX0_boundValues 1 = .ok (.istore_n 1, 1) := by decide +kernel
theorem dX0_boundValues_2 : decode cX0_boundValues 2 = .ok (.iload_n 1, 1) := by decide +kernel
theorem dX0_boundValues_3 : decode cX0_boundValues 3 = .ok (.aload_n 0, 1) := by decide +kernel
theorem dX0_boundValues_4 : decode cX0_boundValues 4 = .ok (.getfield 109, 3) := by decide +kernel
theorem dX0_boundValues_7 : decode cX0_boundValues 7 = .ok (.if_icmp .ge 60, 3) := by decide +kernel
theorem dX0_boundValues_10 : decode cX0_boundValues 10 = .ok (.aload_n 0, 1) := by decide +kernel
theorem dX0_boundValues_11 : decode cX0_boundValues 11 = .ok (.getfield 30, 3) := by decide +kernel
theorem dX0_boundValues_14 : decode cX0_boundValues 14 = .ok (.iload_n 1, 1) := by decide +kernel
theorem dX0_boundValues_15 : decode cX0_boundValues 15 = .ok (.aload_n 0, 1) := by decide +kernel
theorem dX0_boundValues_16 : decode cX0_boundValues 16 = .ok (.getfield 9, 3) := by decide +kernel
theorem dX0_boundValues_19 : decode cX0_boundValues 19 = .ok (.iload_n 1, 1) := by decide +kernel
theorem dX0_boundValues_20 : decode cX0_boundValues 20 = .ok (.baload, 1) := by decide +kernel
theorem dX0_boundValues_21 : decode cX0_boundValues 21 = .ok (.ifCond .eq 7, 3) := by decide +kernel
theorem dX0_boundValues_24 : decode cX0_boundValues 24 = .ok (.iconst 0, 1) := by decide +kernel
theorem dX0_boundValues_25 : decode cX0_boundValues 25 = .ok (.goto 9, 3) := by decide +kernel
theorem dX0_boundValues_28 : decode cX0_boundValues 28 = .ok (.aload_n 0, 1) := by decide +kernel
theorem dX0_boundValues_29 : decode cX0_boundValues 29 = .ok (.getfield 13, 3) := by decide +kernel
theorem dX0_boundValues_32 : decode cX0_boundValues 32 = .ok (.iload_n 1, 1) := by decide +kernel
theorem dX0_boundValues_33 : decode cX0_boundValues 33 = .ok (.iaload, 1) := by decide +kernel
theorem dX0_boundValues_34 : decode cX0_boundValues 34 = .ok (.iastore, 1) := by decide +kernel
theorem dX0_boundValues_35 : decode cX0_boundValues 35 = .ok (.aload_n 0, 1) := by decide +kernel
theorem dX0_boundValues_36 : decode cX0_boundValues 36 = .ok (.getfield 33, 3) := by decide +kernel
theorem dX0_boundValues_39 : decode cX0_boundValues 39 = .ok (.iload_n 1, 1) := by decide +kernel
theorem dX0_boundValues_40 : decode cX0_boundValues 40 = .ok (.aload_n 0, 1) := by decide +kernel
theorem dX0_boundValues_41 : decode cX0_boundValues 41 = .ok (.getfield 9, 3) := by decide +kernel
theorem dX0_boundValues_44 : decode cX0_boundValues 44 = .ok (.iload_n 1, 1) := by decide +kernel
theorem dX0_boundValues_45 : decode cX0_boundValues 45 = .ok (.baload, 1) := by decide +kernel
theorem dX0_boundValues_46 : decode cX0_boundValues 46 = .ok (.ifCond .eq 8, 3) := by decide +kernel
theorem dX0_boundValues_49 : decode cX0_boundValues 49 = .ok (.bipush 100, 2) := by decide +kernel
theorem dX0_boundValues_51 : decode cX0_boundValues 51 = .ok (.goto 9, 3) := by decide +kernel
theorem dX0_boundValues_54 : decode cX0_boundValues 54 = .ok (.aload_n 0, 1) := by decide +kernel
theorem dX0_boundValues_55 : decode cX0_boundValues 55 = .ok (.getfield 13, 3) := by decide +kernel
theorem dX0_boundValues_58 : decode cX0_boundValues 58 = .ok (.iload_n 1, 1) := by decide +kernel
theorem dX0_boundValues_59 : decode cX0_boundValues 59 = .ok (.iaload, 1) := by decide +kernel
theorem dX0_boundValues_60 : decode cX0_boundValues 60 = .ok (.iastore, 1) := by decide +kernel
theorem dX0_boundValues_61 : decode cX0_boundValues 61 = .ok (.iinc 1 1, 3) := by decide +kernel
theorem dX0_boundValues_64 : decode cX0_boundValues 64 = .ok (.goto (-62), 3) := by decide +kernel
theorem dX0_boundValues_67 : decode cX0_boundValues 67 = .ok (.return_, 1) := by decide +kernel
theorem dX0_findValue_0 : decode cX0_findValue 0 = .ok (.aload_n 0, 1) := by decide +kernel
theorem dX0_findValue_1 : decode cX0_findValue 1 = .ok (.iload_n 1, 1) := by decide +kernel
theorem dX0_findValue_2 : decode cX0_findValue 2 = .ok (.iconst 0, 1) := by decide +kernel
theorem dX0_findValue_3 : decode cX0_findValue 3 = .ok (.bipush 100, 2) := by decide +kernel
theorem dX0_findValue_5 : decode cX0_findValue 5 = .ok (.iconst 0, 1) := by decide +kernel
theorem dX0_findValue_6 : decode cX0_findValue 6 = .ok (.invokevirtual 163, 3) := by decide +kernel
theorem dX0_findValue_9 : decode cX0_findValue 9 = .ok (.ireturn, 1) := by decide +kernel
theorem dX0_findBest_0 : decode cX0_findBest 0 = .ok (.aload_n 0, 1) := by decide +kernel
theorem dX0_findBest_1 : decode cX0_findBest 1 = .ok (.iload_n 1, 1) := by decide +kernel
theorem dX0_findBest_2 : decode cX0_findBest 2 = .ok (.invokevirtual 102, 3) := by decide +kernel
theorem dX0_findBest_5 : decode cX0_findBest 5 = .ok (.istore_n 2, 1) := by decide +kernel
theorem dX0_findBest_6 : decode cX0_findBest 6 = .ok (.aload_n 0, 1) := by decide +kernel
theorem dX0_findBest_7 : decode cX0_findBest 7 = .ok (.iload_n 1, 1) := by decide +kernel
theorem dX0_findBest_8 : decode cX0_findBest 8 = .ok (.invokevirtual 120, 3) := by decide +kernel
theorem dX0_findBest_11 : decode cX0_findBest 11 = .ok (.istore_n 3, 1) := by decide +kernel
theorem dX0_findBest_12 : decode cX0_findBest 12 = .ok (.iconst 0, 1) := by decide +kernel
theorem dX0_findBest_13 : decode cX0_findBest 13 = .ok (.istore 4, 2) := by decide +kernel
theorem dX0_findBest_15 : decode cX0_findBest 15 = .ok (.iload 4, 2) := by decide +kernel
theorem dX0_findBest_17 : decode cX0_findBest 17 = .ok (.iload_n 3, 1) := by decide +kernel
theorem dX0_findBest_18 : decode cX0_findBest 18 = .ok (.if_icmp .ge 34, 3) := by decide +kernel
theorem dX0_findBest_21 : decode cX0_findBest 21 = .ok (.aload_n 0, 1) := by decide +kernel
theorem dX0_findBest_22 : decode cX0_findBest 22 = .ok (.aload_n 0, 1) := by decide +kernel
theorem dX0_findBest_23 : decode cX0_findBest 23 = .ok (.iload_n 1, 1) := by decide +kernel
theorem dX0_findBest_24 : decode cX0_findBest 24 = .ok (.iload 4, 2) := by decide +kernel
theorem dX0_findBest_26 : decode cX0_findBest 26 = .ok (.invokevirtual 73, 3) := by decide +kernel
theorem dX0_findBest_29 : decode cX0_findBest 29 = .ok (.iload_n 2, 1) := by decide +kernel
theorem dX0_findBest_30 : decode cX0_findBest 30 = .ok (.iconst 1, 1) := by decide +kernel
theorem dX0_findBest_31 : decode cX0_findBest 31 = .ok (.isub, 1) := by decide +kernel
theorem dX0_findBest_32 : decode cX0_findBest 32 = .ok (.iload_n 2, 1) := by decide +kernel
theorem dX0_findBest_33 : decode cX0_findBest 33 = .ok (.iconst 1, 1) := by decide +kernel
theorem dX0_findBest_34 : decode cX0_findBest 34 = .ok (.iadd, 1) := by decide +kernel
theorem dX0_findBest_35 : decode cX0_findBest 35 = .ok (.iconst 0, 1) := by decide +kernel
theorem dX0_findBest_36 : decode cX0_findBest 36 = .ok (.invokevirtual 163, 3) := by decide +kernel
theorem dX0_findBest_39 : decode cX0_findBest 39 = .ok (.iload_n 2, 1) := by decide +kernel
theorem dX0_findBest_40 : decode cX0_findBest 40 = .ok (.if_icmp .ne 6, 3) := by decide +kernel
theorem dX0_findBest_43 : decode cX0_findBest 43 = .ok (.iload 4, 2) := by decide +kernel
theorem dX0_findBest_45 : decode cX0_findBest 45 = .ok (.ireturn, 1) := by decide +kernel
theorem dX0_findBest_46 : decode cX0_findBest 46 = .ok (.iinc 4 1, 3) := by decide +kernel
theorem dX0_findBest_49 : decode cX0_findBest 49 = .ok (.goto (-34), 3) := by decide +kernel
theorem dX0_findBest_52 : decode cX0_findBest 52 = .ok (.iconst (-1), 1) := by decide +kernel
theorem dX0_findBest_53 : decode cX0_findBest 53 = .ok (.ireturn, 1) := by decide +kernel
theorem dX0_search_0 : decode cX0_search 0 = .ok (.aload_n 0, 1) := by decide +kernel
theorem dX0_search_1 : decode cX0_search 1 = .ok (.getfield 30, 3) := by decide +kernel
theorem dX0_search_4 : decode cX0_search 4 = .ok (.iload_n 1, 1) := by decide +kernel
theorem dX0_search_5 : decode cX0_search 5 = .ok (.iaload, 1) := by decide +kernel
theorem dX0_search_6 : decode cX0_search 6 = .ok (.aload_n 0, 1) := by decide +kernel
theorem dX0_search_7 : decode cX0_search 7 = .ok (.getfield 33, 3) := by decide +kernel
theorem dX0_search_10 : decode cX0_search 10 = .ok (.iload_n 1, 1) := by decide +kernel
theorem dX0_search_11 : decode cX0_search 11 = .ok (.iaload, 1) := by decide +kernel
theorem dX0_search_12 : decode cX0_search 12 = .ok (.if_icmp .eq 13, 3) := by decide +kernel
theorem dX0_search_15 : decode cX0_search 15 = .ok (.aload_n 0, 1) := by decide +kernel
theorem dX0_search_16 : decode cX0_search 16 = .ok (.getfield 30, 3) := by decide +kernel
theorem dX0_search_19 : decode cX0_search 19 = .ok (.iload_n 1, 1) := by decide +kernel
theorem dX0_search_20 : decode cX0_search 20 = .ok (.iaload, 1) := by decide +kernel
theorem dX0_search_21 : decode cX0_search 21 = .ok (.iload_n 3, 1) := by decide +kernel
theorem dX0_search_22 : decode cX0_search 22 = .ok (.if_icmp .lt 10, 3) := by decide +kernel
theorem dX0_search_25 : decode cX0_search 25 = .ok (.aload_n 0, 1) := by decide +kernel
theorem dX0_search_26 : decode cX0_search 26 = .ok (.getfield 30, 3) := by decide +kernel
theorem dX0_search_29 : decode cX0_search 29 = .ok (.iload_n 1, 1) := by decide +kernel
theorem dX0_search_30 : decode cX0_search 30 = .ok (.iaload, 1) := by decide +kernel
theorem dX0_search_31 : decode cX0_search 31 = .ok (.ireturn, 1) := by decide +kernel
theorem dX0_search_32 : decode cX0_search 32 = .ok (.aload_n 0, 1) := by decide +kernel
theorem dX0_search_33 : decode cX0_search 33 = .ok (.getfield 33, 3) := by decide +kernel
theorem dX0_search_36 : decode cX0_search 36 = .ok (.iload_n 1, 1) := by decide +kernel
theorem dX0_search_37 : decode cX0_search 37 = .ok (.iaload, 1) := by decide +kernel
theorem dX0_search_38 : decode cX0_search 38 = .ok (.iload_n 2, 1) := by decide +kernel
theorem dX0_search_39 : decode cX0_search 39 = .ok (.if_icmp .le 12, 3) := by decide +kernel
theorem dX0_search_42 : decode cX0_search 42 = .ok (.iload 4, 2) := by decide +kernel
theorem dX0_search_44 : decode cX0_search 44 = .ok (.aload_n 0, 1) := by decide +kernel
theorem dX0_search_45 : decode cX0_search 45 = .ok (.getfield 109, 3) := by decide +kernel
theorem dX0_search_48 : decode cX0_search 48 = .ok (.if_icmp .lt 10, 3) := by decide +kernel
theorem dX0_search_51 : decode cX0_search 51 = .ok (.aload_n 0, 1) := by decide +kernel
theorem dX0_search_52 : decode cX0_search 52 = .ok (.getfield 33, 3) := by decide +kernel
theorem dX0_search_55 : decode cX0_search 55 = .ok (.iload_n 1, 1) := by decide +kernel
theorem dX0_search_56 : decode cX0_search 56 = .ok (.iaload, 1) := by decide +kernel
theorem dX0_search_57 : decode cX0_search 57 = .ok (.ireturn, 1) := by decide +kernel
theorem dX0_search_58 : decode cX0_search 58 = .ok (.aload_n 0, 1) := by decide +kernel
theorem dX0_search_59 : decode cX0_search 59 = .ok (.getfield 13, 3) := by decide +kernel
theorem dX0_search_62 : decode cX0_search 62 = .ok (.iload_n 1, 1) := by decide +kernel
theorem dX0_search_63 : decode cX0_search 63 = .ok (.iaload, 1) := by decide +kernel
theorem dX0_search_64 : decode cX0_search 64 = .ok (.iconst 1, 1) := by decide +kernel
theorem dX0_search_65 : decode cX0_search 65 = .ok (.if_icmp .le 15, 3) := by decide +kernel
theorem dX0_search_68 : decode cX0_search 68 = .ok (.aload_n 0, 1) := by decide +kernel
theorem dX0_search_69 : decode cX0_search 69 = .ok (.iload_n 1, 1) := by decide +kernel
theorem dX0_search_70 : decode cX0_search 70 = .ok (.iload_n 2, 1) := by decide +kernel
theorem dX0_search_71 : decode cX0_search 71 = .ok (.iload_n 3, 1) := by decide +kernel
theorem dX0_search_72 : decode cX0_search 72 = .ok (.iload 4, 2) := by decide +kernel
theorem dX0_search_74 : decode cX0_search 74 = .ok (.invokevirtual 167, 3) := by decide +kernel
theorem dX0_search_77 : decode cX0_search 77 = .ok (.goto 12, 3) := by decide +kernel
theorem dX0_search_80 : decode cX0_search 80 = .ok (.aload_n 0, 1) := by decide +kernel
theorem dX0_search_81 : decode cX0_search 81 = .ok (.iload_n 1, 1) := by decide +kernel
theorem dX0_search_82 : decode cX0_search 82 = .ok (.iload_n 2, 1) := by decide +kernel
theorem dX0_search_83 : decode cX0_search 83 = .ok (.iload_n 3, 1) := by decide +kernel
theorem dX0_search_84 : decode cX0_search 84 = .ok (.iload 4, 2) := by decide +kernel
theorem dX0_search_86 : decode cX0_search 86 = .ok (.invokevirtual 170, 3) := by decide +kernel
theorem dX0_search_89 : decode cX0_search 89 = .ok (.istore 5, 2) := by decide +kernel
theorem dX0_search_91 : decode cX0_search 91 = .ok (.iload 5, 2) := by decide +kernel
theorem dX0_search_93 : decode cX0_search 93 = .ok (.iload_n 2, 1) := by decide +kernel
theorem dX0_search_94 : decode cX0_search 94 = .ok (.if_icmp .le 11, 3) := by decide +kernel
theorem dX0_search_97 : decode cX0_search 97 = .ok (.aload_n 0, 1) := by decide +kernel
theorem dX0_search_98 : decode cX0_search 98 = .ok (.getfield 30, 3) := by decide +kernel
theorem dX0_search_101 : decode cX0_search 101 = .ok (.iload_n 1, 1) := by decide +kernel
theorem dX0_search_102 : decode cX0_search 102 = .ok (.iload 5, 2) := by decide +kernel
theorem dX0_search_104 : decode cX0_search 104 = .ok (.iastore, 1) := by decide +kernel
theorem dX0_search_105 : decode cX0_search 105 = .ok (.iload 5, 2) := by decide +kernel
theorem dX0_search_107 : decode cX0_search 107 = .ok (.iload_n 3, 1) := by decide +kernel
theorem dX0_search_108 : decode cX0_search 108 = .ok (.if_icmp .ge 11, 3) := by decide +kernel
theorem dX0_search_111 : decode cX0_search 111 = .ok (.aload_n 0, 1) := by decide +kernel
theorem dX0_search_112 : decode cX0_search 112 = .ok (.getfield 33, 3) := by decide +kernel
theorem dX0_search_115 : decode cX0_search 115 = .ok (.iload_n 1, 1) := by decide +kernel
theorem dX0_search_116 : decode cX0_search 116 = .ok (.iload 5, 2) := by decide +kernel
theorem dX0_search_118 : decode cX0_search 118 = .ok (.iastore, 1) := by decide +kernel
theorem dX0_search_119 : decode cX0_search 119 = .ok (.iload 5, 2) := by decide +kernel
theorem dX0_search_121 : decode cX0_search 121 = .ok (.ireturn, 1) := by decide +kernel
theorem dX0_greatest_0 : decode cX0_greatest 0 = .ok (.iconst 0, 1) := by decide +kernel
theorem dX0_greatest_1 : decode cX0_greatest 1 = .ok (.istore 5, 2) := by decide +kernel
theorem dX0_greatest_3 : decode cX0_greatest 3 = .ok (.aload_n 0, 1) := by decide +kernel
theorem dX0_greatest_4 : decode cX0_greatest 4 = .ok (.iload_n 1, 1) := by decide +kernel
theorem dX0_greatest_5 : decode cX0_greatest 5 = .ok (.invokevirtual 120, 3) := by decide +kernel
theorem dX0_greatest_8 : decode cX0_greatest 8 = .ok (.istore 6, 2) := by decide +kernel
theorem dX0_greatest_10 : decode cX0_greatest 10 = .ok (.iconst 0, 1) := by decide +kernel
theorem dX0_greatest_11 : decode cX0_greatest 11 = .ok (.istore 7, 2) := by decide +kernel
theorem dX0_greatest_13 : decode cX0_greatest 13 = .ok (.iload 7, 2) := by decide +kernel
theorem dX0_greatest_15 : decode cX0_greatest 15 = .ok (.iload 6, 2) := by decide +kernel
theorem dX0_greatest_17 : decode cX0_greatest 17 = .ok (.if_icmp .ge 44, 3) := by decide +kernel
theorem dX0_greatest_20 : decode cX0_greatest 20 = .ok (.iload 5, 2) := by decide +kernel
theorem dX0_greatest_22 : decode cX0_greatest 22 = .ok (.iload_n 3, 1) := by decide +kernel
theorem dX0_greatest_23 : decode cX0_greatest 23 = .ok (.if_icmp .ge 38, 3) := by decide +kernel
theorem dX0_greatest_26 : decode cX0_greatest 26 = .ok (.iload 5, 2) := by decide +kernel
theorem dX0_greatest_28 : decode cX0_greatest 28 = .ok (.aload_n 0, 1) := by decide +kernel
theorem dX0_greatest_29 : decode cX0_greatest 29 = .ok (.aload_n 0, 1) := by decide +kernel
theorem dX0_greatest_30 : decode cX0_greatest 30 = .ok (.iload_n 1, 1) := by decide +kernel
theorem dX0_greatest_31 : decode cX0_greatest 31 = .ok (.iload 7, 2) := by decide +kernel
theorem dX0_greatest_33 : decode cX0_greatest 33 = .ok (.invokevirtual 73, 3) := by decide +kernel
theorem dX0_greatest_36 : decode cX0_greatest 36 = .ok (.iload_n 2, 1) := by decide +kernel
theorem dX0_greatest_37 : decode cX0_greatest 37 = .ok (.iload 5, 2) := by decide +kernel
theorem dX0_greatest_39 : decode cX0_greatest 39 = .ok (.invokestatic 173, 3) := by decide +kernel
theorem dX0_greatest_42 : decode cX0_greatest 42 = .ok (.iload_n 3, 1) := by decide +kernel
theorem dX0_greatest_43 : decode cX0_greatest 43 = .ok (.iload 4, 2) := by decide +kernel
theorem dX0_greatest_45 : decode cX0_greatest 45 = .ok (.iconst 1, 1) := by decide +kernel
theorem dX0_greatest_46 : decode cX0_greatest 46 = .ok (.iadd, 1) := by decide +kernel
theorem dX0_greatest_47 : decode cX0_greatest 47 = .ok (.invokevirtual 163, 3) := by decide +kernel
theorem dX0_greatest_50 : decode cX0_greatest 50 = .ok (.invokestatic 173, 3) := by decide +kernel
theorem dX0_greatest_53 : decode cX0_greatest 53 = .ok (.istore 5, 2) := by decide +kernel
theorem dX0_greatest_55 : decode cX0_greatest 55 = .ok (.iinc 7 1, 3) := by decide +kernel
theorem dX0_greatest_58 : decode cX0_greatest 58 = .ok (.goto (-45), 3) := by decide +kernel
theorem dX0_greatest_61 : decode cX0_greatest 61 = .ok (.iload 5, 2) := by decide +kernel
theorem dX0_greatest_63 : decode cX0_greatest 63 = .ok (.ireturn, 1) := by decide +kernel
theorem dX0_least_0 : decode cX0_least 0 = .ok (.bipush 100, 2) := by decide +kernel
theorem dX0_least_2 : decode cX0_least 2 = .ok (.istore 5, 2) := by decide +kernel
theorem dX0_least_4 : decode cX0_least 4 = .ok (.aload_n 0, 1) := by decide +kernel
theorem dX0_least_5 : decode cX0_least 5 = .ok (.iload_n 1, 1) := by decide +kernel
theorem dX0_least_6 : decode cX0_least 6 = .ok (.invokevirtual 120, 3) := by decide +kernel
theorem dX0_least_9 : decode cX0_least 9 = .ok (.istore 6, 2) := by decide +kernel
theorem dX0_least_11 : decode cX0_least 11 = .ok (.iconst 0, 1) := by decide +kernel
theorem dX0_least_12 : decode cX0_least 12 = .ok (.istore 7, 2) := by decide +kernel
theorem dX0_least_14 : decode cX0_least 14 = .ok (.iload 7, 2) := by decide +kernel
theorem dX0_least_16 : decode cX0_least 16 = .ok (.iload 6, 2) := by decide +kernel
theorem dX0_least_18 : decode cX0_least 18 = .ok (.if_icmp .ge 44, 3) := by decide +kernel
theorem dX0_least_21 : decode cX0_least 21 = .ok (.iload 5, 2) := by decide +kernel
theorem dX0_least_23 : decode cX0_least 23 = .ok (.iload_n 2, 1) := by decide +kernel
theorem dX0_least_24 : decode cX0_least 24 = .ok (.if_icmp .le 38, 3) := by decide +kernel
theorem dX0_least_27 : decode cX0_least 27 = .ok (.iload 5, 2) := by decide +kernel
theorem dX0_least_29 : decode cX0_least 29 = .ok (.aload_n 0, 1) := by decide +kernel
theorem dX0_least_30 : decode cX0_least 30 = .ok (.aload_n 0, 1) := by decide +kernel
theorem dX0_least_31 : decode cX0_least 31 = .ok (.iload_n 1, 1) := by decide +kernel
theorem dX0_least_32 : decode cX0_least 32 = .ok (.iload 7, 2) := by decide +kernel
theorem dX0_least_34 : decode cX0_least 34 = .ok (.invokevirtual 73, 3) := by decide +kernel
theorem dX0_least_37 : decode cX0_least 37 = .ok (.iload_n 2, 1) := by decide +kernel
theorem dX0_least_38 : decode cX0_least 38 = .ok (.iload_n 3, 1) := by decide +kernel
theorem dX0_least_39 : decode cX0_least 39 = .ok (.iload 5, 2) := by decide +kernel
theorem dX0_least_41 : decode cX0_least 41 = .ok (.invokestatic 178, 3) := by decide +kernel
theorem dX0_least_44 : decode cX0_least 44 = .ok (.iload 4, 2) := by decide +kernel
theorem dX0_least_46 : decode cX0_least 46 = .ok (.iconst 1, 1) := by decide +kernel
theorem dX0_least_47 : decode cX0_least 47 = .ok (.iadd, 1) := by decide +kernel
theorem dX0_least_48 : decode cX0_least 48 = .ok (.invokevirtual 163, 3) := by decide +kernel
theorem dX0_least_51 : decode cX0_least 51 = .ok (.invokestatic 178, 3) := by decide +kernel
theorem dX0_least_54 : decode cX0_least 54 = .ok (.istore 5, 2) := by decide +kernel
theorem dX0_least_56 : decode cX0_least 56 = .ok (.iinc 7 1, 3) := by decide +kernel
theorem dX0_least_59 : decode cX0_least 59 = .ok (.goto (-45), 3) := by decide +kernel
theorem dX0_least_62 : decode cX0_least 62 = .ok (.iload 5, 2) := by decide +kernel
theorem dX0_least_64 : decode cX0_least 64 = .ok (.ireturn, 1) := by decide +kernel
theorem dJ_bitCount_0 : decode cJ_bitCount 0 = .ok (.lload_n 0, 1) := by decide +kernel
theorem dJ_bitCount_1 : decode cJ_bitCount 1 = .ok (.lload_n 0, 1) := by decide +kernel
theorem dJ_bitCount_2 : decode cJ_bitCount 2 = .ok (.iconst 1, 1) := by decide +kernel
theorem dJ_bitCount_3 : decode cJ_bitCount 3 = .ok (.lushr, 1) := by decide +kernel
theorem dJ_bitCount_4 : decode cJ_bitCount 4 = .ok (.ldc2_w 314, 3) := by decide +kernel
theorem dJ_bitCount_7 : decode cJ_bitCount 7 = .ok (.land, 1) := by decide +kernel
theorem dJ_bitCount_8 : decode cJ_bitCount 8 = .ok (.lsub, 1) := by decide +kernel
theorem dJ_bitCount_9 : decode cJ_bitCount 9 = .ok (.lstore_n 0, 1) := by decide +kernel
theorem dJ_bitCount_10 : decode cJ_bitCount 10 = .ok (.lload_n 0, 1) := by decide +kernel
theorem dJ_bitCount_11 : decode cJ_bitCount 11 = .ok (.ldc2_w 316, 3) := by decide +kernel
theorem dJ_bitCount_14 : decode cJ_bitCount 14 = .ok (.land, 1) := by decide +kernel
theorem dJ_bitCount_15 : decode cJ_bitCount 15 = .ok (.lload_n 0, 1) := by decide +kernel
theorem dJ_bitCount_16 : decode cJ_bitCount 16 = .ok (.iconst 2, 1) := by decide +kernel
theorem dJ_bitCount_17 : decode cJ_bitCount 17 = .ok (.lushr, 1) := by decide +kernel
theorem dJ_bitCount_18 : decode cJ_bitCount 18 = .ok (.ldc2_w 316, 3) := by decide +kernel
theorem dJ_bitCount_21 : decode cJ_bitCount 21 = .ok (.land, 1) := by decide +kernel
theorem dJ_bitCount_22 : decode cJ_bitCount 22 = .ok (.ladd, 1) := by decide +kernel
theorem dJ_bitCount_23 : decode cJ_bitCount 23 = .ok (.lstore_n 0, 1) := by decide +kernel
theorem dJ_bitCount_24 : decode cJ_bitCount 24 = .ok (.lload_n 0, 1) := by decide +kernel
theorem dJ_bitCount_25 : decode cJ_bitCount 25 = .ok (.lload_n 0, 1) := by decide +kernel
theorem dJ_bitCount_26 : decode cJ_bitCount 26 = .ok (.iconst 4, 1) := by decide +kernel
theorem dJ_bitCount_27 : decode cJ_bitCount 27 = .ok (.lushr, 1) := by decide +kernel
theorem dJ_bitCount_28 : decode cJ_bitCount 28 = .ok (.ladd, 1) := by decide +kernel
theorem dJ_bitCount_29 : decode cJ_bitCount 29 = .ok (.ldc2_w 318, 3) := by decide +kernel
theorem dJ_bitCount_32 : decode cJ_bitCount 32 = .ok (.land, 1) := by decide +kernel
theorem dJ_bitCount_33 : decode cJ_bitCount 33 = .ok (.lstore_n 0, 1) := by decide +kernel
theorem dJ_bitCount_34 : decode cJ_bitCount 34 = .ok (.lload_n 0, 1) := by decide +kernel
theorem dJ_bitCount_35 : decode cJ_bitCount 35 = .ok (.lload_n 0, 1) := by decide +kernel
theorem dJ_bitCount_36 : decode cJ_bitCount 36 = .ok (.bipush 8, 2) := by decide +kernel
theorem dJ_bitCount_38 : decode cJ_bitCount 38 = .ok (.lushr, 1) := by decide +kernel
theorem dJ_bitCount_39 : decode cJ_bitCount 39 = .ok (.ladd, 1) := by decide +kernel
theorem dJ_bitCount_40 : decode cJ_bitCount 40 = .ok (.lstore_n 0, 1) := by decide +kernel
theorem dJ_bitCount_41 : decode cJ_bitCount 41 = .ok (.lload_n 0, 1) := by decide +kernel
theorem dJ_bitCount_42 : decode cJ_bitCount 42 = .ok (.lload_n 0, 1) := by decide +kernel
theorem dJ_bitCount_43 : decode cJ_bitCount 43 = .ok (.bipush 16, 2) := by decide +kernel
theorem dJ_bitCount_45 : decode cJ_bitCount 45 = .ok (.lushr, 1) := by decide +kernel
theorem dJ_bitCount_46 : decode cJ_bitCount 46 = .ok (.ladd, 1) := by decide +kernel
theorem dJ_bitCount_47 : decode cJ_bitCount 47 = .ok (.lstore_n 0, 1) := by decide +kernel
theorem dJ_bitCount_48 : decode cJ_bitCount 48 = .ok (.lload_n 0, 1) := by decide +kernel
theorem dJ_bitCount_49 : decode cJ_bitCount 49 = .ok (.lload_n 0, 1) := by decide +kernel
theorem dJ_bitCount_50 : decode cJ_bitCount 50 = .ok (.bipush 32, 2) := by decide +kernel
theorem dJ_bitCount_52 : decode cJ_bitCount 52 = .ok (.lushr, 1) := by decide +kernel
theorem dJ_bitCount_53 : decode cJ_bitCount 53 = .ok (.ladd, 1) := by decide +kernel
theorem dJ_bitCount_54 : decode cJ_bitCount 54 = .ok (.lstore_n 0, 1) := by decide +kernel
theorem dJ_bitCount_55 : decode cJ_bitCount 55 = .ok (.lload_n 0, 1) := by decide +kernel
theorem dJ_bitCount_56 : decode cJ_bitCount 56 = .ok (.l2i, 1) := by decide +kernel
theorem dJ_bitCount_57 : decode cJ_bitCount 57 = .ok (.bipush 127, 2) := by decide +kernel
theorem dJ_bitCount_59 : decode cJ_bitCount 59 = .ok (.iand, 1) := by decide +kernel
theorem dJ_bitCount_60 : decode cJ_bitCount 60 = .ok (.ireturn, 1) := by decide +kernel
