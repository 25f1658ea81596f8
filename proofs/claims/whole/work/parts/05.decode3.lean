theorem qd_X_init_0 : decode qc_X_init 0 = .ok (.aload_n 0, 1) := by decide +kernel
theorem qd_X_init_1 : decode qc_X_init 1 = .ok (.invokespecial 3, 3) := by decide +kernel
theorem qd_X_init_4 : decode qc_X_init 4 = .ok (.aload_n 0, 1) := by decide +kernel
theorem qd_X_init_5 : decode qc_X_init 5 = .ok (.new 9, 3) := by decide +kernel
theorem qd_X_init_8 : decode qc_X_init 8 = .ok (.dup, 1) := by decide +kernel
theorem qd_X_init_9 : decode qc_X_init 9 = .ok (.invokespecial 11, 3) := by decide +kernel
theorem qd_X_init_12 : decode qc_X_init 12 = .ok (.putfield 12, 3) := by decide +kernel
theorem qd_X_init_15 : decode qc_X_init 15 = .ok (.aload_n 0, 1) := by decide +kernel
theorem qd_X_init_16 : decode qc_X_init 16 = .ok (.new 16, 3) := by decide +kernel
theorem qd_X_init_19 : decode qc_X_init 19 = .ok (.dup, 1) := by decide +kernel
theorem qd_X_init_20 : decode qc_X_init 20 = .ok (.invokespecial 18, 3) := by decide +kernel
theorem qd_X_init_23 : decode qc_X_init 23 = .ok (.putfield 19, 3) := by decide +kernel
theorem qd_X_init_26 : decode qc_X_init 26 = .ok (.aload_n 0, 1) := by decide +kernel
theorem qd_X_init_27 : decode qc_X_init 27 = .ok (.bipush 7, 2) := by decide +kernel
theorem qd_X_init_29 : decode qc_X_init 29 = .ok (.newarray .int, 2) := by decide +kernel
theorem qd_X_init_31 : decode qc_X_init 31 = .ok (.putfield 23, 3) := by decide +kernel
theorem qd_X_init_34 : decode qc_X_init 34 = .ok (.aload_n 0, 1) := by decide +kernel
theorem qd_X_init_35 : decode qc_X_init 35 = .ok (.iconst 0, 1) := by decide +kernel
theorem qd_X_init_36 : decode qc_X_init 36 = .ok (.putfield 27, 3) := by decide +kernel
theorem qd_X_init_39 : decode qc_X_init 39 = .ok (.aload_n 0, 1) := by decide +kernel
theorem qd_X_init_40 : decode qc_X_init 40 = .ok (.iconst 0, 1) := by decide +kernel
theorem qd_X_init_41 : decode qc_X_init 41 = .ok (.putfield 31, 3) := by decide +kernel
theorem qd_X_init_44 : decode qc_X_init 44 = .ok (.aload_n 0, 1) := by decide +kernel
theorem qd_X_init_45 : decode qc_X_init 45 = .ok (.bipush 24, 2) := by decide +kernel
theorem qd_X_init_47 : decode qc_X_init 47 = .ok (.putfield 35, 3) := by decide +kernel
theorem qd_X_init_50 : decode qc_X_init 50 = .ok (.return_, 1) := by decide +kernel
theorem qd_X_add_0 : decode qc_X_add 0 = .ok (.iload_n 1, 1) := by decide +kernel
theorem qd_X_add_1 : decode qc_X_add 1 = .ok (.bipush 25, 2) := by decide +kernel
theorem qd_X_add_3 : decode qc_X_add 3 = .ok (.invokestatic 38, 3) := by decide +kernel
theorem qd_X_add_6 : decode qc_X_add 6 = .ok (.ifCond .eq 12, 3) := by decide +kernel
theorem qd_X_add_9 : decode qc_X_add 9 = .ok (.iload_n 2, 1) := by decide +kernel
theorem qd_X_add_10 : decode qc_X_add 10 = .ok (.bipush 16, 2) := by decide +kernel
theorem qd_X_add_12 : decode qc_X_add 12 = .ok (.invokestatic 38, 3) := by decide +kernel
theorem qd_X_add_15 : decode qc_X_add 15 = .ok (.ifCond .ne 5, 3) := by decide +kernel
theorem qd_X_add_18 : decode qc_X_add 18 = .ok (.iconst (-1), 1) := by decide +kernel
theorem qd_X_add_19 : decode qc_X_add 19 = .ok (.ireturn, 1) := by decide +kernel
theorem qd_X_add_20 : decode qc_X_add 20 = .ok (.aload_n 0, 1) := by decide +kernel
theorem qd_X_add_21 : decode qc_X_add 21 = .ok (.getfield 12, 3) := by decide +kernel
theorem qd_X_add_24 : decode qc_X_add 24 = .ok (.getfield 42, 3) := by decide +kernel
theorem qd_X_add_27 : decode qc_X_add 27 = .ok (.iload_n 1, 1) := by decide +kernel
theorem qd_X_add_28 : decode qc_X_add 28 = .ok (.iload_n 2, 1) := by decide +kernel
theorem qd_X_add_29 : decode qc_X_add 29 = .ok (.invokevirtual 46, 3) := by decide +kernel
theorem qd_X_add_32 : decode qc_X_add 32 = .ok (.ireturn, 1) := by decide +kernel
theorem qd_X_clear_0 : decode qc_X_clear 0 = .ok (.aload_n 0, 1) := by decide +kernel
theorem qd_X_clear_1 : decode qc_X_clear 1 = .ok (.getfield 12, 3) := by decide +kernel
theorem qd_X_clear_4 : decode qc_X_clear 4 = .ok (.getfield 42, 3) := by decide +kernel
theorem qd_X_clear_7 : decode qc_X_clear 7 = .ok (.invokevirtual 52, 3) := by decide +kernel
theorem qd_X_clear_10 : decode qc_X_clear 10 = .ok (.return_, 1) := by decide +kernel
theorem qd_X_start_0 : decode qc_X_start 0 = .ok (.iload_n 1, 1) := by decide +kernel
theorem qd_X_start_1 : decode qc_X_start 1 = .ok (.bipush 16, 2) := by decide +kernel
theorem qd_X_start_3 : decode qc_X_start 3 = .ok (.invokestatic 38, 3) := by decide +kernel
theorem qd_X_start_6 : decode qc_X_start 6 = .ok (.ifCond .eq 14, 3) := by decide +kernel
theorem qd_X_start_9 : decode qc_X_start 9 = .ok (.iload_n 2, 1) := by decide +kernel
theorem qd_X_start_10 : decode qc_X_start 10 = .ok (.iconst 1, 1) := by decide +kernel
theorem qd_X_start_11 : decode qc_X_start 11 = .ok (.if_icmp .lt 9, 3) := by decide +kernel
theorem qd_X_start_14 : decode qc_X_start 14 = .ok (.iload_n 2, 1) := by decide +kernel
theorem qd_X_start_15 : decode qc_X_start 15 = .ok (.bipush 40, 2) := by decide +kernel
theorem qd_X_start_17 : decode qc_X_start 17 = .ok (.if_icmp .le 5, 3) := by decide +kernel
theorem qd_X_start_20 : decode qc_X_start 20 = .ok (.iconst 0, 1) := by decide +kernel
theorem qd_X_start_21 : decode qc_X_start 21 = .ok (.ireturn, 1) := by decide +kernel
theorem qd_X_start_22 : decode qc_X_start 22 = .ok (.aload_n 0, 1) := by decide +kernel
theorem qd_X_start_23 : decode qc_X_start 23 = .ok (.iload_n 1, 1) := by decide +kernel
theorem qd_X_start_24 : decode qc_X_start 24 = .ok (.putfield 31, 3) := by decide +kernel
theorem qd_X_start_27 : decode qc_X_start 27 = .ok (.aload_n 0, 1) := by decide +kernel
theorem qd_X_start_28 : decode qc_X_start 28 = .ok (.iload_n 2, 1) := by decide +kernel
theorem qd_X_start_29 : decode qc_X_start 29 = .ok (.putfield 35, 3) := by decide +kernel
theorem qd_X_start_32 : decode qc_X_start 32 = .ok (.iconst 1, 1) := by decide +kernel
theorem qd_X_start_33 : decode qc_X_start 33 = .ok (.ireturn, 1) := by decide +kernel
theorem qd_X_explore_0 : decode qc_X_explore 0 = .ok (.iload_n 1, 1) := by decide +kernel
theorem qd_X_explore_1 : decode qc_X_explore 1 = .ok (.iconst 1, 1) := by decide +kernel
theorem qd_X_explore_2 : decode qc_X_explore 2 = .ok (.if_icmp .eq 10, 3) := by decide +kernel
theorem qd_X_explore_5 : decode qc_X_explore 5 = .ok (.iload_n 1, 1) := by decide +kernel
theorem qd_X_explore_6 : decode qc_X_explore 6 = .ok (.iconst 2, 1) := by decide +kernel
theorem qd_X_explore_7 : decode qc_X_explore 7 = .ok (.if_icmp .eq 5, 3) := by decide +kernel
theorem qd_X_explore_10 : decode qc_X_explore 10 = .ok (.iconst (-1), 1) := by decide +kernel
theorem qd_X_explore_11 : decode qc_X_explore 11 = .ok (.ireturn, 1) := by decide +kernel
theorem qd_X_explore_12 : decode qc_X_explore 12 = .ok (.aload_n 0, 1) := by decide +kernel
theorem qd_X_explore_13 : decode qc_X_explore 13 = .ok (.getfield 19, 3) := by decide +kernel
theorem qd_X_explore_16 : decode qc_X_explore 16 = .ok (.invokevirtual 55, 3) := by decide +kernel
theorem qd_X_explore_19 : decode qc_X_explore 19 = .ok (.iload_n 1, 1) := by decide +kernel
theorem qd_X_explore_20 : decode qc_X_explore 20 = .ok (.iconst 1, 1) := by decide +kernel
theorem qd_X_explore_21 : decode qc_X_explore 21 = .ok (.if_icmp .ne 25, 3) := by decide +kernel
theorem qd_X_explore_24 : decode qc_X_explore 24 = .ok (.aload_n 0, 1) := by decide +kernel
theorem qd_X_explore_25 : decode qc_X_explore 25 = .ok (.getfield 19, 3) := by decide +kernel
theorem qd_X_explore_28 : decode qc_X_explore 28 = .ok (.aload_n 0, 1) := by decide +kernel
theorem qd_X_explore_29 : decode qc_X_explore 29 = .ok (.getfield 12, 3) := by decide +kernel
theorem qd_X_explore_32 : decode qc_X_explore 32 = .ok (.aload_n 0, 1) := by decide +kernel
theorem qd_X_explore_33 : decode qc_X_explore 33 = .ok (.invokevirtual 58, 3) := by decide +kernel
theorem qd_X_explore_36 : decode qc_X_explore 36 = .ok (.aload_n 0, 1) := by decide +kernel
theorem qd_X_explore_37 : decode qc_X_explore 37 = .ok (.getfield 35, 3) := by decide +kernel
theorem qd_X_explore_40 : decode qc_X_explore 40 = .ok (.invokevirtual 62, 3) := by decide +kernel
theorem qd_X_explore_43 : decode qc_X_explore 43 = .ok (.goto 22, 3) := by decide +kernel
theorem qd_X_explore_46 : decode qc_X_explore 46 = .ok (.aload_n 0, 1) := by decide +kernel
theorem qd_X_explore_47 : decode qc_X_explore 47 = .ok (.getfield 19, 3) := by decide +kernel
theorem qd_X_explore_50 : decode qc_X_explore 50 = .ok (.aload_n 0, 1) := by decide +kernel
theorem qd_X_explore_51 : decode qc_X_explore 51 = .ok (.getfield 12, 3) := by decide +kernel
theorem qd_X_explore_54 : decode qc_X_explore 54 = .ok (.aload_n 0, 1) := by decide +kernel
theorem qd_X_explore_55 : decode qc_X_explore 55 = .ok (.invokevirtual 58, 3) := by decide +kernel
theorem qd_X_explore_58 : decode qc_X_explore 58 = .ok (.aload_n 0, 1) := by decide +kernel
theorem qd_X_explore_59 : decode qc_X_explore 59 = .ok (.getfield 35, 3) := by decide +kernel
theorem qd_X_explore_62 : decode qc_X_explore 62 = .ok (.invokevirtual 66, 3) := by decide +kernel
theorem qd_X_explore_65 : decode qc_X_explore 65 = .ok (.istore_n 2, 1) := by decide +kernel
theorem qd_X_explore_66 : decode qc_X_explore 66 = .ok (.aload_n 0, 1) := by decide +kernel
theorem qd_X_explore_67 : decode qc_X_explore 67 = .ok (.getfield 19, 3) := by decide +kernel
theorem qd_X_explore_70 : decode qc_X_explore 70 = .ok (.iload_n 2, 1) := by decide +kernel
theorem qd_X_explore_71 : decode qc_X_explore 71 = .ok (.invokevirtual 69, 3) := by decide +kernel
theorem qd_X_explore_74 : decode qc_X_explore 74 = .ok (.ireturn, 1) := by decide +kernel
theorem qd_X_inputs_0 : decode qc_X_inputs 0 = .ok (.aload_n 0, 1) := by decide +kernel
theorem qd_X_inputs_1 : decode qc_X_inputs 1 = .ok (.getfield 19, 3) := by decide +kernel
theorem qd_X_inputs_4 : decode qc_X_inputs 4 = .ok (.getfield 73, 3) := by decide +kernel
theorem qd_X_inputs_7 : decode qc_X_inputs 7 = .ok (.iload_n 1, 1) := by decide +kernel
theorem qd_X_inputs_8 : decode qc_X_inputs 8 = .ok (.invokevirtual 77, 3) := by decide +kernel
theorem qd_X_inputs_11 : decode qc_X_inputs 11 = .ok (.istore_n 2, 1) := by decide +kernel
theorem qd_X_inputs_12 : decode qc_X_inputs 12 = .ok (.iload_n 2, 1) := by decide +kernel
theorem qd_X_inputs_13 : decode qc_X_inputs 13 = .ok (.iconst (-1), 1) := by decide +kernel
theorem qd_X_inputs_14 : decode qc_X_inputs 14 = .ok (.if_icmp .ne 7, 3) := by decide +kernel
theorem qd_X_inputs_17 : decode qc_X_inputs 17 = .ok (.iconst (-1), 1) := by decide +kernel
theorem qd_X_inputs_18 : decode qc_X_inputs 18 = .ok (.goto 15, 3) := by decide +kernel
theorem qd_X_inputs_21 : decode qc_X_inputs 21 = .ok (.aload_n 0, 1) := by decide +kernel
theorem qd_X_inputs_22 : decode qc_X_inputs 22 = .ok (.getfield 19, 3) := by decide +kernel
theorem qd_X_inputs_25 : decode qc_X_inputs 25 = .ok (.getfield 73, 3) := by decide +kernel
theorem qd_X_inputs_28 : decode qc_X_inputs 28 = .ok (.getfield 83, 3) := by decide +kernel
theorem qd_X_inputs_31 : decode qc_X_inputs 31 = .ok (.iload_n 2, 1) := by decide +kernel
theorem qd_X_inputs_32 : decode qc_X_inputs 32 = .ok (.iaload, 1) := by decide +kernel
theorem qd_X_inputs_33 : decode qc_X_inputs 33 = .ok (.ireturn, 1) := by decide +kernel
theorem qd_X_witness_0 : decode qc_X_witness 0 = .ok (.aload_n 0, 1) := by decide +kernel
theorem qd_X_witness_1 : decode qc_X_witness 1 = .ok (.getfield 19, 3) := by decide +kernel
theorem qd_X_witness_4 : decode qc_X_witness 4 = .ok (.getfield 73, 3) := by decide +kernel
theorem qd_X_witness_7 : decode qc_X_witness 7 = .ok (.iload_n 1, 1) := by decide +kernel
theorem qd_X_witness_8 : decode qc_X_witness 8 = .ok (.invokevirtual 77, 3) := by decide +kernel
theorem qd_X_witness_11 : decode qc_X_witness 11 = .ok (.istore_n 2, 1) := by decide +kernel
theorem qd_X_witness_12 : decode qc_X_witness 12 = .ok (.iload_n 2, 1) := by decide +kernel
theorem qd_X_witness_13 : decode qc_X_witness 13 = .ok (.iconst (-1), 1) := by decide +kernel
theorem qd_X_witness_14 : decode qc_X_witness 14 = .ok (.if_icmp .ne 7, 3) := by decide +kernel
theorem qd_X_witness_17 : decode qc_X_witness 17 = .ok (.iconst (-1), 1) := by decide +kernel
theorem qd_X_witness_18 : decode qc_X_witness 18 = .ok (.goto 15, 3) := by decide +kernel
theorem qd_X_witness_21 : decode qc_X_witness 21 = .ok (.aload_n 0, 1) := by decide +kernel
theorem qd_X_witness_22 : decode qc_X_witness 22 = .ok (.getfield 19, 3) := by decide +kernel
theorem qd_X_witness_25 : decode qc_X_witness 25 = .ok (.getfield 73, 3) := by decide +kernel
theorem qd_X_witness_28 : decode qc_X_witness 28 = .ok (.getfield 86, 3) := by decide +kernel
theorem qd_X_witness_31 : decode qc_X_witness 31 = .ok (.iload_n 2, 1) := by decide +kernel
theorem qd_X_witness_32 : decode qc_X_witness 32 = .ok (.iaload, 1) := by decide +kernel
theorem qd_X_witness_33 : decode qc_X_witness 33 = .ok (.ireturn, 1) := by decide +kernel
theorem qd_X_end_0 : decode qc_X_end 0 = .ok (.aload_n 0, 1) := by decide +kernel
theorem qd_X_end_1 : decode qc_X_end 1 = .ok (.getfield 19, 3) := by decide +kernel
theorem qd_X_end_4 : decode qc_X_end 4 = .ok (.getfield 73, 3) := by decide +kernel
theorem qd_X_end_7 : decode qc_X_end 7 = .ok (.iload_n 1, 1) := by decide +kernel
theorem qd_X_end_8 : decode qc_X_end 8 = .ok (.invokevirtual 77, 3) := by decide +kernel
theorem qd_X_end_11 : decode qc_X_end 11 = .ok (.istore_n 3, 1) := by decide +kernel
theorem qd_X_end_12 : decode qc_X_end 12 = .ok (.iload_n 3, 1) := by decide +kernel
theorem qd_X_end_13 : decode qc_X_end 13 = .ok (.iconst (-1), 1) := by decide +kernel
theorem qd_X_end_14 : decode qc_X_end 14 = .ok (.if_icmp .eq 17, 3) := by decide +kernel
theorem qd_X_end_17 : decode qc_X_end 17 = .ok (.iload_n 2, 1) := by decide +kernel
theorem qd_X_end_18 : decode qc_X_end 18 = .ok (.aload_n 0, 1) := by decide +kernel
theorem qd_X_end_19 : decode qc_X_end 19 = .ok (.getfield 19, 3) := by decide +kernel
theorem qd_X_end_22 : decode qc_X_end 22 = .ok (.getfield 89, 3) := by decide +kernel
theorem qd_X_end_25 : decode qc_X_end 25 = .ok (.invokestatic 38, 3) := by decide +kernel
theorem qd_X_end_28 : decode qc_X_end 28 = .ok (.ifCond .ne 5, 3) := by decide +kernel
theorem qd_X_end_31 : decode qc_X_end 31 = .ok (.iconst (-1), 1) := by decide +kernel
theorem qd_X_end_32 : decode qc_X_end 32 = .ok (.ireturn, 1) := by decide +kernel
theorem qd_X_end_33 : decode qc_X_end 33 = .ok (.aload_n 0, 1) := by decide +kernel
theorem qd_X_end_34 : decode qc_X_end 34 = .ok (.getfield 19, 3) := by decide +kernel
theorem qd_X_end_37 : decode qc_X_end 37 = .ok (.iload_n 2, 1) := by decide +kernel
theorem qd_X_end_38 : decode qc_X_end 38 = .ok (.invokevirtual 92, 3) := by decide +kernel
theorem qd_X_end_41 : decode qc_X_end 41 = .ok (.getfield 96, 3) := by decide +kernel
theorem qd_X_end_44 : decode qc_X_end 44 = .ok (.aload_n 0, 1) := by decide +kernel
theorem qd_X_end_45 : decode qc_X_end 45 = .ok (.getfield 19, 3) := by decide +kernel
theorem qd_X_end_48 : decode qc_X_end 48 = .ok (.iload_n 3, 1) := by decide +kernel
theorem qd_X_end_49 : decode qc_X_end 49 = .ok (.iload_n 2, 1) := by decide +kernel
theorem qd_X_end_50 : decode qc_X_end 50 = .ok (.invokevirtual 101, 3) := by decide +kernel
theorem qd_X_end_53 : decode qc_X_end 53 = .ok (.iaload, 1) := by decide +kernel
theorem qd_X_end_54 : decode qc_X_end 54 = .ok (.ireturn, 1) := by decide +kernel
theorem qd_X_step_0 : decode qc_X_step 0 = .ok (.aload_n 0, 1) := by decide +kernel
theorem qd_X_step_1 : decode qc_X_step 1 = .ok (.getfield 19, 3) := by decide +kernel
theorem qd_X_step_4 : decode qc_X_step 4 = .ok (.getfield 73, 3) := by decide +kernel
theorem qd_X_step_7 : decode qc_X_step 7 = .ok (.iload_n 1, 1) := by decide +kernel
theorem qd_X_step_8 : decode qc_X_step 8 = .ok (.invokevirtual 77, 3) := by decide +kernel
theorem qd_X_step_11 : decode qc_X_step 11 = .ok (.istore 4, 2) := by decide +kernel
theorem qd_X_step_13 : decode qc_X_step 13 = .ok (.iload 4, 2) := by decide +kernel
theorem qd_X_step_15 : decode qc_X_step 15 = .ok (.iconst (-1), 1) := by decide +kernel
theorem qd_X_step_16 : decode qc_X_step 16 = .ok (.if_icmp .eq 17, 3) := by decide +kernel
theorem qd_X_step_19 : decode qc_X_step 19 = .ok (.iload_n 2, 1) := by decide +kernel
theorem qd_X_step_20 : decode qc_X_step 20 = .ok (.aload_n 0, 1) := by decide +kernel
theorem qd_X_step_21 : decode qc_X_step 21 = .ok (.getfield 19, 3) := by decide +kernel
theorem qd_X_step_24 : decode qc_X_step 24 = .ok (.getfield 89, 3) := by decide +kernel
theorem qd_X_step_27 : decode qc_X_step 27 = .ok (.invokestatic 38, 3) := by decide +kernel
theorem qd_X_step_30 : decode qc_X_step 30 = .ok (.ifCond .ne 5, 3) := by decide +kernel
theorem qd_X_step_33 : decode qc_X_step 33 = .ok (.iconst (-1), 1) := by decide +kernel
theorem qd_X_step_34 : decode qc_X_step 34 = .ok (.ireturn, 1) := by decide +kernel
theorem qd_X_step_35 : decode qc_X_step 35 = .ok (.aload_n 0, 1) := by decide +kernel
theorem qd_X_step_36 : decode qc_X_step 36 = .ok (.getfield 19, 3) := by decide +kernel
theorem qd_X_step_39 : decode qc_X_step 39 = .ok (.iload_n 2, 1) := by decide +kernel
theorem qd_X_step_40 : decode qc_X_step 40 = .ok (.invokevirtual 92, 3) := by decide +kernel
theorem qd_X_step_43 : decode qc_X_step 43 = .ok (.aload_n 0, 1) := by decide +kernel
theorem qd_X_step_44 : decode qc_X_step 44 = .ok (.getfield 19, 3) := by decide +kernel
theorem qd_X_step_47 : decode qc_X_step 47 = .ok (.iload 4, 2) := by decide +kernel
theorem qd_X_step_49 : decode qc_X_step 49 = .ok (.iload_n 2, 1) := by decide +kernel
theorem qd_X_step_50 : decode qc_X_step 50 = .ok (.invokevirtual 101, 3) := by decide +kernel
theorem qd_X_step_53 : decode qc_X_step 53 = .ok (.iload_n 3, 1) := by decide +kernel
theorem qd_X_step_54 : decode qc_X_step 54 = .ok (.invokevirtual 104, 3) := by decide +kernel
theorem qd_X_step_57 : decode qc_X_step 57 = .ok (.ireturn, 1) := by decide +kernel
theorem qd_X_left_0 : decode qc_X_left 0 = .ok (.aload_n 0, 1) := by decide +kernel
theorem qd_X_left_1 : decode qc_X_left 1 = .ok (.getfield 19, 3) := by decide +kernel
theorem qd_X_left_4 : decode qc_X_left 4 = .ok (.getfield 73, 3) := by decide +kernel
theorem qd_X_left_7 : decode qc_X_left 7 = .ok (.iload_n 1, 1) := by decide +kernel
theorem qd_X_left_8 : decode qc_X_left 8 = .ok (.invokevirtual 77, 3) := by decide +kernel
theorem qd_X_left_11 : decode qc_X_left 11 = .ok (.istore_n 3, 1) := by decide +kernel
theorem qd_X_left_12 : decode qc_X_left 12 = .ok (.iload_n 3, 1) := by decide +kernel
theorem qd_X_left_13 : decode qc_X_left 13 = .ok (.iconst (-1), 1) := by decide +kernel
theorem qd_X_left_14 : decode qc_X_left 14 = .ok (.if_icmp .eq 11, 3) := by decide +kernel
theorem qd_X_left_17 : decode qc_X_left 17 = .ok (.iload_n 2, 1) := by decide +kernel
theorem qd_X_left_18 : decode qc_X_left 18 = .ok (.iconst 5, 1) := by decide +kernel
theorem qd_X_left_19 : decode qc_X_left 19 = .ok (.invokestatic 38, 3) := by decide +kernel
theorem qd_X_left_22 : decode qc_X_left 22 = .ok (.ifCond .ne 5, 3) := by decide +kernel
theorem qd_X_left_25 : decode qc_X_left 25 = .ok (.iconst (-1), 1) := by decide +kernel
theorem qd_X_left_26 : decode qc_X_left 26 = .ok (.ireturn, 1) := by decide +kernel
theorem qd_X_left_27 : decode qc_X_left 27 = .ok (.aload_n 0, 1) := by decide +kernel
theorem qd_X_left_28 : decode qc_X_left 28 = .ok (.getfield 19, 3) := by decide +kernel
theorem qd_X_left_31 : decode qc_X_left 31 = .ok (.getfield 73, 3) := by decide +kernel
theorem qd_X_left_34 : decode qc_X_left 34 = .ok (.getfield 107, 3) := by decide +kernel
theorem qd_X_left_37 : decode qc_X_left 37 = .ok (.iload_n 3, 1) := by decide +kernel
theorem qd_X_left_38 : decode qc_X_left 38 = .ok (.iaload, 1) := by decide +kernel
theorem qd_X_left_39 : decode qc_X_left 39 = .ok (.iload_n 2, 1) := by decide +kernel
theorem qd_X_left_40 : decode qc_X_left 40 = .ok (.invokestatic 110, 3) := by decide +kernel
theorem qd_X_left_43 : decode qc_X_left 43 = .ok (.istore 4, 2) := by decide +kernel
theorem qd_X_left_45 : decode qc_X_left 45 = .ok (.aload_n 0, 1) := by decide +kernel
theorem qd_X_left_46 : decode qc_X_left 46 = .ok (.getfield 19, 3) := by decide +kernel
theorem qd_X_left_49 : decode qc_X_left 49 = .ok (.getfield 73, 3) := by decide +kernel
theorem qd_X_left_52 : decode qc_X_left 52 = .ok (.getfield 113, 3) := by decide +kernel
theorem qd_X_left_55 : decode qc_X_left 55 = .ok (.iload_n 3, 1) := by decide +kernel
theorem qd_X_left_56 : decode qc_X_left 56 = .ok (.iaload, 1) := by decide +kernel
theorem qd_X_left_57 : decode qc_X_left 57 = .ok (.iload_n 2, 1) := by decide +kernel
theorem qd_X_left_58 : decode qc_X_left 58 = .ok (.invokestatic 110, 3) := by decide +kernel
theorem qd_X_left_61 : decode qc_X_left 61 = .ok (.ifCond .ne 7, 3) := by decide +kernel
theorem qd_X_left_64 : decode qc_X_left 64 = .ok (.iconst 1, 1) := by decide +kernel
theorem qd_X_left_65 : decode qc_X_left 65 = .ok (.goto 4, 3) := by decide +kernel
theorem qd_X_left_68 : decode qc_X_left 68 = .ok (.iconst 0, 1) := by decide +kernel
theorem qd_X_left_69 : decode qc_X_left 69 = .ok (.istore 5, 2) := by decide +kernel
theorem qd_X_left_71 : decode qc_X_left 71 = .ok (.iload 5, 2) := by decide +kernel
theorem qd_X_left_73 : decode qc_X_left 73 = .ok (.ifCond .eq 11, 3) := by decide +kernel
theorem qd_X_left_76 : decode qc_X_left 76 = .ok (.iload 4, 2) := by decide +kernel
theorem qd_X_left_78 : decode qc_X_left 78 = .ok (.bipush 16, 2) := by decide +kernel
theorem qd_X_left_80 : decode qc_X_left 80 = .ok (.iadd, 1) := by decide +kernel
theorem qd_X_left_81 : decode qc_X_left 81 = .ok (.goto 5, 3) := by decide +kernel
theorem qd_X_left_84 : decode qc_X_left 84 = .ok (.iload 4, 2) := by decide +kernel
theorem qd_X_left_86 : decode qc_X_left 86 = .ok (.ireturn, 1) := by decide +kernel
theorem qd_X_finding_0 : decode qc_X_finding 0 = .ok (.iload_n 1, 1) := by decide +kernel
theorem qd_X_finding_1 : decode qc_X_finding 1 = .ok (.iconst 5, 1) := by decide +kernel
theorem qd_X_finding_2 : decode qc_X_finding 2 = .ok (.invokestatic 38, 3) := by decide +kernel
theorem qd_X_finding_5 : decode qc_X_finding 5 = .ok (.ifCond .eq 12, 3) := by decide +kernel
theorem qd_X_finding_8 : decode qc_X_finding 8 = .ok (.iload_n 2, 1) := by decide +kernel
theorem qd_X_finding_9 : decode qc_X_finding 9 = .ok (.bipush 32, 2) := by decide +kernel
theorem qd_X_finding_11 : decode qc_X_finding 11 = .ok (.invokestatic 38, 3) := by decide +kernel
theorem qd_X_finding_14 : decode qc_X_finding 14 = .ok (.ifCond .ne 5, 3) := by decide +kernel
theorem qd_X_finding_17 : decode qc_X_finding 17 = .ok (.iconst (-1), 1) := by decide +kernel
theorem qd_X_finding_18 : decode qc_X_finding 18 = .ok (.ireturn, 1) := by decide +kernel
theorem qd_X_finding_19 : decode qc_X_finding 19 = .ok (.aload_n 0, 1) := by decide +kernel
theorem qd_X_finding_20 : decode qc_X_finding 20 = .ok (.getfield 19, 3) := by decide +kernel
theorem qd_X_finding_23 : decode qc_X_finding 23 = .ok (.getfield 116, 3) := by decide +kernel
theorem qd_X_finding_26 : decode qc_X_finding 26 = .ok (.iload_n 1, 1) := by decide +kernel
theorem qd_X_finding_27 : decode qc_X_finding 27 = .ok (.iload_n 2, 1) := by decide +kernel
theorem qd_X_finding_28 : decode qc_X_finding 28 = .ok (.invokevirtual 120, 3) := by decide +kernel
theorem qd_X_finding_31 : decode qc_X_finding 31 = .ok (.ireturn, 1) := by decide +kernel
theorem qd_X_risk_0 : decode qc_X_risk 0 = .ok (.aload_n 0, 1) := by decide +kernel
theorem qd_X_risk_1 : decode qc_X_risk 1 = .ok (.getfield 19, 3) := by decide +kernel
theorem qd_X_risk_4 : decode qc_X_risk 4 = .ok (.getfield 73, 3) := by decide +kernel
theorem qd_X_risk_7 : decode qc_X_risk 7 = .ok (.iload_n 1, 1) := by decide +kernel
theorem qd_X_risk_8 : decode qc_X_risk 8 = .ok (.invokevirtual 77, 3) := by decide +kernel
theorem qd_X_risk_11 : decode qc_X_risk 11 = .ok (.istore 4, 2) := by decide +kernel
theorem qd_X_risk_13 : decode qc_X_risk 13 = .ok (.iload 4, 2) := by decide +kernel
theorem qd_X_risk_15 : decode qc_X_risk 15 = .ok (.iconst (-1), 1) := by decide +kernel
theorem qd_X_risk_16 : decode qc_X_risk 16 = .ok (.if_icmp .eq 20, 3) := by decide +kernel
theorem qd_X_risk_19 : decode qc_X_risk 19 = .ok (.iload_n 2, 1) := by decide +kernel
theorem qd_X_risk_20 : decode qc_X_risk 20 = .ok (.iconst 5, 1) := by decide +kernel
theorem qd_X_risk_21 : decode qc_X_risk 21 = .ok (.invokestatic 38, 3) := by decide +kernel
theorem qd_X_risk_24 : decode qc_X_risk 24 = .ok (.ifCond .eq 12, 3) := by decide +kernel
theorem qd_X_risk_27 : decode qc_X_risk 27 = .ok (.iload_n 3, 1) := by decide +kernel
theorem qd_X_risk_28 : decode qc_X_risk 28 = .ok (.bipush 32, 2) := by decide +kernel
theorem qd_X_risk_30 : decode qc_X_risk 30 = .ok (.invokestatic 38, 3) := by decide +kernel
theorem qd_X_risk_33 : decode qc_X_risk 33 = .ok (.ifCond .ne 5, 3) := by decide +kernel
theorem qd_X_risk_36 : decode qc_X_risk 36 = .ok (.iconst (-1), 1) := by decide +kernel
theorem qd_X_risk_37 : decode qc_X_risk 37 = .ok (.ireturn, 1) := by decide +kernel
theorem qd_X_risk_38 : decode qc_X_risk 38 = .ok (.aload_n 0, 1) := by decide +kernel
theorem qd_X_risk_39 : decode qc_X_risk 39 = .ok (.getfield 19, 3) := by decide +kernel
theorem qd_X_risk_42 : decode qc_X_risk 42 = .ok (.getfield 116, 3) := by decide +kernel
theorem qd_X_risk_45 : decode qc_X_risk 45 = .ok (.iload 4, 2) := by decide +kernel
theorem qd_X_risk_47 : decode qc_X_risk 47 = .ok (.iload_n 2, 1) := by decide +kernel
theorem qd_X_risk_48 : decode qc_X_risk 48 = .ok (.iload_n 3, 1) := by decide +kernel
theorem qd_X_risk_49 : decode qc_X_risk 49 = .ok (.invokevirtual 125, 3) := by decide +kernel
theorem qd_X_risk_52 : decode qc_X_risk 52 = .ok (.ireturn, 1) := by decide +kernel
theorem qd_X_replay_0 : decode qc_X_replay 0 = .ok (.iload_n 1, 1) := by decide +kernel
theorem qd_X_replay_1 : decode qc_X_replay 1 = .ok (.iconst 1, 1) := by decide +kernel
theorem qd_X_replay_2 : decode qc_X_replay 2 = .ok (.if_icmp .eq 8, 3) := by decide +kernel
theorem qd_X_replay_5 : decode qc_X_replay 5 = .ok (.iload_n 1, 1) := by decide +kernel
theorem qd_X_replay_6 : decode qc_X_replay 6 = .ok (.iconst 2, 1) := by decide +kernel
theorem qd_X_replay_7 : decode qc_X_replay 7 = .ok (.if_icmp .ne 23, 3) := by decide +kernel
theorem qd_X_replay_10 : decode qc_X_replay 10 = .ok (.iload_n 2, 1) := by decide +kernel
theorem qd_X_replay_11 : decode qc_X_replay 11 = .ok (.iload_n 1, 1) := by decide +kernel
theorem qd_X_replay_12 : decode qc_X_replay 12 = .ok (.iconst 1, 1) := by decide +kernel
theorem qd_X_replay_13 : decode qc_X_replay 13 = .ok (.if_icmp .ne 8, 3) := by decide +kernel
theorem qd_X_replay_16 : decode qc_X_replay 16 = .ok (.bipush 64, 2) := by decide +kernel
theorem qd_X_replay_18 : decode qc_X_replay 18 = .ok (.goto 6, 3) := by decide +kernel
theorem qd_X_replay_21 : decode qc_X_replay 21 = .ok (.sipush 4096, 3) := by decide +kernel
theorem qd_X_replay_24 : decode qc_X_replay 24 = .ok (.invokestatic 38, 3) := by decide +kernel
theorem qd_X_replay_27 : decode qc_X_replay 27 = .ok (.ifCond .ne 5, 3) := by decide +kernel
theorem qd_X_replay_30 : decode qc_X_replay 30 = .ok (.iconst (-1), 1) := by decide +kernel
theorem qd_X_replay_31 : decode qc_X_replay 31 = .ok (.ireturn, 1) := by decide +kernel
theorem qd_X_replay_32 : decode qc_X_replay 32 = .ok (.aload_n 0, 1) := by decide +kernel
theorem qd_X_replay_33 : decode qc_X_replay 33 = .ok (.invokevirtual 58, 3) := by decide +kernel
theorem qd_X_replay_36 : decode qc_X_replay 36 = .ok (.istore_n 3, 1) := by decide +kernel
theorem qd_X_replay_37 : decode qc_X_replay 37 = .ok (.iconst 0, 1) := by decide +kernel
theorem qd_X_replay_38 : decode qc_X_replay 38 = .ok (.istore 4, 2) := by decide +kernel
theorem qd_X_replay_40 : decode qc_X_replay 40 = .ok (.iload_n 1, 1) := by decide +kernel
theorem qd_X_replay_41 : decode qc_X_replay 41 = .ok (.iconst 2, 1) := by decide +kernel
theorem qd_X_replay_42 : decode qc_X_replay 42 = .ok (.if_icmp .ne 46, 3) := by decide +kernel
theorem qd_X_replay_45 : decode qc_X_replay 45 = .ok (.aload_n 0, 1) := by decide +kernel
theorem qd_X_replay_46 : decode qc_X_replay 46 = .ok (.getfield 12, 3) := by decide +kernel
theorem qd_X_replay_49 : decode qc_X_replay 49 = .ok (.iload_n 2, 1) := by decide +kernel
theorem qd_X_replay_50 : decode qc_X_replay 50 = .ok (.bipush 64, 2) := by decide +kernel
theorem qd_X_replay_52 : decode qc_X_replay 52 = .ok (.idiv, 1) := by decide +kernel
theorem qd_X_replay_53 : decode qc_X_replay 53 = .ok (.iload_n 3, 1) := by decide +kernel
theorem qd_X_replay_54 : decode qc_X_replay 54 = .ok (.iconst 0, 1) := by decide +kernel
theorem qd_X_replay_55 : decode qc_X_replay 55 = .ok (.aload_n 0, 1) := by decide +kernel
theorem qd_X_replay_56 : decode qc_X_replay 56 = .ok (.getfield 35, 3) := by decide +kernel
theorem qd_X_replay_59 : decode qc_X_replay 59 = .ok (.invokevirtual 129, 3) := by decide +kernel
theorem qd_X_replay_62 : decode qc_X_replay 62 = .ok (.aload_n 0, 1) := by decide +kernel
theorem qd_X_replay_63 : decode qc_X_replay 63 = .ok (.getfield 12, 3) := by decide +kernel
theorem qd_X_replay_66 : decode qc_X_replay 66 = .ok (.getfield 133, 3) := by decide +kernel
theorem qd_X_replay_69 : decode qc_X_replay 69 = .ok (.istore_n 3, 1) := by decide +kernel
theorem qd_X_replay_70 : decode qc_X_replay 70 = .ok (.aload_n 0, 1) := by decide +kernel
theorem qd_X_replay_71 : decode qc_X_replay 71 = .ok (.getfield 12, 3) := by decide +kernel
theorem qd_X_replay_74 : decode qc_X_replay 74 = .ok (.getfield 136, 3) := by decide +kernel
theorem qd_X_replay_77 : decode qc_X_replay 77 = .ok (.iconst 3, 1) := by decide +kernel
theorem qd_X_replay_78 : decode qc_X_replay 78 = .ok (.if_icmp .ne 7, 3) := by decide +kernel
theorem qd_X_replay_81 : decode qc_X_replay 81 = .ok (.iconst 1, 1) := by decide +kernel
theorem qd_X_replay_82 : decode qc_X_replay 82 = .ok (.goto 4, 3) := by decide +kernel
theorem qd_X_replay_85 : decode qc_X_replay 85 = .ok (.iconst 0, 1) := by decide +kernel
theorem qd_X_replay_86 : decode qc_X_replay 86 = .ok (.istore 4, 2) := by decide +kernel
theorem qd_X_replay_88 : decode qc_X_replay 88 = .ok (.aload_n 0, 1) := by decide +kernel
theorem qd_X_replay_89 : decode qc_X_replay 89 = .ok (.getfield 12, 3) := by decide +kernel
theorem qd_X_replay_92 : decode qc_X_replay 92 = .ok (.iload_n 2, 1) := by decide +kernel
theorem qd_X_replay_93 : decode qc_X_replay 93 = .ok (.bipush 64, 2) := by decide +kernel
theorem qd_X_replay_95 : decode qc_X_replay 95 = .ok (.irem, 1) := by decide +kernel
theorem qd_X_replay_96 : decode qc_X_replay 96 = .ok (.iload_n 3, 1) := by decide +kernel
theorem qd_X_replay_97 : decode qc_X_replay 97 = .ok (.iload 4, 2) := by decide +kernel
theorem qd_X_replay_99 : decode qc_X_replay 99 = .ok (.aload_n 0, 1) := by decide +kernel
theorem qd_X_replay_100 : decode qc_X_replay 100 = .ok (.getfield 35, 3) := by decide +kernel
theorem qd_X_replay_103 : decode qc_X_replay 103 = .ok (.invokevirtual 129, 3) := by decide +kernel
theorem qd_X_replay_106 : decode qc_X_replay 106 = .ok (.aload_n 0, 1) := by decide +kernel
theorem qd_X_replay_107 : decode qc_X_replay 107 = .ok (.invokevirtual 139, 3) := by decide +kernel
theorem qd_X_replay_110 : decode qc_X_replay 110 = .ok (.aload_n 0, 1) := by decide +kernel
theorem qd_X_replay_111 : decode qc_X_replay 111 = .ok (.getfield 12, 3) := by decide +kernel
theorem qd_X_replay_114 : decode qc_X_replay 114 = .ok (.getfield 136, 3) := by decide +kernel
theorem qd_X_replay_117 : decode qc_X_replay 117 = .ok (.ireturn, 1) := by decide +kernel
theorem qd_X_replayed_0 : decode qc_X_replayed 0 = .ok (.aload_n 0, 1) := by decide +kernel
theorem qd_X_replayed_1 : decode qc_X_replayed 1 = .ok (.getfield 27, 3) := by decide +kernel
theorem qd_X_replayed_4 : decode qc_X_replayed 4 = .ok (.ifCond .eq 21, 3) := by decide +kernel
theorem qd_X_replayed_7 : decode qc_X_replayed 7 = .ok (.iload_n 1, 1) := by decide +kernel
theorem qd_X_replayed_8 : decode qc_X_replayed 8 = .ok (.bipush 7, 2) := by decide +kernel
theorem qd_X_replayed_10 : decode qc_X_replayed 10 = .ok (.invokestatic 38, 3) := by decide +kernel
theorem qd_X_replayed_13 : decode qc_X_replayed 13 = .ok (.ifCond .eq 12, 3) := by decide +kernel
theorem qd_X_replayed_16 : decode qc_X_replayed 16 = .ok (.aload_n 0, 1) := by decide +kernel
theorem qd_X_replayed_17 : decode qc_X_replayed 17 = .ok (.getfield 23, 3) := by decide +kernel
theorem qd_X_replayed_20 : decode qc_X_replayed 20 = .ok (.iload_n 1, 1) := by decide +kernel
theorem qd_X_replayed_21 : decode qc_X_replayed 21 = .ok (.iaload, 1) := by decide +kernel
theorem qd_X_replayed_22 : decode qc_X_replayed 22 = .ok (.goto 4, 3) := by decide +kernel
theorem qd_X_replayed_25 : decode qc_X_replayed 25 = .ok (.iconst (-1), 1) := by decide +kernel
theorem qd_X_replayed_26 : decode qc_X_replayed 26 = .ok (.ireturn, 1) := by decide +kernel
theorem qd_X_keepReplay_0 : decode qc_X_keepReplay 0 = .ok (.iconst 0, 1) := by decide +kernel
theorem qd_X_keepReplay_1 : decode qc_X_keepReplay 1 = .ok (.istore_n 1, 1) := by decide +kernel
theorem qd_X_keepReplay_2 : decode qc_X_keepReplay 2 = .ok (.iload_n 1, 1) := by decide +kernel
theorem qd_X_keepReplay_3 : decode qc_X_keepReplay 3 = .ok (.iconst 5, 1) := by decide +kernel
theorem qd_X_keepReplay_4 : decode qc_X_keepReplay 4 = .ok (.if_icmp .ge 26, 3) := by decide +kernel
theorem qd_X_keepReplay_7 : decode qc_X_keepReplay 7 = .ok (.aload_n 0, 1) := by decide +kernel
theorem qd_X_keepReplay_8 : decode qc_X_keepReplay 8 = .ok (.getfield 23, 3) := by decide +kernel
theorem qd_X_keepReplay_11 : decode qc_X_keepReplay 11 = .ok (.iload_n 1, 1) := by decide +kernel
theorem qd_X_keepReplay_12 : decode qc_X_keepReplay 12 = .ok (.aload_n 0, 1) := by decide +kernel
theorem qd_X_keepReplay_13 : decode qc_X_keepReplay 13 = .ok (.getfield 12, 3) := by decide +kernel
theorem qd_X_keepReplay_16 : decode qc_X_keepReplay 16 = .ok (.getfield 133, 3) := by decide +kernel
theorem qd_X_keepReplay_19 : decode qc_X_keepReplay 19 = .ok (.iload_n 1, 1) := by decide +kernel
theorem qd_X_keepReplay_20 : decode qc_X_keepReplay 20 = .ok (.invokestatic 110, 3) := by decide +kernel
theorem qd_X_keepReplay_23 : decode qc_X_keepReplay 23 = .ok (.iastore, 1) := by decide +kernel
theorem qd_X_keepReplay_24 : decode qc_X_keepReplay 24 = .ok (.iinc 1 1, 3) := by decide +kernel
theorem qd_X_keepReplay_27 : decode qc_X_keepReplay 27 = .ok (.goto (-25), 3) := by decide +kernel
theorem qd_X_keepReplay_30 : decode qc_X_keepReplay 30 = .ok (.aload_n 0, 1) := by decide +kernel
theorem qd_X_keepReplay_31 : decode qc_X_keepReplay 31 = .ok (.getfield 23, 3) := by decide +kernel
theorem qd_X_keepReplay_34 : decode qc_X_keepReplay 34 = .ok (.iconst 5, 1) := by decide +kernel
theorem qd_X_keepReplay_35 : decode qc_X_keepReplay 35 = .ok (.aload_n 0, 1) := by decide +kernel
theorem qd_X_keepReplay_36 : decode qc_X_keepReplay 36 = .ok (.getfield 12, 3) := by decide +kernel
theorem qd_X_keepReplay_39 : decode qc_X_keepReplay 39 = .ok (.getfield 142, 3) := by decide +kernel
theorem qd_X_keepReplay_42 : decode qc_X_keepReplay 42 = .ok (.iastore, 1) := by decide +kernel
theorem qd_X_keepReplay_43 : decode qc_X_keepReplay 43 = .ok (.aload_n 0, 1) := by decide +kernel
theorem qd_X_keepReplay_44 : decode qc_X_keepReplay 44 = .ok (.getfield 23, 3) := by decide +kernel
theorem qd_X_keepReplay_47 : decode qc_X_keepReplay 47 = .ok (.bipush 6, 2) := by decide +kernel
theorem qd_X_keepReplay_49 : decode qc_X_keepReplay 49 = .ok (.aload_n 0, 1) := by decide +kernel
theorem qd_X_keepReplay_50 : decode qc_X_keepReplay 50 = .ok (.getfield 12, 3) := by decide +kernel
theorem qd_X_keepReplay_53 : decode qc_X_keepReplay 53 = .ok (.getfield 145, 3) := by decide +kernel
theorem qd_X_keepReplay_56 : decode qc_X_keepReplay 56 = .ok (.iastore, 1) := by decide +kernel
theorem qd_X_keepReplay_57 : decode qc_X_keepReplay 57 = .ok (.aload_n 0, 1) := by decide +kernel
theorem qd_X_keepReplay_58 : decode qc_X_keepReplay 58 = .ok (.iconst 1, 1) := by decide +kernel
theorem qd_X_keepReplay_59 : decode qc_X_keepReplay 59 = .ok (.putfield 27, 3) := by decide +kernel
theorem qd_X_keepReplay_62 : decode qc_X_keepReplay 62 = .ok (.return_, 1) := by decide +kernel
theorem qd_X_firstState_0 : decode qc_X_firstState 0 = .ok (.aload_n 0, 1) := by decide +kernel
theorem qd_X_firstState_1 : decode qc_X_firstState 1 = .ok (.getfield 31, 3) := by decide +kernel
theorem qd_X_firstState_4 : decode qc_X_firstState 4 = .ok (.bipush 16, 2) := by decide +kernel
theorem qd_X_firstState_6 : decode qc_X_firstState 6 = .ok (.ishl, 1) := by decide +kernel
theorem qd_X_firstState_7 : decode qc_X_firstState 7 = .ok (.ireturn, 1) := by decide +kernel
theorem qd_X_isBelow_0 : decode qc_X_isBelow 0 = .ok (.iload_n 0, 1) := by decide +kernel
theorem qd_X_isBelow_1 : decode qc_X_isBelow 1 = .ok (.ifCond .lt 12, 3) := by decide +kernel
theorem qd_X_isBelow_4 : decode qc_X_isBelow 4 = .ok (.iload_n 0, 1) := by decide +kernel
theorem qd_X_isBelow_5 : decode qc_X_isBelow 5 = .ok (.iload_n 1, 1) := by decide +kernel
theorem qd_X_isBelow_6 : decode qc_X_isBelow 6 = .ok (.if_icmp .ge 7, 3) := by decide +kernel
theorem qd_X_isBelow_9 : decode qc_X_isBelow 9 = .ok (.iconst 1, 1) := by decide +kernel
theorem qd_X_isBelow_10 : decode qc_X_isBelow 10 = .ok (.goto 4, 3) := by decide +kernel
theorem qd_X_isBelow_13 : decode qc_X_isBelow 13 = .ok (.iconst 0, 1) := by decide +kernel
theorem qd_X_isBelow_14 : decode qc_X_isBelow 14 = .ok (.ireturn, 1) := by decide +kernel
theorem qd_X_wordOf_0 : decode qc_X_wordOf 0 = .ok (.iload_n 0, 1) := by decide +kernel
theorem qd_X_wordOf_1 : decode qc_X_wordOf 1 = .ok (.iconst 4, 1) := by decide +kernel
theorem qd_X_wordOf_2 : decode qc_X_wordOf 2 = .ok (.iload_n 1, 1) := by decide +kernel
theorem qd_X_wordOf_3 : decode qc_X_wordOf 3 = .ok (.imul, 1) := by decide +kernel
theorem qd_X_wordOf_4 : decode qc_X_wordOf 4 = .ok (.ishr, 1) := by decide +kernel
theorem qd_X_wordOf_5 : decode qc_X_wordOf 5 = .ok (.bipush 15, 2) := by decide +kernel
theorem qd_X_wordOf_7 : decode qc_X_wordOf 7 = .ok (.iand, 1) := by decide +kernel
theorem qd_X_wordOf_8 : decode qc_X_wordOf 8 = .ok (.ireturn, 1) := by decide +kernel
theorem qd_X_withWord_0 : decode qc_X_withWord 0 = .ok (.iload_n 0, 1) := by decide +kernel
theorem qd_X_withWord_1 : decode qc_X_withWord 1 = .ok (.bipush 15, 2) := by decide +kernel
theorem qd_X_withWord_3 : decode qc_X_withWord 3 = .ok (.iconst 4, 1) := by decide +kernel
theorem qd_X_withWord_4 : decode qc_X_withWord 4 = .ok (.iload_n 1, 1) := by decide +kernel
theorem qd_X_withWord_5 : decode qc_X_withWord 5 = .ok (.imul, 1) := by decide +kernel
theorem qd_X_withWord_6 : decode qc_X_withWord 6 = .ok (.ishl, 1) := by decide +kernel
theorem qd_X_withWord_7 : decode qc_X_withWord 7 = .ok (.iconst (-1), 1) := by decide +kernel
theorem qd_X_withWord_8 : decode qc_X_withWord 8 = .ok (.ixor, 1) := by decide +kernel
theorem qd_X_withWord_9 : decode qc_X_withWord 9 = .ok (.iand, 1) := by decide +kernel
theorem qd_X_withWord_10 : decode qc_X_withWord 10 = .ok (.iload_n 2, 1) := by decide +kernel
theorem qd_X_withWord_11 : decode qc_X_withWord 11 = .ok (.iconst 4, 1) := by decide +kernel
theorem qd_X_withWord_12 : decode qc_X_withWord 12 = .ok (.iload_n 1, 1) := by decide +kernel
theorem qd_X_withWord_13 : decode qc_X_withWord 13 = .ok (.imul, 1) := by decide +kernel
theorem qd_X_withWord_14 : decode qc_X_withWord 14 = .ok (.ishl, 1) := by decide +kernel
theorem qd_X_withWord_15 : decode qc_X_withWord 15 = .ok (.ior, 1) := by decide +kernel
theorem qd_X_withWord_16 : decode qc_X_withWord 16 = .ok (.ireturn, 1) := by decide +kernel
