theorem qd_M_init_0 : decode qc_M_init 0 = .ok (.aload_n 0, 1) := by decide +kernel
theorem qd_M_init_1 : decode qc_M_init 1 = .ok (.invokespecial 1, 3) := by decide +kernel
theorem qd_M_init_4 : decode qc_M_init 4 = .ok (.aload_n 0, 1) := by decide +kernel
theorem qd_M_init_5 : decode qc_M_init 5 = .ok (.bipush 32, 2) := by decide +kernel
theorem qd_M_init_7 : decode qc_M_init 7 = .ok (.newarray .int, 2) := by decide +kernel
theorem qd_M_init_9 : decode qc_M_init 9 = .ok (.putfield 7, 3) := by decide +kernel
theorem qd_M_init_12 : decode qc_M_init 12 = .ok (.aload_n 0, 1) := by decide +kernel
theorem qd_M_init_13 : decode qc_M_init 13 = .ok (.bipush 32, 2) := by decide +kernel
theorem qd_M_init_15 : decode qc_M_init 15 = .ok (.newarray .int, 2) := by decide +kernel
theorem qd_M_init_17 : decode qc_M_init 17 = .ok (.putfield 13, 3) := by decide +kernel
theorem qd_M_init_20 : decode qc_M_init 20 = .ok (.aload_n 0, 1) := by decide +kernel
theorem qd_M_init_21 : decode qc_M_init 21 = .ok (.bipush 24, 2) := by decide +kernel
theorem qd_M_init_23 : decode qc_M_init 23 = .ok (.putfield 16, 3) := by decide +kernel
theorem qd_M_init_26 : decode qc_M_init 26 = .ok (.aload_n 0, 1) := by decide +kernel
theorem qd_M_init_27 : decode qc_M_init 27 = .ok (.iconst 5, 1) := by decide +kernel
theorem qd_M_init_28 : decode qc_M_init 28 = .ok (.newarray .int, 2) := by decide +kernel
theorem qd_M_init_30 : decode qc_M_init 30 = .ok (.putfield 20, 3) := by decide +kernel
theorem qd_M_init_33 : decode qc_M_init 33 = .ok (.aload_n 0, 1) := by decide +kernel
theorem qd_M_init_34 : decode qc_M_init 34 = .ok (.iconst 5, 1) := by decide +kernel
theorem qd_M_init_35 : decode qc_M_init 35 = .ok (.newarray .int, 2) := by decide +kernel
theorem qd_M_init_37 : decode qc_M_init 37 = .ok (.putfield 23, 3) := by decide +kernel
theorem qd_M_init_40 : decode qc_M_init 40 = .ok (.aload_n 0, 1) := by decide +kernel
theorem qd_M_init_41 : decode qc_M_init 41 = .ok (.bipush 7, 2) := by decide +kernel
theorem qd_M_init_43 : decode qc_M_init 43 = .ok (.newarray .int, 2) := by decide +kernel
theorem qd_M_init_45 : decode qc_M_init 45 = .ok (.putfield 26, 3) := by decide +kernel
theorem qd_M_init_48 : decode qc_M_init 48 = .ok (.aload_n 0, 1) := by decide +kernel
theorem qd_M_init_49 : decode qc_M_init 49 = .ok (.bipush 82, 2) := by decide +kernel
theorem qd_M_init_51 : decode qc_M_init 51 = .ok (.newarray .int, 2) := by decide +kernel
theorem qd_M_init_53 : decode qc_M_init 53 = .ok (.putfield 29, 3) := by decide +kernel
theorem qd_M_init_56 : decode qc_M_init 56 = .ok (.aload_n 0, 1) := by decide +kernel
theorem qd_M_init_57 : decode qc_M_init 57 = .ok (.iconst 2, 1) := by decide +kernel
theorem qd_M_init_58 : decode qc_M_init 58 = .ok (.newarray .int, 2) := by decide +kernel
theorem qd_M_init_60 : decode qc_M_init 60 = .ok (.putfield 32, 3) := by decide +kernel
theorem qd_M_init_63 : decode qc_M_init 63 = .ok (.aload_n 0, 1) := by decide +kernel
theorem qd_M_init_64 : decode qc_M_init 64 = .ok (.iconst 2, 1) := by decide +kernel
theorem qd_M_init_65 : decode qc_M_init 65 = .ok (.newarray .int, 2) := by decide +kernel
theorem qd_M_init_67 : decode qc_M_init 67 = .ok (.putfield 35, 3) := by decide +kernel
theorem qd_M_init_70 : decode qc_M_init 70 = .ok (.aload_n 0, 1) := by decide +kernel
theorem qd_M_init_71 : decode qc_M_init 71 = .ok (.iconst 5, 1) := by decide +kernel
theorem qd_M_init_72 : decode qc_M_init 72 = .ok (.newarray .int, 2) := by decide +kernel
theorem qd_M_init_74 : decode qc_M_init 74 = .ok (.putfield 38, 3) := by decide +kernel
theorem qd_M_init_77 : decode qc_M_init 77 = .ok (.aload_n 0, 1) := by decide +kernel
theorem qd_M_init_78 : decode qc_M_init 78 = .ok (.sipush 3280, 3) := by decide +kernel
theorem qd_M_init_81 : decode qc_M_init 81 = .ok (.newarray .int, 2) := by decide +kernel
theorem qd_M_init_83 : decode qc_M_init 83 = .ok (.putfield 41, 3) := by decide +kernel
theorem qd_M_init_86 : decode qc_M_init 86 = .ok (.aload_n 0, 1) := by decide +kernel
theorem qd_M_init_87 : decode qc_M_init 87 = .ok (.bipush 80, 2) := by decide +kernel
theorem qd_M_init_89 : decode qc_M_init 89 = .ok (.newarray .int, 2) := by decide +kernel
theorem qd_M_init_91 : decode qc_M_init 91 = .ok (.putfield 44, 3) := by decide +kernel
theorem qd_M_init_94 : decode qc_M_init 94 = .ok (.aload_n 0, 1) := by decide +kernel
theorem qd_M_init_95 : decode qc_M_init 95 = .ok (.bipush 80, 2) := by decide +kernel
theorem qd_M_init_97 : decode qc_M_init 97 = .ok (.newarray .int, 2) := by decide +kernel
theorem qd_M_init_99 : decode qc_M_init 99 = .ok (.putfield 47, 3) := by decide +kernel
theorem qd_M_init_102 : decode qc_M_init 102 = .ok (.aload_n 0, 1) := by decide +kernel
theorem qd_M_init_103 : decode qc_M_init 103 = .ok (.bipush 40, 2) := by decide +kernel
theorem qd_M_init_105 : decode qc_M_init 105 = .ok (.newarray .int, 2) := by decide +kernel
theorem qd_M_init_107 : decode qc_M_init 107 = .ok (.putfield 50, 3) := by decide +kernel
theorem qd_M_init_110 : decode qc_M_init 110 = .ok (.aload_n 0, 1) := by decide +kernel
theorem qd_M_init_111 : decode qc_M_init 111 = .ok (.bipush 40, 2) := by decide +kernel
theorem qd_M_init_113 : decode qc_M_init 113 = .ok (.newarray .int, 2) := by decide +kernel
theorem qd_M_init_115 : decode qc_M_init 115 = .ok (.putfield 53, 3) := by decide +kernel
theorem qd_M_init_118 : decode qc_M_init 118 = .ok (.aload_n 0, 1) := by decide +kernel
theorem qd_M_init_119 : decode qc_M_init 119 = .ok (.sipush 200, 3) := by decide +kernel
theorem qd_M_init_122 : decode qc_M_init 122 = .ok (.newarray .int, 2) := by decide +kernel
theorem qd_M_init_124 : decode qc_M_init 124 = .ok (.putfield 56, 3) := by decide +kernel
theorem qd_M_init_127 : decode qc_M_init 127 = .ok (.aload_n 0, 1) := by decide +kernel
theorem qd_M_init_128 : decode qc_M_init 128 = .ok (.sipush 200, 3) := by decide +kernel
theorem qd_M_init_131 : decode qc_M_init 131 = .ok (.newarray .boolean, 2) := by decide +kernel
theorem qd_M_init_133 : decode qc_M_init 133 = .ok (.putfield 59, 3) := by decide +kernel
theorem qd_M_init_136 : decode qc_M_init 136 = .ok (.aload_n 0, 1) := by decide +kernel
theorem qd_M_init_137 : decode qc_M_init 137 = .ok (.sipush 6400, 3) := by decide +kernel
theorem qd_M_init_140 : decode qc_M_init 140 = .ok (.newarray .int, 2) := by decide +kernel
theorem qd_M_init_142 : decode qc_M_init 142 = .ok (.putfield 63, 3) := by decide +kernel
theorem qd_M_init_145 : decode qc_M_init 145 = .ok (.aload_n 0, 1) := by decide +kernel
theorem qd_M_init_146 : decode qc_M_init 146 = .ok (.sipush 160, 3) := by decide +kernel
theorem qd_M_init_149 : decode qc_M_init 149 = .ok (.newarray .int, 2) := by decide +kernel
theorem qd_M_init_151 : decode qc_M_init 151 = .ok (.putfield 66, 3) := by decide +kernel
theorem qd_M_init_154 : decode qc_M_init 154 = .ok (.aload_n 0, 1) := by decide +kernel
theorem qd_M_init_155 : decode qc_M_init 155 = .ok (.bipush 7, 2) := by decide +kernel
theorem qd_M_init_157 : decode qc_M_init 157 = .ok (.newarray .int, 2) := by decide +kernel
theorem qd_M_init_159 : decode qc_M_init 159 = .ok (.putfield 69, 3) := by decide +kernel
theorem qd_M_init_162 : decode qc_M_init 162 = .ok (.return_, 1) := by decide +kernel
theorem qd_M_add_0 : decode qc_M_add 0 = .ok (.iload_n 1, 1) := by decide +kernel
theorem qd_M_add_1 : decode qc_M_add 1 = .ok (.ifCond .lt 28, 3) := by decide +kernel
theorem qd_M_add_4 : decode qc_M_add 4 = .ok (.iload_n 1, 1) := by decide +kernel
theorem qd_M_add_5 : decode qc_M_add 5 = .ok (.bipush 24, 2) := by decide +kernel
theorem qd_M_add_7 : decode qc_M_add 7 = .ok (.if_icmp .gt 22, 3) := by decide +kernel
theorem qd_M_add_10 : decode qc_M_add 10 = .ok (.iload_n 2, 1) := by decide +kernel
theorem qd_M_add_11 : decode qc_M_add 11 = .ok (.ifCond .lt 18, 3) := by decide +kernel
theorem qd_M_add_14 : decode qc_M_add 14 = .ok (.iload_n 2, 1) := by decide +kernel
theorem qd_M_add_15 : decode qc_M_add 15 = .ok (.bipush 15, 2) := by decide +kernel
theorem qd_M_add_17 : decode qc_M_add 17 = .ok (.if_icmp .gt 12, 3) := by decide +kernel
theorem qd_M_add_20 : decode qc_M_add 20 = .ok (.aload_n 0, 1) := by decide +kernel
theorem qd_M_add_21 : decode qc_M_add 21 = .ok (.getfield 72, 3) := by decide +kernel
theorem qd_M_add_24 : decode qc_M_add 24 = .ok (.bipush 32, 2) := by decide +kernel
theorem qd_M_add_26 : decode qc_M_add 26 = .ok (.if_icmp .ne 5, 3) := by decide +kernel
theorem qd_M_add_29 : decode qc_M_add 29 = .ok (.iconst (-1), 1) := by decide +kernel
theorem qd_M_add_30 : decode qc_M_add 30 = .ok (.ireturn, 1) := by decide +kernel
theorem qd_M_add_31 : decode qc_M_add 31 = .ok (.aload_n 0, 1) := by decide +kernel
theorem qd_M_add_32 : decode qc_M_add 32 = .ok (.getfield 7, 3) := by decide +kernel
theorem qd_M_add_35 : decode qc_M_add 35 = .ok (.aload_n 0, 1) := by decide +kernel
theorem qd_M_add_36 : decode qc_M_add 36 = .ok (.getfield 72, 3) := by decide +kernel
theorem qd_M_add_39 : decode qc_M_add 39 = .ok (.iload_n 1, 1) := by decide +kernel
theorem qd_M_add_40 : decode qc_M_add 40 = .ok (.iastore, 1) := by decide +kernel
theorem qd_M_add_41 : decode qc_M_add 41 = .ok (.aload_n 0, 1) := by decide +kernel
theorem qd_M_add_42 : decode qc_M_add 42 = .ok (.getfield 13, 3) := by decide +kernel
theorem qd_M_add_45 : decode qc_M_add 45 = .ok (.aload_n 0, 1) := by decide +kernel
theorem qd_M_add_46 : decode qc_M_add 46 = .ok (.getfield 72, 3) := by decide +kernel
theorem qd_M_add_49 : decode qc_M_add 49 = .ok (.iload_n 2, 1) := by decide +kernel
theorem qd_M_add_50 : decode qc_M_add 50 = .ok (.iastore, 1) := by decide +kernel
theorem qd_M_add_51 : decode qc_M_add 51 = .ok (.aload_n 0, 1) := by decide +kernel
theorem qd_M_add_52 : decode qc_M_add 52 = .ok (.dup, 1) := by decide +kernel
theorem qd_M_add_53 : decode qc_M_add 53 = .ok (.getfield 72, 3) := by decide +kernel
theorem qd_M_add_56 : decode qc_M_add 56 = .ok (.iconst 1, 1) := by decide +kernel
theorem qd_M_add_57 : decode qc_M_add 57 = .ok (.iadd, 1) := by decide +kernel
theorem qd_M_add_58 : decode qc_M_add 58 = .ok (.putfield 72, 3) := by decide +kernel
theorem qd_M_add_61 : decode qc_M_add 61 = .ok (.aload_n 0, 1) := by decide +kernel
theorem qd_M_add_62 : decode qc_M_add 62 = .ok (.getfield 72, 3) := by decide +kernel
theorem qd_M_add_65 : decode qc_M_add 65 = .ok (.iconst 1, 1) := by decide +kernel
theorem qd_M_add_66 : decode qc_M_add 66 = .ok (.isub, 1) := by decide +kernel
theorem qd_M_add_67 : decode qc_M_add 67 = .ok (.ireturn, 1) := by decide +kernel
theorem qd_M_clear_0 : decode qc_M_clear 0 = .ok (.aload_n 0, 1) := by decide +kernel
theorem qd_M_clear_1 : decode qc_M_clear 1 = .ok (.iconst 0, 1) := by decide +kernel
theorem qd_M_clear_2 : decode qc_M_clear 2 = .ok (.putfield 72, 3) := by decide +kernel
theorem qd_M_clear_5 : decode qc_M_clear 5 = .ok (.return_, 1) := by decide +kernel
theorem qd_M_start_0 : decode qc_M_start 0 = .ok (.iload_n 1, 1) := by decide +kernel
theorem qd_M_start_1 : decode qc_M_start 1 = .ok (.ifCond .lt 20, 3) := by decide +kernel
theorem qd_M_start_4 : decode qc_M_start 4 = .ok (.iload_n 1, 1) := by decide +kernel
theorem qd_M_start_5 : decode qc_M_start 5 = .ok (.bipush 15, 2) := by decide +kernel
theorem qd_M_start_7 : decode qc_M_start 7 = .ok (.if_icmp .gt 14, 3) := by decide +kernel
theorem qd_M_start_10 : decode qc_M_start 10 = .ok (.iload_n 2, 1) := by decide +kernel
theorem qd_M_start_11 : decode qc_M_start 11 = .ok (.iconst 1, 1) := by decide +kernel
theorem qd_M_start_12 : decode qc_M_start 12 = .ok (.if_icmp .lt 9, 3) := by decide +kernel
theorem qd_M_start_15 : decode qc_M_start 15 = .ok (.iload_n 2, 1) := by decide +kernel
theorem qd_M_start_16 : decode qc_M_start 16 = .ok (.bipush 40, 2) := by decide +kernel
theorem qd_M_start_18 : decode qc_M_start 18 = .ok (.if_icmp .le 5, 3) := by decide +kernel
theorem qd_M_start_21 : decode qc_M_start 21 = .ok (.iconst 0, 1) := by decide +kernel
theorem qd_M_start_22 : decode qc_M_start 22 = .ok (.ireturn, 1) := by decide +kernel
theorem qd_M_start_23 : decode qc_M_start 23 = .ok (.aload_n 0, 1) := by decide +kernel
theorem qd_M_start_24 : decode qc_M_start 24 = .ok (.iload_n 1, 1) := by decide +kernel
theorem qd_M_start_25 : decode qc_M_start 25 = .ok (.putfield 75, 3) := by decide +kernel
theorem qd_M_start_28 : decode qc_M_start 28 = .ok (.aload_n 0, 1) := by decide +kernel
theorem qd_M_start_29 : decode qc_M_start 29 = .ok (.iload_n 2, 1) := by decide +kernel
theorem qd_M_start_30 : decode qc_M_start 30 = .ok (.putfield 16, 3) := by decide +kernel
theorem qd_M_start_33 : decode qc_M_start 33 = .ok (.iconst 1, 1) := by decide +kernel
theorem qd_M_start_34 : decode qc_M_start 34 = .ok (.ireturn, 1) := by decide +kernel
theorem qd_M_takes_0 : decode qc_M_takes 0 = .ok (.iload_n 0, 1) := by decide +kernel
theorem qd_M_takes_1 : decode qc_M_takes 1 = .ok (.bipush 6, 2) := by decide +kernel
theorem qd_M_takes_3 : decode qc_M_takes 3 = .ok (.if_icmp .lt 9, 3) := by decide +kernel
theorem qd_M_takes_6 : decode qc_M_takes 6 = .ok (.iload_n 0, 1) := by decide +kernel
theorem qd_M_takes_7 : decode qc_M_takes 7 = .ok (.bipush 12, 2) := by decide +kernel
theorem qd_M_takes_9 : decode qc_M_takes 9 = .ok (.if_icmp .le 15, 3) := by decide +kernel
theorem qd_M_takes_12 : decode qc_M_takes 12 = .ok (.iload_n 0, 1) := by decide +kernel
theorem qd_M_takes_13 : decode qc_M_takes 13 = .ok (.bipush 15, 2) := by decide +kernel
theorem qd_M_takes_15 : decode qc_M_takes 15 = .ok (.if_icmp .eq 9, 3) := by decide +kernel
theorem qd_M_takes_18 : decode qc_M_takes 18 = .ok (.iload_n 0, 1) := by decide +kernel
theorem qd_M_takes_19 : decode qc_M_takes 19 = .ok (.bipush 18, 2) := by decide +kernel
theorem qd_M_takes_21 : decode qc_M_takes 21 = .ok (.if_icmp .ne 5, 3) := by decide +kernel
theorem qd_M_takes_24 : decode qc_M_takes 24 = .ok (.iconst 2, 1) := by decide +kernel
theorem qd_M_takes_25 : decode qc_M_takes 25 = .ok (.ireturn, 1) := by decide +kernel
theorem qd_M_takes_26 : decode qc_M_takes 26 = .ok (.iload_n 0, 1) := by decide +kernel
theorem qd_M_takes_27 : decode qc_M_takes 27 = .ok (.iconst 5, 1) := by decide +kernel
theorem qd_M_takes_28 : decode qc_M_takes 28 = .ok (.if_icmp .eq 33, 3) := by decide +kernel
theorem qd_M_takes_31 : decode qc_M_takes 31 = .ok (.iload_n 0, 1) := by decide +kernel
theorem qd_M_takes_32 : decode qc_M_takes 32 = .ok (.bipush 13, 2) := by decide +kernel
theorem qd_M_takes_34 : decode qc_M_takes 34 = .ok (.if_icmp .eq 27, 3) := by decide +kernel
theorem qd_M_takes_37 : decode qc_M_takes 37 = .ok (.iload_n 0, 1) := by decide +kernel
theorem qd_M_takes_38 : decode qc_M_takes 38 = .ok (.bipush 14, 2) := by decide +kernel
theorem qd_M_takes_40 : decode qc_M_takes 40 = .ok (.if_icmp .eq 21, 3) := by decide +kernel
theorem qd_M_takes_43 : decode qc_M_takes 43 = .ok (.iload_n 0, 1) := by decide +kernel
theorem qd_M_takes_44 : decode qc_M_takes 44 = .ok (.bipush 17, 2) := by decide +kernel
theorem qd_M_takes_46 : decode qc_M_takes 46 = .ok (.if_icmp .eq 15, 3) := by decide +kernel
theorem qd_M_takes_49 : decode qc_M_takes 49 = .ok (.iload_n 0, 1) := by decide +kernel
theorem qd_M_takes_50 : decode qc_M_takes 50 = .ok (.bipush 19, 2) := by decide +kernel
theorem qd_M_takes_52 : decode qc_M_takes 52 = .ok (.if_icmp .eq 9, 3) := by decide +kernel
theorem qd_M_takes_55 : decode qc_M_takes 55 = .ok (.iload_n 0, 1) := by decide +kernel
theorem qd_M_takes_56 : decode qc_M_takes 56 = .ok (.bipush 21, 2) := by decide +kernel
theorem qd_M_takes_58 : decode qc_M_takes 58 = .ok (.if_icmp .ne 7, 3) := by decide +kernel
theorem qd_M_takes_61 : decode qc_M_takes 61 = .ok (.iconst 1, 1) := by decide +kernel
theorem qd_M_takes_62 : decode qc_M_takes 62 = .ok (.goto 4, 3) := by decide +kernel
theorem qd_M_takes_65 : decode qc_M_takes 65 = .ok (.iconst 0, 1) := by decide +kernel
theorem qd_M_takes_66 : decode qc_M_takes 66 = .ok (.ireturn, 1) := by decide +kernel
theorem qd_M_puts_0 : decode qc_M_puts 0 = .ok (.iload_n 0, 1) := by decide +kernel
theorem qd_M_puts_1 : decode qc_M_puts 1 = .ok (.iconst 3, 1) := by decide +kernel
theorem qd_M_puts_2 : decode qc_M_puts 2 = .ok (.if_icmp .le 27, 3) := by decide +kernel
theorem qd_M_puts_5 : decode qc_M_puts 5 = .ok (.iload_n 0, 1) := by decide +kernel
theorem qd_M_puts_6 : decode qc_M_puts 6 = .ok (.bipush 6, 2) := by decide +kernel
theorem qd_M_puts_8 : decode qc_M_puts 8 = .ok (.if_icmp .lt 9, 3) := by decide +kernel
theorem qd_M_puts_11 : decode qc_M_puts 11 = .ok (.iload_n 0, 1) := by decide +kernel
theorem qd_M_puts_12 : decode qc_M_puts 12 = .ok (.bipush 14, 2) := by decide +kernel
theorem qd_M_puts_14 : decode qc_M_puts 14 = .ok (.if_icmp .le 15, 3) := by decide +kernel
theorem qd_M_puts_17 : decode qc_M_puts 17 = .ok (.iload_n 0, 1) := by decide +kernel
theorem qd_M_puts_18 : decode qc_M_puts 18 = .ok (.bipush 19, 2) := by decide +kernel
theorem qd_M_puts_20 : decode qc_M_puts 20 = .ok (.if_icmp .eq 9, 3) := by decide +kernel
theorem qd_M_puts_23 : decode qc_M_puts 23 = .ok (.iload_n 0, 1) := by decide +kernel
theorem qd_M_puts_24 : decode qc_M_puts 24 = .ok (.bipush 20, 2) := by decide +kernel
theorem qd_M_puts_26 : decode qc_M_puts 26 = .ok (.if_icmp .ne 7, 3) := by decide +kernel
theorem qd_M_puts_29 : decode qc_M_puts 29 = .ok (.iconst 1, 1) := by decide +kernel
theorem qd_M_puts_30 : decode qc_M_puts 30 = .ok (.goto 4, 3) := by decide +kernel
theorem qd_M_puts_33 : decode qc_M_puts 33 = .ok (.iconst 0, 1) := by decide +kernel
theorem qd_M_puts_34 : decode qc_M_puts 34 = .ok (.ireturn, 1) := by decide +kernel
theorem qd_M_cost_0 : decode qc_M_cost 0 = .ok (.iload_n 0, 1) := by decide +kernel
theorem qd_M_cost_1 : decode qc_M_cost 1 = .ok (.bipush 19, 2) := by decide +kernel
theorem qd_M_cost_3 : decode qc_M_cost 3 = .ok (.if_icmp .ne 7, 3) := by decide +kernel
theorem qd_M_cost_6 : decode qc_M_cost 6 = .ok (.iconst 5, 1) := by decide +kernel
theorem qd_M_cost_7 : decode qc_M_cost 7 = .ok (.goto 20, 3) := by decide +kernel
theorem qd_M_cost_10 : decode qc_M_cost 10 = .ok (.iload_n 0, 1) := by decide +kernel
theorem qd_M_cost_11 : decode qc_M_cost 11 = .ok (.bipush 8, 2) := by decide +kernel
theorem qd_M_cost_13 : decode qc_M_cost 13 = .ok (.if_icmp .eq 9, 3) := by decide +kernel
theorem qd_M_cost_16 : decode qc_M_cost 16 = .ok (.iload_n 0, 1) := by decide +kernel
theorem qd_M_cost_17 : decode qc_M_cost 17 = .ok (.bipush 15, 2) := by decide +kernel
theorem qd_M_cost_19 : decode qc_M_cost 19 = .ok (.if_icmp .ne 7, 3) := by decide +kernel
theorem qd_M_cost_22 : decode qc_M_cost 22 = .ok (.iconst 3, 1) := by decide +kernel
theorem qd_M_cost_23 : decode qc_M_cost 23 = .ok (.goto 4, 3) := by decide +kernel
theorem qd_M_cost_26 : decode qc_M_cost 26 = .ok (.iconst 1, 1) := by decide +kernel
theorem qd_M_cost_27 : decode qc_M_cost 27 = .ok (.ireturn, 1) := by decide +kernel
theorem qd_M_markOf_0 : decode qc_M_markOf 0 = .ok (.iconst 0, 1) := by decide +kernel
theorem qd_M_markOf_1 : decode qc_M_markOf 1 = .ok (.istore_n 2, 1) := by decide +kernel
theorem qd_M_markOf_2 : decode qc_M_markOf 2 = .ok (.iload_n 2, 1) := by decide +kernel
theorem qd_M_markOf_3 : decode qc_M_markOf 3 = .ok (.aload_n 0, 1) := by decide +kernel
theorem qd_M_markOf_4 : decode qc_M_markOf 4 = .ok (.getfield 72, 3) := by decide +kernel
theorem qd_M_markOf_7 : decode qc_M_markOf 7 = .ok (.if_icmp .ge 32, 3) := by decide +kernel
theorem qd_M_markOf_10 : decode qc_M_markOf 10 = .ok (.aload_n 0, 1) := by decide +kernel
theorem qd_M_markOf_11 : decode qc_M_markOf 11 = .ok (.getfield 7, 3) := by decide +kernel
theorem qd_M_markOf_14 : decode qc_M_markOf 14 = .ok (.iload_n 2, 1) := by decide +kernel
theorem qd_M_markOf_15 : decode qc_M_markOf 15 = .ok (.iaload, 1) := by decide +kernel
theorem qd_M_markOf_16 : decode qc_M_markOf 16 = .ok (.bipush 16, 2) := by decide +kernel
theorem qd_M_markOf_18 : decode qc_M_markOf 18 = .ok (.if_icmp .ne 15, 3) := by decide +kernel
theorem qd_M_markOf_21 : decode qc_M_markOf 21 = .ok (.aload_n 0, 1) := by decide +kernel
theorem qd_M_markOf_22 : decode qc_M_markOf 22 = .ok (.getfield 13, 3) := by decide +kernel
theorem qd_M_markOf_25 : decode qc_M_markOf 25 = .ok (.iload_n 2, 1) := by decide +kernel
theorem qd_M_markOf_26 : decode qc_M_markOf 26 = .ok (.iaload, 1) := by decide +kernel
theorem qd_M_markOf_27 : decode qc_M_markOf 27 = .ok (.iload_n 1, 1) := by decide +kernel
theorem qd_M_markOf_28 : decode qc_M_markOf 28 = .ok (.if_icmp .ne 5, 3) := by decide +kernel
theorem qd_M_markOf_31 : decode qc_M_markOf 31 = .ok (.iload_n 2, 1) := by decide +kernel
theorem qd_M_markOf_32 : decode qc_M_markOf 32 = .ok (.ireturn, 1) := by decide +kernel
theorem qd_M_markOf_33 : decode qc_M_markOf 33 = .ok (.iinc 2 1, 3) := by decide +kernel
theorem qd_M_markOf_36 : decode qc_M_markOf 36 = .ok (.goto (-34), 3) := by decide +kernel
theorem qd_M_markOf_39 : decode qc_M_markOf 39 = .ok (.iconst (-1), 1) := by decide +kernel
theorem qd_M_markOf_40 : decode qc_M_markOf 40 = .ok (.ireturn, 1) := by decide +kernel
theorem qd_M_note_0 : decode qc_M_note 0 = .ok (.aload_n 0, 1) := by decide +kernel
theorem qd_M_note_1 : decode qc_M_note 1 = .ok (.getfield 38, 3) := by decide +kernel
theorem qd_M_note_4 : decode qc_M_note 4 = .ok (.iload_n 1, 1) := by decide +kernel
theorem qd_M_note_5 : decode qc_M_note 5 = .ok (.dup2, 1) := by decide +kernel
theorem qd_M_note_6 : decode qc_M_note 6 = .ok (.iaload, 1) := by decide +kernel
theorem qd_M_note_7 : decode qc_M_note 7 = .ok (.iconst 1, 1) := by decide +kernel
theorem qd_M_note_8 : decode qc_M_note 8 = .ok (.aload_n 0, 1) := by decide +kernel
theorem qd_M_note_9 : decode qc_M_note 9 = .ok (.getfield 78, 3) := by decide +kernel
theorem qd_M_note_12 : decode qc_M_note 12 = .ok (.ishl, 1) := by decide +kernel
theorem qd_M_note_13 : decode qc_M_note 13 = .ok (.ior, 1) := by decide +kernel
theorem qd_M_note_14 : decode qc_M_note 14 = .ok (.iastore, 1) := by decide +kernel
theorem qd_M_note_15 : decode qc_M_note 15 = .ok (.return_, 1) := by decide +kernel
theorem qd_M_worked_0 : decode qc_M_worked 0 = .ok (.iload_n 0, 1) := by decide +kernel
theorem qd_M_worked_1 : decode qc_M_worked 1 = .ok (.tableswitch 79 6 11 #[39, 46, 53, 60, 64, 68], 39) := by decide +kernel
theorem qd_M_worked_40 : decode qc_M_worked 40 = .ok (.iload_n 1, 1) := by decide +kernel
theorem qd_M_worked_41 : decode qc_M_worked 41 = .ok (.iload_n 2, 1) := by decide +kernel
theorem qd_M_worked_42 : decode qc_M_worked 42 = .ok (.iadd, 1) := by decide +kernel
theorem qd_M_worked_43 : decode qc_M_worked 43 = .ok (.bipush 15, 2) := by decide +kernel
theorem qd_M_worked_45 : decode qc_M_worked 45 = .ok (.iand, 1) := by decide +kernel
theorem qd_M_worked_46 : decode qc_M_worked 46 = .ok (.ireturn, 1) := by decide +kernel
theorem qd_M_worked_47 : decode qc_M_worked 47 = .ok (.iload_n 1, 1) := by decide +kernel
theorem qd_M_worked_48 : decode qc_M_worked 48 = .ok (.iload_n 2, 1) := by decide +kernel
theorem qd_M_worked_49 : decode qc_M_worked 49 = .ok (.isub, 1) := by decide +kernel
theorem qd_M_worked_50 : decode qc_M_worked 50 = .ok (.bipush 15, 2) := by decide +kernel
theorem qd_M_worked_52 : decode qc_M_worked 52 = .ok (.iand, 1) := by decide +kernel
theorem qd_M_worked_53 : decode qc_M_worked 53 = .ok (.ireturn, 1) := by decide +kernel
theorem qd_M_worked_54 : decode qc_M_worked 54 = .ok (.iload_n 1, 1) := by decide +kernel
theorem qd_M_worked_55 : decode qc_M_worked 55 = .ok (.iload_n 2, 1) := by decide +kernel
theorem qd_M_worked_56 : decode qc_M_worked 56 = .ok (.imul, 1) := by decide +kernel
theorem qd_M_worked_57 : decode qc_M_worked 57 = .ok (.bipush 15, 2) := by decide +kernel
theorem qd_M_worked_59 : decode qc_M_worked 59 = .ok (.iand, 1) := by decide +kernel
theorem qd_M_worked_60 : decode qc_M_worked 60 = .ok (.ireturn, 1) := by decide +kernel
theorem qd_M_worked_61 : decode qc_M_worked 61 = .ok (.iload_n 1, 1) := by decide +kernel
theorem qd_M_worked_62 : decode qc_M_worked 62 = .ok (.iload_n 2, 1) := by decide +kernel
theorem qd_M_worked_63 : decode qc_M_worked 63 = .ok (.iand, 1) := by decide +kernel
theorem qd_M_worked_64 : decode qc_M_worked 64 = .ok (.ireturn, 1) := by decide +kernel
theorem qd_M_worked_65 : decode qc_M_worked 65 = .ok (.iload_n 1, 1) := by decide +kernel
theorem qd_M_worked_66 : decode qc_M_worked 66 = .ok (.iload_n 2, 1) := by decide +kernel
theorem qd_M_worked_67 : decode qc_M_worked 67 = .ok (.ixor, 1) := by decide +kernel
theorem qd_M_worked_68 : decode qc_M_worked 68 = .ok (.ireturn, 1) := by decide +kernel
theorem qd_M_worked_69 : decode qc_M_worked 69 = .ok (.iload_n 1, 1) := by decide +kernel
theorem qd_M_worked_70 : decode qc_M_worked 70 = .ok (.iload_n 2, 1) := by decide +kernel
theorem qd_M_worked_71 : decode qc_M_worked 71 = .ok (.if_icmp .ge 7, 3) := by decide +kernel
theorem qd_M_worked_74 : decode qc_M_worked 74 = .ok (.iconst 1, 1) := by decide +kernel
theorem qd_M_worked_75 : decode qc_M_worked 75 = .ok (.goto 4, 3) := by decide +kernel
theorem qd_M_worked_78 : decode qc_M_worked 78 = .ok (.iconst 0, 1) := by decide +kernel
theorem qd_M_worked_79 : decode qc_M_worked 79 = .ok (.ireturn, 1) := by decide +kernel
theorem qd_M_worked_80 : decode qc_M_worked 80 = .ok (.iload_n 1, 1) := by decide +kernel
theorem qd_M_worked_81 : decode qc_M_worked 81 = .ok (.iload_n 2, 1) := by decide +kernel
theorem qd_M_worked_82 : decode qc_M_worked 82 = .ok (.if_icmp .ne 7, 3) := by decide +kernel
theorem qd_M_worked_85 : decode qc_M_worked 85 = .ok (.iconst 1, 1) := by decide +kernel
theorem qd_M_worked_86 : decode qc_M_worked 86 = .ok (.goto 4, 3) := by decide +kernel
theorem qd_M_worked_89 : decode qc_M_worked 89 = .ok (.iconst 0, 1) := by decide +kernel
theorem qd_M_worked_90 : decode qc_M_worked 90 = .ok (.ireturn, 1) := by decide +kernel
theorem qd_M_overflows_0 : decode qc_M_overflows 0 = .ok (.iload_n 0, 1) := by decide +kernel
theorem qd_M_overflows_1 : decode qc_M_overflows 1 = .ok (.bipush 6, 2) := by decide +kernel
theorem qd_M_overflows_3 : decode qc_M_overflows 3 = .ok (.if_icmp .ne 11, 3) := by decide +kernel
theorem qd_M_overflows_6 : decode qc_M_overflows 6 = .ok (.iload_n 1, 1) := by decide +kernel
theorem qd_M_overflows_7 : decode qc_M_overflows 7 = .ok (.iload_n 2, 1) := by decide +kernel
theorem qd_M_overflows_8 : decode qc_M_overflows 8 = .ok (.iadd, 1) := by decide +kernel
theorem qd_M_overflows_9 : decode qc_M_overflows 9 = .ok (.bipush 15, 2) := by decide +kernel
theorem qd_M_overflows_11 : decode qc_M_overflows 11 = .ok (.if_icmp .gt 28, 3) := by decide +kernel
theorem qd_M_overflows_14 : decode qc_M_overflows 14 = .ok (.iload_n 0, 1) := by decide +kernel
theorem qd_M_overflows_15 : decode qc_M_overflows 15 = .ok (.bipush 8, 2) := by decide +kernel
theorem qd_M_overflows_17 : decode qc_M_overflows 17 = .ok (.if_icmp .ne 11, 3) := by decide +kernel
theorem qd_M_overflows_20 : decode qc_M_overflows 20 = .ok (.iload_n 1, 1) := by decide +kernel
theorem qd_M_overflows_21 : decode qc_M_overflows 21 = .ok (.iload_n 2, 1) := by decide +kernel
theorem qd_M_overflows_22 : decode qc_M_overflows 22 = .ok (.imul, 1) := by decide +kernel
theorem qd_M_overflows_23 : decode qc_M_overflows 23 = .ok (.bipush 15, 2) := by decide +kernel
theorem qd_M_overflows_25 : decode qc_M_overflows 25 = .ok (.if_icmp .gt 14, 3) := by decide +kernel
theorem qd_M_overflows_28 : decode qc_M_overflows 28 = .ok (.iload_n 0, 1) := by decide +kernel
theorem qd_M_overflows_29 : decode qc_M_overflows 29 = .ok (.bipush 7, 2) := by decide +kernel
theorem qd_M_overflows_31 : decode qc_M_overflows 31 = .ok (.if_icmp .ne 12, 3) := by decide +kernel
theorem qd_M_overflows_34 : decode qc_M_overflows 34 = .ok (.iload_n 2, 1) := by decide +kernel
theorem qd_M_overflows_35 : decode qc_M_overflows 35 = .ok (.iload_n 1, 1) := by decide +kernel
theorem qd_M_overflows_36 : decode qc_M_overflows 36 = .ok (.if_icmp .le 7, 3) := by decide +kernel
theorem qd_M_overflows_39 : decode qc_M_overflows 39 = .ok (.iconst 1, 1) := by decide +kernel
theorem qd_M_overflows_40 : decode qc_M_overflows 40 = .ok (.goto 4, 3) := by decide +kernel
theorem qd_M_overflows_43 : decode qc_M_overflows 43 = .ok (.iconst 0, 1) := by decide +kernel
theorem qd_M_overflows_44 : decode qc_M_overflows 44 = .ok (.ireturn, 1) := by decide +kernel
theorem qd_M_faults_0 : decode qc_M_faults 0 = .ok (.aload_n 0, 1) := by decide +kernel
theorem qd_M_faults_1 : decode qc_M_faults 1 = .ok (.getfield 81, 3) := by decide +kernel
theorem qd_M_faults_4 : decode qc_M_faults 4 = .ok (.iload_n 1, 1) := by decide +kernel
theorem qd_M_faults_5 : decode qc_M_faults 5 = .ok (.invokestatic 84, 3) := by decide +kernel
theorem qd_M_faults_8 : decode qc_M_faults 8 = .ok (.if_icmp .lt 33, 3) := by decide +kernel
theorem qd_M_faults_11 : decode qc_M_faults 11 = .ok (.aload_n 0, 1) := by decide +kernel
theorem qd_M_faults_12 : decode qc_M_faults 12 = .ok (.getfield 88, 3) := by decide +kernel
theorem qd_M_faults_15 : decode qc_M_faults 15 = .ok (.iload_n 1, 1) := by decide +kernel
theorem qd_M_faults_16 : decode qc_M_faults 16 = .ok (.invokestatic 91, 3) := by decide +kernel
theorem qd_M_faults_19 : decode qc_M_faults 19 = .ok (.if_icmp .lt 22, 3) := by decide +kernel
theorem qd_M_faults_22 : decode qc_M_faults 22 = .ok (.aload_n 0, 1) := by decide +kernel
theorem qd_M_faults_23 : decode qc_M_faults 23 = .ok (.getfield 88, 3) := by decide +kernel
theorem qd_M_faults_26 : decode qc_M_faults 26 = .ok (.iload_n 1, 1) := by decide +kernel
theorem qd_M_faults_27 : decode qc_M_faults 27 = .ok (.invokestatic 91, 3) := by decide +kernel
theorem qd_M_faults_30 : decode qc_M_faults 30 = .ok (.isub, 1) := by decide +kernel
theorem qd_M_faults_31 : decode qc_M_faults 31 = .ok (.iload_n 1, 1) := by decide +kernel
theorem qd_M_faults_32 : decode qc_M_faults 32 = .ok (.invokestatic 94, 3) := by decide +kernel
theorem qd_M_faults_35 : decode qc_M_faults 35 = .ok (.iadd, 1) := by decide +kernel
theorem qd_M_faults_36 : decode qc_M_faults 36 = .ok (.bipush 6, 2) := by decide +kernel
theorem qd_M_faults_38 : decode qc_M_faults 38 = .ok (.if_icmp .le 5, 3) := by decide +kernel
theorem qd_M_faults_41 : decode qc_M_faults 41 = .ok (.iconst 1, 1) := by decide +kernel
theorem qd_M_faults_42 : decode qc_M_faults 42 = .ok (.ireturn, 1) := by decide +kernel
theorem qd_M_faults_43 : decode qc_M_faults 43 = .ok (.iload_n 1, 1) := by decide +kernel
theorem qd_M_faults_44 : decode qc_M_faults 44 = .ok (.iconst 3, 1) := by decide +kernel
theorem qd_M_faults_45 : decode qc_M_faults 45 = .ok (.if_icmp .ne 25, 3) := by decide +kernel
theorem qd_M_faults_48 : decode qc_M_faults 48 = .ok (.aload_n 0, 1) := by decide +kernel
theorem qd_M_faults_49 : decode qc_M_faults 49 = .ok (.getfield 88, 3) := by decide +kernel
theorem qd_M_faults_52 : decode qc_M_faults 52 = .ok (.aload_n 0, 1) := by decide +kernel
theorem qd_M_faults_53 : decode qc_M_faults 53 = .ok (.getfield 13, 3) := by decide +kernel
theorem qd_M_faults_56 : decode qc_M_faults 56 = .ok (.aload_n 0, 1) := by decide +kernel
theorem qd_M_faults_57 : decode qc_M_faults 57 = .ok (.getfield 78, 3) := by decide +kernel
theorem qd_M_faults_60 : decode qc_M_faults 60 = .ok (.iaload, 1) := by decide +kernel
theorem qd_M_faults_61 : decode qc_M_faults 61 = .ok (.if_icmp .gt 7, 3) := by decide +kernel
theorem qd_M_faults_64 : decode qc_M_faults 64 = .ok (.iconst 1, 1) := by decide +kernel
theorem qd_M_faults_65 : decode qc_M_faults 65 = .ok (.goto 4, 3) := by decide +kernel
theorem qd_M_faults_68 : decode qc_M_faults 68 = .ok (.iconst 0, 1) := by decide +kernel
theorem qd_M_faults_69 : decode qc_M_faults 69 = .ok (.ireturn, 1) := by decide +kernel
theorem qd_M_faults_70 : decode qc_M_faults 70 = .ok (.iload_n 1, 1) := by decide +kernel
theorem qd_M_faults_71 : decode qc_M_faults 71 = .ok (.iconst 4, 1) := by decide +kernel
theorem qd_M_faults_72 : decode qc_M_faults 72 = .ok (.if_icmp .ne 27, 3) := by decide +kernel
theorem qd_M_faults_75 : decode qc_M_faults 75 = .ok (.aload_n 0, 1) := by decide +kernel
theorem qd_M_faults_76 : decode qc_M_faults 76 = .ok (.getfield 88, 3) := by decide +kernel
theorem qd_M_faults_79 : decode qc_M_faults 79 = .ok (.aload_n 0, 1) := by decide +kernel
theorem qd_M_faults_80 : decode qc_M_faults 80 = .ok (.getfield 13, 3) := by decide +kernel
theorem qd_M_faults_83 : decode qc_M_faults 83 = .ok (.aload_n 0, 1) := by decide +kernel
theorem qd_M_faults_84 : decode qc_M_faults 84 = .ok (.getfield 78, 3) := by decide +kernel
theorem qd_M_faults_87 : decode qc_M_faults 87 = .ok (.iaload, 1) := by decide +kernel
theorem qd_M_faults_88 : decode qc_M_faults 88 = .ok (.iconst 1, 1) := by decide +kernel
theorem qd_M_faults_89 : decode qc_M_faults 89 = .ok (.iadd, 1) := by decide +kernel
theorem qd_M_faults_90 : decode qc_M_faults 90 = .ok (.if_icmp .gt 7, 3) := by decide +kernel
theorem qd_M_faults_93 : decode qc_M_faults 93 = .ok (.iconst 1, 1) := by decide +kernel
theorem qd_M_faults_94 : decode qc_M_faults 94 = .ok (.goto 4, 3) := by decide +kernel
theorem qd_M_faults_97 : decode qc_M_faults 97 = .ok (.iconst 0, 1) := by decide +kernel
theorem qd_M_faults_98 : decode qc_M_faults 98 = .ok (.ireturn, 1) := by decide +kernel
theorem qd_M_faults_99 : decode qc_M_faults 99 = .ok (.iload_n 1, 1) := by decide +kernel
theorem qd_M_faults_100 : decode qc_M_faults 100 = .ok (.bipush 17, 2) := by decide +kernel
theorem qd_M_faults_102 : decode qc_M_faults 102 = .ok (.if_icmp .ne 27, 3) := by decide +kernel
theorem qd_M_faults_105 : decode qc_M_faults 105 = .ok (.aload_n 0, 1) := by decide +kernel
theorem qd_M_faults_106 : decode qc_M_faults 106 = .ok (.aload_n 0, 1) := by decide +kernel
theorem qd_M_faults_107 : decode qc_M_faults 107 = .ok (.getfield 26, 3) := by decide +kernel
theorem qd_M_faults_110 : decode qc_M_faults 110 = .ok (.aload_n 0, 1) := by decide +kernel
theorem qd_M_faults_111 : decode qc_M_faults 111 = .ok (.getfield 88, 3) := by decide +kernel
theorem qd_M_faults_114 : decode qc_M_faults 114 = .ok (.iconst 1, 1) := by decide +kernel
theorem qd_M_faults_115 : decode qc_M_faults 115 = .ok (.isub, 1) := by decide +kernel
theorem qd_M_faults_116 : decode qc_M_faults 116 = .ok (.iaload, 1) := by decide +kernel
theorem qd_M_faults_117 : decode qc_M_faults 117 = .ok (.invokevirtual 97, 3) := by decide +kernel
theorem qd_M_faults_120 : decode qc_M_faults 120 = .ok (.ifCond .ge 7, 3) := by decide +kernel
theorem qd_M_faults_123 : decode qc_M_faults 123 = .ok (.iconst 1, 1) := by decide +kernel
theorem qd_M_faults_124 : decode qc_M_faults 124 = .ok (.goto 4, 3) := by decide +kernel
theorem qd_M_faults_127 : decode qc_M_faults 127 = .ok (.iconst 0, 1) := by decide +kernel
theorem qd_M_faults_128 : decode qc_M_faults 128 = .ok (.ireturn, 1) := by decide +kernel
theorem qd_M_faults_129 : decode qc_M_faults 129 = .ok (.iload_n 1, 1) := by decide +kernel
theorem qd_M_faults_130 : decode qc_M_faults 130 = .ok (.bipush 18, 2) := by decide +kernel
theorem qd_M_faults_132 : decode qc_M_faults 132 = .ok (.if_icmp .ne 39, 3) := by decide +kernel
theorem qd_M_faults_135 : decode qc_M_faults 135 = .ok (.aload_n 0, 1) := by decide +kernel
theorem qd_M_faults_136 : decode qc_M_faults 136 = .ok (.getfield 26, 3) := by decide +kernel
theorem qd_M_faults_139 : decode qc_M_faults 139 = .ok (.aload_n 0, 1) := by decide +kernel
theorem qd_M_faults_140 : decode qc_M_faults 140 = .ok (.getfield 88, 3) := by decide +kernel
theorem qd_M_faults_143 : decode qc_M_faults 143 = .ok (.iconst 2, 1) := by decide +kernel
theorem qd_M_faults_144 : decode qc_M_faults 144 = .ok (.isub, 1) := by decide +kernel
theorem qd_M_faults_145 : decode qc_M_faults 145 = .ok (.iaload, 1) := by decide +kernel
theorem qd_M_faults_146 : decode qc_M_faults 146 = .ok (.ifCond .eq 25, 3) := by decide +kernel
theorem qd_M_faults_149 : decode qc_M_faults 149 = .ok (.aload_n 0, 1) := by decide +kernel
theorem qd_M_faults_150 : decode qc_M_faults 150 = .ok (.aload_n 0, 1) := by decide +kernel
theorem qd_M_faults_151 : decode qc_M_faults 151 = .ok (.getfield 26, 3) := by decide +kernel
theorem qd_M_faults_154 : decode qc_M_faults 154 = .ok (.aload_n 0, 1) := by decide +kernel
theorem qd_M_faults_155 : decode qc_M_faults 155 = .ok (.getfield 88, 3) := by decide +kernel
theorem qd_M_faults_158 : decode qc_M_faults 158 = .ok (.iconst 1, 1) := by decide +kernel
theorem qd_M_faults_159 : decode qc_M_faults 159 = .ok (.isub, 1) := by decide +kernel
theorem qd_M_faults_160 : decode qc_M_faults 160 = .ok (.iaload, 1) := by decide +kernel
theorem qd_M_faults_161 : decode qc_M_faults 161 = .ok (.invokevirtual 97, 3) := by decide +kernel
theorem qd_M_faults_164 : decode qc_M_faults 164 = .ok (.ifCond .ge 7, 3) := by decide +kernel
theorem qd_M_faults_167 : decode qc_M_faults 167 = .ok (.iconst 1, 1) := by decide +kernel
theorem qd_M_faults_168 : decode qc_M_faults 168 = .ok (.goto 4, 3) := by decide +kernel
theorem qd_M_faults_171 : decode qc_M_faults 171 = .ok (.iconst 0, 1) := by decide +kernel
theorem qd_M_faults_172 : decode qc_M_faults 172 = .ok (.ireturn, 1) := by decide +kernel
theorem qd_M_give_0 : decode qc_M_give 0 = .ok (.aload_n 0, 1) := by decide +kernel
theorem qd_M_give_1 : decode qc_M_give 1 = .ok (.getfield 26, 3) := by decide +kernel
theorem qd_M_give_4 : decode qc_M_give 4 = .ok (.aload_n 0, 1) := by decide +kernel
theorem qd_M_give_5 : decode qc_M_give 5 = .ok (.getfield 88, 3) := by decide +kernel
theorem qd_M_give_8 : decode qc_M_give 8 = .ok (.iload_n 1, 1) := by decide +kernel
theorem qd_M_give_9 : decode qc_M_give 9 = .ok (.iastore, 1) := by decide +kernel
theorem qd_M_give_10 : decode qc_M_give 10 = .ok (.aload_n 0, 1) := by decide +kernel
theorem qd_M_give_11 : decode qc_M_give 11 = .ok (.dup, 1) := by decide +kernel
theorem qd_M_give_12 : decode qc_M_give 12 = .ok (.getfield 88, 3) := by decide +kernel
theorem qd_M_give_15 : decode qc_M_give 15 = .ok (.iconst 1, 1) := by decide +kernel
theorem qd_M_give_16 : decode qc_M_give 16 = .ok (.iadd, 1) := by decide +kernel
theorem qd_M_give_17 : decode qc_M_give 17 = .ok (.putfield 88, 3) := by decide +kernel
theorem qd_M_give_20 : decode qc_M_give 20 = .ok (.return_, 1) := by decide +kernel
theorem qd_M_act_0 : decode qc_M_act 0 = .ok (.aload_n 0, 1) := by decide +kernel
theorem qd_M_act_1 : decode qc_M_act 1 = .ok (.getfield 13, 3) := by decide +kernel
theorem qd_M_act_4 : decode qc_M_act 4 = .ok (.aload_n 0, 1) := by decide +kernel
theorem qd_M_act_5 : decode qc_M_act 5 = .ok (.getfield 78, 3) := by decide +kernel
theorem qd_M_act_8 : decode qc_M_act 8 = .ok (.iaload, 1) := by decide +kernel
theorem qd_M_act_9 : decode qc_M_act 9 = .ok (.istore_n 2, 1) := by decide +kernel
theorem qd_M_act_10 : decode qc_M_act 10 = .ok (.iload_n 1, 1) := by decide +kernel
theorem qd_M_act_11 : decode qc_M_act 11 = .ok (.invokestatic 91, 3) := by decide +kernel
theorem qd_M_act_14 : decode qc_M_act 14 = .ok (.ifCond .le 17, 3) := by decide +kernel
theorem qd_M_act_17 : decode qc_M_act 17 = .ok (.aload_n 0, 1) := by decide +kernel
theorem qd_M_act_18 : decode qc_M_act 18 = .ok (.getfield 26, 3) := by decide +kernel
theorem qd_M_act_21 : decode qc_M_act 21 = .ok (.aload_n 0, 1) := by decide +kernel
theorem qd_M_act_22 : decode qc_M_act 22 = .ok (.getfield 88, 3) := by decide +kernel
theorem qd_M_act_25 : decode qc_M_act 25 = .ok (.iconst 1, 1) := by decide +kernel
theorem qd_M_act_26 : decode qc_M_act 26 = .ok (.isub, 1) := by decide +kernel
theorem qd_M_act_27 : decode qc_M_act 27 = .ok (.iaload, 1) := by decide +kernel
theorem qd_M_act_28 : decode qc_M_act 28 = .ok (.goto 4, 3) := by decide +kernel
theorem qd_M_act_31 : decode qc_M_act 31 = .ok (.iconst 0, 1) := by decide +kernel
theorem qd_M_act_32 : decode qc_M_act 32 = .ok (.istore_n 3, 1) := by decide +kernel
theorem qd_M_act_33 : decode qc_M_act 33 = .ok (.iload_n 1, 1) := by decide +kernel
theorem qd_M_act_34 : decode qc_M_act 34 = .ok (.invokestatic 91, 3) := by decide +kernel
theorem qd_M_act_37 : decode qc_M_act 37 = .ok (.iconst 1, 1) := by decide +kernel
theorem qd_M_act_38 : decode qc_M_act 38 = .ok (.if_icmp .le 17, 3) := by decide +kernel
theorem qd_M_act_41 : decode qc_M_act 41 = .ok (.aload_n 0, 1) := by decide +kernel
theorem qd_M_act_42 : decode qc_M_act 42 = .ok (.getfield 26, 3) := by decide +kernel
theorem qd_M_act_45 : decode qc_M_act 45 = .ok (.aload_n 0, 1) := by decide +kernel
theorem qd_M_act_46 : decode qc_M_act 46 = .ok (.getfield 88, 3) := by decide +kernel
theorem qd_M_act_49 : decode qc_M_act 49 = .ok (.iconst 2, 1) := by decide +kernel
theorem qd_M_act_50 : decode qc_M_act 50 = .ok (.isub, 1) := by decide +kernel
theorem qd_M_act_51 : decode qc_M_act 51 = .ok (.iaload, 1) := by decide +kernel
theorem qd_M_act_52 : decode qc_M_act 52 = .ok (.goto 4, 3) := by decide +kernel
theorem qd_M_act_55 : decode qc_M_act 55 = .ok (.iconst 0, 1) := by decide +kernel
theorem qd_M_act_56 : decode qc_M_act 56 = .ok (.istore 4, 2) := by decide +kernel
theorem qd_M_act_58 : decode qc_M_act 58 = .ok (.iload_n 1, 1) := by decide +kernel
theorem qd_M_act_59 : decode qc_M_act 59 = .ok (.iconst 3, 1) := by decide +kernel
theorem qd_M_act_60 : decode qc_M_act 60 = .ok (.if_icmp .ne 19, 3) := by decide +kernel
theorem qd_M_act_63 : decode qc_M_act 63 = .ok (.aload_n 0, 1) := by decide +kernel
theorem qd_M_act_64 : decode qc_M_act 64 = .ok (.getfield 26, 3) := by decide +kernel
theorem qd_M_act_67 : decode qc_M_act 67 = .ok (.aload_n 0, 1) := by decide +kernel
theorem qd_M_act_68 : decode qc_M_act 68 = .ok (.getfield 88, 3) := by decide +kernel
theorem qd_M_act_71 : decode qc_M_act 71 = .ok (.iconst 1, 1) := by decide +kernel
theorem qd_M_act_72 : decode qc_M_act 72 = .ok (.isub, 1) := by decide +kernel
theorem qd_M_act_73 : decode qc_M_act 73 = .ok (.iload_n 2, 1) := by decide +kernel
theorem qd_M_act_74 : decode qc_M_act 74 = .ok (.isub, 1) := by decide +kernel
theorem qd_M_act_75 : decode qc_M_act 75 = .ok (.iaload, 1) := by decide +kernel
theorem qd_M_act_76 : decode qc_M_act 76 = .ok (.goto 4, 3) := by decide +kernel
theorem qd_M_act_79 : decode qc_M_act 79 = .ok (.iconst 0, 1) := by decide +kernel
theorem qd_M_act_80 : decode qc_M_act 80 = .ok (.istore 5, 2) := by decide +kernel
theorem qd_M_act_82 : decode qc_M_act 82 = .ok (.aload_n 0, 1) := by decide +kernel
theorem qd_M_act_83 : decode qc_M_act 83 = .ok (.dup, 1) := by decide +kernel
theorem qd_M_act_84 : decode qc_M_act 84 = .ok (.getfield 88, 3) := by decide +kernel
theorem qd_M_act_87 : decode qc_M_act 87 = .ok (.iload_n 1, 1) := by decide +kernel
theorem qd_M_act_88 : decode qc_M_act 88 = .ok (.invokestatic 91, 3) := by decide +kernel
theorem qd_M_act_91 : decode qc_M_act 91 = .ok (.isub, 1) := by decide +kernel
theorem qd_M_act_92 : decode qc_M_act 92 = .ok (.putfield 88, 3) := by decide +kernel
theorem qd_M_act_95 : decode qc_M_act 95 = .ok (.iload_n 1, 1) := by decide +kernel
theorem qd_M_act_96 : decode qc_M_act 96 = .ok (.iload 4, 2) := by decide +kernel
theorem qd_M_act_98 : decode qc_M_act 98 = .ok (.iload_n 3, 1) := by decide +kernel
theorem qd_M_act_99 : decode qc_M_act 99 = .ok (.invokestatic 100, 3) := by decide +kernel
theorem qd_M_act_102 : decode qc_M_act 102 = .ok (.ifCond .eq 8, 3) := by decide +kernel
theorem qd_M_act_105 : decode qc_M_act 105 = .ok (.aload_n 0, 1) := by decide +kernel
theorem qd_M_act_106 : decode qc_M_act 106 = .ok (.iconst 1, 1) := by decide +kernel
theorem qd_M_act_107 : decode qc_M_act 107 = .ok (.invokevirtual 104, 3) := by decide +kernel
theorem qd_M_act_110 : decode qc_M_act 110 = .ok (.iload_n 1, 1) := by decide +kernel
theorem qd_M_act_111 : decode qc_M_act 111 = .ok (.bipush 15, 2) := by decide +kernel
theorem qd_M_act_113 : decode qc_M_act 113 = .ok (.if_icmp .ne 15, 3) := by decide +kernel
theorem qd_M_act_116 : decode qc_M_act 116 = .ok (.aload_n 0, 1) := by decide +kernel
theorem qd_M_act_117 : decode qc_M_act 117 = .ok (.getfield 108, 3) := by decide +kernel
theorem qd_M_act_120 : decode qc_M_act 120 = .ok (.ifCond .eq 8, 3) := by decide +kernel
theorem qd_M_act_123 : decode qc_M_act 123 = .ok (.aload_n 0, 1) := by decide +kernel
theorem qd_M_act_124 : decode qc_M_act 124 = .ok (.iconst 3, 1) := by decide +kernel
theorem qd_M_act_125 : decode qc_M_act 125 = .ok (.invokevirtual 104, 3) := by decide +kernel
theorem qd_M_act_128 : decode qc_M_act 128 = .ok (.iload_n 1, 1) := by decide +kernel
theorem qd_M_act_129 : decode qc_M_act 129 = .ok (.tableswitch 247 0 20 #[99, 107, 118, 129, 138, 247, 247, 247, 247, 247, 247, 247, 247, 146, 162, 177, 247, 190, 202, 226, 234], 99) := by decide +kernel
theorem qd_M_act_228 : decode qc_M_act 228 = .ok (.aload_n 0, 1) := by decide +kernel
theorem qd_M_act_229 : decode qc_M_act 229 = .ok (.iload_n 2, 1) := by decide +kernel
theorem qd_M_act_230 : decode qc_M_act 230 = .ok (.invokevirtual 112, 3) := by decide +kernel
theorem qd_M_act_233 : decode qc_M_act 233 = .ok (.goto 166, 3) := by decide +kernel
theorem qd_M_act_236 : decode qc_M_act 236 = .ok (.aload_n 0, 1) := by decide +kernel
theorem qd_M_act_237 : decode qc_M_act 237 = .ok (.aload_n 0, 1) := by decide +kernel
theorem qd_M_act_238 : decode qc_M_act 238 = .ok (.getfield 115, 3) := by decide +kernel
theorem qd_M_act_241 : decode qc_M_act 241 = .ok (.invokevirtual 112, 3) := by decide +kernel
theorem qd_M_act_244 : decode qc_M_act 244 = .ok (.goto 155, 3) := by decide +kernel
theorem qd_M_act_247 : decode qc_M_act 247 = .ok (.aload_n 0, 1) := by decide +kernel
theorem qd_M_act_248 : decode qc_M_act 248 = .ok (.aload_n 0, 1) := by decide +kernel
theorem qd_M_act_249 : decode qc_M_act 249 = .ok (.getfield 118, 3) := by decide +kernel
theorem qd_M_act_252 : decode qc_M_act 252 = .ok (.invokevirtual 112, 3) := by decide +kernel
theorem qd_M_act_255 : decode qc_M_act 255 = .ok (.goto 144, 3) := by decide +kernel
theorem qd_M_act_258 : decode qc_M_act 258 = .ok (.aload_n 0, 1) := by decide +kernel
theorem qd_M_act_259 : decode qc_M_act 259 = .ok (.iload 5, 2) := by decide +kernel
theorem qd_M_act_261 : decode qc_M_act 261 = .ok (.invokevirtual 112, 3) := by decide +kernel
theorem qd_M_act_264 : decode qc_M_act 264 = .ok (.goto 135, 3) := by decide +kernel
theorem qd_M_act_267 : decode qc_M_act 267 = .ok (.aload_n 0, 1) := by decide +kernel
theorem qd_M_act_268 : decode qc_M_act 268 = .ok (.iload_n 2, 1) := by decide +kernel
theorem qd_M_act_269 : decode qc_M_act 269 = .ok (.invokevirtual 121, 3) := by decide +kernel
theorem qd_M_act_272 : decode qc_M_act 272 = .ok (.goto 127, 3) := by decide +kernel
theorem qd_M_act_275 : decode qc_M_act 275 = .ok (.aload_n 0, 1) := by decide +kernel
theorem qd_M_act_276 : decode qc_M_act 276 = .ok (.iload_n 3, 1) := by decide +kernel
theorem qd_M_act_277 : decode qc_M_act 277 = .ok (.ifCond .ne 7, 3) := by decide +kernel
theorem qd_M_act_280 : decode qc_M_act 280 = .ok (.iconst 1, 1) := by decide +kernel
theorem qd_M_act_281 : decode qc_M_act 281 = .ok (.goto 4, 3) := by decide +kernel
theorem qd_M_act_284 : decode qc_M_act 284 = .ok (.iconst 0, 1) := by decide +kernel
theorem qd_M_act_285 : decode qc_M_act 285 = .ok (.invokevirtual 112, 3) := by decide +kernel
theorem qd_M_act_288 : decode qc_M_act 288 = .ok (.goto 111, 3) := by decide +kernel
theorem qd_M_act_291 : decode qc_M_act 291 = .ok (.aload_n 0, 1) := by decide +kernel
theorem qd_M_act_292 : decode qc_M_act 292 = .ok (.aload_n 0, 1) := by decide +kernel
theorem qd_M_act_293 : decode qc_M_act 293 = .ok (.getfield 20, 3) := by decide +kernel
theorem qd_M_act_296 : decode qc_M_act 296 = .ok (.iload_n 3, 1) := by decide +kernel
theorem qd_M_act_297 : decode qc_M_act 297 = .ok (.iconst 4, 1) := by decide +kernel
theorem qd_M_act_298 : decode qc_M_act 298 = .ok (.irem, 1) := by decide +kernel
theorem qd_M_act_299 : decode qc_M_act 299 = .ok (.iaload, 1) := by decide +kernel
theorem qd_M_act_300 : decode qc_M_act 300 = .ok (.invokevirtual 112, 3) := by decide +kernel
theorem qd_M_act_303 : decode qc_M_act 303 = .ok (.goto 96, 3) := by decide +kernel
theorem qd_M_act_306 : decode qc_M_act 306 = .ok (.aload_n 0, 1) := by decide +kernel
theorem qd_M_act_307 : decode qc_M_act 307 = .ok (.getfield 20, 3) := by decide +kernel
theorem qd_M_act_310 : decode qc_M_act 310 = .ok (.iload_n 3, 1) := by decide +kernel
theorem qd_M_act_311 : decode qc_M_act 311 = .ok (.iconst 4, 1) := by decide +kernel
theorem qd_M_act_312 : decode qc_M_act 312 = .ok (.irem, 1) := by decide +kernel
theorem qd_M_act_313 : decode qc_M_act 313 = .ok (.iload 4, 2) := by decide +kernel
theorem qd_M_act_315 : decode qc_M_act 315 = .ok (.iastore, 1) := by decide +kernel
theorem qd_M_act_316 : decode qc_M_act 316 = .ok (.goto 83, 3) := by decide +kernel
theorem qd_M_act_319 : decode qc_M_act 319 = .ok (.aload_n 0, 1) := by decide +kernel
theorem qd_M_act_320 : decode qc_M_act 320 = .ok (.aload_n 0, 1) := by decide +kernel
theorem qd_M_act_321 : decode qc_M_act 321 = .ok (.iload_n 3, 1) := by decide +kernel
theorem qd_M_act_322 : decode qc_M_act 322 = .ok (.invokevirtual 97, 3) := by decide +kernel
theorem qd_M_act_325 : decode qc_M_act 325 = .ok (.putfield 124, 3) := by decide +kernel
theorem qd_M_act_328 : decode qc_M_act 328 = .ok (.goto 71, 3) := by decide +kernel
theorem qd_M_act_331 : decode qc_M_act 331 = .ok (.aload_n 0, 1) := by decide +kernel
theorem qd_M_act_332 : decode qc_M_act 332 = .ok (.iload 4, 2) := by decide +kernel
theorem qd_M_act_334 : decode qc_M_act 334 = .ok (.ifCond .eq 11, 3) := by decide +kernel
theorem qd_M_act_337 : decode qc_M_act 337 = .ok (.aload_n 0, 1) := by decide +kernel
theorem qd_M_act_338 : decode qc_M_act 338 = .ok (.iload_n 3, 1) := by decide +kernel
theorem qd_M_act_339 : decode qc_M_act 339 = .ok (.invokevirtual 97, 3) := by decide +kernel
theorem qd_M_act_342 : decode qc_M_act 342 = .ok (.goto 7, 3) := by decide +kernel
theorem qd_M_act_345 : decode qc_M_act 345 = .ok (.aload_n 0, 1) := by decide +kernel
theorem qd_M_act_346 : decode qc_M_act 346 = .ok (.getfield 124, 3) := by decide +kernel
theorem qd_M_act_349 : decode qc_M_act 349 = .ok (.putfield 124, 3) := by decide +kernel
theorem qd_M_act_352 : decode qc_M_act 352 = .ok (.goto 47, 3) := by decide +kernel
theorem qd_M_act_355 : decode qc_M_act 355 = .ok (.aload_n 0, 1) := by decide +kernel
theorem qd_M_act_356 : decode qc_M_act 356 = .ok (.iload_n 3, 1) := by decide +kernel
theorem qd_M_act_357 : decode qc_M_act 357 = .ok (.invokevirtual 127, 3) := by decide +kernel
theorem qd_M_act_360 : decode qc_M_act 360 = .ok (.goto 39, 3) := by decide +kernel
theorem qd_M_act_363 : decode qc_M_act 363 = .ok (.aload_n 0, 1) := by decide +kernel
theorem qd_M_act_364 : decode qc_M_act 364 = .ok (.aload_n 0, 1) := by decide +kernel
theorem qd_M_act_365 : decode qc_M_act 365 = .ok (.getfield 20, 3) := by decide +kernel
theorem qd_M_act_368 : decode qc_M_act 368 = .ok (.iconst 4, 1) := by decide +kernel
theorem qd_M_act_369 : decode qc_M_act 369 = .ok (.iaload, 1) := by decide +kernel
theorem qd_M_act_370 : decode qc_M_act 370 = .ok (.invokevirtual 112, 3) := by decide +kernel
theorem qd_M_act_373 : decode qc_M_act 373 = .ok (.goto 26, 3) := by decide +kernel
theorem qd_M_act_376 : decode qc_M_act 376 = .ok (.iload_n 1, 1) := by decide +kernel
theorem qd_M_act_377 : decode qc_M_act 377 = .ok (.bipush 6, 2) := by decide +kernel
theorem qd_M_act_379 : decode qc_M_act 379 = .ok (.if_icmp .lt 20, 3) := by decide +kernel
theorem qd_M_act_382 : decode qc_M_act 382 = .ok (.iload_n 1, 1) := by decide +kernel
theorem qd_M_act_383 : decode qc_M_act 383 = .ok (.bipush 12, 2) := by decide +kernel
theorem qd_M_act_385 : decode qc_M_act 385 = .ok (.if_icmp .gt 14, 3) := by decide +kernel
theorem qd_M_act_388 : decode qc_M_act 388 = .ok (.aload_n 0, 1) := by decide +kernel
theorem qd_M_act_389 : decode qc_M_act 389 = .ok (.iload_n 1, 1) := by decide +kernel
theorem qd_M_act_390 : decode qc_M_act 390 = .ok (.iload 4, 2) := by decide +kernel
theorem qd_M_act_392 : decode qc_M_act 392 = .ok (.iload_n 3, 1) := by decide +kernel
theorem qd_M_act_393 : decode qc_M_act 393 = .ok (.invokestatic 130, 3) := by decide +kernel
theorem qd_M_act_396 : decode qc_M_act 396 = .ok (.invokevirtual 112, 3) := by decide +kernel
theorem qd_M_act_399 : decode qc_M_act 399 = .ok (.iload_n 1, 1) := by decide +kernel
theorem qd_M_act_400 : decode qc_M_act 400 = .ok (.bipush 22, 2) := by decide +kernel
theorem qd_M_act_402 : decode qc_M_act 402 = .ok (.if_icmp .ne 5, 3) := by decide +kernel
theorem qd_M_act_405 : decode qc_M_act 405 = .ok (.iconst 0, 1) := by decide +kernel
theorem qd_M_act_406 : decode qc_M_act 406 = .ok (.ireturn, 1) := by decide +kernel
theorem qd_M_act_407 : decode qc_M_act 407 = .ok (.iload_n 1, 1) := by decide +kernel
theorem qd_M_act_408 : decode qc_M_act 408 = .ok (.bipush 23, 2) := by decide +kernel
theorem qd_M_act_410 : decode qc_M_act 410 = .ok (.if_icmp .ne 5, 3) := by decide +kernel
theorem qd_M_act_413 : decode qc_M_act 413 = .ok (.iconst 1, 1) := by decide +kernel
theorem qd_M_act_414 : decode qc_M_act 414 = .ok (.ireturn, 1) := by decide +kernel
theorem qd_M_act_415 : decode qc_M_act 415 = .ok (.iload_n 1, 1) := by decide +kernel
theorem qd_M_act_416 : decode qc_M_act 416 = .ok (.bipush 23, 2) := by decide +kernel
theorem qd_M_act_418 : decode qc_M_act 418 = .ok (.if_icmp .gt 5, 3) := by decide +kernel
theorem qd_M_act_421 : decode qc_M_act 421 = .ok (.iconst 5, 1) := by decide +kernel
theorem qd_M_act_422 : decode qc_M_act 422 = .ok (.ireturn, 1) := by decide +kernel
theorem qd_M_act_423 : decode qc_M_act 423 = .ok (.aload_n 0, 1) := by decide +kernel
theorem qd_M_act_424 : decode qc_M_act 424 = .ok (.getfield 118, 3) := by decide +kernel
theorem qd_M_act_427 : decode qc_M_act 427 = .ok (.ifCond .eq 8, 3) := by decide +kernel
theorem qd_M_act_430 : decode qc_M_act 430 = .ok (.aload_n 0, 1) := by decide +kernel
theorem qd_M_act_431 : decode qc_M_act 431 = .ok (.iconst 2, 1) := by decide +kernel
theorem qd_M_act_432 : decode qc_M_act 432 = .ok (.invokevirtual 104, 3) := by decide +kernel
theorem qd_M_act_435 : decode qc_M_act 435 = .ok (.iconst 3, 1) := by decide +kernel
theorem qd_M_act_436 : decode qc_M_act 436 = .ok (.ireturn, 1) := by decide +kernel
theorem qd_M_swap_0 : decode qc_M_swap 0 = .ok (.aload_n 0, 1) := by decide +kernel
theorem qd_M_swap_1 : decode qc_M_swap 1 = .ok (.getfield 26, 3) := by decide +kernel
theorem qd_M_swap_4 : decode qc_M_swap 4 = .ok (.aload_n 0, 1) := by decide +kernel
theorem qd_M_swap_5 : decode qc_M_swap 5 = .ok (.getfield 88, 3) := by decide +kernel
theorem qd_M_swap_8 : decode qc_M_swap 8 = .ok (.iconst 1, 1) := by decide +kernel
theorem qd_M_swap_9 : decode qc_M_swap 9 = .ok (.isub, 1) := by decide +kernel
theorem qd_M_swap_10 : decode qc_M_swap 10 = .ok (.iaload, 1) := by decide +kernel
theorem qd_M_swap_11 : decode qc_M_swap 11 = .ok (.istore_n 2, 1) := by decide +kernel
theorem qd_M_swap_12 : decode qc_M_swap 12 = .ok (.aload_n 0, 1) := by decide +kernel
theorem qd_M_swap_13 : decode qc_M_swap 13 = .ok (.getfield 26, 3) := by decide +kernel
theorem qd_M_swap_16 : decode qc_M_swap 16 = .ok (.aload_n 0, 1) := by decide +kernel
theorem qd_M_swap_17 : decode qc_M_swap 17 = .ok (.getfield 88, 3) := by decide +kernel
theorem qd_M_swap_20 : decode qc_M_swap 20 = .ok (.iconst 1, 1) := by decide +kernel
theorem qd_M_swap_21 : decode qc_M_swap 21 = .ok (.isub, 1) := by decide +kernel
theorem qd_M_swap_22 : decode qc_M_swap 22 = .ok (.aload_n 0, 1) := by decide +kernel
theorem qd_M_swap_23 : decode qc_M_swap 23 = .ok (.getfield 26, 3) := by decide +kernel
theorem qd_M_swap_26 : decode qc_M_swap 26 = .ok (.aload_n 0, 1) := by decide +kernel
theorem qd_M_swap_27 : decode qc_M_swap 27 = .ok (.getfield 88, 3) := by decide +kernel
theorem qd_M_swap_30 : decode qc_M_swap 30 = .ok (.iconst 2, 1) := by decide +kernel
theorem qd_M_swap_31 : decode qc_M_swap 31 = .ok (.isub, 1) := by decide +kernel
theorem qd_M_swap_32 : decode qc_M_swap 32 = .ok (.iload_n 1, 1) := by decide +kernel
theorem qd_M_swap_33 : decode qc_M_swap 33 = .ok (.isub, 1) := by decide +kernel
theorem qd_M_swap_34 : decode qc_M_swap 34 = .ok (.iaload, 1) := by decide +kernel
theorem qd_M_swap_35 : decode qc_M_swap 35 = .ok (.iastore, 1) := by decide +kernel
theorem qd_M_swap_36 : decode qc_M_swap 36 = .ok (.aload_n 0, 1) := by decide +kernel
theorem qd_M_swap_37 : decode qc_M_swap 37 = .ok (.getfield 26, 3) := by decide +kernel
theorem qd_M_swap_40 : decode qc_M_swap 40 = .ok (.aload_n 0, 1) := by decide +kernel
theorem qd_M_swap_41 : decode qc_M_swap 41 = .ok (.getfield 88, 3) := by decide +kernel
theorem qd_M_swap_44 : decode qc_M_swap 44 = .ok (.iconst 2, 1) := by decide +kernel
theorem qd_M_swap_45 : decode qc_M_swap 45 = .ok (.isub, 1) := by decide +kernel
theorem qd_M_swap_46 : decode qc_M_swap 46 = .ok (.iload_n 1, 1) := by decide +kernel
theorem qd_M_swap_47 : decode qc_M_swap 47 = .ok (.isub, 1) := by decide +kernel
theorem qd_M_swap_48 : decode qc_M_swap 48 = .ok (.iload_n 2, 1) := by decide +kernel
theorem qd_M_swap_49 : decode qc_M_swap 49 = .ok (.iastore, 1) := by decide +kernel
theorem qd_M_swap_50 : decode qc_M_swap 50 = .ok (.return_, 1) := by decide +kernel
theorem qd_M_send_0 : decode qc_M_send 0 = .ok (.iload_n 1, 1) := by decide +kernel
theorem qd_M_send_1 : decode qc_M_send 1 = .ok (.aload_n 0, 1) := by decide +kernel
theorem qd_M_send_2 : decode qc_M_send 2 = .ok (.getfield 20, 3) := by decide +kernel
theorem qd_M_send_5 : decode qc_M_send 5 = .ok (.iconst 4, 1) := by decide +kernel
theorem qd_M_send_6 : decode qc_M_send 6 = .ok (.iaload, 1) := by decide +kernel
theorem qd_M_send_7 : decode qc_M_send 7 = .ok (.if_icmp .gt 7, 3) := by decide +kernel
theorem qd_M_send_10 : decode qc_M_send 10 = .ok (.iconst 1, 1) := by decide +kernel
theorem qd_M_send_11 : decode qc_M_send 11 = .ok (.goto 4, 3) := by decide +kernel
theorem qd_M_send_14 : decode qc_M_send 14 = .ok (.iconst 0, 1) := by decide +kernel
theorem qd_M_send_15 : decode qc_M_send 15 = .ok (.istore_n 2, 1) := by decide +kernel
theorem qd_M_send_16 : decode qc_M_send 16 = .ok (.aload_n 0, 1) := by decide +kernel
theorem qd_M_send_17 : decode qc_M_send 17 = .ok (.getfield 20, 3) := by decide +kernel
theorem qd_M_send_20 : decode qc_M_send 20 = .ok (.iconst 4, 1) := by decide +kernel
theorem qd_M_send_21 : decode qc_M_send 21 = .ok (.iload_n 2, 1) := by decide +kernel
theorem qd_M_send_22 : decode qc_M_send 22 = .ok (.ifCond .eq 14, 3) := by decide +kernel
theorem qd_M_send_25 : decode qc_M_send 25 = .ok (.aload_n 0, 1) := by decide +kernel
theorem qd_M_send_26 : decode qc_M_send 26 = .ok (.getfield 20, 3) := by decide +kernel
theorem qd_M_send_29 : decode qc_M_send 29 = .ok (.iconst 4, 1) := by decide +kernel
theorem qd_M_send_30 : decode qc_M_send 30 = .ok (.iaload, 1) := by decide +kernel
theorem qd_M_send_31 : decode qc_M_send 31 = .ok (.iload_n 1, 1) := by decide +kernel
theorem qd_M_send_32 : decode qc_M_send 32 = .ok (.isub, 1) := by decide +kernel
theorem qd_M_send_33 : decode qc_M_send 33 = .ok (.goto 9, 3) := by decide +kernel
theorem qd_M_send_36 : decode qc_M_send 36 = .ok (.aload_n 0, 1) := by decide +kernel
theorem qd_M_send_37 : decode qc_M_send 37 = .ok (.getfield 20, 3) := by decide +kernel
theorem qd_M_send_40 : decode qc_M_send 40 = .ok (.iconst 4, 1) := by decide +kernel
theorem qd_M_send_41 : decode qc_M_send 41 = .ok (.iaload, 1) := by decide +kernel
theorem qd_M_send_42 : decode qc_M_send 42 = .ok (.iastore, 1) := by decide +kernel
theorem qd_M_send_43 : decode qc_M_send 43 = .ok (.aload_n 0, 1) := by decide +kernel
theorem qd_M_send_44 : decode qc_M_send 44 = .ok (.aload_n 0, 1) := by decide +kernel
theorem qd_M_send_45 : decode qc_M_send 45 = .ok (.getfield 108, 3) := by decide +kernel
theorem qd_M_send_48 : decode qc_M_send 48 = .ok (.ifCond .ne 7, 3) := by decide +kernel
theorem qd_M_send_51 : decode qc_M_send 51 = .ok (.iload_n 2, 1) := by decide +kernel
theorem qd_M_send_52 : decode qc_M_send 52 = .ok (.ifCond .eq 7, 3) := by decide +kernel
theorem qd_M_send_55 : decode qc_M_send 55 = .ok (.iconst 1, 1) := by decide +kernel
theorem qd_M_send_56 : decode qc_M_send 56 = .ok (.goto 4, 3) := by decide +kernel
theorem qd_M_send_59 : decode qc_M_send 59 = .ok (.iconst 0, 1) := by decide +kernel
theorem qd_M_send_60 : decode qc_M_send 60 = .ok (.putfield 108, 3) := by decide +kernel
theorem qd_M_send_63 : decode qc_M_send 63 = .ok (.aload_n 0, 1) := by decide +kernel
theorem qd_M_send_64 : decode qc_M_send 64 = .ok (.iload_n 2, 1) := by decide +kernel
theorem qd_M_send_65 : decode qc_M_send 65 = .ok (.ifCond .eq 7, 3) := by decide +kernel
theorem qd_M_send_68 : decode qc_M_send 68 = .ok (.iconst 1, 1) := by decide +kernel
theorem qd_M_send_69 : decode qc_M_send 69 = .ok (.goto 4, 3) := by decide +kernel
theorem qd_M_send_72 : decode qc_M_send 72 = .ok (.iconst 0, 1) := by decide +kernel
theorem qd_M_send_73 : decode qc_M_send 73 = .ok (.invokevirtual 112, 3) := by decide +kernel
theorem qd_M_send_76 : decode qc_M_send 76 = .ok (.return_, 1) := by decide +kernel
theorem qd_M_transact_0 : decode qc_M_transact 0 = .ok (.iconst 0, 1) := by decide +kernel
theorem qd_M_transact_1 : decode qc_M_transact 1 = .ok (.istore_n 3, 1) := by decide +kernel
theorem qd_M_transact_2 : decode qc_M_transact 2 = .ok (.iload_n 3, 1) := by decide +kernel
theorem qd_M_transact_3 : decode qc_M_transact 3 = .ok (.iconst 5, 1) := by decide +kernel
theorem qd_M_transact_4 : decode qc_M_transact 4 = .ok (.if_icmp .ge 21, 3) := by decide +kernel
theorem qd_M_transact_7 : decode qc_M_transact 7 = .ok (.aload_n 0, 1) := by decide +kernel
theorem qd_M_transact_8 : decode qc_M_transact 8 = .ok (.getfield 23, 3) := by decide +kernel
theorem qd_M_transact_11 : decode qc_M_transact 11 = .ok (.iload_n 3, 1) := by decide +kernel
theorem qd_M_transact_12 : decode qc_M_transact 12 = .ok (.aload_n 0, 1) := by decide +kernel
theorem qd_M_transact_13 : decode qc_M_transact 13 = .ok (.getfield 20, 3) := by decide +kernel
theorem qd_M_transact_16 : decode qc_M_transact 16 = .ok (.iload_n 3, 1) := by decide +kernel
theorem qd_M_transact_17 : decode qc_M_transact 17 = .ok (.iaload, 1) := by decide +kernel
theorem qd_M_transact_18 : decode qc_M_transact 18 = .ok (.iastore, 1) := by decide +kernel
theorem qd_M_transact_19 : decode qc_M_transact 19 = .ok (.iinc 3 1, 3) := by decide +kernel
theorem qd_M_transact_22 : decode qc_M_transact 22 = .ok (.goto (-20), 3) := by decide +kernel
theorem qd_M_transact_25 : decode qc_M_transact 25 = .ok (.aload_n 0, 1) := by decide +kernel
theorem qd_M_transact_26 : decode qc_M_transact 26 = .ok (.iload_n 2, 1) := by decide +kernel
theorem qd_M_transact_27 : decode qc_M_transact 27 = .ok (.iconst 4, 1) := by decide +kernel
theorem qd_M_transact_28 : decode qc_M_transact 28 = .ok (.idiv, 1) := by decide +kernel
theorem qd_M_transact_29 : decode qc_M_transact 29 = .ok (.putfield 115, 3) := by decide +kernel
theorem qd_M_transact_32 : decode qc_M_transact 32 = .ok (.aload_n 0, 1) := by decide +kernel
theorem qd_M_transact_33 : decode qc_M_transact 33 = .ok (.iload_n 2, 1) := by decide +kernel
theorem qd_M_transact_34 : decode qc_M_transact 34 = .ok (.iconst 4, 1) := by decide +kernel
theorem qd_M_transact_35 : decode qc_M_transact 35 = .ok (.irem, 1) := by decide +kernel
theorem qd_M_transact_36 : decode qc_M_transact 36 = .ok (.putfield 118, 3) := by decide +kernel
theorem qd_M_transact_39 : decode qc_M_transact 39 = .ok (.aload_n 0, 1) := by decide +kernel
theorem qd_M_transact_40 : decode qc_M_transact 40 = .ok (.iconst 0, 1) := by decide +kernel
theorem qd_M_transact_41 : decode qc_M_transact 41 = .ok (.putfield 88, 3) := by decide +kernel
theorem qd_M_transact_44 : decode qc_M_transact 44 = .ok (.aload_n 0, 1) := by decide +kernel
theorem qd_M_transact_45 : decode qc_M_transact 45 = .ok (.aload_n 0, 1) := by decide +kernel
theorem qd_M_transact_46 : decode qc_M_transact 46 = .ok (.getfield 16, 3) := by decide +kernel
theorem qd_M_transact_49 : decode qc_M_transact 49 = .ok (.putfield 81, 3) := by decide +kernel
theorem qd_M_transact_52 : decode qc_M_transact 52 = .ok (.aload_n 0, 1) := by decide +kernel
theorem qd_M_transact_53 : decode qc_M_transact 53 = .ok (.iconst 0, 1) := by decide +kernel
theorem qd_M_transact_54 : decode qc_M_transact 54 = .ok (.putfield 78, 3) := by decide +kernel
theorem qd_M_transact_57 : decode qc_M_transact 57 = .ok (.aload_n 0, 1) := by decide +kernel
theorem qd_M_transact_58 : decode qc_M_transact 58 = .ok (.iconst 0, 1) := by decide +kernel
theorem qd_M_transact_59 : decode qc_M_transact 59 = .ok (.putfield 108, 3) := by decide +kernel
theorem qd_M_transact_62 : decode qc_M_transact 62 = .ok (.aload_n 0, 1) := by decide +kernel
theorem qd_M_transact_63 : decode qc_M_transact 63 = .ok (.getfield 32, 3) := by decide +kernel
theorem qd_M_transact_66 : decode qc_M_transact 66 = .ok (.iload_n 1, 1) := by decide +kernel
theorem qd_M_transact_67 : decode qc_M_transact 67 = .ok (.iconst 0, 1) := by decide +kernel
theorem qd_M_transact_68 : decode qc_M_transact 68 = .ok (.iastore, 1) := by decide +kernel
theorem qd_M_transact_69 : decode qc_M_transact 69 = .ok (.iconst 5, 1) := by decide +kernel
theorem qd_M_transact_70 : decode qc_M_transact 70 = .ok (.istore_n 3, 1) := by decide +kernel
theorem qd_M_transact_71 : decode qc_M_transact 71 = .ok (.iload_n 3, 1) := by decide +kernel
theorem qd_M_transact_72 : decode qc_M_transact 72 = .ok (.iconst 5, 1) := by decide +kernel
theorem qd_M_transact_73 : decode qc_M_transact 73 = .ok (.if_icmp .ne 147, 3) := by decide +kernel
theorem qd_M_transact_76 : decode qc_M_transact 76 = .ok (.aload_n 0, 1) := by decide +kernel
theorem qd_M_transact_77 : decode qc_M_transact 77 = .ok (.getfield 78, 3) := by decide +kernel
theorem qd_M_transact_80 : decode qc_M_transact 80 = .ok (.aload_n 0, 1) := by decide +kernel
theorem qd_M_transact_81 : decode qc_M_transact 81 = .ok (.getfield 72, 3) := by decide +kernel
theorem qd_M_transact_84 : decode qc_M_transact 84 = .ok (.if_icmp .ge 136, 3) := by decide +kernel
theorem qd_M_transact_87 : decode qc_M_transact 87 = .ok (.aload_n 0, 1) := by decide +kernel
theorem qd_M_transact_88 : decode qc_M_transact 88 = .ok (.getfield 7, 3) := by decide +kernel
theorem qd_M_transact_91 : decode qc_M_transact 91 = .ok (.aload_n 0, 1) := by decide +kernel
theorem qd_M_transact_92 : decode qc_M_transact 92 = .ok (.getfield 78, 3) := by decide +kernel
theorem qd_M_transact_95 : decode qc_M_transact 95 = .ok (.iaload, 1) := by decide +kernel
theorem qd_M_transact_96 : decode qc_M_transact 96 = .ok (.istore 4, 2) := by decide +kernel
theorem qd_M_transact_98 : decode qc_M_transact 98 = .ok (.aload_n 0, 1) := by decide +kernel
theorem qd_M_transact_99 : decode qc_M_transact 99 = .ok (.getfield 29, 3) := by decide +kernel
theorem qd_M_transact_102 : decode qc_M_transact 102 = .ok (.bipush 41, 2) := by decide +kernel
theorem qd_M_transact_104 : decode qc_M_transact 104 = .ok (.iload_n 1, 1) := by decide +kernel
theorem qd_M_transact_105 : decode qc_M_transact 105 = .ok (.imul, 1) := by decide +kernel
theorem qd_M_transact_106 : decode qc_M_transact 106 = .ok (.aload_n 0, 1) := by decide +kernel
theorem qd_M_transact_107 : decode qc_M_transact 107 = .ok (.getfield 32, 3) := by decide +kernel
theorem qd_M_transact_110 : decode qc_M_transact 110 = .ok (.iload_n 1, 1) := by decide +kernel
theorem qd_M_transact_111 : decode qc_M_transact 111 = .ok (.iaload, 1) := by decide +kernel
theorem qd_M_transact_112 : decode qc_M_transact 112 = .ok (.iadd, 1) := by decide +kernel
theorem qd_M_transact_113 : decode qc_M_transact 113 = .ok (.aload_n 0, 1) := by decide +kernel
theorem qd_M_transact_114 : decode qc_M_transact 114 = .ok (.getfield 78, 3) := by decide +kernel
theorem qd_M_transact_117 : decode qc_M_transact 117 = .ok (.iastore, 1) := by decide +kernel
theorem qd_M_transact_118 : decode qc_M_transact 118 = .ok (.aload_n 0, 1) := by decide +kernel
theorem qd_M_transact_119 : decode qc_M_transact 119 = .ok (.getfield 32, 3) := by decide +kernel
theorem qd_M_transact_122 : decode qc_M_transact 122 = .ok (.iload_n 1, 1) := by decide +kernel
theorem qd_M_transact_123 : decode qc_M_transact 123 = .ok (.dup2, 1) := by decide +kernel
theorem qd_M_transact_124 : decode qc_M_transact 124 = .ok (.iaload, 1) := by decide +kernel
theorem qd_M_transact_125 : decode qc_M_transact 125 = .ok (.iconst 1, 1) := by decide +kernel
theorem qd_M_transact_126 : decode qc_M_transact 126 = .ok (.iadd, 1) := by decide +kernel
theorem qd_M_transact_127 : decode qc_M_transact 127 = .ok (.iastore, 1) := by decide +kernel
theorem qd_M_transact_128 : decode qc_M_transact 128 = .ok (.aload_n 0, 1) := by decide +kernel
theorem qd_M_transact_129 : decode qc_M_transact 129 = .ok (.aload_n 0, 1) := by decide +kernel
theorem qd_M_transact_130 : decode qc_M_transact 130 = .ok (.getfield 78, 3) := by decide +kernel
theorem qd_M_transact_133 : decode qc_M_transact 133 = .ok (.iconst 1, 1) := by decide +kernel
theorem qd_M_transact_134 : decode qc_M_transact 134 = .ok (.iadd, 1) := by decide +kernel
theorem qd_M_transact_135 : decode qc_M_transact 135 = .ok (.putfield 124, 3) := by decide +kernel
theorem qd_M_transact_138 : decode qc_M_transact 138 = .ok (.aload_n 0, 1) := by decide +kernel
theorem qd_M_transact_139 : decode qc_M_transact 139 = .ok (.iload 4, 2) := by decide +kernel
theorem qd_M_transact_141 : decode qc_M_transact 141 = .ok (.invokevirtual 134, 3) := by decide +kernel
theorem qd_M_transact_144 : decode qc_M_transact 144 = .ok (.ifCond .eq 13, 3) := by decide +kernel
theorem qd_M_transact_147 : decode qc_M_transact 147 = .ok (.aload_n 0, 1) := by decide +kernel
theorem qd_M_transact_148 : decode qc_M_transact 148 = .ok (.iconst 4, 1) := by decide +kernel
theorem qd_M_transact_149 : decode qc_M_transact 149 = .ok (.invokevirtual 104, 3) := by decide +kernel
theorem qd_M_transact_152 : decode qc_M_transact 152 = .ok (.iconst 2, 1) := by decide +kernel
theorem qd_M_transact_153 : decode qc_M_transact 153 = .ok (.istore_n 3, 1) := by decide +kernel
theorem qd_M_transact_154 : decode qc_M_transact 154 = .ok (.goto 55, 3) := by decide +kernel
theorem qd_M_transact_157 : decode qc_M_transact 157 = .ok (.iload 4, 2) := by decide +kernel
theorem qd_M_transact_159 : decode qc_M_transact 159 = .ok (.bipush 21, 2) := by decide +kernel
theorem qd_M_transact_161 : decode qc_M_transact 161 = .ok (.if_icmp .ne 27, 3) := by decide +kernel
theorem qd_M_transact_164 : decode qc_M_transact 164 = .ok (.aload_n 0, 1) := by decide +kernel
theorem qd_M_transact_165 : decode qc_M_transact 165 = .ok (.getfield 26, 3) := by decide +kernel
theorem qd_M_transact_168 : decode qc_M_transact 168 = .ok (.aload_n 0, 1) := by decide +kernel
theorem qd_M_transact_169 : decode qc_M_transact 169 = .ok (.getfield 88, 3) := by decide +kernel
theorem qd_M_transact_172 : decode qc_M_transact 172 = .ok (.iconst 1, 1) := by decide +kernel
theorem qd_M_transact_173 : decode qc_M_transact 173 = .ok (.isub, 1) := by decide +kernel
theorem qd_M_transact_174 : decode qc_M_transact 174 = .ok (.iaload, 1) := by decide +kernel
theorem qd_M_transact_175 : decode qc_M_transact 175 = .ok (.ifCond .ne 13, 3) := by decide +kernel
theorem qd_M_transact_178 : decode qc_M_transact 178 = .ok (.aload_n 0, 1) := by decide +kernel
theorem qd_M_transact_179 : decode qc_M_transact 179 = .ok (.iconst 0, 1) := by decide +kernel
theorem qd_M_transact_180 : decode qc_M_transact 180 = .ok (.invokevirtual 104, 3) := by decide +kernel
theorem qd_M_transact_183 : decode qc_M_transact 183 = .ok (.iconst 2, 1) := by decide +kernel
theorem qd_M_transact_184 : decode qc_M_transact 184 = .ok (.istore_n 3, 1) := by decide +kernel
theorem qd_M_transact_185 : decode qc_M_transact 185 = .ok (.goto 24, 3) := by decide +kernel
theorem qd_M_transact_188 : decode qc_M_transact 188 = .ok (.aload_n 0, 1) := by decide +kernel
theorem qd_M_transact_189 : decode qc_M_transact 189 = .ok (.dup, 1) := by decide +kernel
theorem qd_M_transact_190 : decode qc_M_transact 190 = .ok (.getfield 81, 3) := by decide +kernel
theorem qd_M_transact_193 : decode qc_M_transact 193 = .ok (.iload 4, 2) := by decide +kernel
theorem qd_M_transact_195 : decode qc_M_transact 195 = .ok (.invokestatic 84, 3) := by decide +kernel
theorem qd_M_transact_198 : decode qc_M_transact 198 = .ok (.isub, 1) := by decide +kernel
theorem qd_M_transact_199 : decode qc_M_transact 199 = .ok (.putfield 81, 3) := by decide +kernel
theorem qd_M_transact_202 : decode qc_M_transact 202 = .ok (.aload_n 0, 1) := by decide +kernel
theorem qd_M_transact_203 : decode qc_M_transact 203 = .ok (.iload 4, 2) := by decide +kernel
theorem qd_M_transact_205 : decode qc_M_transact 205 = .ok (.invokevirtual 138, 3) := by decide +kernel
theorem qd_M_transact_208 : decode qc_M_transact 208 = .ok (.istore_n 3, 1) := by decide +kernel
theorem qd_M_transact_209 : decode qc_M_transact 209 = .ok (.aload_n 0, 1) := by decide +kernel
theorem qd_M_transact_210 : decode qc_M_transact 210 = .ok (.aload_n 0, 1) := by decide +kernel
theorem qd_M_transact_211 : decode qc_M_transact 211 = .ok (.getfield 124, 3) := by decide +kernel
theorem qd_M_transact_214 : decode qc_M_transact 214 = .ok (.putfield 78, 3) := by decide +kernel
theorem qd_M_transact_217 : decode qc_M_transact 217 = .ok (.goto (-146), 3) := by decide +kernel
theorem qd_M_transact_220 : decode qc_M_transact 220 = .ok (.aload_n 0, 1) := by decide +kernel
theorem qd_M_transact_221 : decode qc_M_transact 221 = .ok (.getfield 35, 3) := by decide +kernel
theorem qd_M_transact_224 : decode qc_M_transact 224 = .ok (.iload_n 1, 1) := by decide +kernel
theorem qd_M_transact_225 : decode qc_M_transact 225 = .ok (.iload_n 3, 1) := by decide +kernel
theorem qd_M_transact_226 : decode qc_M_transact 226 = .ok (.iconst 5, 1) := by decide +kernel
theorem qd_M_transact_227 : decode qc_M_transact 227 = .ok (.if_icmp .ne 7, 3) := by decide +kernel
theorem qd_M_transact_230 : decode qc_M_transact 230 = .ok (.iconst 0, 1) := by decide +kernel
theorem qd_M_transact_231 : decode qc_M_transact 231 = .ok (.goto 4, 3) := by decide +kernel
theorem qd_M_transact_234 : decode qc_M_transact 234 = .ok (.iload_n 3, 1) := by decide +kernel
theorem qd_M_transact_235 : decode qc_M_transact 235 = .ok (.iastore, 1) := by decide +kernel
theorem qd_M_transact_236 : decode qc_M_transact 236 = .ok (.iconst 0, 1) := by decide +kernel
theorem qd_M_transact_237 : decode qc_M_transact 237 = .ok (.istore 4, 2) := by decide +kernel
theorem qd_M_transact_239 : decode qc_M_transact 239 = .ok (.iload 4, 2) := by decide +kernel
theorem qd_M_transact_241 : decode qc_M_transact 241 = .ok (.iconst 5, 1) := by decide +kernel
theorem qd_M_transact_242 : decode qc_M_transact 242 = .ok (.if_icmp .ge 33, 3) := by decide +kernel
theorem qd_M_transact_245 : decode qc_M_transact 245 = .ok (.iload_n 3, 1) := by decide +kernel
theorem qd_M_transact_246 : decode qc_M_transact 246 = .ok (.iconst 1, 1) := by decide +kernel
theorem qd_M_transact_247 : decode qc_M_transact 247 = .ok (.if_icmp .eq 8, 3) := by decide +kernel
theorem qd_M_transact_250 : decode qc_M_transact 250 = .ok (.iload_n 3, 1) := by decide +kernel
theorem qd_M_transact_251 : decode qc_M_transact 251 = .ok (.iconst 2, 1) := by decide +kernel
theorem qd_M_transact_252 : decode qc_M_transact 252 = .ok (.if_icmp .ne 23, 3) := by decide +kernel
theorem qd_M_transact_255 : decode qc_M_transact 255 = .ok (.aload_n 0, 1) := by decide +kernel
theorem qd_M_transact_256 : decode qc_M_transact 256 = .ok (.getfield 20, 3) := by decide +kernel
theorem qd_M_transact_259 : decode qc_M_transact 259 = .ok (.iload 4, 2) := by decide +kernel
theorem qd_M_transact_261 : decode qc_M_transact 261 = .ok (.aload_n 0, 1) := by decide +kernel
theorem qd_M_transact_262 : decode qc_M_transact 262 = .ok (.getfield 23, 3) := by decide +kernel
theorem qd_M_transact_265 : decode qc_M_transact 265 = .ok (.iload 4, 2) := by decide +kernel
theorem qd_M_transact_267 : decode qc_M_transact 267 = .ok (.iaload, 1) := by decide +kernel
theorem qd_M_transact_268 : decode qc_M_transact 268 = .ok (.iastore, 1) := by decide +kernel
theorem qd_M_transact_269 : decode qc_M_transact 269 = .ok (.iinc 4 1, 3) := by decide +kernel
theorem qd_M_transact_272 : decode qc_M_transact 272 = .ok (.goto (-33), 3) := by decide +kernel
theorem qd_M_transact_275 : decode qc_M_transact 275 = .ok (.return_, 1) := by decide +kernel
theorem qd_M_perform_0 : decode qc_M_perform 0 = .ok (.iconst 0, 1) := by decide +kernel
theorem qd_M_perform_1 : decode qc_M_perform 1 = .ok (.istore_n 3, 1) := by decide +kernel
theorem qd_M_perform_2 : decode qc_M_perform 2 = .ok (.iload_n 3, 1) := by decide +kernel
theorem qd_M_perform_3 : decode qc_M_perform 3 = .ok (.iconst 4, 1) := by decide +kernel
theorem qd_M_perform_4 : decode qc_M_perform 4 = .ok (.if_icmp .ge 16, 3) := by decide +kernel
theorem qd_M_perform_7 : decode qc_M_perform 7 = .ok (.aload_n 0, 1) := by decide +kernel
theorem qd_M_perform_8 : decode qc_M_perform 8 = .ok (.getfield 20, 3) := by decide +kernel
theorem qd_M_perform_11 : decode qc_M_perform 11 = .ok (.iload_n 3, 1) := by decide +kernel
theorem qd_M_perform_12 : decode qc_M_perform 12 = .ok (.iconst 0, 1) := by decide +kernel
theorem qd_M_perform_13 : decode qc_M_perform 13 = .ok (.iastore, 1) := by decide +kernel
theorem qd_M_perform_14 : decode qc_M_perform 14 = .ok (.iinc 3 1, 3) := by decide +kernel
theorem qd_M_perform_17 : decode qc_M_perform 17 = .ok (.goto (-15), 3) := by decide +kernel
theorem qd_M_perform_20 : decode qc_M_perform 20 = .ok (.aload_n 0, 1) := by decide +kernel
theorem qd_M_perform_21 : decode qc_M_perform 21 = .ok (.getfield 20, 3) := by decide +kernel
theorem qd_M_perform_24 : decode qc_M_perform 24 = .ok (.iconst 4, 1) := by decide +kernel
theorem qd_M_perform_25 : decode qc_M_perform 25 = .ok (.aload_n 0, 1) := by decide +kernel
theorem qd_M_perform_26 : decode qc_M_perform 26 = .ok (.getfield 75, 3) := by decide +kernel
theorem qd_M_perform_29 : decode qc_M_perform 29 = .ok (.iastore, 1) := by decide +kernel
theorem qd_M_perform_30 : decode qc_M_perform 30 = .ok (.iconst 0, 1) := by decide +kernel
theorem qd_M_perform_31 : decode qc_M_perform 31 = .ok (.istore_n 3, 1) := by decide +kernel
theorem qd_M_perform_32 : decode qc_M_perform 32 = .ok (.iload_n 3, 1) := by decide +kernel
theorem qd_M_perform_33 : decode qc_M_perform 33 = .ok (.iconst 5, 1) := by decide +kernel
theorem qd_M_perform_34 : decode qc_M_perform 34 = .ok (.if_icmp .ge 16, 3) := by decide +kernel
theorem qd_M_perform_37 : decode qc_M_perform 37 = .ok (.aload_n 0, 1) := by decide +kernel
theorem qd_M_perform_38 : decode qc_M_perform 38 = .ok (.getfield 38, 3) := by decide +kernel
theorem qd_M_perform_41 : decode qc_M_perform 41 = .ok (.iload_n 3, 1) := by decide +kernel
theorem qd_M_perform_42 : decode qc_M_perform 42 = .ok (.iconst 0, 1) := by decide +kernel
theorem qd_M_perform_43 : decode qc_M_perform 43 = .ok (.iastore, 1) := by decide +kernel
theorem qd_M_perform_44 : decode qc_M_perform 44 = .ok (.iinc 3 1, 3) := by decide +kernel
theorem qd_M_perform_47 : decode qc_M_perform 47 = .ok (.goto (-15), 3) := by decide +kernel
theorem qd_M_perform_50 : decode qc_M_perform 50 = .ok (.aload_n 0, 1) := by decide +kernel
theorem qd_M_perform_51 : decode qc_M_perform 51 = .ok (.getfield 32, 3) := by decide +kernel
theorem qd_M_perform_54 : decode qc_M_perform 54 = .ok (.iconst 1, 1) := by decide +kernel
theorem qd_M_perform_55 : decode qc_M_perform 55 = .ok (.iconst 0, 1) := by decide +kernel
theorem qd_M_perform_56 : decode qc_M_perform 56 = .ok (.iastore, 1) := by decide +kernel
theorem qd_M_perform_57 : decode qc_M_perform 57 = .ok (.aload_n 0, 1) := by decide +kernel
theorem qd_M_perform_58 : decode qc_M_perform 58 = .ok (.getfield 35, 3) := by decide +kernel
theorem qd_M_perform_61 : decode qc_M_perform 61 = .ok (.iconst 1, 1) := by decide +kernel
theorem qd_M_perform_62 : decode qc_M_perform 62 = .ok (.iconst 4, 1) := by decide +kernel
theorem qd_M_perform_63 : decode qc_M_perform 63 = .ok (.iastore, 1) := by decide +kernel
theorem qd_M_perform_64 : decode qc_M_perform 64 = .ok (.aload_n 0, 1) := by decide +kernel
theorem qd_M_perform_65 : decode qc_M_perform 65 = .ok (.iconst 0, 1) := by decide +kernel
theorem qd_M_perform_66 : decode qc_M_perform 66 = .ok (.iload_n 1, 1) := by decide +kernel
theorem qd_M_perform_67 : decode qc_M_perform 67 = .ok (.iconst 1, 1) := by decide +kernel
theorem qd_M_perform_68 : decode qc_M_perform 68 = .ok (.if_icmp .ne 7, 3) := by decide +kernel
theorem qd_M_perform_71 : decode qc_M_perform 71 = .ok (.iload_n 2, 1) := by decide +kernel
theorem qd_M_perform_72 : decode qc_M_perform 72 = .ok (.goto 7, 3) := by decide +kernel
theorem qd_M_perform_75 : decode qc_M_perform 75 = .ok (.iload_n 2, 1) := by decide +kernel
theorem qd_M_perform_76 : decode qc_M_perform 76 = .ok (.bipush 64, 2) := by decide +kernel
theorem qd_M_perform_78 : decode qc_M_perform 78 = .ok (.idiv, 1) := by decide +kernel
theorem qd_M_perform_79 : decode qc_M_perform 79 = .ok (.invokevirtual 141, 3) := by decide +kernel
theorem qd_M_perform_82 : decode qc_M_perform 82 = .ok (.iload_n 1, 1) := by decide +kernel
theorem qd_M_perform_83 : decode qc_M_perform 83 = .ok (.iconst 2, 1) := by decide +kernel
theorem qd_M_perform_84 : decode qc_M_perform 84 = .ok (.if_icmp .ne 25, 3) := by decide +kernel
theorem qd_M_perform_87 : decode qc_M_perform 87 = .ok (.aload_n 0, 1) := by decide +kernel
theorem qd_M_perform_88 : decode qc_M_perform 88 = .ok (.getfield 35, 3) := by decide +kernel
theorem qd_M_perform_91 : decode qc_M_perform 91 = .ok (.iconst 0, 1) := by decide +kernel
theorem qd_M_perform_92 : decode qc_M_perform 92 = .ok (.iaload, 1) := by decide +kernel
theorem qd_M_perform_93 : decode qc_M_perform 93 = .ok (.iconst 3, 1) := by decide +kernel
theorem qd_M_perform_94 : decode qc_M_perform 94 = .ok (.if_icmp .eq 15, 3) := by decide +kernel
theorem qd_M_perform_97 : decode qc_M_perform 97 = .ok (.aload_n 0, 1) := by decide +kernel
theorem qd_M_perform_98 : decode qc_M_perform 98 = .ok (.iconst 1, 1) := by decide +kernel
theorem qd_M_perform_99 : decode qc_M_perform 99 = .ok (.iload_n 2, 1) := by decide +kernel
theorem qd_M_perform_100 : decode qc_M_perform 100 = .ok (.bipush 64, 2) := by decide +kernel
theorem qd_M_perform_102 : decode qc_M_perform 102 = .ok (.irem, 1) := by decide +kernel
theorem qd_M_perform_103 : decode qc_M_perform 103 = .ok (.invokevirtual 141, 3) := by decide +kernel
theorem qd_M_perform_106 : decode qc_M_perform 106 = .ok (.goto 18, 3) := by decide +kernel
theorem qd_M_perform_109 : decode qc_M_perform 109 = .ok (.iload_n 1, 1) := by decide +kernel
theorem qd_M_perform_110 : decode qc_M_perform 110 = .ok (.iconst 2, 1) := by decide +kernel
theorem qd_M_perform_111 : decode qc_M_perform 111 = .ok (.if_icmp .ne 13, 3) := by decide +kernel
theorem qd_M_perform_114 : decode qc_M_perform 114 = .ok (.aload_n 0, 1) := by decide +kernel
theorem qd_M_perform_115 : decode qc_M_perform 115 = .ok (.iconst 0, 1) := by decide +kernel
theorem qd_M_perform_116 : decode qc_M_perform 116 = .ok (.putfield 81, 3) := by decide +kernel
theorem qd_M_perform_119 : decode qc_M_perform 119 = .ok (.aload_n 0, 1) := by decide +kernel
theorem qd_M_perform_120 : decode qc_M_perform 120 = .ok (.iconst 0, 1) := by decide +kernel
theorem qd_M_perform_121 : decode qc_M_perform 121 = .ok (.putfield 88, 3) := by decide +kernel
theorem qd_M_perform_124 : decode qc_M_perform 124 = .ok (.return_, 1) := by decide +kernel
theorem qd_M_goes_0 : decode qc_M_goes 0 = .ok (.iconst 0, 1) := by decide +kernel
theorem qd_M_goes_1 : decode qc_M_goes 1 = .ok (.istore_n 2, 1) := by decide +kernel
theorem qd_M_goes_2 : decode qc_M_goes 2 = .ok (.iload_n 2, 1) := by decide +kernel
theorem qd_M_goes_3 : decode qc_M_goes 3 = .ok (.iconst 2, 1) := by decide +kernel
theorem qd_M_goes_4 : decode qc_M_goes 4 = .ok (.if_icmp .ge 97, 3) := by decide +kernel
theorem qd_M_goes_7 : decode qc_M_goes 7 = .ok (.aload_n 0, 1) := by decide +kernel
theorem qd_M_goes_8 : decode qc_M_goes 8 = .ok (.getfield 32, 3) := by decide +kernel
theorem qd_M_goes_11 : decode qc_M_goes 11 = .ok (.iload_n 2, 1) := by decide +kernel
theorem qd_M_goes_12 : decode qc_M_goes 12 = .ok (.iaload, 1) := by decide +kernel
theorem qd_M_goes_13 : decode qc_M_goes 13 = .ok (.aload_n 0, 1) := by decide +kernel
theorem qd_M_goes_14 : decode qc_M_goes 14 = .ok (.getfield 44, 3) := by decide +kernel
theorem qd_M_goes_17 : decode qc_M_goes 17 = .ok (.iconst 2, 1) := by decide +kernel
theorem qd_M_goes_18 : decode qc_M_goes 18 = .ok (.iload_n 1, 1) := by decide +kernel
theorem qd_M_goes_19 : decode qc_M_goes 19 = .ok (.imul, 1) := by decide +kernel
theorem qd_M_goes_20 : decode qc_M_goes 20 = .ok (.iload_n 2, 1) := by decide +kernel
theorem qd_M_goes_21 : decode qc_M_goes 21 = .ok (.iadd, 1) := by decide +kernel
theorem qd_M_goes_22 : decode qc_M_goes 22 = .ok (.iaload, 1) := by decide +kernel
theorem qd_M_goes_23 : decode qc_M_goes 23 = .ok (.if_icmp .ne 22, 3) := by decide +kernel
theorem qd_M_goes_26 : decode qc_M_goes 26 = .ok (.aload_n 0, 1) := by decide +kernel
theorem qd_M_goes_27 : decode qc_M_goes 27 = .ok (.getfield 35, 3) := by decide +kernel
theorem qd_M_goes_30 : decode qc_M_goes 30 = .ok (.iload_n 2, 1) := by decide +kernel
theorem qd_M_goes_31 : decode qc_M_goes 31 = .ok (.iaload, 1) := by decide +kernel
theorem qd_M_goes_32 : decode qc_M_goes 32 = .ok (.aload_n 0, 1) := by decide +kernel
theorem qd_M_goes_33 : decode qc_M_goes 33 = .ok (.getfield 47, 3) := by decide +kernel
theorem qd_M_goes_36 : decode qc_M_goes 36 = .ok (.iconst 2, 1) := by decide +kernel
theorem qd_M_goes_37 : decode qc_M_goes 37 = .ok (.iload_n 1, 1) := by decide +kernel
theorem qd_M_goes_38 : decode qc_M_goes 38 = .ok (.imul, 1) := by decide +kernel
theorem qd_M_goes_39 : decode qc_M_goes 39 = .ok (.iload_n 2, 1) := by decide +kernel
theorem qd_M_goes_40 : decode qc_M_goes 40 = .ok (.iadd, 1) := by decide +kernel
theorem qd_M_goes_41 : decode qc_M_goes 41 = .ok (.iaload, 1) := by decide +kernel
theorem qd_M_goes_42 : decode qc_M_goes 42 = .ok (.if_icmp .eq 5, 3) := by decide +kernel
theorem qd_M_goes_45 : decode qc_M_goes 45 = .ok (.iconst 0, 1) := by decide +kernel
theorem qd_M_goes_46 : decode qc_M_goes 46 = .ok (.ireturn, 1) := by decide +kernel
theorem qd_M_goes_47 : decode qc_M_goes 47 = .ok (.bipush 41, 2) := by decide +kernel
theorem qd_M_goes_49 : decode qc_M_goes 49 = .ok (.iload_n 2, 1) := by decide +kernel
theorem qd_M_goes_50 : decode qc_M_goes 50 = .ok (.imul, 1) := by decide +kernel
theorem qd_M_goes_51 : decode qc_M_goes 51 = .ok (.istore_n 3, 1) := by decide +kernel
theorem qd_M_goes_52 : decode qc_M_goes 52 = .ok (.iload_n 3, 1) := by decide +kernel
theorem qd_M_goes_53 : decode qc_M_goes 53 = .ok (.bipush 41, 2) := by decide +kernel
theorem qd_M_goes_55 : decode qc_M_goes 55 = .ok (.iload_n 2, 1) := by decide +kernel
theorem qd_M_goes_56 : decode qc_M_goes 56 = .ok (.imul, 1) := by decide +kernel
theorem qd_M_goes_57 : decode qc_M_goes 57 = .ok (.aload_n 0, 1) := by decide +kernel
theorem qd_M_goes_58 : decode qc_M_goes 58 = .ok (.getfield 32, 3) := by decide +kernel
theorem qd_M_goes_61 : decode qc_M_goes 61 = .ok (.iload_n 2, 1) := by decide +kernel
theorem qd_M_goes_62 : decode qc_M_goes 62 = .ok (.iaload, 1) := by decide +kernel
theorem qd_M_goes_63 : decode qc_M_goes 63 = .ok (.iadd, 1) := by decide +kernel
theorem qd_M_goes_64 : decode qc_M_goes 64 = .ok (.if_icmp .ge 31, 3) := by decide +kernel
theorem qd_M_goes_67 : decode qc_M_goes 67 = .ok (.aload_n 0, 1) := by decide +kernel
theorem qd_M_goes_68 : decode qc_M_goes 68 = .ok (.getfield 29, 3) := by decide +kernel
theorem qd_M_goes_71 : decode qc_M_goes 71 = .ok (.iload_n 3, 1) := by decide +kernel
theorem qd_M_goes_72 : decode qc_M_goes 72 = .ok (.iaload, 1) := by decide +kernel
theorem qd_M_goes_73 : decode qc_M_goes 73 = .ok (.aload_n 0, 1) := by decide +kernel
theorem qd_M_goes_74 : decode qc_M_goes 74 = .ok (.getfield 41, 3) := by decide +kernel
theorem qd_M_goes_77 : decode qc_M_goes 77 = .ok (.bipush 82, 2) := by decide +kernel
theorem qd_M_goes_79 : decode qc_M_goes 79 = .ok (.iload_n 1, 1) := by decide +kernel
theorem qd_M_goes_80 : decode qc_M_goes 80 = .ok (.imul, 1) := by decide +kernel
theorem qd_M_goes_81 : decode qc_M_goes 81 = .ok (.iload_n 3, 1) := by decide +kernel
theorem qd_M_goes_82 : decode qc_M_goes 82 = .ok (.iadd, 1) := by decide +kernel
theorem qd_M_goes_83 : decode qc_M_goes 83 = .ok (.iaload, 1) := by decide +kernel
theorem qd_M_goes_84 : decode qc_M_goes 84 = .ok (.if_icmp .eq 5, 3) := by decide +kernel
theorem qd_M_goes_87 : decode qc_M_goes 87 = .ok (.iconst 0, 1) := by decide +kernel
theorem qd_M_goes_88 : decode qc_M_goes 88 = .ok (.ireturn, 1) := by decide +kernel
theorem qd_M_goes_89 : decode qc_M_goes 89 = .ok (.iinc 3 1, 3) := by decide +kernel
theorem qd_M_goes_92 : decode qc_M_goes 92 = .ok (.goto (-40), 3) := by decide +kernel
theorem qd_M_goes_95 : decode qc_M_goes 95 = .ok (.iinc 2 1, 3) := by decide +kernel
theorem qd_M_goes_98 : decode qc_M_goes 98 = .ok (.goto (-96), 3) := by decide +kernel
theorem qd_M_goes_101 : decode qc_M_goes 101 = .ok (.iconst 1, 1) := by decide +kernel
theorem qd_M_goes_102 : decode qc_M_goes 102 = .ok (.ireturn, 1) := by decide +kernel
theorem qd_M_open_0 : decode qc_M_open 0 = .ok (.iconst 0, 1) := by decide +kernel
theorem qd_M_open_1 : decode qc_M_open 1 = .ok (.istore_n 3, 1) := by decide +kernel
theorem qd_M_open_2 : decode qc_M_open 2 = .ok (.iload_n 3, 1) := by decide +kernel
theorem qd_M_open_3 : decode qc_M_open 3 = .ok (.iconst 2, 1) := by decide +kernel
theorem qd_M_open_4 : decode qc_M_open 4 = .ok (.if_icmp .ge 88, 3) := by decide +kernel
theorem qd_M_open_7 : decode qc_M_open 7 = .ok (.aload_n 0, 1) := by decide +kernel
theorem qd_M_open_8 : decode qc_M_open 8 = .ok (.getfield 44, 3) := by decide +kernel
theorem qd_M_open_11 : decode qc_M_open 11 = .ok (.iconst 2, 1) := by decide +kernel
theorem qd_M_open_12 : decode qc_M_open 12 = .ok (.iload_n 1, 1) := by decide +kernel
theorem qd_M_open_13 : decode qc_M_open 13 = .ok (.imul, 1) := by decide +kernel
theorem qd_M_open_14 : decode qc_M_open 14 = .ok (.iload_n 3, 1) := by decide +kernel
theorem qd_M_open_15 : decode qc_M_open 15 = .ok (.iadd, 1) := by decide +kernel
theorem qd_M_open_16 : decode qc_M_open 16 = .ok (.aload_n 0, 1) := by decide +kernel
theorem qd_M_open_17 : decode qc_M_open 17 = .ok (.getfield 32, 3) := by decide +kernel
theorem qd_M_open_20 : decode qc_M_open 20 = .ok (.iload_n 3, 1) := by decide +kernel
theorem qd_M_open_21 : decode qc_M_open 21 = .ok (.iaload, 1) := by decide +kernel
theorem qd_M_open_22 : decode qc_M_open 22 = .ok (.iastore, 1) := by decide +kernel
theorem qd_M_open_23 : decode qc_M_open 23 = .ok (.aload_n 0, 1) := by decide +kernel
theorem qd_M_open_24 : decode qc_M_open 24 = .ok (.getfield 47, 3) := by decide +kernel
theorem qd_M_open_27 : decode qc_M_open 27 = .ok (.iconst 2, 1) := by decide +kernel
theorem qd_M_open_28 : decode qc_M_open 28 = .ok (.iload_n 1, 1) := by decide +kernel
theorem qd_M_open_29 : decode qc_M_open 29 = .ok (.imul, 1) := by decide +kernel
theorem qd_M_open_30 : decode qc_M_open 30 = .ok (.iload_n 3, 1) := by decide +kernel
theorem qd_M_open_31 : decode qc_M_open 31 = .ok (.iadd, 1) := by decide +kernel
theorem qd_M_open_32 : decode qc_M_open 32 = .ok (.aload_n 0, 1) := by decide +kernel
theorem qd_M_open_33 : decode qc_M_open 33 = .ok (.getfield 35, 3) := by decide +kernel
theorem qd_M_open_36 : decode qc_M_open 36 = .ok (.iload_n 3, 1) := by decide +kernel
theorem qd_M_open_37 : decode qc_M_open 37 = .ok (.iaload, 1) := by decide +kernel
theorem qd_M_open_38 : decode qc_M_open 38 = .ok (.iastore, 1) := by decide +kernel
theorem qd_M_open_39 : decode qc_M_open 39 = .ok (.bipush 41, 2) := by decide +kernel
theorem qd_M_open_41 : decode qc_M_open 41 = .ok (.iload_n 3, 1) := by decide +kernel
theorem qd_M_open_42 : decode qc_M_open 42 = .ok (.imul, 1) := by decide +kernel
theorem qd_M_open_43 : decode qc_M_open 43 = .ok (.istore 4, 2) := by decide +kernel
theorem qd_M_open_45 : decode qc_M_open 45 = .ok (.iload 4, 2) := by decide +kernel
theorem qd_M_open_47 : decode qc_M_open 47 = .ok (.bipush 41, 2) := by decide +kernel
theorem qd_M_open_49 : decode qc_M_open 49 = .ok (.iload_n 3, 1) := by decide +kernel
theorem qd_M_open_50 : decode qc_M_open 50 = .ok (.imul, 1) := by decide +kernel
theorem qd_M_open_51 : decode qc_M_open 51 = .ok (.aload_n 0, 1) := by decide +kernel
theorem qd_M_open_52 : decode qc_M_open 52 = .ok (.getfield 32, 3) := by decide +kernel
theorem qd_M_open_55 : decode qc_M_open 55 = .ok (.iload_n 3, 1) := by decide +kernel
theorem qd_M_open_56 : decode qc_M_open 56 = .ok (.iaload, 1) := by decide +kernel
theorem qd_M_open_57 : decode qc_M_open 57 = .ok (.iadd, 1) := by decide +kernel
theorem qd_M_open_58 : decode qc_M_open 58 = .ok (.if_icmp .ge 28, 3) := by decide +kernel
theorem qd_M_open_61 : decode qc_M_open 61 = .ok (.aload_n 0, 1) := by decide +kernel
theorem qd_M_open_62 : decode qc_M_open 62 = .ok (.getfield 41, 3) := by decide +kernel
theorem qd_M_open_65 : decode qc_M_open 65 = .ok (.bipush 82, 2) := by decide +kernel
theorem qd_M_open_67 : decode qc_M_open 67 = .ok (.iload_n 1, 1) := by decide +kernel
theorem qd_M_open_68 : decode qc_M_open 68 = .ok (.imul, 1) := by decide +kernel
theorem qd_M_open_69 : decode qc_M_open 69 = .ok (.iload 4, 2) := by decide +kernel
theorem qd_M_open_71 : decode qc_M_open 71 = .ok (.iadd, 1) := by decide +kernel
theorem qd_M_open_72 : decode qc_M_open 72 = .ok (.aload_n 0, 1) := by decide +kernel
theorem qd_M_open_73 : decode qc_M_open 73 = .ok (.getfield 29, 3) := by decide +kernel
theorem qd_M_open_76 : decode qc_M_open 76 = .ok (.iload 4, 2) := by decide +kernel
theorem qd_M_open_78 : decode qc_M_open 78 = .ok (.iaload, 1) := by decide +kernel
theorem qd_M_open_79 : decode qc_M_open 79 = .ok (.iastore, 1) := by decide +kernel
theorem qd_M_open_80 : decode qc_M_open 80 = .ok (.iinc 4 1, 3) := by decide +kernel
theorem qd_M_open_83 : decode qc_M_open 83 = .ok (.goto (-38), 3) := by decide +kernel
theorem qd_M_open_86 : decode qc_M_open 86 = .ok (.iinc 3 1, 3) := by decide +kernel
theorem qd_M_open_89 : decode qc_M_open 89 = .ok (.goto (-87), 3) := by decide +kernel
theorem qd_M_open_92 : decode qc_M_open 92 = .ok (.aload_n 0, 1) := by decide +kernel
theorem qd_M_open_93 : decode qc_M_open 93 = .ok (.getfield 50, 3) := by decide +kernel
theorem qd_M_open_96 : decode qc_M_open 96 = .ok (.iload_n 1, 1) := by decide +kernel
theorem qd_M_open_97 : decode qc_M_open 97 = .ok (.iconst 0, 1) := by decide +kernel
theorem qd_M_open_98 : decode qc_M_open 98 = .ok (.iastore, 1) := by decide +kernel
theorem qd_M_open_99 : decode qc_M_open 99 = .ok (.aload_n 0, 1) := by decide +kernel
theorem qd_M_open_100 : decode qc_M_open 100 = .ok (.getfield 53, 3) := by decide +kernel
theorem qd_M_open_103 : decode qc_M_open 103 = .ok (.iload_n 1, 1) := by decide +kernel
theorem qd_M_open_104 : decode qc_M_open 104 = .ok (.iload_n 2, 1) := by decide +kernel
theorem qd_M_open_105 : decode qc_M_open 105 = .ok (.iastore, 1) := by decide +kernel
theorem qd_M_open_106 : decode qc_M_open 106 = .ok (.iconst 0, 1) := by decide +kernel
theorem qd_M_open_107 : decode qc_M_open 107 = .ok (.istore_n 3, 1) := by decide +kernel
theorem qd_M_open_108 : decode qc_M_open 108 = .ok (.iload_n 3, 1) := by decide +kernel
theorem qd_M_open_109 : decode qc_M_open 109 = .ok (.iconst 5, 1) := by decide +kernel
theorem qd_M_open_110 : decode qc_M_open 110 = .ok (.if_icmp .ge 36, 3) := by decide +kernel
theorem qd_M_open_113 : decode qc_M_open 113 = .ok (.aload_n 0, 1) := by decide +kernel
theorem qd_M_open_114 : decode qc_M_open 114 = .ok (.getfield 56, 3) := by decide +kernel
theorem qd_M_open_117 : decode qc_M_open 117 = .ok (.iconst 5, 1) := by decide +kernel
theorem qd_M_open_118 : decode qc_M_open 118 = .ok (.iload_n 1, 1) := by decide +kernel
theorem qd_M_open_119 : decode qc_M_open 119 = .ok (.imul, 1) := by decide +kernel
theorem qd_M_open_120 : decode qc_M_open 120 = .ok (.iload_n 3, 1) := by decide +kernel
theorem qd_M_open_121 : decode qc_M_open 121 = .ok (.iadd, 1) := by decide +kernel
theorem qd_M_open_122 : decode qc_M_open 122 = .ok (.aload_n 0, 1) := by decide +kernel
theorem qd_M_open_123 : decode qc_M_open 123 = .ok (.getfield 20, 3) := by decide +kernel
theorem qd_M_open_126 : decode qc_M_open 126 = .ok (.iload_n 3, 1) := by decide +kernel
theorem qd_M_open_127 : decode qc_M_open 127 = .ok (.iaload, 1) := by decide +kernel
theorem qd_M_open_128 : decode qc_M_open 128 = .ok (.iastore, 1) := by decide +kernel
theorem qd_M_open_129 : decode qc_M_open 129 = .ok (.aload_n 0, 1) := by decide +kernel
theorem qd_M_open_130 : decode qc_M_open 130 = .ok (.getfield 59, 3) := by decide +kernel
theorem qd_M_open_133 : decode qc_M_open 133 = .ok (.iconst 5, 1) := by decide +kernel
theorem qd_M_open_134 : decode qc_M_open 134 = .ok (.iload_n 1, 1) := by decide +kernel
theorem qd_M_open_135 : decode qc_M_open 135 = .ok (.imul, 1) := by decide +kernel
theorem qd_M_open_136 : decode qc_M_open 136 = .ok (.iload_n 3, 1) := by decide +kernel
theorem qd_M_open_137 : decode qc_M_open 137 = .ok (.iadd, 1) := by decide +kernel
theorem qd_M_open_138 : decode qc_M_open 138 = .ok (.iconst 1, 1) := by decide +kernel
theorem qd_M_open_139 : decode qc_M_open 139 = .ok (.bastore, 1) := by decide +kernel
theorem qd_M_open_140 : decode qc_M_open 140 = .ok (.iinc 3 1, 3) := by decide +kernel
theorem qd_M_open_143 : decode qc_M_open 143 = .ok (.goto (-35), 3) := by decide +kernel
theorem qd_M_open_146 : decode qc_M_open 146 = .ok (.sipush 160, 3) := by decide +kernel
theorem qd_M_open_149 : decode qc_M_open 149 = .ok (.iload_n 1, 1) := by decide +kernel
theorem qd_M_open_150 : decode qc_M_open 150 = .ok (.imul, 1) := by decide +kernel
theorem qd_M_open_151 : decode qc_M_open 151 = .ok (.istore_n 3, 1) := by decide +kernel
theorem qd_M_open_152 : decode qc_M_open 152 = .ok (.iload_n 3, 1) := by decide +kernel
theorem qd_M_open_153 : decode qc_M_open 153 = .ok (.sipush 160, 3) := by decide +kernel
theorem qd_M_open_156 : decode qc_M_open 156 = .ok (.iload_n 1, 1) := by decide +kernel
theorem qd_M_open_157 : decode qc_M_open 157 = .ok (.imul, 1) := by decide +kernel
theorem qd_M_open_158 : decode qc_M_open 158 = .ok (.sipush 160, 3) := by decide +kernel
theorem qd_M_open_161 : decode qc_M_open 161 = .ok (.iadd, 1) := by decide +kernel
theorem qd_M_open_162 : decode qc_M_open 162 = .ok (.if_icmp .ge 16, 3) := by decide +kernel
theorem qd_M_open_165 : decode qc_M_open 165 = .ok (.aload_n 0, 1) := by decide +kernel
theorem qd_M_open_166 : decode qc_M_open 166 = .ok (.getfield 63, 3) := by decide +kernel
theorem qd_M_open_169 : decode qc_M_open 169 = .ok (.iload_n 3, 1) := by decide +kernel
theorem qd_M_open_170 : decode qc_M_open 170 = .ok (.iconst 0, 1) := by decide +kernel
theorem qd_M_open_171 : decode qc_M_open 171 = .ok (.iastore, 1) := by decide +kernel
theorem qd_M_open_172 : decode qc_M_open 172 = .ok (.iinc 3 1, 3) := by decide +kernel
theorem qd_M_open_175 : decode qc_M_open 175 = .ok (.goto (-23), 3) := by decide +kernel
theorem qd_M_open_178 : decode qc_M_open 178 = .ok (.return_, 1) := by decide +kernel
theorem qd_M_count_0 : decode qc_M_count 0 = .ok (.aload_n 0, 1) := by decide +kernel
theorem qd_M_count_1 : decode qc_M_count 1 = .ok (.getfield 50, 3) := by decide +kernel
theorem qd_M_count_4 : decode qc_M_count 4 = .ok (.iload_n 1, 1) := by decide +kernel
theorem qd_M_count_5 : decode qc_M_count 5 = .ok (.dup2, 1) := by decide +kernel
theorem qd_M_count_6 : decode qc_M_count 6 = .ok (.iaload, 1) := by decide +kernel
theorem qd_M_count_7 : decode qc_M_count 7 = .ok (.iconst 1, 1) := by decide +kernel
theorem qd_M_count_8 : decode qc_M_count 8 = .ok (.iadd, 1) := by decide +kernel
theorem qd_M_count_9 : decode qc_M_count 9 = .ok (.iastore, 1) := by decide +kernel
theorem qd_M_count_10 : decode qc_M_count 10 = .ok (.iconst 0, 1) := by decide +kernel
theorem qd_M_count_11 : decode qc_M_count 11 = .ok (.istore_n 3, 1) := by decide +kernel
theorem qd_M_count_12 : decode qc_M_count 12 = .ok (.iload_n 3, 1) := by decide +kernel
theorem qd_M_count_13 : decode qc_M_count 13 = .ok (.iconst 5, 1) := by decide +kernel
theorem qd_M_count_14 : decode qc_M_count 14 = .ok (.if_icmp .ge 56, 3) := by decide +kernel
theorem qd_M_count_17 : decode qc_M_count 17 = .ok (.aload_n 0, 1) := by decide +kernel
theorem qd_M_count_18 : decode qc_M_count 18 = .ok (.getfield 59, 3) := by decide +kernel
theorem qd_M_count_21 : decode qc_M_count 21 = .ok (.iconst 5, 1) := by decide +kernel
theorem qd_M_count_22 : decode qc_M_count 22 = .ok (.iload_n 1, 1) := by decide +kernel
theorem qd_M_count_23 : decode qc_M_count 23 = .ok (.imul, 1) := by decide +kernel
theorem qd_M_count_24 : decode qc_M_count 24 = .ok (.iload_n 3, 1) := by decide +kernel
theorem qd_M_count_25 : decode qc_M_count 25 = .ok (.iadd, 1) := by decide +kernel
theorem qd_M_count_26 : decode qc_M_count 26 = .ok (.aload_n 0, 1) := by decide +kernel
theorem qd_M_count_27 : decode qc_M_count 27 = .ok (.getfield 59, 3) := by decide +kernel
theorem qd_M_count_30 : decode qc_M_count 30 = .ok (.iconst 5, 1) := by decide +kernel
theorem qd_M_count_31 : decode qc_M_count 31 = .ok (.iload_n 1, 1) := by decide +kernel
theorem qd_M_count_32 : decode qc_M_count 32 = .ok (.imul, 1) := by decide +kernel
theorem qd_M_count_33 : decode qc_M_count 33 = .ok (.iload_n 3, 1) := by decide +kernel
theorem qd_M_count_34 : decode qc_M_count 34 = .ok (.iadd, 1) := by decide +kernel
theorem qd_M_count_35 : decode qc_M_count 35 = .ok (.baload, 1) := by decide +kernel
theorem qd_M_count_36 : decode qc_M_count 36 = .ok (.ifCond .eq 26, 3) := by decide +kernel
theorem qd_M_count_39 : decode qc_M_count 39 = .ok (.aload_n 0, 1) := by decide +kernel
theorem qd_M_count_40 : decode qc_M_count 40 = .ok (.getfield 56, 3) := by decide +kernel
theorem qd_M_count_43 : decode qc_M_count 43 = .ok (.iconst 5, 1) := by decide +kernel
theorem qd_M_count_44 : decode qc_M_count 44 = .ok (.iload_n 1, 1) := by decide +kernel
theorem qd_M_count_45 : decode qc_M_count 45 = .ok (.imul, 1) := by decide +kernel
theorem qd_M_count_46 : decode qc_M_count 46 = .ok (.iload_n 3, 1) := by decide +kernel
theorem qd_M_count_47 : decode qc_M_count 47 = .ok (.iadd, 1) := by decide +kernel
theorem qd_M_count_48 : decode qc_M_count 48 = .ok (.iaload, 1) := by decide +kernel
theorem qd_M_count_49 : decode qc_M_count 49 = .ok (.aload_n 0, 1) := by decide +kernel
theorem qd_M_count_50 : decode qc_M_count 50 = .ok (.getfield 20, 3) := by decide +kernel
theorem qd_M_count_53 : decode qc_M_count 53 = .ok (.iload_n 3, 1) := by decide +kernel
theorem qd_M_count_54 : decode qc_M_count 54 = .ok (.iaload, 1) := by decide +kernel
theorem qd_M_count_55 : decode qc_M_count 55 = .ok (.if_icmp .ne 7, 3) := by decide +kernel
theorem qd_M_count_58 : decode qc_M_count 58 = .ok (.iconst 1, 1) := by decide +kernel
theorem qd_M_count_59 : decode qc_M_count 59 = .ok (.goto 4, 3) := by decide +kernel
theorem qd_M_count_62 : decode qc_M_count 62 = .ok (.iconst 0, 1) := by decide +kernel
theorem qd_M_count_63 : decode qc_M_count 63 = .ok (.bastore, 1) := by decide +kernel
theorem qd_M_count_64 : decode qc_M_count 64 = .ok (.iinc 3 1, 3) := by decide +kernel
theorem qd_M_count_67 : decode qc_M_count 67 = .ok (.goto (-55), 3) := by decide +kernel
theorem qd_M_count_70 : decode qc_M_count 70 = .ok (.iconst 0, 1) := by decide +kernel
theorem qd_M_count_71 : decode qc_M_count 71 = .ok (.istore_n 3, 1) := by decide +kernel
theorem qd_M_count_72 : decode qc_M_count 72 = .ok (.iload_n 3, 1) := by decide +kernel
theorem qd_M_count_73 : decode qc_M_count 73 = .ok (.sipush 160, 3) := by decide +kernel
theorem qd_M_count_76 : decode qc_M_count 76 = .ok (.if_icmp .ge 63, 3) := by decide +kernel
theorem qd_M_count_79 : decode qc_M_count 79 = .ok (.aload_n 0, 1) := by decide +kernel
theorem qd_M_count_80 : decode qc_M_count 80 = .ok (.getfield 38, 3) := by decide +kernel
theorem qd_M_count_83 : decode qc_M_count 83 = .ok (.iload_n 3, 1) := by decide +kernel
theorem qd_M_count_84 : decode qc_M_count 84 = .ok (.bipush 32, 2) := by decide +kernel
theorem qd_M_count_86 : decode qc_M_count 86 = .ok (.idiv, 1) := by decide +kernel
theorem qd_M_count_87 : decode qc_M_count 87 = .ok (.iaload, 1) := by decide +kernel
theorem qd_M_count_88 : decode qc_M_count 88 = .ok (.iload_n 3, 1) := by decide +kernel
theorem qd_M_count_89 : decode qc_M_count 89 = .ok (.bipush 32, 2) := by decide +kernel
theorem qd_M_count_91 : decode qc_M_count 91 = .ok (.irem, 1) := by decide +kernel
theorem qd_M_count_92 : decode qc_M_count 92 = .ok (.ishr, 1) := by decide +kernel
theorem qd_M_count_93 : decode qc_M_count 93 = .ok (.iconst 1, 1) := by decide +kernel
theorem qd_M_count_94 : decode qc_M_count 94 = .ok (.iand, 1) := by decide +kernel
theorem qd_M_count_95 : decode qc_M_count 95 = .ok (.ifCond .ne 6, 3) := by decide +kernel
theorem qd_M_count_98 : decode qc_M_count 98 = .ok (.goto 35, 3) := by decide +kernel
theorem qd_M_count_101 : decode qc_M_count 101 = .ok (.aload_n 0, 1) := by decide +kernel
theorem qd_M_count_102 : decode qc_M_count 102 = .ok (.getfield 63, 3) := by decide +kernel
theorem qd_M_count_105 : decode qc_M_count 105 = .ok (.sipush 160, 3) := by decide +kernel
theorem qd_M_count_108 : decode qc_M_count 108 = .ok (.iload_n 1, 1) := by decide +kernel
theorem qd_M_count_109 : decode qc_M_count 109 = .ok (.imul, 1) := by decide +kernel
theorem qd_M_count_110 : decode qc_M_count 110 = .ok (.iload_n 3, 1) := by decide +kernel
theorem qd_M_count_111 : decode qc_M_count 111 = .ok (.iadd, 1) := by decide +kernel
theorem qd_M_count_112 : decode qc_M_count 112 = .ok (.dup2, 1) := by decide +kernel
theorem qd_M_count_113 : decode qc_M_count 113 = .ok (.iaload, 1) := by decide +kernel
theorem qd_M_count_114 : decode qc_M_count 114 = .ok (.iconst 1, 1) := by decide +kernel
theorem qd_M_count_115 : decode qc_M_count 115 = .ok (.iadd, 1) := by decide +kernel
theorem qd_M_count_116 : decode qc_M_count 116 = .ok (.iastore, 1) := by decide +kernel
theorem qd_M_count_117 : decode qc_M_count 117 = .ok (.aload_n 0, 1) := by decide +kernel
theorem qd_M_count_118 : decode qc_M_count 118 = .ok (.getfield 66, 3) := by decide +kernel
theorem qd_M_count_121 : decode qc_M_count 121 = .ok (.iload_n 3, 1) := by decide +kernel
theorem qd_M_count_122 : decode qc_M_count 122 = .ok (.iaload, 1) := by decide +kernel
theorem qd_M_count_123 : decode qc_M_count 123 = .ok (.ifCond .ge 10, 3) := by decide +kernel
theorem qd_M_count_126 : decode qc_M_count 126 = .ok (.aload_n 0, 1) := by decide +kernel
theorem qd_M_count_127 : decode qc_M_count 127 = .ok (.getfield 66, 3) := by decide +kernel
theorem qd_M_count_130 : decode qc_M_count 130 = .ok (.iload_n 3, 1) := by decide +kernel
theorem qd_M_count_131 : decode qc_M_count 131 = .ok (.iload_n 2, 1) := by decide +kernel
theorem qd_M_count_132 : decode qc_M_count 132 = .ok (.iastore, 1) := by decide +kernel
theorem qd_M_count_133 : decode qc_M_count 133 = .ok (.iinc 3 1, 3) := by decide +kernel
theorem qd_M_count_136 : decode qc_M_count 136 = .ok (.goto (-64), 3) := by decide +kernel
theorem qd_M_count_139 : decode qc_M_count 139 = .ok (.return_, 1) := by decide +kernel
theorem qd_M_explore_0 : decode qc_M_explore 0 = .ok (.iload_n 1, 1) := by decide +kernel
theorem qd_M_explore_1 : decode qc_M_explore 1 = .ok (.iconst 1, 1) := by decide +kernel
theorem qd_M_explore_2 : decode qc_M_explore 2 = .ok (.if_icmp .eq 10, 3) := by decide +kernel
theorem qd_M_explore_5 : decode qc_M_explore 5 = .ok (.iload_n 1, 1) := by decide +kernel
theorem qd_M_explore_6 : decode qc_M_explore 6 = .ok (.iconst 2, 1) := by decide +kernel
theorem qd_M_explore_7 : decode qc_M_explore 7 = .ok (.if_icmp .eq 5, 3) := by decide +kernel
theorem qd_M_explore_10 : decode qc_M_explore 10 = .ok (.iconst (-1), 1) := by decide +kernel
theorem qd_M_explore_11 : decode qc_M_explore 11 = .ok (.ireturn, 1) := by decide +kernel
theorem qd_M_explore_12 : decode qc_M_explore 12 = .ok (.aload_n 0, 1) := by decide +kernel
theorem qd_M_explore_13 : decode qc_M_explore 13 = .ok (.iconst 0, 1) := by decide +kernel
theorem qd_M_explore_14 : decode qc_M_explore 14 = .ok (.putfield 145, 3) := by decide +kernel
theorem qd_M_explore_17 : decode qc_M_explore 17 = .ok (.aload_n 0, 1) := by decide +kernel
theorem qd_M_explore_18 : decode qc_M_explore 18 = .ok (.iload_n 1, 1) := by decide +kernel
theorem qd_M_explore_19 : decode qc_M_explore 19 = .ok (.putfield 148, 3) := by decide +kernel
theorem qd_M_explore_22 : decode qc_M_explore 22 = .ok (.iconst 0, 1) := by decide +kernel
theorem qd_M_explore_23 : decode qc_M_explore 23 = .ok (.istore_n 2, 1) := by decide +kernel
theorem qd_M_explore_24 : decode qc_M_explore 24 = .ok (.iload_n 2, 1) := by decide +kernel
theorem qd_M_explore_25 : decode qc_M_explore 25 = .ok (.sipush 160, 3) := by decide +kernel
theorem qd_M_explore_28 : decode qc_M_explore 28 = .ok (.if_icmp .ge 16, 3) := by decide +kernel
theorem qd_M_explore_31 : decode qc_M_explore 31 = .ok (.aload_n 0, 1) := by decide +kernel
theorem qd_M_explore_32 : decode qc_M_explore 32 = .ok (.getfield 66, 3) := by decide +kernel
theorem qd_M_explore_35 : decode qc_M_explore 35 = .ok (.iload_n 2, 1) := by decide +kernel
theorem qd_M_explore_36 : decode qc_M_explore 36 = .ok (.iconst (-1), 1) := by decide +kernel
theorem qd_M_explore_37 : decode qc_M_explore 37 = .ok (.iastore, 1) := by decide +kernel
theorem qd_M_explore_38 : decode qc_M_explore 38 = .ok (.iinc 2 1, 3) := by decide +kernel
theorem qd_M_explore_41 : decode qc_M_explore 41 = .ok (.goto (-17), 3) := by decide +kernel
theorem qd_M_explore_44 : decode qc_M_explore 44 = .ok (.iload_n 1, 1) := by decide +kernel
theorem qd_M_explore_45 : decode qc_M_explore 45 = .ok (.iconst 1, 1) := by decide +kernel
theorem qd_M_explore_46 : decode qc_M_explore 46 = .ok (.if_icmp .ne 8, 3) := by decide +kernel
theorem qd_M_explore_49 : decode qc_M_explore 49 = .ok (.bipush 64, 2) := by decide +kernel
theorem qd_M_explore_51 : decode qc_M_explore 51 = .ok (.goto 6, 3) := by decide +kernel
theorem qd_M_explore_54 : decode qc_M_explore 54 = .ok (.sipush 4096, 3) := by decide +kernel
theorem qd_M_explore_57 : decode qc_M_explore 57 = .ok (.istore_n 2, 1) := by decide +kernel
theorem qd_M_explore_58 : decode qc_M_explore 58 = .ok (.iconst 0, 1) := by decide +kernel
theorem qd_M_explore_59 : decode qc_M_explore 59 = .ok (.istore_n 3, 1) := by decide +kernel
theorem qd_M_explore_60 : decode qc_M_explore 60 = .ok (.iload_n 3, 1) := by decide +kernel
theorem qd_M_explore_61 : decode qc_M_explore 61 = .ok (.iload_n 2, 1) := by decide +kernel
theorem qd_M_explore_62 : decode qc_M_explore 62 = .ok (.if_icmp .ge 95, 3) := by decide +kernel
theorem qd_M_explore_65 : decode qc_M_explore 65 = .ok (.aload_n 0, 1) := by decide +kernel
theorem qd_M_explore_66 : decode qc_M_explore 66 = .ok (.iload_n 1, 1) := by decide +kernel
theorem qd_M_explore_67 : decode qc_M_explore 67 = .ok (.iload_n 3, 1) := by decide +kernel
theorem qd_M_explore_68 : decode qc_M_explore 68 = .ok (.invokevirtual 151, 3) := by decide +kernel
theorem qd_M_explore_71 : decode qc_M_explore 71 = .ok (.iconst 0, 1) := by decide +kernel
theorem qd_M_explore_72 : decode qc_M_explore 72 = .ok (.istore 4, 2) := by decide +kernel
theorem qd_M_explore_74 : decode qc_M_explore 74 = .ok (.iload 4, 2) := by decide +kernel
theorem qd_M_explore_76 : decode qc_M_explore 76 = .ok (.aload_n 0, 1) := by decide +kernel
theorem qd_M_explore_77 : decode qc_M_explore 77 = .ok (.getfield 145, 3) := by decide +kernel
theorem qd_M_explore_80 : decode qc_M_explore 80 = .ok (.if_icmp .ge 18, 3) := by decide +kernel
theorem qd_M_explore_83 : decode qc_M_explore 83 = .ok (.aload_n 0, 1) := by decide +kernel
theorem qd_M_explore_84 : decode qc_M_explore 84 = .ok (.iload 4, 2) := by decide +kernel
theorem qd_M_explore_86 : decode qc_M_explore 86 = .ok (.invokevirtual 154, 3) := by decide +kernel
theorem qd_M_explore_89 : decode qc_M_explore 89 = .ok (.ifCond .ne 9, 3) := by decide +kernel
theorem qd_M_explore_92 : decode qc_M_explore 92 = .ok (.iinc 4 1, 3) := by decide +kernel
theorem qd_M_explore_95 : decode qc_M_explore 95 = .ok (.goto (-21), 3) := by decide +kernel
theorem qd_M_explore_98 : decode qc_M_explore 98 = .ok (.iload 4, 2) := by decide +kernel
theorem qd_M_explore_100 : decode qc_M_explore 100 = .ok (.bipush 40, 2) := by decide +kernel
theorem qd_M_explore_102 : decode qc_M_explore 102 = .ok (.if_icmp .ne 16, 3) := by decide +kernel
theorem qd_M_explore_105 : decode qc_M_explore 105 = .ok (.aload_n 0, 1) := by decide +kernel
theorem qd_M_explore_106 : decode qc_M_explore 106 = .ok (.iconst 0, 1) := by decide +kernel
theorem qd_M_explore_107 : decode qc_M_explore 107 = .ok (.putfield 145, 3) := by decide +kernel
theorem qd_M_explore_110 : decode qc_M_explore 110 = .ok (.aload_n 0, 1) := by decide +kernel
theorem qd_M_explore_111 : decode qc_M_explore 111 = .ok (.iconst 0, 1) := by decide +kernel
theorem qd_M_explore_112 : decode qc_M_explore 112 = .ok (.putfield 148, 3) := by decide +kernel
theorem qd_M_explore_115 : decode qc_M_explore 115 = .ok (.bipush (-2), 2) := by decide +kernel
theorem qd_M_explore_117 : decode qc_M_explore 117 = .ok (.ireturn, 1) := by decide +kernel
theorem qd_M_explore_118 : decode qc_M_explore 118 = .ok (.iload 4, 2) := by decide +kernel
theorem qd_M_explore_120 : decode qc_M_explore 120 = .ok (.aload_n 0, 1) := by decide +kernel
theorem qd_M_explore_121 : decode qc_M_explore 121 = .ok (.getfield 145, 3) := by decide +kernel
theorem qd_M_explore_124 : decode qc_M_explore 124 = .ok (.if_icmp .ne 20, 3) := by decide +kernel
theorem qd_M_explore_127 : decode qc_M_explore 127 = .ok (.aload_n 0, 1) := by decide +kernel
theorem qd_M_explore_128 : decode qc_M_explore 128 = .ok (.iload 4, 2) := by decide +kernel
theorem qd_M_explore_130 : decode qc_M_explore 130 = .ok (.iload_n 3, 1) := by decide +kernel
theorem qd_M_explore_131 : decode qc_M_explore 131 = .ok (.invokevirtual 157, 3) := by decide +kernel
theorem qd_M_explore_134 : decode qc_M_explore 134 = .ok (.aload_n 0, 1) := by decide +kernel
theorem qd_M_explore_135 : decode qc_M_explore 135 = .ok (.dup, 1) := by decide +kernel
theorem qd_M_explore_136 : decode qc_M_explore 136 = .ok (.getfield 145, 3) := by decide +kernel
theorem qd_M_explore_139 : decode qc_M_explore 139 = .ok (.iconst 1, 1) := by decide +kernel
theorem qd_M_explore_140 : decode qc_M_explore 140 = .ok (.iadd, 1) := by decide +kernel
theorem qd_M_explore_141 : decode qc_M_explore 141 = .ok (.putfield 145, 3) := by decide +kernel
theorem qd_M_explore_144 : decode qc_M_explore 144 = .ok (.aload_n 0, 1) := by decide +kernel
theorem qd_M_explore_145 : decode qc_M_explore 145 = .ok (.iload 4, 2) := by decide +kernel
theorem qd_M_explore_147 : decode qc_M_explore 147 = .ok (.iload_n 3, 1) := by decide +kernel
theorem qd_M_explore_148 : decode qc_M_explore 148 = .ok (.invokevirtual 160, 3) := by decide +kernel
theorem qd_M_explore_151 : decode qc_M_explore 151 = .ok (.iinc 3 1, 3) := by decide +kernel
theorem qd_M_explore_154 : decode qc_M_explore 154 = .ok (.goto (-94), 3) := by decide +kernel
theorem qd_M_explore_157 : decode qc_M_explore 157 = .ok (.aload_n 0, 1) := by decide +kernel
theorem qd_M_explore_158 : decode qc_M_explore 158 = .ok (.getfield 145, 3) := by decide +kernel
theorem qd_M_explore_161 : decode qc_M_explore 161 = .ok (.ireturn, 1) := by decide +kernel
theorem qd_M_isPath_0 : decode qc_M_isPath 0 = .ok (.iload_n 1, 1) := by decide +kernel
theorem qd_M_isPath_1 : decode qc_M_isPath 1 = .ok (.ifCond .lt 15, 3) := by decide +kernel
theorem qd_M_isPath_4 : decode qc_M_isPath 4 = .ok (.iload_n 1, 1) := by decide +kernel
theorem qd_M_isPath_5 : decode qc_M_isPath 5 = .ok (.aload_n 0, 1) := by decide +kernel
theorem qd_M_isPath_6 : decode qc_M_isPath 6 = .ok (.getfield 145, 3) := by decide +kernel
theorem qd_M_isPath_9 : decode qc_M_isPath 9 = .ok (.if_icmp .ge 7, 3) := by decide +kernel
theorem qd_M_isPath_12 : decode qc_M_isPath 12 = .ok (.iconst 1, 1) := by decide +kernel
theorem qd_M_isPath_13 : decode qc_M_isPath 13 = .ok (.goto 4, 3) := by decide +kernel
theorem qd_M_isPath_16 : decode qc_M_isPath 16 = .ok (.iconst 0, 1) := by decide +kernel
theorem qd_M_isPath_17 : decode qc_M_isPath 17 = .ok (.ireturn, 1) := by decide +kernel
theorem qd_M_inputs_0 : decode qc_M_inputs 0 = .ok (.aload_n 0, 1) := by decide +kernel
theorem qd_M_inputs_1 : decode qc_M_inputs 1 = .ok (.iload_n 1, 1) := by decide +kernel
theorem qd_M_inputs_2 : decode qc_M_inputs 2 = .ok (.invokevirtual 163, 3) := by decide +kernel
theorem qd_M_inputs_5 : decode qc_M_inputs 5 = .ok (.ifCond .eq 12, 3) := by decide +kernel
theorem qd_M_inputs_8 : decode qc_M_inputs 8 = .ok (.aload_n 0, 1) := by decide +kernel
theorem qd_M_inputs_9 : decode qc_M_inputs 9 = .ok (.getfield 50, 3) := by decide +kernel
theorem qd_M_inputs_12 : decode qc_M_inputs 12 = .ok (.iload_n 1, 1) := by decide +kernel
theorem qd_M_inputs_13 : decode qc_M_inputs 13 = .ok (.iaload, 1) := by decide +kernel
theorem qd_M_inputs_14 : decode qc_M_inputs 14 = .ok (.goto 4, 3) := by decide +kernel
theorem qd_M_inputs_17 : decode qc_M_inputs 17 = .ok (.iconst (-1), 1) := by decide +kernel
theorem qd_M_inputs_18 : decode qc_M_inputs 18 = .ok (.ireturn, 1) := by decide +kernel
theorem qd_M_witness_0 : decode qc_M_witness 0 = .ok (.aload_n 0, 1) := by decide +kernel
theorem qd_M_witness_1 : decode qc_M_witness 1 = .ok (.iload_n 1, 1) := by decide +kernel
theorem qd_M_witness_2 : decode qc_M_witness 2 = .ok (.invokevirtual 163, 3) := by decide +kernel
theorem qd_M_witness_5 : decode qc_M_witness 5 = .ok (.ifCond .eq 12, 3) := by decide +kernel
theorem qd_M_witness_8 : decode qc_M_witness 8 = .ok (.aload_n 0, 1) := by decide +kernel
theorem qd_M_witness_9 : decode qc_M_witness 9 = .ok (.getfield 53, 3) := by decide +kernel
theorem qd_M_witness_12 : decode qc_M_witness 12 = .ok (.iload_n 1, 1) := by decide +kernel
theorem qd_M_witness_13 : decode qc_M_witness 13 = .ok (.iaload, 1) := by decide +kernel
theorem qd_M_witness_14 : decode qc_M_witness 14 = .ok (.goto 4, 3) := by decide +kernel
theorem qd_M_witness_17 : decode qc_M_witness 17 = .ok (.iconst (-1), 1) := by decide +kernel
theorem qd_M_witness_18 : decode qc_M_witness 18 = .ok (.ireturn, 1) := by decide +kernel
theorem qd_M_end_0 : decode qc_M_end 0 = .ok (.aload_n 0, 1) := by decide +kernel
theorem qd_M_end_1 : decode qc_M_end 1 = .ok (.iload_n 1, 1) := by decide +kernel
theorem qd_M_end_2 : decode qc_M_end 2 = .ok (.invokevirtual 163, 3) := by decide +kernel
theorem qd_M_end_5 : decode qc_M_end 5 = .ok (.ifCond .eq 28, 3) := by decide +kernel
theorem qd_M_end_8 : decode qc_M_end 8 = .ok (.iload_n 2, 1) := by decide +kernel
theorem qd_M_end_9 : decode qc_M_end 9 = .ok (.ifCond .lt 24, 3) := by decide +kernel
theorem qd_M_end_12 : decode qc_M_end 12 = .ok (.iload_n 2, 1) := by decide +kernel
theorem qd_M_end_13 : decode qc_M_end 13 = .ok (.aload_n 0, 1) := by decide +kernel
theorem qd_M_end_14 : decode qc_M_end 14 = .ok (.getfield 148, 3) := by decide +kernel
theorem qd_M_end_17 : decode qc_M_end 17 = .ok (.if_icmp .ge 16, 3) := by decide +kernel
theorem qd_M_end_20 : decode qc_M_end 20 = .ok (.aload_n 0, 1) := by decide +kernel
theorem qd_M_end_21 : decode qc_M_end 21 = .ok (.getfield 47, 3) := by decide +kernel
theorem qd_M_end_24 : decode qc_M_end 24 = .ok (.iconst 2, 1) := by decide +kernel
theorem qd_M_end_25 : decode qc_M_end 25 = .ok (.iload_n 1, 1) := by decide +kernel
theorem qd_M_end_26 : decode qc_M_end 26 = .ok (.imul, 1) := by decide +kernel
theorem qd_M_end_27 : decode qc_M_end 27 = .ok (.iload_n 2, 1) := by decide +kernel
theorem qd_M_end_28 : decode qc_M_end 28 = .ok (.iadd, 1) := by decide +kernel
theorem qd_M_end_29 : decode qc_M_end 29 = .ok (.iaload, 1) := by decide +kernel
theorem qd_M_end_30 : decode qc_M_end 30 = .ok (.goto 4, 3) := by decide +kernel
theorem qd_M_end_33 : decode qc_M_end 33 = .ok (.iconst (-1), 1) := by decide +kernel
theorem qd_M_end_34 : decode qc_M_end 34 = .ok (.ireturn, 1) := by decide +kernel
theorem qd_M_step_0 : decode qc_M_step 0 = .ok (.aload_n 0, 1) := by decide +kernel
theorem qd_M_step_1 : decode qc_M_step 1 = .ok (.iload_n 1, 1) := by decide +kernel
theorem qd_M_step_2 : decode qc_M_step 2 = .ok (.invokevirtual 163, 3) := by decide +kernel
theorem qd_M_step_5 : decode qc_M_step 5 = .ok (.ifCond .eq 52, 3) := by decide +kernel
theorem qd_M_step_8 : decode qc_M_step 8 = .ok (.iload_n 2, 1) := by decide +kernel
theorem qd_M_step_9 : decode qc_M_step 9 = .ok (.ifCond .lt 48, 3) := by decide +kernel
theorem qd_M_step_12 : decode qc_M_step 12 = .ok (.iload_n 2, 1) := by decide +kernel
theorem qd_M_step_13 : decode qc_M_step 13 = .ok (.aload_n 0, 1) := by decide +kernel
theorem qd_M_step_14 : decode qc_M_step 14 = .ok (.getfield 148, 3) := by decide +kernel
theorem qd_M_step_17 : decode qc_M_step 17 = .ok (.if_icmp .ge 40, 3) := by decide +kernel
theorem qd_M_step_20 : decode qc_M_step 20 = .ok (.iload_n 3, 1) := by decide +kernel
theorem qd_M_step_21 : decode qc_M_step 21 = .ok (.ifCond .lt 36, 3) := by decide +kernel
theorem qd_M_step_24 : decode qc_M_step 24 = .ok (.iload_n 3, 1) := by decide +kernel
theorem qd_M_step_25 : decode qc_M_step 25 = .ok (.aload_n 0, 1) := by decide +kernel
theorem qd_M_step_26 : decode qc_M_step 26 = .ok (.getfield 44, 3) := by decide +kernel
theorem qd_M_step_29 : decode qc_M_step 29 = .ok (.iconst 2, 1) := by decide +kernel
theorem qd_M_step_30 : decode qc_M_step 30 = .ok (.iload_n 1, 1) := by decide +kernel
theorem qd_M_step_31 : decode qc_M_step 31 = .ok (.imul, 1) := by decide +kernel
theorem qd_M_step_32 : decode qc_M_step 32 = .ok (.iload_n 2, 1) := by decide +kernel
theorem qd_M_step_33 : decode qc_M_step 33 = .ok (.iadd, 1) := by decide +kernel
theorem qd_M_step_34 : decode qc_M_step 34 = .ok (.iaload, 1) := by decide +kernel
theorem qd_M_step_35 : decode qc_M_step 35 = .ok (.if_icmp .ge 22, 3) := by decide +kernel
theorem qd_M_step_38 : decode qc_M_step 38 = .ok (.aload_n 0, 1) := by decide +kernel
theorem qd_M_step_39 : decode qc_M_step 39 = .ok (.getfield 41, 3) := by decide +kernel
theorem qd_M_step_42 : decode qc_M_step 42 = .ok (.bipush 82, 2) := by decide +kernel
theorem qd_M_step_44 : decode qc_M_step 44 = .ok (.iload_n 1, 1) := by decide +kernel
theorem qd_M_step_45 : decode qc_M_step 45 = .ok (.imul, 1) := by decide +kernel
theorem qd_M_step_46 : decode qc_M_step 46 = .ok (.bipush 41, 2) := by decide +kernel
theorem qd_M_step_48 : decode qc_M_step 48 = .ok (.iload_n 2, 1) := by decide +kernel
theorem qd_M_step_49 : decode qc_M_step 49 = .ok (.imul, 1) := by decide +kernel
theorem qd_M_step_50 : decode qc_M_step 50 = .ok (.iadd, 1) := by decide +kernel
theorem qd_M_step_51 : decode qc_M_step 51 = .ok (.iload_n 3, 1) := by decide +kernel
theorem qd_M_step_52 : decode qc_M_step 52 = .ok (.iadd, 1) := by decide +kernel
theorem qd_M_step_53 : decode qc_M_step 53 = .ok (.iaload, 1) := by decide +kernel
theorem qd_M_step_54 : decode qc_M_step 54 = .ok (.goto 4, 3) := by decide +kernel
theorem qd_M_step_57 : decode qc_M_step 57 = .ok (.iconst (-1), 1) := by decide +kernel
theorem qd_M_step_58 : decode qc_M_step 58 = .ok (.ireturn, 1) := by decide +kernel
theorem qd_M_left_0 : decode qc_M_left 0 = .ok (.aload_n 0, 1) := by decide +kernel
theorem qd_M_left_1 : decode qc_M_left 1 = .ok (.iload_n 1, 1) := by decide +kernel
theorem qd_M_left_2 : decode qc_M_left 2 = .ok (.invokevirtual 163, 3) := by decide +kernel
theorem qd_M_left_5 : decode qc_M_left 5 = .ok (.ifCond .eq 12, 3) := by decide +kernel
theorem qd_M_left_8 : decode qc_M_left 8 = .ok (.iload_n 2, 1) := by decide +kernel
theorem qd_M_left_9 : decode qc_M_left 9 = .ok (.ifCond .lt 8, 3) := by decide +kernel
theorem qd_M_left_12 : decode qc_M_left 12 = .ok (.iload_n 2, 1) := by decide +kernel
theorem qd_M_left_13 : decode qc_M_left 13 = .ok (.iconst 4, 1) := by decide +kernel
theorem qd_M_left_14 : decode qc_M_left 14 = .ok (.if_icmp .le 5, 3) := by decide +kernel
theorem qd_M_left_17 : decode qc_M_left 17 = .ok (.iconst (-1), 1) := by decide +kernel
theorem qd_M_left_18 : decode qc_M_left 18 = .ok (.ireturn, 1) := by decide +kernel
theorem qd_M_left_19 : decode qc_M_left 19 = .ok (.aload_n 0, 1) := by decide +kernel
theorem qd_M_left_20 : decode qc_M_left 20 = .ok (.getfield 56, 3) := by decide +kernel
theorem qd_M_left_23 : decode qc_M_left 23 = .ok (.iconst 5, 1) := by decide +kernel
theorem qd_M_left_24 : decode qc_M_left 24 = .ok (.iload_n 1, 1) := by decide +kernel
theorem qd_M_left_25 : decode qc_M_left 25 = .ok (.imul, 1) := by decide +kernel
theorem qd_M_left_26 : decode qc_M_left 26 = .ok (.iload_n 2, 1) := by decide +kernel
theorem qd_M_left_27 : decode qc_M_left 27 = .ok (.iadd, 1) := by decide +kernel
theorem qd_M_left_28 : decode qc_M_left 28 = .ok (.iaload, 1) := by decide +kernel
theorem qd_M_left_29 : decode qc_M_left 29 = .ok (.aload_n 0, 1) := by decide +kernel
theorem qd_M_left_30 : decode qc_M_left 30 = .ok (.getfield 59, 3) := by decide +kernel
theorem qd_M_left_33 : decode qc_M_left 33 = .ok (.iconst 5, 1) := by decide +kernel
theorem qd_M_left_34 : decode qc_M_left 34 = .ok (.iload_n 1, 1) := by decide +kernel
theorem qd_M_left_35 : decode qc_M_left 35 = .ok (.imul, 1) := by decide +kernel
theorem qd_M_left_36 : decode qc_M_left 36 = .ok (.iload_n 2, 1) := by decide +kernel
theorem qd_M_left_37 : decode qc_M_left 37 = .ok (.iadd, 1) := by decide +kernel
theorem qd_M_left_38 : decode qc_M_left 38 = .ok (.baload, 1) := by decide +kernel
theorem qd_M_left_39 : decode qc_M_left 39 = .ok (.ifCond .eq 8, 3) := by decide +kernel
theorem qd_M_left_42 : decode qc_M_left 42 = .ok (.bipush 16, 2) := by decide +kernel
theorem qd_M_left_44 : decode qc_M_left 44 = .ok (.goto 4, 3) := by decide +kernel
theorem qd_M_left_47 : decode qc_M_left 47 = .ok (.iconst 0, 1) := by decide +kernel
theorem qd_M_left_48 : decode qc_M_left 48 = .ok (.iadd, 1) := by decide +kernel
theorem qd_M_left_49 : decode qc_M_left 49 = .ok (.ireturn, 1) := by decide +kernel
theorem qd_M_finding_0 : decode qc_M_finding 0 = .ok (.aload_n 0, 1) := by decide +kernel
theorem qd_M_finding_1 : decode qc_M_finding 1 = .ok (.getfield 148, 3) := by decide +kernel
theorem qd_M_finding_4 : decode qc_M_finding 4 = .ok (.ifCond .le 36, 3) := by decide +kernel
theorem qd_M_finding_7 : decode qc_M_finding 7 = .ok (.iload_n 1, 1) := by decide +kernel
theorem qd_M_finding_8 : decode qc_M_finding 8 = .ok (.ifCond .lt 32, 3) := by decide +kernel
theorem qd_M_finding_11 : decode qc_M_finding 11 = .ok (.iload_n 1, 1) := by decide +kernel
theorem qd_M_finding_12 : decode qc_M_finding 12 = .ok (.iconst 4, 1) := by decide +kernel
theorem qd_M_finding_13 : decode qc_M_finding 13 = .ok (.if_icmp .gt 27, 3) := by decide +kernel
theorem qd_M_finding_16 : decode qc_M_finding 16 = .ok (.iload_n 2, 1) := by decide +kernel
theorem qd_M_finding_17 : decode qc_M_finding 17 = .ok (.ifCond .lt 23, 3) := by decide +kernel
theorem qd_M_finding_20 : decode qc_M_finding 20 = .ok (.iload_n 2, 1) := by decide +kernel
theorem qd_M_finding_21 : decode qc_M_finding 21 = .ok (.bipush 31, 2) := by decide +kernel
theorem qd_M_finding_23 : decode qc_M_finding 23 = .ok (.if_icmp .gt 17, 3) := by decide +kernel
theorem qd_M_finding_26 : decode qc_M_finding 26 = .ok (.aload_n 0, 1) := by decide +kernel
theorem qd_M_finding_27 : decode qc_M_finding 27 = .ok (.getfield 66, 3) := by decide +kernel
theorem qd_M_finding_30 : decode qc_M_finding 30 = .ok (.bipush 32, 2) := by decide +kernel
theorem qd_M_finding_32 : decode qc_M_finding 32 = .ok (.iload_n 1, 1) := by decide +kernel
theorem qd_M_finding_33 : decode qc_M_finding 33 = .ok (.imul, 1) := by decide +kernel
theorem qd_M_finding_34 : decode qc_M_finding 34 = .ok (.iload_n 2, 1) := by decide +kernel
theorem qd_M_finding_35 : decode qc_M_finding 35 = .ok (.iadd, 1) := by decide +kernel
theorem qd_M_finding_36 : decode qc_M_finding 36 = .ok (.iaload, 1) := by decide +kernel
theorem qd_M_finding_37 : decode qc_M_finding 37 = .ok (.goto 4, 3) := by decide +kernel
theorem qd_M_finding_40 : decode qc_M_finding 40 = .ok (.iconst (-1), 1) := by decide +kernel
theorem qd_M_finding_41 : decode qc_M_finding 41 = .ok (.ireturn, 1) := by decide +kernel
theorem qd_M_risk_0 : decode qc_M_risk 0 = .ok (.aload_n 0, 1) := by decide +kernel
theorem qd_M_risk_1 : decode qc_M_risk 1 = .ok (.iload_n 1, 1) := by decide +kernel
theorem qd_M_risk_2 : decode qc_M_risk 2 = .ok (.invokevirtual 163, 3) := by decide +kernel
theorem qd_M_risk_5 : decode qc_M_risk 5 = .ok (.ifCond .eq 42, 3) := by decide +kernel
theorem qd_M_risk_8 : decode qc_M_risk 8 = .ok (.iload_n 2, 1) := by decide +kernel
theorem qd_M_risk_9 : decode qc_M_risk 9 = .ok (.ifCond .lt 38, 3) := by decide +kernel
theorem qd_M_risk_12 : decode qc_M_risk 12 = .ok (.iload_n 2, 1) := by decide +kernel
theorem qd_M_risk_13 : decode qc_M_risk 13 = .ok (.iconst 4, 1) := by decide +kernel
theorem qd_M_risk_14 : decode qc_M_risk 14 = .ok (.if_icmp .gt 33, 3) := by decide +kernel
theorem qd_M_risk_17 : decode qc_M_risk 17 = .ok (.iload_n 3, 1) := by decide +kernel
theorem qd_M_risk_18 : decode qc_M_risk 18 = .ok (.ifCond .lt 29, 3) := by decide +kernel
theorem qd_M_risk_21 : decode qc_M_risk 21 = .ok (.iload_n 3, 1) := by decide +kernel
theorem qd_M_risk_22 : decode qc_M_risk 22 = .ok (.bipush 31, 2) := by decide +kernel
theorem qd_M_risk_24 : decode qc_M_risk 24 = .ok (.if_icmp .gt 23, 3) := by decide +kernel
theorem qd_M_risk_27 : decode qc_M_risk 27 = .ok (.aload_n 0, 1) := by decide +kernel
theorem qd_M_risk_28 : decode qc_M_risk 28 = .ok (.getfield 63, 3) := by decide +kernel
theorem qd_M_risk_31 : decode qc_M_risk 31 = .ok (.sipush 160, 3) := by decide +kernel
theorem qd_M_risk_34 : decode qc_M_risk 34 = .ok (.iload_n 1, 1) := by decide +kernel
theorem qd_M_risk_35 : decode qc_M_risk 35 = .ok (.imul, 1) := by decide +kernel
theorem qd_M_risk_36 : decode qc_M_risk 36 = .ok (.bipush 32, 2) := by decide +kernel
theorem qd_M_risk_38 : decode qc_M_risk 38 = .ok (.iload_n 2, 1) := by decide +kernel
theorem qd_M_risk_39 : decode qc_M_risk 39 = .ok (.imul, 1) := by decide +kernel
theorem qd_M_risk_40 : decode qc_M_risk 40 = .ok (.iadd, 1) := by decide +kernel
theorem qd_M_risk_41 : decode qc_M_risk 41 = .ok (.iload_n 3, 1) := by decide +kernel
theorem qd_M_risk_42 : decode qc_M_risk 42 = .ok (.iadd, 1) := by decide +kernel
theorem qd_M_risk_43 : decode qc_M_risk 43 = .ok (.iaload, 1) := by decide +kernel
theorem qd_M_risk_44 : decode qc_M_risk 44 = .ok (.goto 4, 3) := by decide +kernel
theorem qd_M_risk_47 : decode qc_M_risk 47 = .ok (.iconst (-1), 1) := by decide +kernel
theorem qd_M_risk_48 : decode qc_M_risk 48 = .ok (.ireturn, 1) := by decide +kernel
theorem qd_M_replay_0 : decode qc_M_replay 0 = .ok (.iload_n 1, 1) := by decide +kernel
theorem qd_M_replay_1 : decode qc_M_replay 1 = .ok (.iconst 1, 1) := by decide +kernel
theorem qd_M_replay_2 : decode qc_M_replay 2 = .ok (.if_icmp .eq 8, 3) := by decide +kernel
theorem qd_M_replay_5 : decode qc_M_replay 5 = .ok (.iload_n 1, 1) := by decide +kernel
theorem qd_M_replay_6 : decode qc_M_replay 6 = .ok (.iconst 2, 1) := by decide +kernel
theorem qd_M_replay_7 : decode qc_M_replay 7 = .ok (.if_icmp .ne 24, 3) := by decide +kernel
theorem qd_M_replay_10 : decode qc_M_replay 10 = .ok (.iload_n 2, 1) := by decide +kernel
theorem qd_M_replay_11 : decode qc_M_replay 11 = .ok (.ifCond .lt 20, 3) := by decide +kernel
theorem qd_M_replay_14 : decode qc_M_replay 14 = .ok (.iload_n 2, 1) := by decide +kernel
theorem qd_M_replay_15 : decode qc_M_replay 15 = .ok (.iload_n 1, 1) := by decide +kernel
theorem qd_M_replay_16 : decode qc_M_replay 16 = .ok (.iconst 1, 1) := by decide +kernel
theorem qd_M_replay_17 : decode qc_M_replay 17 = .ok (.if_icmp .ne 8, 3) := by decide +kernel
theorem qd_M_replay_20 : decode qc_M_replay 20 = .ok (.bipush 64, 2) := by decide +kernel
theorem qd_M_replay_22 : decode qc_M_replay 22 = .ok (.goto 6, 3) := by decide +kernel
theorem qd_M_replay_25 : decode qc_M_replay 25 = .ok (.sipush 4096, 3) := by decide +kernel
theorem qd_M_replay_28 : decode qc_M_replay 28 = .ok (.if_icmp .lt 5, 3) := by decide +kernel
theorem qd_M_replay_31 : decode qc_M_replay 31 = .ok (.iconst (-1), 1) := by decide +kernel
theorem qd_M_replay_32 : decode qc_M_replay 32 = .ok (.ireturn, 1) := by decide +kernel
theorem qd_M_replay_33 : decode qc_M_replay 33 = .ok (.aload_n 0, 1) := by decide +kernel
theorem qd_M_replay_34 : decode qc_M_replay 34 = .ok (.iload_n 1, 1) := by decide +kernel
theorem qd_M_replay_35 : decode qc_M_replay 35 = .ok (.iload_n 2, 1) := by decide +kernel
theorem qd_M_replay_36 : decode qc_M_replay 36 = .ok (.invokevirtual 151, 3) := by decide +kernel
theorem qd_M_replay_39 : decode qc_M_replay 39 = .ok (.iconst 0, 1) := by decide +kernel
theorem qd_M_replay_40 : decode qc_M_replay 40 = .ok (.istore_n 3, 1) := by decide +kernel
theorem qd_M_replay_41 : decode qc_M_replay 41 = .ok (.iload_n 3, 1) := by decide +kernel
theorem qd_M_replay_42 : decode qc_M_replay 42 = .ok (.iconst 5, 1) := by decide +kernel
theorem qd_M_replay_43 : decode qc_M_replay 43 = .ok (.if_icmp .ge 21, 3) := by decide +kernel
theorem qd_M_replay_46 : decode qc_M_replay 46 = .ok (.aload_n 0, 1) := by decide +kernel
theorem qd_M_replay_47 : decode qc_M_replay 47 = .ok (.getfield 69, 3) := by decide +kernel
theorem qd_M_replay_50 : decode qc_M_replay 50 = .ok (.iload_n 3, 1) := by decide +kernel
theorem qd_M_replay_51 : decode qc_M_replay 51 = .ok (.aload_n 0, 1) := by decide +kernel
theorem qd_M_replay_52 : decode qc_M_replay 52 = .ok (.getfield 20, 3) := by decide +kernel
theorem qd_M_replay_55 : decode qc_M_replay 55 = .ok (.iload_n 3, 1) := by decide +kernel
theorem qd_M_replay_56 : decode qc_M_replay 56 = .ok (.iaload, 1) := by decide +kernel
theorem qd_M_replay_57 : decode qc_M_replay 57 = .ok (.iastore, 1) := by decide +kernel
theorem qd_M_replay_58 : decode qc_M_replay 58 = .ok (.iinc 3 1, 3) := by decide +kernel
theorem qd_M_replay_61 : decode qc_M_replay 61 = .ok (.goto (-20), 3) := by decide +kernel
theorem qd_M_replay_64 : decode qc_M_replay 64 = .ok (.aload_n 0, 1) := by decide +kernel
theorem qd_M_replay_65 : decode qc_M_replay 65 = .ok (.getfield 69, 3) := by decide +kernel
theorem qd_M_replay_68 : decode qc_M_replay 68 = .ok (.iconst 5, 1) := by decide +kernel
theorem qd_M_replay_69 : decode qc_M_replay 69 = .ok (.aload_n 0, 1) := by decide +kernel
theorem qd_M_replay_70 : decode qc_M_replay 70 = .ok (.getfield 81, 3) := by decide +kernel
theorem qd_M_replay_73 : decode qc_M_replay 73 = .ok (.iastore, 1) := by decide +kernel
theorem qd_M_replay_74 : decode qc_M_replay 74 = .ok (.aload_n 0, 1) := by decide +kernel
theorem qd_M_replay_75 : decode qc_M_replay 75 = .ok (.getfield 69, 3) := by decide +kernel
theorem qd_M_replay_78 : decode qc_M_replay 78 = .ok (.bipush 6, 2) := by decide +kernel
theorem qd_M_replay_80 : decode qc_M_replay 80 = .ok (.aload_n 0, 1) := by decide +kernel
theorem qd_M_replay_81 : decode qc_M_replay 81 = .ok (.getfield 88, 3) := by decide +kernel
theorem qd_M_replay_84 : decode qc_M_replay 84 = .ok (.iastore, 1) := by decide +kernel
theorem qd_M_replay_85 : decode qc_M_replay 85 = .ok (.aload_n 0, 1) := by decide +kernel
theorem qd_M_replay_86 : decode qc_M_replay 86 = .ok (.iconst 1, 1) := by decide +kernel
theorem qd_M_replay_87 : decode qc_M_replay 87 = .ok (.putfield 166, 3) := by decide +kernel
theorem qd_M_replay_90 : decode qc_M_replay 90 = .ok (.aload_n 0, 1) := by decide +kernel
theorem qd_M_replay_91 : decode qc_M_replay 91 = .ok (.getfield 35, 3) := by decide +kernel
theorem qd_M_replay_94 : decode qc_M_replay 94 = .ok (.iload_n 1, 1) := by decide +kernel
theorem qd_M_replay_95 : decode qc_M_replay 95 = .ok (.iconst 1, 1) := by decide +kernel
theorem qd_M_replay_96 : decode qc_M_replay 96 = .ok (.isub, 1) := by decide +kernel
theorem qd_M_replay_97 : decode qc_M_replay 97 = .ok (.iaload, 1) := by decide +kernel
theorem qd_M_replay_98 : decode qc_M_replay 98 = .ok (.ireturn, 1) := by decide +kernel
theorem qd_M_replayed_0 : decode qc_M_replayed 0 = .ok (.aload_n 0, 1) := by decide +kernel
theorem qd_M_replayed_1 : decode qc_M_replayed 1 = .ok (.getfield 166, 3) := by decide +kernel
theorem qd_M_replayed_4 : decode qc_M_replayed 4 = .ok (.ifCond .eq 22, 3) := by decide +kernel
theorem qd_M_replayed_7 : decode qc_M_replayed 7 = .ok (.iload_n 1, 1) := by decide +kernel
theorem qd_M_replayed_8 : decode qc_M_replayed 8 = .ok (.ifCond .lt 18, 3) := by decide +kernel
theorem qd_M_replayed_11 : decode qc_M_replayed 11 = .ok (.iload_n 1, 1) := by decide +kernel
theorem qd_M_replayed_12 : decode qc_M_replayed 12 = .ok (.bipush 6, 2) := by decide +kernel
theorem qd_M_replayed_14 : decode qc_M_replayed 14 = .ok (.if_icmp .gt 12, 3) := by decide +kernel
theorem qd_M_replayed_17 : decode qc_M_replayed 17 = .ok (.aload_n 0, 1) := by decide +kernel
theorem qd_M_replayed_18 : decode qc_M_replayed 18 = .ok (.getfield 69, 3) := by decide +kernel
theorem qd_M_replayed_21 : decode qc_M_replayed 21 = .ok (.iload_n 1, 1) := by decide +kernel
theorem qd_M_replayed_22 : decode qc_M_replayed 22 = .ok (.iaload, 1) := by decide +kernel
theorem qd_M_replayed_23 : decode qc_M_replayed 23 = .ok (.goto 4, 3) := by decide +kernel
theorem qd_M_replayed_26 : decode qc_M_replayed 26 = .ok (.iconst (-1), 1) := by decide +kernel
theorem qd_M_replayed_27 : decode qc_M_replayed 27 = .ok (.ireturn, 1) := by decide +kernel
