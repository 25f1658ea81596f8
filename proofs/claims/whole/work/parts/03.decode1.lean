theorem qd_B_init_0 : decode qc_B_init 0 = .ok (.aload_n 0, 1) := by decide +kernel
theorem qd_B_init_1 : decode qc_B_init 1 = .ok (.invokespecial 3, 3) := by decide +kernel
theorem qd_B_init_4 : decode qc_B_init 4 = .ok (.aload_n 0, 1) := by decide +kernel
theorem qd_B_init_5 : decode qc_B_init 5 = .ok (.new 9, 3) := by decide +kernel
theorem qd_B_init_8 : decode qc_B_init 8 = .ok (.dup, 1) := by decide +kernel
theorem qd_B_init_9 : decode qc_B_init 9 = .ok (.invokespecial 11, 3) := by decide +kernel
theorem qd_B_init_12 : decode qc_B_init 12 = .ok (.putfield 12, 3) := by decide +kernel
theorem qd_B_init_15 : decode qc_B_init 15 = .ok (.aload_n 0, 1) := by decide +kernel
theorem qd_B_init_16 : decode qc_B_init 16 = .ok (.bipush 64, 2) := by decide +kernel
theorem qd_B_init_18 : decode qc_B_init 18 = .ok (.newarray .int, 2) := by decide +kernel
theorem qd_B_init_20 : decode qc_B_init 20 = .ok (.putfield 18, 3) := by decide +kernel
theorem qd_B_init_23 : decode qc_B_init 23 = .ok (.aload_n 0, 1) := by decide +kernel
theorem qd_B_init_24 : decode qc_B_init 24 = .ok (.bipush 64, 2) := by decide +kernel
theorem qd_B_init_26 : decode qc_B_init 26 = .ok (.newarray .int, 2) := by decide +kernel
theorem qd_B_init_28 : decode qc_B_init 28 = .ok (.putfield 22, 3) := by decide +kernel
theorem qd_B_init_31 : decode qc_B_init 31 = .ok (.aload_n 0, 1) := by decide +kernel
theorem qd_B_init_32 : decode qc_B_init 32 = .ok (.sipush 320, 3) := by decide +kernel
theorem qd_B_init_35 : decode qc_B_init 35 = .ok (.newarray .int, 2) := by decide +kernel
theorem qd_B_init_37 : decode qc_B_init 37 = .ok (.putfield 25, 3) := by decide +kernel
theorem qd_B_init_40 : decode qc_B_init 40 = .ok (.return_, 1) := by decide +kernel
theorem qd_B_forget_0 : decode qc_B_forget 0 = .ok (.aload_n 0, 1) := by decide +kernel
theorem qd_B_forget_1 : decode qc_B_forget 1 = .ok (.getfield 12, 3) := by decide +kernel
theorem qd_B_forget_4 : decode qc_B_forget 4 = .ok (.invokevirtual 28, 3) := by decide +kernel
theorem qd_B_forget_7 : decode qc_B_forget 7 = .ok (.aload_n 0, 1) := by decide +kernel
theorem qd_B_forget_8 : decode qc_B_forget 8 = .ok (.getfield 18, 3) := by decide +kernel
theorem qd_B_forget_11 : decode qc_B_forget 11 = .ok (.iconst 0, 1) := by decide +kernel
theorem qd_B_forget_12 : decode qc_B_forget 12 = .ok (.invokestatic 31, 3) := by decide +kernel
theorem qd_B_forget_15 : decode qc_B_forget 15 = .ok (.aload_n 0, 1) := by decide +kernel
theorem qd_B_forget_16 : decode qc_B_forget 16 = .ok (.getfield 25, 3) := by decide +kernel
theorem qd_B_forget_19 : decode qc_B_forget 19 = .ok (.iconst 0, 1) := by decide +kernel
theorem qd_B_forget_20 : decode qc_B_forget 20 = .ok (.invokestatic 31, 3) := by decide +kernel
theorem qd_B_forget_23 : decode qc_B_forget 23 = .ok (.return_, 1) := by decide +kernel
theorem qd_B_fill_0 : decode qc_B_fill 0 = .ok (.iconst 0, 1) := by decide +kernel
theorem qd_B_fill_1 : decode qc_B_fill 1 = .ok (.istore 5, 2) := by decide +kernel
theorem qd_B_fill_3 : decode qc_B_fill 3 = .ok (.iload 5, 2) := by decide +kernel
theorem qd_B_fill_5 : decode qc_B_fill 5 = .ok (.bipush 64, 2) := by decide +kernel
theorem qd_B_fill_7 : decode qc_B_fill 7 = .ok (.if_icmp .ge 91, 3) := by decide +kernel
theorem qd_B_fill_10 : decode qc_B_fill 10 = .ok (.aload_n 1, 1) := by decide +kernel
theorem qd_B_fill_11 : decode qc_B_fill 11 = .ok (.iload 5, 2) := by decide +kernel
theorem qd_B_fill_13 : decode qc_B_fill 13 = .ok (.iload_n 2, 1) := by decide +kernel
theorem qd_B_fill_14 : decode qc_B_fill 14 = .ok (.iload_n 3, 1) := by decide +kernel
theorem qd_B_fill_15 : decode qc_B_fill 15 = .ok (.iload 4, 2) := by decide +kernel
theorem qd_B_fill_17 : decode qc_B_fill 17 = .ok (.invokevirtual 37, 3) := by decide +kernel
theorem qd_B_fill_20 : decode qc_B_fill 20 = .ok (.aload_n 0, 1) := by decide +kernel
theorem qd_B_fill_21 : decode qc_B_fill 21 = .ok (.getfield 12, 3) := by decide +kernel
theorem qd_B_fill_24 : decode qc_B_fill 24 = .ok (.aload_n 1, 1) := by decide +kernel
theorem qd_B_fill_25 : decode qc_B_fill 25 = .ok (.invokevirtual 43, 3) := by decide +kernel
theorem qd_B_fill_28 : decode qc_B_fill 28 = .ok (.istore 6, 2) := by decide +kernel
theorem qd_B_fill_30 : decode qc_B_fill 30 = .ok (.iload 6, 2) := by decide +kernel
theorem qd_B_fill_32 : decode qc_B_fill 32 = .ok (.iconst (-1), 1) := by decide +kernel
theorem qd_B_fill_33 : decode qc_B_fill 33 = .ok (.if_icmp .ne 5, 3) := by decide +kernel
theorem qd_B_fill_36 : decode qc_B_fill 36 = .ok (.iconst 0, 1) := by decide +kernel
theorem qd_B_fill_37 : decode qc_B_fill 37 = .ok (.ireturn, 1) := by decide +kernel
theorem qd_B_fill_38 : decode qc_B_fill 38 = .ok (.aload_n 0, 1) := by decide +kernel
theorem qd_B_fill_39 : decode qc_B_fill 39 = .ok (.getfield 18, 3) := by decide +kernel
theorem qd_B_fill_42 : decode qc_B_fill 42 = .ok (.iload 5, 2) := by decide +kernel
theorem qd_B_fill_44 : decode qc_B_fill 44 = .ok (.iload 6, 2) := by decide +kernel
theorem qd_B_fill_46 : decode qc_B_fill 46 = .ok (.iastore, 1) := by decide +kernel
theorem qd_B_fill_47 : decode qc_B_fill 47 = .ok (.aload_n 0, 1) := by decide +kernel
theorem qd_B_fill_48 : decode qc_B_fill 48 = .ok (.getfield 22, 3) := by decide +kernel
theorem qd_B_fill_51 : decode qc_B_fill 51 = .ok (.iload 5, 2) := by decide +kernel
theorem qd_B_fill_53 : decode qc_B_fill 53 = .ok (.aload_n 1, 1) := by decide +kernel
theorem qd_B_fill_54 : decode qc_B_fill 54 = .ok (.getfield 47, 3) := by decide +kernel
theorem qd_B_fill_57 : decode qc_B_fill 57 = .ok (.iastore, 1) := by decide +kernel
theorem qd_B_fill_58 : decode qc_B_fill 58 = .ok (.iconst 0, 1) := by decide +kernel
theorem qd_B_fill_59 : decode qc_B_fill 59 = .ok (.istore 7, 2) := by decide +kernel
theorem qd_B_fill_61 : decode qc_B_fill 61 = .ok (.iload 7, 2) := by decide +kernel
theorem qd_B_fill_63 : decode qc_B_fill 63 = .ok (.iconst 5, 1) := by decide +kernel
theorem qd_B_fill_64 : decode qc_B_fill 64 = .ok (.if_icmp .ge 28, 3) := by decide +kernel
theorem qd_B_fill_67 : decode qc_B_fill 67 = .ok (.aload_n 0, 1) := by decide +kernel
theorem qd_B_fill_68 : decode qc_B_fill 68 = .ok (.getfield 25, 3) := by decide +kernel
theorem qd_B_fill_71 : decode qc_B_fill 71 = .ok (.iload 5, 2) := by decide +kernel
theorem qd_B_fill_73 : decode qc_B_fill 73 = .ok (.iconst 5, 1) := by decide +kernel
theorem qd_B_fill_74 : decode qc_B_fill 74 = .ok (.imul, 1) := by decide +kernel
theorem qd_B_fill_75 : decode qc_B_fill 75 = .ok (.iload 7, 2) := by decide +kernel
theorem qd_B_fill_77 : decode qc_B_fill 77 = .ok (.iadd, 1) := by decide +kernel
theorem qd_B_fill_78 : decode qc_B_fill 78 = .ok (.aload_n 1, 1) := by decide +kernel
theorem qd_B_fill_79 : decode qc_B_fill 79 = .ok (.getfield 51, 3) := by decide +kernel
theorem qd_B_fill_82 : decode qc_B_fill 82 = .ok (.iload 7, 2) := by decide +kernel
theorem qd_B_fill_84 : decode qc_B_fill 84 = .ok (.iaload, 1) := by decide +kernel
theorem qd_B_fill_85 : decode qc_B_fill 85 = .ok (.iastore, 1) := by decide +kernel
theorem qd_B_fill_86 : decode qc_B_fill 86 = .ok (.iinc 7 1, 3) := by decide +kernel
theorem qd_B_fill_89 : decode qc_B_fill 89 = .ok (.goto (-28), 3) := by decide +kernel
theorem qd_B_fill_92 : decode qc_B_fill 92 = .ok (.iinc 5 1, 3) := by decide +kernel
theorem qd_B_fill_95 : decode qc_B_fill 95 = .ok (.goto (-92), 3) := by decide +kernel
theorem qd_B_fill_98 : decode qc_B_fill 98 = .ok (.iconst 1, 1) := by decide +kernel
theorem qd_B_fill_99 : decode qc_B_fill 99 = .ok (.ireturn, 1) := by decide +kernel
theorem qd_B_isDestroyed_0 : decode qc_B_isDestroyed 0 = .ok (.aload_n 0, 1) := by decide +kernel
theorem qd_B_isDestroyed_1 : decode qc_B_isDestroyed 1 = .ok (.getfield 12, 3) := by decide +kernel
theorem qd_B_isDestroyed_4 : decode qc_B_isDestroyed 4 = .ok (.getfield 52, 3) := by decide +kernel
theorem qd_B_isDestroyed_7 : decode qc_B_isDestroyed 7 = .ok (.aload_n 0, 1) := by decide +kernel
theorem qd_B_isDestroyed_8 : decode qc_B_isDestroyed 8 = .ok (.getfield 18, 3) := by decide +kernel
theorem qd_B_isDestroyed_11 : decode qc_B_isDestroyed 11 = .ok (.iload_n 1, 1) := by decide +kernel
theorem qd_B_isDestroyed_12 : decode qc_B_isDestroyed 12 = .ok (.iaload, 1) := by decide +kernel
theorem qd_B_isDestroyed_13 : decode qc_B_isDestroyed 13 = .ok (.iaload, 1) := by decide +kernel
theorem qd_B_isDestroyed_14 : decode qc_B_isDestroyed 14 = .ok (.iconst 3, 1) := by decide +kernel
theorem qd_B_isDestroyed_15 : decode qc_B_isDestroyed 15 = .ok (.if_icmp .ne 7, 3) := by decide +kernel
theorem qd_B_isDestroyed_18 : decode qc_B_isDestroyed 18 = .ok (.iconst 1, 1) := by decide +kernel
theorem qd_B_isDestroyed_19 : decode qc_B_isDestroyed 19 = .ok (.goto 4, 3) := by decide +kernel
theorem qd_B_isDestroyed_22 : decode qc_B_isDestroyed 22 = .ok (.iconst 0, 1) := by decide +kernel
theorem qd_B_isDestroyed_23 : decode qc_B_isDestroyed 23 = .ok (.ireturn, 1) := by decide +kernel
theorem qd_B_areFollowedAlike_0 : decode qc_B_areFollowedAlike 0 = .ok (.aload_n 0, 1) := by decide +kernel
theorem qd_B_areFollowedAlike_1 : decode qc_B_areFollowedAlike 1 = .ok (.getfield 22, 3) := by decide +kernel
theorem qd_B_areFollowedAlike_4 : decode qc_B_areFollowedAlike 4 = .ok (.iload_n 1, 1) := by decide +kernel
theorem qd_B_areFollowedAlike_5 : decode qc_B_areFollowedAlike 5 = .ok (.iaload, 1) := by decide +kernel
theorem qd_B_areFollowedAlike_6 : decode qc_B_areFollowedAlike 6 = .ok (.aload_n 0, 1) := by decide +kernel
theorem qd_B_areFollowedAlike_7 : decode qc_B_areFollowedAlike 7 = .ok (.getfield 22, 3) := by decide +kernel
theorem qd_B_areFollowedAlike_10 : decode qc_B_areFollowedAlike 10 = .ok (.iload_n 2, 1) := by decide +kernel
theorem qd_B_areFollowedAlike_11 : decode qc_B_areFollowedAlike 11 = .ok (.iaload, 1) := by decide +kernel
theorem qd_B_areFollowedAlike_12 : decode qc_B_areFollowedAlike 12 = .ok (.if_icmp .ne 20, 3) := by decide +kernel
theorem qd_B_areFollowedAlike_15 : decode qc_B_areFollowedAlike 15 = .ok (.aload_n 0, 1) := by decide +kernel
theorem qd_B_areFollowedAlike_16 : decode qc_B_areFollowedAlike 16 = .ok (.iload_n 1, 1) := by decide +kernel
theorem qd_B_areFollowedAlike_17 : decode qc_B_areFollowedAlike 17 = .ok (.invokevirtual 55, 3) := by decide +kernel
theorem qd_B_areFollowedAlike_20 : decode qc_B_areFollowedAlike 20 = .ok (.aload_n 0, 1) := by decide +kernel
theorem qd_B_areFollowedAlike_21 : decode qc_B_areFollowedAlike 21 = .ok (.iload_n 2, 1) := by decide +kernel
theorem qd_B_areFollowedAlike_22 : decode qc_B_areFollowedAlike 22 = .ok (.invokevirtual 55, 3) := by decide +kernel
theorem qd_B_areFollowedAlike_25 : decode qc_B_areFollowedAlike 25 = .ok (.if_icmp .ne 7, 3) := by decide +kernel
theorem qd_B_areFollowedAlike_28 : decode qc_B_areFollowedAlike 28 = .ok (.iconst 1, 1) := by decide +kernel
theorem qd_B_areFollowedAlike_29 : decode qc_B_areFollowedAlike 29 = .ok (.goto 4, 3) := by decide +kernel
theorem qd_B_areFollowedAlike_32 : decode qc_B_areFollowedAlike 32 = .ok (.iconst 0, 1) := by decide +kernel
theorem qd_B_areFollowedAlike_33 : decode qc_B_areFollowedAlike 33 = .ok (.ireturn, 1) := by decide +kernel
theorem qd_B_isFollowedLikeAnEarlierOne_0 : decode qc_B_isFollowedLikeAnEarlierOne 0 = .ok (.iconst 0, 1) := by decide +kernel
theorem qd_B_isFollowedLikeAnEarlierOne_1 : decode qc_B_isFollowedLikeAnEarlierOne 1 = .ok (.istore_n 2, 1) := by decide +kernel
theorem qd_B_isFollowedLikeAnEarlierOne_2 : decode qc_B_isFollowedLikeAnEarlierOne 2 = .ok (.iload_n 2, 1) := by decide +kernel
theorem qd_B_isFollowedLikeAnEarlierOne_3 : decode qc_B_isFollowedLikeAnEarlierOne 3 = .ok (.iload_n 1, 1) := by decide +kernel
theorem qd_B_isFollowedLikeAnEarlierOne_4 : decode qc_B_isFollowedLikeAnEarlierOne 4 = .ok (.if_icmp .ge 20, 3) := by decide +kernel
theorem qd_B_isFollowedLikeAnEarlierOne_7 : decode qc_B_isFollowedLikeAnEarlierOne 7 = .ok (.aload_n 0, 1) := by decide +kernel
theorem qd_B_isFollowedLikeAnEarlierOne_8 : decode qc_B_isFollowedLikeAnEarlierOne 8 = .ok (.iload_n 2, 1) := by decide +kernel
theorem qd_B_isFollowedLikeAnEarlierOne_9 : decode qc_B_isFollowedLikeAnEarlierOne 9 = .ok (.iload_n 1, 1) := by decide +kernel
theorem qd_B_isFollowedLikeAnEarlierOne_10 : decode qc_B_isFollowedLikeAnEarlierOne 10 = .ok (.invokevirtual 59, 3) := by decide +kernel
theorem qd_B_isFollowedLikeAnEarlierOne_13 : decode qc_B_isFollowedLikeAnEarlierOne 13 = .ok (.ifCond .eq 5, 3) := by decide +kernel
theorem qd_B_isFollowedLikeAnEarlierOne_16 : decode qc_B_isFollowedLikeAnEarlierOne 16 = .ok (.iconst 1, 1) := by decide +kernel
theorem qd_B_isFollowedLikeAnEarlierOne_17 : decode qc_B_isFollowedLikeAnEarlierOne 17 = .ok (.ireturn, 1) := by decide +kernel
theorem qd_B_isFollowedLikeAnEarlierOne_18 : decode qc_B_isFollowedLikeAnEarlierOne 18 = .ok (.iinc 2 1, 3) := by decide +kernel
theorem qd_B_isFollowedLikeAnEarlierOne_21 : decode qc_B_isFollowedLikeAnEarlierOne 21 = .ok (.goto (-19), 3) := by decide +kernel
theorem qd_B_isFollowedLikeAnEarlierOne_24 : decode qc_B_isFollowedLikeAnEarlierOne 24 = .ok (.iconst 0, 1) := by decide +kernel
theorem qd_B_isFollowedLikeAnEarlierOne_25 : decode qc_B_isFollowedLikeAnEarlierOne 25 = .ok (.ireturn, 1) := by decide +kernel
theorem qd_C_init_0 : decode qc_C_init 0 = .ok (.aload_n 0, 1) := by decide +kernel
theorem qd_C_init_1 : decode qc_C_init 1 = .ok (.invokespecial 3, 3) := by decide +kernel
theorem qd_C_init_4 : decode qc_C_init 4 = .ok (.aload_n 0, 1) := by decide +kernel
theorem qd_C_init_5 : decode qc_C_init 5 = .ok (.bipush 32, 2) := by decide +kernel
theorem qd_C_init_7 : decode qc_C_init 7 = .ok (.newarray .int, 2) := by decide +kernel
theorem qd_C_init_9 : decode qc_C_init 9 = .ok (.putfield 9, 3) := by decide +kernel
theorem qd_C_init_12 : decode qc_C_init 12 = .ok (.aload_n 0, 1) := by decide +kernel
theorem qd_C_init_13 : decode qc_C_init 13 = .ok (.bipush 32, 2) := by decide +kernel
theorem qd_C_init_15 : decode qc_C_init 15 = .ok (.newarray .int, 2) := by decide +kernel
theorem qd_C_init_17 : decode qc_C_init 17 = .ok (.putfield 15, 3) := by decide +kernel
theorem qd_C_init_20 : decode qc_C_init 20 = .ok (.aload_n 0, 1) := by decide +kernel
theorem qd_C_init_21 : decode qc_C_init 21 = .ok (.bipush 16, 2) := by decide +kernel
theorem qd_C_init_23 : decode qc_C_init 23 = .ok (.newarray .int, 2) := by decide +kernel
theorem qd_C_init_25 : decode qc_C_init 25 = .ok (.putfield 18, 3) := by decide +kernel
theorem qd_C_init_28 : decode qc_C_init 28 = .ok (.aload_n 0, 1) := by decide +kernel
theorem qd_C_init_29 : decode qc_C_init 29 = .ok (.iconst 0, 1) := by decide +kernel
theorem qd_C_init_30 : decode qc_C_init 30 = .ok (.putfield 21, 3) := by decide +kernel
theorem qd_C_init_33 : decode qc_C_init 33 = .ok (.aload_n 0, 1) := by decide +kernel
theorem qd_C_init_34 : decode qc_C_init 34 = .ok (.getfield 18, 3) := by decide +kernel
theorem qd_C_init_37 : decode qc_C_init 37 = .ok (.iconst (-1), 1) := by decide +kernel
theorem qd_C_init_38 : decode qc_C_init 38 = .ok (.invokestatic 25, 3) := by decide +kernel
theorem qd_C_init_41 : decode qc_C_init 41 = .ok (.return_, 1) := by decide +kernel
theorem qd_C_append_0 : decode qc_C_append 0 = .ok (.aload_n 0, 1) := by decide +kernel
theorem qd_C_append_1 : decode qc_C_append 1 = .ok (.getfield 21, 3) := by decide +kernel
theorem qd_C_append_4 : decode qc_C_append 4 = .ok (.bipush 32, 2) := by decide +kernel
theorem qd_C_append_6 : decode qc_C_append 6 = .ok (.if_icmp .lt 5, 3) := by decide +kernel
theorem qd_C_append_9 : decode qc_C_append 9 = .ok (.iconst (-1), 1) := by decide +kernel
theorem qd_C_append_10 : decode qc_C_append 10 = .ok (.ireturn, 1) := by decide +kernel
theorem qd_C_append_11 : decode qc_C_append 11 = .ok (.aload_n 0, 1) := by decide +kernel
theorem qd_C_append_12 : decode qc_C_append 12 = .ok (.getfield 9, 3) := by decide +kernel
theorem qd_C_append_15 : decode qc_C_append 15 = .ok (.aload_n 0, 1) := by decide +kernel
theorem qd_C_append_16 : decode qc_C_append 16 = .ok (.getfield 21, 3) := by decide +kernel
theorem qd_C_append_19 : decode qc_C_append 19 = .ok (.iload_n 1, 1) := by decide +kernel
theorem qd_C_append_20 : decode qc_C_append 20 = .ok (.iastore, 1) := by decide +kernel
theorem qd_C_append_21 : decode qc_C_append 21 = .ok (.aload_n 0, 1) := by decide +kernel
theorem qd_C_append_22 : decode qc_C_append 22 = .ok (.getfield 15, 3) := by decide +kernel
theorem qd_C_append_25 : decode qc_C_append 25 = .ok (.aload_n 0, 1) := by decide +kernel
theorem qd_C_append_26 : decode qc_C_append 26 = .ok (.getfield 21, 3) := by decide +kernel
theorem qd_C_append_29 : decode qc_C_append 29 = .ok (.iload_n 2, 1) := by decide +kernel
theorem qd_C_append_30 : decode qc_C_append 30 = .ok (.iastore, 1) := by decide +kernel
theorem qd_C_append_31 : decode qc_C_append 31 = .ok (.iload_n 1, 1) := by decide +kernel
theorem qd_C_append_32 : decode qc_C_append 32 = .ok (.bipush 16, 2) := by decide +kernel
theorem qd_C_append_34 : decode qc_C_append 34 = .ok (.if_icmp .ne 23, 3) := by decide +kernel
theorem qd_C_append_37 : decode qc_C_append 37 = .ok (.aload_n 0, 1) := by decide +kernel
theorem qd_C_append_38 : decode qc_C_append 38 = .ok (.getfield 18, 3) := by decide +kernel
theorem qd_C_append_41 : decode qc_C_append 41 = .ok (.iload_n 2, 1) := by decide +kernel
theorem qd_C_append_42 : decode qc_C_append 42 = .ok (.iaload, 1) := by decide +kernel
theorem qd_C_append_43 : decode qc_C_append 43 = .ok (.iconst (-1), 1) := by decide +kernel
theorem qd_C_append_44 : decode qc_C_append 44 = .ok (.if_icmp .ne 13, 3) := by decide +kernel
theorem qd_C_append_47 : decode qc_C_append 47 = .ok (.aload_n 0, 1) := by decide +kernel
theorem qd_C_append_48 : decode qc_C_append 48 = .ok (.getfield 18, 3) := by decide +kernel
theorem qd_C_append_51 : decode qc_C_append 51 = .ok (.iload_n 2, 1) := by decide +kernel
theorem qd_C_append_52 : decode qc_C_append 52 = .ok (.aload_n 0, 1) := by decide +kernel
theorem qd_C_append_53 : decode qc_C_append 53 = .ok (.getfield 21, 3) := by decide +kernel
theorem qd_C_append_56 : decode qc_C_append 56 = .ok (.iastore, 1) := by decide +kernel
theorem qd_C_append_57 : decode qc_C_append 57 = .ok (.aload_n 0, 1) := by decide +kernel
theorem qd_C_append_58 : decode qc_C_append 58 = .ok (.dup, 1) := by decide +kernel
theorem qd_C_append_59 : decode qc_C_append 59 = .ok (.getfield 21, 3) := by decide +kernel
theorem qd_C_append_62 : decode qc_C_append 62 = .ok (.iconst 1, 1) := by decide +kernel
theorem qd_C_append_63 : decode qc_C_append 63 = .ok (.iadd, 1) := by decide +kernel
theorem qd_C_append_64 : decode qc_C_append 64 = .ok (.putfield 21, 3) := by decide +kernel
theorem qd_C_append_67 : decode qc_C_append 67 = .ok (.aload_n 0, 1) := by decide +kernel
theorem qd_C_append_68 : decode qc_C_append 68 = .ok (.getfield 21, 3) := by decide +kernel
theorem qd_C_append_71 : decode qc_C_append 71 = .ok (.iconst 1, 1) := by decide +kernel
theorem qd_C_append_72 : decode qc_C_append 72 = .ok (.isub, 1) := by decide +kernel
theorem qd_C_append_73 : decode qc_C_append 73 = .ok (.ireturn, 1) := by decide +kernel
theorem qd_C_wipe_0 : decode qc_C_wipe 0 = .ok (.aload_n 0, 1) := by decide +kernel
theorem qd_C_wipe_1 : decode qc_C_wipe 1 = .ok (.iconst 0, 1) := by decide +kernel
theorem qd_C_wipe_2 : decode qc_C_wipe 2 = .ok (.putfield 21, 3) := by decide +kernel
theorem qd_C_wipe_5 : decode qc_C_wipe 5 = .ok (.aload_n 0, 1) := by decide +kernel
theorem qd_C_wipe_6 : decode qc_C_wipe 6 = .ok (.getfield 18, 3) := by decide +kernel
theorem qd_C_wipe_9 : decode qc_C_wipe 9 = .ok (.iconst (-1), 1) := by decide +kernel
theorem qd_C_wipe_10 : decode qc_C_wipe 10 = .ok (.invokestatic 25, 3) := by decide +kernel
theorem qd_C_wipe_13 : decode qc_C_wipe 13 = .ok (.return_, 1) := by decide +kernel
theorem qd_E_init_0 : decode qc_E_init 0 = .ok (.aload_n 0, 1) := by decide +kernel
theorem qd_E_init_1 : decode qc_E_init 1 = .ok (.invokespecial 3, 3) := by decide +kernel
theorem qd_E_init_4 : decode qc_E_init 4 = .ok (.aload_n 0, 1) := by decide +kernel
theorem qd_E_init_5 : decode qc_E_init 5 = .ok (.new 9, 3) := by decide +kernel
theorem qd_E_init_8 : decode qc_E_init 8 = .ok (.dup, 1) := by decide +kernel
theorem qd_E_init_9 : decode qc_E_init 9 = .ok (.invokespecial 11, 3) := by decide +kernel
theorem qd_E_init_12 : decode qc_E_init 12 = .ok (.putfield 12, 3) := by decide +kernel
theorem qd_E_init_15 : decode qc_E_init 15 = .ok (.aload_n 0, 1) := by decide +kernel
theorem qd_E_init_16 : decode qc_E_init 16 = .ok (.new 9, 3) := by decide +kernel
theorem qd_E_init_19 : decode qc_E_init 19 = .ok (.dup, 1) := by decide +kernel
theorem qd_E_init_20 : decode qc_E_init 20 = .ok (.invokespecial 11, 3) := by decide +kernel
theorem qd_E_init_23 : decode qc_E_init 23 = .ok (.putfield 18, 3) := by decide +kernel
theorem qd_E_init_26 : decode qc_E_init 26 = .ok (.aload_n 0, 1) := by decide +kernel
theorem qd_E_init_27 : decode qc_E_init 27 = .ok (.new 21, 3) := by decide +kernel
theorem qd_E_init_30 : decode qc_E_init 30 = .ok (.dup, 1) := by decide +kernel
theorem qd_E_init_31 : decode qc_E_init 31 = .ok (.invokespecial 23, 3) := by decide +kernel
theorem qd_E_init_34 : decode qc_E_init 34 = .ok (.putfield 24, 3) := by decide +kernel
theorem qd_E_init_37 : decode qc_E_init 37 = .ok (.aload_n 0, 1) := by decide +kernel
theorem qd_E_init_38 : decode qc_E_init 38 = .ok (.new 28, 3) := by decide +kernel
theorem qd_E_init_41 : decode qc_E_init 41 = .ok (.dup, 1) := by decide +kernel
theorem qd_E_init_42 : decode qc_E_init 42 = .ok (.invokespecial 30, 3) := by decide +kernel
theorem qd_E_init_45 : decode qc_E_init 45 = .ok (.putfield 31, 3) := by decide +kernel
theorem qd_E_init_48 : decode qc_E_init 48 = .ok (.aload_n 0, 1) := by decide +kernel
theorem qd_E_init_49 : decode qc_E_init 49 = .ok (.iconst 0, 1) := by decide +kernel
theorem qd_E_init_50 : decode qc_E_init 50 = .ok (.putfield 35, 3) := by decide +kernel
theorem qd_E_init_53 : decode qc_E_init 53 = .ok (.return_, 1) := by decide +kernel
theorem qd_E_forget_0 : decode qc_E_forget 0 = .ok (.aload_n 0, 1) := by decide +kernel
theorem qd_E_forget_1 : decode qc_E_forget 1 = .ok (.iconst 0, 1) := by decide +kernel
theorem qd_E_forget_2 : decode qc_E_forget 2 = .ok (.putfield 35, 3) := by decide +kernel
theorem qd_E_forget_5 : decode qc_E_forget 5 = .ok (.aload_n 0, 1) := by decide +kernel
theorem qd_E_forget_6 : decode qc_E_forget 6 = .ok (.getfield 12, 3) := by decide +kernel
theorem qd_E_forget_9 : decode qc_E_forget 9 = .ok (.invokevirtual 39, 3) := by decide +kernel
theorem qd_E_forget_12 : decode qc_E_forget 12 = .ok (.aload_n 0, 1) := by decide +kernel
theorem qd_E_forget_13 : decode qc_E_forget 13 = .ok (.getfield 18, 3) := by decide +kernel
theorem qd_E_forget_16 : decode qc_E_forget 16 = .ok (.invokevirtual 39, 3) := by decide +kernel
theorem qd_E_forget_19 : decode qc_E_forget 19 = .ok (.aload_n 0, 1) := by decide +kernel
theorem qd_E_forget_20 : decode qc_E_forget 20 = .ok (.getfield 24, 3) := by decide +kernel
theorem qd_E_forget_23 : decode qc_E_forget 23 = .ok (.invokevirtual 42, 3) := by decide +kernel
theorem qd_E_forget_26 : decode qc_E_forget 26 = .ok (.aload_n 0, 1) := by decide +kernel
theorem qd_E_forget_27 : decode qc_E_forget 27 = .ok (.getfield 31, 3) := by decide +kernel
theorem qd_E_forget_30 : decode qc_E_forget 30 = .ok (.invokevirtual 43, 3) := by decide +kernel
theorem qd_E_forget_33 : decode qc_E_forget 33 = .ok (.return_, 1) := by decide +kernel
theorem qd_E_surveySingles_0 : decode qc_E_surveySingles 0 = .ok (.aload_n 0, 1) := by decide +kernel
theorem qd_E_surveySingles_1 : decode qc_E_surveySingles 1 = .ok (.iconst 1, 1) := by decide +kernel
theorem qd_E_surveySingles_2 : decode qc_E_surveySingles 2 = .ok (.putfield 35, 3) := by decide +kernel
theorem qd_E_surveySingles_5 : decode qc_E_surveySingles 5 = .ok (.aload_n 0, 1) := by decide +kernel
theorem qd_E_surveySingles_6 : decode qc_E_surveySingles 6 = .ok (.getfield 18, 3) := by decide +kernel
theorem qd_E_surveySingles_9 : decode qc_E_surveySingles 9 = .ok (.aload_n 1, 1) := by decide +kernel
theorem qd_E_surveySingles_10 : decode qc_E_surveySingles 10 = .ok (.iload_n 2, 1) := by decide +kernel
theorem qd_E_surveySingles_11 : decode qc_E_surveySingles 11 = .ok (.iconst 0, 1) := by decide +kernel
theorem qd_E_surveySingles_12 : decode qc_E_surveySingles 12 = .ok (.iload_n 3, 1) := by decide +kernel
theorem qd_E_surveySingles_13 : decode qc_E_surveySingles 13 = .ok (.invokevirtual 44, 3) := by decide +kernel
theorem qd_E_surveySingles_16 : decode qc_E_surveySingles 16 = .ok (.ifCond .eq 15, 3) := by decide +kernel
theorem qd_E_surveySingles_19 : decode qc_E_surveySingles 19 = .ok (.aload_n 0, 1) := by decide +kernel
theorem qd_E_surveySingles_20 : decode qc_E_surveySingles 20 = .ok (.iconst 0, 1) := by decide +kernel
theorem qd_E_surveySingles_21 : decode qc_E_surveySingles 21 = .ok (.invokevirtual 48, 3) := by decide +kernel
theorem qd_E_surveySingles_24 : decode qc_E_surveySingles 24 = .ok (.ifCond .eq 7, 3) := by decide +kernel
theorem qd_E_surveySingles_27 : decode qc_E_surveySingles 27 = .ok (.iconst 1, 1) := by decide +kernel
theorem qd_E_surveySingles_28 : decode qc_E_surveySingles 28 = .ok (.goto 4, 3) := by decide +kernel
theorem qd_E_surveySingles_31 : decode qc_E_surveySingles 31 = .ok (.iconst 0, 1) := by decide +kernel
theorem qd_E_surveySingles_32 : decode qc_E_surveySingles 32 = .ok (.ireturn, 1) := by decide +kernel
theorem qd_E_surveyPairs_0 : decode qc_E_surveyPairs 0 = .ok (.aload_n 0, 1) := by decide +kernel
theorem qd_E_surveyPairs_1 : decode qc_E_surveyPairs 1 = .ok (.iconst 2, 1) := by decide +kernel
theorem qd_E_surveyPairs_2 : decode qc_E_surveyPairs 2 = .ok (.putfield 35, 3) := by decide +kernel
theorem qd_E_surveyPairs_5 : decode qc_E_surveyPairs 5 = .ok (.aload_n 0, 1) := by decide +kernel
theorem qd_E_surveyPairs_6 : decode qc_E_surveyPairs 6 = .ok (.getfield 12, 3) := by decide +kernel
theorem qd_E_surveyPairs_9 : decode qc_E_surveyPairs 9 = .ok (.aload_n 1, 1) := by decide +kernel
theorem qd_E_surveyPairs_10 : decode qc_E_surveyPairs 10 = .ok (.iload_n 2, 1) := by decide +kernel
theorem qd_E_surveyPairs_11 : decode qc_E_surveyPairs 11 = .ok (.iconst 0, 1) := by decide +kernel
theorem qd_E_surveyPairs_12 : decode qc_E_surveyPairs 12 = .ok (.iload_n 3, 1) := by decide +kernel
theorem qd_E_surveyPairs_13 : decode qc_E_surveyPairs 13 = .ok (.invokevirtual 44, 3) := by decide +kernel
theorem qd_E_surveyPairs_16 : decode qc_E_surveyPairs 16 = .ok (.ifCond .ne 5, 3) := by decide +kernel
theorem qd_E_surveyPairs_19 : decode qc_E_surveyPairs 19 = .ok (.iconst 0, 1) := by decide +kernel
theorem qd_E_surveyPairs_20 : decode qc_E_surveyPairs 20 = .ok (.ireturn, 1) := by decide +kernel
theorem qd_E_surveyPairs_21 : decode qc_E_surveyPairs 21 = .ok (.iconst 0, 1) := by decide +kernel
theorem qd_E_surveyPairs_22 : decode qc_E_surveyPairs 22 = .ok (.istore 4, 2) := by decide +kernel
theorem qd_E_surveyPairs_24 : decode qc_E_surveyPairs 24 = .ok (.iload 4, 2) := by decide +kernel
theorem qd_E_surveyPairs_26 : decode qc_E_surveyPairs 26 = .ok (.bipush 64, 2) := by decide +kernel
theorem qd_E_surveyPairs_28 : decode qc_E_surveyPairs 28 = .ok (.if_icmp .ge 66, 3) := by decide +kernel
theorem qd_E_surveyPairs_31 : decode qc_E_surveyPairs 31 = .ok (.aload_n 0, 1) := by decide +kernel
theorem qd_E_surveyPairs_32 : decode qc_E_surveyPairs 32 = .ok (.getfield 12, 3) := by decide +kernel
theorem qd_E_surveyPairs_35 : decode qc_E_surveyPairs 35 = .ok (.iload 4, 2) := by decide +kernel
theorem qd_E_surveyPairs_37 : decode qc_E_surveyPairs 37 = .ok (.invokevirtual 52, 3) := by decide +kernel
theorem qd_E_surveyPairs_40 : decode qc_E_surveyPairs 40 = .ok (.ifCond .eq 6, 3) := by decide +kernel
theorem qd_E_surveyPairs_43 : decode qc_E_surveyPairs 43 = .ok (.goto 45, 3) := by decide +kernel
theorem qd_E_surveyPairs_46 : decode qc_E_surveyPairs 46 = .ok (.aload_n 0, 1) := by decide +kernel
theorem qd_E_surveyPairs_47 : decode qc_E_surveyPairs 47 = .ok (.getfield 18, 3) := by decide +kernel
theorem qd_E_surveyPairs_50 : decode qc_E_surveyPairs 50 = .ok (.aload_n 1, 1) := by decide +kernel
theorem qd_E_surveyPairs_51 : decode qc_E_surveyPairs 51 = .ok (.aload_n 0, 1) := by decide +kernel
theorem qd_E_surveyPairs_52 : decode qc_E_surveyPairs 52 = .ok (.getfield 12, 3) := by decide +kernel
theorem qd_E_surveyPairs_55 : decode qc_E_surveyPairs 55 = .ok (.getfield 55, 3) := by decide +kernel
theorem qd_E_surveyPairs_58 : decode qc_E_surveyPairs 58 = .ok (.iload 4, 2) := by decide +kernel
theorem qd_E_surveyPairs_60 : decode qc_E_surveyPairs 60 = .ok (.iaload, 1) := by decide +kernel
theorem qd_E_surveyPairs_61 : decode qc_E_surveyPairs 61 = .ok (.aload_n 0, 1) := by decide +kernel
theorem qd_E_surveyPairs_62 : decode qc_E_surveyPairs 62 = .ok (.getfield 12, 3) := by decide +kernel
theorem qd_E_surveyPairs_65 : decode qc_E_surveyPairs 65 = .ok (.iload 4, 2) := by decide +kernel
theorem qd_E_surveyPairs_67 : decode qc_E_surveyPairs 67 = .ok (.invokevirtual 59, 3) := by decide +kernel
theorem qd_E_surveyPairs_70 : decode qc_E_surveyPairs 70 = .ok (.iload_n 3, 1) := by decide +kernel
theorem qd_E_surveyPairs_71 : decode qc_E_surveyPairs 71 = .ok (.invokevirtual 44, 3) := by decide +kernel
theorem qd_E_surveyPairs_74 : decode qc_E_surveyPairs 74 = .ok (.ifCond .eq 12, 3) := by decide +kernel
theorem qd_E_surveyPairs_77 : decode qc_E_surveyPairs 77 = .ok (.aload_n 0, 1) := by decide +kernel
theorem qd_E_surveyPairs_78 : decode qc_E_surveyPairs 78 = .ok (.iload 4, 2) := by decide +kernel
theorem qd_E_surveyPairs_80 : decode qc_E_surveyPairs 80 = .ok (.invokevirtual 62, 3) := by decide +kernel
theorem qd_E_surveyPairs_83 : decode qc_E_surveyPairs 83 = .ok (.ifCond .ne 5, 3) := by decide +kernel
theorem qd_E_surveyPairs_86 : decode qc_E_surveyPairs 86 = .ok (.iconst 0, 1) := by decide +kernel
theorem qd_E_surveyPairs_87 : decode qc_E_surveyPairs 87 = .ok (.ireturn, 1) := by decide +kernel
theorem qd_E_surveyPairs_88 : decode qc_E_surveyPairs 88 = .ok (.iinc 4 1, 3) := by decide +kernel
theorem qd_E_surveyPairs_91 : decode qc_E_surveyPairs 91 = .ok (.goto (-67), 3) := by decide +kernel
theorem qd_E_surveyPairs_94 : decode qc_E_surveyPairs 94 = .ok (.iconst 1, 1) := by decide +kernel
theorem qd_E_surveyPairs_95 : decode qc_E_surveyPairs 95 = .ok (.ireturn, 1) := by decide +kernel
theorem qd_E_conclude_0 : decode qc_E_conclude 0 = .ok (.iload_n 1, 1) := by decide +kernel
theorem qd_E_conclude_1 : decode qc_E_conclude 1 = .ok (.ifCond .ne 10, 3) := by decide +kernel
theorem qd_E_conclude_4 : decode qc_E_conclude 4 = .ok (.aload_n 0, 1) := by decide +kernel
theorem qd_E_conclude_5 : decode qc_E_conclude 5 = .ok (.invokevirtual 65, 3) := by decide +kernel
theorem qd_E_conclude_8 : decode qc_E_conclude 8 = .ok (.bipush (-2), 2) := by decide +kernel
theorem qd_E_conclude_10 : decode qc_E_conclude 10 = .ok (.ireturn, 1) := by decide +kernel
theorem qd_E_conclude_11 : decode qc_E_conclude 11 = .ok (.aload_n 0, 1) := by decide +kernel
theorem qd_E_conclude_12 : decode qc_E_conclude 12 = .ok (.getfield 24, 3) := by decide +kernel
theorem qd_E_conclude_15 : decode qc_E_conclude 15 = .ok (.invokevirtual 66, 3) := by decide +kernel
theorem qd_E_conclude_18 : decode qc_E_conclude 18 = .ok (.aload_n 0, 1) := by decide +kernel
theorem qd_E_conclude_19 : decode qc_E_conclude 19 = .ok (.getfield 24, 3) := by decide +kernel
theorem qd_E_conclude_22 : decode qc_E_conclude 22 = .ok (.getfield 69, 3) := by decide +kernel
theorem qd_E_conclude_25 : decode qc_E_conclude 25 = .ok (.ireturn, 1) := by decide +kernel
theorem qd_E_waysOf_0 : decode qc_E_waysOf 0 = .ok (.iload_n 1, 1) := by decide +kernel
theorem qd_E_waysOf_1 : decode qc_E_waysOf 1 = .ok (.aload_n 0, 1) := by decide +kernel
theorem qd_E_waysOf_2 : decode qc_E_waysOf 2 = .ok (.getfield 35, 3) := by decide +kernel
theorem qd_E_waysOf_5 : decode qc_E_waysOf 5 = .ok (.iconst 1, 1) := by decide +kernel
theorem qd_E_waysOf_6 : decode qc_E_waysOf 6 = .ok (.isub, 1) := by decide +kernel
theorem qd_E_waysOf_7 : decode qc_E_waysOf 7 = .ok (.if_icmp .ne 13, 3) := by decide +kernel
theorem qd_E_waysOf_10 : decode qc_E_waysOf 10 = .ok (.aload_n 0, 1) := by decide +kernel
theorem qd_E_waysOf_11 : decode qc_E_waysOf 11 = .ok (.getfield 18, 3) := by decide +kernel
theorem qd_E_waysOf_14 : decode qc_E_waysOf 14 = .ok (.getfield 72, 3) := by decide +kernel
theorem qd_E_waysOf_17 : decode qc_E_waysOf 17 = .ok (.goto 10, 3) := by decide +kernel
theorem qd_E_waysOf_20 : decode qc_E_waysOf 20 = .ok (.aload_n 0, 1) := by decide +kernel
theorem qd_E_waysOf_21 : decode qc_E_waysOf 21 = .ok (.getfield 12, 3) := by decide +kernel
theorem qd_E_waysOf_24 : decode qc_E_waysOf 24 = .ok (.getfield 72, 3) := by decide +kernel
theorem qd_E_waysOf_27 : decode qc_E_waysOf 27 = .ok (.areturn, 1) := by decide +kernel
theorem qd_E_wayOn_0 : decode qc_E_wayOn 0 = .ok (.iload_n 2, 1) := by decide +kernel
theorem qd_E_wayOn_1 : decode qc_E_wayOn 1 = .ok (.aload_n 0, 1) := by decide +kernel
theorem qd_E_wayOn_2 : decode qc_E_wayOn 2 = .ok (.getfield 35, 3) := by decide +kernel
theorem qd_E_wayOn_5 : decode qc_E_wayOn 5 = .ok (.iconst 1, 1) := by decide +kernel
theorem qd_E_wayOn_6 : decode qc_E_wayOn 6 = .ok (.isub, 1) := by decide +kernel
theorem qd_E_wayOn_7 : decode qc_E_wayOn 7 = .ok (.if_icmp .ne 15, 3) := by decide +kernel
theorem qd_E_wayOn_10 : decode qc_E_wayOn 10 = .ok (.aload_n 0, 1) := by decide +kernel
theorem qd_E_wayOn_11 : decode qc_E_wayOn 11 = .ok (.getfield 24, 3) := by decide +kernel
theorem qd_E_wayOn_14 : decode qc_E_wayOn 14 = .ok (.getfield 76, 3) := by decide +kernel
theorem qd_E_wayOn_17 : decode qc_E_wayOn 17 = .ok (.iload_n 1, 1) := by decide +kernel
theorem qd_E_wayOn_18 : decode qc_E_wayOn 18 = .ok (.iaload, 1) := by decide +kernel
theorem qd_E_wayOn_19 : decode qc_E_wayOn 19 = .ok (.goto 12, 3) := by decide +kernel
theorem qd_E_wayOn_22 : decode qc_E_wayOn 22 = .ok (.aload_n 0, 1) := by decide +kernel
theorem qd_E_wayOn_23 : decode qc_E_wayOn 23 = .ok (.getfield 24, 3) := by decide +kernel
theorem qd_E_wayOn_26 : decode qc_E_wayOn 26 = .ok (.getfield 79, 3) := by decide +kernel
theorem qd_E_wayOn_29 : decode qc_E_wayOn 29 = .ok (.iload_n 1, 1) := by decide +kernel
theorem qd_E_wayOn_30 : decode qc_E_wayOn 30 = .ok (.iaload, 1) := by decide +kernel
theorem qd_E_wayOn_31 : decode qc_E_wayOn 31 = .ok (.ireturn, 1) := by decide +kernel
theorem qd_E_countFollowersOfAllAlike_0 : decode qc_E_countFollowersOfAllAlike 0 = .ok (.iload_n 1, 1) := by decide +kernel
theorem qd_E_countFollowersOfAllAlike_1 : decode qc_E_countFollowersOfAllAlike 1 = .ok (.istore_n 2, 1) := by decide +kernel
theorem qd_E_countFollowersOfAllAlike_2 : decode qc_E_countFollowersOfAllAlike 2 = .ok (.iload_n 2, 1) := by decide +kernel
theorem qd_E_countFollowersOfAllAlike_3 : decode qc_E_countFollowersOfAllAlike 3 = .ok (.bipush 64, 2) := by decide +kernel
theorem qd_E_countFollowersOfAllAlike_5 : decode qc_E_countFollowersOfAllAlike 5 = .ok (.if_icmp .ge 31, 3) := by decide +kernel
theorem qd_E_countFollowersOfAllAlike_8 : decode qc_E_countFollowersOfAllAlike 8 = .ok (.aload_n 0, 1) := by decide +kernel
theorem qd_E_countFollowersOfAllAlike_9 : decode qc_E_countFollowersOfAllAlike 9 = .ok (.getfield 12, 3) := by decide +kernel
theorem qd_E_countFollowersOfAllAlike_12 : decode qc_E_countFollowersOfAllAlike 12 = .ok (.iload_n 1, 1) := by decide +kernel
theorem qd_E_countFollowersOfAllAlike_13 : decode qc_E_countFollowersOfAllAlike 13 = .ok (.iload_n 2, 1) := by decide +kernel
theorem qd_E_countFollowersOfAllAlike_14 : decode qc_E_countFollowersOfAllAlike 14 = .ok (.invokevirtual 82, 3) := by decide +kernel
theorem qd_E_countFollowersOfAllAlike_17 : decode qc_E_countFollowersOfAllAlike 17 = .ok (.ifCond .eq 13, 3) := by decide +kernel
theorem qd_E_countFollowersOfAllAlike_20 : decode qc_E_countFollowersOfAllAlike 20 = .ok (.aload_n 0, 1) := by decide +kernel
theorem qd_E_countFollowersOfAllAlike_21 : decode qc_E_countFollowersOfAllAlike 21 = .ok (.iload_n 2, 1) := by decide +kernel
theorem qd_E_countFollowersOfAllAlike_22 : decode qc_E_countFollowersOfAllAlike 22 = .ok (.invokevirtual 48, 3) := by decide +kernel
theorem qd_E_countFollowersOfAllAlike_25 : decode qc_E_countFollowersOfAllAlike 25 = .ok (.ifCond .ne 5, 3) := by decide +kernel
theorem qd_E_countFollowersOfAllAlike_28 : decode qc_E_countFollowersOfAllAlike 28 = .ok (.iconst 0, 1) := by decide +kernel
theorem qd_E_countFollowersOfAllAlike_29 : decode qc_E_countFollowersOfAllAlike 29 = .ok (.ireturn, 1) := by decide +kernel
theorem qd_E_countFollowersOfAllAlike_30 : decode qc_E_countFollowersOfAllAlike 30 = .ok (.iinc 2 1, 3) := by decide +kernel
theorem qd_E_countFollowersOfAllAlike_33 : decode qc_E_countFollowersOfAllAlike 33 = .ok (.goto (-31), 3) := by decide +kernel
theorem qd_E_countFollowersOfAllAlike_36 : decode qc_E_countFollowersOfAllAlike 36 = .ok (.iconst 1, 1) := by decide +kernel
theorem qd_E_countFollowersOfAllAlike_37 : decode qc_E_countFollowersOfAllAlike 37 = .ok (.ireturn, 1) := by decide +kernel
theorem qd_E_countFollowers_0 : decode qc_E_countFollowers 0 = .ok (.iconst 0, 1) := by decide +kernel
theorem qd_E_countFollowers_1 : decode qc_E_countFollowers 1 = .ok (.istore_n 2, 1) := by decide +kernel
theorem qd_E_countFollowers_2 : decode qc_E_countFollowers 2 = .ok (.iload_n 2, 1) := by decide +kernel
theorem qd_E_countFollowers_3 : decode qc_E_countFollowers 3 = .ok (.bipush 64, 2) := by decide +kernel
theorem qd_E_countFollowers_5 : decode qc_E_countFollowers 5 = .ok (.if_icmp .ge 121, 3) := by decide +kernel
theorem qd_E_countFollowers_8 : decode qc_E_countFollowers 8 = .ok (.iload_n 1, 1) := by decide +kernel
theorem qd_E_countFollowers_9 : decode qc_E_countFollowers 9 = .ok (.bipush 64, 2) := by decide +kernel
theorem qd_E_countFollowers_11 : decode qc_E_countFollowers 11 = .ok (.imul, 1) := by decide +kernel
theorem qd_E_countFollowers_12 : decode qc_E_countFollowers 12 = .ok (.iload_n 2, 1) := by decide +kernel
theorem qd_E_countFollowers_13 : decode qc_E_countFollowers 13 = .ok (.iadd, 1) := by decide +kernel
theorem qd_E_countFollowers_14 : decode qc_E_countFollowers 14 = .ok (.istore_n 3, 1) := by decide +kernel
theorem qd_E_countFollowers_15 : decode qc_E_countFollowers 15 = .ok (.aload_n 0, 1) := by decide +kernel
theorem qd_E_countFollowers_16 : decode qc_E_countFollowers 16 = .ok (.getfield 24, 3) := by decide +kernel
theorem qd_E_countFollowers_19 : decode qc_E_countFollowers 19 = .ok (.aload_n 0, 1) := by decide +kernel
theorem qd_E_countFollowers_20 : decode qc_E_countFollowers 20 = .ok (.getfield 12, 3) := by decide +kernel
theorem qd_E_countFollowers_23 : decode qc_E_countFollowers 23 = .ok (.getfield 86, 3) := by decide +kernel
theorem qd_E_countFollowers_26 : decode qc_E_countFollowers 26 = .ok (.iload_n 1, 1) := by decide +kernel
theorem qd_E_countFollowers_27 : decode qc_E_countFollowers 27 = .ok (.iaload, 1) := by decide +kernel
theorem qd_E_countFollowers_28 : decode qc_E_countFollowers 28 = .ok (.aload_n 0, 1) := by decide +kernel
theorem qd_E_countFollowers_29 : decode qc_E_countFollowers 29 = .ok (.getfield 18, 3) := by decide +kernel
theorem qd_E_countFollowers_32 : decode qc_E_countFollowers 32 = .ok (.getfield 86, 3) := by decide +kernel
theorem qd_E_countFollowers_35 : decode qc_E_countFollowers 35 = .ok (.iload_n 2, 1) := by decide +kernel
theorem qd_E_countFollowers_36 : decode qc_E_countFollowers 36 = .ok (.iaload, 1) := by decide +kernel
theorem qd_E_countFollowers_37 : decode qc_E_countFollowers 37 = .ok (.iload_n 3, 1) := by decide +kernel
theorem qd_E_countFollowers_38 : decode qc_E_countFollowers 38 = .ok (.aload_n 0, 1) := by decide +kernel
theorem qd_E_countFollowers_39 : decode qc_E_countFollowers 39 = .ok (.getfield 18, 3) := by decide +kernel
theorem qd_E_countFollowers_42 : decode qc_E_countFollowers 42 = .ok (.getfield 55, 3) := by decide +kernel
theorem qd_E_countFollowers_45 : decode qc_E_countFollowers 45 = .ok (.iload_n 2, 1) := by decide +kernel
theorem qd_E_countFollowers_46 : decode qc_E_countFollowers 46 = .ok (.iaload, 1) := by decide +kernel
theorem qd_E_countFollowers_47 : decode qc_E_countFollowers 47 = .ok (.invokevirtual 89, 3) := by decide +kernel
theorem qd_E_countFollowers_50 : decode qc_E_countFollowers 50 = .ok (.istore 4, 2) := by decide +kernel
theorem qd_E_countFollowers_52 : decode qc_E_countFollowers 52 = .ok (.iload 4, 2) := by decide +kernel
theorem qd_E_countFollowers_54 : decode qc_E_countFollowers 54 = .ok (.iconst (-1), 1) := by decide +kernel
theorem qd_E_countFollowers_55 : decode qc_E_countFollowers 55 = .ok (.if_icmp .ne 5, 3) := by decide +kernel
theorem qd_E_countFollowers_58 : decode qc_E_countFollowers 58 = .ok (.iconst 0, 1) := by decide +kernel
theorem qd_E_countFollowers_59 : decode qc_E_countFollowers 59 = .ok (.ireturn, 1) := by decide +kernel
theorem qd_E_countFollowers_60 : decode qc_E_countFollowers 60 = .ok (.iconst 0, 1) := by decide +kernel
theorem qd_E_countFollowers_61 : decode qc_E_countFollowers 61 = .ok (.istore 5, 2) := by decide +kernel
theorem qd_E_countFollowers_63 : decode qc_E_countFollowers 63 = .ok (.iload 5, 2) := by decide +kernel
theorem qd_E_countFollowers_65 : decode qc_E_countFollowers 65 = .ok (.iconst 5, 1) := by decide +kernel
theorem qd_E_countFollowers_66 : decode qc_E_countFollowers 66 = .ok (.if_icmp .ge 54, 3) := by decide +kernel
theorem qd_E_countFollowers_69 : decode qc_E_countFollowers 69 = .ok (.aload_n 0, 1) := by decide +kernel
theorem qd_E_countFollowers_70 : decode qc_E_countFollowers 70 = .ok (.getfield 12, 3) := by decide +kernel
theorem qd_E_countFollowers_73 : decode qc_E_countFollowers 73 = .ok (.getfield 93, 3) := by decide +kernel
theorem qd_E_countFollowers_76 : decode qc_E_countFollowers 76 = .ok (.iload_n 1, 1) := by decide +kernel
theorem qd_E_countFollowers_77 : decode qc_E_countFollowers 77 = .ok (.iconst 5, 1) := by decide +kernel
theorem qd_E_countFollowers_78 : decode qc_E_countFollowers 78 = .ok (.imul, 1) := by decide +kernel
theorem qd_E_countFollowers_79 : decode qc_E_countFollowers 79 = .ok (.iload 5, 2) := by decide +kernel
theorem qd_E_countFollowers_81 : decode qc_E_countFollowers 81 = .ok (.iadd, 1) := by decide +kernel
theorem qd_E_countFollowers_82 : decode qc_E_countFollowers 82 = .ok (.iaload, 1) := by decide +kernel
theorem qd_E_countFollowers_83 : decode qc_E_countFollowers 83 = .ok (.aload_n 0, 1) := by decide +kernel
theorem qd_E_countFollowers_84 : decode qc_E_countFollowers 84 = .ok (.getfield 18, 3) := by decide +kernel
theorem qd_E_countFollowers_87 : decode qc_E_countFollowers 87 = .ok (.getfield 93, 3) := by decide +kernel
theorem qd_E_countFollowers_90 : decode qc_E_countFollowers 90 = .ok (.iload_n 2, 1) := by decide +kernel
theorem qd_E_countFollowers_91 : decode qc_E_countFollowers 91 = .ok (.iconst 5, 1) := by decide +kernel
theorem qd_E_countFollowers_92 : decode qc_E_countFollowers 92 = .ok (.imul, 1) := by decide +kernel
theorem qd_E_countFollowers_93 : decode qc_E_countFollowers 93 = .ok (.iload 5, 2) := by decide +kernel
theorem qd_E_countFollowers_95 : decode qc_E_countFollowers 95 = .ok (.iadd, 1) := by decide +kernel
theorem qd_E_countFollowers_96 : decode qc_E_countFollowers 96 = .ok (.iaload, 1) := by decide +kernel
theorem qd_E_countFollowers_97 : decode qc_E_countFollowers 97 = .ok (.ior, 1) := by decide +kernel
theorem qd_E_countFollowers_98 : decode qc_E_countFollowers 98 = .ok (.istore 6, 2) := by decide +kernel
theorem qd_E_countFollowers_100 : decode qc_E_countFollowers 100 = .ok (.aload_n 0, 1) := by decide +kernel
theorem qd_E_countFollowers_101 : decode qc_E_countFollowers 101 = .ok (.getfield 31, 3) := by decide +kernel
theorem qd_E_countFollowers_104 : decode qc_E_countFollowers 104 = .ok (.iload 4, 2) := by decide +kernel
theorem qd_E_countFollowers_106 : decode qc_E_countFollowers 106 = .ok (.iload 5, 2) := by decide +kernel
theorem qd_E_countFollowers_108 : decode qc_E_countFollowers 108 = .ok (.iload 6, 2) := by decide +kernel
theorem qd_E_countFollowers_110 : decode qc_E_countFollowers 110 = .ok (.iload_n 3, 1) := by decide +kernel
theorem qd_E_countFollowers_111 : decode qc_E_countFollowers 111 = .ok (.invokevirtual 96, 3) := by decide +kernel
theorem qd_E_countFollowers_114 : decode qc_E_countFollowers 114 = .ok (.iinc 5 1, 3) := by decide +kernel
theorem qd_E_countFollowers_117 : decode qc_E_countFollowers 117 = .ok (.goto (-54), 3) := by decide +kernel
theorem qd_E_countFollowers_120 : decode qc_E_countFollowers 120 = .ok (.iinc 2 1, 3) := by decide +kernel
theorem qd_E_countFollowers_123 : decode qc_E_countFollowers 123 = .ok (.goto (-121), 3) := by decide +kernel
theorem qd_E_countFollowers_126 : decode qc_E_countFollowers 126 = .ok (.iconst 1, 1) := by decide +kernel
theorem qd_E_countFollowers_127 : decode qc_E_countFollowers 127 = .ok (.ireturn, 1) := by decide +kernel
theorem qd_P_init_0 : decode qc_P_init 0 = .ok (.aload_n 0, 1) := by decide +kernel
theorem qd_P_init_1 : decode qc_P_init 1 = .ok (.invokespecial 3, 3) := by decide +kernel
theorem qd_P_init_4 : decode qc_P_init 4 = .ok (.aload_n 0, 1) := by decide +kernel
theorem qd_P_init_5 : decode qc_P_init 5 = .ok (.sipush 1600, 3) := by decide +kernel
theorem qd_P_init_8 : decode qc_P_init 8 = .ok (.newarray .int, 2) := by decide +kernel
theorem qd_P_init_10 : decode qc_P_init 10 = .ok (.putfield 9, 3) := by decide +kernel
theorem qd_P_init_13 : decode qc_P_init 13 = .ok (.aload_n 0, 1) := by decide +kernel
theorem qd_P_init_14 : decode qc_P_init 14 = .ok (.bipush 40, 2) := by decide +kernel
theorem qd_P_init_16 : decode qc_P_init 16 = .ok (.newarray .int, 2) := by decide +kernel
theorem qd_P_init_18 : decode qc_P_init 18 = .ok (.putfield 15, 3) := by decide +kernel
theorem qd_P_init_21 : decode qc_P_init 21 = .ok (.aload_n 0, 1) := by decide +kernel
theorem qd_P_init_22 : decode qc_P_init 22 = .ok (.bipush 40, 2) := by decide +kernel
theorem qd_P_init_24 : decode qc_P_init 24 = .ok (.newarray .int, 2) := by decide +kernel
theorem qd_P_init_26 : decode qc_P_init 26 = .ok (.putfield 18, 3) := by decide +kernel
theorem qd_P_init_29 : decode qc_P_init 29 = .ok (.aload_n 0, 1) := by decide +kernel
theorem qd_P_init_30 : decode qc_P_init 30 = .ok (.bipush 40, 2) := by decide +kernel
theorem qd_P_init_32 : decode qc_P_init 32 = .ok (.newarray .int, 2) := by decide +kernel
theorem qd_P_init_34 : decode qc_P_init 34 = .ok (.putfield 21, 3) := by decide +kernel
theorem qd_P_init_37 : decode qc_P_init 37 = .ok (.aload_n 0, 1) := by decide +kernel
theorem qd_P_init_38 : decode qc_P_init 38 = .ok (.bipush 40, 2) := by decide +kernel
theorem qd_P_init_40 : decode qc_P_init 40 = .ok (.newarray .int, 2) := by decide +kernel
theorem qd_P_init_42 : decode qc_P_init 42 = .ok (.putfield 24, 3) := by decide +kernel
theorem qd_P_init_45 : decode qc_P_init 45 = .ok (.aload_n 0, 1) := by decide +kernel
theorem qd_P_init_46 : decode qc_P_init 46 = .ok (.bipush 40, 2) := by decide +kernel
theorem qd_P_init_48 : decode qc_P_init 48 = .ok (.newarray .int, 2) := by decide +kernel
theorem qd_P_init_50 : decode qc_P_init 50 = .ok (.putfield 27, 3) := by decide +kernel
theorem qd_P_init_53 : decode qc_P_init 53 = .ok (.aload_n 0, 1) := by decide +kernel
theorem qd_P_init_54 : decode qc_P_init 54 = .ok (.bipush 40, 2) := by decide +kernel
theorem qd_P_init_56 : decode qc_P_init 56 = .ok (.newarray .int, 2) := by decide +kernel
theorem qd_P_init_58 : decode qc_P_init 58 = .ok (.putfield 30, 3) := by decide +kernel
theorem qd_P_init_61 : decode qc_P_init 61 = .ok (.aload_n 0, 1) := by decide +kernel
theorem qd_P_init_62 : decode qc_P_init 62 = .ok (.bipush 40, 2) := by decide +kernel
theorem qd_P_init_64 : decode qc_P_init 64 = .ok (.newarray .int, 2) := by decide +kernel
theorem qd_P_init_66 : decode qc_P_init 66 = .ok (.putfield 33, 3) := by decide +kernel
theorem qd_P_init_69 : decode qc_P_init 69 = .ok (.aload_n 0, 1) := by decide +kernel
theorem qd_P_init_70 : decode qc_P_init 70 = .ok (.iconst 0, 1) := by decide +kernel
theorem qd_P_init_71 : decode qc_P_init 71 = .ok (.putfield 36, 3) := by decide +kernel
theorem qd_P_init_74 : decode qc_P_init 74 = .ok (.return_, 1) := by decide +kernel
theorem qd_P_forget_0 : decode qc_P_forget 0 = .ok (.aload_n 0, 1) := by decide +kernel
theorem qd_P_forget_1 : decode qc_P_forget 1 = .ok (.iconst 0, 1) := by decide +kernel
theorem qd_P_forget_2 : decode qc_P_forget 2 = .ok (.putfield 36, 3) := by decide +kernel
theorem qd_P_forget_5 : decode qc_P_forget 5 = .ok (.aload_n 0, 1) := by decide +kernel
theorem qd_P_forget_6 : decode qc_P_forget 6 = .ok (.getfield 9, 3) := by decide +kernel
theorem qd_P_forget_9 : decode qc_P_forget 9 = .ok (.iconst (-1), 1) := by decide +kernel
theorem qd_P_forget_10 : decode qc_P_forget 10 = .ok (.invokestatic 40, 3) := by decide +kernel
theorem qd_P_forget_13 : decode qc_P_forget 13 = .ok (.return_, 1) := by decide +kernel
theorem qd_P_rowOf_0 : decode qc_P_rowOf 0 = .ok (.iload_n 1, 1) := by decide +kernel
theorem qd_P_rowOf_1 : decode qc_P_rowOf 1 = .ok (.aload_n 0, 1) := by decide +kernel
theorem qd_P_rowOf_2 : decode qc_P_rowOf 2 = .ok (.getfield 36, 3) := by decide +kernel
theorem qd_P_rowOf_5 : decode qc_P_rowOf 5 = .ok (.invokestatic 46, 3) := by decide +kernel
theorem qd_P_rowOf_8 : decode qc_P_rowOf 8 = .ok (.ifCond .eq 12, 3) := by decide +kernel
theorem qd_P_rowOf_11 : decode qc_P_rowOf 11 = .ok (.aload_n 0, 1) := by decide +kernel
theorem qd_P_rowOf_12 : decode qc_P_rowOf 12 = .ok (.getfield 33, 3) := by decide +kernel
theorem qd_P_rowOf_15 : decode qc_P_rowOf 15 = .ok (.iload_n 1, 1) := by decide +kernel
theorem qd_P_rowOf_16 : decode qc_P_rowOf 16 = .ok (.iaload, 1) := by decide +kernel
theorem qd_P_rowOf_17 : decode qc_P_rowOf 17 = .ok (.goto 4, 3) := by decide +kernel
theorem qd_P_rowOf_20 : decode qc_P_rowOf 20 = .ok (.iconst (-1), 1) := by decide +kernel
theorem qd_P_rowOf_21 : decode qc_P_rowOf 21 = .ok (.ireturn, 1) := by decide +kernel
theorem qd_P_meet_0 : decode qc_P_meet 0 = .ok (.aload_n 0, 1) := by decide +kernel
theorem qd_P_meet_1 : decode qc_P_meet 1 = .ok (.getfield 9, 3) := by decide +kernel
theorem qd_P_meet_4 : decode qc_P_meet 4 = .ok (.iload_n 1, 1) := by decide +kernel
theorem qd_P_meet_5 : decode qc_P_meet 5 = .ok (.bipush 40, 2) := by decide +kernel
theorem qd_P_meet_7 : decode qc_P_meet 7 = .ok (.imul, 1) := by decide +kernel
theorem qd_P_meet_8 : decode qc_P_meet 8 = .ok (.iload_n 2, 1) := by decide +kernel
theorem qd_P_meet_9 : decode qc_P_meet 9 = .ok (.iadd, 1) := by decide +kernel
theorem qd_P_meet_10 : decode qc_P_meet 10 = .ok (.iaload, 1) := by decide +kernel
theorem qd_P_meet_11 : decode qc_P_meet 11 = .ok (.istore 5, 2) := by decide +kernel
theorem qd_P_meet_13 : decode qc_P_meet 13 = .ok (.iload 5, 2) := by decide +kernel
theorem qd_P_meet_15 : decode qc_P_meet 15 = .ok (.iconst (-1), 1) := by decide +kernel
theorem qd_P_meet_16 : decode qc_P_meet 16 = .ok (.if_icmp .ne 13, 3) := by decide +kernel
theorem qd_P_meet_19 : decode qc_P_meet 19 = .ok (.aload_n 0, 1) := by decide +kernel
theorem qd_P_meet_20 : decode qc_P_meet 20 = .ok (.iload_n 1, 1) := by decide +kernel
theorem qd_P_meet_21 : decode qc_P_meet 21 = .ok (.iload_n 2, 1) := by decide +kernel
theorem qd_P_meet_22 : decode qc_P_meet 22 = .ok (.iload_n 3, 1) := by decide +kernel
theorem qd_P_meet_23 : decode qc_P_meet 23 = .ok (.iload 4, 2) := by decide +kernel
theorem qd_P_meet_25 : decode qc_P_meet 25 = .ok (.invokevirtual 50, 3) := by decide +kernel
theorem qd_P_meet_28 : decode qc_P_meet 28 = .ok (.ireturn, 1) := by decide +kernel
theorem qd_P_meet_29 : decode qc_P_meet 29 = .ok (.aload_n 0, 1) := by decide +kernel
theorem qd_P_meet_30 : decode qc_P_meet 30 = .ok (.getfield 21, 3) := by decide +kernel
theorem qd_P_meet_33 : decode qc_P_meet 33 = .ok (.iload 5, 2) := by decide +kernel
theorem qd_P_meet_35 : decode qc_P_meet 35 = .ok (.dup2, 1) := by decide +kernel
theorem qd_P_meet_36 : decode qc_P_meet 36 = .ok (.iaload, 1) := by decide +kernel
theorem qd_P_meet_37 : decode qc_P_meet 37 = .ok (.iconst 1, 1) := by decide +kernel
theorem qd_P_meet_38 : decode qc_P_meet 38 = .ok (.iadd, 1) := by decide +kernel
theorem qd_P_meet_39 : decode qc_P_meet 39 = .ok (.iastore, 1) := by decide +kernel
theorem qd_P_meet_40 : decode qc_P_meet 40 = .ok (.aload_n 0, 1) := by decide +kernel
theorem qd_P_meet_41 : decode qc_P_meet 41 = .ok (.getfield 30, 3) := by decide +kernel
theorem qd_P_meet_44 : decode qc_P_meet 44 = .ok (.iload 5, 2) := by decide +kernel
theorem qd_P_meet_46 : decode qc_P_meet 46 = .ok (.dup2, 1) := by decide +kernel
theorem qd_P_meet_47 : decode qc_P_meet 47 = .ok (.iaload, 1) := by decide +kernel
theorem qd_P_meet_48 : decode qc_P_meet 48 = .ok (.aload_n 0, 1) := by decide +kernel
theorem qd_P_meet_49 : decode qc_P_meet 49 = .ok (.getfield 27, 3) := by decide +kernel
theorem qd_P_meet_52 : decode qc_P_meet 52 = .ok (.iload 5, 2) := by decide +kernel
theorem qd_P_meet_54 : decode qc_P_meet 54 = .ok (.iaload, 1) := by decide +kernel
theorem qd_P_meet_55 : decode qc_P_meet 55 = .ok (.iload 4, 2) := by decide +kernel
theorem qd_P_meet_57 : decode qc_P_meet 57 = .ok (.ixor, 1) := by decide +kernel
theorem qd_P_meet_58 : decode qc_P_meet 58 = .ok (.ior, 1) := by decide +kernel
theorem qd_P_meet_59 : decode qc_P_meet 59 = .ok (.iastore, 1) := by decide +kernel
theorem qd_P_meet_60 : decode qc_P_meet 60 = .ok (.iload_n 3, 1) := by decide +kernel
theorem qd_P_meet_61 : decode qc_P_meet 61 = .ok (.aload_n 0, 1) := by decide +kernel
theorem qd_P_meet_62 : decode qc_P_meet 62 = .ok (.getfield 24, 3) := by decide +kernel
theorem qd_P_meet_65 : decode qc_P_meet 65 = .ok (.iload 5, 2) := by decide +kernel
theorem qd_P_meet_67 : decode qc_P_meet 67 = .ok (.iaload, 1) := by decide +kernel
theorem qd_P_meet_68 : decode qc_P_meet 68 = .ok (.if_icmp .ge 20, 3) := by decide +kernel
theorem qd_P_meet_71 : decode qc_P_meet 71 = .ok (.aload_n 0, 1) := by decide +kernel
theorem qd_P_meet_72 : decode qc_P_meet 72 = .ok (.getfield 24, 3) := by decide +kernel
theorem qd_P_meet_75 : decode qc_P_meet 75 = .ok (.iload 5, 2) := by decide +kernel
theorem qd_P_meet_77 : decode qc_P_meet 77 = .ok (.iload_n 3, 1) := by decide +kernel
theorem qd_P_meet_78 : decode qc_P_meet 78 = .ok (.iastore, 1) := by decide +kernel
theorem qd_P_meet_79 : decode qc_P_meet 79 = .ok (.aload_n 0, 1) := by decide +kernel
theorem qd_P_meet_80 : decode qc_P_meet 80 = .ok (.getfield 27, 3) := by decide +kernel
theorem qd_P_meet_83 : decode qc_P_meet 83 = .ok (.iload 5, 2) := by decide +kernel
theorem qd_P_meet_85 : decode qc_P_meet 85 = .ok (.iload 4, 2) := by decide +kernel
theorem qd_P_meet_87 : decode qc_P_meet 87 = .ok (.iastore, 1) := by decide +kernel
theorem qd_P_meet_88 : decode qc_P_meet 88 = .ok (.iload 5, 2) := by decide +kernel
theorem qd_P_meet_90 : decode qc_P_meet 90 = .ok (.ireturn, 1) := by decide +kernel
theorem qd_P_open_0 : decode qc_P_open 0 = .ok (.aload_n 0, 1) := by decide +kernel
theorem qd_P_open_1 : decode qc_P_open 1 = .ok (.getfield 36, 3) := by decide +kernel
theorem qd_P_open_4 : decode qc_P_open 4 = .ok (.bipush 40, 2) := by decide +kernel
theorem qd_P_open_6 : decode qc_P_open 6 = .ok (.if_icmp .lt 5, 3) := by decide +kernel
theorem qd_P_open_9 : decode qc_P_open 9 = .ok (.iconst (-1), 1) := by decide +kernel
theorem qd_P_open_10 : decode qc_P_open 10 = .ok (.ireturn, 1) := by decide +kernel
theorem qd_P_open_11 : decode qc_P_open 11 = .ok (.aload_n 0, 1) := by decide +kernel
theorem qd_P_open_12 : decode qc_P_open 12 = .ok (.getfield 36, 3) := by decide +kernel
theorem qd_P_open_15 : decode qc_P_open 15 = .ok (.istore 5, 2) := by decide +kernel
theorem qd_P_open_17 : decode qc_P_open 17 = .ok (.aload_n 0, 1) := by decide +kernel
theorem qd_P_open_18 : decode qc_P_open 18 = .ok (.dup, 1) := by decide +kernel
theorem qd_P_open_19 : decode qc_P_open 19 = .ok (.getfield 36, 3) := by decide +kernel
theorem qd_P_open_22 : decode qc_P_open 22 = .ok (.iconst 1, 1) := by decide +kernel
theorem qd_P_open_23 : decode qc_P_open 23 = .ok (.iadd, 1) := by decide +kernel
theorem qd_P_open_24 : decode qc_P_open 24 = .ok (.putfield 36, 3) := by decide +kernel
theorem qd_P_open_27 : decode qc_P_open 27 = .ok (.aload_n 0, 1) := by decide +kernel
theorem qd_P_open_28 : decode qc_P_open 28 = .ok (.getfield 9, 3) := by decide +kernel
theorem qd_P_open_31 : decode qc_P_open 31 = .ok (.iload_n 1, 1) := by decide +kernel
theorem qd_P_open_32 : decode qc_P_open 32 = .ok (.bipush 40, 2) := by decide +kernel
theorem qd_P_open_34 : decode qc_P_open 34 = .ok (.imul, 1) := by decide +kernel
theorem qd_P_open_35 : decode qc_P_open 35 = .ok (.iload_n 2, 1) := by decide +kernel
theorem qd_P_open_36 : decode qc_P_open 36 = .ok (.iadd, 1) := by decide +kernel
theorem qd_P_open_37 : decode qc_P_open 37 = .ok (.iload 5, 2) := by decide +kernel
theorem qd_P_open_39 : decode qc_P_open 39 = .ok (.iastore, 1) := by decide +kernel
theorem qd_P_open_40 : decode qc_P_open 40 = .ok (.aload_n 0, 1) := by decide +kernel
theorem qd_P_open_41 : decode qc_P_open 41 = .ok (.getfield 15, 3) := by decide +kernel
theorem qd_P_open_44 : decode qc_P_open 44 = .ok (.iload 5, 2) := by decide +kernel
theorem qd_P_open_46 : decode qc_P_open 46 = .ok (.iload_n 1, 1) := by decide +kernel
theorem qd_P_open_47 : decode qc_P_open 47 = .ok (.iastore, 1) := by decide +kernel
theorem qd_P_open_48 : decode qc_P_open 48 = .ok (.aload_n 0, 1) := by decide +kernel
theorem qd_P_open_49 : decode qc_P_open 49 = .ok (.getfield 18, 3) := by decide +kernel
theorem qd_P_open_52 : decode qc_P_open 52 = .ok (.iload 5, 2) := by decide +kernel
theorem qd_P_open_54 : decode qc_P_open 54 = .ok (.iload_n 2, 1) := by decide +kernel
theorem qd_P_open_55 : decode qc_P_open 55 = .ok (.iastore, 1) := by decide +kernel
theorem qd_P_open_56 : decode qc_P_open 56 = .ok (.aload_n 0, 1) := by decide +kernel
theorem qd_P_open_57 : decode qc_P_open 57 = .ok (.getfield 21, 3) := by decide +kernel
theorem qd_P_open_60 : decode qc_P_open 60 = .ok (.iload 5, 2) := by decide +kernel
theorem qd_P_open_62 : decode qc_P_open 62 = .ok (.iconst 1, 1) := by decide +kernel
theorem qd_P_open_63 : decode qc_P_open 63 = .ok (.iastore, 1) := by decide +kernel
theorem qd_P_open_64 : decode qc_P_open 64 = .ok (.aload_n 0, 1) := by decide +kernel
theorem qd_P_open_65 : decode qc_P_open 65 = .ok (.getfield 24, 3) := by decide +kernel
theorem qd_P_open_68 : decode qc_P_open 68 = .ok (.iload 5, 2) := by decide +kernel
theorem qd_P_open_70 : decode qc_P_open 70 = .ok (.iload_n 3, 1) := by decide +kernel
theorem qd_P_open_71 : decode qc_P_open 71 = .ok (.iastore, 1) := by decide +kernel
theorem qd_P_open_72 : decode qc_P_open 72 = .ok (.aload_n 0, 1) := by decide +kernel
theorem qd_P_open_73 : decode qc_P_open 73 = .ok (.getfield 27, 3) := by decide +kernel
theorem qd_P_open_76 : decode qc_P_open 76 = .ok (.iload 5, 2) := by decide +kernel
theorem qd_P_open_78 : decode qc_P_open 78 = .ok (.iload 4, 2) := by decide +kernel
theorem qd_P_open_80 : decode qc_P_open 80 = .ok (.iastore, 1) := by decide +kernel
theorem qd_P_open_81 : decode qc_P_open 81 = .ok (.aload_n 0, 1) := by decide +kernel
theorem qd_P_open_82 : decode qc_P_open 82 = .ok (.getfield 30, 3) := by decide +kernel
theorem qd_P_open_85 : decode qc_P_open 85 = .ok (.iload 5, 2) := by decide +kernel
theorem qd_P_open_87 : decode qc_P_open 87 = .ok (.iconst 0, 1) := by decide +kernel
theorem qd_P_open_88 : decode qc_P_open 88 = .ok (.iastore, 1) := by decide +kernel
theorem qd_P_open_89 : decode qc_P_open 89 = .ok (.iload 5, 2) := by decide +kernel
theorem qd_P_open_91 : decode qc_P_open 91 = .ok (.ireturn, 1) := by decide +kernel
theorem qd_P_putInOrder_0 : decode qc_P_putInOrder 0 = .ok (.iconst 0, 1) := by decide +kernel
theorem qd_P_putInOrder_1 : decode qc_P_putInOrder 1 = .ok (.istore_n 1, 1) := by decide +kernel
theorem qd_P_putInOrder_2 : decode qc_P_putInOrder 2 = .ok (.iload_n 1, 1) := by decide +kernel
theorem qd_P_putInOrder_3 : decode qc_P_putInOrder 3 = .ok (.aload_n 0, 1) := by decide +kernel
theorem qd_P_putInOrder_4 : decode qc_P_putInOrder 4 = .ok (.getfield 36, 3) := by decide +kernel
theorem qd_P_putInOrder_7 : decode qc_P_putInOrder 7 = .ok (.if_icmp .ge 52, 3) := by decide +kernel
theorem qd_P_putInOrder_10 : decode qc_P_putInOrder 10 = .ok (.iconst 0, 1) := by decide +kernel
theorem qd_P_putInOrder_11 : decode qc_P_putInOrder 11 = .ok (.istore_n 2, 1) := by decide +kernel
theorem qd_P_putInOrder_12 : decode qc_P_putInOrder 12 = .ok (.iconst 0, 1) := by decide +kernel
theorem qd_P_putInOrder_13 : decode qc_P_putInOrder 13 = .ok (.istore_n 3, 1) := by decide +kernel
theorem qd_P_putInOrder_14 : decode qc_P_putInOrder 14 = .ok (.iload_n 3, 1) := by decide +kernel
theorem qd_P_putInOrder_15 : decode qc_P_putInOrder 15 = .ok (.aload_n 0, 1) := by decide +kernel
theorem qd_P_putInOrder_16 : decode qc_P_putInOrder 16 = .ok (.getfield 36, 3) := by decide +kernel
theorem qd_P_putInOrder_19 : decode qc_P_putInOrder 19 = .ok (.if_icmp .ge 27, 3) := by decide +kernel
theorem qd_P_putInOrder_22 : decode qc_P_putInOrder 22 = .ok (.aload_n 0, 1) := by decide +kernel
theorem qd_P_putInOrder_23 : decode qc_P_putInOrder 23 = .ok (.getfield 24, 3) := by decide +kernel
theorem qd_P_putInOrder_26 : decode qc_P_putInOrder 26 = .ok (.iload_n 3, 1) := by decide +kernel
theorem qd_P_putInOrder_27 : decode qc_P_putInOrder 27 = .ok (.iaload, 1) := by decide +kernel
theorem qd_P_putInOrder_28 : decode qc_P_putInOrder 28 = .ok (.aload_n 0, 1) := by decide +kernel
theorem qd_P_putInOrder_29 : decode qc_P_putInOrder 29 = .ok (.getfield 24, 3) := by decide +kernel
theorem qd_P_putInOrder_32 : decode qc_P_putInOrder 32 = .ok (.iload_n 1, 1) := by decide +kernel
theorem qd_P_putInOrder_33 : decode qc_P_putInOrder 33 = .ok (.iaload, 1) := by decide +kernel
theorem qd_P_putInOrder_34 : decode qc_P_putInOrder 34 = .ok (.if_icmp .ge 6, 3) := by decide +kernel
theorem qd_P_putInOrder_37 : decode qc_P_putInOrder 37 = .ok (.iinc 2 1, 3) := by decide +kernel
theorem qd_P_putInOrder_40 : decode qc_P_putInOrder 40 = .ok (.iinc 3 1, 3) := by decide +kernel
theorem qd_P_putInOrder_43 : decode qc_P_putInOrder 43 = .ok (.goto (-29), 3) := by decide +kernel
theorem qd_P_putInOrder_46 : decode qc_P_putInOrder 46 = .ok (.aload_n 0, 1) := by decide +kernel
theorem qd_P_putInOrder_47 : decode qc_P_putInOrder 47 = .ok (.getfield 33, 3) := by decide +kernel
theorem qd_P_putInOrder_50 : decode qc_P_putInOrder 50 = .ok (.iload_n 2, 1) := by decide +kernel
theorem qd_P_putInOrder_51 : decode qc_P_putInOrder 51 = .ok (.iload_n 1, 1) := by decide +kernel
theorem qd_P_putInOrder_52 : decode qc_P_putInOrder 52 = .ok (.iastore, 1) := by decide +kernel
theorem qd_P_putInOrder_53 : decode qc_P_putInOrder 53 = .ok (.iinc 1 1, 3) := by decide +kernel
theorem qd_P_putInOrder_56 : decode qc_P_putInOrder 56 = .ok (.goto (-54), 3) := by decide +kernel
theorem qd_P_putInOrder_59 : decode qc_P_putInOrder 59 = .ok (.return_, 1) := by decide +kernel
theorem qd_T_init_0 : decode qc_T_init 0 = .ok (.aload_n 0, 1) := by decide +kernel
theorem qd_T_init_1 : decode qc_T_init 1 = .ok (.invokespecial 3, 3) := by decide +kernel
theorem qd_T_init_4 : decode qc_T_init 4 = .ok (.aload_n 0, 1) := by decide +kernel
theorem qd_T_init_5 : decode qc_T_init 5 = .ok (.sipush 160, 3) := by decide +kernel
theorem qd_T_init_8 : decode qc_T_init 8 = .ok (.newarray .int, 2) := by decide +kernel
theorem qd_T_init_10 : decode qc_T_init 10 = .ok (.putfield 9, 3) := by decide +kernel
theorem qd_T_init_13 : decode qc_T_init 13 = .ok (.aload_n 0, 1) := by decide +kernel
theorem qd_T_init_14 : decode qc_T_init 14 = .ok (.sipush 6400, 3) := by decide +kernel
theorem qd_T_init_17 : decode qc_T_init 17 = .ok (.newarray .int, 2) := by decide +kernel
theorem qd_T_init_19 : decode qc_T_init 19 = .ok (.putfield 15, 3) := by decide +kernel
theorem qd_T_init_22 : decode qc_T_init 22 = .ok (.aload_n 0, 1) := by decide +kernel
theorem qd_T_init_23 : decode qc_T_init 23 = .ok (.getfield 9, 3) := by decide +kernel
theorem qd_T_init_26 : decode qc_T_init 26 = .ok (.iconst (-1), 1) := by decide +kernel
theorem qd_T_init_27 : decode qc_T_init 27 = .ok (.invokestatic 18, 3) := by decide +kernel
theorem qd_T_init_30 : decode qc_T_init 30 = .ok (.return_, 1) := by decide +kernel
theorem qd_T_forget_0 : decode qc_T_forget 0 = .ok (.aload_n 0, 1) := by decide +kernel
theorem qd_T_forget_1 : decode qc_T_forget 1 = .ok (.getfield 9, 3) := by decide +kernel
theorem qd_T_forget_4 : decode qc_T_forget 4 = .ok (.iconst (-1), 1) := by decide +kernel
theorem qd_T_forget_5 : decode qc_T_forget 5 = .ok (.invokestatic 18, 3) := by decide +kernel
theorem qd_T_forget_8 : decode qc_T_forget 8 = .ok (.aload_n 0, 1) := by decide +kernel
theorem qd_T_forget_9 : decode qc_T_forget 9 = .ok (.getfield 15, 3) := by decide +kernel
theorem qd_T_forget_12 : decode qc_T_forget 12 = .ok (.iconst 0, 1) := by decide +kernel
theorem qd_T_forget_13 : decode qc_T_forget 13 = .ok (.invokestatic 18, 3) := by decide +kernel
theorem qd_T_forget_16 : decode qc_T_forget 16 = .ok (.return_, 1) := by decide +kernel
theorem qd_T_note_0 : decode qc_T_note 0 = .ok (.iload_n 3, 1) := by decide +kernel
theorem qd_T_note_1 : decode qc_T_note 1 = .ok (.istore 5, 2) := by decide +kernel
theorem qd_T_note_3 : decode qc_T_note 3 = .ok (.iconst 0, 1) := by decide +kernel
theorem qd_T_note_4 : decode qc_T_note 4 = .ok (.istore 6, 2) := by decide +kernel
theorem qd_T_note_6 : decode qc_T_note 6 = .ok (.iload 6, 2) := by decide +kernel
theorem qd_T_note_8 : decode qc_T_note 8 = .ok (.bipush 32, 2) := by decide +kernel
theorem qd_T_note_10 : decode qc_T_note 10 = .ok (.if_icmp .ge 86, 3) := by decide +kernel
theorem qd_T_note_13 : decode qc_T_note 13 = .ok (.iload 5, 2) := by decide +kernel
theorem qd_T_note_15 : decode qc_T_note 15 = .ok (.ifCond .eq 81, 3) := by decide +kernel
theorem qd_T_note_18 : decode qc_T_note 18 = .ok (.iload 5, 2) := by decide +kernel
theorem qd_T_note_20 : decode qc_T_note 20 = .ok (.iconst 1, 1) := by decide +kernel
theorem qd_T_note_21 : decode qc_T_note 21 = .ok (.iand, 1) := by decide +kernel
theorem qd_T_note_22 : decode qc_T_note 22 = .ok (.ifCond .eq 62, 3) := by decide +kernel
theorem qd_T_note_25 : decode qc_T_note 25 = .ok (.iload_n 2, 1) := by decide +kernel
theorem qd_T_note_26 : decode qc_T_note 26 = .ok (.bipush 32, 2) := by decide +kernel
theorem qd_T_note_28 : decode qc_T_note 28 = .ok (.imul, 1) := by decide +kernel
theorem qd_T_note_29 : decode qc_T_note 29 = .ok (.iload 6, 2) := by decide +kernel
theorem qd_T_note_31 : decode qc_T_note 31 = .ok (.iadd, 1) := by decide +kernel
theorem qd_T_note_32 : decode qc_T_note 32 = .ok (.istore 7, 2) := by decide +kernel
theorem qd_T_note_34 : decode qc_T_note 34 = .ok (.aload_n 0, 1) := by decide +kernel
theorem qd_T_note_35 : decode qc_T_note 35 = .ok (.getfield 15, 3) := by decide +kernel
theorem qd_T_note_38 : decode qc_T_note 38 = .ok (.iload_n 1, 1) := by decide +kernel
theorem qd_T_note_39 : decode qc_T_note 39 = .ok (.iconst 5, 1) := by decide +kernel
theorem qd_T_note_40 : decode qc_T_note 40 = .ok (.imul, 1) := by decide +kernel
theorem qd_T_note_41 : decode qc_T_note 41 = .ok (.bipush 32, 2) := by decide +kernel
theorem qd_T_note_43 : decode qc_T_note 43 = .ok (.imul, 1) := by decide +kernel
theorem qd_T_note_44 : decode qc_T_note 44 = .ok (.iload 7, 2) := by decide +kernel
theorem qd_T_note_46 : decode qc_T_note 46 = .ok (.iadd, 1) := by decide +kernel
theorem qd_T_note_47 : decode qc_T_note 47 = .ok (.dup2, 1) := by decide +kernel
theorem qd_T_note_48 : decode qc_T_note 48 = .ok (.iaload, 1) := by decide +kernel
theorem qd_T_note_49 : decode qc_T_note 49 = .ok (.iconst 1, 1) := by decide +kernel
theorem qd_T_note_50 : decode qc_T_note 50 = .ok (.iadd, 1) := by decide +kernel
theorem qd_T_note_51 : decode qc_T_note 51 = .ok (.iastore, 1) := by decide +kernel
theorem qd_T_note_52 : decode qc_T_note 52 = .ok (.aload_n 0, 1) := by decide +kernel
theorem qd_T_note_53 : decode qc_T_note 53 = .ok (.getfield 9, 3) := by decide +kernel
theorem qd_T_note_56 : decode qc_T_note 56 = .ok (.iload 7, 2) := by decide +kernel
theorem qd_T_note_58 : decode qc_T_note 58 = .ok (.iaload, 1) := by decide +kernel
theorem qd_T_note_59 : decode qc_T_note 59 = .ok (.iconst (-1), 1) := by decide +kernel
theorem qd_T_note_60 : decode qc_T_note 60 = .ok (.if_icmp .eq 15, 3) := by decide +kernel
theorem qd_T_note_63 : decode qc_T_note 63 = .ok (.iload 4, 2) := by decide +kernel
theorem qd_T_note_65 : decode qc_T_note 65 = .ok (.aload_n 0, 1) := by decide +kernel
theorem qd_T_note_66 : decode qc_T_note 66 = .ok (.getfield 9, 3) := by decide +kernel
theorem qd_T_note_69 : decode qc_T_note 69 = .ok (.iload 7, 2) := by decide +kernel
theorem qd_T_note_71 : decode qc_T_note 71 = .ok (.iaload, 1) := by decide +kernel
theorem qd_T_note_72 : decode qc_T_note 72 = .ok (.if_icmp .ge 12, 3) := by decide +kernel
theorem qd_T_note_75 : decode qc_T_note 75 = .ok (.aload_n 0, 1) := by decide +kernel
theorem qd_T_note_76 : decode qc_T_note 76 = .ok (.getfield 9, 3) := by decide +kernel
theorem qd_T_note_79 : decode qc_T_note 79 = .ok (.iload 7, 2) := by decide +kernel
theorem qd_T_note_81 : decode qc_T_note 81 = .ok (.iload 4, 2) := by decide +kernel
theorem qd_T_note_83 : decode qc_T_note 83 = .ok (.iastore, 1) := by decide +kernel
theorem qd_T_note_84 : decode qc_T_note 84 = .ok (.iload 5, 2) := by decide +kernel
theorem qd_T_note_86 : decode qc_T_note 86 = .ok (.iconst 1, 1) := by decide +kernel
theorem qd_T_note_87 : decode qc_T_note 87 = .ok (.iushr, 1) := by decide +kernel
theorem qd_T_note_88 : decode qc_T_note 88 = .ok (.istore 5, 2) := by decide +kernel
theorem qd_T_note_90 : decode qc_T_note 90 = .ok (.iinc 6 1, 3) := by decide +kernel
theorem qd_T_note_93 : decode qc_T_note 93 = .ok (.goto (-87), 3) := by decide +kernel
theorem qd_T_note_96 : decode qc_T_note 96 = .ok (.return_, 1) := by decide +kernel
theorem qd_T_leastOf_0 : decode qc_T_leastOf 0 = .ok (.aload_n 0, 1) := by decide +kernel
theorem qd_T_leastOf_1 : decode qc_T_leastOf 1 = .ok (.getfield 9, 3) := by decide +kernel
theorem qd_T_leastOf_4 : decode qc_T_leastOf 4 = .ok (.iload_n 1, 1) := by decide +kernel
theorem qd_T_leastOf_5 : decode qc_T_leastOf 5 = .ok (.bipush 32, 2) := by decide +kernel
theorem qd_T_leastOf_7 : decode qc_T_leastOf 7 = .ok (.imul, 1) := by decide +kernel
theorem qd_T_leastOf_8 : decode qc_T_leastOf 8 = .ok (.iload_n 2, 1) := by decide +kernel
theorem qd_T_leastOf_9 : decode qc_T_leastOf 9 = .ok (.iadd, 1) := by decide +kernel
theorem qd_T_leastOf_10 : decode qc_T_leastOf 10 = .ok (.iaload, 1) := by decide +kernel
theorem qd_T_leastOf_11 : decode qc_T_leastOf 11 = .ok (.ireturn, 1) := by decide +kernel
theorem qd_T_countOf_0 : decode qc_T_countOf 0 = .ok (.aload_n 0, 1) := by decide +kernel
theorem qd_T_countOf_1 : decode qc_T_countOf 1 = .ok (.getfield 15, 3) := by decide +kernel
theorem qd_T_countOf_4 : decode qc_T_countOf 4 = .ok (.iload_n 1, 1) := by decide +kernel
theorem qd_T_countOf_5 : decode qc_T_countOf 5 = .ok (.iconst 5, 1) := by decide +kernel
theorem qd_T_countOf_6 : decode qc_T_countOf 6 = .ok (.imul, 1) := by decide +kernel
theorem qd_T_countOf_7 : decode qc_T_countOf 7 = .ok (.iload_n 2, 1) := by decide +kernel
theorem qd_T_countOf_8 : decode qc_T_countOf 8 = .ok (.iadd, 1) := by decide +kernel
theorem qd_T_countOf_9 : decode qc_T_countOf 9 = .ok (.bipush 32, 2) := by decide +kernel
theorem qd_T_countOf_11 : decode qc_T_countOf 11 = .ok (.imul, 1) := by decide +kernel
theorem qd_T_countOf_12 : decode qc_T_countOf 12 = .ok (.iload_n 3, 1) := by decide +kernel
theorem qd_T_countOf_13 : decode qc_T_countOf 13 = .ok (.iadd, 1) := by decide +kernel
theorem qd_T_countOf_14 : decode qc_T_countOf 14 = .ok (.iaload, 1) := by decide +kernel
theorem qd_T_countOf_15 : decode qc_T_countOf 15 = .ok (.ireturn, 1) := by decide +kernel
theorem qd_Y_init_0 : decode qc_Y_init 0 = .ok (.aload_n 0, 1) := by decide +kernel
theorem qd_Y_init_1 : decode qc_Y_init 1 = .ok (.invokespecial 3, 3) := by decide +kernel
theorem qd_Y_init_4 : decode qc_Y_init 4 = .ok (.aload_n 0, 1) := by decide +kernel
theorem qd_Y_init_5 : decode qc_Y_init 5 = .ok (.sipush 1640, 3) := by decide +kernel
theorem qd_Y_init_8 : decode qc_Y_init 8 = .ok (.newarray .int, 2) := by decide +kernel
theorem qd_Y_init_10 : decode qc_Y_init 10 = .ok (.putfield 9, 3) := by decide +kernel
theorem qd_Y_init_13 : decode qc_Y_init 13 = .ok (.aload_n 0, 1) := by decide +kernel
theorem qd_Y_init_14 : decode qc_Y_init 14 = .ok (.bipush 40, 2) := by decide +kernel
theorem qd_Y_init_16 : decode qc_Y_init 16 = .ok (.newarray .int, 2) := by decide +kernel
theorem qd_Y_init_18 : decode qc_Y_init 18 = .ok (.putfield 15, 3) := by decide +kernel
theorem qd_Y_init_21 : decode qc_Y_init 21 = .ok (.aload_n 0, 1) := by decide +kernel
theorem qd_Y_init_22 : decode qc_Y_init 22 = .ok (.bipush 40, 2) := by decide +kernel
theorem qd_Y_init_24 : decode qc_Y_init 24 = .ok (.newarray .int, 2) := by decide +kernel
theorem qd_Y_init_26 : decode qc_Y_init 26 = .ok (.putfield 18, 3) := by decide +kernel
theorem qd_Y_init_29 : decode qc_Y_init 29 = .ok (.aload_n 0, 1) := by decide +kernel
theorem qd_Y_init_30 : decode qc_Y_init 30 = .ok (.bipush 40, 2) := by decide +kernel
theorem qd_Y_init_32 : decode qc_Y_init 32 = .ok (.newarray .int, 2) := by decide +kernel
theorem qd_Y_init_34 : decode qc_Y_init 34 = .ok (.putfield 21, 3) := by decide +kernel
theorem qd_Y_init_37 : decode qc_Y_init 37 = .ok (.aload_n 0, 1) := by decide +kernel
theorem qd_Y_init_38 : decode qc_Y_init 38 = .ok (.iconst 0, 1) := by decide +kernel
theorem qd_Y_init_39 : decode qc_Y_init 39 = .ok (.putfield 24, 3) := by decide +kernel
theorem qd_Y_init_42 : decode qc_Y_init 42 = .ok (.return_, 1) := by decide +kernel
theorem qd_Y_forget_0 : decode qc_Y_forget 0 = .ok (.aload_n 0, 1) := by decide +kernel
theorem qd_Y_forget_1 : decode qc_Y_forget 1 = .ok (.iconst 0, 1) := by decide +kernel
theorem qd_Y_forget_2 : decode qc_Y_forget 2 = .ok (.putfield 24, 3) := by decide +kernel
theorem qd_Y_forget_5 : decode qc_Y_forget 5 = .ok (.return_, 1) := by decide +kernel
theorem qd_Y_numberOf_0 : decode qc_Y_numberOf 0 = .ok (.iconst 0, 1) := by decide +kernel
theorem qd_Y_numberOf_1 : decode qc_Y_numberOf 1 = .ok (.istore_n 2, 1) := by decide +kernel
theorem qd_Y_numberOf_2 : decode qc_Y_numberOf 2 = .ok (.iload_n 2, 1) := by decide +kernel
theorem qd_Y_numberOf_3 : decode qc_Y_numberOf 3 = .ok (.aload_n 0, 1) := by decide +kernel
theorem qd_Y_numberOf_4 : decode qc_Y_numberOf 4 = .ok (.getfield 24, 3) := by decide +kernel
theorem qd_Y_numberOf_7 : decode qc_Y_numberOf 7 = .ok (.if_icmp .ge 20, 3) := by decide +kernel
theorem qd_Y_numberOf_10 : decode qc_Y_numberOf 10 = .ok (.aload_n 0, 1) := by decide +kernel
theorem qd_Y_numberOf_11 : decode qc_Y_numberOf 11 = .ok (.aload_n 1, 1) := by decide +kernel
theorem qd_Y_numberOf_12 : decode qc_Y_numberOf 12 = .ok (.iload_n 2, 1) := by decide +kernel
theorem qd_Y_numberOf_13 : decode qc_Y_numberOf 13 = .ok (.invokevirtual 28, 3) := by decide +kernel
theorem qd_Y_numberOf_16 : decode qc_Y_numberOf 16 = .ok (.ifCond .eq 5, 3) := by decide +kernel
theorem qd_Y_numberOf_19 : decode qc_Y_numberOf 19 = .ok (.iload_n 2, 1) := by decide +kernel
theorem qd_Y_numberOf_20 : decode qc_Y_numberOf 20 = .ok (.ireturn, 1) := by decide +kernel
theorem qd_Y_numberOf_21 : decode qc_Y_numberOf 21 = .ok (.iinc 2 1, 3) := by decide +kernel
theorem qd_Y_numberOf_24 : decode qc_Y_numberOf 24 = .ok (.goto (-22), 3) := by decide +kernel
theorem qd_Y_numberOf_27 : decode qc_Y_numberOf 27 = .ok (.aload_n 0, 1) := by decide +kernel
theorem qd_Y_numberOf_28 : decode qc_Y_numberOf 28 = .ok (.getfield 24, 3) := by decide +kernel
theorem qd_Y_numberOf_31 : decode qc_Y_numberOf 31 = .ok (.bipush 40, 2) := by decide +kernel
theorem qd_Y_numberOf_33 : decode qc_Y_numberOf 33 = .ok (.if_icmp .lt 5, 3) := by decide +kernel
theorem qd_Y_numberOf_36 : decode qc_Y_numberOf 36 = .ok (.iconst (-1), 1) := by decide +kernel
theorem qd_Y_numberOf_37 : decode qc_Y_numberOf 37 = .ok (.ireturn, 1) := by decide +kernel
theorem qd_Y_numberOf_38 : decode qc_Y_numberOf 38 = .ok (.aload_n 0, 1) := by decide +kernel
theorem qd_Y_numberOf_39 : decode qc_Y_numberOf 39 = .ok (.aload_n 1, 1) := by decide +kernel
theorem qd_Y_numberOf_40 : decode qc_Y_numberOf 40 = .ok (.aload_n 0, 1) := by decide +kernel
theorem qd_Y_numberOf_41 : decode qc_Y_numberOf 41 = .ok (.getfield 24, 3) := by decide +kernel
theorem qd_Y_numberOf_44 : decode qc_Y_numberOf 44 = .ok (.invokevirtual 32, 3) := by decide +kernel
theorem qd_Y_numberOf_47 : decode qc_Y_numberOf 47 = .ok (.aload_n 0, 1) := by decide +kernel
theorem qd_Y_numberOf_48 : decode qc_Y_numberOf 48 = .ok (.dup, 1) := by decide +kernel
theorem qd_Y_numberOf_49 : decode qc_Y_numberOf 49 = .ok (.getfield 24, 3) := by decide +kernel
theorem qd_Y_numberOf_52 : decode qc_Y_numberOf 52 = .ok (.iconst 1, 1) := by decide +kernel
theorem qd_Y_numberOf_53 : decode qc_Y_numberOf 53 = .ok (.iadd, 1) := by decide +kernel
theorem qd_Y_numberOf_54 : decode qc_Y_numberOf 54 = .ok (.putfield 24, 3) := by decide +kernel
theorem qd_Y_numberOf_57 : decode qc_Y_numberOf 57 = .ok (.aload_n 0, 1) := by decide +kernel
theorem qd_Y_numberOf_58 : decode qc_Y_numberOf 58 = .ok (.getfield 24, 3) := by decide +kernel
theorem qd_Y_numberOf_61 : decode qc_Y_numberOf 61 = .ok (.iconst 1, 1) := by decide +kernel
theorem qd_Y_numberOf_62 : decode qc_Y_numberOf 62 = .ok (.isub, 1) := by decide +kernel
theorem qd_Y_numberOf_63 : decode qc_Y_numberOf 63 = .ok (.ireturn, 1) := by decide +kernel
theorem qd_Y_stepOf_0 : decode qc_Y_stepOf 0 = .ok (.iload_n 2, 1) := by decide +kernel
theorem qd_Y_stepOf_1 : decode qc_Y_stepOf 1 = .ok (.aload_n 0, 1) := by decide +kernel
theorem qd_Y_stepOf_2 : decode qc_Y_stepOf 2 = .ok (.getfield 15, 3) := by decide +kernel
theorem qd_Y_stepOf_5 : decode qc_Y_stepOf 5 = .ok (.iload_n 1, 1) := by decide +kernel
theorem qd_Y_stepOf_6 : decode qc_Y_stepOf 6 = .ok (.iaload, 1) := by decide +kernel
theorem qd_Y_stepOf_7 : decode qc_Y_stepOf 7 = .ok (.invokestatic 36, 3) := by decide +kernel
theorem qd_Y_stepOf_10 : decode qc_Y_stepOf 10 = .ok (.ifCond .eq 17, 3) := by decide +kernel
theorem qd_Y_stepOf_13 : decode qc_Y_stepOf 13 = .ok (.aload_n 0, 1) := by decide +kernel
theorem qd_Y_stepOf_14 : decode qc_Y_stepOf 14 = .ok (.getfield 9, 3) := by decide +kernel
theorem qd_Y_stepOf_17 : decode qc_Y_stepOf 17 = .ok (.iload_n 1, 1) := by decide +kernel
theorem qd_Y_stepOf_18 : decode qc_Y_stepOf 18 = .ok (.bipush 41, 2) := by decide +kernel
theorem qd_Y_stepOf_20 : decode qc_Y_stepOf 20 = .ok (.imul, 1) := by decide +kernel
theorem qd_Y_stepOf_21 : decode qc_Y_stepOf 21 = .ok (.iload_n 2, 1) := by decide +kernel
theorem qd_Y_stepOf_22 : decode qc_Y_stepOf 22 = .ok (.iadd, 1) := by decide +kernel
theorem qd_Y_stepOf_23 : decode qc_Y_stepOf 23 = .ok (.iaload, 1) := by decide +kernel
theorem qd_Y_stepOf_24 : decode qc_Y_stepOf 24 = .ok (.goto 4, 3) := by decide +kernel
theorem qd_Y_stepOf_27 : decode qc_Y_stepOf 27 = .ok (.iconst (-1), 1) := by decide +kernel
theorem qd_Y_stepOf_28 : decode qc_Y_stepOf 28 = .ok (.ireturn, 1) := by decide +kernel
theorem qd_Y_isWayOf_0 : decode qc_Y_isWayOf 0 = .ok (.aload_n 0, 1) := by decide +kernel
theorem qd_Y_isWayOf_1 : decode qc_Y_isWayOf 1 = .ok (.getfield 18, 3) := by decide +kernel
theorem qd_Y_isWayOf_4 : decode qc_Y_isWayOf 4 = .ok (.iload_n 2, 1) := by decide +kernel
theorem qd_Y_isWayOf_5 : decode qc_Y_isWayOf 5 = .ok (.iaload, 1) := by decide +kernel
theorem qd_Y_isWayOf_6 : decode qc_Y_isWayOf 6 = .ok (.aload_n 1, 1) := by decide +kernel
theorem qd_Y_isWayOf_7 : decode qc_Y_isWayOf 7 = .ok (.getfield 40, 3) := by decide +kernel
theorem qd_Y_isWayOf_10 : decode qc_Y_isWayOf 10 = .ok (.if_icmp .ne 29, 3) := by decide +kernel
theorem qd_Y_isWayOf_13 : decode qc_Y_isWayOf 13 = .ok (.aload_n 0, 1) := by decide +kernel
theorem qd_Y_isWayOf_14 : decode qc_Y_isWayOf 14 = .ok (.getfield 21, 3) := by decide +kernel
theorem qd_Y_isWayOf_17 : decode qc_Y_isWayOf 17 = .ok (.iload_n 2, 1) := by decide +kernel
theorem qd_Y_isWayOf_18 : decode qc_Y_isWayOf 18 = .ok (.iaload, 1) := by decide +kernel
theorem qd_Y_isWayOf_19 : decode qc_Y_isWayOf 19 = .ok (.aload_n 1, 1) := by decide +kernel
theorem qd_Y_isWayOf_20 : decode qc_Y_isWayOf 20 = .ok (.getfield 45, 3) := by decide +kernel
theorem qd_Y_isWayOf_23 : decode qc_Y_isWayOf 23 = .ok (.if_icmp .ne 16, 3) := by decide +kernel
theorem qd_Y_isWayOf_26 : decode qc_Y_isWayOf 26 = .ok (.aload_n 0, 1) := by decide +kernel
theorem qd_Y_isWayOf_27 : decode qc_Y_isWayOf 27 = .ok (.getfield 15, 3) := by decide +kernel
theorem qd_Y_isWayOf_30 : decode qc_Y_isWayOf 30 = .ok (.iload_n 2, 1) := by decide +kernel
theorem qd_Y_isWayOf_31 : decode qc_Y_isWayOf 31 = .ok (.iaload, 1) := by decide +kernel
theorem qd_Y_isWayOf_32 : decode qc_Y_isWayOf 32 = .ok (.aload_n 1, 1) := by decide +kernel
theorem qd_Y_isWayOf_33 : decode qc_Y_isWayOf 33 = .ok (.getfield 48, 3) := by decide +kernel
theorem qd_Y_isWayOf_36 : decode qc_Y_isWayOf 36 = .ok (.if_icmp .eq 5, 3) := by decide +kernel
theorem qd_Y_isWayOf_39 : decode qc_Y_isWayOf 39 = .ok (.iconst 0, 1) := by decide +kernel
theorem qd_Y_isWayOf_40 : decode qc_Y_isWayOf 40 = .ok (.ireturn, 1) := by decide +kernel
theorem qd_Y_isWayOf_41 : decode qc_Y_isWayOf 41 = .ok (.iload_n 2, 1) := by decide +kernel
theorem qd_Y_isWayOf_42 : decode qc_Y_isWayOf 42 = .ok (.bipush 41, 2) := by decide +kernel
theorem qd_Y_isWayOf_44 : decode qc_Y_isWayOf 44 = .ok (.imul, 1) := by decide +kernel
theorem qd_Y_isWayOf_45 : decode qc_Y_isWayOf 45 = .ok (.istore_n 3, 1) := by decide +kernel
theorem qd_Y_isWayOf_46 : decode qc_Y_isWayOf 46 = .ok (.iconst 0, 1) := by decide +kernel
theorem qd_Y_isWayOf_47 : decode qc_Y_isWayOf 47 = .ok (.istore 4, 2) := by decide +kernel
theorem qd_Y_isWayOf_49 : decode qc_Y_isWayOf 49 = .ok (.iload 4, 2) := by decide +kernel
theorem qd_Y_isWayOf_51 : decode qc_Y_isWayOf 51 = .ok (.aload_n 1, 1) := by decide +kernel
theorem qd_Y_isWayOf_52 : decode qc_Y_isWayOf 52 = .ok (.getfield 48, 3) := by decide +kernel
theorem qd_Y_isWayOf_55 : decode qc_Y_isWayOf 55 = .ok (.if_icmp .ge 30, 3) := by decide +kernel
theorem qd_Y_isWayOf_58 : decode qc_Y_isWayOf 58 = .ok (.aload_n 0, 1) := by decide +kernel
theorem qd_Y_isWayOf_59 : decode qc_Y_isWayOf 59 = .ok (.getfield 9, 3) := by decide +kernel
theorem qd_Y_isWayOf_62 : decode qc_Y_isWayOf 62 = .ok (.iload_n 3, 1) := by decide +kernel
theorem qd_Y_isWayOf_63 : decode qc_Y_isWayOf 63 = .ok (.iload 4, 2) := by decide +kernel
theorem qd_Y_isWayOf_65 : decode qc_Y_isWayOf 65 = .ok (.iadd, 1) := by decide +kernel
theorem qd_Y_isWayOf_66 : decode qc_Y_isWayOf 66 = .ok (.iaload, 1) := by decide +kernel
theorem qd_Y_isWayOf_67 : decode qc_Y_isWayOf 67 = .ok (.aload_n 1, 1) := by decide +kernel
theorem qd_Y_isWayOf_68 : decode qc_Y_isWayOf 68 = .ok (.getfield 51, 3) := by decide +kernel
theorem qd_Y_isWayOf_71 : decode qc_Y_isWayOf 71 = .ok (.iload 4, 2) := by decide +kernel
theorem qd_Y_isWayOf_73 : decode qc_Y_isWayOf 73 = .ok (.iaload, 1) := by decide +kernel
theorem qd_Y_isWayOf_74 : decode qc_Y_isWayOf 74 = .ok (.if_icmp .eq 5, 3) := by decide +kernel
theorem qd_Y_isWayOf_77 : decode qc_Y_isWayOf 77 = .ok (.iconst 0, 1) := by decide +kernel
theorem qd_Y_isWayOf_78 : decode qc_Y_isWayOf 78 = .ok (.ireturn, 1) := by decide +kernel
theorem qd_Y_isWayOf_79 : decode qc_Y_isWayOf 79 = .ok (.iinc 4 1, 3) := by decide +kernel
theorem qd_Y_isWayOf_82 : decode qc_Y_isWayOf 82 = .ok (.goto (-33), 3) := by decide +kernel
theorem qd_Y_isWayOf_85 : decode qc_Y_isWayOf 85 = .ok (.iconst 1, 1) := by decide +kernel
theorem qd_Y_isWayOf_86 : decode qc_Y_isWayOf 86 = .ok (.ireturn, 1) := by decide +kernel
theorem qd_Y_keep_0 : decode qc_Y_keep 0 = .ok (.aload_n 0, 1) := by decide +kernel
theorem qd_Y_keep_1 : decode qc_Y_keep 1 = .ok (.getfield 18, 3) := by decide +kernel
theorem qd_Y_keep_4 : decode qc_Y_keep 4 = .ok (.iload_n 2, 1) := by decide +kernel
theorem qd_Y_keep_5 : decode qc_Y_keep 5 = .ok (.aload_n 1, 1) := by decide +kernel
theorem qd_Y_keep_6 : decode qc_Y_keep 6 = .ok (.getfield 40, 3) := by decide +kernel
theorem qd_Y_keep_9 : decode qc_Y_keep 9 = .ok (.iastore, 1) := by decide +kernel
theorem qd_Y_keep_10 : decode qc_Y_keep 10 = .ok (.aload_n 0, 1) := by decide +kernel
theorem qd_Y_keep_11 : decode qc_Y_keep 11 = .ok (.getfield 21, 3) := by decide +kernel
theorem qd_Y_keep_14 : decode qc_Y_keep 14 = .ok (.iload_n 2, 1) := by decide +kernel
theorem qd_Y_keep_15 : decode qc_Y_keep 15 = .ok (.aload_n 1, 1) := by decide +kernel
theorem qd_Y_keep_16 : decode qc_Y_keep 16 = .ok (.getfield 45, 3) := by decide +kernel
theorem qd_Y_keep_19 : decode qc_Y_keep 19 = .ok (.iastore, 1) := by decide +kernel
theorem qd_Y_keep_20 : decode qc_Y_keep 20 = .ok (.aload_n 0, 1) := by decide +kernel
theorem qd_Y_keep_21 : decode qc_Y_keep 21 = .ok (.getfield 15, 3) := by decide +kernel
theorem qd_Y_keep_24 : decode qc_Y_keep 24 = .ok (.iload_n 2, 1) := by decide +kernel
theorem qd_Y_keep_25 : decode qc_Y_keep 25 = .ok (.aload_n 1, 1) := by decide +kernel
theorem qd_Y_keep_26 : decode qc_Y_keep 26 = .ok (.getfield 48, 3) := by decide +kernel
theorem qd_Y_keep_29 : decode qc_Y_keep 29 = .ok (.iastore, 1) := by decide +kernel
theorem qd_Y_keep_30 : decode qc_Y_keep 30 = .ok (.iload_n 2, 1) := by decide +kernel
theorem qd_Y_keep_31 : decode qc_Y_keep 31 = .ok (.bipush 41, 2) := by decide +kernel
theorem qd_Y_keep_33 : decode qc_Y_keep 33 = .ok (.imul, 1) := by decide +kernel
theorem qd_Y_keep_34 : decode qc_Y_keep 34 = .ok (.istore_n 3, 1) := by decide +kernel
theorem qd_Y_keep_35 : decode qc_Y_keep 35 = .ok (.iconst 0, 1) := by decide +kernel
theorem qd_Y_keep_36 : decode qc_Y_keep 36 = .ok (.istore 4, 2) := by decide +kernel
theorem qd_Y_keep_38 : decode qc_Y_keep 38 = .ok (.iload 4, 2) := by decide +kernel
theorem qd_Y_keep_40 : decode qc_Y_keep 40 = .ok (.aload_n 1, 1) := by decide +kernel
theorem qd_Y_keep_41 : decode qc_Y_keep 41 = .ok (.getfield 48, 3) := by decide +kernel
theorem qd_Y_keep_44 : decode qc_Y_keep 44 = .ok (.if_icmp .ge 25, 3) := by decide +kernel
theorem qd_Y_keep_47 : decode qc_Y_keep 47 = .ok (.aload_n 0, 1) := by decide +kernel
theorem qd_Y_keep_48 : decode qc_Y_keep 48 = .ok (.getfield 9, 3) := by decide +kernel
theorem qd_Y_keep_51 : decode qc_Y_keep 51 = .ok (.iload_n 3, 1) := by decide +kernel
theorem qd_Y_keep_52 : decode qc_Y_keep 52 = .ok (.iload 4, 2) := by decide +kernel
theorem qd_Y_keep_54 : decode qc_Y_keep 54 = .ok (.iadd, 1) := by decide +kernel
theorem qd_Y_keep_55 : decode qc_Y_keep 55 = .ok (.aload_n 1, 1) := by decide +kernel
theorem qd_Y_keep_56 : decode qc_Y_keep 56 = .ok (.getfield 51, 3) := by decide +kernel
theorem qd_Y_keep_59 : decode qc_Y_keep 59 = .ok (.iload 4, 2) := by decide +kernel
theorem qd_Y_keep_61 : decode qc_Y_keep 61 = .ok (.iaload, 1) := by decide +kernel
theorem qd_Y_keep_62 : decode qc_Y_keep 62 = .ok (.iastore, 1) := by decide +kernel
theorem qd_Y_keep_63 : decode qc_Y_keep 63 = .ok (.iinc 4 1, 3) := by decide +kernel
theorem qd_Y_keep_66 : decode qc_Y_keep 66 = .ok (.goto (-28), 3) := by decide +kernel
theorem qd_Y_keep_69 : decode qc_Y_keep 69 = .ok (.return_, 1) := by decide +kernel
theorem qd_A_fill_0 : decode qc_A_fill 0 = .ok (.iconst 0, 1) := by decide +kernel
theorem qd_A_fill_1 : decode qc_A_fill 1 = .ok (.istore_n 2, 1) := by decide +kernel
theorem qd_A_fill_2 : decode qc_A_fill 2 = .ok (.aload_n 0, 1) := by decide +kernel
theorem qd_A_fill_3 : decode qc_A_fill 3 = .ok (.arraylength, 1) := by decide +kernel
theorem qd_A_fill_4 : decode qc_A_fill 4 = .ok (.istore_n 3, 1) := by decide +kernel
theorem qd_A_fill_5 : decode qc_A_fill 5 = .ok (.iload_n 2, 1) := by decide +kernel
theorem qd_A_fill_6 : decode qc_A_fill 6 = .ok (.iload_n 3, 1) := by decide +kernel
theorem qd_A_fill_7 : decode qc_A_fill 7 = .ok (.if_icmp .ge 13, 3) := by decide +kernel
theorem qd_A_fill_10 : decode qc_A_fill 10 = .ok (.aload_n 0, 1) := by decide +kernel
theorem qd_A_fill_11 : decode qc_A_fill 11 = .ok (.iload_n 2, 1) := by decide +kernel
theorem qd_A_fill_12 : decode qc_A_fill 12 = .ok (.iload_n 1, 1) := by decide +kernel
theorem qd_A_fill_13 : decode qc_A_fill 13 = .ok (.iastore, 1) := by decide +kernel
theorem qd_A_fill_14 : decode qc_A_fill 14 = .ok (.iinc 2 1, 3) := by decide +kernel
theorem qd_A_fill_17 : decode qc_A_fill 17 = .ok (.goto (-12), 3) := by decide +kernel
theorem qd_A_fill_20 : decode qc_A_fill 20 = .ok (.return_, 1) := by decide +kernel
