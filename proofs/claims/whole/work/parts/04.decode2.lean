theorem qd_K_init_0 : decode qc_K_init 0 = .ok (.aload_n 0, 1) := by decide +kernel
theorem qd_K_init_1 : decode qc_K_init 1 = .ok (.invokespecial 3, 3) := by decide +kernel
theorem qd_K_init_4 : decode qc_K_init 4 = .ok (.aload_n 0, 1) := by decide +kernel
theorem qd_K_init_5 : decode qc_K_init 5 = .ok (.new 9, 3) := by decide +kernel
theorem qd_K_init_8 : decode qc_K_init 8 = .ok (.dup, 1) := by decide +kernel
theorem qd_K_init_9 : decode qc_K_init 9 = .ok (.invokespecial 11, 3) := by decide +kernel
theorem qd_K_init_12 : decode qc_K_init 12 = .ok (.putfield 12, 3) := by decide +kernel
theorem qd_K_init_15 : decode qc_K_init 15 = .ok (.aload_n 0, 1) := by decide +kernel
theorem qd_K_init_16 : decode qc_K_init 16 = .ok (.bipush 6, 2) := by decide +kernel
theorem qd_K_init_18 : decode qc_K_init 18 = .ok (.newarray .int, 2) := by decide +kernel
theorem qd_K_init_20 : decode qc_K_init 20 = .ok (.putfield 18, 3) := by decide +kernel
theorem qd_K_init_23 : decode qc_K_init 23 = .ok (.aload_n 0, 1) := by decide +kernel
theorem qd_K_init_24 : decode qc_K_init 24 = .ok (.iconst 0, 1) := by decide +kernel
theorem qd_K_init_25 : decode qc_K_init 25 = .ok (.putfield 22, 3) := by decide +kernel
theorem qd_K_init_28 : decode qc_K_init 28 = .ok (.aload_n 0, 1) := by decide +kernel
theorem qd_K_init_29 : decode qc_K_init 29 = .ok (.iconst 0, 1) := by decide +kernel
theorem qd_K_init_30 : decode qc_K_init 30 = .ok (.putfield 26, 3) := by decide +kernel
theorem qd_K_init_33 : decode qc_K_init 33 = .ok (.aload_n 0, 1) := by decide +kernel
theorem qd_K_init_34 : decode qc_K_init 34 = .ok (.iconst 0, 1) := by decide +kernel
theorem qd_K_init_35 : decode qc_K_init 35 = .ok (.putfield 29, 3) := by decide +kernel
theorem qd_K_init_38 : decode qc_K_init 38 = .ok (.aload_n 0, 1) := by decide +kernel
theorem qd_K_init_39 : decode qc_K_init 39 = .ok (.iconst 0, 1) := by decide +kernel
theorem qd_K_init_40 : decode qc_K_init 40 = .ok (.putfield 32, 3) := by decide +kernel
theorem qd_K_init_43 : decode qc_K_init 43 = .ok (.aload_n 0, 1) := by decide +kernel
theorem qd_K_init_44 : decode qc_K_init 44 = .ok (.iconst 0, 1) := by decide +kernel
theorem qd_K_init_45 : decode qc_K_init 45 = .ok (.putfield 35, 3) := by decide +kernel
theorem qd_K_init_48 : decode qc_K_init 48 = .ok (.aload_n 0, 1) := by decide +kernel
theorem qd_K_init_49 : decode qc_K_init 49 = .ok (.iconst 0, 1) := by decide +kernel
theorem qd_K_init_50 : decode qc_K_init 50 = .ok (.putfield 38, 3) := by decide +kernel
theorem qd_K_init_53 : decode qc_K_init 53 = .ok (.aload_n 0, 1) := by decide +kernel
theorem qd_K_init_54 : decode qc_K_init 54 = .ok (.iconst 0, 1) := by decide +kernel
theorem qd_K_init_55 : decode qc_K_init 55 = .ok (.putfield 41, 3) := by decide +kernel
theorem qd_K_init_58 : decode qc_K_init 58 = .ok (.aload_n 0, 1) := by decide +kernel
theorem qd_K_init_59 : decode qc_K_init 59 = .ok (.iconst 0, 1) := by decide +kernel
theorem qd_K_init_60 : decode qc_K_init 60 = .ok (.putfield 44, 3) := by decide +kernel
theorem qd_K_init_63 : decode qc_K_init 63 = .ok (.aload_n 0, 1) := by decide +kernel
theorem qd_K_init_64 : decode qc_K_init 64 = .ok (.bipush 41, 2) := by decide +kernel
theorem qd_K_init_66 : decode qc_K_init 66 = .ok (.newarray .int, 2) := by decide +kernel
theorem qd_K_init_68 : decode qc_K_init 68 = .ok (.putfield 48, 3) := by decide +kernel
theorem qd_K_init_71 : decode qc_K_init 71 = .ok (.aload_n 0, 1) := by decide +kernel
theorem qd_K_init_72 : decode qc_K_init 72 = .ok (.iconst 0, 1) := by decide +kernel
theorem qd_K_init_73 : decode qc_K_init 73 = .ok (.putfield 51, 3) := by decide +kernel
theorem qd_K_init_76 : decode qc_K_init 76 = .ok (.aload_n 0, 1) := by decide +kernel
theorem qd_K_init_77 : decode qc_K_init 77 = .ok (.iconst 0, 1) := by decide +kernel
theorem qd_K_init_78 : decode qc_K_init 78 = .ok (.putfield 54, 3) := by decide +kernel
theorem qd_K_init_81 : decode qc_K_init 81 = .ok (.aload_n 0, 1) := by decide +kernel
theorem qd_K_init_82 : decode qc_K_init 82 = .ok (.iconst 5, 1) := by decide +kernel
theorem qd_K_init_83 : decode qc_K_init 83 = .ok (.newarray .int, 2) := by decide +kernel
theorem qd_K_init_85 : decode qc_K_init 85 = .ok (.putfield 57, 3) := by decide +kernel
theorem qd_K_init_88 : decode qc_K_init 88 = .ok (.return_, 1) := by decide +kernel
theorem qd_K_transact_0 : decode qc_K_transact 0 = .ok (.aload_n 0, 1) := by decide +kernel
theorem qd_K_transact_1 : decode qc_K_transact 1 = .ok (.iload_n 1, 1) := by decide +kernel
theorem qd_K_transact_2 : decode qc_K_transact 2 = .ok (.iload_n 2, 1) := by decide +kernel
theorem qd_K_transact_3 : decode qc_K_transact 3 = .ok (.iload_n 3, 1) := by decide +kernel
theorem qd_K_transact_4 : decode qc_K_transact 4 = .ok (.ifCond .eq 7, 3) := by decide +kernel
theorem qd_K_transact_7 : decode qc_K_transact 7 = .ok (.iconst 0, 1) := by decide +kernel
theorem qd_K_transact_8 : decode qc_K_transact 8 = .ok (.goto 5, 3) := by decide +kernel
theorem qd_K_transact_11 : decode qc_K_transact 11 = .ok (.iload 4, 2) := by decide +kernel
theorem qd_K_transact_13 : decode qc_K_transact 13 = .ok (.invokevirtual 60, 3) := by decide +kernel
theorem qd_K_transact_16 : decode qc_K_transact 16 = .ok (.aload_n 0, 1) := by decide +kernel
theorem qd_K_transact_17 : decode qc_K_transact 17 = .ok (.iload_n 3, 1) := by decide +kernel
theorem qd_K_transact_18 : decode qc_K_transact 18 = .ok (.ifCond .eq 7, 3) := by decide +kernel
theorem qd_K_transact_21 : decode qc_K_transact 21 = .ok (.iconst 4, 1) := by decide +kernel
theorem qd_K_transact_22 : decode qc_K_transact 22 = .ok (.goto 4, 3) := by decide +kernel
theorem qd_K_transact_25 : decode qc_K_transact 25 = .ok (.iconst 5, 1) := by decide +kernel
theorem qd_K_transact_26 : decode qc_K_transact 26 = .ok (.putfield 35, 3) := by decide +kernel
theorem qd_K_transact_29 : decode qc_K_transact 29 = .ok (.iconst 0, 1) := by decide +kernel
theorem qd_K_transact_30 : decode qc_K_transact 30 = .ok (.istore 5, 2) := by decide +kernel
theorem qd_K_transact_32 : decode qc_K_transact 32 = .ok (.iload 5, 2) := by decide +kernel
theorem qd_K_transact_34 : decode qc_K_transact 34 = .ok (.bipush 41, 2) := by decide +kernel
theorem qd_K_transact_36 : decode qc_K_transact 36 = .ok (.if_icmp .ge 73, 3) := by decide +kernel
theorem qd_K_transact_39 : decode qc_K_transact 39 = .ok (.aload_n 0, 1) := by decide +kernel
theorem qd_K_transact_40 : decode qc_K_transact 40 = .ok (.getfield 35, 3) := by decide +kernel
theorem qd_K_transact_43 : decode qc_K_transact 43 = .ok (.iconst 5, 1) := by decide +kernel
theorem qd_K_transact_44 : decode qc_K_transact 44 = .ok (.if_icmp .ne 65, 3) := by decide +kernel
theorem qd_K_transact_47 : decode qc_K_transact 47 = .ok (.aload_n 0, 1) := by decide +kernel
theorem qd_K_transact_48 : decode qc_K_transact 48 = .ok (.getfield 32, 3) := by decide +kernel
theorem qd_K_transact_51 : decode qc_K_transact 51 = .ok (.aload_n 0, 1) := by decide +kernel
theorem qd_K_transact_52 : decode qc_K_transact 52 = .ok (.getfield 12, 3) := by decide +kernel
theorem qd_K_transact_55 : decode qc_K_transact 55 = .ok (.getfield 64, 3) := by decide +kernel
theorem qd_K_transact_58 : decode qc_K_transact 58 = .ok (.if_icmp .lt 11, 3) := by decide +kernel
theorem qd_K_transact_61 : decode qc_K_transact 61 = .ok (.aload_n 0, 1) := by decide +kernel
theorem qd_K_transact_62 : decode qc_K_transact 62 = .ok (.iconst 0, 1) := by decide +kernel
theorem qd_K_transact_63 : decode qc_K_transact 63 = .ok (.putfield 35, 3) := by decide +kernel
theorem qd_K_transact_66 : decode qc_K_transact 66 = .ok (.goto 37, 3) := by decide +kernel
theorem qd_K_transact_69 : decode qc_K_transact 69 = .ok (.aload_n 0, 1) := by decide +kernel
theorem qd_K_transact_70 : decode qc_K_transact 70 = .ok (.iload 5, 2) := by decide +kernel
theorem qd_K_transact_72 : decode qc_K_transact 72 = .ok (.invokevirtual 67, 3) := by decide +kernel
theorem qd_K_transact_75 : decode qc_K_transact 75 = .ok (.aload_n 0, 1) := by decide +kernel
theorem qd_K_transact_76 : decode qc_K_transact 76 = .ok (.aload_n 0, 1) := by decide +kernel
theorem qd_K_transact_77 : decode qc_K_transact 77 = .ok (.getfield 12, 3) := by decide +kernel
theorem qd_K_transact_80 : decode qc_K_transact 80 = .ok (.getfield 71, 3) := by decide +kernel
theorem qd_K_transact_83 : decode qc_K_transact 83 = .ok (.aload_n 0, 1) := by decide +kernel
theorem qd_K_transact_84 : decode qc_K_transact 84 = .ok (.getfield 32, 3) := by decide +kernel
theorem qd_K_transact_87 : decode qc_K_transact 87 = .ok (.iaload, 1) := by decide +kernel
theorem qd_K_transact_88 : decode qc_K_transact 88 = .ok (.aload_n 0, 1) := by decide +kernel
theorem qd_K_transact_89 : decode qc_K_transact 89 = .ok (.getfield 12, 3) := by decide +kernel
theorem qd_K_transact_92 : decode qc_K_transact 92 = .ok (.getfield 74, 3) := by decide +kernel
theorem qd_K_transact_95 : decode qc_K_transact 95 = .ok (.aload_n 0, 1) := by decide +kernel
theorem qd_K_transact_96 : decode qc_K_transact 96 = .ok (.getfield 32, 3) := by decide +kernel
theorem qd_K_transact_99 : decode qc_K_transact 99 = .ok (.iaload, 1) := by decide +kernel
theorem qd_K_transact_100 : decode qc_K_transact 100 = .ok (.invokevirtual 77, 3) := by decide +kernel
theorem qd_K_transact_103 : decode qc_K_transact 103 = .ok (.iinc 5 1, 3) := by decide +kernel
theorem qd_K_transact_106 : decode qc_K_transact 106 = .ok (.goto (-74), 3) := by decide +kernel
theorem qd_K_transact_109 : decode qc_K_transact 109 = .ok (.aload_n 0, 1) := by decide +kernel
theorem qd_K_transact_110 : decode qc_K_transact 110 = .ok (.getfield 35, 3) := by decide +kernel
theorem qd_K_transact_113 : decode qc_K_transact 113 = .ok (.iconst 1, 1) := by decide +kernel
theorem qd_K_transact_114 : decode qc_K_transact 114 = .ok (.if_icmp .eq 11, 3) := by decide +kernel
theorem qd_K_transact_117 : decode qc_K_transact 117 = .ok (.aload_n 0, 1) := by decide +kernel
theorem qd_K_transact_118 : decode qc_K_transact 118 = .ok (.getfield 35, 3) := by decide +kernel
theorem qd_K_transact_121 : decode qc_K_transact 121 = .ok (.iconst 2, 1) := by decide +kernel
theorem qd_K_transact_122 : decode qc_K_transact 122 = .ok (.if_icmp .ne 8, 3) := by decide +kernel
theorem qd_K_transact_125 : decode qc_K_transact 125 = .ok (.aload_n 0, 1) := by decide +kernel
theorem qd_K_transact_126 : decode qc_K_transact 126 = .ok (.iload_n 2, 1) := by decide +kernel
theorem qd_K_transact_127 : decode qc_K_transact 127 = .ok (.putfield 26, 3) := by decide +kernel
theorem qd_K_transact_130 : decode qc_K_transact 130 = .ok (.return_, 1) := by decide +kernel
theorem qd_K_begin_0 : decode qc_K_begin 0 = .ok (.aload_n 0, 1) := by decide +kernel
theorem qd_K_begin_1 : decode qc_K_begin 1 = .ok (.iconst 0, 1) := by decide +kernel
theorem qd_K_begin_2 : decode qc_K_begin 2 = .ok (.putfield 22, 3) := by decide +kernel
theorem qd_K_begin_5 : decode qc_K_begin 5 = .ok (.aload_n 0, 1) := by decide +kernel
theorem qd_K_begin_6 : decode qc_K_begin 6 = .ok (.iload_n 2, 1) := by decide +kernel
theorem qd_K_begin_7 : decode qc_K_begin 7 = .ok (.putfield 26, 3) := by decide +kernel
theorem qd_K_begin_10 : decode qc_K_begin 10 = .ok (.aload_n 0, 1) := by decide +kernel
theorem qd_K_begin_11 : decode qc_K_begin 11 = .ok (.iload_n 3, 1) := by decide +kernel
theorem qd_K_begin_12 : decode qc_K_begin 12 = .ok (.putfield 29, 3) := by decide +kernel
theorem qd_K_begin_15 : decode qc_K_begin 15 = .ok (.aload_n 0, 1) := by decide +kernel
theorem qd_K_begin_16 : decode qc_K_begin 16 = .ok (.iconst 0, 1) := by decide +kernel
theorem qd_K_begin_17 : decode qc_K_begin 17 = .ok (.putfield 32, 3) := by decide +kernel
theorem qd_K_begin_20 : decode qc_K_begin 20 = .ok (.aload_n 0, 1) := by decide +kernel
theorem qd_K_begin_21 : decode qc_K_begin 21 = .ok (.iload_n 1, 1) := by decide +kernel
theorem qd_K_begin_22 : decode qc_K_begin 22 = .ok (.iconst 4, 1) := by decide +kernel
theorem qd_K_begin_23 : decode qc_K_begin 23 = .ok (.idiv, 1) := by decide +kernel
theorem qd_K_begin_24 : decode qc_K_begin 24 = .ok (.putfield 38, 3) := by decide +kernel
theorem qd_K_begin_27 : decode qc_K_begin 27 = .ok (.aload_n 0, 1) := by decide +kernel
theorem qd_K_begin_28 : decode qc_K_begin 28 = .ok (.iload_n 1, 1) := by decide +kernel
theorem qd_K_begin_29 : decode qc_K_begin 29 = .ok (.iconst 4, 1) := by decide +kernel
theorem qd_K_begin_30 : decode qc_K_begin 30 = .ok (.irem, 1) := by decide +kernel
theorem qd_K_begin_31 : decode qc_K_begin 31 = .ok (.putfield 41, 3) := by decide +kernel
theorem qd_K_begin_34 : decode qc_K_begin 34 = .ok (.aload_n 0, 1) := by decide +kernel
theorem qd_K_begin_35 : decode qc_K_begin 35 = .ok (.iconst 0, 1) := by decide +kernel
theorem qd_K_begin_36 : decode qc_K_begin 36 = .ok (.putfield 44, 3) := by decide +kernel
theorem qd_K_begin_39 : decode qc_K_begin 39 = .ok (.aload_n 0, 1) := by decide +kernel
theorem qd_K_begin_40 : decode qc_K_begin 40 = .ok (.iconst 0, 1) := by decide +kernel
theorem qd_K_begin_41 : decode qc_K_begin 41 = .ok (.putfield 51, 3) := by decide +kernel
theorem qd_K_begin_44 : decode qc_K_begin 44 = .ok (.aload_n 0, 1) := by decide +kernel
theorem qd_K_begin_45 : decode qc_K_begin 45 = .ok (.iconst 0, 1) := by decide +kernel
theorem qd_K_begin_46 : decode qc_K_begin 46 = .ok (.putfield 54, 3) := by decide +kernel
theorem qd_K_begin_49 : decode qc_K_begin 49 = .ok (.aload_n 0, 1) := by decide +kernel
theorem qd_K_begin_50 : decode qc_K_begin 50 = .ok (.getfield 57, 3) := by decide +kernel
theorem qd_K_begin_53 : decode qc_K_begin 53 = .ok (.iconst 0, 1) := by decide +kernel
theorem qd_K_begin_54 : decode qc_K_begin 54 = .ok (.invokestatic 81, 3) := by decide +kernel
theorem qd_K_begin_57 : decode qc_K_begin 57 = .ok (.return_, 1) := by decide +kernel
theorem qd_K_keepStep_0 : decode qc_K_keepStep 0 = .ok (.aload_n 0, 1) := by decide +kernel
theorem qd_K_keepStep_1 : decode qc_K_keepStep 1 = .ok (.getfield 48, 3) := by decide +kernel
theorem qd_K_keepStep_4 : decode qc_K_keepStep 4 = .ok (.iload_n 1, 1) := by decide +kernel
theorem qd_K_keepStep_5 : decode qc_K_keepStep 5 = .ok (.aload_n 0, 1) := by decide +kernel
theorem qd_K_keepStep_6 : decode qc_K_keepStep 6 = .ok (.getfield 32, 3) := by decide +kernel
theorem qd_K_keepStep_9 : decode qc_K_keepStep 9 = .ok (.iastore, 1) := by decide +kernel
theorem qd_K_keepStep_10 : decode qc_K_keepStep 10 = .ok (.aload_n 0, 1) := by decide +kernel
theorem qd_K_keepStep_11 : decode qc_K_keepStep 11 = .ok (.iload_n 1, 1) := by decide +kernel
theorem qd_K_keepStep_12 : decode qc_K_keepStep 12 = .ok (.iconst 1, 1) := by decide +kernel
theorem qd_K_keepStep_13 : decode qc_K_keepStep 13 = .ok (.iadd, 1) := by decide +kernel
theorem qd_K_keepStep_14 : decode qc_K_keepStep 14 = .ok (.putfield 51, 3) := by decide +kernel
theorem qd_K_keepStep_17 : decode qc_K_keepStep 17 = .ok (.aload_n 0, 1) := by decide +kernel
theorem qd_K_keepStep_18 : decode qc_K_keepStep 18 = .ok (.aload_n 0, 1) := by decide +kernel
theorem qd_K_keepStep_19 : decode qc_K_keepStep 19 = .ok (.getfield 54, 3) := by decide +kernel
theorem qd_K_keepStep_22 : decode qc_K_keepStep 22 = .ok (.bipush 31, 2) := by decide +kernel
theorem qd_K_keepStep_24 : decode qc_K_keepStep 24 = .ok (.imul, 1) := by decide +kernel
theorem qd_K_keepStep_25 : decode qc_K_keepStep 25 = .ok (.aload_n 0, 1) := by decide +kernel
theorem qd_K_keepStep_26 : decode qc_K_keepStep 26 = .ok (.getfield 32, 3) := by decide +kernel
theorem qd_K_keepStep_29 : decode qc_K_keepStep 29 = .ok (.iadd, 1) := by decide +kernel
theorem qd_K_keepStep_30 : decode qc_K_keepStep 30 = .ok (.iconst 1, 1) := by decide +kernel
theorem qd_K_keepStep_31 : decode qc_K_keepStep 31 = .ok (.iadd, 1) := by decide +kernel
theorem qd_K_keepStep_32 : decode qc_K_keepStep 32 = .ok (.putfield 54, 3) := by decide +kernel
theorem qd_K_keepStep_35 : decode qc_K_keepStep 35 = .ok (.return_, 1) := by decide +kernel
theorem qd_K_perform_0 : decode qc_K_perform 0 = .ok (.aload_n 0, 1) := by decide +kernel
theorem qd_K_perform_1 : decode qc_K_perform 1 = .ok (.iload_n 1, 1) := by decide +kernel
theorem qd_K_perform_2 : decode qc_K_perform 2 = .ok (.iload_n 2, 1) := by decide +kernel
theorem qd_K_perform_3 : decode qc_K_perform 3 = .ok (.invokevirtual 87, 3) := by decide +kernel
theorem qd_K_perform_6 : decode qc_K_perform 6 = .ok (.istore_n 3, 1) := by decide +kernel
theorem qd_K_perform_7 : decode qc_K_perform 7 = .ok (.iload_n 3, 1) := by decide +kernel
theorem qd_K_perform_8 : decode qc_K_perform 8 = .ok (.iconst (-1), 1) := by decide +kernel
theorem qd_K_perform_9 : decode qc_K_perform 9 = .ok (.if_icmp .eq 14, 3) := by decide +kernel
theorem qd_K_perform_12 : decode qc_K_perform 12 = .ok (.aload_n 0, 1) := by decide +kernel
theorem qd_K_perform_13 : decode qc_K_perform 13 = .ok (.iload_n 3, 1) := by decide +kernel
theorem qd_K_perform_14 : decode qc_K_perform 14 = .ok (.invokevirtual 91, 3) := by decide +kernel
theorem qd_K_perform_17 : decode qc_K_perform 17 = .ok (.aload_n 0, 1) := by decide +kernel
theorem qd_K_perform_18 : decode qc_K_perform 18 = .ok (.iconst 2, 1) := by decide +kernel
theorem qd_K_perform_19 : decode qc_K_perform 19 = .ok (.putfield 35, 3) := by decide +kernel
theorem qd_K_perform_22 : decode qc_K_perform 22 = .ok (.return_, 1) := by decide +kernel
theorem qd_K_perform_23 : decode qc_K_perform 23 = .ok (.aload_n 0, 1) := by decide +kernel
theorem qd_K_perform_24 : decode qc_K_perform 24 = .ok (.iconst 0, 1) := by decide +kernel
theorem qd_K_perform_25 : decode qc_K_perform 25 = .ok (.invokevirtual 94, 3) := by decide +kernel
theorem qd_K_perform_28 : decode qc_K_perform 28 = .ok (.istore 4, 2) := by decide +kernel
theorem qd_K_perform_30 : decode qc_K_perform 30 = .ok (.aload_n 0, 1) := by decide +kernel
theorem qd_K_perform_31 : decode qc_K_perform 31 = .ok (.iconst 1, 1) := by decide +kernel
theorem qd_K_perform_32 : decode qc_K_perform 32 = .ok (.invokevirtual 94, 3) := by decide +kernel
theorem qd_K_perform_35 : decode qc_K_perform 35 = .ok (.istore 5, 2) := by decide +kernel
theorem qd_K_perform_37 : decode qc_K_perform 37 = .ok (.aload_n 0, 1) := by decide +kernel
theorem qd_K_perform_38 : decode qc_K_perform 38 = .ok (.iload_n 1, 1) := by decide +kernel
theorem qd_K_perform_39 : decode qc_K_perform 39 = .ok (.iload 4, 2) := by decide +kernel
theorem qd_K_perform_41 : decode qc_K_perform 41 = .ok (.iload 5, 2) := by decide +kernel
theorem qd_K_perform_43 : decode qc_K_perform 43 = .ok (.invokevirtual 98, 3) := by decide +kernel
theorem qd_K_perform_46 : decode qc_K_perform 46 = .ok (.aload_n 0, 1) := by decide +kernel
theorem qd_K_perform_47 : decode qc_K_perform 47 = .ok (.dup, 1) := by decide +kernel
theorem qd_K_perform_48 : decode qc_K_perform 48 = .ok (.getfield 29, 3) := by decide +kernel
theorem qd_K_perform_51 : decode qc_K_perform 51 = .ok (.getstatic 101, 3) := by decide +kernel
theorem qd_K_perform_54 : decode qc_K_perform 54 = .ok (.iload_n 1, 1) := by decide +kernel
theorem qd_K_perform_55 : decode qc_K_perform 55 = .ok (.iaload, 1) := by decide +kernel
theorem qd_K_perform_56 : decode qc_K_perform 56 = .ok (.isub, 1) := by decide +kernel
theorem qd_K_perform_57 : decode qc_K_perform 57 = .ok (.putfield 29, 3) := by decide +kernel
theorem qd_K_perform_60 : decode qc_K_perform 60 = .ok (.aload_n 0, 1) := by decide +kernel
theorem qd_K_perform_61 : decode qc_K_perform 61 = .ok (.dup, 1) := by decide +kernel
theorem qd_K_perform_62 : decode qc_K_perform 62 = .ok (.getfield 22, 3) := by decide +kernel
theorem qd_K_perform_65 : decode qc_K_perform 65 = .ok (.getstatic 104, 3) := by decide +kernel
theorem qd_K_perform_68 : decode qc_K_perform 68 = .ok (.iload_n 1, 1) := by decide +kernel
theorem qd_K_perform_69 : decode qc_K_perform 69 = .ok (.iaload, 1) := by decide +kernel
theorem qd_K_perform_70 : decode qc_K_perform 70 = .ok (.isub, 1) := by decide +kernel
theorem qd_K_perform_71 : decode qc_K_perform 71 = .ok (.putfield 22, 3) := by decide +kernel
theorem qd_K_perform_74 : decode qc_K_perform 74 = .ok (.aload_n 0, 1) := by decide +kernel
theorem qd_K_perform_75 : decode qc_K_perform 75 = .ok (.dup, 1) := by decide +kernel
theorem qd_K_perform_76 : decode qc_K_perform 76 = .ok (.getfield 32, 3) := by decide +kernel
theorem qd_K_perform_79 : decode qc_K_perform 79 = .ok (.iconst 1, 1) := by decide +kernel
theorem qd_K_perform_80 : decode qc_K_perform 80 = .ok (.iadd, 1) := by decide +kernel
theorem qd_K_perform_81 : decode qc_K_perform 81 = .ok (.putfield 32, 3) := by decide +kernel
theorem qd_K_perform_84 : decode qc_K_perform 84 = .ok (.getstatic 107, 3) := by decide +kernel
theorem qd_K_perform_87 : decode qc_K_perform 87 = .ok (.iload_n 1, 1) := by decide +kernel
theorem qd_K_perform_88 : decode qc_K_perform 88 = .ok (.iaload, 1) := by decide +kernel
theorem qd_K_perform_89 : decode qc_K_perform 89 = .ok (.iconst 1, 1) := by decide +kernel
theorem qd_K_perform_90 : decode qc_K_perform 90 = .ok (.if_icmp .ne 35, 3) := by decide +kernel
theorem qd_K_perform_93 : decode qc_K_perform 93 = .ok (.aload_n 0, 1) := by decide +kernel
theorem qd_K_perform_94 : decode qc_K_perform 94 = .ok (.getfield 18, 3) := by decide +kernel
theorem qd_K_perform_97 : decode qc_K_perform 97 = .ok (.aload_n 0, 1) := by decide +kernel
theorem qd_K_perform_98 : decode qc_K_perform 98 = .ok (.getfield 22, 3) := by decide +kernel
theorem qd_K_perform_101 : decode qc_K_perform 101 = .ok (.aload_n 0, 1) := by decide +kernel
theorem qd_K_perform_102 : decode qc_K_perform 102 = .ok (.iload_n 1, 1) := by decide +kernel
theorem qd_K_perform_103 : decode qc_K_perform 103 = .ok (.iload_n 2, 1) := by decide +kernel
theorem qd_K_perform_104 : decode qc_K_perform 104 = .ok (.iload 4, 2) := by decide +kernel
theorem qd_K_perform_106 : decode qc_K_perform 106 = .ok (.iload 5, 2) := by decide +kernel
theorem qd_K_perform_108 : decode qc_K_perform 108 = .ok (.invokevirtual 110, 3) := by decide +kernel
theorem qd_K_perform_111 : decode qc_K_perform 111 = .ok (.iastore, 1) := by decide +kernel
theorem qd_K_perform_112 : decode qc_K_perform 112 = .ok (.aload_n 0, 1) := by decide +kernel
theorem qd_K_perform_113 : decode qc_K_perform 113 = .ok (.dup, 1) := by decide +kernel
theorem qd_K_perform_114 : decode qc_K_perform 114 = .ok (.getfield 22, 3) := by decide +kernel
theorem qd_K_perform_117 : decode qc_K_perform 117 = .ok (.iconst 1, 1) := by decide +kernel
theorem qd_K_perform_118 : decode qc_K_perform 118 = .ok (.iadd, 1) := by decide +kernel
theorem qd_K_perform_119 : decode qc_K_perform 119 = .ok (.putfield 22, 3) := by decide +kernel
theorem qd_K_perform_122 : decode qc_K_perform 122 = .ok (.goto 13, 3) := by decide +kernel
theorem qd_K_perform_125 : decode qc_K_perform 125 = .ok (.aload_n 0, 1) := by decide +kernel
theorem qd_K_perform_126 : decode qc_K_perform 126 = .ok (.iload_n 1, 1) := by decide +kernel
theorem qd_K_perform_127 : decode qc_K_perform 127 = .ok (.iload_n 2, 1) := by decide +kernel
theorem qd_K_perform_128 : decode qc_K_perform 128 = .ok (.iload 4, 2) := by decide +kernel
theorem qd_K_perform_130 : decode qc_K_perform 130 = .ok (.iload 5, 2) := by decide +kernel
theorem qd_K_perform_132 : decode qc_K_perform 132 = .ok (.invokevirtual 114, 3) := by decide +kernel
theorem qd_K_perform_135 : decode qc_K_perform 135 = .ok (.return_, 1) := by decide +kernel
theorem qd_K_faultOf_0 : decode qc_K_faultOf 0 = .ok (.aload_n 0, 1) := by decide +kernel
theorem qd_K_faultOf_1 : decode qc_K_faultOf 1 = .ok (.getfield 22, 3) := by decide +kernel
theorem qd_K_faultOf_4 : decode qc_K_faultOf 4 = .ok (.getstatic 104, 3) := by decide +kernel
theorem qd_K_faultOf_7 : decode qc_K_faultOf 7 = .ok (.iload_n 1, 1) := by decide +kernel
theorem qd_K_faultOf_8 : decode qc_K_faultOf 8 = .ok (.iaload, 1) := by decide +kernel
theorem qd_K_faultOf_9 : decode qc_K_faultOf 9 = .ok (.isub, 1) := by decide +kernel
theorem qd_K_faultOf_10 : decode qc_K_faultOf 10 = .ok (.istore_n 3, 1) := by decide +kernel
theorem qd_K_faultOf_11 : decode qc_K_faultOf 11 = .ok (.aload_n 0, 1) := by decide +kernel
theorem qd_K_faultOf_12 : decode qc_K_faultOf 12 = .ok (.getfield 29, 3) := by decide +kernel
theorem qd_K_faultOf_15 : decode qc_K_faultOf 15 = .ok (.getstatic 101, 3) := by decide +kernel
theorem qd_K_faultOf_18 : decode qc_K_faultOf 18 = .ok (.iload_n 1, 1) := by decide +kernel
theorem qd_K_faultOf_19 : decode qc_K_faultOf 19 = .ok (.iaload, 1) := by decide +kernel
theorem qd_K_faultOf_20 : decode qc_K_faultOf 20 = .ok (.if_icmp .lt 19, 3) := by decide +kernel
theorem qd_K_faultOf_23 : decode qc_K_faultOf 23 = .ok (.iload_n 3, 1) := by decide +kernel
theorem qd_K_faultOf_24 : decode qc_K_faultOf 24 = .ok (.ifCond .lt 15, 3) := by decide +kernel
theorem qd_K_faultOf_27 : decode qc_K_faultOf 27 = .ok (.iload_n 3, 1) := by decide +kernel
theorem qd_K_faultOf_28 : decode qc_K_faultOf 28 = .ok (.getstatic 107, 3) := by decide +kernel
theorem qd_K_faultOf_31 : decode qc_K_faultOf 31 = .ok (.iload_n 1, 1) := by decide +kernel
theorem qd_K_faultOf_32 : decode qc_K_faultOf 32 = .ok (.iaload, 1) := by decide +kernel
theorem qd_K_faultOf_33 : decode qc_K_faultOf 33 = .ok (.iadd, 1) := by decide +kernel
theorem qd_K_faultOf_34 : decode qc_K_faultOf 34 = .ok (.bipush 6, 2) := by decide +kernel
theorem qd_K_faultOf_36 : decode qc_K_faultOf 36 = .ok (.if_icmp .le 5, 3) := by decide +kernel
theorem qd_K_faultOf_39 : decode qc_K_faultOf 39 = .ok (.iconst 4, 1) := by decide +kernel
theorem qd_K_faultOf_40 : decode qc_K_faultOf 40 = .ok (.ireturn, 1) := by decide +kernel
theorem qd_K_faultOf_41 : decode qc_K_faultOf 41 = .ok (.iload_n 1, 1) := by decide +kernel
theorem qd_K_faultOf_42 : decode qc_K_faultOf 42 = .ok (.lookupswitch 148 #[(3, 50), (4, 64), (17, 80), (18, 103), (21, 134)], 50) := by decide +kernel
theorem qd_K_faultOf_92 : decode qc_K_faultOf 92 = .ok (.iload_n 2, 1) := by decide +kernel
theorem qd_K_faultOf_93 : decode qc_K_faultOf 93 = .ok (.aload_n 0, 1) := by decide +kernel
theorem qd_K_faultOf_94 : decode qc_K_faultOf 94 = .ok (.getfield 22, 3) := by decide +kernel
theorem qd_K_faultOf_97 : decode qc_K_faultOf 97 = .ok (.if_icmp .ge 7, 3) := by decide +kernel
theorem qd_K_faultOf_100 : decode qc_K_faultOf 100 = .ok (.iconst (-1), 1) := by decide +kernel
theorem qd_K_faultOf_101 : decode qc_K_faultOf 101 = .ok (.goto 4, 3) := by decide +kernel
theorem qd_K_faultOf_104 : decode qc_K_faultOf 104 = .ok (.iconst 4, 1) := by decide +kernel
theorem qd_K_faultOf_105 : decode qc_K_faultOf 105 = .ok (.ireturn, 1) := by decide +kernel
theorem qd_K_faultOf_106 : decode qc_K_faultOf 106 = .ok (.iload_n 2, 1) := by decide +kernel
theorem qd_K_faultOf_107 : decode qc_K_faultOf 107 = .ok (.iconst 1, 1) := by decide +kernel
theorem qd_K_faultOf_108 : decode qc_K_faultOf 108 = .ok (.iadd, 1) := by decide +kernel
theorem qd_K_faultOf_109 : decode qc_K_faultOf 109 = .ok (.aload_n 0, 1) := by decide +kernel
theorem qd_K_faultOf_110 : decode qc_K_faultOf 110 = .ok (.getfield 22, 3) := by decide +kernel
theorem qd_K_faultOf_113 : decode qc_K_faultOf 113 = .ok (.if_icmp .ge 7, 3) := by decide +kernel
theorem qd_K_faultOf_116 : decode qc_K_faultOf 116 = .ok (.iconst (-1), 1) := by decide +kernel
theorem qd_K_faultOf_117 : decode qc_K_faultOf 117 = .ok (.goto 4, 3) := by decide +kernel
theorem qd_K_faultOf_120 : decode qc_K_faultOf 120 = .ok (.iconst 4, 1) := by decide +kernel
theorem qd_K_faultOf_121 : decode qc_K_faultOf 121 = .ok (.ireturn, 1) := by decide +kernel
theorem qd_K_faultOf_122 : decode qc_K_faultOf 122 = .ok (.aload_n 0, 1) := by decide +kernel
theorem qd_K_faultOf_123 : decode qc_K_faultOf 123 = .ok (.getfield 12, 3) := by decide +kernel
theorem qd_K_faultOf_126 : decode qc_K_faultOf 126 = .ok (.getfield 118, 3) := by decide +kernel
theorem qd_K_faultOf_129 : decode qc_K_faultOf 129 = .ok (.aload_n 0, 1) := by decide +kernel
theorem qd_K_faultOf_130 : decode qc_K_faultOf 130 = .ok (.iconst 0, 1) := by decide +kernel
theorem qd_K_faultOf_131 : decode qc_K_faultOf 131 = .ok (.invokevirtual 94, 3) := by decide +kernel
theorem qd_K_faultOf_134 : decode qc_K_faultOf 134 = .ok (.iaload, 1) := by decide +kernel
theorem qd_K_faultOf_135 : decode qc_K_faultOf 135 = .ok (.iconst (-1), 1) := by decide +kernel
theorem qd_K_faultOf_136 : decode qc_K_faultOf 136 = .ok (.if_icmp .eq 7, 3) := by decide +kernel
theorem qd_K_faultOf_139 : decode qc_K_faultOf 139 = .ok (.iconst (-1), 1) := by decide +kernel
theorem qd_K_faultOf_140 : decode qc_K_faultOf 140 = .ok (.goto 4, 3) := by decide +kernel
theorem qd_K_faultOf_143 : decode qc_K_faultOf 143 = .ok (.iconst 4, 1) := by decide +kernel
theorem qd_K_faultOf_144 : decode qc_K_faultOf 144 = .ok (.ireturn, 1) := by decide +kernel
theorem qd_K_faultOf_145 : decode qc_K_faultOf 145 = .ok (.aload_n 0, 1) := by decide +kernel
theorem qd_K_faultOf_146 : decode qc_K_faultOf 146 = .ok (.iconst 1, 1) := by decide +kernel
theorem qd_K_faultOf_147 : decode qc_K_faultOf 147 = .ok (.invokevirtual 94, 3) := by decide +kernel
theorem qd_K_faultOf_150 : decode qc_K_faultOf 150 = .ok (.ifCond .eq 20, 3) := by decide +kernel
theorem qd_K_faultOf_153 : decode qc_K_faultOf 153 = .ok (.aload_n 0, 1) := by decide +kernel
theorem qd_K_faultOf_154 : decode qc_K_faultOf 154 = .ok (.getfield 12, 3) := by decide +kernel
theorem qd_K_faultOf_157 : decode qc_K_faultOf 157 = .ok (.getfield 118, 3) := by decide +kernel
theorem qd_K_faultOf_160 : decode qc_K_faultOf 160 = .ok (.aload_n 0, 1) := by decide +kernel
theorem qd_K_faultOf_161 : decode qc_K_faultOf 161 = .ok (.iconst 0, 1) := by decide +kernel
theorem qd_K_faultOf_162 : decode qc_K_faultOf 162 = .ok (.invokevirtual 94, 3) := by decide +kernel
theorem qd_K_faultOf_165 : decode qc_K_faultOf 165 = .ok (.iaload, 1) := by decide +kernel
theorem qd_K_faultOf_166 : decode qc_K_faultOf 166 = .ok (.iconst (-1), 1) := by decide +kernel
theorem qd_K_faultOf_167 : decode qc_K_faultOf 167 = .ok (.if_icmp .eq 7, 3) := by decide +kernel
theorem qd_K_faultOf_170 : decode qc_K_faultOf 170 = .ok (.iconst (-1), 1) := by decide +kernel
theorem qd_K_faultOf_171 : decode qc_K_faultOf 171 = .ok (.goto 4, 3) := by decide +kernel
theorem qd_K_faultOf_174 : decode qc_K_faultOf 174 = .ok (.iconst 4, 1) := by decide +kernel
theorem qd_K_faultOf_175 : decode qc_K_faultOf 175 = .ok (.ireturn, 1) := by decide +kernel
theorem qd_K_faultOf_176 : decode qc_K_faultOf 176 = .ok (.aload_n 0, 1) := by decide +kernel
theorem qd_K_faultOf_177 : decode qc_K_faultOf 177 = .ok (.iconst 0, 1) := by decide +kernel
theorem qd_K_faultOf_178 : decode qc_K_faultOf 178 = .ok (.invokevirtual 94, 3) := by decide +kernel
theorem qd_K_faultOf_181 : decode qc_K_faultOf 181 = .ok (.ifCond .eq 7, 3) := by decide +kernel
theorem qd_K_faultOf_184 : decode qc_K_faultOf 184 = .ok (.iconst (-1), 1) := by decide +kernel
theorem qd_K_faultOf_185 : decode qc_K_faultOf 185 = .ok (.goto 4, 3) := by decide +kernel
theorem qd_K_faultOf_188 : decode qc_K_faultOf 188 = .ok (.iconst 0, 1) := by decide +kernel
theorem qd_K_faultOf_189 : decode qc_K_faultOf 189 = .ok (.ireturn, 1) := by decide +kernel
theorem qd_K_faultOf_190 : decode qc_K_faultOf 190 = .ok (.iconst (-1), 1) := by decide +kernel
theorem qd_K_faultOf_191 : decode qc_K_faultOf 191 = .ok (.ireturn, 1) := by decide +kernel
theorem qd_K_look_0 : decode qc_K_look 0 = .ok (.iload_n 1, 1) := by decide +kernel
theorem qd_K_look_1 : decode qc_K_look 1 = .ok (.bipush 6, 2) := by decide +kernel
theorem qd_K_look_3 : decode qc_K_look 3 = .ok (.if_icmp .ne 11, 3) := by decide +kernel
theorem qd_K_look_6 : decode qc_K_look 6 = .ok (.iload_n 3, 1) := by decide +kernel
theorem qd_K_look_7 : decode qc_K_look 7 = .ok (.iload_n 2, 1) := by decide +kernel
theorem qd_K_look_8 : decode qc_K_look 8 = .ok (.iadd, 1) := by decide +kernel
theorem qd_K_look_9 : decode qc_K_look 9 = .ok (.bipush 16, 2) := by decide +kernel
theorem qd_K_look_11 : decode qc_K_look 11 = .ok (.if_icmp .ge 28, 3) := by decide +kernel
theorem qd_K_look_14 : decode qc_K_look 14 = .ok (.iload_n 1, 1) := by decide +kernel
theorem qd_K_look_15 : decode qc_K_look 15 = .ok (.bipush 8, 2) := by decide +kernel
theorem qd_K_look_17 : decode qc_K_look 17 = .ok (.if_icmp .ne 11, 3) := by decide +kernel
theorem qd_K_look_20 : decode qc_K_look 20 = .ok (.iload_n 3, 1) := by decide +kernel
theorem qd_K_look_21 : decode qc_K_look 21 = .ok (.iload_n 2, 1) := by decide +kernel
theorem qd_K_look_22 : decode qc_K_look 22 = .ok (.imul, 1) := by decide +kernel
theorem qd_K_look_23 : decode qc_K_look 23 = .ok (.bipush 16, 2) := by decide +kernel
theorem qd_K_look_25 : decode qc_K_look 25 = .ok (.if_icmp .ge 14, 3) := by decide +kernel
theorem qd_K_look_28 : decode qc_K_look 28 = .ok (.iload_n 1, 1) := by decide +kernel
theorem qd_K_look_29 : decode qc_K_look 29 = .ok (.bipush 7, 2) := by decide +kernel
theorem qd_K_look_31 : decode qc_K_look 31 = .ok (.if_icmp .ne 12, 3) := by decide +kernel
theorem qd_K_look_34 : decode qc_K_look 34 = .ok (.iload_n 2, 1) := by decide +kernel
theorem qd_K_look_35 : decode qc_K_look 35 = .ok (.iload_n 3, 1) := by decide +kernel
theorem qd_K_look_36 : decode qc_K_look 36 = .ok (.if_icmp .le 7, 3) := by decide +kernel
theorem qd_K_look_39 : decode qc_K_look 39 = .ok (.iconst 1, 1) := by decide +kernel
theorem qd_K_look_40 : decode qc_K_look 40 = .ok (.goto 4, 3) := by decide +kernel
theorem qd_K_look_43 : decode qc_K_look 43 = .ok (.iconst 0, 1) := by decide +kernel
theorem qd_K_look_44 : decode qc_K_look 44 = .ok (.istore 4, 2) := by decide +kernel
theorem qd_K_look_46 : decode qc_K_look 46 = .ok (.iload 4, 2) := by decide +kernel
theorem qd_K_look_48 : decode qc_K_look 48 = .ok (.ifCond .eq 11, 3) := by decide +kernel
theorem qd_K_look_51 : decode qc_K_look 51 = .ok (.aload_n 0, 1) := by decide +kernel
theorem qd_K_look_52 : decode qc_K_look 52 = .ok (.iconst 1, 1) := by decide +kernel
theorem qd_K_look_53 : decode qc_K_look 53 = .ok (.invokevirtual 91, 3) := by decide +kernel
theorem qd_K_look_56 : decode qc_K_look 56 = .ok (.goto 42, 3) := by decide +kernel
theorem qd_K_look_59 : decode qc_K_look 59 = .ok (.iload_n 1, 1) := by decide +kernel
theorem qd_K_look_60 : decode qc_K_look 60 = .ok (.bipush 24, 2) := by decide +kernel
theorem qd_K_look_62 : decode qc_K_look 62 = .ok (.if_icmp .ne 18, 3) := by decide +kernel
theorem qd_K_look_65 : decode qc_K_look 65 = .ok (.aload_n 0, 1) := by decide +kernel
theorem qd_K_look_66 : decode qc_K_look 66 = .ok (.getfield 41, 3) := by decide +kernel
theorem qd_K_look_69 : decode qc_K_look 69 = .ok (.ifCond .eq 11, 3) := by decide +kernel
theorem qd_K_look_72 : decode qc_K_look 72 = .ok (.aload_n 0, 1) := by decide +kernel
theorem qd_K_look_73 : decode qc_K_look 73 = .ok (.iconst 2, 1) := by decide +kernel
theorem qd_K_look_74 : decode qc_K_look 74 = .ok (.invokevirtual 91, 3) := by decide +kernel
theorem qd_K_look_77 : decode qc_K_look 77 = .ok (.goto 21, 3) := by decide +kernel
theorem qd_K_look_80 : decode qc_K_look 80 = .ok (.iload_n 1, 1) := by decide +kernel
theorem qd_K_look_81 : decode qc_K_look 81 = .ok (.bipush 15, 2) := by decide +kernel
theorem qd_K_look_83 : decode qc_K_look 83 = .ok (.if_icmp .ne 15, 3) := by decide +kernel
theorem qd_K_look_86 : decode qc_K_look 86 = .ok (.aload_n 0, 1) := by decide +kernel
theorem qd_K_look_87 : decode qc_K_look 87 = .ok (.getfield 44, 3) := by decide +kernel
theorem qd_K_look_90 : decode qc_K_look 90 = .ok (.ifCond .eq 8, 3) := by decide +kernel
theorem qd_K_look_93 : decode qc_K_look 93 = .ok (.aload_n 0, 1) := by decide +kernel
theorem qd_K_look_94 : decode qc_K_look 94 = .ok (.iconst 3, 1) := by decide +kernel
theorem qd_K_look_95 : decode qc_K_look 95 = .ok (.invokevirtual 91, 3) := by decide +kernel
theorem qd_K_look_98 : decode qc_K_look 98 = .ok (.return_, 1) := by decide +kernel
theorem qd_K_wordPut_0 : decode qc_K_wordPut 0 = .ok (.iload_n 1, 1) := by decide +kernel
theorem qd_K_wordPut_1 : decode qc_K_wordPut 1 = .ok (.tableswitch 210 0 20 #[99, 101, 106, 111, 210, 210, 117, 125, 133, 141, 146, 151, 163, 175, 185, 210, 210, 210, 210, 196, 202], 99) := by decide +kernel
theorem qd_K_wordPut_100 : decode qc_K_wordPut 100 = .ok (.iload_n 2, 1) := by decide +kernel
theorem qd_K_wordPut_101 : decode qc_K_wordPut 101 = .ok (.ireturn, 1) := by decide +kernel
theorem qd_K_wordPut_102 : decode qc_K_wordPut 102 = .ok (.aload_n 0, 1) := by decide +kernel
theorem qd_K_wordPut_103 : decode qc_K_wordPut 103 = .ok (.getfield 38, 3) := by decide +kernel
theorem qd_K_wordPut_106 : decode qc_K_wordPut 106 = .ok (.ireturn, 1) := by decide +kernel
theorem qd_K_wordPut_107 : decode qc_K_wordPut 107 = .ok (.aload_n 0, 1) := by decide +kernel
theorem qd_K_wordPut_108 : decode qc_K_wordPut 108 = .ok (.getfield 41, 3) := by decide +kernel
theorem qd_K_wordPut_111 : decode qc_K_wordPut 111 = .ok (.ireturn, 1) := by decide +kernel
theorem qd_K_wordPut_112 : decode qc_K_wordPut 112 = .ok (.aload_n 0, 1) := by decide +kernel
theorem qd_K_wordPut_113 : decode qc_K_wordPut 113 = .ok (.iload_n 2, 1) := by decide +kernel
theorem qd_K_wordPut_114 : decode qc_K_wordPut 114 = .ok (.invokevirtual 94, 3) := by decide +kernel
theorem qd_K_wordPut_117 : decode qc_K_wordPut 117 = .ok (.ireturn, 1) := by decide +kernel
theorem qd_K_wordPut_118 : decode qc_K_wordPut 118 = .ok (.iload 4, 2) := by decide +kernel
theorem qd_K_wordPut_120 : decode qc_K_wordPut 120 = .ok (.iload_n 3, 1) := by decide +kernel
theorem qd_K_wordPut_121 : decode qc_K_wordPut 121 = .ok (.iadd, 1) := by decide +kernel
theorem qd_K_wordPut_122 : decode qc_K_wordPut 122 = .ok (.bipush 15, 2) := by decide +kernel
theorem qd_K_wordPut_124 : decode qc_K_wordPut 124 = .ok (.iand, 1) := by decide +kernel
theorem qd_K_wordPut_125 : decode qc_K_wordPut 125 = .ok (.ireturn, 1) := by decide +kernel
theorem qd_K_wordPut_126 : decode qc_K_wordPut 126 = .ok (.iload 4, 2) := by decide +kernel
theorem qd_K_wordPut_128 : decode qc_K_wordPut 128 = .ok (.iload_n 3, 1) := by decide +kernel
theorem qd_K_wordPut_129 : decode qc_K_wordPut 129 = .ok (.isub, 1) := by decide +kernel
theorem qd_K_wordPut_130 : decode qc_K_wordPut 130 = .ok (.bipush 15, 2) := by decide +kernel
theorem qd_K_wordPut_132 : decode qc_K_wordPut 132 = .ok (.iand, 1) := by decide +kernel
theorem qd_K_wordPut_133 : decode qc_K_wordPut 133 = .ok (.ireturn, 1) := by decide +kernel
theorem qd_K_wordPut_134 : decode qc_K_wordPut 134 = .ok (.iload 4, 2) := by decide +kernel
theorem qd_K_wordPut_136 : decode qc_K_wordPut 136 = .ok (.iload_n 3, 1) := by decide +kernel
theorem qd_K_wordPut_137 : decode qc_K_wordPut 137 = .ok (.imul, 1) := by decide +kernel
theorem qd_K_wordPut_138 : decode qc_K_wordPut 138 = .ok (.bipush 15, 2) := by decide +kernel
theorem qd_K_wordPut_140 : decode qc_K_wordPut 140 = .ok (.iand, 1) := by decide +kernel
theorem qd_K_wordPut_141 : decode qc_K_wordPut 141 = .ok (.ireturn, 1) := by decide +kernel
theorem qd_K_wordPut_142 : decode qc_K_wordPut 142 = .ok (.iload 4, 2) := by decide +kernel
theorem qd_K_wordPut_144 : decode qc_K_wordPut 144 = .ok (.iload_n 3, 1) := by decide +kernel
theorem qd_K_wordPut_145 : decode qc_K_wordPut 145 = .ok (.iand, 1) := by decide +kernel
theorem qd_K_wordPut_146 : decode qc_K_wordPut 146 = .ok (.ireturn, 1) := by decide +kernel
theorem qd_K_wordPut_147 : decode qc_K_wordPut 147 = .ok (.iload 4, 2) := by decide +kernel
theorem qd_K_wordPut_149 : decode qc_K_wordPut 149 = .ok (.iload_n 3, 1) := by decide +kernel
theorem qd_K_wordPut_150 : decode qc_K_wordPut 150 = .ok (.ixor, 1) := by decide +kernel
theorem qd_K_wordPut_151 : decode qc_K_wordPut 151 = .ok (.ireturn, 1) := by decide +kernel
theorem qd_K_wordPut_152 : decode qc_K_wordPut 152 = .ok (.iload 4, 2) := by decide +kernel
theorem qd_K_wordPut_154 : decode qc_K_wordPut 154 = .ok (.iload_n 3, 1) := by decide +kernel
theorem qd_K_wordPut_155 : decode qc_K_wordPut 155 = .ok (.if_icmp .ge 7, 3) := by decide +kernel
theorem qd_K_wordPut_158 : decode qc_K_wordPut 158 = .ok (.iconst 1, 1) := by decide +kernel
theorem qd_K_wordPut_159 : decode qc_K_wordPut 159 = .ok (.goto 4, 3) := by decide +kernel
theorem qd_K_wordPut_162 : decode qc_K_wordPut 162 = .ok (.iconst 0, 1) := by decide +kernel
theorem qd_K_wordPut_163 : decode qc_K_wordPut 163 = .ok (.ireturn, 1) := by decide +kernel
theorem qd_K_wordPut_164 : decode qc_K_wordPut 164 = .ok (.iload 4, 2) := by decide +kernel
theorem qd_K_wordPut_166 : decode qc_K_wordPut 166 = .ok (.iload_n 3, 1) := by decide +kernel
theorem qd_K_wordPut_167 : decode qc_K_wordPut 167 = .ok (.if_icmp .ne 7, 3) := by decide +kernel
theorem qd_K_wordPut_170 : decode qc_K_wordPut 170 = .ok (.iconst 1, 1) := by decide +kernel
theorem qd_K_wordPut_171 : decode qc_K_wordPut 171 = .ok (.goto 4, 3) := by decide +kernel
theorem qd_K_wordPut_174 : decode qc_K_wordPut 174 = .ok (.iconst 0, 1) := by decide +kernel
theorem qd_K_wordPut_175 : decode qc_K_wordPut 175 = .ok (.ireturn, 1) := by decide +kernel
theorem qd_K_wordPut_176 : decode qc_K_wordPut 176 = .ok (.iload_n 3, 1) := by decide +kernel
theorem qd_K_wordPut_177 : decode qc_K_wordPut 177 = .ok (.ifCond .ne 7, 3) := by decide +kernel
theorem qd_K_wordPut_180 : decode qc_K_wordPut 180 = .ok (.iconst 1, 1) := by decide +kernel
theorem qd_K_wordPut_181 : decode qc_K_wordPut 181 = .ok (.goto 4, 3) := by decide +kernel
theorem qd_K_wordPut_184 : decode qc_K_wordPut 184 = .ok (.iconst 0, 1) := by decide +kernel
theorem qd_K_wordPut_185 : decode qc_K_wordPut 185 = .ok (.ireturn, 1) := by decide +kernel
theorem qd_K_wordPut_186 : decode qc_K_wordPut 186 = .ok (.aload_n 0, 1) := by decide +kernel
theorem qd_K_wordPut_187 : decode qc_K_wordPut 187 = .ok (.getfield 26, 3) := by decide +kernel
theorem qd_K_wordPut_190 : decode qc_K_wordPut 190 = .ok (.iload_n 3, 1) := by decide +kernel
theorem qd_K_wordPut_191 : decode qc_K_wordPut 191 = .ok (.iconst 4, 1) := by decide +kernel
theorem qd_K_wordPut_192 : decode qc_K_wordPut 192 = .ok (.irem, 1) := by decide +kernel
theorem qd_K_wordPut_193 : decode qc_K_wordPut 193 = .ok (.invokestatic 121, 3) := by decide +kernel
theorem qd_K_wordPut_196 : decode qc_K_wordPut 196 = .ok (.ireturn, 1) := by decide +kernel
theorem qd_K_wordPut_197 : decode qc_K_wordPut 197 = .ok (.aload_n 0, 1) := by decide +kernel
theorem qd_K_wordPut_198 : decode qc_K_wordPut 198 = .ok (.iload_n 3, 1) := by decide +kernel
theorem qd_K_wordPut_199 : decode qc_K_wordPut 199 = .ok (.invokevirtual 124, 3) := by decide +kernel
theorem qd_K_wordPut_202 : decode qc_K_wordPut 202 = .ok (.ireturn, 1) := by decide +kernel
theorem qd_K_wordPut_203 : decode qc_K_wordPut 203 = .ok (.aload_n 0, 1) := by decide +kernel
theorem qd_K_wordPut_204 : decode qc_K_wordPut 204 = .ok (.getfield 26, 3) := by decide +kernel
theorem qd_K_wordPut_207 : decode qc_K_wordPut 207 = .ok (.bipush 16, 2) := by decide +kernel
theorem qd_K_wordPut_209 : decode qc_K_wordPut 209 = .ok (.ishr, 1) := by decide +kernel
theorem qd_K_wordPut_210 : decode qc_K_wordPut 210 = .ok (.ireturn, 1) := by decide +kernel
theorem qd_K_wordPut_211 : decode qc_K_wordPut 211 = .ok (.iconst 0, 1) := by decide +kernel
theorem qd_K_wordPut_212 : decode qc_K_wordPut 212 = .ok (.ireturn, 1) := by decide +kernel
theorem qd_K_act_0 : decode qc_K_act 0 = .ok (.iload_n 1, 1) := by decide +kernel
theorem qd_K_act_1 : decode qc_K_act 1 = .ok (.tableswitch 207 4 24 #[99, 207, 207, 207, 207, 207, 207, 207, 207, 207, 207, 120, 207, 139, 155, 207, 207, 207, 183, 191, 199], 99) := by decide +kernel
theorem qd_K_act_100 : decode qc_K_act 100 = .ok (.aload_n 0, 1) := by decide +kernel
theorem qd_K_act_101 : decode qc_K_act 101 = .ok (.aload_n 0, 1) := by decide +kernel
theorem qd_K_act_102 : decode qc_K_act 102 = .ok (.getfield 22, 3) := by decide +kernel
theorem qd_K_act_105 : decode qc_K_act 105 = .ok (.iconst 1, 1) := by decide +kernel
theorem qd_K_act_106 : decode qc_K_act 106 = .ok (.isub, 1) := by decide +kernel
theorem qd_K_act_107 : decode qc_K_act 107 = .ok (.aload_n 0, 1) := by decide +kernel
theorem qd_K_act_108 : decode qc_K_act 108 = .ok (.getfield 22, 3) := by decide +kernel
theorem qd_K_act_111 : decode qc_K_act 111 = .ok (.iconst 2, 1) := by decide +kernel
theorem qd_K_act_112 : decode qc_K_act 112 = .ok (.isub, 1) := by decide +kernel
theorem qd_K_act_113 : decode qc_K_act 113 = .ok (.iload_n 2, 1) := by decide +kernel
theorem qd_K_act_114 : decode qc_K_act 114 = .ok (.isub, 1) := by decide +kernel
theorem qd_K_act_115 : decode qc_K_act 115 = .ok (.invokevirtual 127, 3) := by decide +kernel
theorem qd_K_act_118 : decode qc_K_act 118 = .ok (.goto 90, 3) := by decide +kernel
theorem qd_K_act_121 : decode qc_K_act 121 = .ok (.aload_n 0, 1) := by decide +kernel
theorem qd_K_act_122 : decode qc_K_act 122 = .ok (.aload_n 0, 1) := by decide +kernel
theorem qd_K_act_123 : decode qc_K_act 123 = .ok (.getfield 26, 3) := by decide +kernel
theorem qd_K_act_126 : decode qc_K_act 126 = .ok (.iload_n 3, 1) := by decide +kernel
theorem qd_K_act_127 : decode qc_K_act 127 = .ok (.iconst 4, 1) := by decide +kernel
theorem qd_K_act_128 : decode qc_K_act 128 = .ok (.irem, 1) := by decide +kernel
theorem qd_K_act_129 : decode qc_K_act 129 = .ok (.iload 4, 2) := by decide +kernel
theorem qd_K_act_131 : decode qc_K_act 131 = .ok (.invokestatic 130, 3) := by decide +kernel
theorem qd_K_act_134 : decode qc_K_act 134 = .ok (.putfield 26, 3) := by decide +kernel
theorem qd_K_act_137 : decode qc_K_act 137 = .ok (.goto 71, 3) := by decide +kernel
theorem qd_K_act_140 : decode qc_K_act 140 = .ok (.aload_n 0, 1) := by decide +kernel
theorem qd_K_act_141 : decode qc_K_act 141 = .ok (.aload_n 0, 1) := by decide +kernel
theorem qd_K_act_142 : decode qc_K_act 142 = .ok (.getfield 12, 3) := by decide +kernel
theorem qd_K_act_145 : decode qc_K_act 145 = .ok (.getfield 118, 3) := by decide +kernel
theorem qd_K_act_148 : decode qc_K_act 148 = .ok (.iload_n 3, 1) := by decide +kernel
theorem qd_K_act_149 : decode qc_K_act 149 = .ok (.iaload, 1) := by decide +kernel
theorem qd_K_act_150 : decode qc_K_act 150 = .ok (.putfield 32, 3) := by decide +kernel
theorem qd_K_act_153 : decode qc_K_act 153 = .ok (.goto 55, 3) := by decide +kernel
theorem qd_K_act_156 : decode qc_K_act 156 = .ok (.aload_n 0, 1) := by decide +kernel
theorem qd_K_act_157 : decode qc_K_act 157 = .ok (.iload 4, 2) := by decide +kernel
theorem qd_K_act_159 : decode qc_K_act 159 = .ok (.ifCond .eq 15, 3) := by decide +kernel
theorem qd_K_act_162 : decode qc_K_act 162 = .ok (.aload_n 0, 1) := by decide +kernel
theorem qd_K_act_163 : decode qc_K_act 163 = .ok (.getfield 12, 3) := by decide +kernel
theorem qd_K_act_166 : decode qc_K_act 166 = .ok (.getfield 118, 3) := by decide +kernel
theorem qd_K_act_169 : decode qc_K_act 169 = .ok (.iload_n 3, 1) := by decide +kernel
theorem qd_K_act_170 : decode qc_K_act 170 = .ok (.iaload, 1) := by decide +kernel
theorem qd_K_act_171 : decode qc_K_act 171 = .ok (.goto 7, 3) := by decide +kernel
theorem qd_K_act_174 : decode qc_K_act 174 = .ok (.aload_n 0, 1) := by decide +kernel
theorem qd_K_act_175 : decode qc_K_act 175 = .ok (.getfield 32, 3) := by decide +kernel
theorem qd_K_act_178 : decode qc_K_act 178 = .ok (.putfield 32, 3) := by decide +kernel
theorem qd_K_act_181 : decode qc_K_act 181 = .ok (.goto 27, 3) := by decide +kernel
theorem qd_K_act_184 : decode qc_K_act 184 = .ok (.aload_n 0, 1) := by decide +kernel
theorem qd_K_act_185 : decode qc_K_act 185 = .ok (.iconst 0, 1) := by decide +kernel
theorem qd_K_act_186 : decode qc_K_act 186 = .ok (.putfield 35, 3) := by decide +kernel
theorem qd_K_act_189 : decode qc_K_act 189 = .ok (.goto 19, 3) := by decide +kernel
theorem qd_K_act_192 : decode qc_K_act 192 = .ok (.aload_n 0, 1) := by decide +kernel
theorem qd_K_act_193 : decode qc_K_act 193 = .ok (.iconst 1, 1) := by decide +kernel
theorem qd_K_act_194 : decode qc_K_act 194 = .ok (.putfield 35, 3) := by decide +kernel
theorem qd_K_act_197 : decode qc_K_act 197 = .ok (.goto 11, 3) := by decide +kernel
theorem qd_K_act_200 : decode qc_K_act 200 = .ok (.aload_n 0, 1) := by decide +kernel
theorem qd_K_act_201 : decode qc_K_act 201 = .ok (.iconst 3, 1) := by decide +kernel
theorem qd_K_act_202 : decode qc_K_act 202 = .ok (.putfield 35, 3) := by decide +kernel
theorem qd_K_act_205 : decode qc_K_act 205 = .ok (.goto 3, 3) := by decide +kernel
theorem qd_K_act_208 : decode qc_K_act 208 = .ok (.return_, 1) := by decide +kernel
theorem qd_K_send_0 : decode qc_K_send 0 = .ok (.iload_n 1, 1) := by decide +kernel
theorem qd_K_send_1 : decode qc_K_send 1 = .ok (.aload_n 0, 1) := by decide +kernel
theorem qd_K_send_2 : decode qc_K_send 2 = .ok (.getfield 26, 3) := by decide +kernel
theorem qd_K_send_5 : decode qc_K_send 5 = .ok (.bipush 16, 2) := by decide +kernel
theorem qd_K_send_7 : decode qc_K_send 7 = .ok (.ishr, 1) := by decide +kernel
theorem qd_K_send_8 : decode qc_K_send 8 = .ok (.if_icmp .le 5, 3) := by decide +kernel
theorem qd_K_send_11 : decode qc_K_send 11 = .ok (.iconst 0, 1) := by decide +kernel
theorem qd_K_send_12 : decode qc_K_send 12 = .ok (.ireturn, 1) := by decide +kernel
theorem qd_K_send_13 : decode qc_K_send 13 = .ok (.aload_n 0, 1) := by decide +kernel
theorem qd_K_send_14 : decode qc_K_send 14 = .ok (.dup, 1) := by decide +kernel
theorem qd_K_send_15 : decode qc_K_send 15 = .ok (.getfield 26, 3) := by decide +kernel
theorem qd_K_send_18 : decode qc_K_send 18 = .ok (.iload_n 1, 1) := by decide +kernel
theorem qd_K_send_19 : decode qc_K_send 19 = .ok (.bipush 16, 2) := by decide +kernel
theorem qd_K_send_21 : decode qc_K_send 21 = .ok (.ishl, 1) := by decide +kernel
theorem qd_K_send_22 : decode qc_K_send 22 = .ok (.isub, 1) := by decide +kernel
theorem qd_K_send_23 : decode qc_K_send 23 = .ok (.putfield 26, 3) := by decide +kernel
theorem qd_K_send_26 : decode qc_K_send 26 = .ok (.aload_n 0, 1) := by decide +kernel
theorem qd_K_send_27 : decode qc_K_send 27 = .ok (.iconst 1, 1) := by decide +kernel
theorem qd_K_send_28 : decode qc_K_send 28 = .ok (.putfield 44, 3) := by decide +kernel
theorem qd_K_send_31 : decode qc_K_send 31 = .ok (.iconst 1, 1) := by decide +kernel
theorem qd_K_send_32 : decode qc_K_send 32 = .ok (.ireturn, 1) := by decide +kernel
theorem qd_K_swap_0 : decode qc_K_swap 0 = .ok (.aload_n 0, 1) := by decide +kernel
theorem qd_K_swap_1 : decode qc_K_swap 1 = .ok (.getfield 18, 3) := by decide +kernel
theorem qd_K_swap_4 : decode qc_K_swap 4 = .ok (.iload_n 1, 1) := by decide +kernel
theorem qd_K_swap_5 : decode qc_K_swap 5 = .ok (.iaload, 1) := by decide +kernel
theorem qd_K_swap_6 : decode qc_K_swap 6 = .ok (.istore_n 3, 1) := by decide +kernel
theorem qd_K_swap_7 : decode qc_K_swap 7 = .ok (.aload_n 0, 1) := by decide +kernel
theorem qd_K_swap_8 : decode qc_K_swap 8 = .ok (.getfield 18, 3) := by decide +kernel
theorem qd_K_swap_11 : decode qc_K_swap 11 = .ok (.iload_n 1, 1) := by decide +kernel
theorem qd_K_swap_12 : decode qc_K_swap 12 = .ok (.aload_n 0, 1) := by decide +kernel
theorem qd_K_swap_13 : decode qc_K_swap 13 = .ok (.getfield 18, 3) := by decide +kernel
theorem qd_K_swap_16 : decode qc_K_swap 16 = .ok (.iload_n 2, 1) := by decide +kernel
theorem qd_K_swap_17 : decode qc_K_swap 17 = .ok (.iaload, 1) := by decide +kernel
theorem qd_K_swap_18 : decode qc_K_swap 18 = .ok (.iastore, 1) := by decide +kernel
theorem qd_K_swap_19 : decode qc_K_swap 19 = .ok (.aload_n 0, 1) := by decide +kernel
theorem qd_K_swap_20 : decode qc_K_swap 20 = .ok (.getfield 18, 3) := by decide +kernel
theorem qd_K_swap_23 : decode qc_K_swap 23 = .ok (.iload_n 2, 1) := by decide +kernel
theorem qd_K_swap_24 : decode qc_K_swap 24 = .ok (.iload_n 3, 1) := by decide +kernel
theorem qd_K_swap_25 : decode qc_K_swap 25 = .ok (.iastore, 1) := by decide +kernel
theorem qd_K_swap_26 : decode qc_K_swap 26 = .ok (.return_, 1) := by decide +kernel
theorem qd_K_wordUnder_0 : decode qc_K_wordUnder 0 = .ok (.iload_n 1, 1) := by decide +kernel
theorem qd_K_wordUnder_1 : decode qc_K_wordUnder 1 = .ok (.aload_n 0, 1) := by decide +kernel
theorem qd_K_wordUnder_2 : decode qc_K_wordUnder 2 = .ok (.getfield 22, 3) := by decide +kernel
theorem qd_K_wordUnder_5 : decode qc_K_wordUnder 5 = .ok (.if_icmp .ge 19, 3) := by decide +kernel
theorem qd_K_wordUnder_8 : decode qc_K_wordUnder 8 = .ok (.aload_n 0, 1) := by decide +kernel
theorem qd_K_wordUnder_9 : decode qc_K_wordUnder 9 = .ok (.getfield 18, 3) := by decide +kernel
theorem qd_K_wordUnder_12 : decode qc_K_wordUnder 12 = .ok (.aload_n 0, 1) := by decide +kernel
theorem qd_K_wordUnder_13 : decode qc_K_wordUnder 13 = .ok (.getfield 22, 3) := by decide +kernel
theorem qd_K_wordUnder_16 : decode qc_K_wordUnder 16 = .ok (.iconst 1, 1) := by decide +kernel
theorem qd_K_wordUnder_17 : decode qc_K_wordUnder 17 = .ok (.isub, 1) := by decide +kernel
theorem qd_K_wordUnder_18 : decode qc_K_wordUnder 18 = .ok (.iload_n 1, 1) := by decide +kernel
theorem qd_K_wordUnder_19 : decode qc_K_wordUnder 19 = .ok (.isub, 1) := by decide +kernel
theorem qd_K_wordUnder_20 : decode qc_K_wordUnder 20 = .ok (.iaload, 1) := by decide +kernel
theorem qd_K_wordUnder_21 : decode qc_K_wordUnder 21 = .ok (.goto 4, 3) := by decide +kernel
theorem qd_K_wordUnder_24 : decode qc_K_wordUnder 24 = .ok (.iconst 0, 1) := by decide +kernel
theorem qd_K_wordUnder_25 : decode qc_K_wordUnder 25 = .ok (.ireturn, 1) := by decide +kernel
theorem qd_K_note_0 : decode qc_K_note 0 = .ok (.aload_n 0, 1) := by decide +kernel
theorem qd_K_note_1 : decode qc_K_note 1 = .ok (.getfield 57, 3) := by decide +kernel
theorem qd_K_note_4 : decode qc_K_note 4 = .ok (.iload_n 1, 1) := by decide +kernel
theorem qd_K_note_5 : decode qc_K_note 5 = .ok (.dup2, 1) := by decide +kernel
theorem qd_K_note_6 : decode qc_K_note 6 = .ok (.iaload, 1) := by decide +kernel
theorem qd_K_note_7 : decode qc_K_note 7 = .ok (.iconst 1, 1) := by decide +kernel
theorem qd_K_note_8 : decode qc_K_note 8 = .ok (.aload_n 0, 1) := by decide +kernel
theorem qd_K_note_9 : decode qc_K_note 9 = .ok (.getfield 32, 3) := by decide +kernel
theorem qd_K_note_12 : decode qc_K_note 12 = .ok (.ishl, 1) := by decide +kernel
theorem qd_K_note_13 : decode qc_K_note 13 = .ok (.ior, 1) := by decide +kernel
theorem qd_K_note_14 : decode qc_K_note 14 = .ok (.iastore, 1) := by decide +kernel
theorem qd_K_note_15 : decode qc_K_note 15 = .ok (.return_, 1) := by decide +kernel
