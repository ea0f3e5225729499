theorem dX0_init_0 : decode cX0_init 0 = .ok (.aload_n 0, 1) := by decide +kernel
theorem dX0_init_1 : decode cX0_init 1 = .ok (.invokespecial 3, 3) := by decide +kernel
theorem dX0_init_4 : decode cX0_init 4 = .ok (.aload_n 0, 1) := by decide +kernel
theorem dX0_init_5 : decode cX0_init 5 = .ok (.iconst 0, 1) := by decide +kernel
theorem dX0_init_6 : decode cX0_init 6 = .ok (.putfield 9, 3) := by decide +kernel
theorem dX0_init_9 : decode cX0_init 9 = .ok (.aload_n 0, 1) := by decide +kernel
theorem dX0_init_10 : decode cX0_init 10 = .ok (.iconst 0, 1) := by decide +kernel
theorem dX0_init_11 : decode cX0_init 11 = .ok (.putfield 15, 3) := by decide +kernel
theorem dX0_init_14 : decode cX0_init 14 = .ok (.aload_n 0, 1) := by decide +kernel
theorem dX0_init_15 : decode cX0_init 15 = .ok (.iconst 0, 1) := by decide +kernel
theorem dX0_init_16 : decode cX0_init 16 = .ok (.putfield 18, 3) := by decide +kernel
theorem dX0_init_19 : decode cX0_init 19 = .ok (.aload_n 0, 1) := by decide +kernel
theorem dX0_init_20 : decode cX0_init 20 = .ok (.iconst 1, 1) := by decide +kernel
theorem dX0_init_21 : decode cX0_init 21 = .ok (.putfield 21, 3) := by decide +kernel
theorem dX0_init_24 : decode cX0_init 24 = .ok (.aload_n 0, 1) := by decide +kernel
theorem dX0_init_25 : decode cX0_init 25 = .ok (.iconst 0, 1) := by decide +kernel
theorem dX0_init_26 : decode cX0_init 26 = .ok (.putfield 24, 3) := by decide +kernel
theorem dX0_init_29 : decode cX0_init 29 = .ok (.aload_n 0, 1) := by decide +kernel
theorem dX0_init_30 : decode cX0_init 30 = .ok (.bipush 10, 2) := by decide +kernel
theorem dX0_init_32 : decode cX0_init 32 = .ok (.newarray .int, 2) := by decide +kernel
theorem dX0_init_34 : decode cX0_init 34 = .ok (.putfield 27, 3) := by decide +kernel
theorem dX0_init_37 : decode cX0_init 37 = .ok (.aload_n 0, 1) := by decide +kernel
theorem dX0_init_38 : decode cX0_init 38 = .ok (.bipush 10, 2) := by decide +kernel
theorem dX0_init_40 : decode cX0_init 40 = .ok (.newarray .int, 2) := by decide +kernel
theorem dX0_init_42 : decode cX0_init 42 = .ok (.putfield 31, 3) := by decide +kernel
theorem dX0_init_45 : decode cX0_init 45 = .ok (.aload_n 0, 1) := by decide +kernel
theorem dX0_init_46 : decode cX0_init 46 = .ok (.bipush 10, 2) := by decide +kernel
theorem dX0_init_48 : decode cX0_init 48 = .ok (.newarray .int, 2) := by decide +kernel
theorem dX0_init_50 : decode cX0_init 50 = .ok (.putfield 34, 3) := by decide +kernel
theorem dX0_init_53 : decode cX0_init 53 = .ok (.aload_n 0, 1) := by decide +kernel
theorem dX0_init_54 : decode cX0_init 54 = .ok (.bipush 8, 2) := by decide +kernel
theorem dX0_init_56 : decode cX0_init 56 = .ok (.newarray .int, 2) := by decide +kernel
theorem dX0_init_58 : decode cX0_init 58 = .ok (.putfield 37, 3) := by decide +kernel
theorem dX0_init_61 : decode cX0_init 61 = .ok (.aload_n 0, 1) := by decide +kernel
theorem dX0_init_62 : decode cX0_init 62 = .ok (.bipush 8, 2) := by decide +kernel
theorem dX0_init_64 : decode cX0_init 64 = .ok (.newarray .int, 2) := by decide +kernel
theorem dX0_init_66 : decode cX0_init 66 = .ok (.putfield 40, 3) := by decide +kernel
theorem dX0_init_69 : decode cX0_init 69 = .ok (.aload_n 0, 1) := by decide +kernel
theorem dX0_init_70 : decode cX0_init 70 = .ok (.bipush 8, 2) := by decide +kernel
theorem dX0_init_72 : decode cX0_init 72 = .ok (.newarray .int, 2) := by decide +kernel
theorem dX0_init_74 : decode cX0_init 74 = .ok (.putfield 43, 3) := by decide +kernel
theorem dX0_init_77 : decode cX0_init 77 = .ok (.aload_n 0, 1) := by decide +kernel
theorem dX0_init_78 : decode cX0_init 78 = .ok (.iconst (-1), 1) := by decide +kernel
theorem dX0_init_79 : decode cX0_init 79 = .ok (.putfield 46, 3) := by decide +kernel
theorem dX0_init_82 : decode cX0_init 82 = .ok (.aload_n 0, 1) := by decide +kernel
theorem dX0_init_83 : decode cX0_init 83 = .ok (.iconst 0, 1) := by decide +kernel
theorem dX0_init_84 : decode cX0_init 84 = .ok (.putfield 49, 3) := by decide +kernel
theorem dX0_init_87 : decode cX0_init 87 = .ok (.aload_n 0, 1) := by decide +kernel
theorem dX0_init_88 : decode cX0_init 88 = .ok (.bipush 7, 2) := by decide +kernel
theorem dX0_init_90 : decode cX0_init 90 = .ok (.newarray .int, 2) := by decide +kernel
theorem dX0_init_92 : decode cX0_init 92 = .ok (.putfield 52, 3) := by decide +kernel
theorem dX0_init_95 : decode cX0_init 95 = .ok (.aload_n 0, 1) := by decide +kernel
theorem dX0_init_96 : decode cX0_init 96 = .ok (.bipush 8, 2) := by decide +kernel
theorem dX0_init_98 : decode cX0_init 98 = .ok (.newarray .int, 2) := by decide +kernel
theorem dX0_init_100 : decode cX0_init 100 = .ok (.putfield 55, 3) := by decide +kernel
theorem dX0_init_103 : decode cX0_init 103 = .ok (.aload_n 0, 1) := by decide +kernel
theorem dX0_init_104 : decode cX0_init 104 = .ok (.bipush 61, 2) := by decide +kernel
theorem dX0_init_106 : decode cX0_init 106 = .ok (.newarray .int, 2) := by decide +kernel
theorem dX0_init_108 : decode cX0_init 108 = .ok (.putfield 58, 3) := by decide +kernel
theorem dX0_init_111 : decode cX0_init 111 = .ok (.aload_n 0, 1) := by decide +kernel
theorem dX0_init_112 : decode cX0_init 112 = .ok (.sipush 488, 3) := by decide +kernel
theorem dX0_init_115 : decode cX0_init 115 = .ok (.newarray .int, 2) := by decide +kernel
theorem dX0_init_117 : decode cX0_init 117 = .ok (.putfield 61, 3) := by decide +kernel
theorem dX0_init_120 : decode cX0_init 120 = .ok (.aload_n 0, 1) := by decide +kernel
theorem dX0_init_121 : decode cX0_init 121 = .ok (.aload_n 1, 1) := by decide +kernel
theorem dX0_init_122 : decode cX0_init 122 = .ok (.putfield 64, 3) := by decide +kernel
theorem dX0_init_125 : decode cX0_init 125 = .ok (.return_, 1) := by decide +kernel
theorem dX0_prepare_0 : decode cX0_prepare 0 = .ok (.aload_n 0, 1) := by decide +kernel
theorem dX0_prepare_1 : decode cX0_prepare 1 = .ok (.aload_n 1, 1) := by decide +kernel
theorem dX0_prepare_2 : decode cX0_prepare 2 = .ok (.putfield 64, 3) := by decide +kernel
theorem dX0_prepare_5 : decode cX0_prepare 5 = .ok (.aload_n 0, 1) := by decide +kernel
theorem dX0_prepare_6 : decode cX0_prepare 6 = .ok (.aload_n 2, 1) := by decide +kernel
theorem dX0_prepare_7 : decode cX0_prepare 7 = .ok (.getfield 68, 3) := by decide +kernel
theorem dX0_prepare_10 : decode cX0_prepare 10 = .ok (.putfield 9, 3) := by decide +kernel
theorem dX0_prepare_13 : decode cX0_prepare 13 = .ok (.aload_n 0, 1) := by decide +kernel
theorem dX0_prepare_14 : decode cX0_prepare 14 = .ok (.aload_n 2, 1) := by decide +kernel
theorem dX0_prepare_15 : decode cX0_prepare 15 = .ok (.getfield 71, 3) := by decide +kernel
theorem dX0_prepare_18 : decode cX0_prepare 18 = .ok (.putfield 15, 3) := by decide +kernel
theorem dX0_prepare_21 : decode cX0_prepare 21 = .ok (.aload_n 0, 1) := by decide +kernel
theorem dX0_prepare_22 : decode cX0_prepare 22 = .ok (.aload_n 2, 1) := by decide +kernel
theorem dX0_prepare_23 : decode cX0_prepare 23 = .ok (.getfield 72, 3) := by decide +kernel
theorem dX0_prepare_26 : decode cX0_prepare 26 = .ok (.putfield 18, 3) := by decide +kernel
theorem dX0_prepare_29 : decode cX0_prepare 29 = .ok (.aload_n 0, 1) := by decide +kernel
theorem dX0_prepare_30 : decode cX0_prepare 30 = .ok (.aload_n 2, 1) := by decide +kernel
theorem dX0_prepare_31 : decode cX0_prepare 31 = .ok (.getfield 73, 3) := by decide +kernel
theorem dX0_prepare_34 : decode cX0_prepare 34 = .ok (.putfield 21, 3) := by decide +kernel
theorem dX0_prepare_37 : decode cX0_prepare 37 = .ok (.aload_n 0, 1) := by decide +kernel
theorem dX0_prepare_38 : decode cX0_prepare 38 = .ok (.iconst 0, 1) := by decide +kernel
theorem dX0_prepare_39 : decode cX0_prepare 39 = .ok (.putfield 24, 3) := by decide +kernel
theorem dX0_prepare_42 : decode cX0_prepare 42 = .ok (.aload_n 0, 1) := by decide +kernel
theorem dX0_prepare_43 : decode cX0_prepare 43 = .ok (.getfield 64, 3) := by decide +kernel
theorem dX0_prepare_46 : decode cX0_prepare 46 = .ok (.getfield 74, 3) := by decide +kernel
theorem dX0_prepare_49 : decode cX0_prepare 49 = .ok (.getfield 80, 3) := by decide +kernel
theorem dX0_prepare_52 : decode cX0_prepare 52 = .ok (.aload_n 0, 1) := by decide +kernel
theorem dX0_prepare_53 : decode cX0_prepare 53 = .ok (.getfield 27, 3) := by decide +kernel
theorem dX0_prepare_56 : decode cX0_prepare 56 = .ok (.invokestatic 83, 3) := by decide +kernel
theorem dX0_prepare_59 : decode cX0_prepare 59 = .ok (.aload_n 2, 1) := by decide +kernel
theorem dX0_prepare_60 : decode cX0_prepare 60 = .ok (.getfield 87, 3) := by decide +kernel
theorem dX0_prepare_63 : decode cX0_prepare 63 = .ok (.aload_n 0, 1) := by decide +kernel
theorem dX0_prepare_64 : decode cX0_prepare 64 = .ok (.getfield 31, 3) := by decide +kernel
theorem dX0_prepare_67 : decode cX0_prepare 67 = .ok (.invokestatic 83, 3) := by decide +kernel
theorem dX0_prepare_70 : decode cX0_prepare 70 = .ok (.aload_n 2, 1) := by decide +kernel
theorem dX0_prepare_71 : decode cX0_prepare 71 = .ok (.getfield 88, 3) := by decide +kernel
theorem dX0_prepare_74 : decode cX0_prepare 74 = .ok (.aload_n 0, 1) := by decide +kernel
theorem dX0_prepare_75 : decode cX0_prepare 75 = .ok (.getfield 34, 3) := by decide +kernel
theorem dX0_prepare_78 : decode cX0_prepare 78 = .ok (.invokestatic 83, 3) := by decide +kernel
theorem dX0_prepare_81 : decode cX0_prepare 81 = .ok (.return_, 1) := by decide +kernel
theorem dX0_run_0 : decode cX0_run 0 = .ok (.aload_n 0, 1) := by decide +kernel
theorem dX0_run_1 : decode cX0_run 1 = .ok (.getfield 37, 3) := by decide +kernel
theorem dX0_run_4 : decode cX0_run 4 = .ok (.iconst (-1), 1) := by decide +kernel
theorem dX0_run_5 : decode cX0_run 5 = .ok (.invokestatic 89, 3) := by decide +kernel
theorem dX0_run_8 : decode cX0_run 8 = .ok (.aload_n 0, 1) := by decide +kernel
theorem dX0_run_9 : decode cX0_run 9 = .ok (.getfield 40, 3) := by decide +kernel
theorem dX0_run_12 : decode cX0_run 12 = .ok (.iconst (-1), 1) := by decide +kernel
theorem dX0_run_13 : decode cX0_run 13 = .ok (.invokestatic 89, 3) := by decide +kernel
theorem dX0_run_16 : decode cX0_run 16 = .ok (.aload_n 0, 1) := by decide +kernel
theorem dX0_run_17 : decode cX0_run 17 = .ok (.getfield 43, 3) := by decide +kernel
theorem dX0_run_20 : decode cX0_run 20 = .ok (.iconst 0, 1) := by decide +kernel
theorem dX0_run_21 : decode cX0_run 21 = .ok (.invokestatic 89, 3) := by decide +kernel
theorem dX0_run_24 : decode cX0_run 24 = .ok (.aload_n 0, 1) := by decide +kernel
theorem dX0_run_25 : decode cX0_run 25 = .ok (.getfield 55, 3) := by decide +kernel
theorem dX0_run_28 : decode cX0_run 28 = .ok (.iconst 0, 1) := by decide +kernel
theorem dX0_run_29 : decode cX0_run 29 = .ok (.invokestatic 89, 3) := by decide +kernel
theorem dX0_run_32 : decode cX0_run 32 = .ok (.aload_n 0, 1) := by decide +kernel
theorem dX0_run_33 : decode cX0_run 33 = .ok (.iconst 0, 1) := by decide +kernel
theorem dX0_run_34 : decode cX0_run 34 = .ok (.putfield 49, 3) := by decide +kernel
theorem dX0_run_37 : decode cX0_run 37 = .ok (.aload_n 0, 1) := by decide +kernel
theorem dX0_run_38 : decode cX0_run 38 = .ok (.getfield 9, 3) := by decide +kernel
theorem dX0_run_41 : decode cX0_run 41 = .ok (.ifCond .eq 20, 3) := by decide +kernel
theorem dX0_run_44 : decode cX0_run 44 = .ok (.aload_n 0, 1) := by decide +kernel
theorem dX0_run_45 : decode cX0_run 45 = .ok (.getfield 64, 3) := by decide +kernel
theorem dX0_run_48 : decode cX0_run 48 = .ok (.getfield 74, 3) := by decide +kernel
theorem dX0_run_51 : decode cX0_run 51 = .ok (.getfield 93, 3) := by decide +kernel
theorem dX0_run_54 : decode cX0_run 54 = .ok (.ifCond .le 7, 3) := by decide +kernel
theorem dX0_run_57 : decode cX0_run 57 = .ok (.iconst 1, 1) := by decide +kernel
theorem dX0_run_58 : decode cX0_run 58 = .ok (.goto 4, 3) := by decide +kernel
theorem dX0_run_61 : decode cX0_run 61 = .ok (.iconst 0, 1) := by decide +kernel
theorem dX0_run_62 : decode cX0_run 62 = .ok (.istore_n 1, 1) := by decide +kernel
theorem dX0_run_63 : decode cX0_run 63 = .ok (.aload_n 0, 1) := by decide +kernel
theorem dX0_run_64 : decode cX0_run 64 = .ok (.iload_n 1, 1) := by decide +kernel
theorem dX0_run_65 : decode cX0_run 65 = .ok (.ifCond .ne 7, 3) := by decide +kernel
theorem dX0_run_68 : decode cX0_run 68 = .ok (.iconst (-1), 1) := by decide +kernel
theorem dX0_run_69 : decode cX0_run 69 = .ok (.goto 19, 3) := by decide +kernel
theorem dX0_run_72 : decode cX0_run 72 = .ok (.aload_n 0, 1) := by decide +kernel
theorem dX0_run_73 : decode cX0_run 73 = .ok (.getfield 9, 3) := by decide +kernel
theorem dX0_run_76 : decode cX0_run 76 = .ok (.iconst 3, 1) := by decide +kernel
theorem dX0_run_77 : decode cX0_run 77 = .ok (.if_icmp .ne 10, 3) := by decide +kernel
theorem dX0_run_80 : decode cX0_run 80 = .ok (.aload_n 0, 1) := by decide +kernel
theorem dX0_run_81 : decode cX0_run 81 = .ok (.getfield 15, 3) := by decide +kernel
theorem dX0_run_84 : decode cX0_run 84 = .ok (.goto 4, 3) := by decide +kernel
theorem dX0_run_87 : decode cX0_run 87 = .ok (.iconst 0, 1) := by decide +kernel
theorem dX0_run_88 : decode cX0_run 88 = .ok (.putfield 46, 3) := by decide +kernel
theorem dX0_run_91 : decode cX0_run 91 = .ok (.iconst 1, 1) := by decide +kernel
theorem dX0_run_92 : decode cX0_run 92 = .ok (.istore_n 2, 1) := by decide +kernel
theorem dX0_run_93 : decode cX0_run 93 = .ok (.iload_n 2, 1) := by decide +kernel
theorem dX0_run_94 : decode cX0_run 94 = .ok (.bipush 60, 2) := by decide +kernel
theorem dX0_run_96 : decode cX0_run 96 = .ok (.if_icmp .gt 37, 3) := by decide +kernel
theorem dX0_run_99 : decode cX0_run 99 = .ok (.aload_n 0, 1) := by decide +kernel
theorem dX0_run_100 : decode cX0_run 100 = .ok (.iload_n 2, 1) := by decide +kernel
theorem dX0_run_101 : decode cX0_run 101 = .ok (.invokevirtual 96, 3) := by decide +kernel
theorem dX0_run_104 : decode cX0_run 104 = .ok (.aload_n 0, 1) := by decide +kernel
theorem dX0_run_105 : decode cX0_run 105 = .ok (.iload_n 2, 1) := by decide +kernel
theorem dX0_run_106 : decode cX0_run 106 = .ok (.invokevirtual 100, 3) := by decide +kernel
theorem dX0_run_109 : decode cX0_run 109 = .ok (.aload_n 0, 1) := by decide +kernel
theorem dX0_run_110 : decode cX0_run 110 = .ok (.invokevirtual 103, 3) := by decide +kernel
theorem dX0_run_113 : decode cX0_run 113 = .ok (.aload_n 0, 1) := by decide +kernel
theorem dX0_run_114 : decode cX0_run 114 = .ok (.iload_n 2, 1) := by decide +kernel
theorem dX0_run_115 : decode cX0_run 115 = .ok (.invokevirtual 106, 3) := by decide +kernel
theorem dX0_run_118 : decode cX0_run 118 = .ok (.aload_n 0, 1) := by decide +kernel
theorem dX0_run_119 : decode cX0_run 119 = .ok (.invokevirtual 109, 3) := by decide +kernel
theorem dX0_run_122 : decode cX0_run 122 = .ok (.aload_n 0, 1) := by decide +kernel
theorem dX0_run_123 : decode cX0_run 123 = .ok (.iload_n 2, 1) := by decide +kernel
theorem dX0_run_124 : decode cX0_run 124 = .ok (.invokevirtual 112, 3) := by decide +kernel
theorem dX0_run_127 : decode cX0_run 127 = .ok (.iinc 2 1, 3) := by decide +kernel
theorem dX0_run_130 : decode cX0_run 130 = .ok (.goto (-37), 3) := by decide +kernel
theorem dX0_run_133 : decode cX0_run 133 = .ok (.aload_n 0, 1) := by decide +kernel
theorem dX0_run_134 : decode cX0_run 134 = .ok (.invokevirtual 115, 3) := by decide +kernel
theorem dX0_run_137 : decode cX0_run 137 = .ok (.aload_n 0, 1) := by decide +kernel
theorem dX0_run_138 : decode cX0_run 138 = .ok (.getfield 55, 3) := by decide +kernel
theorem dX0_run_141 : decode cX0_run 141 = .ok (.iconst 0, 1) := by decide +kernel
theorem dX0_run_142 : decode cX0_run 142 = .ok (.invokestatic 118, 3) := by decide +kernel
theorem dX0_run_145 : decode cX0_run 145 = .ok (.ireturn, 1) := by decide +kernel
theorem dX0_walk_0 : decode cX0_walk 0 = .ok (.iconst 0, 1) := by decide +kernel
theorem dX0_walk_1 : decode cX0_walk 1 = .ok (.istore_n 2, 1) := by decide +kernel
theorem dX0_walk_2 : decode cX0_walk 2 = .ok (.iload_n 2, 1) := by decide +kernel
theorem dX0_walk_3 : decode cX0_walk 3 = .ok (.aload_n 0, 1) := by decide +kernel
theorem dX0_walk_4 : decode cX0_walk 4 = .ok (.getfield 64, 3) := by decide +kernel
theorem dX0_walk_7 : decode cX0_walk 7 = .ok (.getfield 122, 3) := by decide +kernel
theorem dX0_walk_10 : decode cX0_walk 10 = .ok (.getfield 126, 3) := by decide +kernel
theorem dX0_walk_13 : decode cX0_walk 13 = .ok (.if_icmp .ge 72, 3) := by decide +kernel
theorem dX0_walk_16 : decode cX0_walk 16 = .ok (.aload_n 0, 1) := by decide +kernel
theorem dX0_walk_17 : decode cX0_walk 17 = .ok (.getfield 24, 3) := by decide +kernel
theorem dX0_walk_20 : decode cX0_walk 20 = .ok (.iload_n 2, 1) := by decide +kernel
theorem dX0_walk_21 : decode cX0_walk 21 = .ok (.invokestatic 131, 3) := by decide +kernel
theorem dX0_walk_24 : decode cX0_walk 24 = .ok (.ifCond .ne 55, 3) := by decide +kernel
theorem dX0_walk_27 : decode cX0_walk 27 = .ok (.aload_n 0, 1) := by decide +kernel
theorem dX0_walk_28 : decode cX0_walk 28 = .ok (.getfield 37, 3) := by decide +kernel
theorem dX0_walk_31 : decode cX0_walk 31 = .ok (.iload_n 2, 1) := by decide +kernel
theorem dX0_walk_32 : decode cX0_walk 32 = .ok (.aload_n 0, 1) := by decide +kernel
theorem dX0_walk_33 : decode cX0_walk 33 = .ok (.getfield 64, 3) := by decide +kernel
theorem dX0_walk_36 : decode cX0_walk 36 = .ok (.getfield 122, 3) := by decide +kernel
theorem dX0_walk_39 : decode cX0_walk 39 = .ok (.iload_n 2, 1) := by decide +kernel
theorem dX0_walk_40 : decode cX0_walk 40 = .ok (.iload_n 1, 1) := by decide +kernel
theorem dX0_walk_41 : decode cX0_walk 41 = .ok (.invokevirtual 135, 3) := by decide +kernel
theorem dX0_walk_44 : decode cX0_walk 44 = .ok (.invokestatic 139, 3) := by decide +kernel
theorem dX0_walk_47 : decode cX0_walk 47 = .ok (.aload_n 0, 1) := by decide +kernel
theorem dX0_walk_48 : decode cX0_walk 48 = .ok (.getfield 40, 3) := by decide +kernel
theorem dX0_walk_51 : decode cX0_walk 51 = .ok (.iload_n 2, 1) := by decide +kernel
theorem dX0_walk_52 : decode cX0_walk 52 = .ok (.invokestatic 118, 3) := by decide +kernel
theorem dX0_walk_55 : decode cX0_walk 55 = .ok (.iconst (-1), 1) := by decide +kernel
theorem dX0_walk_56 : decode cX0_walk 56 = .ok (.if_icmp .eq 23, 3) := by decide +kernel
theorem dX0_walk_59 : decode cX0_walk 59 = .ok (.aload_n 0, 1) := by decide +kernel
theorem dX0_walk_60 : decode cX0_walk 60 = .ok (.getfield 64, 3) := by decide +kernel
theorem dX0_walk_63 : decode cX0_walk 63 = .ok (.getfield 122, 3) := by decide +kernel
theorem dX0_walk_66 : decode cX0_walk 66 = .ok (.iload_n 2, 1) := by decide +kernel
theorem dX0_walk_67 : decode cX0_walk 67 = .ok (.iload_n 1, 1) := by decide +kernel
theorem dX0_walk_68 : decode cX0_walk 68 = .ok (.invokevirtual 143, 3) := by decide +kernel
theorem dX0_walk_71 : decode cX0_walk 71 = .ok (.ifCond .eq 8, 3) := by decide +kernel
theorem dX0_walk_74 : decode cX0_walk 74 = .ok (.aload_n 0, 1) := by decide +kernel
theorem dX0_walk_75 : decode cX0_walk 75 = .ok (.iload_n 2, 1) := by decide +kernel
theorem dX0_walk_76 : decode cX0_walk 76 = .ok (.invokevirtual 146, 3) := by decide +kernel
theorem dX0_walk_79 : decode cX0_walk 79 = .ok (.iinc 2 1, 3) := by decide +kernel
theorem dX0_walk_82 : decode cX0_walk 82 = .ok (.goto (-80), 3) := by decide +kernel
theorem dX0_walk_85 : decode cX0_walk 85 = .ok (.return_, 1) := by decide +kernel
theorem dX0_leave_0 : decode cX0_leave 0 = .ok (.aload_n 0, 1) := by decide +kernel
theorem dX0_leave_1 : decode cX0_leave 1 = .ok (.getfield 40, 3) := by decide +kernel
theorem dX0_leave_4 : decode cX0_leave 4 = .ok (.iload_n 1, 1) := by decide +kernel
theorem dX0_leave_5 : decode cX0_leave 5 = .ok (.invokestatic 118, 3) := by decide +kernel
theorem dX0_leave_8 : decode cX0_leave 8 = .ok (.istore_n 2, 1) := by decide +kernel
theorem dX0_leave_9 : decode cX0_leave 9 = .ok (.aload_n 0, 1) := by decide +kernel
theorem dX0_leave_10 : decode cX0_leave 10 = .ok (.getfield 55, 3) := by decide +kernel
theorem dX0_leave_13 : decode cX0_leave 13 = .ok (.iconst 5, 1) := by decide +kernel
theorem dX0_leave_14 : decode cX0_leave 14 = .ok (.invokestatic 118, 3) := by decide +kernel
theorem dX0_leave_17 : decode cX0_leave 17 = .ok (.iload_n 1, 1) := by decide +kernel
theorem dX0_leave_18 : decode cX0_leave 18 = .ok (.invokestatic 131, 3) := by decide +kernel
theorem dX0_leave_21 : decode cX0_leave 21 = .ok (.istore_n 3, 1) := by decide +kernel
theorem dX0_leave_22 : decode cX0_leave 22 = .ok (.aload_n 0, 1) := by decide +kernel
theorem dX0_leave_23 : decode cX0_leave 23 = .ok (.getfield 49, 3) := by decide +kernel
theorem dX0_leave_26 : decode cX0_leave 26 = .ok (.iload_n 1, 1) := by decide +kernel
theorem dX0_leave_27 : decode cX0_leave 27 = .ok (.invokestatic 131, 3) := by decide +kernel
theorem dX0_leave_30 : decode cX0_leave 30 = .ok (.istore 4, 2) := by decide +kernel
theorem dX0_leave_32 : decode cX0_leave 32 = .ok (.aload_n 0, 1) := by decide +kernel
theorem dX0_leave_33 : decode cX0_leave 33 = .ok (.getfield 40, 3) := by decide +kernel
theorem dX0_leave_36 : decode cX0_leave 36 = .ok (.iload_n 1, 1) := by decide +kernel
theorem dX0_leave_37 : decode cX0_leave 37 = .ok (.iconst (-1), 1) := by decide +kernel
theorem dX0_leave_38 : decode cX0_leave 38 = .ok (.invokestatic 139, 3) := by decide +kernel
theorem dX0_leave_41 : decode cX0_leave 41 = .ok (.aload_n 0, 1) := by decide +kernel
theorem dX0_leave_42 : decode cX0_leave 42 = .ok (.getfield 64, 3) := by decide +kernel
theorem dX0_leave_45 : decode cX0_leave 45 = .ok (.getfield 122, 3) := by decide +kernel
theorem dX0_leave_48 : decode cX0_leave 48 = .ok (.getfield 149, 3) := by decide +kernel
theorem dX0_leave_51 : decode cX0_leave 51 = .ok (.iload_n 1, 1) := by decide +kernel
theorem dX0_leave_52 : decode cX0_leave 52 = .ok (.invokestatic 118, 3) := by decide +kernel
theorem dX0_leave_55 : decode cX0_leave 55 = .ok (.ifCond .ne 47, 3) := by decide +kernel
theorem dX0_leave_58 : decode cX0_leave 58 = .ok (.aload_n 0, 1) := by decide +kernel
theorem dX0_leave_59 : decode cX0_leave 59 = .ok (.iconst 4, 1) := by decide +kernel
theorem dX0_leave_60 : decode cX0_leave 60 = .ok (.iconst 1, 1) := by decide +kernel
theorem dX0_leave_61 : decode cX0_leave 61 = .ok (.invokevirtual 152, 3) := by decide +kernel
theorem dX0_leave_64 : decode cX0_leave 64 = .ok (.aload_n 0, 1) := by decide +kernel
theorem dX0_leave_65 : decode cX0_leave 65 = .ok (.getfield 21, 3) := by decide +kernel
theorem dX0_leave_68 : decode cX0_leave 68 = .ok (.iconst 2, 1) := by decide +kernel
theorem dX0_leave_69 : decode cX0_leave 69 = .ok (.if_icmp .ne 98, 3) := by decide +kernel
theorem dX0_leave_72 : decode cX0_leave 72 = .ok (.iload_n 3, 1) := by decide +kernel
theorem dX0_leave_73 : decode cX0_leave 73 = .ok (.ifCond .eq 94, 3) := by decide +kernel
theorem dX0_leave_76 : decode cX0_leave 76 = .ok (.iload 4, 2) := by decide +kernel
theorem dX0_leave_78 : decode cX0_leave 78 = .ok (.ifCond .ne 89, 3) := by decide +kernel
theorem dX0_leave_81 : decode cX0_leave 81 = .ok (.aload_n 0, 1) := by decide +kernel
theorem dX0_leave_82 : decode cX0_leave 82 = .ok (.iconst 3, 1) := by decide +kernel
theorem dX0_leave_83 : decode cX0_leave 83 = .ok (.iconst 1, 1) := by decide +kernel
theorem dX0_leave_84 : decode cX0_leave 84 = .ok (.invokevirtual 152, 3) := by decide +kernel
theorem dX0_leave_87 : decode cX0_leave 87 = .ok (.aload_n 0, 1) := by decide +kernel
theorem dX0_leave_88 : decode cX0_leave 88 = .ok (.iconst 0, 1) := by decide +kernel
theorem dX0_leave_89 : decode cX0_leave 89 = .ok (.aload_n 0, 1) := by decide +kernel
theorem dX0_leave_90 : decode cX0_leave 90 = .ok (.getfield 64, 3) := by decide +kernel
theorem dX0_leave_93 : decode cX0_leave 93 = .ok (.getfield 156, 3) := by decide +kernel
theorem dX0_leave_96 : decode cX0_leave 96 = .ok (.invokevirtual 152, 3) := by decide +kernel
theorem dX0_leave_99 : decode cX0_leave 99 = .ok (.goto 68, 3) := by decide +kernel
theorem dX0_leave_102 : decode cX0_leave 102 = .ok (.iload_n 3, 1) := by decide +kernel
theorem dX0_leave_103 : decode cX0_leave 103 = .ok (.ifCond .eq 45, 3) := by decide +kernel
theorem dX0_leave_106 : decode cX0_leave 106 = .ok (.aload_n 0, 1) := by decide +kernel
theorem dX0_leave_107 : decode cX0_leave 107 = .ok (.getfield 21, 3) := by decide +kernel
theorem dX0_leave_110 : decode cX0_leave 110 = .ok (.iconst 2, 1) := by decide +kernel
theorem dX0_leave_111 : decode cX0_leave 111 = .ok (.if_icmp .eq 16, 3) := by decide +kernel
theorem dX0_leave_114 : decode cX0_leave 114 = .ok (.aload_n 0, 1) := by decide +kernel
theorem dX0_leave_115 : decode cX0_leave 115 = .ok (.getfield 21, 3) := by decide +kernel
theorem dX0_leave_118 : decode cX0_leave 118 = .ok (.iconst 1, 1) := by decide +kernel
theorem dX0_leave_119 : decode cX0_leave 119 = .ok (.if_icmp .ne 29, 3) := by decide +kernel
theorem dX0_leave_122 : decode cX0_leave 122 = .ok (.iload 4, 2) := by decide +kernel
theorem dX0_leave_124 : decode cX0_leave 124 = .ok (.ifCond .eq 24, 3) := by decide +kernel
theorem dX0_leave_127 : decode cX0_leave 127 = .ok (.aload_n 0, 1) := by decide +kernel
theorem dX0_leave_128 : decode cX0_leave 128 = .ok (.iconst 2, 1) := by decide +kernel
theorem dX0_leave_129 : decode cX0_leave 129 = .ok (.iconst 1, 1) := by decide +kernel
theorem dX0_leave_130 : decode cX0_leave 130 = .ok (.invokevirtual 152, 3) := by decide +kernel
theorem dX0_leave_133 : decode cX0_leave 133 = .ok (.aload_n 0, 1) := by decide +kernel
theorem dX0_leave_134 : decode cX0_leave 134 = .ok (.bipush 7, 2) := by decide +kernel
theorem dX0_leave_136 : decode cX0_leave 136 = .ok (.iload_n 1, 1) := by decide +kernel
theorem dX0_leave_137 : decode cX0_leave 137 = .ok (.invokevirtual 159, 3) := by decide +kernel
theorem dX0_leave_140 : decode cX0_leave 140 = .ok (.aload_n 0, 1) := by decide +kernel
theorem dX0_leave_141 : decode cX0_leave 141 = .ok (.iload_n 2, 1) := by decide +kernel
theorem dX0_leave_142 : decode cX0_leave 142 = .ok (.invokevirtual 162, 3) := by decide +kernel
theorem dX0_leave_145 : decode cX0_leave 145 = .ok (.goto 22, 3) := by decide +kernel
theorem dX0_leave_148 : decode cX0_leave 148 = .ok (.aload_n 0, 1) := by decide +kernel
theorem dX0_leave_149 : decode cX0_leave 149 = .ok (.iconst 1, 1) := by decide +kernel
theorem dX0_leave_150 : decode cX0_leave 150 = .ok (.iconst 1, 1) := by decide +kernel
theorem dX0_leave_151 : decode cX0_leave 151 = .ok (.invokevirtual 152, 3) := by decide +kernel
theorem dX0_leave_154 : decode cX0_leave 154 = .ok (.aload_n 0, 1) := by decide +kernel
theorem dX0_leave_155 : decode cX0_leave 155 = .ok (.iconst 0, 1) := by decide +kernel
theorem dX0_leave_156 : decode cX0_leave 156 = .ok (.aload_n 0, 1) := by decide +kernel
theorem dX0_leave_157 : decode cX0_leave 157 = .ok (.getfield 27, 3) := by decide +kernel
theorem dX0_leave_160 : decode cX0_leave 160 = .ok (.iload_n 2, 1) := by decide +kernel
theorem dX0_leave_161 : decode cX0_leave 161 = .ok (.invokestatic 118, 3) := by decide +kernel
theorem dX0_leave_164 : decode cX0_leave 164 = .ok (.invokevirtual 152, 3) := by decide +kernel
theorem dX0_leave_167 : decode cX0_leave 167 = .ok (.return_, 1) := by decide +kernel
theorem dX0_tally_0 : decode cX0_tally 0 = .ok (.aload_n 0, 1) := by decide +kernel
theorem dX0_tally_1 : decode cX0_tally 1 = .ok (.getfield 55, 3) := by decide +kernel
theorem dX0_tally_4 : decode cX0_tally 4 = .ok (.iload_n 1, 1) := by decide +kernel
theorem dX0_tally_5 : decode cX0_tally 5 = .ok (.aload_n 0, 1) := by decide +kernel
theorem dX0_tally_6 : decode cX0_tally 6 = .ok (.getfield 55, 3) := by decide +kernel
theorem dX0_tally_9 : decode cX0_tally 9 = .ok (.iload_n 1, 1) := by decide +kernel
theorem dX0_tally_10 : decode cX0_tally 10 = .ok (.invokestatic 118, 3) := by decide +kernel
theorem dX0_tally_13 : decode cX0_tally 13 = .ok (.iload_n 2, 1) := by decide +kernel
theorem dX0_tally_14 : decode cX0_tally 14 = .ok (.iadd, 1) := by decide +kernel
theorem dX0_tally_15 : decode cX0_tally 15 = .ok (.invokestatic 139, 3) := by decide +kernel
theorem dX0_tally_18 : decode cX0_tally 18 = .ok (.return_, 1) := by decide +kernel
theorem dX0_mark_0 : decode cX0_mark 0 = .ok (.aload_n 0, 1) := by decide +kernel
theorem dX0_mark_1 : decode cX0_mark 1 = .ok (.getfield 55, 3) := by decide +kernel
theorem dX0_mark_4 : decode cX0_mark 4 = .ok (.iload_n 1, 1) := by decide +kernel
theorem dX0_mark_5 : decode cX0_mark 5 = .ok (.aload_n 0, 1) := by decide +kernel
theorem dX0_mark_6 : decode cX0_mark 6 = .ok (.getfield 55, 3) := by decide +kernel
theorem dX0_mark_9 : decode cX0_mark 9 = .ok (.iload_n 1, 1) := by decide +kernel
theorem dX0_mark_10 : decode cX0_mark 10 = .ok (.invokestatic 118, 3) := by decide +kernel
theorem dX0_mark_13 : decode cX0_mark 13 = .ok (.iload_n 2, 1) := by decide +kernel
theorem dX0_mark_14 : decode cX0_mark 14 = .ok (.invokestatic 165, 3) := by decide +kernel
theorem dX0_mark_17 : decode cX0_mark 17 = .ok (.ior, 1) := by decide +kernel
theorem dX0_mark_18 : decode cX0_mark 18 = .ok (.invokestatic 139, 3) := by decide +kernel
theorem dX0_mark_21 : decode cX0_mark 21 = .ok (.return_, 1) := by decide +kernel
theorem dX0_putBack_0 : decode cX0_putBack 0 = .ok (.aload_n 0, 1) := by decide +kernel
theorem dX0_putBack_1 : decode cX0_putBack 1 = .ok (.getfield 34, 3) := by decide +kernel
theorem dX0_putBack_4 : decode cX0_putBack 4 = .ok (.iload_n 1, 1) := by decide +kernel
theorem dX0_putBack_5 : decode cX0_putBack 5 = .ok (.aload_n 0, 1) := by decide +kernel
theorem dX0_putBack_6 : decode cX0_putBack 6 = .ok (.getfield 34, 3) := by decide +kernel
theorem dX0_putBack_9 : decode cX0_putBack 9 = .ok (.iload_n 1, 1) := by decide +kernel
theorem dX0_putBack_10 : decode cX0_putBack 10 = .ok (.invokestatic 118, 3) := by decide +kernel
theorem dX0_putBack_13 : decode cX0_putBack 13 = .ok (.iconst 1, 1) := by decide +kernel
theorem dX0_putBack_14 : decode cX0_putBack 14 = .ok (.iadd, 1) := by decide +kernel
theorem dX0_putBack_15 : decode cX0_putBack 15 = .ok (.invokestatic 139, 3) := by decide +kernel
theorem dX0_putBack_18 : decode cX0_putBack 18 = .ok (.return_, 1) := by decide +kernel
theorem dX0_follow_0 : decode cX0_follow 0 = .ok (.aload_n 0, 1) := by decide +kernel
theorem dX0_follow_1 : decode cX0_follow 1 = .ok (.getfield 46, 3) := by decide +kernel
theorem dX0_follow_4 : decode cX0_follow 4 = .ok (.iconst (-1), 1) := by decide +kernel
theorem dX0_follow_5 : decode cX0_follow 5 = .ok (.if_icmp .eq 11, 3) := by decide +kernel
theorem dX0_follow_8 : decode cX0_follow 8 = .ok (.aload_n 0, 1) := by decide +kernel
theorem dX0_follow_9 : decode cX0_follow 9 = .ok (.getfield 9, 3) := by decide +kernel
theorem dX0_follow_12 : decode cX0_follow 12 = .ok (.iconst 3, 1) := by decide +kernel
theorem dX0_follow_13 : decode cX0_follow 13 = .ok (.if_icmp .ne 4, 3) := by decide +kernel
theorem dX0_follow_16 : decode cX0_follow 16 = .ok (.return_, 1) := by decide +kernel
theorem dX0_follow_17 : decode cX0_follow 17 = .ok (.aload_n 0, 1) := by decide +kernel
theorem dX0_follow_18 : decode cX0_follow 18 = .ok (.getfield 9, 3) := by decide +kernel
theorem dX0_follow_21 : decode cX0_follow 21 = .ok (.iconst 1, 1) := by decide +kernel
theorem dX0_follow_22 : decode cX0_follow 22 = .ok (.if_icmp .ne 11, 3) := by decide +kernel
theorem dX0_follow_25 : decode cX0_follow 25 = .ok (.aload_n 0, 1) := by decide +kernel
theorem dX0_follow_26 : decode cX0_follow 26 = .ok (.iload_n 1, 1) := by decide +kernel
theorem dX0_follow_27 : decode cX0_follow 27 = .ok (.invokevirtual 169, 3) := by decide +kernel
theorem dX0_follow_30 : decode cX0_follow 30 = .ok (.goto 7, 3) := by decide +kernel
theorem dX0_follow_33 : decode cX0_follow 33 = .ok (.aload_n 0, 1) := by decide +kernel
theorem dX0_follow_34 : decode cX0_follow 34 = .ok (.getfield 15, 3) := by decide +kernel
theorem dX0_follow_37 : decode cX0_follow 37 = .ok (.istore_n 2, 1) := by decide +kernel
theorem dX0_follow_38 : decode cX0_follow 38 = .ok (.iload_n 2, 1) := by decide +kernel
theorem dX0_follow_39 : decode cX0_follow 39 = .ok (.iconst (-1), 1) := by decide +kernel
theorem dX0_follow_40 : decode cX0_follow 40 = .ok (.if_icmp .eq 41, 3) := by decide +kernel
theorem dX0_follow_43 : decode cX0_follow 43 = .ok (.aload_n 0, 1) := by decide +kernel
theorem dX0_follow_44 : decode cX0_follow 44 = .ok (.getfield 37, 3) := by decide +kernel
theorem dX0_follow_47 : decode cX0_follow 47 = .ok (.iload_n 2, 1) := by decide +kernel
theorem dX0_follow_48 : decode cX0_follow 48 = .ok (.invokestatic 118, 3) := by decide +kernel
theorem dX0_follow_51 : decode cX0_follow 51 = .ok (.iconst (-1), 1) := by decide +kernel
theorem dX0_follow_52 : decode cX0_follow 52 = .ok (.if_icmp .eq 29, 3) := by decide +kernel
theorem dX0_follow_55 : decode cX0_follow 55 = .ok (.aload_n 0, 1) := by decide +kernel
theorem dX0_follow_56 : decode cX0_follow 56 = .ok (.aload_n 0, 1) := by decide +kernel
theorem dX0_follow_57 : decode cX0_follow 57 = .ok (.getfield 64, 3) := by decide +kernel
theorem dX0_follow_60 : decode cX0_follow 60 = .ok (.getfield 74, 3) := by decide +kernel
theorem dX0_follow_63 : decode cX0_follow 63 = .ok (.aload_n 0, 1) := by decide +kernel
theorem dX0_follow_64 : decode cX0_follow 64 = .ok (.getfield 46, 3) := by decide +kernel
theorem dX0_follow_67 : decode cX0_follow 67 = .ok (.aload_n 0, 1) := by decide +kernel
theorem dX0_follow_68 : decode cX0_follow 68 = .ok (.getfield 37, 3) := by decide +kernel
theorem dX0_follow_71 : decode cX0_follow 71 = .ok (.iload_n 2, 1) := by decide +kernel
theorem dX0_follow_72 : decode cX0_follow 72 = .ok (.invokestatic 118, 3) := by decide +kernel
theorem dX0_follow_75 : decode cX0_follow 75 = .ok (.invokevirtual 172, 3) := by decide +kernel
theorem dX0_follow_78 : decode cX0_follow 78 = .ok (.putfield 46, 3) := by decide +kernel
theorem dX0_follow_81 : decode cX0_follow 81 = .ok (.return_, 1) := by decide +kernel
theorem dX0_chosen_0 : decode cX0_chosen 0 = .ok (.iconst (-1), 1) := by decide +kernel
theorem dX0_chosen_1 : decode cX0_chosen 1 = .ok (.istore_n 2, 1) := by decide +kernel
theorem dX0_chosen_2 : decode cX0_chosen 2 = .ok (.iconst 0, 1) := by decide +kernel
theorem dX0_chosen_3 : decode cX0_chosen 3 = .ok (.istore_n 3, 1) := by decide +kernel
theorem dX0_chosen_4 : decode cX0_chosen 4 = .ok (.iconst 0, 1) := by decide +kernel
theorem dX0_chosen_5 : decode cX0_chosen 5 = .ok (.istore 4, 2) := by decide +kernel
theorem dX0_chosen_7 : decode cX0_chosen 7 = .ok (.iload 4, 2) := by decide +kernel
theorem dX0_chosen_9 : decode cX0_chosen 9 = .ok (.aload_n 0, 1) := by decide +kernel
theorem dX0_chosen_10 : decode cX0_chosen 10 = .ok (.getfield 64, 3) := by decide +kernel
theorem dX0_chosen_13 : decode cX0_chosen 13 = .ok (.getfield 122, 3) := by decide +kernel
theorem dX0_chosen_16 : decode cX0_chosen 16 = .ok (.getfield 126, 3) := by decide +kernel
theorem dX0_chosen_19 : decode cX0_chosen 19 = .ok (.if_icmp .ge 80, 3) := by decide +kernel
theorem dX0_chosen_22 : decode cX0_chosen 22 = .ok (.aload_n 0, 1) := by decide +kernel
theorem dX0_chosen_23 : decode cX0_chosen 23 = .ok (.getfield 37, 3) := by decide +kernel
theorem dX0_chosen_26 : decode cX0_chosen 26 = .ok (.iload 4, 2) := by decide +kernel
theorem dX0_chosen_28 : decode cX0_chosen 28 = .ok (.invokestatic 118, 3) := by decide +kernel
theorem dX0_chosen_31 : decode cX0_chosen 31 = .ok (.iconst (-1), 1) := by decide +kernel
theorem dX0_chosen_32 : decode cX0_chosen 32 = .ok (.if_icmp .eq 61, 3) := by decide +kernel
theorem dX0_chosen_35 : decode cX0_chosen 35 = .ok (.aload_n 0, 1) := by decide +kernel
theorem dX0_chosen_36 : decode cX0_chosen 36 = .ok (.getfield 64, 3) := by decide +kernel
theorem dX0_chosen_39 : decode cX0_chosen 39 = .ok (.getfield 122, 3) := by decide +kernel
theorem dX0_chosen_42 : decode cX0_chosen 42 = .ok (.getfield 149, 3) := by decide +kernel
theorem dX0_chosen_45 : decode cX0_chosen 45 = .ok (.iload 4, 2) := by decide +kernel
theorem dX0_chosen_47 : decode cX0_chosen 47 = .ok (.invokestatic 118, 3) := by decide +kernel
theorem dX0_chosen_50 : decode cX0_chosen 50 = .ok (.iconst 3, 1) := by decide +kernel
theorem dX0_chosen_51 : decode cX0_chosen 51 = .ok (.if_icmp .eq 42, 3) := by decide +kernel
theorem dX0_chosen_54 : decode cX0_chosen 54 = .ok (.aload_n 0, 1) := by decide +kernel
theorem dX0_chosen_55 : decode cX0_chosen 55 = .ok (.iload 4, 2) := by decide +kernel
theorem dX0_chosen_57 : decode cX0_chosen 57 = .ok (.iload_n 1, 1) := by decide +kernel
theorem dX0_chosen_58 : decode cX0_chosen 58 = .ok (.invokevirtual 175, 3) := by decide +kernel
theorem dX0_chosen_61 : decode cX0_chosen 61 = .ok (.aload_n 0, 1) := by decide +kernel
theorem dX0_chosen_62 : decode cX0_chosen 62 = .ok (.getfield 64, 3) := by decide +kernel
theorem dX0_chosen_65 : decode cX0_chosen 65 = .ok (.getfield 178, 3) := by decide +kernel
theorem dX0_chosen_68 : decode cX0_chosen 68 = .ok (.aload_n 0, 1) := by decide +kernel
theorem dX0_chosen_69 : decode cX0_chosen 69 = .ok (.getfield 15, 3) := by decide +kernel
theorem dX0_chosen_72 : decode cX0_chosen 72 = .ok (.aload_n 0, 1) := by decide +kernel
theorem dX0_chosen_73 : decode cX0_chosen 73 = .ok (.getfield 52, 3) := by decide +kernel
theorem dX0_chosen_76 : decode cX0_chosen 76 = .ok (.invokevirtual 182, 3) := by decide +kernel
theorem dX0_chosen_79 : decode cX0_chosen 79 = .ok (.istore 5, 2) := by decide +kernel
theorem dX0_chosen_81 : decode cX0_chosen 81 = .ok (.iload 5, 2) := by decide +kernel
theorem dX0_chosen_83 : decode cX0_chosen 83 = .ok (.iload_n 3, 1) := by decide +kernel
theorem dX0_chosen_84 : decode cX0_chosen 84 = .ok (.if_icmp .le 9, 3) := by decide +kernel
theorem dX0_chosen_87 : decode cX0_chosen 87 = .ok (.iload 4, 2) := by decide +kernel
theorem dX0_chosen_89 : decode cX0_chosen 89 = .ok (.istore_n 2, 1) := by decide +kernel
theorem dX0_chosen_90 : decode cX0_chosen 90 = .ok (.iload 5, 2) := by decide +kernel
theorem dX0_chosen_92 : decode cX0_chosen 92 = .ok (.istore_n 3, 1) := by decide +kernel
theorem dX0_chosen_93 : decode cX0_chosen 93 = .ok (.iinc 4 1, 3) := by decide +kernel
theorem dX0_chosen_96 : decode cX0_chosen 96 = .ok (.goto (-89), 3) := by decide +kernel
theorem dX0_chosen_99 : decode cX0_chosen 99 = .ok (.iload_n 2, 1) := by decide +kernel
theorem dX0_chosen_100 : decode cX0_chosen 100 = .ok (.ireturn, 1) := by decide +kernel
theorem dX0_tellValues_0 : decode cX0_tellValues 0 = .ok (.aload_n 0, 1) := by decide +kernel
theorem dX0_tellValues_1 : decode cX0_tellValues 1 = .ok (.getfield 37, 3) := by decide +kernel
theorem dX0_tellValues_4 : decode cX0_tellValues 4 = .ok (.iload_n 1, 1) := by decide +kernel
theorem dX0_tellValues_5 : decode cX0_tellValues 5 = .ok (.invokestatic 118, 3) := by decide +kernel
theorem dX0_tellValues_8 : decode cX0_tellValues 8 = .ok (.istore_n 3, 1) := by decide +kernel
theorem dX0_tellValues_9 : decode cX0_tellValues 9 = .ok (.iconst (-1), 1) := by decide +kernel
theorem dX0_tellValues_10 : decode cX0_tellValues 10 = .ok (.istore 4, 2) := by decide +kernel
theorem dX0_tellValues_12 : decode cX0_tellValues 12 = .ok (.iconst 0, 1) := by decide +kernel
theorem dX0_tellValues_13 : decode cX0_tellValues 13 = .ok (.istore 5, 2) := by decide +kernel
theorem dX0_tellValues_15 : decode cX0_tellValues 15 = .ok (.iload 5, 2) := by decide +kernel
theorem dX0_tellValues_17 : decode cX0_tellValues 17 = .ok (.aload_n 0, 1) := by decide +kernel
theorem dX0_tellValues_18 : decode cX0_tellValues 18 = .ok (.getfield 64, 3) := by decide +kernel
theorem dX0_tellValues_21 : decode cX0_tellValues 21 = .ok (.getfield 122, 3) := by decide +kernel
theorem dX0_tellValues_24 : decode cX0_tellValues 24 = .ok (.getfield 126, 3) := by decide +kernel
theorem dX0_tellValues_27 : decode cX0_tellValues 27 = .ok (.if_icmp .ge 32, 3) := by decide +kernel
theorem dX0_tellValues_30 : decode cX0_tellValues 30 = .ok (.iload 4, 2) := by decide +kernel
theorem dX0_tellValues_32 : decode cX0_tellValues 32 = .ok (.aload_n 0, 1) := by decide +kernel
theorem dX0_tellValues_33 : decode cX0_tellValues 33 = .ok (.getfield 37, 3) := by decide +kernel
theorem dX0_tellValues_36 : decode cX0_tellValues 36 = .ok (.iload 5, 2) := by decide +kernel
theorem dX0_tellValues_38 : decode cX0_tellValues 38 = .ok (.invokestatic 118, 3) := by decide +kernel
theorem dX0_tellValues_41 : decode cX0_tellValues 41 = .ok (.iload_n 3, 1) := by decide +kernel
theorem dX0_tellValues_42 : decode cX0_tellValues 42 = .ok (.if_icmp .ne 7, 3) := by decide +kernel
theorem dX0_tellValues_45 : decode cX0_tellValues 45 = .ok (.iconst 1, 1) := by decide +kernel
theorem dX0_tellValues_46 : decode cX0_tellValues 46 = .ok (.goto 4, 3) := by decide +kernel
theorem dX0_tellValues_49 : decode cX0_tellValues 49 = .ok (.iconst 0, 1) := by decide +kernel
theorem dX0_tellValues_50 : decode cX0_tellValues 50 = .ok (.iadd, 1) := by decide +kernel
theorem dX0_tellValues_51 : decode cX0_tellValues 51 = .ok (.istore 4, 2) := by decide +kernel
theorem dX0_tellValues_53 : decode cX0_tellValues 53 = .ok (.iinc 5 1, 3) := by decide +kernel
theorem dX0_tellValues_56 : decode cX0_tellValues 56 = .ok (.goto (-41), 3) := by decide +kernel
theorem dX0_tellValues_59 : decode cX0_tellValues 59 = .ok (.aload_n 0, 1) := by decide +kernel
theorem dX0_tellValues_60 : decode cX0_tellValues 60 = .ok (.getfield 52, 3) := by decide +kernel
theorem dX0_tellValues_63 : decode cX0_tellValues 63 = .ok (.iconst 0, 1) := by decide +kernel
theorem dX0_tellValues_64 : decode cX0_tellValues 64 = .ok (.aload_n 0, 1) := by decide +kernel
theorem dX0_tellValues_65 : decode cX0_tellValues 65 = .ok (.getfield 64, 3) := by decide +kernel
theorem dX0_tellValues_68 : decode cX0_tellValues 68 = .ok (.getfield 122, 3) := by decide +kernel
theorem dX0_tellValues_71 : decode cX0_tellValues 71 = .ok (.getfield 188, 3) := by decide +kernel
theorem dX0_tellValues_74 : decode cX0_tellValues 74 = .ok (.iload_n 1, 1) := by decide +kernel
theorem dX0_tellValues_75 : decode cX0_tellValues 75 = .ok (.invokestatic 118, 3) := by decide +kernel
theorem dX0_tellValues_78 : decode cX0_tellValues 78 = .ok (.invokestatic 139, 3) := by decide +kernel
theorem dX0_tellValues_81 : decode cX0_tellValues 81 = .ok (.aload_n 0, 1) := by decide +kernel
theorem dX0_tellValues_82 : decode cX0_tellValues 82 = .ok (.getfield 52, 3) := by decide +kernel
theorem dX0_tellValues_85 : decode cX0_tellValues 85 = .ok (.iconst 1, 1) := by decide +kernel
theorem dX0_tellValues_86 : decode cX0_tellValues 86 = .ok (.iload_n 2, 1) := by decide +kernel
theorem dX0_tellValues_87 : decode cX0_tellValues 87 = .ok (.aload_n 0, 1) := by decide +kernel
theorem dX0_tellValues_88 : decode cX0_tellValues 88 = .ok (.getfield 64, 3) := by decide +kernel
theorem dX0_tellValues_91 : decode cX0_tellValues 91 = .ok (.getfield 122, 3) := by decide +kernel
theorem dX0_tellValues_94 : decode cX0_tellValues 94 = .ok (.getfield 191, 3) := by decide +kernel
theorem dX0_tellValues_97 : decode cX0_tellValues 97 = .ok (.iload_n 1, 1) := by decide +kernel
theorem dX0_tellValues_98 : decode cX0_tellValues 98 = .ok (.invokestatic 118, 3) := by decide +kernel
theorem dX0_tellValues_101 : decode cX0_tellValues 101 = .ok (.isub, 1) := by decide +kernel
theorem dX0_tellValues_102 : decode cX0_tellValues 102 = .ok (.iconst 1, 1) := by decide +kernel
theorem dX0_tellValues_103 : decode cX0_tellValues 103 = .ok (.iadd, 1) := by decide +kernel
theorem dX0_tellValues_104 : decode cX0_tellValues 104 = .ok (.invokestatic 139, 3) := by decide +kernel
theorem dX0_tellValues_107 : decode cX0_tellValues 107 = .ok (.aload_n 0, 1) := by decide +kernel
theorem dX0_tellValues_108 : decode cX0_tellValues 108 = .ok (.getfield 52, 3) := by decide +kernel
theorem dX0_tellValues_111 : decode cX0_tellValues 111 = .ok (.iconst 2, 1) := by decide +kernel
theorem dX0_tellValues_112 : decode cX0_tellValues 112 = .ok (.aload_n 0, 1) := by decide +kernel
theorem dX0_tellValues_113 : decode cX0_tellValues 113 = .ok (.getfield 55, 3) := by decide +kernel
theorem dX0_tellValues_116 : decode cX0_tellValues 116 = .ok (.iconst 5, 1) := by decide +kernel
theorem dX0_tellValues_117 : decode cX0_tellValues 117 = .ok (.invokestatic 118, 3) := by decide +kernel
theorem dX0_tellValues_120 : decode cX0_tellValues 120 = .ok (.iload_n 1, 1) := by decide +kernel
theorem dX0_tellValues_121 : decode cX0_tellValues 121 = .ok (.invokestatic 131, 3) := by decide +kernel
theorem dX0_tellValues_124 : decode cX0_tellValues 124 = .ok (.ifCond .eq 7, 3) := by decide +kernel
theorem dX0_tellValues_127 : decode cX0_tellValues 127 = .ok (.iconst 1, 1) := by decide +kernel
theorem dX0_tellValues_128 : decode cX0_tellValues 128 = .ok (.goto 4, 3) := by decide +kernel
theorem dX0_tellValues_131 : decode cX0_tellValues 131 = .ok (.iconst 0, 1) := by decide +kernel
theorem dX0_tellValues_132 : decode cX0_tellValues 132 = .ok (.invokestatic 139, 3) := by decide +kernel
theorem dX0_tellValues_135 : decode cX0_tellValues 135 = .ok (.aload_n 0, 1) := by decide +kernel
theorem dX0_tellValues_136 : decode cX0_tellValues 136 = .ok (.getfield 52, 3) := by decide +kernel
theorem dX0_tellValues_139 : decode cX0_tellValues 139 = .ok (.iconst 3, 1) := by decide +kernel
theorem dX0_tellValues_140 : decode cX0_tellValues 140 = .ok (.aload_n 0, 1) := by decide +kernel
theorem dX0_tellValues_141 : decode cX0_tellValues 141 = .ok (.getfield 64, 3) := by decide +kernel
theorem dX0_tellValues_144 : decode cX0_tellValues 144 = .ok (.getfield 74, 3) := by decide +kernel
theorem dX0_tellValues_147 : decode cX0_tellValues 147 = .ok (.aload_n 0, 1) := by decide +kernel
theorem dX0_tellValues_148 : decode cX0_tellValues 148 = .ok (.getfield 46, 3) := by decide +kernel
theorem dX0_tellValues_151 : decode cX0_tellValues 151 = .ok (.iload_n 3, 1) := by decide +kernel
theorem dX0_tellValues_152 : decode cX0_tellValues 152 = .ok (.invokevirtual 194, 3) := by decide +kernel
theorem dX0_tellValues_155 : decode cX0_tellValues 155 = .ok (.invokestatic 139, 3) := by decide +kernel
theorem dX0_tellValues_158 : decode cX0_tellValues 158 = .ok (.aload_n 0, 1) := by decide +kernel
theorem dX0_tellValues_159 : decode cX0_tellValues 159 = .ok (.getfield 52, 3) := by decide +kernel
theorem dX0_tellValues_162 : decode cX0_tellValues 162 = .ok (.iconst 4, 1) := by decide +kernel
theorem dX0_tellValues_163 : decode cX0_tellValues 163 = .ok (.aload_n 0, 1) := by decide +kernel
theorem dX0_tellValues_164 : decode cX0_tellValues 164 = .ok (.getfield 27, 3) := by decide +kernel
theorem dX0_tellValues_167 : decode cX0_tellValues 167 = .ok (.iload_n 3, 1) := by decide +kernel
theorem dX0_tellValues_168 : decode cX0_tellValues 168 = .ok (.invokestatic 118, 3) := by decide +kernel
theorem dX0_tellValues_171 : decode cX0_tellValues 171 = .ok (.invokestatic 139, 3) := by decide +kernel
theorem dX0_tellValues_174 : decode cX0_tellValues 174 = .ok (.aload_n 0, 1) := by decide +kernel
theorem dX0_tellValues_175 : decode cX0_tellValues 175 = .ok (.getfield 52, 3) := by decide +kernel
theorem dX0_tellValues_178 : decode cX0_tellValues 178 = .ok (.iconst 5, 1) := by decide +kernel
theorem dX0_tellValues_179 : decode cX0_tellValues 179 = .ok (.iload 4, 2) := by decide +kernel
theorem dX0_tellValues_181 : decode cX0_tellValues 181 = .ok (.invokestatic 139, 3) := by decide +kernel
theorem dX0_tellValues_184 : decode cX0_tellValues 184 = .ok (.aload_n 0, 1) := by decide +kernel
theorem dX0_tellValues_185 : decode cX0_tellValues 185 = .ok (.getfield 52, 3) := by decide +kernel
theorem dX0_tellValues_188 : decode cX0_tellValues 188 = .ok (.bipush 6, 2) := by decide +kernel
theorem dX0_tellValues_190 : decode cX0_tellValues 190 = .ok (.iload_n 2, 1) := by decide +kernel
theorem dX0_tellValues_191 : decode cX0_tellValues 191 = .ok (.invokestatic 139, 3) := by decide +kernel
theorem dX0_tellValues_194 : decode cX0_tellValues 194 = .ok (.return_, 1) := by decide +kernel
theorem dX0_notice_0 : decode cX0_notice 0 = .ok (.aload_n 0, 1) := by decide +kernel
theorem dX0_notice_1 : decode cX0_notice 1 = .ok (.getfield 18, 3) := by decide +kernel
theorem dX0_notice_4 : decode cX0_notice 4 = .ok (.iconst 1, 1) := by decide +kernel
theorem dX0_notice_5 : decode cX0_notice 5 = .ok (.if_icmp .ne 7, 3) := by decide +kernel
theorem dX0_notice_8 : decode cX0_notice 8 = .ok (.iconst 1, 1) := by decide +kernel
theorem dX0_notice_9 : decode cX0_notice 9 = .ok (.goto 10, 3) := by decide +kernel
theorem dX0_notice_12 : decode cX0_notice 12 = .ok (.aload_n 0, 1) := by decide +kernel
theorem dX0_notice_13 : decode cX0_notice 13 = .ok (.getfield 64, 3) := by decide +kernel
theorem dX0_notice_16 : decode cX0_notice 16 = .ok (.getfield 197, 3) := by decide +kernel
theorem dX0_notice_19 : decode cX0_notice 19 = .ok (.istore_n 1, 1) := by decide +kernel
theorem dX0_notice_20 : decode cX0_notice 20 = .ok (.iconst 0, 1) := by decide +kernel
theorem dX0_notice_21 : decode cX0_notice 21 = .ok (.istore_n 2, 1) := by decide +kernel
theorem dX0_notice_22 : decode cX0_notice 22 = .ok (.iload_n 2, 1) := by decide +kernel
theorem dX0_notice_23 : decode cX0_notice 23 = .ok (.aload_n 0, 1) := by decide +kernel
theorem dX0_notice_24 : decode cX0_notice 24 = .ok (.getfield 64, 3) := by decide +kernel
theorem dX0_notice_27 : decode cX0_notice 27 = .ok (.getfield 122, 3) := by decide +kernel
theorem dX0_notice_30 : decode cX0_notice 30 = .ok (.getfield 126, 3) := by decide +kernel
theorem dX0_notice_33 : decode cX0_notice 33 = .ok (.if_icmp .ge 111, 3) := by decide +kernel
theorem dX0_notice_36 : decode cX0_notice 36 = .ok (.aload_n 0, 1) := by decide +kernel
theorem dX0_notice_37 : decode cX0_notice 37 = .ok (.getfield 46, 3) := by decide +kernel
theorem dX0_notice_40 : decode cX0_notice 40 = .ok (.iconst (-1), 1) := by decide +kernel
theorem dX0_notice_41 : decode cX0_notice 41 = .ok (.if_icmp .eq 22, 3) := by decide +kernel
theorem dX0_notice_44 : decode cX0_notice 44 = .ok (.aload_n 0, 1) := by decide +kernel
theorem dX0_notice_45 : decode cX0_notice 45 = .ok (.getfield 37, 3) := by decide +kernel
theorem dX0_notice_48 : decode cX0_notice 48 = .ok (.iload_n 2, 1) := by decide +kernel
theorem dX0_notice_49 : decode cX0_notice 49 = .ok (.invokestatic 118, 3) := by decide +kernel
theorem dX0_notice_52 : decode cX0_notice 52 = .ok (.aload_n 0, 1) := by decide +kernel
theorem dX0_notice_53 : decode cX0_notice 53 = .ok (.getfield 46, 3) := by decide +kernel
theorem dX0_notice_56 : decode cX0_notice 56 = .ok (.if_icmp .ne 7, 3) := by decide +kernel
theorem dX0_notice_59 : decode cX0_notice 59 = .ok (.iconst 1, 1) := by decide +kernel
theorem dX0_notice_60 : decode cX0_notice 60 = .ok (.goto 4, 3) := by decide +kernel
theorem dX0_notice_63 : decode cX0_notice 63 = .ok (.iconst 0, 1) := by decide +kernel
theorem dX0_notice_64 : decode cX0_notice 64 = .ok (.istore_n 3, 1) := by decide +kernel
theorem dX0_notice_65 : decode cX0_notice 65 = .ok (.aload_n 0, 1) := by decide +kernel
theorem dX0_notice_66 : decode cX0_notice 66 = .ok (.getfield 64, 3) := by decide +kernel
theorem dX0_notice_69 : decode cX0_notice 69 = .ok (.getfield 122, 3) := by decide +kernel
theorem dX0_notice_72 : decode cX0_notice 72 = .ok (.getfield 149, 3) := by decide +kernel
theorem dX0_notice_75 : decode cX0_notice 75 = .ok (.iload_n 2, 1) := by decide +kernel
theorem dX0_notice_76 : decode cX0_notice 76 = .ok (.invokestatic 118, 3) := by decide +kernel
theorem dX0_notice_79 : decode cX0_notice 79 = .ok (.iconst 1, 1) := by decide +kernel
theorem dX0_notice_80 : decode cX0_notice 80 = .ok (.if_icmp .ne 7, 3) := by decide +kernel
theorem dX0_notice_83 : decode cX0_notice 83 = .ok (.iconst 1, 1) := by decide +kernel
theorem dX0_notice_84 : decode cX0_notice 84 = .ok (.goto 4, 3) := by decide +kernel
theorem dX0_notice_87 : decode cX0_notice 87 = .ok (.iconst 0, 1) := by decide +kernel
theorem dX0_notice_88 : decode cX0_notice 88 = .ok (.istore 4, 2) := by decide +kernel
theorem dX0_notice_90 : decode cX0_notice 90 = .ok (.aload_n 0, 1) := by decide +kernel
theorem dX0_notice_91 : decode cX0_notice 91 = .ok (.getfield 43, 3) := by decide +kernel
theorem dX0_notice_94 : decode cX0_notice 94 = .ok (.iload_n 2, 1) := by decide +kernel
theorem dX0_notice_95 : decode cX0_notice 95 = .ok (.iload_n 3, 1) := by decide +kernel
theorem dX0_notice_96 : decode cX0_notice 96 = .ok (.ifCond .eq 21, 3) := by decide +kernel
theorem dX0_notice_99 : decode cX0_notice 99 = .ok (.iload 4, 2) := by decide +kernel
theorem dX0_notice_101 : decode cX0_notice 101 = .ok (.ifCond .eq 16, 3) := by decide +kernel
theorem dX0_notice_104 : decode cX0_notice 104 = .ok (.aload_n 0, 1) := by decide +kernel
theorem dX0_notice_105 : decode cX0_notice 105 = .ok (.getfield 43, 3) := by decide +kernel
theorem dX0_notice_108 : decode cX0_notice 108 = .ok (.iload_n 2, 1) := by decide +kernel
theorem dX0_notice_109 : decode cX0_notice 109 = .ok (.invokestatic 118, 3) := by decide +kernel
theorem dX0_notice_112 : decode cX0_notice 112 = .ok (.iconst 1, 1) := by decide +kernel
theorem dX0_notice_113 : decode cX0_notice 113 = .ok (.iadd, 1) := by decide +kernel
theorem dX0_notice_114 : decode cX0_notice 114 = .ok (.goto 4, 3) := by decide +kernel
theorem dX0_notice_117 : decode cX0_notice 117 = .ok (.iconst 0, 1) := by decide +kernel
theorem dX0_notice_118 : decode cX0_notice 118 = .ok (.invokestatic 139, 3) := by decide +kernel
theorem dX0_notice_121 : decode cX0_notice 121 = .ok (.aload_n 0, 1) := by decide +kernel
theorem dX0_notice_122 : decode cX0_notice 122 = .ok (.getfield 43, 3) := by decide +kernel
theorem dX0_notice_125 : decode cX0_notice 125 = .ok (.iload_n 2, 1) := by decide +kernel
theorem dX0_notice_126 : decode cX0_notice 126 = .ok (.invokestatic 118, 3) := by decide +kernel
theorem dX0_notice_129 : decode cX0_notice 129 = .ok (.iload_n 1, 1) := by decide +kernel
theorem dX0_notice_130 : decode cX0_notice 130 = .ok (.if_icmp .lt 8, 3) := by decide +kernel
theorem dX0_notice_133 : decode cX0_notice 133 = .ok (.aload_n 0, 1) := by decide +kernel
theorem dX0_notice_134 : decode cX0_notice 134 = .ok (.iload_n 2, 1) := by decide +kernel
theorem dX0_notice_135 : decode cX0_notice 135 = .ok (.invokevirtual 199, 3) := by decide +kernel
theorem dX0_notice_138 : decode cX0_notice 138 = .ok (.iinc 2 1, 3) := by decide +kernel
theorem dX0_notice_141 : decode cX0_notice 141 = .ok (.goto (-119), 3) := by decide +kernel
theorem dX0_notice_144 : decode cX0_notice 144 = .ok (.return_, 1) := by decide +kernel
theorem dX0_noticeHim_0 : decode cX0_noticeHim 0 = .ok (.aload_n 0, 1) := by decide +kernel
theorem dX0_noticeHim_1 : decode cX0_noticeHim 1 = .ok (.bipush 6, 2) := by decide +kernel
theorem dX0_noticeHim_3 : decode cX0_noticeHim 3 = .ok (.iload_n 1, 1) := by decide +kernel
theorem dX0_noticeHim_4 : decode cX0_noticeHim 4 = .ok (.invokevirtual 159, 3) := by decide +kernel
theorem dX0_noticeHim_7 : decode cX0_noticeHim 7 = .ok (.aload_n 0, 1) := by decide +kernel
theorem dX0_noticeHim_8 : decode cX0_noticeHim 8 = .ok (.getfield 40, 3) := by decide +kernel
theorem dX0_noticeHim_11 : decode cX0_noticeHim 11 = .ok (.iload_n 1, 1) := by decide +kernel
theorem dX0_noticeHim_12 : decode cX0_noticeHim 12 = .ok (.invokestatic 118, 3) := by decide +kernel
theorem dX0_noticeHim_15 : decode cX0_noticeHim 15 = .ok (.iconst (-1), 1) := by decide +kernel
theorem dX0_noticeHim_16 : decode cX0_noticeHim 16 = .ok (.if_icmp .eq 24, 3) := by decide +kernel
theorem dX0_noticeHim_19 : decode cX0_noticeHim 19 = .ok (.aload_n 0, 1) := by decide +kernel
theorem dX0_noticeHim_20 : decode cX0_noticeHim 20 = .ok (.aload_n 0, 1) := by decide +kernel
theorem dX0_noticeHim_21 : decode cX0_noticeHim 21 = .ok (.getfield 40, 3) := by decide +kernel
theorem dX0_noticeHim_24 : decode cX0_noticeHim 24 = .ok (.iload_n 1, 1) := by decide +kernel
theorem dX0_noticeHim_25 : decode cX0_noticeHim 25 = .ok (.invokestatic 118, 3) := by decide +kernel
theorem dX0_noticeHim_28 : decode cX0_noticeHim 28 = .ok (.invokevirtual 162, 3) := by decide +kernel
theorem dX0_noticeHim_31 : decode cX0_noticeHim 31 = .ok (.aload_n 0, 1) := by decide +kernel
theorem dX0_noticeHim_32 : decode cX0_noticeHim 32 = .ok (.getfield 40, 3) := by decide +kernel
theorem dX0_noticeHim_35 : decode cX0_noticeHim 35 = .ok (.iload_n 1, 1) := by decide +kernel
theorem dX0_noticeHim_36 : decode cX0_noticeHim 36 = .ok (.iconst (-1), 1) := by decide +kernel
theorem dX0_noticeHim_37 : decode cX0_noticeHim 37 = .ok (.invokestatic 139, 3) := by decide +kernel
theorem dX0_noticeHim_40 : decode cX0_noticeHim 40 = .ok (.return_, 1) := by decide +kernel
theorem dX0_take_0 : decode cX0_take 0 = .ok (.iconst 0, 1) := by decide +kernel
theorem dX0_take_1 : decode cX0_take 1 = .ok (.istore_n 2, 1) := by decide +kernel
theorem dX0_take_2 : decode cX0_take 2 = .ok (.iload_n 2, 1) := by decide +kernel
theorem dX0_take_3 : decode cX0_take 3 = .ok (.aload_n 0, 1) := by decide +kernel
theorem dX0_take_4 : decode cX0_take 4 = .ok (.getfield 64, 3) := by decide +kernel
theorem dX0_take_7 : decode cX0_take 7 = .ok (.getfield 122, 3) := by decide +kernel
theorem dX0_take_10 : decode cX0_take 10 = .ok (.getfield 126, 3) := by decide +kernel
theorem dX0_take_13 : decode cX0_take 13 = .ok (.if_icmp .ge 131, 3) := by decide +kernel
theorem dX0_take_16 : decode cX0_take 16 = .ok (.aload_n 0, 1) := by decide +kernel
theorem dX0_take_17 : decode cX0_take 17 = .ok (.getfield 37, 3) := by decide +kernel
theorem dX0_take_20 : decode cX0_take 20 = .ok (.iload_n 2, 1) := by decide +kernel
theorem dX0_take_21 : decode cX0_take 21 = .ok (.invokestatic 118, 3) := by decide +kernel
theorem dX0_take_24 : decode cX0_take 24 = .ok (.istore_n 3, 1) := by decide +kernel
theorem dX0_take_25 : decode cX0_take 25 = .ok (.iload_n 3, 1) := by decide +kernel
theorem dX0_take_26 : decode cX0_take 26 = .ok (.iconst (-1), 1) := by decide +kernel
theorem dX0_take_27 : decode cX0_take 27 = .ok (.if_icmp .eq 38, 3) := by decide +kernel
theorem dX0_take_30 : decode cX0_take 30 = .ok (.aload_n 0, 1) := by decide +kernel
theorem dX0_take_31 : decode cX0_take 31 = .ok (.getfield 64, 3) := by decide +kernel
theorem dX0_take_34 : decode cX0_take 34 = .ok (.getfield 122, 3) := by decide +kernel
theorem dX0_take_37 : decode cX0_take 37 = .ok (.iload_n 2, 1) := by decide +kernel
theorem dX0_take_38 : decode cX0_take 38 = .ok (.iload_n 1, 1) := by decide +kernel
theorem dX0_take_39 : decode cX0_take 39 = .ok (.invokevirtual 202, 3) := by decide +kernel
theorem dX0_take_42 : decode cX0_take 42 = .ok (.ifCond .eq 23, 3) := by decide +kernel
theorem dX0_take_45 : decode cX0_take 45 = .ok (.aload_n 0, 1) := by decide +kernel
theorem dX0_take_46 : decode cX0_take 46 = .ok (.getfield 55, 3) := by decide +kernel
theorem dX0_take_49 : decode cX0_take 49 = .ok (.bipush 6, 2) := by decide +kernel
theorem dX0_take_51 : decode cX0_take 51 = .ok (.invokestatic 118, 3) := by decide +kernel
theorem dX0_take_54 : decode cX0_take 54 = .ok (.iload_n 2, 1) := by decide +kernel
theorem dX0_take_55 : decode cX0_take 55 = .ok (.invokestatic 131, 3) := by decide +kernel
theorem dX0_take_58 : decode cX0_take 58 = .ok (.ifCond .ne 7, 3) := by decide +kernel
theorem dX0_take_61 : decode cX0_take 61 = .ok (.iconst 1, 1) := by decide +kernel
theorem dX0_take_62 : decode cX0_take 62 = .ok (.goto 4, 3) := by decide +kernel
theorem dX0_take_65 : decode cX0_take 65 = .ok (.iconst 0, 1) := by decide +kernel
theorem dX0_take_66 : decode cX0_take 66 = .ok (.istore 4, 2) := by decide +kernel
theorem dX0_take_68 : decode cX0_take 68 = .ok (.iload 4, 2) := by decide +kernel
theorem dX0_take_70 : decode cX0_take 70 = .ok (.ifCond .eq 68, 3) := by decide +kernel
theorem dX0_take_73 : decode cX0_take 73 = .ok (.aload_n 0, 1) := by decide +kernel
theorem dX0_take_74 : decode cX0_take 74 = .ok (.getfield 34, 3) := by decide +kernel
theorem dX0_take_77 : decode cX0_take 77 = .ok (.iload_n 3, 1) := by decide +kernel
theorem dX0_take_78 : decode cX0_take 78 = .ok (.invokestatic 118, 3) := by decide +kernel
theorem dX0_take_81 : decode cX0_take 81 = .ok (.ifCond .le 57, 3) := by decide +kernel
theorem dX0_take_84 : decode cX0_take 84 = .ok (.aload_n 0, 1) := by decide +kernel
theorem dX0_take_85 : decode cX0_take 85 = .ok (.getfield 34, 3) := by decide +kernel
theorem dX0_take_88 : decode cX0_take 88 = .ok (.iload_n 3, 1) := by decide +kernel
theorem dX0_take_89 : decode cX0_take 89 = .ok (.aload_n 0, 1) := by decide +kernel
theorem dX0_take_90 : decode cX0_take 90 = .ok (.getfield 34, 3) := by decide +kernel
theorem dX0_take_93 : decode cX0_take 93 = .ok (.iload_n 3, 1) := by decide +kernel
theorem dX0_take_94 : decode cX0_take 94 = .ok (.invokestatic 118, 3) := by decide +kernel
theorem dX0_take_97 : decode cX0_take 97 = .ok (.iconst 1, 1) := by decide +kernel
theorem dX0_take_98 : decode cX0_take 98 = .ok (.isub, 1) := by decide +kernel
theorem dX0_take_99 : decode cX0_take 99 = .ok (.invokestatic 139, 3) := by decide +kernel
theorem dX0_take_102 : decode cX0_take 102 = .ok (.aload_n 0, 1) := by decide +kernel
theorem dX0_take_103 : decode cX0_take 103 = .ok (.getfield 40, 3) := by decide +kernel
theorem dX0_take_106 : decode cX0_take 106 = .ok (.iload_n 2, 1) := by decide +kernel
theorem dX0_take_107 : decode cX0_take 107 = .ok (.iload_n 3, 1) := by decide +kernel
theorem dX0_take_108 : decode cX0_take 108 = .ok (.invokestatic 139, 3) := by decide +kernel
theorem dX0_take_111 : decode cX0_take 111 = .ok (.aload_n 0, 1) := by decide +kernel
theorem dX0_take_112 : decode cX0_take 112 = .ok (.iload_n 3, 1) := by decide +kernel
theorem dX0_take_113 : decode cX0_take 113 = .ok (.invokevirtual 205, 3) := by decide +kernel
theorem dX0_take_116 : decode cX0_take 116 = .ok (.ifCond .eq 22, 3) := by decide +kernel
theorem dX0_take_119 : decode cX0_take 119 = .ok (.aload_n 0, 1) := by decide +kernel
theorem dX0_take_120 : decode cX0_take 120 = .ok (.iconst 5, 1) := by decide +kernel
theorem dX0_take_121 : decode cX0_take 121 = .ok (.iload_n 2, 1) := by decide +kernel
theorem dX0_take_122 : decode cX0_take 122 = .ok (.invokevirtual 159, 3) := by decide +kernel
theorem dX0_take_125 : decode cX0_take 125 = .ok (.aload_n 0, 1) := by decide +kernel
theorem dX0_take_126 : decode cX0_take 126 = .ok (.dup, 1) := by decide +kernel
theorem dX0_take_127 : decode cX0_take 127 = .ok (.getfield 49, 3) := by decide +kernel
theorem dX0_take_130 : decode cX0_take 130 = .ok (.iload_n 2, 1) := by decide +kernel
theorem dX0_take_131 : decode cX0_take 131 = .ok (.invokestatic 165, 3) := by decide +kernel
theorem dX0_take_134 : decode cX0_take 134 = .ok (.ior, 1) := by decide +kernel
theorem dX0_take_135 : decode cX0_take 135 = .ok (.putfield 49, 3) := by decide +kernel
theorem dX0_take_138 : decode cX0_take 138 = .ok (.iinc 2 1, 3) := by decide +kernel
theorem dX0_take_141 : decode cX0_take 141 = .ok (.goto (-139), 3) := by decide +kernel
theorem dX0_take_144 : decode cX0_take 144 = .ok (.return_, 1) := by decide +kernel
theorem dX0_sees_0 : decode cX0_sees 0 = .ok (.aload_n 0, 1) := by decide +kernel
theorem dX0_sees_1 : decode cX0_sees 1 = .ok (.getfield 46, 3) := by decide +kernel
theorem dX0_sees_4 : decode cX0_sees 4 = .ok (.iconst (-1), 1) := by decide +kernel
theorem dX0_sees_5 : decode cX0_sees 5 = .ok (.if_icmp .eq 33, 3) := by decide +kernel
theorem dX0_sees_8 : decode cX0_sees 8 = .ok (.iload_n 1, 1) := by decide +kernel
theorem dX0_sees_9 : decode cX0_sees 9 = .ok (.aload_n 0, 1) := by decide +kernel
theorem dX0_sees_10 : decode cX0_sees 10 = .ok (.getfield 46, 3) := by decide +kernel
theorem dX0_sees_13 : decode cX0_sees 13 = .ok (.if_icmp .eq 21, 3) := by decide +kernel
theorem dX0_sees_16 : decode cX0_sees 16 = .ok (.aload_n 0, 1) := by decide +kernel
theorem dX0_sees_17 : decode cX0_sees 17 = .ok (.getfield 31, 3) := by decide +kernel
theorem dX0_sees_20 : decode cX0_sees 20 = .ok (.aload_n 0, 1) := by decide +kernel
theorem dX0_sees_21 : decode cX0_sees 21 = .ok (.getfield 46, 3) := by decide +kernel
theorem dX0_sees_24 : decode cX0_sees 24 = .ok (.invokestatic 118, 3) := by decide +kernel
theorem dX0_sees_27 : decode cX0_sees 27 = .ok (.iload_n 1, 1) := by decide +kernel
theorem dX0_sees_28 : decode cX0_sees 28 = .ok (.invokestatic 131, 3) := by decide +kernel
theorem dX0_sees_31 : decode cX0_sees 31 = .ok (.ifCond .eq 7, 3) := by decide +kernel
theorem dX0_sees_34 : decode cX0_sees 34 = .ok (.iconst 1, 1) := by decide +kernel
theorem dX0_sees_35 : decode cX0_sees 35 = .ok (.goto 4, 3) := by decide +kernel
theorem dX0_sees_38 : decode cX0_sees 38 = .ok (.iconst 0, 1) := by decide +kernel
theorem dX0_sees_39 : decode cX0_sees 39 = .ok (.ireturn, 1) := by decide +kernel
theorem dX0_loseSight_0 : decode cX0_loseSight 0 = .ok (.iconst 0, 1) := by decide +kernel
theorem dX0_loseSight_1 : decode cX0_loseSight 1 = .ok (.istore_n 1, 1) := by decide +kernel
theorem dX0_loseSight_2 : decode cX0_loseSight 2 = .ok (.iload_n 1, 1) := by decide +kernel
theorem dX0_loseSight_3 : decode cX0_loseSight 3 = .ok (.aload_n 0, 1) := by decide +kernel
theorem dX0_loseSight_4 : decode cX0_loseSight 4 = .ok (.getfield 64, 3) := by decide +kernel
theorem dX0_loseSight_7 : decode cX0_loseSight 7 = .ok (.getfield 122, 3) := by decide +kernel
theorem dX0_loseSight_10 : decode cX0_loseSight 10 = .ok (.getfield 126, 3) := by decide +kernel
theorem dX0_loseSight_13 : decode cX0_loseSight 13 = .ok (.if_icmp .ge 39, 3) := by decide +kernel
theorem dX0_loseSight_16 : decode cX0_loseSight 16 = .ok (.aload_n 0, 1) := by decide +kernel
theorem dX0_loseSight_17 : decode cX0_loseSight 17 = .ok (.aload_n 0, 1) := by decide +kernel
theorem dX0_loseSight_18 : decode cX0_loseSight 18 = .ok (.getfield 37, 3) := by decide +kernel
theorem dX0_loseSight_21 : decode cX0_loseSight 21 = .ok (.iload_n 1, 1) := by decide +kernel
theorem dX0_loseSight_22 : decode cX0_loseSight 22 = .ok (.invokestatic 118, 3) := by decide +kernel
theorem dX0_loseSight_25 : decode cX0_loseSight 25 = .ok (.invokevirtual 205, 3) := by decide +kernel
theorem dX0_loseSight_28 : decode cX0_loseSight 28 = .ok (.ifCond .ne 18, 3) := by decide +kernel
theorem dX0_loseSight_31 : decode cX0_loseSight 31 = .ok (.aload_n 0, 1) := by decide +kernel
theorem dX0_loseSight_32 : decode cX0_loseSight 32 = .ok (.dup, 1) := by decide +kernel
theorem dX0_loseSight_33 : decode cX0_loseSight 33 = .ok (.getfield 49, 3) := by decide +kernel
theorem dX0_loseSight_36 : decode cX0_loseSight 36 = .ok (.iload_n 1, 1) := by decide +kernel
theorem dX0_loseSight_37 : decode cX0_loseSight 37 = .ok (.invokestatic 165, 3) := by decide +kernel
theorem dX0_loseSight_40 : decode cX0_loseSight 40 = .ok (.iconst (-1), 1) := by decide +kernel
theorem dX0_loseSight_41 : decode cX0_loseSight 41 = .ok (.ixor, 1) := by decide +kernel
theorem dX0_loseSight_42 : decode cX0_loseSight 42 = .ok (.iand, 1) := by decide +kernel
theorem dX0_loseSight_43 : decode cX0_loseSight 43 = .ok (.putfield 49, 3) := by decide +kernel
theorem dX0_loseSight_46 : decode cX0_loseSight 46 = .ok (.iinc 1 1, 3) := by decide +kernel
theorem dX0_loseSight_49 : decode cX0_loseSight 49 = .ok (.goto (-47), 3) := by decide +kernel
theorem dX0_loseSight_52 : decode cX0_loseSight 52 = .ok (.return_, 1) := by decide +kernel
theorem dX0_note_0 : decode cX0_note 0 = .ok (.aload_n 0, 1) := by decide +kernel
theorem dX0_note_1 : decode cX0_note 1 = .ok (.getfield 58, 3) := by decide +kernel
theorem dX0_note_4 : decode cX0_note 4 = .ok (.iload_n 1, 1) := by decide +kernel
theorem dX0_note_5 : decode cX0_note 5 = .ok (.aload_n 0, 1) := by decide +kernel
theorem dX0_note_6 : decode cX0_note 6 = .ok (.getfield 46, 3) := by decide +kernel
theorem dX0_note_9 : decode cX0_note 9 = .ok (.invokestatic 139, 3) := by decide +kernel
theorem dX0_note_12 : decode cX0_note 12 = .ok (.iconst 0, 1) := by decide +kernel
theorem dX0_note_13 : decode cX0_note 13 = .ok (.istore_n 2, 1) := by decide +kernel
theorem dX0_note_14 : decode cX0_note 14 = .ok (.iload_n 2, 1) := by decide +kernel
theorem dX0_note_15 : decode cX0_note 15 = .ok (.aload_n 0, 1) := by decide +kernel
theorem dX0_note_16 : decode cX0_note 16 = .ok (.getfield 64, 3) := by decide +kernel
theorem dX0_note_19 : decode cX0_note 19 = .ok (.getfield 122, 3) := by decide +kernel
theorem dX0_note_22 : decode cX0_note 22 = .ok (.getfield 126, 3) := by decide +kernel
theorem dX0_note_25 : decode cX0_note 25 = .ok (.if_icmp .ge 30, 3) := by decide +kernel
theorem dX0_note_28 : decode cX0_note 28 = .ok (.aload_n 0, 1) := by decide +kernel
theorem dX0_note_29 : decode cX0_note 29 = .ok (.getfield 61, 3) := by decide +kernel
theorem dX0_note_32 : decode cX0_note 32 = .ok (.iload_n 1, 1) := by decide +kernel
theorem dX0_note_33 : decode cX0_note 33 = .ok (.bipush 8, 2) := by decide +kernel
theorem dX0_note_35 : decode cX0_note 35 = .ok (.imul, 1) := by decide +kernel
theorem dX0_note_36 : decode cX0_note 36 = .ok (.iload_n 2, 1) := by decide +kernel
theorem dX0_note_37 : decode cX0_note 37 = .ok (.iadd, 1) := by decide +kernel
theorem dX0_note_38 : decode cX0_note 38 = .ok (.aload_n 0, 1) := by decide +kernel
theorem dX0_note_39 : decode cX0_note 39 = .ok (.getfield 40, 3) := by decide +kernel
theorem dX0_note_42 : decode cX0_note 42 = .ok (.iload_n 2, 1) := by decide +kernel
theorem dX0_note_43 : decode cX0_note 43 = .ok (.invokestatic 118, 3) := by decide +kernel
theorem dX0_note_46 : decode cX0_note 46 = .ok (.invokestatic 139, 3) := by decide +kernel
theorem dX0_note_49 : decode cX0_note 49 = .ok (.iinc 2 1, 3) := by decide +kernel
theorem dX0_note_52 : decode cX0_note 52 = .ok (.goto (-38), 3) := by decide +kernel
theorem dX0_note_55 : decode cX0_note 55 = .ok (.return_, 1) := by decide +kernel
theorem dX0_close_0 : decode cX0_close 0 = .ok (.iconst 0, 1) := by decide +kernel
theorem dX0_close_1 : decode cX0_close 1 = .ok (.istore_n 1, 1) := by decide +kernel
theorem dX0_close_2 : decode cX0_close 2 = .ok (.iload_n 1, 1) := by decide +kernel
theorem dX0_close_3 : decode cX0_close 3 = .ok (.aload_n 0, 1) := by decide +kernel
theorem dX0_close_4 : decode cX0_close 4 = .ok (.getfield 64, 3) := by decide +kernel
theorem dX0_close_7 : decode cX0_close 7 = .ok (.getfield 122, 3) := by decide +kernel
theorem dX0_close_10 : decode cX0_close 10 = .ok (.getfield 126, 3) := by decide +kernel
theorem dX0_close_13 : decode cX0_close 13 = .ok (.if_icmp .ge 59, 3) := by decide +kernel
theorem dX0_close_16 : decode cX0_close 16 = .ok (.aload_n 0, 1) := by decide +kernel
theorem dX0_close_17 : decode cX0_close 17 = .ok (.getfield 40, 3) := by decide +kernel
theorem dX0_close_20 : decode cX0_close 20 = .ok (.iload_n 1, 1) := by decide +kernel
theorem dX0_close_21 : decode cX0_close 21 = .ok (.invokestatic 118, 3) := by decide +kernel
theorem dX0_close_24 : decode cX0_close 24 = .ok (.istore_n 2, 1) := by decide +kernel
theorem dX0_close_25 : decode cX0_close 25 = .ok (.iload_n 2, 1) := by decide +kernel
theorem dX0_close_26 : decode cX0_close 26 = .ok (.iconst (-1), 1) := by decide +kernel
theorem dX0_close_27 : decode cX0_close 27 = .ok (.if_icmp .eq 29, 3) := by decide +kernel
theorem dX0_close_30 : decode cX0_close 30 = .ok (.aload_n 0, 1) := by decide +kernel
theorem dX0_close_31 : decode cX0_close 31 = .ok (.getfield 64, 3) := by decide +kernel
theorem dX0_close_34 : decode cX0_close 34 = .ok (.getfield 122, 3) := by decide +kernel
theorem dX0_close_37 : decode cX0_close 37 = .ok (.getfield 149, 3) := by decide +kernel
theorem dX0_close_40 : decode cX0_close 40 = .ok (.iload_n 1, 1) := by decide +kernel
theorem dX0_close_41 : decode cX0_close 41 = .ok (.invokestatic 118, 3) := by decide +kernel
theorem dX0_close_44 : decode cX0_close 44 = .ok (.ifCond .ne 12, 3) := by decide +kernel
theorem dX0_close_47 : decode cX0_close 47 = .ok (.aload_n 0, 1) := by decide +kernel
theorem dX0_close_48 : decode cX0_close 48 = .ok (.iconst 4, 1) := by decide +kernel
theorem dX0_close_49 : decode cX0_close 49 = .ok (.iconst 1, 1) := by decide +kernel
theorem dX0_close_50 : decode cX0_close 50 = .ok (.invokevirtual 152, 3) := by decide +kernel
theorem dX0_close_53 : decode cX0_close 53 = .ok (.goto 13, 3) := by decide +kernel
theorem dX0_close_56 : decode cX0_close 56 = .ok (.iload_n 2, 1) := by decide +kernel
theorem dX0_close_57 : decode cX0_close 57 = .ok (.iconst (-1), 1) := by decide +kernel
theorem dX0_close_58 : decode cX0_close 58 = .ok (.if_icmp .eq 8, 3) := by decide +kernel
theorem dX0_close_61 : decode cX0_close 61 = .ok (.aload_n 0, 1) := by decide +kernel
theorem dX0_close_62 : decode cX0_close 62 = .ok (.iload_n 2, 1) := by decide +kernel
theorem dX0_close_63 : decode cX0_close 63 = .ok (.invokevirtual 162, 3) := by decide +kernel
theorem dX0_close_66 : decode cX0_close 66 = .ok (.iinc 1 1, 3) := by decide +kernel
theorem dX0_close_69 : decode cX0_close 69 = .ok (.goto (-67), 3) := by decide +kernel
theorem dX0_close_72 : decode cX0_close 72 = .ok (.return_, 1) := by decide +kernel
theorem dX1_init_0 : decode cX1_init 0 = .ok (.aload_n 0, 1) := by decide +kernel
theorem dX1_init_1 : decode cX1_init 1 = .ok (.invokespecial 3, 3) := by decide +kernel
theorem dX1_init_4 : decode cX1_init 4 = .ok (.aload_n 0, 1) := by decide +kernel
theorem dX1_init_5 : decode cX1_init 5 = .ok (.iconst 0, 1) := by decide +kernel
theorem dX1_init_6 : decode cX1_init 6 = .ok (.putfield 9, 3) := by decide +kernel
theorem dX1_init_9 : decode cX1_init 9 = .ok (.aload_n 0, 1) := by decide +kernel
theorem dX1_init_10 : decode cX1_init 10 = .ok (.iconst 0, 1) := by decide +kernel
theorem dX1_init_11 : decode cX1_init 11 = .ok (.putfield 15, 3) := by decide +kernel
theorem dX1_init_14 : decode cX1_init 14 = .ok (.aload_n 0, 1) := by decide +kernel
theorem dX1_init_15 : decode cX1_init 15 = .ok (.iconst 0, 1) := by decide +kernel
theorem dX1_init_16 : decode cX1_init 16 = .ok (.putfield 18, 3) := by decide +kernel
theorem dX1_init_19 : decode cX1_init 19 = .ok (.aload_n 0, 1) := by decide +kernel
theorem dX1_init_20 : decode cX1_init 20 = .ok (.bipush 10, 2) := by decide +kernel
theorem dX1_init_22 : decode cX1_init 22 = .ok (.newarray .int, 2) := by decide +kernel
theorem dX1_init_24 : decode cX1_init 24 = .ok (.putfield 21, 3) := by decide +kernel
theorem dX1_init_27 : decode cX1_init 27 = .ok (.aload_n 0, 1) := by decide +kernel
theorem dX1_init_28 : decode cX1_init 28 = .ok (.bipush 10, 2) := by decide +kernel
theorem dX1_init_30 : decode cX1_init 30 = .ok (.newarray .int, 2) := by decide +kernel
theorem dX1_init_32 : decode cX1_init 32 = .ok (.putfield 25, 3) := by decide +kernel
theorem dX1_init_35 : decode cX1_init 35 = .ok (.aload_n 0, 1) := by decide +kernel
theorem dX1_init_36 : decode cX1_init 36 = .ok (.bipush 10, 2) := by decide +kernel
theorem dX1_init_38 : decode cX1_init 38 = .ok (.newarray .int, 2) := by decide +kernel
theorem dX1_init_40 : decode cX1_init 40 = .ok (.putfield 28, 3) := by decide +kernel
theorem dX1_init_43 : decode cX1_init 43 = .ok (.aload_n 0, 1) := by decide +kernel
theorem dX1_init_44 : decode cX1_init 44 = .ok (.bipush 10, 2) := by decide +kernel
theorem dX1_init_46 : decode cX1_init 46 = .ok (.newarray .int, 2) := by decide +kernel
theorem dX1_init_48 : decode cX1_init 48 = .ok (.putfield 31, 3) := by decide +kernel
theorem dX1_init_51 : decode cX1_init 51 = .ok (.aload_n 0, 1) := by decide +kernel
theorem dX1_init_52 : decode cX1_init 52 = .ok (.bipush 100, 2) := by decide +kernel
theorem dX1_init_54 : decode cX1_init 54 = .ok (.newarray .int, 2) := by decide +kernel
theorem dX1_init_56 : decode cX1_init 56 = .ok (.putfield 34, 3) := by decide +kernel
theorem dX1_init_59 : decode cX1_init 59 = .ok (.return_, 1) := by decide +kernel
theorem dX1_clear_0 : decode cX1_clear 0 = .ok (.aload_n 0, 1) := by decide +kernel
theorem dX1_clear_1 : decode cX1_clear 1 = .ok (.iconst 0, 1) := by decide +kernel
theorem dX1_clear_2 : decode cX1_clear 2 = .ok (.putfield 9, 3) := by decide +kernel
theorem dX1_clear_5 : decode cX1_clear 5 = .ok (.aload_n 0, 1) := by decide +kernel
theorem dX1_clear_6 : decode cX1_clear 6 = .ok (.iconst 0, 1) := by decide +kernel
theorem dX1_clear_7 : decode cX1_clear 7 = .ok (.putfield 15, 3) := by decide +kernel
theorem dX1_clear_10 : decode cX1_clear 10 = .ok (.aload_n 0, 1) := by decide +kernel
theorem dX1_clear_11 : decode cX1_clear 11 = .ok (.iconst 0, 1) := by decide +kernel
theorem dX1_clear_12 : decode cX1_clear 12 = .ok (.putfield 18, 3) := by decide +kernel
theorem dX1_clear_15 : decode cX1_clear 15 = .ok (.aload_n 0, 1) := by decide +kernel
theorem dX1_clear_16 : decode cX1_clear 16 = .ok (.getfield 28, 3) := by decide +kernel
theorem dX1_clear_19 : decode cX1_clear 19 = .ok (.iconst 0, 1) := by decide +kernel
theorem dX1_clear_20 : decode cX1_clear 20 = .ok (.invokestatic 37, 3) := by decide +kernel
theorem dX1_clear_23 : decode cX1_clear 23 = .ok (.aload_n 0, 1) := by decide +kernel
theorem dX1_clear_24 : decode cX1_clear 24 = .ok (.getfield 31, 3) := by decide +kernel
theorem dX1_clear_27 : decode cX1_clear 27 = .ok (.iconst 0, 1) := by decide +kernel
theorem dX1_clear_28 : decode cX1_clear 28 = .ok (.invokestatic 37, 3) := by decide +kernel
theorem dX1_clear_31 : decode cX1_clear 31 = .ok (.return_, 1) := by decide +kernel
theorem dX1_hasAisle_0 : decode cX1_hasAisle 0 = .ok (.iload_n 1, 1) := by decide +kernel
theorem dX1_hasAisle_1 : decode cX1_hasAisle 1 = .ok (.ifCond .lt 15, 3) := by decide +kernel
theorem dX1_hasAisle_4 : decode cX1_hasAisle 4 = .ok (.iload_n 1, 1) := by decide +kernel
theorem dX1_hasAisle_5 : decode cX1_hasAisle 5 = .ok (.aload_n 0, 1) := by decide +kernel
theorem dX1_hasAisle_6 : decode cX1_hasAisle 6 = .ok (.getfield 9, 3) := by decide +kernel
theorem dX1_hasAisle_9 : decode cX1_hasAisle 9 = .ok (.if_icmp .ge 7, 3) := by decide +kernel
theorem dX1_hasAisle_12 : decode cX1_hasAisle 12 = .ok (.iconst 1, 1) := by decide +kernel
theorem dX1_hasAisle_13 : decode cX1_hasAisle 13 = .ok (.goto 4, 3) := by decide +kernel
theorem dX1_hasAisle_16 : decode cX1_hasAisle 16 = .ok (.iconst 0, 1) := by decide +kernel
theorem dX1_hasAisle_17 : decode cX1_hasAisle 17 = .ok (.ireturn, 1) := by decide +kernel
theorem dX1_joins_0 : decode cX1_joins 0 = .ok (.aload_n 0, 1) := by decide +kernel
theorem dX1_joins_1 : decode cX1_joins 1 = .ok (.getfield 28, 3) := by decide +kernel
theorem dX1_joins_4 : decode cX1_joins 4 = .ok (.iload_n 1, 1) := by decide +kernel
theorem dX1_joins_5 : decode cX1_joins 5 = .ok (.invokestatic 41, 3) := by decide +kernel
theorem dX1_joins_8 : decode cX1_joins 8 = .ok (.iload_n 2, 1) := by decide +kernel
theorem dX1_joins_9 : decode cX1_joins 9 = .ok (.invokestatic 45, 3) := by decide +kernel
theorem dX1_joins_12 : decode cX1_joins 12 = .ok (.ireturn, 1) := by decide +kernel
theorem dX1_addAisle_0 : decode cX1_addAisle 0 = .ok (.aload_n 0, 1) := by decide +kernel
theorem dX1_addAisle_1 : decode cX1_addAisle 1 = .ok (.getfield 21, 3) := by decide +kernel
theorem dX1_addAisle_4 : decode cX1_addAisle 4 = .ok (.aload_n 0, 1) := by decide +kernel
theorem dX1_addAisle_5 : decode cX1_addAisle 5 = .ok (.getfield 9, 3) := by decide +kernel
theorem dX1_addAisle_8 : decode cX1_addAisle 8 = .ok (.iload_n 1, 1) := by decide +kernel
theorem dX1_addAisle_9 : decode cX1_addAisle 9 = .ok (.invokestatic 49, 3) := by decide +kernel
theorem dX1_addAisle_12 : decode cX1_addAisle 12 = .ok (.aload_n 0, 1) := by decide +kernel
theorem dX1_addAisle_13 : decode cX1_addAisle 13 = .ok (.getfield 25, 3) := by decide +kernel
theorem dX1_addAisle_16 : decode cX1_addAisle 16 = .ok (.aload_n 0, 1) := by decide +kernel
theorem dX1_addAisle_17 : decode cX1_addAisle 17 = .ok (.getfield 9, 3) := by decide +kernel
theorem dX1_addAisle_20 : decode cX1_addAisle 20 = .ok (.iload_n 2, 1) := by decide +kernel
theorem dX1_addAisle_21 : decode cX1_addAisle 21 = .ok (.invokestatic 49, 3) := by decide +kernel
theorem dX1_addAisle_24 : decode cX1_addAisle 24 = .ok (.aload_n 0, 1) := by decide +kernel
theorem dX1_addAisle_25 : decode cX1_addAisle 25 = .ok (.dup, 1) := by decide +kernel
theorem dX1_addAisle_26 : decode cX1_addAisle 26 = .ok (.getfield 9, 3) := by decide +kernel
theorem dX1_addAisle_29 : decode cX1_addAisle 29 = .ok (.iconst 1, 1) := by decide +kernel
theorem dX1_addAisle_30 : decode cX1_addAisle 30 = .ok (.iadd, 1) := by decide +kernel
theorem dX1_addAisle_31 : decode cX1_addAisle 31 = .ok (.putfield 9, 3) := by decide +kernel
theorem dX1_addAisle_34 : decode cX1_addAisle 34 = .ok (.return_, 1) := by decide +kernel
theorem dX1_addWay_0 : decode cX1_addWay 0 = .ok (.aload_n 0, 1) := by decide +kernel
theorem dX1_addWay_1 : decode cX1_addWay 1 = .ok (.getfield 28, 3) := by decide +kernel
theorem dX1_addWay_4 : decode cX1_addWay 4 = .ok (.iload_n 1, 1) := by decide +kernel
theorem dX1_addWay_5 : decode cX1_addWay 5 = .ok (.aload_n 0, 1) := by decide +kernel
theorem dX1_addWay_6 : decode cX1_addWay 6 = .ok (.getfield 28, 3) := by decide +kernel
theorem dX1_addWay_9 : decode cX1_addWay 9 = .ok (.iload_n 1, 1) := by decide +kernel
theorem dX1_addWay_10 : decode cX1_addWay 10 = .ok (.invokestatic 41, 3) := by decide +kernel
theorem dX1_addWay_13 : decode cX1_addWay 13 = .ok (.iload_n 2, 1) := by decide +kernel
theorem dX1_addWay_14 : decode cX1_addWay 14 = .ok (.invokestatic 53, 3) := by decide +kernel
theorem dX1_addWay_17 : decode cX1_addWay 17 = .ok (.ior, 1) := by decide +kernel
theorem dX1_addWay_18 : decode cX1_addWay 18 = .ok (.invokestatic 49, 3) := by decide +kernel
theorem dX1_addWay_21 : decode cX1_addWay 21 = .ok (.aload_n 0, 1) := by decide +kernel
theorem dX1_addWay_22 : decode cX1_addWay 22 = .ok (.getfield 28, 3) := by decide +kernel
theorem dX1_addWay_25 : decode cX1_addWay 25 = .ok (.iload_n 2, 1) := by decide +kernel
theorem dX1_addWay_26 : decode cX1_addWay 26 = .ok (.aload_n 0, 1) := by decide +kernel
theorem dX1_addWay_27 : decode cX1_addWay 27 = .ok (.getfield 28, 3) := by decide +kernel
theorem dX1_addWay_30 : decode cX1_addWay 30 = .ok (.iload_n 2, 1) := by decide +kernel
theorem dX1_addWay_31 : decode cX1_addWay 31 = .ok (.invokestatic 41, 3) := by decide +kernel
theorem dX1_addWay_34 : decode cX1_addWay 34 = .ok (.iload_n 1, 1) := by decide +kernel
theorem dX1_addWay_35 : decode cX1_addWay 35 = .ok (.invokestatic 53, 3) := by decide +kernel
theorem dX1_addWay_38 : decode cX1_addWay 38 = .ok (.ior, 1) := by decide +kernel
theorem dX1_addWay_39 : decode cX1_addWay 39 = .ok (.invokestatic 49, 3) := by decide +kernel
theorem dX1_addWay_42 : decode cX1_addWay 42 = .ok (.aload_n 0, 1) := by decide +kernel
theorem dX1_addWay_43 : decode cX1_addWay 43 = .ok (.dup, 1) := by decide +kernel
theorem dX1_addWay_44 : decode cX1_addWay 44 = .ok (.getfield 15, 3) := by decide +kernel
theorem dX1_addWay_47 : decode cX1_addWay 47 = .ok (.iconst 1, 1) := by decide +kernel
theorem dX1_addWay_48 : decode cX1_addWay 48 = .ok (.iadd, 1) := by decide +kernel
theorem dX1_addWay_49 : decode cX1_addWay 49 = .ok (.putfield 15, 3) := by decide +kernel
theorem dX1_addWay_52 : decode cX1_addWay 52 = .ok (.return_, 1) := by decide +kernel
theorem dX1_addMirror_0 : decode cX1_addMirror 0 = .ok (.aload_n 0, 1) := by decide +kernel
theorem dX1_addMirror_1 : decode cX1_addMirror 1 = .ok (.getfield 31, 3) := by decide +kernel
theorem dX1_addMirror_4 : decode cX1_addMirror 4 = .ok (.iload_n 1, 1) := by decide +kernel
theorem dX1_addMirror_5 : decode cX1_addMirror 5 = .ok (.aload_n 0, 1) := by decide +kernel
theorem dX1_addMirror_6 : decode cX1_addMirror 6 = .ok (.getfield 31, 3) := by decide +kernel
theorem dX1_addMirror_9 : decode cX1_addMirror 9 = .ok (.iload_n 1, 1) := by decide +kernel
theorem dX1_addMirror_10 : decode cX1_addMirror 10 = .ok (.invokestatic 41, 3) := by decide +kernel
theorem dX1_addMirror_13 : decode cX1_addMirror 13 = .ok (.iload_n 2, 1) := by decide +kernel
theorem dX1_addMirror_14 : decode cX1_addMirror 14 = .ok (.invokestatic 53, 3) := by decide +kernel
theorem dX1_addMirror_17 : decode cX1_addMirror 17 = .ok (.ior, 1) := by decide +kernel
theorem dX1_addMirror_18 : decode cX1_addMirror 18 = .ok (.invokestatic 49, 3) := by decide +kernel
theorem dX1_addMirror_21 : decode cX1_addMirror 21 = .ok (.aload_n 0, 1) := by decide +kernel
theorem dX1_addMirror_22 : decode cX1_addMirror 22 = .ok (.dup, 1) := by decide +kernel
theorem dX1_addMirror_23 : decode cX1_addMirror 23 = .ok (.getfield 18, 3) := by decide +kernel
theorem dX1_addMirror_26 : decode cX1_addMirror 26 = .ok (.iconst 1, 1) := by decide +kernel
theorem dX1_addMirror_27 : decode cX1_addMirror 27 = .ok (.iadd, 1) := by decide +kernel
theorem dX1_addMirror_28 : decode cX1_addMirror 28 = .ok (.putfield 18, 3) := by decide +kernel
theorem dX1_addMirror_31 : decode cX1_addMirror 31 = .ok (.return_, 1) := by decide +kernel
theorem dX1_measure_0 : decode cX1_measure 0 = .ok (.iconst 0, 1) := by decide +kernel
theorem dX1_measure_1 : decode cX1_measure 1 = .ok (.istore_n 1, 1) := by decide +kernel
theorem dX1_measure_2 : decode cX1_measure 2 = .ok (.iload_n 1, 1) := by decide +kernel
theorem dX1_measure_3 : decode cX1_measure 3 = .ok (.aload_n 0, 1) := by decide +kernel
theorem dX1_measure_4 : decode cX1_measure 4 = .ok (.getfield 9, 3) := by decide +kernel
theorem dX1_measure_7 : decode cX1_measure 7 = .ok (.if_icmp .ge 62, 3) := by decide +kernel
theorem dX1_measure_10 : decode cX1_measure 10 = .ok (.iconst 0, 1) := by decide +kernel
theorem dX1_measure_11 : decode cX1_measure 11 = .ok (.istore_n 2, 1) := by decide +kernel
theorem dX1_measure_12 : decode cX1_measure 12 = .ok (.iload_n 2, 1) := by decide +kernel
theorem dX1_measure_13 : decode cX1_measure 13 = .ok (.aload_n 0, 1) := by decide +kernel
theorem dX1_measure_14 : decode cX1_measure 14 = .ok (.getfield 9, 3) := by decide +kernel
theorem dX1_measure_17 : decode cX1_measure 17 = .ok (.if_icmp .ge 46, 3) := by decide +kernel
theorem dX1_measure_20 : decode cX1_measure 20 = .ok (.aload_n 0, 1) := by decide +kernel
theorem dX1_measure_21 : decode cX1_measure 21 = .ok (.getfield 34, 3) := by decide +kernel
theorem dX1_measure_24 : decode cX1_measure 24 = .ok (.iload_n 1, 1) := by decide +kernel
theorem dX1_measure_25 : decode cX1_measure 25 = .ok (.bipush 10, 2) := by decide +kernel
theorem dX1_measure_27 : decode cX1_measure 27 = .ok (.imul, 1) := by decide +kernel
theorem dX1_measure_28 : decode cX1_measure 28 = .ok (.iload_n 2, 1) := by decide +kernel
theorem dX1_measure_29 : decode cX1_measure 29 = .ok (.iadd, 1) := by decide +kernel
theorem dX1_measure_30 : decode cX1_measure 30 = .ok (.iload_n 1, 1) := by decide +kernel
theorem dX1_measure_31 : decode cX1_measure 31 = .ok (.iload_n 2, 1) := by decide +kernel
theorem dX1_measure_32 : decode cX1_measure 32 = .ok (.if_icmp .ne 7, 3) := by decide +kernel
theorem dX1_measure_35 : decode cX1_measure 35 = .ok (.iconst 0, 1) := by decide +kernel
theorem dX1_measure_36 : decode cX1_measure 36 = .ok (.goto 18, 3) := by decide +kernel
theorem dX1_measure_39 : decode cX1_measure 39 = .ok (.aload_n 0, 1) := by decide +kernel
theorem dX1_measure_40 : decode cX1_measure 40 = .ok (.iload_n 1, 1) := by decide +kernel
theorem dX1_measure_41 : decode cX1_measure 41 = .ok (.iload_n 2, 1) := by decide +kernel
theorem dX1_measure_42 : decode cX1_measure 42 = .ok (.invokevirtual 57, 3) := by decide +kernel
theorem dX1_measure_45 : decode cX1_measure 45 = .ok (.ifCond .eq 7, 3) := by decide +kernel
theorem dX1_measure_48 : decode cX1_measure 48 = .ok (.iconst 1, 1) := by decide +kernel
theorem dX1_measure_49 : decode cX1_measure 49 = .ok (.goto 5, 3) := by decide +kernel
theorem dX1_measure_52 : decode cX1_measure 52 = .ok (.bipush 99, 2) := by decide +kernel
theorem dX1_measure_54 : decode cX1_measure 54 = .ok (.invokestatic 49, 3) := by decide +kernel
theorem dX1_measure_57 : decode cX1_measure 57 = .ok (.iinc 2 1, 3) := by decide +kernel
theorem dX1_measure_60 : decode cX1_measure 60 = .ok (.goto (-48), 3) := by decide +kernel
theorem dX1_measure_63 : decode cX1_measure 63 = .ok (.iinc 1 1, 3) := by decide +kernel
theorem dX1_measure_66 : decode cX1_measure 66 = .ok (.goto (-64), 3) := by decide +kernel
theorem dX1_measure_69 : decode cX1_measure 69 = .ok (.iconst 0, 1) := by decide +kernel
theorem dX1_measure_70 : decode cX1_measure 70 = .ok (.istore_n 1, 1) := by decide +kernel
theorem dX1_measure_71 : decode cX1_measure 71 = .ok (.iload_n 1, 1) := by decide +kernel
theorem dX1_measure_72 : decode cX1_measure 72 = .ok (.aload_n 0, 1) := by decide +kernel
theorem dX1_measure_73 : decode cX1_measure 73 = .ok (.getfield 9, 3) := by decide +kernel
theorem dX1_measure_76 : decode cX1_measure 76 = .ok (.if_icmp .ge 80, 3) := by decide +kernel
theorem dX1_measure_79 : decode cX1_measure 79 = .ok (.iconst 0, 1) := by decide +kernel
theorem dX1_measure_80 : decode cX1_measure 80 = .ok (.istore_n 2, 1) := by decide +kernel
theorem dX1_measure_81 : decode cX1_measure 81 = .ok (.iload_n 2, 1) := by decide +kernel
theorem dX1_measure_82 : decode cX1_measure 82 = .ok (.aload_n 0, 1) := by decide +kernel
theorem dX1_measure_83 : decode cX1_measure 83 = .ok (.getfield 9, 3) := by decide +kernel
theorem dX1_measure_86 : decode cX1_measure 86 = .ok (.if_icmp .ge 64, 3) := by decide +kernel
theorem dX1_measure_89 : decode cX1_measure 89 = .ok (.iconst 0, 1) := by decide +kernel
theorem dX1_measure_90 : decode cX1_measure 90 = .ok (.istore_n 3, 1) := by decide +kernel
theorem dX1_measure_91 : decode cX1_measure 91 = .ok (.iload_n 3, 1) := by decide +kernel
theorem dX1_measure_92 : decode cX1_measure 92 = .ok (.aload_n 0, 1) := by decide +kernel
theorem dX1_measure_93 : decode cX1_measure 93 = .ok (.getfield 9, 3) := by decide +kernel
theorem dX1_measure_96 : decode cX1_measure 96 = .ok (.if_icmp .ge 48, 3) := by decide +kernel
theorem dX1_measure_99 : decode cX1_measure 99 = .ok (.aload_n 0, 1) := by decide +kernel
theorem dX1_measure_100 : decode cX1_measure 100 = .ok (.iload_n 2, 1) := by decide +kernel
theorem dX1_measure_101 : decode cX1_measure 101 = .ok (.iload_n 1, 1) := by decide +kernel
theorem dX1_measure_102 : decode cX1_measure 102 = .ok (.invokevirtual 60, 3) := by decide +kernel
theorem dX1_measure_105 : decode cX1_measure 105 = .ok (.aload_n 0, 1) := by decide +kernel
theorem dX1_measure_106 : decode cX1_measure 106 = .ok (.iload_n 1, 1) := by decide +kernel
theorem dX1_measure_107 : decode cX1_measure 107 = .ok (.iload_n 3, 1) := by decide +kernel
theorem dX1_measure_108 : decode cX1_measure 108 = .ok (.invokevirtual 60, 3) := by decide +kernel
theorem dX1_measure_111 : decode cX1_measure 111 = .ok (.iadd, 1) := by decide +kernel
theorem dX1_measure_112 : decode cX1_measure 112 = .ok (.istore 4, 2) := by decide +kernel
theorem dX1_measure_114 : decode cX1_measure 114 = .ok (.aload_n 0, 1) := by decide +kernel
theorem dX1_measure_115 : decode cX1_measure 115 = .ok (.getfield 34, 3) := by decide +kernel
theorem dX1_measure_118 : decode cX1_measure 118 = .ok (.iload_n 2, 1) := by decide +kernel
theorem dX1_measure_119 : decode cX1_measure 119 = .ok (.bipush 10, 2) := by decide +kernel
theorem dX1_measure_121 : decode cX1_measure 121 = .ok (.imul, 1) := by decide +kernel
theorem dX1_measure_122 : decode cX1_measure 122 = .ok (.iload_n 3, 1) := by decide +kernel
theorem dX1_measure_123 : decode cX1_measure 123 = .ok (.iadd, 1) := by decide +kernel
theorem dX1_measure_124 : decode cX1_measure 124 = .ok (.aload_n 0, 1) := by decide +kernel
theorem dX1_measure_125 : decode cX1_measure 125 = .ok (.iload_n 2, 1) := by decide +kernel
theorem dX1_measure_126 : decode cX1_measure 126 = .ok (.iload_n 3, 1) := by decide +kernel
theorem dX1_measure_127 : decode cX1_measure 127 = .ok (.invokevirtual 60, 3) := by decide +kernel
theorem dX1_measure_130 : decode cX1_measure 130 = .ok (.iload 4, 2) := by decide +kernel
theorem dX1_measure_132 : decode cX1_measure 132 = .ok (.invokestatic 64, 3) := by decide +kernel
theorem dX1_measure_135 : decode cX1_measure 135 = .ok (.invokestatic 49, 3) := by decide +kernel
theorem dX1_measure_138 : decode cX1_measure 138 = .ok (.iinc 3 1, 3) := by decide +kernel
theorem dX1_measure_141 : decode cX1_measure 141 = .ok (.goto (-50), 3) := by decide +kernel
theorem dX1_measure_144 : decode cX1_measure 144 = .ok (.iinc 2 1, 3) := by decide +kernel
theorem dX1_measure_147 : decode cX1_measure 147 = .ok (.goto (-66), 3) := by decide +kernel
theorem dX1_measure_150 : decode cX1_measure 150 = .ok (.iinc 1 1, 3) := by decide +kernel
theorem dX1_measure_153 : decode cX1_measure 153 = .ok (.goto (-82), 3) := by decide +kernel
theorem dX1_measure_156 : decode cX1_measure 156 = .ok (.return_, 1) := by decide +kernel
theorem dX1_between_0 : decode cX1_between 0 = .ok (.aload_n 0, 1) := by decide +kernel
theorem dX1_between_1 : decode cX1_between 1 = .ok (.getfield 34, 3) := by decide +kernel
theorem dX1_between_4 : decode cX1_between 4 = .ok (.iload_n 1, 1) := by decide +kernel
theorem dX1_between_5 : decode cX1_between 5 = .ok (.bipush 10, 2) := by decide +kernel
theorem dX1_between_7 : decode cX1_between 7 = .ok (.imul, 1) := by decide +kernel
theorem dX1_between_8 : decode cX1_between 8 = .ok (.iload_n 2, 1) := by decide +kernel
theorem dX1_between_9 : decode cX1_between 9 = .ok (.iadd, 1) := by decide +kernel
theorem dX1_between_10 : decode cX1_between 10 = .ok (.invokestatic 41, 3) := by decide +kernel
theorem dX1_between_13 : decode cX1_between 13 = .ok (.ireturn, 1) := by decide +kernel
theorem dX1_nearer_0 : decode cX1_nearer 0 = .ok (.aload_n 0, 1) := by decide +kernel
theorem dX1_nearer_1 : decode cX1_nearer 1 = .ok (.iload_n 1, 1) := by decide +kernel
theorem dX1_nearer_2 : decode cX1_nearer 2 = .ok (.iload_n 2, 1) := by decide +kernel
theorem dX1_nearer_3 : decode cX1_nearer 3 = .ok (.invokevirtual 60, 3) := by decide +kernel
theorem dX1_nearer_6 : decode cX1_nearer 6 = .ok (.istore_n 3, 1) := by decide +kernel
theorem dX1_nearer_7 : decode cX1_nearer 7 = .ok (.iconst 0, 1) := by decide +kernel
theorem dX1_nearer_8 : decode cX1_nearer 8 = .ok (.istore 4, 2) := by decide +kernel
theorem dX1_nearer_10 : decode cX1_nearer 10 = .ok (.iload 4, 2) := by decide +kernel
theorem dX1_nearer_12 : decode cX1_nearer 12 = .ok (.aload_n 0, 1) := by decide +kernel
theorem dX1_nearer_13 : decode cX1_nearer 13 = .ok (.getfield 9, 3) := by decide +kernel
theorem dX1_nearer_16 : decode cX1_nearer 16 = .ok (.if_icmp .ge 39, 3) := by decide +kernel
theorem dX1_nearer_19 : decode cX1_nearer 19 = .ok (.iload_n 3, 1) := by decide +kernel
theorem dX1_nearer_20 : decode cX1_nearer 20 = .ok (.bipush 99, 2) := by decide +kernel
theorem dX1_nearer_22 : decode cX1_nearer 22 = .ok (.if_icmp .eq 33, 3) := by decide +kernel
theorem dX1_nearer_25 : decode cX1_nearer 25 = .ok (.aload_n 0, 1) := by decide +kernel
theorem dX1_nearer_26 : decode cX1_nearer 26 = .ok (.iload_n 1, 1) := by decide +kernel
theorem dX1_nearer_27 : decode cX1_nearer 27 = .ok (.iload 4, 2) := by decide +kernel
theorem dX1_nearer_29 : decode cX1_nearer 29 = .ok (.invokevirtual 57, 3) := by decide +kernel
theorem dX1_nearer_32 : decode cX1_nearer 32 = .ok (.ifCond .eq 17, 3) := by decide +kernel
theorem dX1_nearer_35 : decode cX1_nearer 35 = .ok (.aload_n 0, 1) := by decide +kernel
theorem dX1_nearer_36 : decode cX1_nearer 36 = .ok (.iload 4, 2) := by decide +kernel
theorem dX1_nearer_38 : decode cX1_nearer 38 = .ok (.iload_n 2, 1) := by decide +kernel
theorem dX1_nearer_39 : decode cX1_nearer 39 = .ok (.invokevirtual 60, 3) := by decide +kernel
theorem dX1_nearer_42 : decode cX1_nearer 42 = .ok (.iload_n 3, 1) := by decide +kernel
theorem dX1_nearer_43 : decode cX1_nearer 43 = .ok (.if_icmp .ge 6, 3) := by decide +kernel
theorem dX1_nearer_46 : decode cX1_nearer 46 = .ok (.iload 4, 2) := by decide +kernel
theorem dX1_nearer_48 : decode cX1_nearer 48 = .ok (.ireturn, 1) := by decide +kernel
theorem dX1_nearer_49 : decode cX1_nearer 49 = .ok (.iinc 4 1, 3) := by decide +kernel
theorem dX1_nearer_52 : decode cX1_nearer 52 = .ok (.goto (-42), 3) := by decide +kernel
theorem dX1_nearer_55 : decode cX1_nearer 55 = .ok (.iload_n 1, 1) := by decide +kernel
theorem dX1_nearer_56 : decode cX1_nearer 56 = .ok (.ireturn, 1) := by decide +kernel
theorem dX2_init_0 : decode cX2_init 0 = .ok (.aload_n 0, 1) := by decide +kernel
theorem dX2_init_1 : decode cX2_init 1 = .ok (.invokespecial 3, 3) := by decide +kernel
theorem dX2_init_4 : decode cX2_init 4 = .ok (.aload_n 0, 1) := by decide +kernel
theorem dX2_init_5 : decode cX2_init 5 = .ok (.iconst 0, 1) := by decide +kernel
theorem dX2_init_6 : decode cX2_init 6 = .ok (.putfield 9, 3) := by decide +kernel
theorem dX2_init_9 : decode cX2_init 9 = .ok (.aload_n 0, 1) := by decide +kernel
theorem dX2_init_10 : decode cX2_init 10 = .ok (.bipush 8, 2) := by decide +kernel
theorem dX2_init_12 : decode cX2_init 12 = .ok (.newarray .int, 2) := by decide +kernel
theorem dX2_init_14 : decode cX2_init 14 = .ok (.putfield 15, 3) := by decide +kernel
theorem dX2_init_17 : decode cX2_init 17 = .ok (.aload_n 0, 1) := by decide +kernel
theorem dX2_init_18 : decode cX2_init 18 = .ok (.bipush 8, 2) := by decide +kernel
theorem dX2_init_20 : decode cX2_init 20 = .ok (.newarray .int, 2) := by decide +kernel
theorem dX2_init_22 : decode cX2_init 22 = .ok (.putfield 19, 3) := by decide +kernel
theorem dX2_init_25 : decode cX2_init 25 = .ok (.aload_n 0, 1) := by decide +kernel
theorem dX2_init_26 : decode cX2_init 26 = .ok (.bipush 8, 2) := by decide +kernel
theorem dX2_init_28 : decode cX2_init 28 = .ok (.newarray .int, 2) := by decide +kernel
theorem dX2_init_30 : decode cX2_init 30 = .ok (.putfield 22, 3) := by decide +kernel
theorem dX2_init_33 : decode cX2_init 33 = .ok (.aload_n 0, 1) := by decide +kernel
theorem dX2_init_34 : decode cX2_init 34 = .ok (.bipush 8, 2) := by decide +kernel
theorem dX2_init_36 : decode cX2_init 36 = .ok (.newarray .int, 2) := by decide +kernel
theorem dX2_init_38 : decode cX2_init 38 = .ok (.putfield 25, 3) := by decide +kernel
theorem dX2_init_41 : decode cX2_init 41 = .ok (.aload_n 0, 1) := by decide +kernel
theorem dX2_init_42 : decode cX2_init 42 = .ok (.bipush 8, 2) := by decide +kernel
theorem dX2_init_44 : decode cX2_init 44 = .ok (.newarray .int, 2) := by decide +kernel
theorem dX2_init_46 : decode cX2_init 46 = .ok (.putfield 28, 3) := by decide +kernel
theorem dX2_init_49 : decode cX2_init 49 = .ok (.aload_n 0, 1) := by decide +kernel
theorem dX2_init_50 : decode cX2_init 50 = .ok (.bipush 96, 2) := by decide +kernel
theorem dX2_init_52 : decode cX2_init 52 = .ok (.newarray .int, 2) := by decide +kernel
theorem dX2_init_54 : decode cX2_init 54 = .ok (.putfield 31, 3) := by decide +kernel
theorem dX2_init_57 : decode cX2_init 57 = .ok (.return_, 1) := by decide +kernel
theorem dX2_hasPerson_0 : decode cX2_hasPerson 0 = .ok (.iload_n 1, 1) := by decide +kernel
theorem dX2_hasPerson_1 : decode cX2_hasPerson 1 = .ok (.ifCond .lt 15, 3) := by decide +kernel
theorem dX2_hasPerson_4 : decode cX2_hasPerson 4 = .ok (.iload_n 1, 1) := by decide +kernel
theorem dX2_hasPerson_5 : decode cX2_hasPerson 5 = .ok (.aload_n 0, 1) := by decide +kernel
theorem dX2_hasPerson_6 : decode cX2_hasPerson 6 = .ok (.getfield 9, 3) := by decide +kernel
theorem dX2_hasPerson_9 : decode cX2_hasPerson 9 = .ok (.if_icmp .ge 7, 3) := by decide +kernel
theorem dX2_hasPerson_12 : decode cX2_hasPerson 12 = .ok (.iconst 1, 1) := by decide +kernel
theorem dX2_hasPerson_13 : decode cX2_hasPerson 13 = .ok (.goto 4, 3) := by decide +kernel
theorem dX2_hasPerson_16 : decode cX2_hasPerson 16 = .ok (.iconst 0, 1) := by decide +kernel
theorem dX2_hasPerson_17 : decode cX2_hasPerson 17 = .ok (.ireturn, 1) := by decide +kernel
theorem dX2_stepOf_0 : decode cX2_stepOf 0 = .ok (.aload_n 0, 1) := by decide +kernel
theorem dX2_stepOf_1 : decode cX2_stepOf 1 = .ok (.getfield 31, 3) := by decide +kernel
theorem dX2_stepOf_4 : decode cX2_stepOf 4 = .ok (.iload_n 1, 1) := by decide +kernel
theorem dX2_stepOf_5 : decode cX2_stepOf 5 = .ok (.bipush 12, 2) := by decide +kernel
theorem dX2_stepOf_7 : decode cX2_stepOf 7 = .ok (.imul, 1) := by decide +kernel
theorem dX2_stepOf_8 : decode cX2_stepOf 8 = .ok (.iload_n 2, 1) := by decide +kernel
theorem dX2_stepOf_9 : decode cX2_stepOf 9 = .ok (.iadd, 1) := by decide +kernel
theorem dX2_stepOf_10 : decode cX2_stepOf 10 = .ok (.invokestatic 34, 3) := by decide +kernel
theorem dX2_stepOf_13 : decode cX2_stepOf 13 = .ok (.ireturn, 1) := by decide +kernel
theorem dX2_lastStep_0 : decode cX2_lastStep 0 = .ok (.aload_n 0, 1) := by decide +kernel
theorem dX2_lastStep_1 : decode cX2_lastStep 1 = .ok (.iload_n 1, 1) := by decide +kernel
theorem dX2_lastStep_2 : decode cX2_lastStep 2 = .ok (.aload_n 0, 1) := by decide +kernel
theorem dX2_lastStep_3 : decode cX2_lastStep 3 = .ok (.getfield 28, 3) := by decide +kernel
theorem dX2_lastStep_6 : decode cX2_lastStep 6 = .ok (.iload_n 1, 1) := by decide +kernel
theorem dX2_lastStep_7 : decode cX2_lastStep 7 = .ok (.invokestatic 34, 3) := by decide +kernel
theorem dX2_lastStep_10 : decode cX2_lastStep 10 = .ok (.iconst 1, 1) := by decide +kernel
theorem dX2_lastStep_11 : decode cX2_lastStep 11 = .ok (.isub, 1) := by decide +kernel
theorem dX2_lastStep_12 : decode cX2_lastStep 12 = .ok (.invokevirtual 38, 3) := by decide +kernel
theorem dX2_lastStep_15 : decode cX2_lastStep 15 = .ok (.ireturn, 1) := by decide +kernel
theorem dX2_placeIn_0 : decode cX2_placeIn 0 = .ok (.iload_n 2, 1) := by decide +kernel
theorem dX2_placeIn_1 : decode cX2_placeIn 1 = .ok (.aload_n 0, 1) := by decide +kernel
theorem dX2_placeIn_2 : decode cX2_placeIn 2 = .ok (.getfield 19, 3) := by decide +kernel
theorem dX2_placeIn_5 : decode cX2_placeIn 5 = .ok (.iload_n 1, 1) := by decide +kernel
theorem dX2_placeIn_6 : decode cX2_placeIn 6 = .ok (.invokestatic 34, 3) := by decide +kernel
theorem dX2_placeIn_9 : decode cX2_placeIn 9 = .ok (.isub, 1) := by decide +kernel
theorem dX2_placeIn_10 : decode cX2_placeIn 10 = .ok (.istore_n 3, 1) := by decide +kernel
theorem dX2_placeIn_11 : decode cX2_placeIn 11 = .ok (.iload_n 3, 1) := by decide +kernel
theorem dX2_placeIn_12 : decode cX2_placeIn 12 = .ok (.ifCond .ge 5, 3) := by decide +kernel
theorem dX2_placeIn_15 : decode cX2_placeIn 15 = .ok (.iconst (-1), 1) := by decide +kernel
theorem dX2_placeIn_16 : decode cX2_placeIn 16 = .ok (.ireturn, 1) := by decide +kernel
theorem dX2_placeIn_17 : decode cX2_placeIn 17 = .ok (.iload_n 3, 1) := by decide +kernel
theorem dX2_placeIn_18 : decode cX2_placeIn 18 = .ok (.aload_n 0, 1) := by decide +kernel
theorem dX2_placeIn_19 : decode cX2_placeIn 19 = .ok (.getfield 28, 3) := by decide +kernel
theorem dX2_placeIn_22 : decode cX2_placeIn 22 = .ok (.iload_n 1, 1) := by decide +kernel
theorem dX2_placeIn_23 : decode cX2_placeIn 23 = .ok (.invokestatic 34, 3) := by decide +kernel
theorem dX2_placeIn_26 : decode cX2_placeIn 26 = .ok (.if_icmp .ge 10, 3) := by decide +kernel
theorem dX2_placeIn_29 : decode cX2_placeIn 29 = .ok (.aload_n 0, 1) := by decide +kernel
theorem dX2_placeIn_30 : decode cX2_placeIn 30 = .ok (.iload_n 1, 1) := by decide +kernel
theorem dX2_placeIn_31 : decode cX2_placeIn 31 = .ok (.iload_n 3, 1) := by decide +kernel
theorem dX2_placeIn_32 : decode cX2_placeIn 32 = .ok (.invokevirtual 38, 3) := by decide +kernel
theorem dX2_placeIn_35 : decode cX2_placeIn 35 = .ok (.ireturn, 1) := by decide +kernel
theorem dX2_placeIn_36 : decode cX2_placeIn 36 = .ok (.aload_n 0, 1) := by decide +kernel
theorem dX2_placeIn_37 : decode cX2_placeIn 37 = .ok (.iload_n 1, 1) := by decide +kernel
theorem dX2_placeIn_38 : decode cX2_placeIn 38 = .ok (.invokevirtual 42, 3) := by decide +kernel
theorem dX2_placeIn_41 : decode cX2_placeIn 41 = .ok (.ifCond .ne 7, 3) := by decide +kernel
theorem dX2_placeIn_44 : decode cX2_placeIn 44 = .ok (.iconst (-1), 1) := by decide +kernel
theorem dX2_placeIn_45 : decode cX2_placeIn 45 = .ok (.goto 8, 3) := by decide +kernel
theorem dX2_placeIn_48 : decode cX2_placeIn 48 = .ok (.aload_n 0, 1) := by decide +kernel
theorem dX2_placeIn_49 : decode cX2_placeIn 49 = .ok (.iload_n 1, 1) := by decide +kernel
theorem dX2_placeIn_50 : decode cX2_placeIn 50 = .ok (.invokevirtual 42, 3) := by decide +kernel
theorem dX2_placeIn_53 : decode cX2_placeIn 53 = .ok (.ireturn, 1) := by decide +kernel
theorem dX2_leavesIn_0 : decode cX2_leavesIn 0 = .ok (.iload_n 2, 1) := by decide +kernel
theorem dX2_leavesIn_1 : decode cX2_leavesIn 1 = .ok (.aload_n 0, 1) := by decide +kernel
theorem dX2_leavesIn_2 : decode cX2_leavesIn 2 = .ok (.getfield 19, 3) := by decide +kernel
theorem dX2_leavesIn_5 : decode cX2_leavesIn 5 = .ok (.iload_n 1, 1) := by decide +kernel
theorem dX2_leavesIn_6 : decode cX2_leavesIn 6 = .ok (.invokestatic 34, 3) := by decide +kernel
theorem dX2_leavesIn_9 : decode cX2_leavesIn 9 = .ok (.aload_n 0, 1) := by decide +kernel
theorem dX2_leavesIn_10 : decode cX2_leavesIn 10 = .ok (.getfield 28, 3) := by decide +kernel
theorem dX2_leavesIn_13 : decode cX2_leavesIn 13 = .ok (.iload_n 1, 1) := by decide +kernel
theorem dX2_leavesIn_14 : decode cX2_leavesIn 14 = .ok (.invokestatic 34, 3) := by decide +kernel
theorem dX2_leavesIn_17 : decode cX2_leavesIn 17 = .ok (.iadd, 1) := by decide +kernel
theorem dX2_leavesIn_18 : decode cX2_leavesIn 18 = .ok (.if_icmp .ne 15, 3) := by decide +kernel
theorem dX2_leavesIn_21 : decode cX2_leavesIn 21 = .ok (.aload_n 0, 1) := by decide +kernel
theorem dX2_leavesIn_22 : decode cX2_leavesIn 22 = .ok (.iload_n 1, 1) := by decide +kernel
theorem dX2_leavesIn_23 : decode cX2_leavesIn 23 = .ok (.invokevirtual 42, 3) := by decide +kernel
theorem dX2_leavesIn_26 : decode cX2_leavesIn 26 = .ok (.ifCond .ne 7, 3) := by decide +kernel
theorem dX2_leavesIn_29 : decode cX2_leavesIn 29 = .ok (.iconst 1, 1) := by decide +kernel
theorem dX2_leavesIn_30 : decode cX2_leavesIn 30 = .ok (.goto 4, 3) := by decide +kernel
theorem dX2_leavesIn_33 : decode cX2_leavesIn 33 = .ok (.iconst 0, 1) := by decide +kernel
theorem dX2_leavesIn_34 : decode cX2_leavesIn 34 = .ok (.ireturn, 1) := by decide +kernel
theorem dX2_comesToTake_0 : decode cX2_comesToTake 0 = .ok (.aload_n 0, 1) := by decide +kernel
theorem dX2_comesToTake_1 : decode cX2_comesToTake 1 = .ok (.getfield 22, 3) := by decide +kernel
theorem dX2_comesToTake_4 : decode cX2_comesToTake 4 = .ok (.iload_n 1, 1) := by decide +kernel
theorem dX2_comesToTake_5 : decode cX2_comesToTake 5 = .ok (.invokestatic 34, 3) := by decide +kernel
theorem dX2_comesToTake_8 : decode cX2_comesToTake 8 = .ok (.ifCond .le 30, 3) := by decide +kernel
theorem dX2_comesToTake_11 : decode cX2_comesToTake 11 = .ok (.iload_n 2, 1) := by decide +kernel
theorem dX2_comesToTake_12 : decode cX2_comesToTake 12 = .ok (.aload_n 0, 1) := by decide +kernel
theorem dX2_comesToTake_13 : decode cX2_comesToTake 13 = .ok (.getfield 19, 3) := by decide +kernel
theorem dX2_comesToTake_16 : decode cX2_comesToTake 16 = .ok (.iload_n 1, 1) := by decide +kernel
theorem dX2_comesToTake_17 : decode cX2_comesToTake 17 = .ok (.invokestatic 34, 3) := by decide +kernel
theorem dX2_comesToTake_20 : decode cX2_comesToTake 20 = .ok (.aload_n 0, 1) := by decide +kernel
theorem dX2_comesToTake_21 : decode cX2_comesToTake 21 = .ok (.getfield 22, 3) := by decide +kernel
theorem dX2_comesToTake_24 : decode cX2_comesToTake 24 = .ok (.iload_n 1, 1) := by decide +kernel
theorem dX2_comesToTake_25 : decode cX2_comesToTake 25 = .ok (.invokestatic 34, 3) := by decide +kernel
theorem dX2_comesToTake_28 : decode cX2_comesToTake 28 = .ok (.iadd, 1) := by decide +kernel
theorem dX2_comesToTake_29 : decode cX2_comesToTake 29 = .ok (.iconst 1, 1) := by decide +kernel
theorem dX2_comesToTake_30 : decode cX2_comesToTake 30 = .ok (.isub, 1) := by decide +kernel
theorem dX2_comesToTake_31 : decode cX2_comesToTake 31 = .ok (.if_icmp .ne 7, 3) := by decide +kernel
theorem dX2_comesToTake_34 : decode cX2_comesToTake 34 = .ok (.iconst 1, 1) := by decide +kernel
theorem dX2_comesToTake_35 : decode cX2_comesToTake 35 = .ok (.goto 4, 3) := by decide +kernel
theorem dX2_comesToTake_38 : decode cX2_comesToTake 38 = .ok (.iconst 0, 1) := by decide +kernel
theorem dX2_comesToTake_39 : decode cX2_comesToTake 39 = .ok (.ireturn, 1) := by decide +kernel
theorem dX3_init_0 : decode cX3_init 0 = .ok (.aload_n 0, 1) := by decide +kernel
theorem dX3_init_1 : decode cX3_init 1 = .ok (.invokespecial 3, 3) := by decide +kernel
theorem dX3_init_4 : decode cX3_init 4 = .ok (.aload_n 0, 1) := by decide +kernel
theorem dX3_init_5 : decode cX3_init 5 = .ok (.sipush 700, 3) := by decide +kernel
theorem dX3_init_8 : decode cX3_init 8 = .ok (.newarray .int, 2) := by decide +kernel
theorem dX3_init_10 : decode cX3_init 10 = .ok (.putfield 9, 3) := by decide +kernel
theorem dX3_init_13 : decode cX3_init 13 = .ok (.aload_n 0, 1) := by decide +kernel
theorem dX3_init_14 : decode cX3_init 14 = .ok (.new 15, 3) := by decide +kernel
theorem dX3_init_17 : decode cX3_init 17 = .ok (.dup, 1) := by decide +kernel
theorem dX3_init_18 : decode cX3_init 18 = .ok (.invokespecial 17, 3) := by decide +kernel
theorem dX3_init_21 : decode cX3_init 21 = .ok (.putfield 18, 3) := by decide +kernel
theorem dX3_init_24 : decode cX3_init 24 = .ok (.aload_n 0, 1) := by decide +kernel
theorem dX3_init_25 : decode cX3_init 25 = .ok (.iconst 0, 1) := by decide +kernel
theorem dX3_init_26 : decode cX3_init 26 = .ok (.putfield 22, 3) := by decide +kernel
theorem dX3_init_29 : decode cX3_init 29 = .ok (.aload_n 0, 1) := by decide +kernel
theorem dX3_init_30 : decode cX3_init 30 = .ok (.iconst 0, 1) := by decide +kernel
theorem dX3_init_31 : decode cX3_init 31 = .ok (.putfield 26, 3) := by decide +kernel
theorem dX3_init_34 : decode cX3_init 34 = .ok (.aload_n 0, 1) := by decide +kernel
theorem dX3_init_35 : decode cX3_init 35 = .ok (.iconst 0, 1) := by decide +kernel
theorem dX3_init_36 : decode cX3_init 36 = .ok (.putfield 29, 3) := by decide +kernel
theorem dX3_init_39 : decode cX3_init 39 = .ok (.aload_n 0, 1) := by decide +kernel
theorem dX3_init_40 : decode cX3_init 40 = .ok (.iconst 0, 1) := by decide +kernel
theorem dX3_init_41 : decode cX3_init 41 = .ok (.putfield 32, 3) := by decide +kernel
theorem dX3_init_44 : decode cX3_init 44 = .ok (.aload_n 0, 1) := by decide +kernel
theorem dX3_init_45 : decode cX3_init 45 = .ok (.iconst 0, 1) := by decide +kernel
theorem dX3_init_46 : decode cX3_init 46 = .ok (.putfield 35, 3) := by decide +kernel
theorem dX3_init_49 : decode cX3_init 49 = .ok (.aload_n 0, 1) := by decide +kernel
theorem dX3_init_50 : decode cX3_init 50 = .ok (.iconst 0, 1) := by decide +kernel
theorem dX3_init_51 : decode cX3_init 51 = .ok (.putfield 38, 3) := by decide +kernel
theorem dX3_init_54 : decode cX3_init 54 = .ok (.aload_n 0, 1) := by decide +kernel
theorem dX3_init_55 : decode cX3_init 55 = .ok (.iconst 0, 1) := by decide +kernel
theorem dX3_init_56 : decode cX3_init 56 = .ok (.putfield 41, 3) := by decide +kernel
theorem dX3_init_59 : decode cX3_init 59 = .ok (.aload_n 0, 1) := by decide +kernel
theorem dX3_init_60 : decode cX3_init 60 = .ok (.iconst (-1), 1) := by decide +kernel
theorem dX3_init_61 : decode cX3_init 61 = .ok (.putfield 44, 3) := by decide +kernel
theorem dX3_init_64 : decode cX3_init 64 = .ok (.return_, 1) := by decide +kernel
theorem dX3_changeFor_0 : decode cX3_changeFor 0 = .ok (.aload_n 0, 1) := by decide +kernel
theorem dX3_changeFor_1 : decode cX3_changeFor 1 = .ok (.getfield 18, 3) := by decide +kernel
theorem dX3_changeFor_4 : decode cX3_changeFor 4 = .ok (.astore_n 2, 1) := by decide +kernel
theorem dX3_changeFor_5 : decode cX3_changeFor 5 = .ok (.aload_n 0, 1) := by decide +kernel
theorem dX3_changeFor_6 : decode cX3_changeFor 6 = .ok (.aload_n 1, 1) := by decide +kernel
theorem dX3_changeFor_7 : decode cX3_changeFor 7 = .ok (.putfield 18, 3) := by decide +kernel
theorem dX3_changeFor_10 : decode cX3_changeFor 10 = .ok (.aload_n 2, 1) := by decide +kernel
theorem dX3_changeFor_11 : decode cX3_changeFor 11 = .ok (.areturn, 1) := by decide +kernel
theorem dX3_read_0 : decode cX3_read 0 = .ok (.aload_n 0, 1) := by decide +kernel
theorem dX3_read_1 : decode cX3_read 1 = .ok (.getfield 18, 3) := by decide +kernel
theorem dX3_read_4 : decode cX3_read 4 = .ok (.invokevirtual 47, 3) := by decide +kernel
theorem dX3_read_7 : decode cX3_read 7 = .ok (.aload_n 0, 1) := by decide +kernel
theorem dX3_read_8 : decode cX3_read 8 = .ok (.iload_n 1, 1) := by decide +kernel
theorem dX3_read_9 : decode cX3_read 9 = .ok (.putfield 22, 3) := by decide +kernel
theorem dX3_read_12 : decode cX3_read 12 = .ok (.aload_n 0, 1) := by decide +kernel
theorem dX3_read_13 : decode cX3_read 13 = .ok (.iconst 0, 1) := by decide +kernel
theorem dX3_read_14 : decode cX3_read 14 = .ok (.putfield 32, 3) := by decide +kernel
theorem dX3_read_17 : decode cX3_read 17 = .ok (.aload_n 0, 1) := by decide +kernel
theorem dX3_read_18 : decode cX3_read 18 = .ok (.iconst 0, 1) := by decide +kernel
theorem dX3_read_19 : decode cX3_read 19 = .ok (.putfield 38, 3) := by decide +kernel
theorem dX3_read_22 : decode cX3_read 22 = .ok (.aload_n 0, 1) := by decide +kernel
theorem dX3_read_23 : decode cX3_read 23 = .ok (.iconst 0, 1) := by decide +kernel
theorem dX3_read_24 : decode cX3_read 24 = .ok (.putfield 41, 3) := by decide +kernel
theorem dX3_read_27 : decode cX3_read 27 = .ok (.aload_n 0, 1) := by decide +kernel
theorem dX3_read_28 : decode cX3_read 28 = .ok (.iconst (-1), 1) := by decide +kernel
theorem dX3_read_29 : decode cX3_read 29 = .ok (.putfield 44, 3) := by decide +kernel
theorem dX3_read_32 : decode cX3_read 32 = .ok (.aload_n 0, 1) := by decide +kernel
theorem dX3_read_33 : decode cX3_read 33 = .ok (.invokevirtual 50, 3) := by decide +kernel
theorem dX3_read_36 : decode cX3_read 36 = .ok (.iconst 0, 1) := by decide +kernel
theorem dX3_read_37 : decode cX3_read 37 = .ok (.istore_n 2, 1) := by decide +kernel
theorem dX3_read_38 : decode cX3_read 38 = .ok (.iload_n 2, 1) := by decide +kernel
theorem dX3_read_39 : decode cX3_read 39 = .ok (.iload_n 1, 1) := by decide +kernel
theorem dX3_read_40 : decode cX3_read 40 = .ok (.if_icmp .gt 27, 3) := by decide +kernel
theorem dX3_read_43 : decode cX3_read 43 = .ok (.aload_n 0, 1) := by decide +kernel
theorem dX3_read_44 : decode cX3_read 44 = .ok (.getfield 41, 3) := by decide +kernel
theorem dX3_read_47 : decode cX3_read 47 = .ok (.ifCond .ne 20, 3) := by decide +kernel
theorem dX3_read_50 : decode cX3_read 50 = .ok (.aload_n 0, 1) := by decide +kernel
theorem dX3_read_51 : decode cX3_read 51 = .ok (.getfield 26, 3) := by decide +kernel
theorem dX3_read_54 : decode cX3_read 54 = .ok (.ifCond .eq 13, 3) := by decide +kernel
theorem dX3_read_57 : decode cX3_read 57 = .ok (.aload_n 0, 1) := by decide +kernel
theorem dX3_read_58 : decode cX3_read 58 = .ok (.invokevirtual 53, 3) := by decide +kernel
theorem dX3_read_61 : decode cX3_read 61 = .ok (.iinc 2 1, 3) := by decide +kernel
theorem dX3_read_64 : decode cX3_read 64 = .ok (.goto (-26), 3) := by decide +kernel
theorem dX3_read_67 : decode cX3_read 67 = .ok (.aload_n 0, 1) := by decide +kernel
theorem dX3_read_68 : decode cX3_read 68 = .ok (.getfield 18, 3) := by decide +kernel
theorem dX3_read_71 : decode cX3_read 71 = .ok (.getfield 56, 3) := by decide +kernel
theorem dX3_read_74 : decode cX3_read 74 = .ok (.invokevirtual 60, 3) := by decide +kernel
theorem dX3_read_77 : decode cX3_read 77 = .ok (.aload_n 0, 1) := by decide +kernel
theorem dX3_read_78 : decode cX3_read 78 = .ok (.getfield 41, 3) := by decide +kernel
theorem dX3_read_81 : decode cX3_read 81 = .ok (.ireturn, 1) := by decide +kernel
theorem dX3_fail_0 : decode cX3_fail 0 = .ok (.aload_n 0, 1) := by decide +kernel
theorem dX3_fail_1 : decode cX3_fail 1 = .ok (.getfield 41, 3) := by decide +kernel
theorem dX3_fail_4 : decode cX3_fail 4 = .ok (.ifCond .ne 16, 3) := by decide +kernel
theorem dX3_fail_7 : decode cX3_fail 7 = .ok (.aload_n 0, 1) := by decide +kernel
theorem dX3_fail_8 : decode cX3_fail 8 = .ok (.iload_n 1, 1) := by decide +kernel
theorem dX3_fail_9 : decode cX3_fail 9 = .ok (.putfield 41, 3) := by decide +kernel
theorem dX3_fail_12 : decode cX3_fail 12 = .ok (.aload_n 0, 1) := by decide +kernel
theorem dX3_fail_13 : decode cX3_fail 13 = .ok (.aload_n 0, 1) := by decide +kernel
theorem dX3_fail_14 : decode cX3_fail 14 = .ok (.getfield 29, 3) := by decide +kernel
theorem dX3_fail_17 : decode cX3_fail 17 = .ok (.putfield 44, 3) := by decide +kernel
theorem dX3_fail_20 : decode cX3_fail 20 = .ok (.return_, 1) := by decide +kernel
theorem dX3_readToken_0 : decode cX3_readToken 0 = .ok (.aload_n 0, 1) := by decide +kernel
theorem dX3_readToken_1 : decode cX3_readToken 1 = .ok (.getfield 32, 3) := by decide +kernel
theorem dX3_readToken_4 : decode cX3_readToken 4 = .ok (.istore_n 1, 1) := by decide +kernel
theorem dX3_readToken_5 : decode cX3_readToken 5 = .ok (.iload_n 1, 1) := by decide +kernel
theorem dX3_readToken_6 : decode cX3_readToken 6 = .ok (.aload_n 0, 1) := by decide +kernel
theorem dX3_readToken_7 : decode cX3_readToken 7 = .ok (.getfield 22, 3) := by decide +kernel
theorem dX3_readToken_10 : decode cX3_readToken 10 = .ok (.if_icmp .ge 23, 3) := by decide +kernel
theorem dX3_readToken_13 : decode cX3_readToken 13 = .ok (.aload_n 0, 1) := by decide +kernel
theorem dX3_readToken_14 : decode cX3_readToken 14 = .ok (.getfield 9, 3) := by decide +kernel
theorem dX3_readToken_17 : decode cX3_readToken 17 = .ok (.iload_n 1, 1) := by decide +kernel
theorem dX3_readToken_18 : decode cX3_readToken 18 = .ok (.invokestatic 65, 3) := by decide +kernel
theorem dX3_readToken_21 : decode cX3_readToken 21 = .ok (.invokestatic 69, 3) := by decide +kernel
theorem dX3_readToken_24 : decode cX3_readToken 24 = .ok (.ifCond .eq 9, 3) := by decide +kernel
theorem dX3_readToken_27 : decode cX3_readToken 27 = .ok (.iinc 1 1, 3) := by decide +kernel
theorem dX3_readToken_30 : decode cX3_readToken 30 = .ok (.goto (-25), 3) := by decide +kernel
theorem dX3_readToken_33 : decode cX3_readToken 33 = .ok (.aload_n 0, 1) := by decide +kernel
theorem dX3_readToken_34 : decode cX3_readToken 34 = .ok (.iload_n 1, 1) := by decide +kernel
theorem dX3_readToken_35 : decode cX3_readToken 35 = .ok (.putfield 29, 3) := by decide +kernel
theorem dX3_readToken_38 : decode cX3_readToken 38 = .ok (.aload_n 0, 1) := by decide +kernel
theorem dX3_readToken_39 : decode cX3_readToken 39 = .ok (.iconst 0, 1) := by decide +kernel
theorem dX3_readToken_40 : decode cX3_readToken 40 = .ok (.putfield 35, 3) := by decide +kernel
theorem dX3_readToken_43 : decode cX3_readToken 43 = .ok (.aload_n 0, 1) := by decide +kernel
theorem dX3_readToken_44 : decode cX3_readToken 44 = .ok (.getfield 9, 3) := by decide +kernel
theorem dX3_readToken_47 : decode cX3_readToken 47 = .ok (.iload_n 1, 1) := by decide +kernel
theorem dX3_readToken_48 : decode cX3_readToken 48 = .ok (.invokestatic 65, 3) := by decide +kernel
theorem dX3_readToken_51 : decode cX3_readToken 51 = .ok (.istore_n 2, 1) := by decide +kernel
theorem dX3_readToken_52 : decode cX3_readToken 52 = .ok (.iload_n 1, 1) := by decide +kernel
theorem dX3_readToken_53 : decode cX3_readToken 53 = .ok (.aload_n 0, 1) := by decide +kernel
theorem dX3_readToken_54 : decode cX3_readToken 54 = .ok (.getfield 22, 3) := by decide +kernel
theorem dX3_readToken_57 : decode cX3_readToken 57 = .ok (.if_icmp .lt 11, 3) := by decide +kernel
theorem dX3_readToken_60 : decode cX3_readToken 60 = .ok (.aload_n 0, 1) := by decide +kernel
theorem dX3_readToken_61 : decode cX3_readToken 61 = .ok (.iconst 0, 1) := by decide +kernel
theorem dX3_readToken_62 : decode cX3_readToken 62 = .ok (.putfield 26, 3) := by decide +kernel
theorem dX3_readToken_65 : decode cX3_readToken 65 = .ok (.goto 135, 3) := by decide +kernel
theorem dX3_readToken_68 : decode cX3_readToken 68 = .ok (.iload_n 2, 1) := by decide +kernel
theorem dX3_readToken_69 : decode cX3_readToken 69 = .ok (.invokestatic 73, 3) := by decide +kernel
theorem dX3_readToken_72 : decode cX3_readToken 72 = .ok (.ifCond .eq 36, 3) := by decide +kernel
theorem dX3_readToken_75 : decode cX3_readToken 75 = .ok (.aload_n 0, 1) := by decide +kernel
theorem dX3_readToken_76 : decode cX3_readToken 76 = .ok (.iconst 1, 1) := by decide +kernel
theorem dX3_readToken_77 : decode cX3_readToken 77 = .ok (.putfield 26, 3) := by decide +kernel
theorem dX3_readToken_80 : decode cX3_readToken 80 = .ok (.iload_n 1, 1) := by decide +kernel
theorem dX3_readToken_81 : decode cX3_readToken 81 = .ok (.aload_n 0, 1) := by decide +kernel
theorem dX3_readToken_82 : decode cX3_readToken 82 = .ok (.getfield 22, 3) := by decide +kernel
theorem dX3_readToken_85 : decode cX3_readToken 85 = .ok (.if_icmp .ge 115, 3) := by decide +kernel
theorem dX3_readToken_88 : decode cX3_readToken 88 = .ok (.aload_n 0, 1) := by decide +kernel
theorem dX3_readToken_89 : decode cX3_readToken 89 = .ok (.getfield 9, 3) := by decide +kernel
theorem dX3_readToken_92 : decode cX3_readToken 92 = .ok (.iload_n 1, 1) := by decide +kernel
theorem dX3_readToken_93 : decode cX3_readToken 93 = .ok (.invokestatic 65, 3) := by decide +kernel
theorem dX3_readToken_96 : decode cX3_readToken 96 = .ok (.invokestatic 73, 3) := by decide +kernel
theorem dX3_readToken_99 : decode cX3_readToken 99 = .ok (.ifCond .eq 101, 3) := by decide +kernel
theorem dX3_readToken_102 : decode cX3_readToken 102 = .ok (.iinc 1 1, 3) := by decide +kernel
theorem dX3_readToken_105 : decode cX3_readToken 105 = .ok (.goto (-25), 3) := by decide +kernel
theorem dX3_readToken_108 : decode cX3_readToken 108 = .ok (.iload_n 2, 1) := by decide +kernel
theorem dX3_readToken_109 : decode cX3_readToken 109 = .ok (.invokestatic 76, 3) := by decide +kernel
theorem dX3_readToken_112 : decode cX3_readToken 112 = .ok (.ifCond .eq 75, 3) := by decide +kernel
theorem dX3_readToken_115 : decode cX3_readToken 115 = .ok (.aload_n 0, 1) := by decide +kernel
theorem dX3_readToken_116 : decode cX3_readToken 116 = .ok (.iconst 2, 1) := by decide +kernel
theorem dX3_readToken_117 : decode cX3_readToken 117 = .ok (.putfield 26, 3) := by decide +kernel
theorem dX3_readToken_120 : decode cX3_readToken 120 = .ok (.iload_n 1, 1) := by decide +kernel
theorem dX3_readToken_121 : decode cX3_readToken 121 = .ok (.aload_n 0, 1) := by decide +kernel
theorem dX3_readToken_122 : decode cX3_readToken 122 = .ok (.getfield 22, 3) := by decide +kernel
theorem dX3_readToken_125 : decode cX3_readToken 125 = .ok (.if_icmp .ge 75, 3) := by decide +kernel
theorem dX3_readToken_128 : decode cX3_readToken 128 = .ok (.aload_n 0, 1) := by decide +kernel
theorem dX3_readToken_129 : decode cX3_readToken 129 = .ok (.getfield 9, 3) := by decide +kernel
theorem dX3_readToken_132 : decode cX3_readToken 132 = .ok (.iload_n 1, 1) := by decide +kernel
theorem dX3_readToken_133 : decode cX3_readToken 133 = .ok (.invokestatic 65, 3) := by decide +kernel
theorem dX3_readToken_136 : decode cX3_readToken 136 = .ok (.invokestatic 76, 3) := by decide +kernel
theorem dX3_readToken_139 : decode cX3_readToken 139 = .ok (.ifCond .eq 61, 3) := by decide +kernel
theorem dX3_readToken_142 : decode cX3_readToken 142 = .ok (.aload_n 0, 1) := by decide +kernel
theorem dX3_readToken_143 : decode cX3_readToken 143 = .ok (.iload_n 1, 1) := by decide +kernel
theorem dX3_readToken_144 : decode cX3_readToken 144 = .ok (.aload_n 0, 1) := by decide +kernel
theorem dX3_readToken_145 : decode cX3_readToken 145 = .ok (.getfield 29, 3) := by decide +kernel
theorem dX3_readToken_148 : decode cX3_readToken 148 = .ok (.isub, 1) := by decide +kernel
theorem dX3_readToken_149 : decode cX3_readToken 149 = .ok (.iconst 4, 1) := by decide +kernel
theorem dX3_readToken_150 : decode cX3_readToken 150 = .ok (.if_icmp .ge 25, 3) := by decide +kernel
theorem dX3_readToken_153 : decode cX3_readToken 153 = .ok (.aload_n 0, 1) := by decide +kernel
theorem dX3_readToken_154 : decode cX3_readToken 154 = .ok (.getfield 35, 3) := by decide +kernel
theorem dX3_readToken_157 : decode cX3_readToken 157 = .ok (.bipush 10, 2) := by decide +kernel
theorem dX3_readToken_159 : decode cX3_readToken 159 = .ok (.imul, 1) := by decide +kernel
theorem dX3_readToken_160 : decode cX3_readToken 160 = .ok (.aload_n 0, 1) := by decide +kernel
theorem dX3_readToken_161 : decode cX3_readToken 161 = .ok (.getfield 9, 3) := by decide +kernel
theorem dX3_readToken_164 : decode cX3_readToken 164 = .ok (.iload_n 1, 1) := by decide +kernel
theorem dX3_readToken_165 : decode cX3_readToken 165 = .ok (.invokestatic 65, 3) := by decide +kernel
theorem dX3_readToken_168 : decode cX3_readToken 168 = .ok (.iadd, 1) := by decide +kernel
theorem dX3_readToken_169 : decode cX3_readToken 169 = .ok (.bipush 48, 2) := by decide +kernel
theorem dX3_readToken_171 : decode cX3_readToken 171 = .ok (.isub, 1) := by decide +kernel
theorem dX3_readToken_172 : decode cX3_readToken 172 = .ok (.goto 6, 3) := by decide +kernel
theorem dX3_readToken_175 : decode cX3_readToken 175 = .ok (.sipush 10000, 3) := by decide +kernel
theorem dX3_readToken_178 : decode cX3_readToken 178 = .ok (.putfield 35, 3) := by decide +kernel
theorem dX3_readToken_181 : decode cX3_readToken 181 = .ok (.iinc 1 1, 3) := by decide +kernel
theorem dX3_readToken_184 : decode cX3_readToken 184 = .ok (.goto (-64), 3) := by decide +kernel
theorem dX3_readToken_187 : decode cX3_readToken 187 = .ok (.aload_n 0, 1) := by decide +kernel
theorem dX3_readToken_188 : decode cX3_readToken 188 = .ok (.iconst 3, 1) := by decide +kernel
theorem dX3_readToken_189 : decode cX3_readToken 189 = .ok (.putfield 26, 3) := by decide +kernel
theorem dX3_readToken_192 : decode cX3_readToken 192 = .ok (.aload_n 0, 1) := by decide +kernel
theorem dX3_readToken_193 : decode cX3_readToken 193 = .ok (.iload_n 2, 1) := by decide +kernel
theorem dX3_readToken_194 : decode cX3_readToken 194 = .ok (.putfield 35, 3) := by decide +kernel
theorem dX3_readToken_197 : decode cX3_readToken 197 = .ok (.iinc 1 1, 3) := by decide +kernel
theorem dX3_readToken_200 : decode cX3_readToken 200 = .ok (.aload_n 0, 1) := by decide +kernel
theorem dX3_readToken_201 : decode cX3_readToken 201 = .ok (.iload_n 1, 1) := by decide +kernel
theorem dX3_readToken_202 : decode cX3_readToken 202 = .ok (.putfield 32, 3) := by decide +kernel
theorem dX3_readToken_205 : decode cX3_readToken 205 = .ok (.return_, 1) := by decide +kernel
theorem dX3_isBlank_0 : decode cX3_isBlank 0 = .ok (.iload_n 0, 1) := by decide +kernel
theorem dX3_isBlank_1 : decode cX3_isBlank 1 = .ok (.bipush 32, 2) := by decide +kernel
theorem dX3_isBlank_3 : decode cX3_isBlank 3 = .ok (.if_icmp .eq 9, 3) := by decide +kernel
theorem dX3_isBlank_6 : decode cX3_isBlank 6 = .ok (.iload_n 0, 1) := by decide +kernel
theorem dX3_isBlank_7 : decode cX3_isBlank 7 = .ok (.bipush 10, 2) := by decide +kernel
theorem dX3_isBlank_9 : decode cX3_isBlank 9 = .ok (.if_icmp .ne 7, 3) := by decide +kernel
theorem dX3_isBlank_12 : decode cX3_isBlank 12 = .ok (.iconst 1, 1) := by decide +kernel
theorem dX3_isBlank_13 : decode cX3_isBlank 13 = .ok (.goto 4, 3) := by decide +kernel
theorem dX3_isBlank_16 : decode cX3_isBlank 16 = .ok (.iconst 0, 1) := by decide +kernel
theorem dX3_isBlank_17 : decode cX3_isBlank 17 = .ok (.ireturn, 1) := by decide +kernel
theorem dX3_isLetter_0 : decode cX3_isLetter 0 = .ok (.iload_n 0, 1) := by decide +kernel
theorem dX3_isLetter_1 : decode cX3_isLetter 1 = .ok (.bipush 97, 2) := by decide +kernel
theorem dX3_isLetter_3 : decode cX3_isLetter 3 = .ok (.if_icmp .lt 13, 3) := by decide +kernel
theorem dX3_isLetter_6 : decode cX3_isLetter 6 = .ok (.iload_n 0, 1) := by decide +kernel
theorem dX3_isLetter_7 : decode cX3_isLetter 7 = .ok (.bipush 122, 2) := by decide +kernel
theorem dX3_isLetter_9 : decode cX3_isLetter 9 = .ok (.if_icmp .gt 7, 3) := by decide +kernel
theorem dX3_isLetter_12 : decode cX3_isLetter 12 = .ok (.iconst 1, 1) := by decide +kernel
theorem dX3_isLetter_13 : decode cX3_isLetter 13 = .ok (.goto 4, 3) := by decide +kernel
theorem dX3_isLetter_16 : decode cX3_isLetter 16 = .ok (.iconst 0, 1) := by decide +kernel
theorem dX3_isLetter_17 : decode cX3_isLetter 17 = .ok (.ireturn, 1) := by decide +kernel
theorem dX3_isDigit_0 : decode cX3_isDigit 0 = .ok (.iload_n 0, 1) := by decide +kernel
theorem dX3_isDigit_1 : decode cX3_isDigit 1 = .ok (.bipush 48, 2) := by decide +kernel
theorem dX3_isDigit_3 : decode cX3_isDigit 3 = .ok (.if_icmp .lt 13, 3) := by decide +kernel
theorem dX3_isDigit_6 : decode cX3_isDigit 6 = .ok (.iload_n 0, 1) := by decide +kernel
theorem dX3_isDigit_7 : decode cX3_isDigit 7 = .ok (.bipush 57, 2) := by decide +kernel
theorem dX3_isDigit_9 : decode cX3_isDigit 9 = .ok (.if_icmp .gt 7, 3) := by decide +kernel
theorem dX3_isDigit_12 : decode cX3_isDigit 12 = .ok (.iconst 1, 1) := by decide +kernel
theorem dX3_isDigit_13 : decode cX3_isDigit 13 = .ok (.goto 4, 3) := by decide +kernel
theorem dX3_isDigit_16 : decode cX3_isDigit 16 = .ok (.iconst 0, 1) := by decide +kernel
theorem dX3_isDigit_17 : decode cX3_isDigit 17 = .ok (.ireturn, 1) := by decide +kernel
theorem dX3_isSign_0 : decode cX3_isSign 0 = .ok (.aload_n 0, 1) := by decide +kernel
theorem dX3_isSign_1 : decode cX3_isSign 1 = .ok (.getfield 26, 3) := by decide +kernel
theorem dX3_isSign_4 : decode cX3_isSign 4 = .ok (.iconst 3, 1) := by decide +kernel
theorem dX3_isSign_5 : decode cX3_isSign 5 = .ok (.if_icmp .ne 15, 3) := by decide +kernel
theorem dX3_isSign_8 : decode cX3_isSign 8 = .ok (.aload_n 0, 1) := by decide +kernel
theorem dX3_isSign_9 : decode cX3_isSign 9 = .ok (.getfield 35, 3) := by decide +kernel
theorem dX3_isSign_12 : decode cX3_isSign 12 = .ok (.iload_n 1, 1) := by decide +kernel
theorem dX3_isSign_13 : decode cX3_isSign 13 = .ok (.if_icmp .ne 7, 3) := by decide +kernel
theorem dX3_isSign_16 : decode cX3_isSign 16 = .ok (.iconst 1, 1) := by decide +kernel
theorem dX3_isSign_17 : decode cX3_isSign 17 = .ok (.goto 4, 3) := by decide +kernel
theorem dX3_isSign_20 : decode cX3_isSign 20 = .ok (.iconst 0, 1) := by decide +kernel
theorem dX3_isSign_21 : decode cX3_isSign 21 = .ok (.ireturn, 1) := by decide +kernel
theorem dX3_isWord_0 : decode cX3_isWord 0 = .ok (.aload_n 0, 1) := by decide +kernel
theorem dX3_isWord_1 : decode cX3_isWord 1 = .ok (.getfield 26, 3) := by decide +kernel
theorem dX3_isWord_4 : decode cX3_isWord 4 = .ok (.iconst 1, 1) := by decide +kernel
theorem dX3_isWord_5 : decode cX3_isWord 5 = .ok (.if_icmp .ne 19, 3) := by decide +kernel
theorem dX3_isWord_8 : decode cX3_isWord 8 = .ok (.aload_n 0, 1) := by decide +kernel
theorem dX3_isWord_9 : decode cX3_isWord 9 = .ok (.getfield 32, 3) := by decide +kernel
theorem dX3_isWord_12 : decode cX3_isWord 12 = .ok (.aload_n 0, 1) := by decide +kernel
theorem dX3_isWord_13 : decode cX3_isWord 13 = .ok (.getfield 29, 3) := by decide +kernel
theorem dX3_isWord_16 : decode cX3_isWord 16 = .ok (.isub, 1) := by decide +kernel
theorem dX3_isWord_17 : decode cX3_isWord 17 = .ok (.aload_n 1, 1) := by decide +kernel
theorem dX3_isWord_18 : decode cX3_isWord 18 = .ok (.invokevirtual 79, 3) := by decide +kernel
theorem dX3_isWord_21 : decode cX3_isWord 21 = .ok (.if_icmp .eq 5, 3) := by decide +kernel
theorem dX3_isWord_24 : decode cX3_isWord 24 = .ok (.iconst 0, 1) := by decide +kernel
theorem dX3_isWord_25 : decode cX3_isWord 25 = .ok (.ireturn, 1) := by decide +kernel
theorem dX3_isWord_26 : decode cX3_isWord 26 = .ok (.iconst 0, 1) := by decide +kernel
theorem dX3_isWord_27 : decode cX3_isWord 27 = .ok (.istore_n 2, 1) := by decide +kernel
theorem dX3_isWord_28 : decode cX3_isWord 28 = .ok (.iload_n 2, 1) := by decide +kernel
theorem dX3_isWord_29 : decode cX3_isWord 29 = .ok (.aload_n 1, 1) := by decide +kernel
theorem dX3_isWord_30 : decode cX3_isWord 30 = .ok (.invokevirtual 79, 3) := by decide +kernel
theorem dX3_isWord_33 : decode cX3_isWord 33 = .ok (.if_icmp .ge 32, 3) := by decide +kernel
theorem dX3_isWord_36 : decode cX3_isWord 36 = .ok (.aload_n 0, 1) := by decide +kernel
theorem dX3_isWord_37 : decode cX3_isWord 37 = .ok (.getfield 9, 3) := by decide +kernel
theorem dX3_isWord_40 : decode cX3_isWord 40 = .ok (.aload_n 0, 1) := by decide +kernel
theorem dX3_isWord_41 : decode cX3_isWord 41 = .ok (.getfield 29, 3) := by decide +kernel
theorem dX3_isWord_44 : decode cX3_isWord 44 = .ok (.iload_n 2, 1) := by decide +kernel
theorem dX3_isWord_45 : decode cX3_isWord 45 = .ok (.iadd, 1) := by decide +kernel
theorem dX3_isWord_46 : decode cX3_isWord 46 = .ok (.invokestatic 65, 3) := by decide +kernel
theorem dX3_isWord_49 : decode cX3_isWord 49 = .ok (.aload_n 1, 1) := by decide +kernel
theorem dX3_isWord_50 : decode cX3_isWord 50 = .ok (.iload_n 2, 1) := by decide +kernel
theorem dX3_isWord_51 : decode cX3_isWord 51 = .ok (.invokevirtual 84, 3) := by decide +kernel
theorem dX3_isWord_54 : decode cX3_isWord 54 = .ok (.if_icmp .eq 5, 3) := by decide +kernel
theorem dX3_isWord_57 : decode cX3_isWord 57 = .ok (.iconst 0, 1) := by decide +kernel
theorem dX3_isWord_58 : decode cX3_isWord 58 = .ok (.ireturn, 1) := by decide +kernel
theorem dX3_isWord_59 : decode cX3_isWord 59 = .ok (.iinc 2 1, 3) := by decide +kernel
theorem dX3_isWord_62 : decode cX3_isWord 62 = .ok (.goto (-34), 3) := by decide +kernel
theorem dX3_isWord_65 : decode cX3_isWord 65 = .ok (.iconst 1, 1) := by decide +kernel
theorem dX3_isWord_66 : decode cX3_isWord 66 = .ok (.ireturn, 1) := by decide +kernel
theorem dX3_readLine_0 : decode cX3_readLine 0 = .ok (.aload_n 0, 1) := by decide +kernel
theorem dX3_readLine_1 : decode cX3_readLine 1 = .ok (.invokevirtual 88, 3) := by decide +kernel
theorem dX3_readLine_4 : decode cX3_readLine 4 = .ok (.istore_n 1, 1) := by decide +kernel
theorem dX3_readLine_5 : decode cX3_readLine 5 = .ok (.iload_n 1, 1) := by decide +kernel
theorem dX3_readLine_6 : decode cX3_readLine 6 = .ok (.iconst (-1), 1) := by decide +kernel
theorem dX3_readLine_7 : decode cX3_readLine 7 = .ok (.if_icmp .eq 11, 3) := by decide +kernel
theorem dX3_readLine_10 : decode cX3_readLine 10 = .ok (.aload_n 0, 1) := by decide +kernel
theorem dX3_readLine_11 : decode cX3_readLine 11 = .ok (.iload_n 1, 1) := by decide +kernel
theorem dX3_readLine_12 : decode cX3_readLine 12 = .ok (.invokevirtual 91, 3) := by decide +kernel
theorem dX3_readLine_15 : decode cX3_readLine 15 = .ok (.goto 153, 3) := by decide +kernel
theorem dX3_readLine_18 : decode cX3_readLine 18 = .ok (.aload_n 0, 1) := by decide +kernel
theorem dX3_readLine_19 : decode cX3_readLine 19 = .ok (.ldc 95, 2) := by decide +kernel
theorem dX3_readLine_21 : decode cX3_readLine 21 = .ok (.invokevirtual 97, 3) := by decide +kernel
theorem dX3_readLine_24 : decode cX3_readLine 24 = .ok (.ifCond .eq 10, 3) := by decide +kernel
theorem dX3_readLine_27 : decode cX3_readLine 27 = .ok (.aload_n 0, 1) := by decide +kernel
theorem dX3_readLine_28 : decode cX3_readLine 28 = .ok (.invokevirtual 101, 3) := by decide +kernel
theorem dX3_readLine_31 : decode cX3_readLine 31 = .ok (.goto 137, 3) := by decide +kernel
theorem dX3_readLine_34 : decode cX3_readLine 34 = .ok (.aload_n 0, 1) := by decide +kernel
theorem dX3_readLine_35 : decode cX3_readLine 35 = .ok (.ldc 104, 2) := by decide +kernel
theorem dX3_readLine_37 : decode cX3_readLine 37 = .ok (.invokevirtual 97, 3) := by decide +kernel
theorem dX3_readLine_40 : decode cX3_readLine 40 = .ok (.ifCond .eq 10, 3) := by decide +kernel
theorem dX3_readLine_43 : decode cX3_readLine 43 = .ok (.aload_n 0, 1) := by decide +kernel
theorem dX3_readLine_44 : decode cX3_readLine 44 = .ok (.invokevirtual 106, 3) := by decide +kernel
theorem dX3_readLine_47 : decode cX3_readLine 47 = .ok (.goto 121, 3) := by decide +kernel
theorem dX3_readLine_50 : decode cX3_readLine 50 = .ok (.aload_n 0, 1) := by decide +kernel
theorem dX3_readLine_51 : decode cX3_readLine 51 = .ok (.ldc 109, 2) := by decide +kernel
theorem dX3_readLine_53 : decode cX3_readLine 53 = .ok (.invokevirtual 97, 3) := by decide +kernel
theorem dX3_readLine_56 : decode cX3_readLine 56 = .ok (.ifCond .eq 10, 3) := by decide +kernel
theorem dX3_readLine_59 : decode cX3_readLine 59 = .ok (.aload_n 0, 1) := by decide +kernel
theorem dX3_readLine_60 : decode cX3_readLine 60 = .ok (.invokevirtual 111, 3) := by decide +kernel
theorem dX3_readLine_63 : decode cX3_readLine 63 = .ok (.goto 105, 3) := by decide +kernel
theorem dX3_readLine_66 : decode cX3_readLine 66 = .ok (.aload_n 0, 1) := by decide +kernel
theorem dX3_readLine_67 : decode cX3_readLine 67 = .ok (.ldc 114, 2) := by decide +kernel
theorem dX3_readLine_69 : decode cX3_readLine 69 = .ok (.invokevirtual 97, 3) := by decide +kernel
theorem dX3_readLine_72 : decode cX3_readLine 72 = .ok (.ifCond .eq 10, 3) := by decide +kernel
theorem dX3_readLine_75 : decode cX3_readLine 75 = .ok (.aload_n 0, 1) := by decide +kernel
theorem dX3_readLine_76 : decode cX3_readLine 76 = .ok (.invokevirtual 116, 3) := by decide +kernel
theorem dX3_readLine_79 : decode cX3_readLine 79 = .ok (.goto 89, 3) := by decide +kernel
theorem dX3_readLine_82 : decode cX3_readLine 82 = .ok (.aload_n 0, 1) := by decide +kernel
theorem dX3_readLine_83 : decode cX3_readLine 83 = .ok (.ldc 119, 2) := by decide +kernel
theorem dX3_readLine_85 : decode cX3_readLine 85 = .ok (.invokevirtual 97, 3) := by decide +kernel
theorem dX3_readLine_88 : decode cX3_readLine 88 = .ok (.ifCond .eq 21, 3) := by decide +kernel
theorem dX3_readLine_91 : decode cX3_readLine 91 = .ok (.aload_n 0, 1) := by decide +kernel
theorem dX3_readLine_92 : decode cX3_readLine 92 = .ok (.getfield 18, 3) := by decide +kernel
theorem dX3_readLine_95 : decode cX3_readLine 95 = .ok (.aload_n 0, 1) := by decide +kernel
theorem dX3_readLine_96 : decode cX3_readLine 96 = .ok (.iconst 1, 1) := by decide +kernel
theorem dX3_readLine_97 : decode cX3_readLine 97 = .ok (.iconst 1, 1) := by decide +kernel
theorem dX3_readLine_98 : decode cX3_readLine 98 = .ok (.bipush 9, 2) := by decide +kernel
theorem dX3_readLine_100 : decode cX3_readLine 100 = .ok (.invokevirtual 121, 3) := by decide +kernel
theorem dX3_readLine_103 : decode cX3_readLine 103 = .ok (.putfield 125, 3) := by decide +kernel
theorem dX3_readLine_106 : decode cX3_readLine 106 = .ok (.goto 62, 3) := by decide +kernel
theorem dX3_readLine_109 : decode cX3_readLine 109 = .ok (.aload_n 0, 1) := by decide +kernel
theorem dX3_readLine_110 : decode cX3_readLine 110 = .ok (.ldc 127, 2) := by decide +kernel
theorem dX3_readLine_112 : decode cX3_readLine 112 = .ok (.invokevirtual 97, 3) := by decide +kernel
theorem dX3_readLine_115 : decode cX3_readLine 115 = .ok (.ifCond .eq 22, 3) := by decide +kernel
theorem dX3_readLine_118 : decode cX3_readLine 118 = .ok (.aload_n 0, 1) := by decide +kernel
theorem dX3_readLine_119 : decode cX3_readLine 119 = .ok (.getfield 18, 3) := by decide +kernel
theorem dX3_readLine_122 : decode cX3_readLine 122 = .ok (.aload_n 0, 1) := by decide +kernel
theorem dX3_readLine_123 : decode cX3_readLine 123 = .ok (.iconst 2, 1) := by decide +kernel
theorem dX3_readLine_124 : decode cX3_readLine 124 = .ok (.iconst 0, 1) := by decide +kernel
theorem dX3_readLine_125 : decode cX3_readLine 125 = .ok (.sipush 999, 3) := by decide +kernel
theorem dX3_readLine_128 : decode cX3_readLine 128 = .ok (.invokevirtual 121, 3) := by decide +kernel
theorem dX3_readLine_131 : decode cX3_readLine 131 = .ok (.putfield 129, 3) := by decide +kernel
theorem dX3_readLine_134 : decode cX3_readLine 134 = .ok (.goto 34, 3) := by decide +kernel
theorem dX3_readLine_137 : decode cX3_readLine 137 = .ok (.aload_n 0, 1) := by decide +kernel
theorem dX3_readLine_138 : decode cX3_readLine 138 = .ok (.ldc 132, 2) := by decide +kernel
theorem dX3_readLine_140 : decode cX3_readLine 140 = .ok (.invokevirtual 97, 3) := by decide +kernel
theorem dX3_readLine_143 : decode cX3_readLine 143 = .ok (.ifCond .eq 20, 3) := by decide +kernel
theorem dX3_readLine_146 : decode cX3_readLine 146 = .ok (.aload_n 0, 1) := by decide +kernel
theorem dX3_readLine_147 : decode cX3_readLine 147 = .ok (.getfield 18, 3) := by decide +kernel
theorem dX3_readLine_150 : decode cX3_readLine 150 = .ok (.aload_n 0, 1) := by decide +kernel
theorem dX3_readLine_151 : decode cX3_readLine 151 = .ok (.iconst 4, 1) := by decide +kernel
theorem dX3_readLine_152 : decode cX3_readLine 152 = .ok (.iconst 0, 1) := by decide +kernel
theorem dX3_readLine_153 : decode cX3_readLine 153 = .ok (.iconst 2, 1) := by decide +kernel
theorem dX3_readLine_154 : decode cX3_readLine 154 = .ok (.invokevirtual 121, 3) := by decide +kernel
theorem dX3_readLine_157 : decode cX3_readLine 157 = .ok (.putfield 134, 3) := by decide +kernel
theorem dX3_readLine_160 : decode cX3_readLine 160 = .ok (.goto 8, 3) := by decide +kernel
theorem dX3_readLine_163 : decode cX3_readLine 163 = .ok (.aload_n 0, 1) := by decide +kernel
theorem dX3_readLine_164 : decode cX3_readLine 164 = .ok (.iconst 1, 1) := by decide +kernel
theorem dX3_readLine_165 : decode cX3_readLine 165 = .ok (.invokevirtual 136, 3) := by decide +kernel
theorem dX3_readLine_168 : decode cX3_readLine 168 = .ok (.aload_n 0, 1) := by decide +kernel
theorem dX3_readLine_169 : decode cX3_readLine 169 = .ok (.bipush 59, 2) := by decide +kernel
theorem dX3_readLine_171 : decode cX3_readLine 171 = .ok (.invokevirtual 139, 3) := by decide +kernel
theorem dX3_readLine_174 : decode cX3_readLine 174 = .ok (.return_, 1) := by decide +kernel
theorem dX3_sortTold_0 : decode cX3_sortTold 0 = .ok (.aload_n 0, 1) := by decide +kernel
theorem dX3_sortTold_1 : decode cX3_sortTold 1 = .ok (.ldc 142, 2) := by decide +kernel
theorem dX3_sortTold_3 : decode cX3_sortTold 3 = .ok (.invokevirtual 97, 3) := by decide +kernel
theorem dX3_sortTold_6 : decode cX3_sortTold 6 = .ok (.ifCond .eq 5, 3) := by decide +kernel
theorem dX3_sortTold_9 : decode cX3_sortTold 9 = .ok (.iconst 0, 1) := by decide +kernel
theorem dX3_sortTold_10 : decode cX3_sortTold 10 = .ok (.ireturn, 1) := by decide +kernel
theorem dX3_sortTold_11 : decode cX3_sortTold 11 = .ok (.aload_n 0, 1) := by decide +kernel
theorem dX3_sortTold_12 : decode cX3_sortTold 12 = .ok (.ldc 144, 2) := by decide +kernel
theorem dX3_sortTold_14 : decode cX3_sortTold 14 = .ok (.invokevirtual 97, 3) := by decide +kernel
theorem dX3_sortTold_17 : decode cX3_sortTold 17 = .ok (.ifCond .eq 5, 3) := by decide +kernel
theorem dX3_sortTold_20 : decode cX3_sortTold 20 = .ok (.iconst 1, 1) := by decide +kernel
theorem dX3_sortTold_21 : decode cX3_sortTold 21 = .ok (.ireturn, 1) := by decide +kernel
theorem dX3_sortTold_22 : decode cX3_sortTold 22 = .ok (.aload_n 0, 1) := by decide +kernel
theorem dX3_sortTold_23 : decode cX3_sortTold 23 = .ok (.ldc 146, 2) := by decide +kernel
theorem dX3_sortTold_25 : decode cX3_sortTold 25 = .ok (.invokevirtual 97, 3) := by decide +kernel
theorem dX3_sortTold_28 : decode cX3_sortTold 28 = .ok (.ifCond .eq 5, 3) := by decide +kernel
theorem dX3_sortTold_31 : decode cX3_sortTold 31 = .ok (.iconst 2, 1) := by decide +kernel
theorem dX3_sortTold_32 : decode cX3_sortTold 32 = .ok (.ireturn, 1) := by decide +kernel
theorem dX3_sortTold_33 : decode cX3_sortTold 33 = .ok (.aload_n 0, 1) := by decide +kernel
theorem dX3_sortTold_34 : decode cX3_sortTold 34 = .ok (.ldc 148, 2) := by decide +kernel
theorem dX3_sortTold_36 : decode cX3_sortTold 36 = .ok (.invokevirtual 97, 3) := by decide +kernel
theorem dX3_sortTold_39 : decode cX3_sortTold 39 = .ok (.ifCond .eq 7, 3) := by decide +kernel
theorem dX3_sortTold_42 : decode cX3_sortTold 42 = .ok (.iconst 3, 1) := by decide +kernel
theorem dX3_sortTold_43 : decode cX3_sortTold 43 = .ok (.goto 4, 3) := by decide +kernel
theorem dX3_sortTold_46 : decode cX3_sortTold 46 = .ok (.iconst (-1), 1) := by decide +kernel
theorem dX3_sortTold_47 : decode cX3_sortTold 47 = .ok (.ireturn, 1) := by decide +kernel
theorem dX3_readSign_0 : decode cX3_readSign 0 = .ok (.aload_n 0, 1) := by decide +kernel
theorem dX3_readSign_1 : decode cX3_readSign 1 = .ok (.iload_n 1, 1) := by decide +kernel
theorem dX3_readSign_2 : decode cX3_readSign 2 = .ok (.invokevirtual 150, 3) := by decide +kernel
theorem dX3_readSign_5 : decode cX3_readSign 5 = .ok (.ifCond .eq 10, 3) := by decide +kernel
theorem dX3_readSign_8 : decode cX3_readSign 8 = .ok (.aload_n 0, 1) := by decide +kernel
theorem dX3_readSign_9 : decode cX3_readSign 9 = .ok (.invokevirtual 50, 3) := by decide +kernel
theorem dX3_readSign_12 : decode cX3_readSign 12 = .ok (.goto 8, 3) := by decide +kernel
theorem dX3_readSign_15 : decode cX3_readSign 15 = .ok (.aload_n 0, 1) := by decide +kernel
theorem dX3_readSign_16 : decode cX3_readSign 16 = .ok (.iconst 1, 1) := by decide +kernel
theorem dX3_readSign_17 : decode cX3_readSign 17 = .ok (.invokevirtual 136, 3) := by decide +kernel
theorem dX3_readSign_20 : decode cX3_readSign 20 = .ok (.return_, 1) := by decide +kernel
theorem dX3_readFirst_0 : decode cX3_readFirst 0 = .ok (.iload_n 1, 1) := by decide +kernel
theorem dX3_readFirst_1 : decode cX3_readFirst 1 = .ok (.iload_n 2, 1) := by decide +kernel
theorem dX3_readFirst_2 : decode cX3_readFirst 2 = .ok (.if_icmp .lt 11, 3) := by decide +kernel
theorem dX3_readFirst_5 : decode cX3_readFirst 5 = .ok (.aload_n 0, 1) := by decide +kernel
theorem dX3_readFirst_6 : decode cX3_readFirst 6 = .ok (.iconst 2, 1) := by decide +kernel
theorem dX3_readFirst_7 : decode cX3_readFirst 7 = .ok (.invokevirtual 136, 3) := by decide +kernel
theorem dX3_readFirst_10 : decode cX3_readFirst 10 = .ok (.goto 7, 3) := by decide +kernel
theorem dX3_readFirst_13 : decode cX3_readFirst 13 = .ok (.aload_n 0, 1) := by decide +kernel
theorem dX3_readFirst_14 : decode cX3_readFirst 14 = .ok (.invokevirtual 50, 3) := by decide +kernel
theorem dX3_readFirst_17 : decode cX3_readFirst 17 = .ok (.return_, 1) := by decide +kernel
theorem dX3_readNumber_0 : decode cX3_readNumber 0 = .ok (.aload_n 0, 1) := by decide +kernel
theorem dX3_readNumber_1 : decode cX3_readNumber 1 = .ok (.getfield 35, 3) := by decide +kernel
theorem dX3_readNumber_4 : decode cX3_readNumber 4 = .ok (.istore_n 3, 1) := by decide +kernel
theorem dX3_readNumber_5 : decode cX3_readNumber 5 = .ok (.aload_n 0, 1) := by decide +kernel
theorem dX3_readNumber_6 : decode cX3_readNumber 6 = .ok (.getfield 26, 3) := by decide +kernel
theorem dX3_readNumber_9 : decode cX3_readNumber 9 = .ok (.iconst 2, 1) := by decide +kernel
theorem dX3_readNumber_10 : decode cX3_readNumber 10 = .ok (.if_icmp .eq 11, 3) := by decide +kernel
theorem dX3_readNumber_13 : decode cX3_readNumber 13 = .ok (.aload_n 0, 1) := by decide +kernel
theorem dX3_readNumber_14 : decode cX3_readNumber 14 = .ok (.iconst 1, 1) := by decide +kernel
theorem dX3_readNumber_15 : decode cX3_readNumber 15 = .ok (.invokevirtual 136, 3) := by decide +kernel
theorem dX3_readNumber_18 : decode cX3_readNumber 18 = .ok (.goto 25, 3) := by decide +kernel
theorem dX3_readNumber_21 : decode cX3_readNumber 21 = .ok (.iload_n 3, 1) := by decide +kernel
theorem dX3_readNumber_22 : decode cX3_readNumber 22 = .ok (.iload_n 1, 1) := by decide +kernel
theorem dX3_readNumber_23 : decode cX3_readNumber 23 = .ok (.if_icmp .lt 8, 3) := by decide +kernel
theorem dX3_readNumber_26 : decode cX3_readNumber 26 = .ok (.iload_n 3, 1) := by decide +kernel
theorem dX3_readNumber_27 : decode cX3_readNumber 27 = .ok (.iload_n 2, 1) := by decide +kernel
theorem dX3_readNumber_28 : decode cX3_readNumber 28 = .ok (.if_icmp .le 11, 3) := by decide +kernel
theorem dX3_readNumber_31 : decode cX3_readNumber 31 = .ok (.aload_n 0, 1) := by decide +kernel
theorem dX3_readNumber_32 : decode cX3_readNumber 32 = .ok (.iconst 2, 1) := by decide +kernel
theorem dX3_readNumber_33 : decode cX3_readNumber 33 = .ok (.invokevirtual 136, 3) := by decide +kernel
theorem dX3_readNumber_36 : decode cX3_readNumber 36 = .ok (.goto 7, 3) := by decide +kernel
theorem dX3_readNumber_39 : decode cX3_readNumber 39 = .ok (.aload_n 0, 1) := by decide +kernel
theorem dX3_readNumber_40 : decode cX3_readNumber 40 = .ok (.invokevirtual 50, 3) := by decide +kernel
theorem dX3_readNumber_43 : decode cX3_readNumber 43 = .ok (.iload_n 3, 1) := by decide +kernel
theorem dX3_readNumber_44 : decode cX3_readNumber 44 = .ok (.ireturn, 1) := by decide +kernel
theorem dX3_aisleHere_0 : decode cX3_aisleHere 0 = .ok (.aload_n 0, 1) := by decide +kernel
theorem dX3_aisleHere_1 : decode cX3_aisleHere 1 = .ok (.getfield 26, 3) := by decide +kernel
theorem dX3_aisleHere_4 : decode cX3_aisleHere 4 = .ok (.iconst 2, 1) := by decide +kernel
theorem dX3_aisleHere_5 : decode cX3_aisleHere 5 = .ok (.if_icmp .eq 11, 3) := by decide +kernel
theorem dX3_aisleHere_8 : decode cX3_aisleHere 8 = .ok (.aload_n 0, 1) := by decide +kernel
theorem dX3_aisleHere_9 : decode cX3_aisleHere 9 = .ok (.iconst 1, 1) := by decide +kernel
theorem dX3_aisleHere_10 : decode cX3_aisleHere 10 = .ok (.invokevirtual 136, 3) := by decide +kernel
theorem dX3_aisleHere_13 : decode cX3_aisleHere 13 = .ok (.goto 43, 3) := by decide +kernel
theorem dX3_aisleHere_16 : decode cX3_aisleHere 16 = .ok (.aload_n 0, 1) := by decide +kernel
theorem dX3_aisleHere_17 : decode cX3_aisleHere 17 = .ok (.getfield 35, 3) := by decide +kernel
theorem dX3_aisleHere_20 : decode cX3_aisleHere 20 = .ok (.sipush 9999, 3) := by decide +kernel
theorem dX3_aisleHere_23 : decode cX3_aisleHere 23 = .ok (.if_icmp .le 11, 3) := by decide +kernel
theorem dX3_aisleHere_26 : decode cX3_aisleHere 26 = .ok (.aload_n 0, 1) := by decide +kernel
theorem dX3_aisleHere_27 : decode cX3_aisleHere 27 = .ok (.iconst 2, 1) := by decide +kernel
theorem dX3_aisleHere_28 : decode cX3_aisleHere 28 = .ok (.invokevirtual 136, 3) := by decide +kernel
theorem dX3_aisleHere_31 : decode cX3_aisleHere 31 = .ok (.goto 25, 3) := by decide +kernel
theorem dX3_aisleHere_34 : decode cX3_aisleHere 34 = .ok (.aload_n 0, 1) := by decide +kernel
theorem dX3_aisleHere_35 : decode cX3_aisleHere 35 = .ok (.getfield 18, 3) := by decide +kernel
theorem dX3_aisleHere_38 : decode cX3_aisleHere 38 = .ok (.getfield 56, 3) := by decide +kernel
theorem dX3_aisleHere_41 : decode cX3_aisleHere 41 = .ok (.aload_n 0, 1) := by decide +kernel
theorem dX3_aisleHere_42 : decode cX3_aisleHere 42 = .ok (.getfield 35, 3) := by decide +kernel
theorem dX3_aisleHere_45 : decode cX3_aisleHere 45 = .ok (.invokevirtual 153, 3) := by decide +kernel
theorem dX3_aisleHere_48 : decode cX3_aisleHere 48 = .ok (.ifCond .ne 8, 3) := by decide +kernel
theorem dX3_aisleHere_51 : decode cX3_aisleHere 51 = .ok (.aload_n 0, 1) := by decide +kernel
theorem dX3_aisleHere_52 : decode cX3_aisleHere 52 = .ok (.iconst 3, 1) := by decide +kernel
theorem dX3_aisleHere_53 : decode cX3_aisleHere 53 = .ok (.invokevirtual 136, 3) := by decide +kernel
theorem dX3_aisleHere_56 : decode cX3_aisleHere 56 = .ok (.aload_n 0, 1) := by decide +kernel
theorem dX3_aisleHere_57 : decode cX3_aisleHere 57 = .ok (.getfield 35, 3) := by decide +kernel
theorem dX3_aisleHere_60 : decode cX3_aisleHere 60 = .ok (.ireturn, 1) := by decide +kernel
theorem dX3_readAisle_0 : decode cX3_readAisle 0 = .ok (.aload_n 0, 1) := by decide +kernel
theorem dX3_readAisle_1 : decode cX3_readAisle 1 = .ok (.aload_n 0, 1) := by decide +kernel
theorem dX3_readAisle_2 : decode cX3_readAisle 2 = .ok (.getfield 18, 3) := by decide +kernel
theorem dX3_readAisle_5 : decode cX3_readAisle 5 = .ok (.getfield 56, 3) := by decide +kernel
theorem dX3_readAisle_8 : decode cX3_readAisle 8 = .ok (.getfield 156, 3) := by decide +kernel
theorem dX3_readAisle_11 : decode cX3_readAisle 11 = .ok (.bipush 10, 2) := by decide +kernel
theorem dX3_readAisle_13 : decode cX3_readAisle 13 = .ok (.invokevirtual 159, 3) := by decide +kernel
theorem dX3_readAisle_16 : decode cX3_readAisle 16 = .ok (.aload_n 0, 1) := by decide +kernel
theorem dX3_readAisle_17 : decode cX3_readAisle 17 = .ok (.iconst 0, 1) := by decide +kernel
theorem dX3_readAisle_18 : decode cX3_readAisle 18 = .ok (.sipush 999, 3) := by decide +kernel
theorem dX3_readAisle_21 : decode cX3_readAisle 21 = .ok (.invokevirtual 163, 3) := by decide +kernel
theorem dX3_readAisle_24 : decode cX3_readAisle 24 = .ok (.istore_n 1, 1) := by decide +kernel
theorem dX3_readAisle_25 : decode cX3_readAisle 25 = .ok (.aload_n 0, 1) := by decide +kernel
theorem dX3_readAisle_26 : decode cX3_readAisle 26 = .ok (.iconst 0, 1) := by decide +kernel
theorem dX3_readAisle_27 : decode cX3_readAisle 27 = .ok (.bipush 99, 2) := by decide +kernel
theorem dX3_readAisle_29 : decode cX3_readAisle 29 = .ok (.invokevirtual 163, 3) := by decide +kernel
theorem dX3_readAisle_32 : decode cX3_readAisle 32 = .ok (.istore_n 2, 1) := by decide +kernel
theorem dX3_readAisle_33 : decode cX3_readAisle 33 = .ok (.aload_n 0, 1) := by decide +kernel
theorem dX3_readAisle_34 : decode cX3_readAisle 34 = .ok (.getfield 41, 3) := by decide +kernel
theorem dX3_readAisle_37 : decode cX3_readAisle 37 = .ok (.ifCond .ne 15, 3) := by decide +kernel
theorem dX3_readAisle_40 : decode cX3_readAisle 40 = .ok (.aload_n 0, 1) := by decide +kernel
theorem dX3_readAisle_41 : decode cX3_readAisle 41 = .ok (.getfield 18, 3) := by decide +kernel
theorem dX3_readAisle_44 : decode cX3_readAisle 44 = .ok (.getfield 56, 3) := by decide +kernel
theorem dX3_readAisle_47 : decode cX3_readAisle 47 = .ok (.iload_n 1, 1) := by decide +kernel
theorem dX3_readAisle_48 : decode cX3_readAisle 48 = .ok (.iload_n 2, 1) := by decide +kernel
theorem dX3_readAisle_49 : decode cX3_readAisle 49 = .ok (.invokevirtual 167, 3) := by decide +kernel
theorem dX3_readAisle_52 : decode cX3_readAisle 52 = .ok (.return_, 1) := by decide +kernel
theorem dX3_readWay_0 : decode cX3_readWay 0 = .ok (.aload_n 0, 1) := by decide +kernel
theorem dX3_readWay_1 : decode cX3_readWay 1 = .ok (.aload_n 0, 1) := by decide +kernel
theorem dX3_readWay_2 : decode cX3_readWay 2 = .ok (.getfield 18, 3) := by decide +kernel
theorem dX3_readWay_5 : decode cX3_readWay 5 = .ok (.getfield 56, 3) := by decide +kernel
theorem dX3_readWay_8 : decode cX3_readWay 8 = .ok (.getfield 170, 3) := by decide +kernel
theorem dX3_readWay_11 : decode cX3_readWay 11 = .ok (.bipush 16, 2) := by decide +kernel
theorem dX3_readWay_13 : decode cX3_readWay 13 = .ok (.invokevirtual 159, 3) := by decide +kernel
theorem dX3_readWay_16 : decode cX3_readWay 16 = .ok (.aload_n 0, 1) := by decide +kernel
theorem dX3_readWay_17 : decode cX3_readWay 17 = .ok (.invokevirtual 173, 3) := by decide +kernel
theorem dX3_readWay_20 : decode cX3_readWay 20 = .ok (.istore_n 1, 1) := by decide +kernel
theorem dX3_readWay_21 : decode cX3_readWay 21 = .ok (.aload_n 0, 1) := by decide +kernel
theorem dX3_readWay_22 : decode cX3_readWay 22 = .ok (.invokevirtual 50, 3) := by decide +kernel
theorem dX3_readWay_25 : decode cX3_readWay 25 = .ok (.aload_n 0, 1) := by decide +kernel
theorem dX3_readWay_26 : decode cX3_readWay 26 = .ok (.invokevirtual 173, 3) := by decide +kernel
theorem dX3_readWay_29 : decode cX3_readWay 29 = .ok (.istore_n 2, 1) := by decide +kernel
theorem dX3_readWay_30 : decode cX3_readWay 30 = .ok (.iload_n 1, 1) := by decide +kernel
theorem dX3_readWay_31 : decode cX3_readWay 31 = .ok (.iload_n 2, 1) := by decide +kernel
theorem dX3_readWay_32 : decode cX3_readWay 32 = .ok (.if_icmp .eq 18, 3) := by decide +kernel
theorem dX3_readWay_35 : decode cX3_readWay 35 = .ok (.aload_n 0, 1) := by decide +kernel
theorem dX3_readWay_36 : decode cX3_readWay 36 = .ok (.getfield 18, 3) := by decide +kernel
theorem dX3_readWay_39 : decode cX3_readWay 39 = .ok (.getfield 56, 3) := by decide +kernel
theorem dX3_readWay_42 : decode cX3_readWay 42 = .ok (.iload_n 1, 1) := by decide +kernel
theorem dX3_readWay_43 : decode cX3_readWay 43 = .ok (.iload_n 2, 1) := by decide +kernel
theorem dX3_readWay_44 : decode cX3_readWay 44 = .ok (.invokevirtual 176, 3) := by decide +kernel
theorem dX3_readWay_47 : decode cX3_readWay 47 = .ok (.ifCond .eq 8, 3) := by decide +kernel
theorem dX3_readWay_50 : decode cX3_readWay 50 = .ok (.aload_n 0, 1) := by decide +kernel
theorem dX3_readWay_51 : decode cX3_readWay 51 = .ok (.iconst 4, 1) := by decide +kernel
theorem dX3_readWay_52 : decode cX3_readWay 52 = .ok (.invokevirtual 136, 3) := by decide +kernel
theorem dX3_readWay_55 : decode cX3_readWay 55 = .ok (.aload_n 0, 1) := by decide +kernel
theorem dX3_readWay_56 : decode cX3_readWay 56 = .ok (.getfield 41, 3) := by decide +kernel
theorem dX3_readWay_59 : decode cX3_readWay 59 = .ok (.ifCond .ne 19, 3) := by decide +kernel
theorem dX3_readWay_62 : decode cX3_readWay 62 = .ok (.aload_n 0, 1) := by decide +kernel
theorem dX3_readWay_63 : decode cX3_readWay 63 = .ok (.getfield 18, 3) := by decide +kernel
theorem dX3_readWay_66 : decode cX3_readWay 66 = .ok (.getfield 56, 3) := by decide +kernel
theorem dX3_readWay_69 : decode cX3_readWay 69 = .ok (.iload_n 1, 1) := by decide +kernel
theorem dX3_readWay_70 : decode cX3_readWay 70 = .ok (.iload_n 2, 1) := by decide +kernel
theorem dX3_readWay_71 : decode cX3_readWay 71 = .ok (.invokevirtual 180, 3) := by decide +kernel
theorem dX3_readWay_74 : decode cX3_readWay 74 = .ok (.aload_n 0, 1) := by decide +kernel
theorem dX3_readWay_75 : decode cX3_readWay 75 = .ok (.invokevirtual 50, 3) := by decide +kernel
theorem dX3_readWay_78 : decode cX3_readWay 78 = .ok (.return_, 1) := by decide +kernel
theorem dX3_readMirror_0 : decode cX3_readMirror 0 = .ok (.aload_n 0, 1) := by decide +kernel
theorem dX3_readMirror_1 : decode cX3_readMirror 1 = .ok (.aload_n 0, 1) := by decide +kernel
theorem dX3_readMirror_2 : decode cX3_readMirror 2 = .ok (.getfield 18, 3) := by decide +kernel
theorem dX3_readMirror_5 : decode cX3_readMirror 5 = .ok (.getfield 56, 3) := by decide +kernel
theorem dX3_readMirror_8 : decode cX3_readMirror 8 = .ok (.getfield 183, 3) := by decide +kernel
theorem dX3_readMirror_11 : decode cX3_readMirror 11 = .ok (.bipush 6, 2) := by decide +kernel
theorem dX3_readMirror_13 : decode cX3_readMirror 13 = .ok (.invokevirtual 159, 3) := by decide +kernel
theorem dX3_readMirror_16 : decode cX3_readMirror 16 = .ok (.aload_n 0, 1) := by decide +kernel
theorem dX3_readMirror_17 : decode cX3_readMirror 17 = .ok (.invokevirtual 173, 3) := by decide +kernel
theorem dX3_readMirror_20 : decode cX3_readMirror 20 = .ok (.istore_n 1, 1) := by decide +kernel
theorem dX3_readMirror_21 : decode cX3_readMirror 21 = .ok (.aload_n 0, 1) := by decide +kernel
theorem dX3_readMirror_22 : decode cX3_readMirror 22 = .ok (.invokevirtual 50, 3) := by decide +kernel
theorem dX3_readMirror_25 : decode cX3_readMirror 25 = .ok (.aload_n 0, 1) := by decide +kernel
theorem dX3_readMirror_26 : decode cX3_readMirror 26 = .ok (.invokevirtual 173, 3) := by decide +kernel
theorem dX3_readMirror_29 : decode cX3_readMirror 29 = .ok (.istore_n 2, 1) := by decide +kernel
theorem dX3_readMirror_30 : decode cX3_readMirror 30 = .ok (.iload_n 1, 1) := by decide +kernel
theorem dX3_readMirror_31 : decode cX3_readMirror 31 = .ok (.iload_n 2, 1) := by decide +kernel
theorem dX3_readMirror_32 : decode cX3_readMirror 32 = .ok (.if_icmp .eq 24, 3) := by decide +kernel
theorem dX3_readMirror_35 : decode cX3_readMirror 35 = .ok (.aload_n 0, 1) := by decide +kernel
theorem dX3_readMirror_36 : decode cX3_readMirror 36 = .ok (.getfield 18, 3) := by decide +kernel
theorem dX3_readMirror_39 : decode cX3_readMirror 39 = .ok (.getfield 56, 3) := by decide +kernel
theorem dX3_readMirror_42 : decode cX3_readMirror 42 = .ok (.getfield 186, 3) := by decide +kernel
theorem dX3_readMirror_45 : decode cX3_readMirror 45 = .ok (.iload_n 1, 1) := by decide +kernel
theorem dX3_readMirror_46 : decode cX3_readMirror 46 = .ok (.invokestatic 65, 3) := by decide +kernel
theorem dX3_readMirror_49 : decode cX3_readMirror 49 = .ok (.iload_n 2, 1) := by decide +kernel
theorem dX3_readMirror_50 : decode cX3_readMirror 50 = .ok (.invokestatic 189, 3) := by decide +kernel
theorem dX3_readMirror_53 : decode cX3_readMirror 53 = .ok (.ifCond .eq 8, 3) := by decide +kernel
theorem dX3_readMirror_56 : decode cX3_readMirror 56 = .ok (.aload_n 0, 1) := by decide +kernel
theorem dX3_readMirror_57 : decode cX3_readMirror 57 = .ok (.iconst 4, 1) := by decide +kernel
theorem dX3_readMirror_58 : decode cX3_readMirror 58 = .ok (.invokevirtual 136, 3) := by decide +kernel
theorem dX3_readMirror_61 : decode cX3_readMirror 61 = .ok (.aload_n 0, 1) := by decide +kernel
theorem dX3_readMirror_62 : decode cX3_readMirror 62 = .ok (.getfield 41, 3) := by decide +kernel
theorem dX3_readMirror_65 : decode cX3_readMirror 65 = .ok (.ifCond .ne 19, 3) := by decide +kernel
theorem dX3_readMirror_68 : decode cX3_readMirror 68 = .ok (.aload_n 0, 1) := by decide +kernel
theorem dX3_readMirror_69 : decode cX3_readMirror 69 = .ok (.getfield 18, 3) := by decide +kernel
theorem dX3_readMirror_72 : decode cX3_readMirror 72 = .ok (.getfield 56, 3) := by decide +kernel
theorem dX3_readMirror_75 : decode cX3_readMirror 75 = .ok (.iload_n 1, 1) := by decide +kernel
theorem dX3_readMirror_76 : decode cX3_readMirror 76 = .ok (.iload_n 2, 1) := by decide +kernel
theorem dX3_readMirror_77 : decode cX3_readMirror 77 = .ok (.invokevirtual 192, 3) := by decide +kernel
theorem dX3_readMirror_80 : decode cX3_readMirror 80 = .ok (.aload_n 0, 1) := by decide +kernel
theorem dX3_readMirror_81 : decode cX3_readMirror 81 = .ok (.invokevirtual 50, 3) := by decide +kernel
theorem dX3_readMirror_84 : decode cX3_readMirror 84 = .ok (.return_, 1) := by decide +kernel
theorem dX3_readSetting_0 : decode cX3_readSetting 0 = .ok (.aload_n 0, 1) := by decide +kernel
theorem dX3_readSetting_1 : decode cX3_readSetting 1 = .ok (.getfield 38, 3) := by decide +kernel
theorem dX3_readSetting_4 : decode cX3_readSetting 4 = .ok (.iload_n 1, 1) := by decide +kernel
theorem dX3_readSetting_5 : decode cX3_readSetting 5 = .ok (.iand, 1) := by decide +kernel
theorem dX3_readSetting_6 : decode cX3_readSetting 6 = .ok (.ifCond .eq 8, 3) := by decide +kernel
theorem dX3_readSetting_9 : decode cX3_readSetting 9 = .ok (.aload_n 0, 1) := by decide +kernel
theorem dX3_readSetting_10 : decode cX3_readSetting 10 = .ok (.iconst 5, 1) := by decide +kernel
theorem dX3_readSetting_11 : decode cX3_readSetting 11 = .ok (.invokevirtual 136, 3) := by decide +kernel
theorem dX3_readSetting_14 : decode cX3_readSetting 14 = .ok (.aload_n 0, 1) := by decide +kernel
theorem dX3_readSetting_15 : decode cX3_readSetting 15 = .ok (.dup, 1) := by decide +kernel
theorem dX3_readSetting_16 : decode cX3_readSetting 16 = .ok (.getfield 38, 3) := by decide +kernel
theorem dX3_readSetting_19 : decode cX3_readSetting 19 = .ok (.iload_n 1, 1) := by decide +kernel
theorem dX3_readSetting_20 : decode cX3_readSetting 20 = .ok (.ior, 1) := by decide +kernel
theorem dX3_readSetting_21 : decode cX3_readSetting 21 = .ok (.putfield 38, 3) := by decide +kernel
theorem dX3_readSetting_24 : decode cX3_readSetting 24 = .ok (.aload_n 0, 1) := by decide +kernel
theorem dX3_readSetting_25 : decode cX3_readSetting 25 = .ok (.invokevirtual 50, 3) := by decide +kernel
theorem dX3_readSetting_28 : decode cX3_readSetting 28 = .ok (.aload_n 0, 1) := by decide +kernel
theorem dX3_readSetting_29 : decode cX3_readSetting 29 = .ok (.iload_n 2, 1) := by decide +kernel
theorem dX3_readSetting_30 : decode cX3_readSetting 30 = .ok (.iload_n 3, 1) := by decide +kernel
theorem dX3_readSetting_31 : decode cX3_readSetting 31 = .ok (.invokevirtual 163, 3) := by decide +kernel
theorem dX3_readSetting_34 : decode cX3_readSetting 34 = .ok (.ireturn, 1) := by decide +kernel
theorem dX3_readPerson_0 : decode cX3_readPerson 0 = .ok (.aload_n 0, 1) := by decide +kernel
theorem dX3_readPerson_1 : decode cX3_readPerson 1 = .ok (.getfield 18, 3) := by decide +kernel
theorem dX3_readPerson_4 : decode cX3_readPerson 4 = .ok (.getfield 195, 3) := by decide +kernel
theorem dX3_readPerson_7 : decode cX3_readPerson 7 = .ok (.astore_n 2, 1) := by decide +kernel
theorem dX3_readPerson_8 : decode cX3_readPerson 8 = .ok (.aload_n 2, 1) := by decide +kernel
theorem dX3_readPerson_9 : decode cX3_readPerson 9 = .ok (.getfield 199, 3) := by decide +kernel
theorem dX3_readPerson_12 : decode cX3_readPerson 12 = .ok (.istore_n 3, 1) := by decide +kernel
theorem dX3_readPerson_13 : decode cX3_readPerson 13 = .ok (.aload_n 0, 1) := by decide +kernel
theorem dX3_readPerson_14 : decode cX3_readPerson 14 = .ok (.iload_n 3, 1) := by decide +kernel
theorem dX3_readPerson_15 : decode cX3_readPerson 15 = .ok (.bipush 8, 2) := by decide +kernel
theorem dX3_readPerson_17 : decode cX3_readPerson 17 = .ok (.invokevirtual 159, 3) := by decide +kernel
theorem dX3_readPerson_20 : decode cX3_readPerson 20 = .ok (.aload_n 2, 1) := by decide +kernel
theorem dX3_readPerson_21 : decode cX3_readPerson 21 = .ok (.getfield 204, 3) := by decide +kernel
theorem dX3_readPerson_24 : decode cX3_readPerson 24 = .ok (.iload_n 3, 1) := by decide +kernel
theorem dX3_readPerson_25 : decode cX3_readPerson 25 = .ok (.iload_n 1, 1) := by decide +kernel
theorem dX3_readPerson_26 : decode cX3_readPerson 26 = .ok (.invokestatic 207, 3) := by decide +kernel
theorem dX3_readPerson_29 : decode cX3_readPerson 29 = .ok (.aload_n 2, 1) := by decide +kernel
theorem dX3_readPerson_30 : decode cX3_readPerson 30 = .ok (.getfield 211, 3) := by decide +kernel
theorem dX3_readPerson_33 : decode cX3_readPerson 33 = .ok (.iload_n 3, 1) := by decide +kernel
theorem dX3_readPerson_34 : decode cX3_readPerson 34 = .ok (.aload_n 0, 1) := by decide +kernel
theorem dX3_readPerson_35 : decode cX3_readPerson 35 = .ok (.iconst 1, 1) := by decide +kernel
theorem dX3_readPerson_36 : decode cX3_readPerson 36 = .ok (.bipush 60, 2) := by decide +kernel
theorem dX3_readPerson_38 : decode cX3_readPerson 38 = .ok (.invokevirtual 163, 3) := by decide +kernel
theorem dX3_readPerson_41 : decode cX3_readPerson 41 = .ok (.invokestatic 207, 3) := by decide +kernel
theorem dX3_readPerson_44 : decode cX3_readPerson 44 = .ok (.aload_n 0, 1) := by decide +kernel
theorem dX3_readPerson_45 : decode cX3_readPerson 45 = .ok (.iconst 0, 1) := by decide +kernel
theorem dX3_readPerson_46 : decode cX3_readPerson 46 = .ok (.bipush 12, 2) := by decide +kernel
theorem dX3_readPerson_48 : decode cX3_readPerson 48 = .ok (.invokevirtual 163, 3) := by decide +kernel
theorem dX3_readPerson_51 : decode cX3_readPerson 51 = .ok (.istore 4, 2) := by decide +kernel
theorem dX3_readPerson_53 : decode cX3_readPerson 53 = .ok (.aload_n 2, 1) := by decide +kernel
theorem dX3_readPerson_54 : decode cX3_readPerson 54 = .ok (.getfield 214, 3) := by decide +kernel
theorem dX3_readPerson_57 : decode cX3_readPerson 57 = .ok (.iload_n 3, 1) := by decide +kernel
theorem dX3_readPerson_58 : decode cX3_readPerson 58 = .ok (.iload 4, 2) := by decide +kernel
theorem dX3_readPerson_60 : decode cX3_readPerson 60 = .ok (.invokestatic 207, 3) := by decide +kernel
theorem dX3_readPerson_63 : decode cX3_readPerson 63 = .ok (.aload_n 2, 1) := by decide +kernel
theorem dX3_readPerson_64 : decode cX3_readPerson 64 = .ok (.getfield 217, 3) := by decide +kernel
theorem dX3_readPerson_67 : decode cX3_readPerson 67 = .ok (.iload_n 3, 1) := by decide +kernel
theorem dX3_readPerson_68 : decode cX3_readPerson 68 = .ok (.aload_n 0, 1) := by decide +kernel
theorem dX3_readPerson_69 : decode cX3_readPerson 69 = .ok (.iconst 0, 1) := by decide +kernel
theorem dX3_readPerson_70 : decode cX3_readPerson 70 = .ok (.bipush 9, 2) := by decide +kernel
theorem dX3_readPerson_72 : decode cX3_readPerson 72 = .ok (.invokevirtual 163, 3) := by decide +kernel
theorem dX3_readPerson_75 : decode cX3_readPerson 75 = .ok (.invokestatic 207, 3) := by decide +kernel
theorem dX3_readPerson_78 : decode cX3_readPerson 78 = .ok (.aload_n 0, 1) := by decide +kernel
theorem dX3_readPerson_79 : decode cX3_readPerson 79 = .ok (.iload_n 3, 1) := by decide +kernel
theorem dX3_readPerson_80 : decode cX3_readPerson 80 = .ok (.invokevirtual 220, 3) := by decide +kernel
theorem dX3_readPerson_83 : decode cX3_readPerson 83 = .ok (.istore 5, 2) := by decide +kernel
theorem dX3_readPerson_85 : decode cX3_readPerson 85 = .ok (.aload_n 2, 1) := by decide +kernel
theorem dX3_readPerson_86 : decode cX3_readPerson 86 = .ok (.getfield 224, 3) := by decide +kernel
theorem dX3_readPerson_89 : decode cX3_readPerson 89 = .ok (.iload_n 3, 1) := by decide +kernel
theorem dX3_readPerson_90 : decode cX3_readPerson 90 = .ok (.iload 5, 2) := by decide +kernel
theorem dX3_readPerson_92 : decode cX3_readPerson 92 = .ok (.invokestatic 207, 3) := by decide +kernel
theorem dX3_readPerson_95 : decode cX3_readPerson 95 = .ok (.iload 5, 2) := by decide +kernel
theorem dX3_readPerson_97 : decode cX3_readPerson 97 = .ok (.ifCond .ne 11, 3) := by decide +kernel
theorem dX3_readPerson_100 : decode cX3_readPerson 100 = .ok (.aload_n 0, 1) := by decide +kernel
theorem dX3_readPerson_101 : decode cX3_readPerson 101 = .ok (.iconst 1, 1) := by decide +kernel
theorem dX3_readPerson_102 : decode cX3_readPerson 102 = .ok (.invokevirtual 136, 3) := by decide +kernel
theorem dX3_readPerson_105 : decode cX3_readPerson 105 = .ok (.goto 16, 3) := by decide +kernel
theorem dX3_readPerson_108 : decode cX3_readPerson 108 = .ok (.iload 4, 2) := by decide +kernel
theorem dX3_readPerson_110 : decode cX3_readPerson 110 = .ok (.iload 5, 2) := by decide +kernel
theorem dX3_readPerson_112 : decode cX3_readPerson 112 = .ok (.if_icmp .le 9, 3) := by decide +kernel
theorem dX3_readPerson_115 : decode cX3_readPerson 115 = .ok (.aload_n 0, 1) := by decide +kernel
theorem dX3_readPerson_116 : decode cX3_readPerson 116 = .ok (.bipush 6, 2) := by decide +kernel
theorem dX3_readPerson_118 : decode cX3_readPerson 118 = .ok (.invokevirtual 136, 3) := by decide +kernel
theorem dX3_readPerson_121 : decode cX3_readPerson 121 = .ok (.aload_n 0, 1) := by decide +kernel
theorem dX3_readPerson_122 : decode cX3_readPerson 122 = .ok (.getfield 41, 3) := by decide +kernel
theorem dX3_readPerson_125 : decode cX3_readPerson 125 = .ok (.ifCond .ne 13, 3) := by decide +kernel
theorem dX3_readPerson_128 : decode cX3_readPerson 128 = .ok (.aload_n 2, 1) := by decide +kernel
theorem dX3_readPerson_129 : decode cX3_readPerson 129 = .ok (.dup, 1) := by decide +kernel
theorem dX3_readPerson_130 : decode cX3_readPerson 130 = .ok (.getfield 199, 3) := by decide +kernel
theorem dX3_readPerson_133 : decode cX3_readPerson 133 = .ok (.iconst 1, 1) := by decide +kernel
theorem dX3_readPerson_134 : decode cX3_readPerson 134 = .ok (.iadd, 1) := by decide +kernel
theorem dX3_readPerson_135 : decode cX3_readPerson 135 = .ok (.putfield 199, 3) := by decide +kernel
theorem dX3_readPerson_138 : decode cX3_readPerson 138 = .ok (.return_, 1) := by decide +kernel
theorem dX3_readRoute_0 : decode cX3_readRoute 0 = .ok (.iconst 0, 1) := by decide +kernel
theorem dX3_readRoute_1 : decode cX3_readRoute 1 = .ok (.istore_n 2, 1) := by decide +kernel
theorem dX3_readRoute_2 : decode cX3_readRoute 2 = .ok (.iconst 0, 1) := by decide +kernel
theorem dX3_readRoute_3 : decode cX3_readRoute 3 = .ok (.istore_n 3, 1) := by decide +kernel
theorem dX3_readRoute_4 : decode cX3_readRoute 4 = .ok (.iconst 0, 1) := by decide +kernel
theorem dX3_readRoute_5 : decode cX3_readRoute 5 = .ok (.istore 4, 2) := by decide +kernel
theorem dX3_readRoute_7 : decode cX3_readRoute 7 = .ok (.iload 4, 2) := by decide +kernel
theorem dX3_readRoute_9 : decode cX3_readRoute 9 = .ok (.bipush 12, 2) := by decide +kernel
theorem dX3_readRoute_11 : decode cX3_readRoute 11 = .ok (.if_icmp .gt 124, 3) := by decide +kernel
theorem dX3_readRoute_14 : decode cX3_readRoute 14 = .ok (.aload_n 0, 1) := by decide +kernel
theorem dX3_readRoute_15 : decode cX3_readRoute 15 = .ok (.getfield 41, 3) := by decide +kernel
theorem dX3_readRoute_18 : decode cX3_readRoute 18 = .ok (.ifCond .ne 117, 3) := by decide +kernel
theorem dX3_readRoute_21 : decode cX3_readRoute 21 = .ok (.aload_n 0, 1) := by decide +kernel
theorem dX3_readRoute_22 : decode cX3_readRoute 22 = .ok (.getfield 26, 3) := by decide +kernel
theorem dX3_readRoute_25 : decode cX3_readRoute 25 = .ok (.iconst 2, 1) := by decide +kernel
theorem dX3_readRoute_26 : decode cX3_readRoute 26 = .ok (.if_icmp .ne 109, 3) := by decide +kernel
theorem dX3_readRoute_29 : decode cX3_readRoute 29 = .ok (.iload 4, 2) := by decide +kernel
theorem dX3_readRoute_31 : decode cX3_readRoute 31 = .ok (.bipush 12, 2) := by decide +kernel
theorem dX3_readRoute_33 : decode cX3_readRoute 33 = .ok (.if_icmp .ne 8, 3) := by decide +kernel
theorem dX3_readRoute_36 : decode cX3_readRoute 36 = .ok (.aload_n 0, 1) := by decide +kernel
theorem dX3_readRoute_37 : decode cX3_readRoute 37 = .ok (.iconst 2, 1) := by decide +kernel
theorem dX3_readRoute_38 : decode cX3_readRoute 38 = .ok (.invokevirtual 136, 3) := by decide +kernel
theorem dX3_readRoute_41 : decode cX3_readRoute 41 = .ok (.aload_n 0, 1) := by decide +kernel
theorem dX3_readRoute_42 : decode cX3_readRoute 42 = .ok (.invokevirtual 173, 3) := by decide +kernel
theorem dX3_readRoute_45 : decode cX3_readRoute 45 = .ok (.istore 5, 2) := by decide +kernel
theorem dX3_readRoute_47 : decode cX3_readRoute 47 = .ok (.iload 5, 2) := by decide +kernel
theorem dX3_readRoute_49 : decode cX3_readRoute 49 = .ok (.iload_n 3, 1) := by decide +kernel
theorem dX3_readRoute_50 : decode cX3_readRoute 50 = .ok (.if_icmp .eq 23, 3) := by decide +kernel
theorem dX3_readRoute_53 : decode cX3_readRoute 53 = .ok (.iload_n 2, 1) := by decide +kernel
theorem dX3_readRoute_54 : decode cX3_readRoute 54 = .ok (.ifCond .le 23, 3) := by decide +kernel
theorem dX3_readRoute_57 : decode cX3_readRoute 57 = .ok (.aload_n 0, 1) := by decide +kernel
theorem dX3_readRoute_58 : decode cX3_readRoute 58 = .ok (.getfield 18, 3) := by decide +kernel
theorem dX3_readRoute_61 : decode cX3_readRoute 61 = .ok (.getfield 56, 3) := by decide +kernel
theorem dX3_readRoute_64 : decode cX3_readRoute 64 = .ok (.iload_n 3, 1) := by decide +kernel
theorem dX3_readRoute_65 : decode cX3_readRoute 65 = .ok (.iload 5, 2) := by decide +kernel
theorem dX3_readRoute_67 : decode cX3_readRoute 67 = .ok (.invokevirtual 176, 3) := by decide +kernel
theorem dX3_readRoute_70 : decode cX3_readRoute 70 = .ok (.ifCond .eq 7, 3) := by decide +kernel
theorem dX3_readRoute_73 : decode cX3_readRoute 73 = .ok (.iconst 1, 1) := by decide +kernel
theorem dX3_readRoute_74 : decode cX3_readRoute 74 = .ok (.goto 4, 3) := by decide +kernel
theorem dX3_readRoute_77 : decode cX3_readRoute 77 = .ok (.iconst 0, 1) := by decide +kernel
theorem dX3_readRoute_78 : decode cX3_readRoute 78 = .ok (.istore 6, 2) := by decide +kernel
theorem dX3_readRoute_80 : decode cX3_readRoute 80 = .ok (.iload 6, 2) := by decide +kernel
theorem dX3_readRoute_82 : decode cX3_readRoute 82 = .ok (.ifCond .ne 9, 3) := by decide +kernel
theorem dX3_readRoute_85 : decode cX3_readRoute 85 = .ok (.aload_n 0, 1) := by decide +kernel
theorem dX3_readRoute_86 : decode cX3_readRoute 86 = .ok (.bipush 6, 2) := by decide +kernel
theorem dX3_readRoute_88 : decode cX3_readRoute 88 = .ok (.invokevirtual 136, 3) := by decide +kernel
theorem dX3_readRoute_91 : decode cX3_readRoute 91 = .ok (.aload_n 0, 1) := by decide +kernel
theorem dX3_readRoute_92 : decode cX3_readRoute 92 = .ok (.getfield 41, 3) := by decide +kernel
theorem dX3_readRoute_95 : decode cX3_readRoute 95 = .ok (.ifCond .ne 34, 3) := by decide +kernel
theorem dX3_readRoute_98 : decode cX3_readRoute 98 = .ok (.aload_n 0, 1) := by decide +kernel
theorem dX3_readRoute_99 : decode cX3_readRoute 99 = .ok (.getfield 18, 3) := by decide +kernel
theorem dX3_readRoute_102 : decode cX3_readRoute 102 = .ok (.getfield 195, 3) := by decide +kernel
theorem dX3_readRoute_105 : decode cX3_readRoute 105 = .ok (.getfield 226, 3) := by decide +kernel
theorem dX3_readRoute_108 : decode cX3_readRoute 108 = .ok (.iload_n 1, 1) := by decide +kernel
theorem dX3_readRoute_109 : decode cX3_readRoute 109 = .ok (.bipush 12, 2) := by decide +kernel
theorem dX3_readRoute_111 : decode cX3_readRoute 111 = .ok (.imul, 1) := by decide +kernel
theorem dX3_readRoute_112 : decode cX3_readRoute 112 = .ok (.iload_n 2, 1) := by decide +kernel
theorem dX3_readRoute_113 : decode cX3_readRoute 113 = .ok (.iadd, 1) := by decide +kernel
theorem dX3_readRoute_114 : decode cX3_readRoute 114 = .ok (.iload 5, 2) := by decide +kernel
theorem dX3_readRoute_116 : decode cX3_readRoute 116 = .ok (.invokestatic 207, 3) := by decide +kernel
theorem dX3_readRoute_119 : decode cX3_readRoute 119 = .ok (.iload 5, 2) := by decide +kernel
theorem dX3_readRoute_121 : decode cX3_readRoute 121 = .ok (.istore_n 3, 1) := by decide +kernel
theorem dX3_readRoute_122 : decode cX3_readRoute 122 = .ok (.iinc 2 1, 3) := by decide +kernel
theorem dX3_readRoute_125 : decode cX3_readRoute 125 = .ok (.aload_n 0, 1) := by decide +kernel
theorem dX3_readRoute_126 : decode cX3_readRoute 126 = .ok (.invokevirtual 50, 3) := by decide +kernel
theorem dX3_readRoute_129 : decode cX3_readRoute 129 = .ok (.iinc 4 1, 3) := by decide +kernel
theorem dX3_readRoute_132 : decode cX3_readRoute 132 = .ok (.goto (-125), 3) := by decide +kernel
theorem dX3_readRoute_135 : decode cX3_readRoute 135 = .ok (.iload_n 2, 1) := by decide +kernel
theorem dX3_readRoute_136 : decode cX3_readRoute 136 = .ok (.ireturn, 1) := by decide +kernel
theorem dX3_readRule_0 : decode cX3_readRule 0 = .ok (.aload_n 0, 1) := by decide +kernel
theorem dX3_readRule_1 : decode cX3_readRule 1 = .ok (.aload_n 0, 1) := by decide +kernel
theorem dX3_readRule_2 : decode cX3_readRule 2 = .ok (.getfield 18, 3) := by decide +kernel
theorem dX3_readRule_5 : decode cX3_readRule 5 = .ok (.getfield 229, 3) := by decide +kernel
theorem dX3_readRule_8 : decode cX3_readRule 8 = .ok (.getfield 233, 3) := by decide +kernel
theorem dX3_readRule_11 : decode cX3_readRule 11 = .ok (.iconst 4, 1) := by decide +kernel
theorem dX3_readRule_12 : decode cX3_readRule 12 = .ok (.invokevirtual 159, 3) := by decide +kernel
theorem dX3_readRule_15 : decode cX3_readRule 15 = .ok (.aload_n 0, 1) := by decide +kernel
theorem dX3_readRule_16 : decode cX3_readRule 16 = .ok (.iconst 0, 1) := by decide +kernel
theorem dX3_readRule_17 : decode cX3_readRule 17 = .ok (.invokevirtual 236, 3) := by decide +kernel
theorem dX3_readRule_20 : decode cX3_readRule 20 = .ok (.aload_n 0, 1) := by decide +kernel
theorem dX3_readRule_21 : decode cX3_readRule 21 = .ok (.getfield 41, 3) := by decide +kernel
theorem dX3_readRule_24 : decode cX3_readRule 24 = .ok (.ifCond .ne 13, 3) := by decide +kernel
theorem dX3_readRule_27 : decode cX3_readRule 27 = .ok (.aload_n 0, 1) := by decide +kernel
theorem dX3_readRule_28 : decode cX3_readRule 28 = .ok (.getfield 18, 3) := by decide +kernel
theorem dX3_readRule_31 : decode cX3_readRule 31 = .ok (.getfield 229, 3) := by decide +kernel
theorem dX3_readRule_34 : decode cX3_readRule 34 = .ok (.invokevirtual 239, 3) := by decide +kernel
theorem dX3_readRule_37 : decode cX3_readRule 37 = .ok (.return_, 1) := by decide +kernel
theorem dX3_readExpr_0 : decode cX3_readExpr 0 = .ok (.iload_n 1, 1) := by decide +kernel
theorem dX3_readExpr_1 : decode cX3_readExpr 1 = .ok (.bipush 6, 2) := by decide +kernel
theorem dX3_readExpr_3 : decode cX3_readExpr 3 = .ok (.if_icmp .lt 38, 3) := by decide +kernel
theorem dX3_readExpr_6 : decode cX3_readExpr 6 = .ok (.aload_n 0, 1) := by decide +kernel
theorem dX3_readExpr_7 : decode cX3_readExpr 7 = .ok (.aload_n 0, 1) := by decide +kernel
theorem dX3_readExpr_8 : decode cX3_readExpr 8 = .ok (.getfield 26, 3) := by decide +kernel
theorem dX3_readExpr_11 : decode cX3_readExpr 11 = .ok (.iconst 2, 1) := by decide +kernel
theorem dX3_readExpr_12 : decode cX3_readExpr 12 = .ok (.if_icmp .eq 20, 3) := by decide +kernel
theorem dX3_readExpr_15 : decode cX3_readExpr 15 = .ok (.aload_n 0, 1) := by decide +kernel
theorem dX3_readExpr_16 : decode cX3_readExpr 16 = .ok (.getfield 26, 3) := by decide +kernel
theorem dX3_readExpr_19 : decode cX3_readExpr 19 = .ok (.iconst 1, 1) := by decide +kernel
theorem dX3_readExpr_20 : decode cX3_readExpr 20 = .ok (.if_icmp .eq 12, 3) := by decide +kernel
theorem dX3_readExpr_23 : decode cX3_readExpr 23 = .ok (.aload_n 0, 1) := by decide +kernel
theorem dX3_readExpr_24 : decode cX3_readExpr 24 = .ok (.bipush 40, 2) := by decide +kernel
theorem dX3_readExpr_26 : decode cX3_readExpr 26 = .ok (.invokevirtual 150, 3) := by decide +kernel
theorem dX3_readExpr_29 : decode cX3_readExpr 29 = .ok (.ifCond .eq 7, 3) := by decide +kernel
theorem dX3_readExpr_32 : decode cX3_readExpr 32 = .ok (.iconst 2, 1) := by decide +kernel
theorem dX3_readExpr_33 : decode cX3_readExpr 33 = .ok (.goto 4, 3) := by decide +kernel
theorem dX3_readExpr_36 : decode cX3_readExpr 36 = .ok (.iconst 1, 1) := by decide +kernel
theorem dX3_readExpr_37 : decode cX3_readExpr 37 = .ok (.invokevirtual 136, 3) := by decide +kernel
theorem dX3_readExpr_40 : decode cX3_readExpr 40 = .ok (.return_, 1) := by decide +kernel
theorem dX3_readExpr_41 : decode cX3_readExpr 41 = .ok (.aload_n 0, 1) := by decide +kernel
theorem dX3_readExpr_42 : decode cX3_readExpr 42 = .ok (.iload_n 1, 1) := by decide +kernel
theorem dX3_readExpr_43 : decode cX3_readExpr 43 = .ok (.invokevirtual 242, 3) := by decide +kernel
theorem dX3_readExpr_46 : decode cX3_readExpr 46 = .ok (.iconst 0, 1) := by decide +kernel
theorem dX3_readExpr_47 : decode cX3_readExpr 47 = .ok (.istore_n 2, 1) := by decide +kernel
theorem dX3_readExpr_48 : decode cX3_readExpr 48 = .ok (.iload_n 2, 1) := by decide +kernel
theorem dX3_readExpr_49 : decode cX3_readExpr 49 = .ok (.sipush 700, 3) := by decide +kernel
theorem dX3_readExpr_52 : decode cX3_readExpr 52 = .ok (.if_icmp .ge 46, 3) := by decide +kernel
theorem dX3_readExpr_55 : decode cX3_readExpr 55 = .ok (.aload_n 0, 1) := by decide +kernel
theorem dX3_readExpr_56 : decode cX3_readExpr 56 = .ok (.getfield 41, 3) := by decide +kernel
theorem dX3_readExpr_59 : decode cX3_readExpr 59 = .ok (.ifCond .ne 39, 3) := by decide +kernel
theorem dX3_readExpr_62 : decode cX3_readExpr 62 = .ok (.aload_n 0, 1) := by decide +kernel
theorem dX3_readExpr_63 : decode cX3_readExpr 63 = .ok (.ldc 245, 2) := by decide +kernel
theorem dX3_readExpr_65 : decode cX3_readExpr 65 = .ok (.invokevirtual 97, 3) := by decide +kernel
theorem dX3_readExpr_68 : decode cX3_readExpr 68 = .ok (.ifCond .eq 30, 3) := by decide +kernel
theorem dX3_readExpr_71 : decode cX3_readExpr 71 = .ok (.aload_n 0, 1) := by decide +kernel
theorem dX3_readExpr_72 : decode cX3_readExpr 72 = .ok (.invokevirtual 50, 3) := by decide +kernel
theorem dX3_readExpr_75 : decode cX3_readExpr 75 = .ok (.aload_n 0, 1) := by decide +kernel
theorem dX3_readExpr_76 : decode cX3_readExpr 76 = .ok (.iload_n 1, 1) := by decide +kernel
theorem dX3_readExpr_77 : decode cX3_readExpr 77 = .ok (.invokevirtual 242, 3) := by decide +kernel
theorem dX3_readExpr_80 : decode cX3_readExpr 80 = .ok (.aload_n 0, 1) := by decide +kernel
theorem dX3_readExpr_81 : decode cX3_readExpr 81 = .ok (.getfield 18, 3) := by decide +kernel
theorem dX3_readExpr_84 : decode cX3_readExpr 84 = .ok (.getfield 229, 3) := by decide +kernel
theorem dX3_readExpr_87 : decode cX3_readExpr 87 = .ok (.bipush (-10), 2) := by decide +kernel
theorem dX3_readExpr_89 : decode cX3_readExpr 89 = .ok (.invokevirtual 247, 3) := by decide +kernel
theorem dX3_readExpr_92 : decode cX3_readExpr 92 = .ok (.iinc 2 1, 3) := by decide +kernel
theorem dX3_readExpr_95 : decode cX3_readExpr 95 = .ok (.goto (-47), 3) := by decide +kernel
theorem dX3_readExpr_98 : decode cX3_readExpr 98 = .ok (.return_, 1) := by decide +kernel
theorem dX3_readAnd_0 : decode cX3_readAnd 0 = .ok (.aload_n 0, 1) := by decide +kernel
theorem dX3_readAnd_1 : decode cX3_readAnd 1 = .ok (.iload_n 1, 1) := by decide +kernel
theorem dX3_readAnd_2 : decode cX3_readAnd 2 = .ok (.iconst 0, 1) := by decide +kernel
theorem dX3_readAnd_3 : decode cX3_readAnd 3 = .ok (.invokevirtual 250, 3) := by decide +kernel
theorem dX3_readAnd_6 : decode cX3_readAnd 6 = .ok (.iconst 0, 1) := by decide +kernel
theorem dX3_readAnd_7 : decode cX3_readAnd 7 = .ok (.istore_n 2, 1) := by decide +kernel
theorem dX3_readAnd_8 : decode cX3_readAnd 8 = .ok (.iload_n 2, 1) := by decide +kernel
theorem dX3_readAnd_9 : decode cX3_readAnd 9 = .ok (.sipush 700, 3) := by decide +kernel
theorem dX3_readAnd_12 : decode cX3_readAnd 12 = .ok (.if_icmp .ge 47, 3) := by decide +kernel
theorem dX3_readAnd_15 : decode cX3_readAnd 15 = .ok (.aload_n 0, 1) := by decide +kernel
theorem dX3_readAnd_16 : decode cX3_readAnd 16 = .ok (.getfield 41, 3) := by decide +kernel
theorem dX3_readAnd_19 : decode cX3_readAnd 19 = .ok (.ifCond .ne 40, 3) := by decide +kernel
theorem dX3_readAnd_22 : decode cX3_readAnd 22 = .ok (.aload_n 0, 1) := by decide +kernel
theorem dX3_readAnd_23 : decode cX3_readAnd 23 = .ok (.ldc 253, 2) := by decide +kernel
theorem dX3_readAnd_25 : decode cX3_readAnd 25 = .ok (.invokevirtual 97, 3) := by decide +kernel
theorem dX3_readAnd_28 : decode cX3_readAnd 28 = .ok (.ifCond .eq 31, 3) := by decide +kernel
theorem dX3_readAnd_31 : decode cX3_readAnd 31 = .ok (.aload_n 0, 1) := by decide +kernel
theorem dX3_readAnd_32 : decode cX3_readAnd 32 = .ok (.invokevirtual 50, 3) := by decide +kernel
theorem dX3_readAnd_35 : decode cX3_readAnd 35 = .ok (.aload_n 0, 1) := by decide +kernel
theorem dX3_readAnd_36 : decode cX3_readAnd 36 = .ok (.iload_n 1, 1) := by decide +kernel
theorem dX3_readAnd_37 : decode cX3_readAnd 37 = .ok (.iconst 0, 1) := by decide +kernel
theorem dX3_readAnd_38 : decode cX3_readAnd 38 = .ok (.invokevirtual 250, 3) := by decide +kernel
theorem dX3_readAnd_41 : decode cX3_readAnd 41 = .ok (.aload_n 0, 1) := by decide +kernel
theorem dX3_readAnd_42 : decode cX3_readAnd 42 = .ok (.getfield 18, 3) := by decide +kernel
theorem dX3_readAnd_45 : decode cX3_readAnd 45 = .ok (.getfield 229, 3) := by decide +kernel
theorem dX3_readAnd_48 : decode cX3_readAnd 48 = .ok (.bipush (-11), 2) := by decide +kernel
theorem dX3_readAnd_50 : decode cX3_readAnd 50 = .ok (.invokevirtual 247, 3) := by decide +kernel
theorem dX3_readAnd_53 : decode cX3_readAnd 53 = .ok (.iinc 2 1, 3) := by decide +kernel
theorem dX3_readAnd_56 : decode cX3_readAnd 56 = .ok (.goto (-48), 3) := by decide +kernel
theorem dX3_readAnd_59 : decode cX3_readAnd 59 = .ok (.return_, 1) := by decide +kernel
theorem dX3_readNot_0 : decode cX3_readNot 0 = .ok (.aload_n 0, 1) := by decide +kernel
theorem dX3_readNot_1 : decode cX3_readNot 1 = .ok (.ldc 255, 2) := by decide +kernel
theorem dX3_readNot_3 : decode cX3_readNot 3 = .ok (.invokevirtual 97, 3) := by decide +kernel
theorem dX3_readNot_6 : decode cX3_readNot 6 = .ok (.ifCond .ne 11, 3) := by decide +kernel
theorem dX3_readNot_9 : decode cX3_readNot 9 = .ok (.aload_n 0, 1) := by decide +kernel
theorem dX3_readNot_10 : decode cX3_readNot 10 = .ok (.iload_n 1, 1) := by decide +kernel
theorem dX3_readNot_11 : decode cX3_readNot 11 = .ok (.invokevirtual 257, 3) := by decide +kernel
theorem dX3_readNot_14 : decode cX3_readNot 14 = .ok (.goto 41, 3) := by decide +kernel
theorem dX3_readNot_17 : decode cX3_readNot 17 = .ok (.iload_n 2, 1) := by decide +kernel
theorem dX3_readNot_18 : decode cX3_readNot 18 = .ok (.bipush 6, 2) := by decide +kernel
theorem dX3_readNot_20 : decode cX3_readNot 20 = .ok (.if_icmp .lt 11, 3) := by decide +kernel
theorem dX3_readNot_23 : decode cX3_readNot 23 = .ok (.aload_n 0, 1) := by decide +kernel
theorem dX3_readNot_24 : decode cX3_readNot 24 = .ok (.iconst 2, 1) := by decide +kernel
theorem dX3_readNot_25 : decode cX3_readNot 25 = .ok (.invokevirtual 136, 3) := by decide +kernel
theorem dX3_readNot_28 : decode cX3_readNot 28 = .ok (.goto 27, 3) := by decide +kernel
theorem dX3_readNot_31 : decode cX3_readNot 31 = .ok (.aload_n 0, 1) := by decide +kernel
theorem dX3_readNot_32 : decode cX3_readNot 32 = .ok (.invokevirtual 50, 3) := by decide +kernel
theorem dX3_readNot_35 : decode cX3_readNot 35 = .ok (.aload_n 0, 1) := by decide +kernel
theorem dX3_readNot_36 : decode cX3_readNot 36 = .ok (.iload_n 1, 1) := by decide +kernel
theorem dX3_readNot_37 : decode cX3_readNot 37 = .ok (.iload_n 2, 1) := by decide +kernel
theorem dX3_readNot_38 : decode cX3_readNot 38 = .ok (.iconst 1, 1) := by decide +kernel
theorem dX3_readNot_39 : decode cX3_readNot 39 = .ok (.iadd, 1) := by decide +kernel
theorem dX3_readNot_40 : decode cX3_readNot 40 = .ok (.invokevirtual 250, 3) := by decide +kernel
theorem dX3_readNot_43 : decode cX3_readNot 43 = .ok (.aload_n 0, 1) := by decide +kernel
theorem dX3_readNot_44 : decode cX3_readNot 44 = .ok (.getfield 18, 3) := by decide +kernel
theorem dX3_readNot_47 : decode cX3_readNot 47 = .ok (.getfield 229, 3) := by decide +kernel
theorem dX3_readNot_50 : decode cX3_readNot 50 = .ok (.bipush (-12), 2) := by decide +kernel
theorem dX3_readNot_52 : decode cX3_readNot 52 = .ok (.invokevirtual 247, 3) := by decide +kernel
theorem dX3_readNot_55 : decode cX3_readNot 55 = .ok (.return_, 1) := by decide +kernel
theorem dX3_readTest_0 : decode cX3_readTest 0 = .ok (.aload_n 0, 1) := by decide +kernel
theorem dX3_readTest_1 : decode cX3_readTest 1 = .ok (.iload_n 1, 1) := by decide +kernel
theorem dX3_readTest_2 : decode cX3_readTest 2 = .ok (.invokevirtual 260, 3) := by decide +kernel
theorem dX3_readTest_5 : decode cX3_readTest 5 = .ok (.aload_n 0, 1) := by decide +kernel
theorem dX3_readTest_6 : decode cX3_readTest 6 = .ok (.getfield 41, 3) := by decide +kernel
theorem dX3_readTest_9 : decode cX3_readTest 9 = .ok (.ifCond .ne 58, 3) := by decide +kernel
theorem dX3_readTest_12 : decode cX3_readTest 12 = .ok (.aload_n 0, 1) := by decide +kernel
theorem dX3_readTest_13 : decode cX3_readTest 13 = .ok (.bipush 60, 2) := by decide +kernel
theorem dX3_readTest_15 : decode cX3_readTest 15 = .ok (.invokevirtual 150, 3) := by decide +kernel
theorem dX3_readTest_18 : decode cX3_readTest 18 = .ok (.ifCond .ne 12, 3) := by decide +kernel
theorem dX3_readTest_21 : decode cX3_readTest 21 = .ok (.aload_n 0, 1) := by decide +kernel
theorem dX3_readTest_22 : decode cX3_readTest 22 = .ok (.bipush 61, 2) := by decide +kernel
theorem dX3_readTest_24 : decode cX3_readTest 24 = .ok (.invokevirtual 150, 3) := by decide +kernel
theorem dX3_readTest_27 : decode cX3_readTest 27 = .ok (.ifCond .eq 40, 3) := by decide +kernel
theorem dX3_readTest_30 : decode cX3_readTest 30 = .ok (.aload_n 0, 1) := by decide +kernel
theorem dX3_readTest_31 : decode cX3_readTest 31 = .ok (.bipush 60, 2) := by decide +kernel
theorem dX3_readTest_33 : decode cX3_readTest 33 = .ok (.invokevirtual 150, 3) := by decide +kernel
theorem dX3_readTest_36 : decode cX3_readTest 36 = .ok (.ifCond .eq 8, 3) := by decide +kernel
theorem dX3_readTest_39 : decode cX3_readTest 39 = .ok (.bipush (-13), 2) := by decide +kernel
theorem dX3_readTest_41 : decode cX3_readTest 41 = .ok (.goto 5, 3) := by decide +kernel
theorem dX3_readTest_44 : decode cX3_readTest 44 = .ok (.bipush (-14), 2) := by decide +kernel
theorem dX3_readTest_46 : decode cX3_readTest 46 = .ok (.istore_n 2, 1) := by decide +kernel
theorem dX3_readTest_47 : decode cX3_readTest 47 = .ok (.aload_n 0, 1) := by decide +kernel
theorem dX3_readTest_48 : decode cX3_readTest 48 = .ok (.invokevirtual 50, 3) := by decide +kernel
theorem dX3_readTest_51 : decode cX3_readTest 51 = .ok (.aload_n 0, 1) := by decide +kernel
theorem dX3_readTest_52 : decode cX3_readTest 52 = .ok (.iload_n 1, 1) := by decide +kernel
theorem dX3_readTest_53 : decode cX3_readTest 53 = .ok (.invokevirtual 260, 3) := by decide +kernel
theorem dX3_readTest_56 : decode cX3_readTest 56 = .ok (.aload_n 0, 1) := by decide +kernel
theorem dX3_readTest_57 : decode cX3_readTest 57 = .ok (.getfield 18, 3) := by decide +kernel
theorem dX3_readTest_60 : decode cX3_readTest 60 = .ok (.getfield 229, 3) := by decide +kernel
theorem dX3_readTest_63 : decode cX3_readTest 63 = .ok (.iload_n 2, 1) := by decide +kernel
theorem dX3_readTest_64 : decode cX3_readTest 64 = .ok (.invokevirtual 247, 3) := by decide +kernel
theorem dX3_readTest_67 : decode cX3_readTest 67 = .ok (.return_, 1) := by decide +kernel
theorem dX3_readSum_0 : decode cX3_readSum 0 = .ok (.aload_n 0, 1) := by decide +kernel
theorem dX3_readSum_1 : decode cX3_readSum 1 = .ok (.iload_n 1, 1) := by decide +kernel
theorem dX3_readSum_2 : decode cX3_readSum 2 = .ok (.invokevirtual 263, 3) := by decide +kernel
theorem dX3_readSum_5 : decode cX3_readSum 5 = .ok (.iconst 0, 1) := by decide +kernel
theorem dX3_readSum_6 : decode cX3_readSum 6 = .ok (.istore_n 2, 1) := by decide +kernel
theorem dX3_readSum_7 : decode cX3_readSum 7 = .ok (.iload_n 2, 1) := by decide +kernel
theorem dX3_readSum_8 : decode cX3_readSum 8 = .ok (.sipush 700, 3) := by decide +kernel
theorem dX3_readSum_11 : decode cX3_readSum 11 = .ok (.if_icmp .ge 71, 3) := by decide +kernel
theorem dX3_readSum_14 : decode cX3_readSum 14 = .ok (.aload_n 0, 1) := by decide +kernel
theorem dX3_readSum_15 : decode cX3_readSum 15 = .ok (.getfield 41, 3) := by decide +kernel
theorem dX3_readSum_18 : decode cX3_readSum 18 = .ok (.ifCond .ne 64, 3) := by decide +kernel
theorem dX3_readSum_21 : decode cX3_readSum 21 = .ok (.aload_n 0, 1) := by decide +kernel
theorem dX3_readSum_22 : decode cX3_readSum 22 = .ok (.bipush 43, 2) := by decide +kernel
theorem dX3_readSum_24 : decode cX3_readSum 24 = .ok (.invokevirtual 150, 3) := by decide +kernel
theorem dX3_readSum_27 : decode cX3_readSum 27 = .ok (.ifCond .ne 12, 3) := by decide +kernel
theorem dX3_readSum_30 : decode cX3_readSum 30 = .ok (.aload_n 0, 1) := by decide +kernel
theorem dX3_readSum_31 : decode cX3_readSum 31 = .ok (.bipush 45, 2) := by decide +kernel
theorem dX3_readSum_33 : decode cX3_readSum 33 = .ok (.invokevirtual 150, 3) := by decide +kernel
theorem dX3_readSum_36 : decode cX3_readSum 36 = .ok (.ifCond .eq 46, 3) := by decide +kernel
theorem dX3_readSum_39 : decode cX3_readSum 39 = .ok (.aload_n 0, 1) := by decide +kernel
theorem dX3_readSum_40 : decode cX3_readSum 40 = .ok (.bipush 43, 2) := by decide +kernel
theorem dX3_readSum_42 : decode cX3_readSum 42 = .ok (.invokevirtual 150, 3) := by decide +kernel
theorem dX3_readSum_45 : decode cX3_readSum 45 = .ok (.ifCond .eq 8, 3) := by decide +kernel
theorem dX3_readSum_48 : decode cX3_readSum 48 = .ok (.bipush (-15), 2) := by decide +kernel
theorem dX3_readSum_50 : decode cX3_readSum 50 = .ok (.goto 5, 3) := by decide +kernel
theorem dX3_readSum_53 : decode cX3_readSum 53 = .ok (.bipush (-16), 2) := by decide +kernel
theorem dX3_readSum_55 : decode cX3_readSum 55 = .ok (.istore_n 3, 1) := by decide +kernel
theorem dX3_readSum_56 : decode cX3_readSum 56 = .ok (.aload_n 0, 1) := by decide +kernel
theorem dX3_readSum_57 : decode cX3_readSum 57 = .ok (.invokevirtual 50, 3) := by decide +kernel
theorem dX3_readSum_60 : decode cX3_readSum 60 = .ok (.aload_n 0, 1) := by decide +kernel
theorem dX3_readSum_61 : decode cX3_readSum 61 = .ok (.iload_n 1, 1) := by decide +kernel
theorem dX3_readSum_62 : decode cX3_readSum 62 = .ok (.invokevirtual 263, 3) := by decide +kernel
theorem dX3_readSum_65 : decode cX3_readSum 65 = .ok (.aload_n 0, 1) := by decide +kernel
theorem dX3_readSum_66 : decode cX3_readSum 66 = .ok (.getfield 18, 3) := by decide +kernel
theorem dX3_readSum_69 : decode cX3_readSum 69 = .ok (.getfield 229, 3) := by decide +kernel
theorem dX3_readSum_72 : decode cX3_readSum 72 = .ok (.iload_n 3, 1) := by decide +kernel
theorem dX3_readSum_73 : decode cX3_readSum 73 = .ok (.invokevirtual 247, 3) := by decide +kernel
theorem dX3_readSum_76 : decode cX3_readSum 76 = .ok (.iinc 2 1, 3) := by decide +kernel
theorem dX3_readSum_79 : decode cX3_readSum 79 = .ok (.goto (-72), 3) := by decide +kernel
theorem dX3_readSum_82 : decode cX3_readSum 82 = .ok (.return_, 1) := by decide +kernel
theorem dX3_readProduct_0 : decode cX3_readProduct 0 = .ok (.aload_n 0, 1) := by decide +kernel
theorem dX3_readProduct_1 : decode cX3_readProduct 1 = .ok (.iload_n 1, 1) := by decide +kernel
theorem dX3_readProduct_2 : decode cX3_readProduct 2 = .ok (.invokevirtual 266, 3) := by decide +kernel
theorem dX3_readProduct_5 : decode cX3_readProduct 5 = .ok (.iconst 0, 1) := by decide +kernel
theorem dX3_readProduct_6 : decode cX3_readProduct 6 = .ok (.istore_n 2, 1) := by decide +kernel
theorem dX3_readProduct_7 : decode cX3_readProduct 7 = .ok (.iload_n 2, 1) := by decide +kernel
theorem dX3_readProduct_8 : decode cX3_readProduct 8 = .ok (.sipush 700, 3) := by decide +kernel
theorem dX3_readProduct_11 : decode cX3_readProduct 11 = .ok (.if_icmp .ge 71, 3) := by decide +kernel
theorem dX3_readProduct_14 : decode cX3_readProduct 14 = .ok (.aload_n 0, 1) := by decide +kernel
theorem dX3_readProduct_15 : decode cX3_readProduct 15 = .ok (.getfield 41, 3) := by decide +kernel
theorem dX3_readProduct_18 : decode cX3_readProduct 18 = .ok (.ifCond .ne 64, 3) := by decide +kernel
theorem dX3_readProduct_21 : decode cX3_readProduct 21 = .ok (.aload_n 0, 1) := by decide +kernel
theorem dX3_readProduct_22 : decode cX3_readProduct 22 = .ok (.bipush 42, 2) := by decide +kernel
theorem dX3_readProduct_24 : decode cX3_readProduct 24 = .ok (.invokevirtual 150, 3) := by decide +kernel
theorem dX3_readProduct_27 : decode cX3_readProduct 27 = .ok (.ifCond .ne 12, 3) := by decide +kernel
theorem dX3_readProduct_30 : decode cX3_readProduct 30 = .ok (.aload_n 0, 1) := by decide +kernel
theorem dX3_readProduct_31 : decode cX3_readProduct 31 = .ok (.bipush 47, 2) := by decide +kernel
theorem dX3_readProduct_33 : decode cX3_readProduct 33 = .ok (.invokevirtual 150, 3) := by decide +kernel
theorem dX3_readProduct_36 : decode cX3_readProduct 36 = .ok (.ifCond .eq 46, 3) := by decide +kernel
theorem dX3_readProduct_39 : decode cX3_readProduct 39 = .ok (.aload_n 0, 1) := by decide +kernel
theorem dX3_readProduct_40 : decode cX3_readProduct 40 = .ok (.bipush 42, 2) := by decide +kernel
theorem dX3_readProduct_42 : decode cX3_readProduct 42 = .ok (.invokevirtual 150, 3) := by decide +kernel
theorem dX3_readProduct_45 : decode cX3_readProduct 45 = .ok (.ifCond .eq 8, 3) := by decide +kernel
theorem dX3_readProduct_48 : decode cX3_readProduct 48 = .ok (.bipush (-17), 2) := by decide +kernel
theorem dX3_readProduct_50 : decode cX3_readProduct 50 = .ok (.goto 5, 3) := by decide +kernel
theorem dX3_readProduct_53 : decode cX3_readProduct 53 = .ok (.bipush (-18), 2) := by decide +kernel
theorem dX3_readProduct_55 : decode cX3_readProduct 55 = .ok (.istore_n 3, 1) := by decide +kernel
theorem dX3_readProduct_56 : decode cX3_readProduct 56 = .ok (.aload_n 0, 1) := by decide +kernel
theorem dX3_readProduct_57 : decode cX3_readProduct 57 = .ok (.invokevirtual 50, 3) := by decide +kernel
theorem dX3_readProduct_60 : decode cX3_readProduct 60 = .ok (.aload_n 0, 1) := by decide +kernel
theorem dX3_readProduct_61 : decode cX3_readProduct 61 = .ok (.iload_n 1, 1) := by decide +kernel
theorem dX3_readProduct_62 : decode cX3_readProduct 62 = .ok (.invokevirtual 266, 3) := by decide +kernel
theorem dX3_readProduct_65 : decode cX3_readProduct 65 = .ok (.aload_n 0, 1) := by decide +kernel
theorem dX3_readProduct_66 : decode cX3_readProduct 66 = .ok (.getfield 18, 3) := by decide +kernel
theorem dX3_readProduct_69 : decode cX3_readProduct 69 = .ok (.getfield 229, 3) := by decide +kernel
theorem dX3_readProduct_72 : decode cX3_readProduct 72 = .ok (.iload_n 3, 1) := by decide +kernel
theorem dX3_readProduct_73 : decode cX3_readProduct 73 = .ok (.invokevirtual 247, 3) := by decide +kernel
theorem dX3_readProduct_76 : decode cX3_readProduct 76 = .ok (.iinc 2 1, 3) := by decide +kernel
theorem dX3_readProduct_79 : decode cX3_readProduct 79 = .ok (.goto (-72), 3) := by decide +kernel
theorem dX3_readProduct_82 : decode cX3_readProduct 82 = .ok (.return_, 1) := by decide +kernel
theorem dX3_readPart_0 : decode cX3_readPart 0 = .ok (.aload_n 0, 1) := by decide +kernel
theorem dX3_readPart_1 : decode cX3_readPart 1 = .ok (.getfield 26, 3) := by decide +kernel
theorem dX3_readPart_4 : decode cX3_readPart 4 = .ok (.iconst 2, 1) := by decide +kernel
theorem dX3_readPart_5 : decode cX3_readPart 5 = .ok (.if_icmp .ne 24, 3) := by decide +kernel
theorem dX3_readPart_8 : decode cX3_readPart 8 = .ok (.aload_n 0, 1) := by decide +kernel
theorem dX3_readPart_9 : decode cX3_readPart 9 = .ok (.getfield 18, 3) := by decide +kernel
theorem dX3_readPart_12 : decode cX3_readPart 12 = .ok (.getfield 229, 3) := by decide +kernel
theorem dX3_readPart_15 : decode cX3_readPart 15 = .ok (.aload_n 0, 1) := by decide +kernel
theorem dX3_readPart_16 : decode cX3_readPart 16 = .ok (.iconst 0, 1) := by decide +kernel
theorem dX3_readPart_17 : decode cX3_readPart 17 = .ok (.sipush 9999, 3) := by decide +kernel
theorem dX3_readPart_20 : decode cX3_readPart 20 = .ok (.invokevirtual 163, 3) := by decide +kernel
theorem dX3_readPart_23 : decode cX3_readPart 23 = .ok (.invokevirtual 247, 3) := by decide +kernel
theorem dX3_readPart_26 : decode cX3_readPart 26 = .ok (.goto 56, 3) := by decide +kernel
theorem dX3_readPart_29 : decode cX3_readPart 29 = .ok (.aload_n 0, 1) := by decide +kernel
theorem dX3_readPart_30 : decode cX3_readPart 30 = .ok (.getfield 26, 3) := by decide +kernel
theorem dX3_readPart_33 : decode cX3_readPart 33 = .ok (.iconst 1, 1) := by decide +kernel
theorem dX3_readPart_34 : decode cX3_readPart 34 = .ok (.if_icmp .ne 14, 3) := by decide +kernel
theorem dX3_readPart_37 : decode cX3_readPart 37 = .ok (.aload_n 0, 1) := by decide +kernel
theorem dX3_readPart_38 : decode cX3_readPart 38 = .ok (.aload_n 0, 1) := by decide +kernel
theorem dX3_readPart_39 : decode cX3_readPart 39 = .ok (.invokevirtual 269, 3) := by decide +kernel
theorem dX3_readPart_42 : decode cX3_readPart 42 = .ok (.invokevirtual 272, 3) := by decide +kernel
theorem dX3_readPart_45 : decode cX3_readPart 45 = .ok (.goto 37, 3) := by decide +kernel
theorem dX3_readPart_48 : decode cX3_readPart 48 = .ok (.aload_n 0, 1) := by decide +kernel
theorem dX3_readPart_49 : decode cX3_readPart 49 = .ok (.bipush 40, 2) := by decide +kernel
theorem dX3_readPart_51 : decode cX3_readPart 51 = .ok (.invokevirtual 150, 3) := by decide +kernel
theorem dX3_readPart_54 : decode cX3_readPart 54 = .ok (.ifCond .eq 23, 3) := by decide +kernel
theorem dX3_readPart_57 : decode cX3_readPart 57 = .ok (.aload_n 0, 1) := by decide +kernel
theorem dX3_readPart_58 : decode cX3_readPart 58 = .ok (.invokevirtual 50, 3) := by decide +kernel
theorem dX3_readPart_61 : decode cX3_readPart 61 = .ok (.aload_n 0, 1) := by decide +kernel
theorem dX3_readPart_62 : decode cX3_readPart 62 = .ok (.iload_n 1, 1) := by decide +kernel
theorem dX3_readPart_63 : decode cX3_readPart 63 = .ok (.iconst 1, 1) := by decide +kernel
theorem dX3_readPart_64 : decode cX3_readPart 64 = .ok (.iadd, 1) := by decide +kernel
theorem dX3_readPart_65 : decode cX3_readPart 65 = .ok (.invokevirtual 236, 3) := by decide +kernel
theorem dX3_readPart_68 : decode cX3_readPart 68 = .ok (.aload_n 0, 1) := by decide +kernel
theorem dX3_readPart_69 : decode cX3_readPart 69 = .ok (.bipush 41, 2) := by decide +kernel
theorem dX3_readPart_71 : decode cX3_readPart 71 = .ok (.invokevirtual 139, 3) := by decide +kernel
theorem dX3_readPart_74 : decode cX3_readPart 74 = .ok (.goto 8, 3) := by decide +kernel
theorem dX3_readPart_77 : decode cX3_readPart 77 = .ok (.aload_n 0, 1) := by decide +kernel
theorem dX3_readPart_78 : decode cX3_readPart 78 = .ok (.iconst 1, 1) := by decide +kernel
theorem dX3_readPart_79 : decode cX3_readPart 79 = .ok (.invokevirtual 136, 3) := by decide +kernel
theorem dX3_readPart_82 : decode cX3_readPart 82 = .ok (.return_, 1) := by decide +kernel
theorem dX3_readValue_0 : decode cX3_readValue 0 = .ok (.iload_n 1, 1) := by decide +kernel
theorem dX3_readValue_1 : decode cX3_readValue 1 = .ok (.iconst (-1), 1) := by decide +kernel
theorem dX3_readValue_2 : decode cX3_readValue 2 = .ok (.if_icmp .ne 11, 3) := by decide +kernel
theorem dX3_readValue_5 : decode cX3_readValue 5 = .ok (.aload_n 0, 1) := by decide +kernel
theorem dX3_readValue_6 : decode cX3_readValue 6 = .ok (.iconst 3, 1) := by decide +kernel
theorem dX3_readValue_7 : decode cX3_readValue 7 = .ok (.invokevirtual 136, 3) := by decide +kernel
theorem dX3_readValue_10 : decode cX3_readValue 10 = .ok (.goto 20, 3) := by decide +kernel
theorem dX3_readValue_13 : decode cX3_readValue 13 = .ok (.aload_n 0, 1) := by decide +kernel
theorem dX3_readValue_14 : decode cX3_readValue 14 = .ok (.getfield 18, 3) := by decide +kernel
theorem dX3_readValue_17 : decode cX3_readValue 17 = .ok (.getfield 229, 3) := by decide +kernel
theorem dX3_readValue_20 : decode cX3_readValue 20 = .ok (.iconst (-1), 1) := by decide +kernel
theorem dX3_readValue_21 : decode cX3_readValue 21 = .ok (.iload_n 1, 1) := by decide +kernel
theorem dX3_readValue_22 : decode cX3_readValue 22 = .ok (.isub, 1) := by decide +kernel
theorem dX3_readValue_23 : decode cX3_readValue 23 = .ok (.invokevirtual 247, 3) := by decide +kernel
theorem dX3_readValue_26 : decode cX3_readValue 26 = .ok (.aload_n 0, 1) := by decide +kernel
theorem dX3_readValue_27 : decode cX3_readValue 27 = .ok (.invokevirtual 50, 3) := by decide +kernel
theorem dX3_readValue_30 : decode cX3_readValue 30 = .ok (.return_, 1) := by decide +kernel
theorem dX3_valueTold_0 : decode cX3_valueTold 0 = .ok (.aload_n 0, 1) := by decide +kernel
theorem dX3_valueTold_1 : decode cX3_valueTold 1 = .ok (.ldc_w 275, 3) := by decide +kernel
theorem dX3_valueTold_4 : decode cX3_valueTold 4 = .ok (.invokevirtual 97, 3) := by decide +kernel
theorem dX3_valueTold_7 : decode cX3_valueTold 7 = .ok (.ifCond .eq 5, 3) := by decide +kernel
theorem dX3_valueTold_10 : decode cX3_valueTold 10 = .ok (.iconst 0, 1) := by decide +kernel
theorem dX3_valueTold_11 : decode cX3_valueTold 11 = .ok (.ireturn, 1) := by decide +kernel
theorem dX3_valueTold_12 : decode cX3_valueTold 12 = .ok (.aload_n 0, 1) := by decide +kernel
theorem dX3_valueTold_13 : decode cX3_valueTold 13 = .ok (.ldc_w 276, 3) := by decide +kernel
theorem dX3_valueTold_16 : decode cX3_valueTold 16 = .ok (.invokevirtual 97, 3) := by decide +kernel
theorem dX3_valueTold_19 : decode cX3_valueTold 19 = .ok (.ifCond .eq 5, 3) := by decide +kernel
theorem dX3_valueTold_22 : decode cX3_valueTold 22 = .ok (.iconst 1, 1) := by decide +kernel
theorem dX3_valueTold_23 : decode cX3_valueTold 23 = .ok (.ireturn, 1) := by decide +kernel
theorem dX3_valueTold_24 : decode cX3_valueTold 24 = .ok (.aload_n 0, 1) := by decide +kernel
theorem dX3_valueTold_25 : decode cX3_valueTold 25 = .ok (.ldc_w 278, 3) := by decide +kernel
theorem dX3_valueTold_28 : decode cX3_valueTold 28 = .ok (.invokevirtual 97, 3) := by decide +kernel
theorem dX3_valueTold_31 : decode cX3_valueTold 31 = .ok (.ifCond .eq 5, 3) := by decide +kernel
theorem dX3_valueTold_34 : decode cX3_valueTold 34 = .ok (.iconst 2, 1) := by decide +kernel
theorem dX3_valueTold_35 : decode cX3_valueTold 35 = .ok (.ireturn, 1) := by decide +kernel
theorem dX3_valueTold_36 : decode cX3_valueTold 36 = .ok (.aload_n 0, 1) := by decide +kernel
theorem dX3_valueTold_37 : decode cX3_valueTold 37 = .ok (.ldc_w 280, 3) := by decide +kernel
theorem dX3_valueTold_40 : decode cX3_valueTold 40 = .ok (.invokevirtual 97, 3) := by decide +kernel
theorem dX3_valueTold_43 : decode cX3_valueTold 43 = .ok (.ifCond .eq 5, 3) := by decide +kernel
theorem dX3_valueTold_46 : decode cX3_valueTold 46 = .ok (.iconst 3, 1) := by decide +kernel
theorem dX3_valueTold_47 : decode cX3_valueTold 47 = .ok (.ireturn, 1) := by decide +kernel
theorem dX3_valueTold_48 : decode cX3_valueTold 48 = .ok (.aload_n 0, 1) := by decide +kernel
theorem dX3_valueTold_49 : decode cX3_valueTold 49 = .ok (.ldc_w 282, 3) := by decide +kernel
theorem dX3_valueTold_52 : decode cX3_valueTold 52 = .ok (.invokevirtual 97, 3) := by decide +kernel
theorem dX3_valueTold_55 : decode cX3_valueTold 55 = .ok (.ifCond .eq 5, 3) := by decide +kernel
theorem dX3_valueTold_58 : decode cX3_valueTold 58 = .ok (.iconst 4, 1) := by decide +kernel
theorem dX3_valueTold_59 : decode cX3_valueTold 59 = .ok (.ireturn, 1) := by decide +kernel
theorem dX3_valueTold_60 : decode cX3_valueTold 60 = .ok (.aload_n 0, 1) := by decide +kernel
theorem dX3_valueTold_61 : decode cX3_valueTold 61 = .ok (.ldc_w 284, 3) := by decide +kernel
theorem dX3_valueTold_64 : decode cX3_valueTold 64 = .ok (.invokevirtual 97, 3) := by decide +kernel
theorem dX3_valueTold_67 : decode cX3_valueTold 67 = .ok (.ifCond .eq 5, 3) := by decide +kernel
theorem dX3_valueTold_70 : decode cX3_valueTold 70 = .ok (.iconst 5, 1) := by decide +kernel
theorem dX3_valueTold_71 : decode cX3_valueTold 71 = .ok (.ireturn, 1) := by decide +kernel
theorem dX3_valueTold_72 : decode cX3_valueTold 72 = .ok (.aload_n 0, 1) := by decide +kernel
theorem dX3_valueTold_73 : decode cX3_valueTold 73 = .ok (.ldc_w 286, 3) := by decide +kernel
theorem dX3_valueTold_76 : decode cX3_valueTold 76 = .ok (.invokevirtual 97, 3) := by decide +kernel
theorem dX3_valueTold_79 : decode cX3_valueTold 79 = .ok (.ifCond .eq 8, 3) := by decide +kernel
theorem dX3_valueTold_82 : decode cX3_valueTold 82 = .ok (.bipush 6, 2) := by decide +kernel
theorem dX3_valueTold_84 : decode cX3_valueTold 84 = .ok (.goto 4, 3) := by decide +kernel
theorem dX3_valueTold_87 : decode cX3_valueTold 87 = .ok (.iconst (-1), 1) := by decide +kernel
theorem dX3_valueTold_88 : decode cX3_valueTold 88 = .ok (.ireturn, 1) := by decide +kernel
theorem dX4_init_0 : decode cX4_init 0 = .ok (.aload_n 0, 1) := by decide +kernel
theorem dX4_init_1 : decode cX4_init 1 = .ok (.invokespecial 3, 3) := by decide +kernel
theorem dX4_init_4 : decode cX4_init 4 = .ok (.aload_n 0, 1) := by decide +kernel
theorem dX4_init_5 : decode cX4_init 5 = .ok (.iconst 0, 1) := by decide +kernel
theorem dX4_init_6 : decode cX4_init 6 = .ok (.putfield 9, 3) := by decide +kernel
theorem dX4_init_9 : decode cX4_init 9 = .ok (.aload_n 0, 1) := by decide +kernel
theorem dX4_init_10 : decode cX4_init 10 = .ok (.iconst 0, 1) := by decide +kernel
theorem dX4_init_11 : decode cX4_init 11 = .ok (.putfield 15, 3) := by decide +kernel
theorem dX4_init_14 : decode cX4_init 14 = .ok (.aload_n 0, 1) := by decide +kernel
theorem dX4_init_15 : decode cX4_init 15 = .ok (.iconst 4, 1) := by decide +kernel
theorem dX4_init_16 : decode cX4_init 16 = .ok (.newarray .int, 2) := by decide +kernel
theorem dX4_init_18 : decode cX4_init 18 = .ok (.putfield 18, 3) := by decide +kernel
theorem dX4_init_21 : decode cX4_init 21 = .ok (.aload_n 0, 1) := by decide +kernel
theorem dX4_init_22 : decode cX4_init 22 = .ok (.sipush 700, 3) := by decide +kernel
theorem dX4_init_25 : decode cX4_init 25 = .ok (.newarray .int, 2) := by decide +kernel
theorem dX4_init_27 : decode cX4_init 27 = .ok (.putfield 22, 3) := by decide +kernel
theorem dX4_init_30 : decode cX4_init 30 = .ok (.aload_n 0, 1) := by decide +kernel
theorem dX4_init_31 : decode cX4_init 31 = .ok (.bipush 40, 2) := by decide +kernel
theorem dX4_init_33 : decode cX4_init 33 = .ok (.newarray .int, 2) := by decide +kernel
theorem dX4_init_35 : decode cX4_init 35 = .ok (.putfield 25, 3) := by decide +kernel
theorem dX4_init_38 : decode cX4_init 38 = .ok (.aload_n 0, 1) := by decide +kernel
theorem dX4_init_39 : decode cX4_init 39 = .ok (.iconst 0, 1) := by decide +kernel
theorem dX4_init_40 : decode cX4_init 40 = .ok (.putfield 28, 3) := by decide +kernel
theorem dX4_init_43 : decode cX4_init 43 = .ok (.return_, 1) := by decide +kernel
theorem dX4_clear_0 : decode cX4_clear 0 = .ok (.aload_n 0, 1) := by decide +kernel
theorem dX4_clear_1 : decode cX4_clear 1 = .ok (.iconst 0, 1) := by decide +kernel
theorem dX4_clear_2 : decode cX4_clear 2 = .ok (.putfield 9, 3) := by decide +kernel
theorem dX4_clear_5 : decode cX4_clear 5 = .ok (.aload_n 0, 1) := by decide +kernel
theorem dX4_clear_6 : decode cX4_clear 6 = .ok (.iconst 0, 1) := by decide +kernel
theorem dX4_clear_7 : decode cX4_clear 7 = .ok (.putfield 15, 3) := by decide +kernel
theorem dX4_clear_10 : decode cX4_clear 10 = .ok (.return_, 1) := by decide +kernel
theorem dX4_add_0 : decode cX4_add 0 = .ok (.aload_n 0, 1) := by decide +kernel
theorem dX4_add_1 : decode cX4_add 1 = .ok (.getfield 22, 3) := by decide +kernel
theorem dX4_add_4 : decode cX4_add 4 = .ok (.aload_n 0, 1) := by decide +kernel
theorem dX4_add_5 : decode cX4_add 5 = .ok (.getfield 15, 3) := by decide +kernel
theorem dX4_add_8 : decode cX4_add 8 = .ok (.iload_n 1, 1) := by decide +kernel
theorem dX4_add_9 : decode cX4_add 9 = .ok (.invokestatic 31, 3) := by decide +kernel
theorem dX4_add_12 : decode cX4_add 12 = .ok (.aload_n 0, 1) := by decide +kernel
theorem dX4_add_13 : decode cX4_add 13 = .ok (.dup, 1) := by decide +kernel
theorem dX4_add_14 : decode cX4_add 14 = .ok (.getfield 15, 3) := by decide +kernel
theorem dX4_add_17 : decode cX4_add 17 = .ok (.iconst 1, 1) := by decide +kernel
theorem dX4_add_18 : decode cX4_add 18 = .ok (.iadd, 1) := by decide +kernel
theorem dX4_add_19 : decode cX4_add 19 = .ok (.putfield 15, 3) := by decide +kernel
theorem dX4_add_22 : decode cX4_add 22 = .ok (.return_, 1) := by decide +kernel
theorem dX4_endRule_0 : decode cX4_endRule 0 = .ok (.aload_n 0, 1) := by decide +kernel
theorem dX4_endRule_1 : decode cX4_endRule 1 = .ok (.getfield 18, 3) := by decide +kernel
theorem dX4_endRule_4 : decode cX4_endRule 4 = .ok (.aload_n 0, 1) := by decide +kernel
theorem dX4_endRule_5 : decode cX4_endRule 5 = .ok (.getfield 9, 3) := by decide +kernel
theorem dX4_endRule_8 : decode cX4_endRule 8 = .ok (.aload_n 0, 1) := by decide +kernel
theorem dX4_endRule_9 : decode cX4_endRule 9 = .ok (.getfield 15, 3) := by decide +kernel
theorem dX4_endRule_12 : decode cX4_endRule 12 = .ok (.invokestatic 31, 3) := by decide +kernel
theorem dX4_endRule_15 : decode cX4_endRule 15 = .ok (.aload_n 0, 1) := by decide +kernel
theorem dX4_endRule_16 : decode cX4_endRule 16 = .ok (.dup, 1) := by decide +kernel
theorem dX4_endRule_17 : decode cX4_endRule 17 = .ok (.getfield 9, 3) := by decide +kernel
theorem dX4_endRule_20 : decode cX4_endRule 20 = .ok (.iconst 1, 1) := by decide +kernel
theorem dX4_endRule_21 : decode cX4_endRule 21 = .ok (.iadd, 1) := by decide +kernel
theorem dX4_endRule_22 : decode cX4_endRule 22 = .ok (.putfield 9, 3) := by decide +kernel
theorem dX4_endRule_25 : decode cX4_endRule 25 = .ok (.return_, 1) := by decide +kernel
theorem dX4_valueOf_0 : decode cX4_valueOf 0 = .ok (.iload_n 1, 1) := by decide +kernel
theorem dX4_valueOf_1 : decode cX4_valueOf 1 = .ok (.ifCond .le 16, 3) := by decide +kernel
theorem dX4_valueOf_4 : decode cX4_valueOf 4 = .ok (.aload_n 0, 1) := by decide +kernel
theorem dX4_valueOf_5 : decode cX4_valueOf 5 = .ok (.getfield 18, 3) := by decide +kernel
theorem dX4_valueOf_8 : decode cX4_valueOf 8 = .ok (.iload_n 1, 1) := by decide +kernel
theorem dX4_valueOf_9 : decode cX4_valueOf 9 = .ok (.iconst 1, 1) := by decide +kernel
theorem dX4_valueOf_10 : decode cX4_valueOf 10 = .ok (.isub, 1) := by decide +kernel
theorem dX4_valueOf_11 : decode cX4_valueOf 11 = .ok (.invokestatic 35, 3) := by decide +kernel
theorem dX4_valueOf_14 : decode cX4_valueOf 14 = .ok (.goto 4, 3) := by decide +kernel
theorem dX4_valueOf_17 : decode cX4_valueOf 17 = .ok (.iconst 0, 1) := by decide +kernel
theorem dX4_valueOf_18 : decode cX4_valueOf 18 = .ok (.istore_n 3, 1) := by decide +kernel
theorem dX4_valueOf_19 : decode cX4_valueOf 19 = .ok (.aload_n 0, 1) := by decide +kernel
theorem dX4_valueOf_20 : decode cX4_valueOf 20 = .ok (.getfield 18, 3) := by decide +kernel
theorem dX4_valueOf_23 : decode cX4_valueOf 23 = .ok (.iload_n 1, 1) := by decide +kernel
theorem dX4_valueOf_24 : decode cX4_valueOf 24 = .ok (.invokestatic 35, 3) := by decide +kernel
theorem dX4_valueOf_27 : decode cX4_valueOf 27 = .ok (.istore 4, 2) := by decide +kernel
theorem dX4_valueOf_29 : decode cX4_valueOf 29 = .ok (.aload_n 0, 1) := by decide +kernel
theorem dX4_valueOf_30 : decode cX4_valueOf 30 = .ok (.iconst 0, 1) := by decide +kernel
theorem dX4_valueOf_31 : decode cX4_valueOf 31 = .ok (.putfield 28, 3) := by decide +kernel
theorem dX4_valueOf_34 : decode cX4_valueOf 34 = .ok (.iload_n 3, 1) := by decide +kernel
theorem dX4_valueOf_35 : decode cX4_valueOf 35 = .ok (.istore 5, 2) := by decide +kernel
theorem dX4_valueOf_37 : decode cX4_valueOf 37 = .ok (.iload 5, 2) := by decide +kernel
theorem dX4_valueOf_39 : decode cX4_valueOf 39 = .ok (.iload 4, 2) := by decide +kernel
theorem dX4_valueOf_41 : decode cX4_valueOf 41 = .ok (.if_icmp .ge 103, 3) := by decide +kernel
theorem dX4_valueOf_44 : decode cX4_valueOf 44 = .ok (.aload_n 0, 1) := by decide +kernel
theorem dX4_valueOf_45 : decode cX4_valueOf 45 = .ok (.getfield 22, 3) := by decide +kernel
theorem dX4_valueOf_48 : decode cX4_valueOf 48 = .ok (.iload 5, 2) := by decide +kernel
theorem dX4_valueOf_50 : decode cX4_valueOf 50 = .ok (.invokestatic 35, 3) := by decide +kernel
theorem dX4_valueOf_53 : decode cX4_valueOf 53 = .ok (.istore 6, 2) := by decide +kernel
theorem dX4_valueOf_55 : decode cX4_valueOf 55 = .ok (.iload 6, 2) := by decide +kernel
theorem dX4_valueOf_57 : decode cX4_valueOf 57 = .ok (.ifCond .lt 12, 3) := by decide +kernel
theorem dX4_valueOf_60 : decode cX4_valueOf 60 = .ok (.aload_n 0, 1) := by decide +kernel
theorem dX4_valueOf_61 : decode cX4_valueOf 61 = .ok (.iload 6, 2) := by decide +kernel
theorem dX4_valueOf_63 : decode cX4_valueOf 63 = .ok (.invokevirtual 39, 3) := by decide +kernel
theorem dX4_valueOf_66 : decode cX4_valueOf 66 = .ok (.goto 72, 3) := by decide +kernel
theorem dX4_valueOf_69 : decode cX4_valueOf 69 = .ok (.iload 6, 2) := by decide +kernel
theorem dX4_valueOf_71 : decode cX4_valueOf 71 = .ok (.bipush (-10), 2) := by decide +kernel
theorem dX4_valueOf_73 : decode cX4_valueOf 73 = .ok (.if_icmp .le 18, 3) := by decide +kernel
theorem dX4_valueOf_76 : decode cX4_valueOf 76 = .ok (.aload_n 0, 1) := by decide +kernel
theorem dX4_valueOf_77 : decode cX4_valueOf 77 = .ok (.aload_n 2, 1) := by decide +kernel
theorem dX4_valueOf_78 : decode cX4_valueOf 78 = .ok (.iconst (-1), 1) := by decide +kernel
theorem dX4_valueOf_79 : decode cX4_valueOf 79 = .ok (.iload 6, 2) := by decide +kernel
theorem dX4_valueOf_81 : decode cX4_valueOf 81 = .ok (.isub, 1) := by decide +kernel
theorem dX4_valueOf_82 : decode cX4_valueOf 82 = .ok (.invokestatic 35, 3) := by decide +kernel
theorem dX4_valueOf_85 : decode cX4_valueOf 85 = .ok (.invokevirtual 39, 3) := by decide +kernel
theorem dX4_valueOf_88 : decode cX4_valueOf 88 = .ok (.goto 50, 3) := by decide +kernel
theorem dX4_valueOf_91 : decode cX4_valueOf 91 = .ok (.iload 6, 2) := by decide +kernel
theorem dX4_valueOf_93 : decode cX4_valueOf 93 = .ok (.bipush (-12), 2) := by decide +kernel
theorem dX4_valueOf_95 : decode cX4_valueOf 95 = .ok (.if_icmp .ne 22, 3) := by decide +kernel
theorem dX4_valueOf_98 : decode cX4_valueOf 98 = .ok (.aload_n 0, 1) := by decide +kernel
theorem dX4_valueOf_99 : decode cX4_valueOf 99 = .ok (.aload_n 0, 1) := by decide +kernel
theorem dX4_valueOf_100 : decode cX4_valueOf 100 = .ok (.invokevirtual 43, 3) := by decide +kernel
theorem dX4_valueOf_103 : decode cX4_valueOf 103 = .ok (.ifCond .ne 7, 3) := by decide +kernel
theorem dX4_valueOf_106 : decode cX4_valueOf 106 = .ok (.iconst 1, 1) := by decide +kernel
theorem dX4_valueOf_107 : decode cX4_valueOf 107 = .ok (.goto 4, 3) := by decide +kernel
theorem dX4_valueOf_110 : decode cX4_valueOf 110 = .ok (.iconst 0, 1) := by decide +kernel
theorem dX4_valueOf_111 : decode cX4_valueOf 111 = .ok (.invokevirtual 39, 3) := by decide +kernel
theorem dX4_valueOf_114 : decode cX4_valueOf 114 = .ok (.goto 24, 3) := by decide +kernel
theorem dX4_valueOf_117 : decode cX4_valueOf 117 = .ok (.aload_n 0, 1) := by decide +kernel
theorem dX4_valueOf_118 : decode cX4_valueOf 118 = .ok (.invokevirtual 43, 3) := by decide +kernel
theorem dX4_valueOf_121 : decode cX4_valueOf 121 = .ok (.istore 7, 2) := by decide +kernel
theorem dX4_valueOf_123 : decode cX4_valueOf 123 = .ok (.aload_n 0, 1) := by decide +kernel
theorem dX4_valueOf_124 : decode cX4_valueOf 124 = .ok (.iload 6, 2) := by decide +kernel
theorem dX4_valueOf_126 : decode cX4_valueOf 126 = .ok (.aload_n 0, 1) := by decide +kernel
theorem dX4_valueOf_127 : decode cX4_valueOf 127 = .ok (.invokevirtual 43, 3) := by decide +kernel
theorem dX4_valueOf_130 : decode cX4_valueOf 130 = .ok (.iload 7, 2) := by decide +kernel
theorem dX4_valueOf_132 : decode cX4_valueOf 132 = .ok (.invokestatic 47, 3) := by decide +kernel
theorem dX4_valueOf_135 : decode cX4_valueOf 135 = .ok (.invokevirtual 39, 3) := by decide +kernel
theorem dX4_valueOf_138 : decode cX4_valueOf 138 = .ok (.iinc 5 1, 3) := by decide +kernel
theorem dX4_valueOf_141 : decode cX4_valueOf 141 = .ok (.goto (-104), 3) := by decide +kernel
theorem dX4_valueOf_144 : decode cX4_valueOf 144 = .ok (.aload_n 0, 1) := by decide +kernel
theorem dX4_valueOf_145 : decode cX4_valueOf 145 = .ok (.invokevirtual 43, 3) := by decide +kernel
theorem dX4_valueOf_148 : decode cX4_valueOf 148 = .ok (.ireturn, 1) := by decide +kernel
theorem dX4_push_0 : decode cX4_push 0 = .ok (.aload_n 0, 1) := by decide +kernel
theorem dX4_push_1 : decode cX4_push 1 = .ok (.getfield 25, 3) := by decide +kernel
theorem dX4_push_4 : decode cX4_push 4 = .ok (.aload_n 0, 1) := by decide +kernel
theorem dX4_push_5 : decode cX4_push 5 = .ok (.getfield 28, 3) := by decide +kernel
theorem dX4_push_8 : decode cX4_push 8 = .ok (.iload_n 1, 1) := by decide +kernel
theorem dX4_push_9 : decode cX4_push 9 = .ok (.invokestatic 31, 3) := by decide +kernel
theorem dX4_push_12 : decode cX4_push 12 = .ok (.aload_n 0, 1) := by decide +kernel
theorem dX4_push_13 : decode cX4_push 13 = .ok (.dup, 1) := by decide +kernel
theorem dX4_push_14 : decode cX4_push 14 = .ok (.getfield 28, 3) := by decide +kernel
theorem dX4_push_17 : decode cX4_push 17 = .ok (.iconst 1, 1) := by decide +kernel
theorem dX4_push_18 : decode cX4_push 18 = .ok (.iadd, 1) := by decide +kernel
theorem dX4_push_19 : decode cX4_push 19 = .ok (.putfield 28, 3) := by decide +kernel
theorem dX4_push_22 : decode cX4_push 22 = .ok (.return_, 1) := by decide +kernel
theorem dX4_pop_0 : decode cX4_pop 0 = .ok (.aload_n 0, 1) := by decide +kernel
theorem dX4_pop_1 : decode cX4_pop 1 = .ok (.dup, 1) := by decide +kernel
theorem dX4_pop_2 : decode cX4_pop 2 = .ok (.getfield 28, 3) := by decide +kernel
theorem dX4_pop_5 : decode cX4_pop 5 = .ok (.iconst 1, 1) := by decide +kernel
theorem dX4_pop_6 : decode cX4_pop 6 = .ok (.isub, 1) := by decide +kernel
theorem dX4_pop_7 : decode cX4_pop 7 = .ok (.putfield 28, 3) := by decide +kernel
theorem dX4_pop_10 : decode cX4_pop 10 = .ok (.aload_n 0, 1) := by decide +kernel
theorem dX4_pop_11 : decode cX4_pop 11 = .ok (.getfield 25, 3) := by decide +kernel
theorem dX4_pop_14 : decode cX4_pop 14 = .ok (.aload_n 0, 1) := by decide +kernel
theorem dX4_pop_15 : decode cX4_pop 15 = .ok (.getfield 28, 3) := by decide +kernel
theorem dX4_pop_18 : decode cX4_pop 18 = .ok (.invokestatic 35, 3) := by decide +kernel
theorem dX4_pop_21 : decode cX4_pop 21 = .ok (.ireturn, 1) := by decide +kernel
theorem dX4_join_0 : decode cX4_join 0 = .ok (.iload_n 0, 1) := by decide +kernel
theorem dX4_join_1 : decode cX4_join 1 = .ok (.tableswitch 109 (-17) (-10) #[105, 101, 97, 86, 75, 109, 61, 47], 47) := by decide +kernel
theorem dX4_join_48 : decode cX4_join 48 = .ok (.iload_n 1, 1) := by decide +kernel
theorem dX4_join_49 : decode cX4_join 49 = .ok (.ifCond .ne 7, 3) := by decide +kernel
theorem dX4_join_52 : decode cX4_join 52 = .ok (.iload_n 2, 1) := by decide +kernel
theorem dX4_join_53 : decode cX4_join 53 = .ok (.ifCond .eq 7, 3) := by decide +kernel
theorem dX4_join_56 : decode cX4_join 56 = .ok (.iconst 1, 1) := by decide +kernel
theorem dX4_join_57 : decode cX4_join 57 = .ok (.goto 4, 3) := by decide +kernel
theorem dX4_join_60 : decode cX4_join 60 = .ok (.iconst 0, 1) := by decide +kernel
theorem dX4_join_61 : decode cX4_join 61 = .ok (.ireturn, 1) := by decide +kernel
theorem dX4_join_62 : decode cX4_join 62 = .ok (.iload_n 1, 1) := by decide +kernel
theorem dX4_join_63 : decode cX4_join 63 = .ok (.ifCond .eq 11, 3) := by decide +kernel
theorem dX4_join_66 : decode cX4_join 66 = .ok (.iload_n 2, 1) := by decide +kernel
theorem dX4_join_67 : decode cX4_join 67 = .ok (.ifCond .eq 7, 3) := by decide +kernel
theorem dX4_join_70 : decode cX4_join 70 = .ok (.iconst 1, 1) := by decide +kernel
theorem dX4_join_71 : decode cX4_join 71 = .ok (.goto 4, 3) := by decide +kernel
theorem dX4_join_74 : decode cX4_join 74 = .ok (.iconst 0, 1) := by decide +kernel
theorem dX4_join_75 : decode cX4_join 75 = .ok (.ireturn, 1) := by decide +kernel
theorem dX4_join_76 : decode cX4_join 76 = .ok (.iload_n 1, 1) := by decide +kernel
theorem dX4_join_77 : decode cX4_join 77 = .ok (.iload_n 2, 1) := by decide +kernel
theorem dX4_join_78 : decode cX4_join 78 = .ok (.if_icmp .ge 7, 3) := by decide +kernel
theorem dX4_join_81 : decode cX4_join 81 = .ok (.iconst 1, 1) := by decide +kernel
theorem dX4_join_82 : decode cX4_join 82 = .ok (.goto 4, 3) := by decide +kernel
theorem dX4_join_85 : decode cX4_join 85 = .ok (.iconst 0, 1) := by decide +kernel
theorem dX4_join_86 : decode cX4_join 86 = .ok (.ireturn, 1) := by decide +kernel
theorem dX4_join_87 : decode cX4_join 87 = .ok (.iload_n 1, 1) := by decide +kernel
theorem dX4_join_88 : decode cX4_join 88 = .ok (.iload_n 2, 1) := by decide +kernel
theorem dX4_join_89 : decode cX4_join 89 = .ok (.if_icmp .ne 7, 3) := by decide +kernel
theorem dX4_join_92 : decode cX4_join 92 = .ok (.iconst 1, 1) := by decide +kernel
theorem dX4_join_93 : decode cX4_join 93 = .ok (.goto 4, 3) := by decide +kernel
theorem dX4_join_96 : decode cX4_join 96 = .ok (.iconst 0, 1) := by decide +kernel
theorem dX4_join_97 : decode cX4_join 97 = .ok (.ireturn, 1) := by decide +kernel
theorem dX4_join_98 : decode cX4_join 98 = .ok (.iload_n 1, 1) := by decide +kernel
theorem dX4_join_99 : decode cX4_join 99 = .ok (.iload_n 2, 1) := by decide +kernel
theorem dX4_join_100 : decode cX4_join 100 = .ok (.iadd, 1) := by decide +kernel
theorem dX4_join_101 : decode cX4_join 101 = .ok (.ireturn, 1) := by decide +kernel
theorem dX4_join_102 : decode cX4_join 102 = .ok (.iload_n 1, 1) := by decide +kernel
theorem dX4_join_103 : decode cX4_join 103 = .ok (.iload_n 2, 1) := by decide +kernel
theorem dX4_join_104 : decode cX4_join 104 = .ok (.isub, 1) := by decide +kernel
theorem dX4_join_105 : decode cX4_join 105 = .ok (.ireturn, 1) := by decide +kernel
theorem dX4_join_106 : decode cX4_join 106 = .ok (.iload_n 1, 1) := by decide +kernel
theorem dX4_join_107 : decode cX4_join 107 = .ok (.iload_n 2, 1) := by decide +kernel
theorem dX4_join_108 : decode cX4_join 108 = .ok (.imul, 1) := by decide +kernel
theorem dX4_join_109 : decode cX4_join 109 = .ok (.ireturn, 1) := by decide +kernel
theorem dX4_join_110 : decode cX4_join 110 = .ok (.iload_n 2, 1) := by decide +kernel
theorem dX4_join_111 : decode cX4_join 111 = .ok (.ifCond .ne 7, 3) := by decide +kernel
theorem dX4_join_114 : decode cX4_join 114 = .ok (.iconst 0, 1) := by decide +kernel
theorem dX4_join_115 : decode cX4_join 115 = .ok (.goto 6, 3) := by decide +kernel
theorem dX4_join_118 : decode cX4_join 118 = .ok (.iload_n 1, 1) := by decide +kernel
theorem dX4_join_119 : decode cX4_join 119 = .ok (.iload_n 2, 1) := by decide +kernel
theorem dX4_join_120 : decode cX4_join 120 = .ok (.idiv, 1) := by decide +kernel
theorem dX4_join_121 : decode cX4_join 121 = .ok (.ireturn, 1) := by decide +kernel
theorem dX5_init_0 : decode cX5_init 0 = .ok (.aload_n 0, 1) := by decide +kernel
theorem dX5_init_1 : decode cX5_init 1 = .ok (.invokespecial 3, 3) := by decide +kernel
theorem dX5_init_4 : decode cX5_init 4 = .ok (.aload_n 0, 1) := by decide +kernel
theorem dX5_init_5 : decode cX5_init 5 = .ok (.new 9, 3) := by decide +kernel
theorem dX5_init_8 : decode cX5_init 8 = .ok (.dup, 1) := by decide +kernel
theorem dX5_init_9 : decode cX5_init 9 = .ok (.invokespecial 11, 3) := by decide +kernel
theorem dX5_init_12 : decode cX5_init 12 = .ok (.putfield 12, 3) := by decide +kernel
theorem dX5_init_15 : decode cX5_init 15 = .ok (.aload_n 0, 1) := by decide +kernel
theorem dX5_init_16 : decode cX5_init 16 = .ok (.new 18, 3) := by decide +kernel
theorem dX5_init_19 : decode cX5_init 19 = .ok (.dup, 1) := by decide +kernel
theorem dX5_init_20 : decode cX5_init 20 = .ok (.invokespecial 20, 3) := by decide +kernel
theorem dX5_init_23 : decode cX5_init 23 = .ok (.putfield 21, 3) := by decide +kernel
theorem dX5_init_26 : decode cX5_init 26 = .ok (.aload_n 0, 1) := by decide +kernel
theorem dX5_init_27 : decode cX5_init 27 = .ok (.new 25, 3) := by decide +kernel
theorem dX5_init_30 : decode cX5_init 30 = .ok (.dup, 1) := by decide +kernel
theorem dX5_init_31 : decode cX5_init 31 = .ok (.invokespecial 27, 3) := by decide +kernel
theorem dX5_init_34 : decode cX5_init 34 = .ok (.putfield 28, 3) := by decide +kernel
theorem dX5_init_37 : decode cX5_init 37 = .ok (.aload_n 0, 1) := by decide +kernel
theorem dX5_init_38 : decode cX5_init 38 = .ok (.iconst 3, 1) := by decide +kernel
theorem dX5_init_39 : decode cX5_init 39 = .ok (.putfield 32, 3) := by decide +kernel
theorem dX5_init_42 : decode cX5_init 42 = .ok (.aload_n 0, 1) := by decide +kernel
theorem dX5_init_43 : decode cX5_init 43 = .ok (.sipush 400, 3) := by decide +kernel
theorem dX5_init_46 : decode cX5_init 46 = .ok (.putfield 36, 3) := by decide +kernel
theorem dX5_init_49 : decode cX5_init 49 = .ok (.aload_n 0, 1) := by decide +kernel
theorem dX5_init_50 : decode cX5_init 50 = .ok (.iconst 1, 1) := by decide +kernel
theorem dX5_init_51 : decode cX5_init 51 = .ok (.putfield 39, 3) := by decide +kernel
theorem dX5_init_54 : decode cX5_init 54 = .ok (.return_, 1) := by decide +kernel
theorem dX5_clear_0 : decode cX5_clear 0 = .ok (.aload_n 0, 1) := by decide +kernel
theorem dX5_clear_1 : decode cX5_clear 1 = .ok (.getfield 12, 3) := by decide +kernel
theorem dX5_clear_4 : decode cX5_clear 4 = .ok (.invokevirtual 42, 3) := by decide +kernel
theorem dX5_clear_7 : decode cX5_clear 7 = .ok (.aload_n 0, 1) := by decide +kernel
theorem dX5_clear_8 : decode cX5_clear 8 = .ok (.getfield 21, 3) := by decide +kernel
theorem dX5_clear_11 : decode cX5_clear 11 = .ok (.iconst 0, 1) := by decide +kernel
theorem dX5_clear_12 : decode cX5_clear 12 = .ok (.putfield 45, 3) := by decide +kernel
theorem dX5_clear_15 : decode cX5_clear 15 = .ok (.aload_n 0, 1) := by decide +kernel
theorem dX5_clear_16 : decode cX5_clear 16 = .ok (.getfield 28, 3) := by decide +kernel
theorem dX5_clear_19 : decode cX5_clear 19 = .ok (.invokevirtual 48, 3) := by decide +kernel
theorem dX5_clear_22 : decode cX5_clear 22 = .ok (.aload_n 0, 1) := by decide +kernel
theorem dX5_clear_23 : decode cX5_clear 23 = .ok (.iconst 3, 1) := by decide +kernel
theorem dX5_clear_24 : decode cX5_clear 24 = .ok (.putfield 32, 3) := by decide +kernel
theorem dX5_clear_27 : decode cX5_clear 27 = .ok (.aload_n 0, 1) := by decide +kernel
theorem dX5_clear_28 : decode cX5_clear 28 = .ok (.sipush 400, 3) := by decide +kernel
theorem dX5_clear_31 : decode cX5_clear 31 = .ok (.putfield 36, 3) := by decide +kernel
theorem dX5_clear_34 : decode cX5_clear 34 = .ok (.aload_n 0, 1) := by decide +kernel
theorem dX5_clear_35 : decode cX5_clear 35 = .ok (.iconst 1, 1) := by decide +kernel
theorem dX5_clear_36 : decode cX5_clear 36 = .ok (.putfield 39, 3) := by decide +kernel
theorem dX5_clear_39 : decode cX5_clear 39 = .ok (.return_, 1) := by decide +kernel
theorem dX6_init_0 : decode cX6_init 0 = .ok (.aload_n 0, 1) := by decide +kernel
theorem dX6_init_1 : decode cX6_init 1 = .ok (.invokespecial 3, 3) := by decide +kernel
theorem dX6_init_4 : decode cX6_init 4 = .ok (.aload_n 0, 1) := by decide +kernel
theorem dX6_init_5 : decode cX6_init 5 = .ok (.iconst 0, 1) := by decide +kernel
theorem dX6_init_6 : decode cX6_init 6 = .ok (.putfield 9, 3) := by decide +kernel
theorem dX6_init_9 : decode cX6_init 9 = .ok (.aload_n 0, 1) := by decide +kernel
theorem dX6_init_10 : decode cX6_init 10 = .ok (.iconst 0, 1) := by decide +kernel
theorem dX6_init_11 : decode cX6_init 11 = .ok (.putfield 15, 3) := by decide +kernel
theorem dX6_init_14 : decode cX6_init 14 = .ok (.aload_n 0, 1) := by decide +kernel
theorem dX6_init_15 : decode cX6_init 15 = .ok (.iconst 0, 1) := by decide +kernel
theorem dX6_init_16 : decode cX6_init 16 = .ok (.putfield 18, 3) := by decide +kernel
theorem dX6_init_19 : decode cX6_init 19 = .ok (.aload_n 0, 1) := by decide +kernel
theorem dX6_init_20 : decode cX6_init 20 = .ok (.iconst 1, 1) := by decide +kernel
theorem dX6_init_21 : decode cX6_init 21 = .ok (.putfield 21, 3) := by decide +kernel
theorem dX6_init_24 : decode cX6_init 24 = .ok (.aload_n 0, 1) := by decide +kernel
theorem dX6_init_25 : decode cX6_init 25 = .ok (.iconst 0, 1) := by decide +kernel
theorem dX6_init_26 : decode cX6_init 26 = .ok (.putfield 24, 3) := by decide +kernel
theorem dX6_init_29 : decode cX6_init 29 = .ok (.aload_n 0, 1) := by decide +kernel
theorem dX6_init_30 : decode cX6_init 30 = .ok (.iconst 0, 1) := by decide +kernel
theorem dX6_init_31 : decode cX6_init 31 = .ok (.putfield 27, 3) := by decide +kernel
theorem dX6_init_34 : decode cX6_init 34 = .ok (.aload_n 0, 1) := by decide +kernel
theorem dX6_init_35 : decode cX6_init 35 = .ok (.bipush 10, 2) := by decide +kernel
theorem dX6_init_37 : decode cX6_init 37 = .ok (.newarray .int, 2) := by decide +kernel
theorem dX6_init_39 : decode cX6_init 39 = .ok (.putfield 30, 3) := by decide +kernel
theorem dX6_init_42 : decode cX6_init 42 = .ok (.aload_n 0, 1) := by decide +kernel
theorem dX6_init_43 : decode cX6_init 43 = .ok (.bipush 10, 2) := by decide +kernel
theorem dX6_init_45 : decode cX6_init 45 = .ok (.newarray .int, 2) := by decide +kernel
theorem dX6_init_47 : decode cX6_init 47 = .ok (.putfield 34, 3) := by decide +kernel
theorem dX6_init_50 : decode cX6_init 50 = .ok (.aload_n 0, 1) := by decide +kernel
theorem dX6_init_51 : decode cX6_init 51 = .ok (.iconst 0, 1) := by decide +kernel
theorem dX6_init_52 : decode cX6_init 52 = .ok (.putfield 37, 3) := by decide +kernel
theorem dX6_init_55 : decode cX6_init 55 = .ok (.aload_n 0, 1) := by decide +kernel
theorem dX6_init_56 : decode cX6_init 56 = .ok (.sipush 1040, 3) := by decide +kernel
theorem dX6_init_59 : decode cX6_init 59 = .ok (.newarray .int, 2) := by decide +kernel
theorem dX6_init_61 : decode cX6_init 61 = .ok (.putfield 40, 3) := by decide +kernel
theorem dX6_init_64 : decode cX6_init 64 = .ok (.aload_n 0, 1) := by decide +kernel
theorem dX6_init_65 : decode cX6_init 65 = .ok (.iconst 0, 1) := by decide +kernel
theorem dX6_init_66 : decode cX6_init 66 = .ok (.putfield 43, 3) := by decide +kernel
theorem dX6_init_69 : decode cX6_init 69 = .ok (.aload_n 0, 1) := by decide +kernel
theorem dX6_init_70 : decode cX6_init 70 = .ok (.bipush 12, 2) := by decide +kernel
theorem dX6_init_72 : decode cX6_init 72 = .ok (.newarray .int, 2) := by decide +kernel
theorem dX6_init_74 : decode cX6_init 74 = .ok (.putfield 46, 3) := by decide +kernel
theorem dX6_init_77 : decode cX6_init 77 = .ok (.aload_n 0, 1) := by decide +kernel
theorem dX6_init_78 : decode cX6_init 78 = .ok (.bipush 12, 2) := by decide +kernel
theorem dX6_init_80 : decode cX6_init 80 = .ok (.newarray .int, 2) := by decide +kernel
theorem dX6_init_82 : decode cX6_init 82 = .ok (.putfield 49, 3) := by decide +kernel
theorem dX6_init_85 : decode cX6_init 85 = .ok (.aload_n 0, 1) := by decide +kernel
theorem dX6_init_86 : decode cX6_init 86 = .ok (.iconst 0, 1) := by decide +kernel
theorem dX6_init_87 : decode cX6_init 87 = .ok (.putfield 52, 3) := by decide +kernel
theorem dX6_init_90 : decode cX6_init 90 = .ok (.aload_n 0, 1) := by decide +kernel
theorem dX6_init_91 : decode cX6_init 91 = .ok (.bipush 8, 2) := by decide +kernel
theorem dX6_init_93 : decode cX6_init 93 = .ok (.newarray .int, 2) := by decide +kernel
theorem dX6_init_95 : decode cX6_init 95 = .ok (.putfield 55, 3) := by decide +kernel
theorem dX6_init_98 : decode cX6_init 98 = .ok (.aload_n 0, 1) := by decide +kernel
theorem dX6_init_99 : decode cX6_init 99 = .ok (.bipush 8, 2) := by decide +kernel
theorem dX6_init_101 : decode cX6_init 101 = .ok (.newarray .int, 2) := by decide +kernel
theorem dX6_init_103 : decode cX6_init 103 = .ok (.putfield 58, 3) := by decide +kernel
theorem dX6_init_106 : decode cX6_init 106 = .ok (.aload_n 0, 1) := by decide +kernel
theorem dX6_init_107 : decode cX6_init 107 = .ok (.iconst 3, 1) := by decide +kernel
theorem dX6_init_108 : decode cX6_init 108 = .ok (.newarray .int, 2) := by decide +kernel
theorem dX6_init_110 : decode cX6_init 110 = .ok (.putfield 61, 3) := by decide +kernel
theorem dX6_init_113 : decode cX6_init 113 = .ok (.return_, 1) := by decide +kernel
theorem dX6_begin_0 : decode cX6_begin 0 = .ok (.aload_n 0, 1) := by decide +kernel
theorem dX6_begin_1 : decode cX6_begin 1 = .ok (.aload_n 1, 1) := by decide +kernel
theorem dX6_begin_2 : decode cX6_begin 2 = .ok (.getfield 64, 3) := by decide +kernel
theorem dX6_begin_5 : decode cX6_begin 5 = .ok (.getfield 70, 3) := by decide +kernel
theorem dX6_begin_8 : decode cX6_begin 8 = .ok (.ifCond .le 7, 3) := by decide +kernel
theorem dX6_begin_11 : decode cX6_begin 11 = .ok (.iconst 1, 1) := by decide +kernel
theorem dX6_begin_12 : decode cX6_begin 12 = .ok (.goto 4, 3) := by decide +kernel
theorem dX6_begin_15 : decode cX6_begin 15 = .ok (.iconst 0, 1) := by decide +kernel
theorem dX6_begin_16 : decode cX6_begin 16 = .ok (.putfield 9, 3) := by decide +kernel
theorem dX6_begin_19 : decode cX6_begin 19 = .ok (.aload_n 0, 1) := by decide +kernel
theorem dX6_begin_20 : decode cX6_begin 20 = .ok (.iconst 0, 1) := by decide +kernel
theorem dX6_begin_21 : decode cX6_begin 21 = .ok (.putfield 15, 3) := by decide +kernel
theorem dX6_begin_24 : decode cX6_begin 24 = .ok (.aload_n 0, 1) := by decide +kernel
theorem dX6_begin_25 : decode cX6_begin 25 = .ok (.iconst 0, 1) := by decide +kernel
theorem dX6_begin_26 : decode cX6_begin 26 = .ok (.putfield 18, 3) := by decide +kernel
theorem dX6_begin_29 : decode cX6_begin 29 = .ok (.aload_n 0, 1) := by decide +kernel
theorem dX6_begin_30 : decode cX6_begin 30 = .ok (.aload_n 1, 1) := by decide +kernel
theorem dX6_begin_31 : decode cX6_begin 31 = .ok (.getfield 75, 3) := by decide +kernel
theorem dX6_begin_34 : decode cX6_begin 34 = .ok (.putfield 21, 3) := by decide +kernel
theorem dX6_begin_37 : decode cX6_begin 37 = .ok (.aload_n 0, 1) := by decide +kernel
theorem dX6_begin_38 : decode cX6_begin 38 = .ok (.aload_n 1, 1) := by decide +kernel
theorem dX6_begin_39 : decode cX6_begin 39 = .ok (.getfield 76, 3) := by decide +kernel
theorem dX6_begin_42 : decode cX6_begin 42 = .ok (.getfield 80, 3) := by decide +kernel
theorem dX6_begin_45 : decode cX6_begin 45 = .ok (.putfield 24, 3) := by decide +kernel
theorem dX6_begin_48 : decode cX6_begin 48 = .ok (.aload_n 0, 1) := by decide +kernel
theorem dX6_begin_49 : decode cX6_begin 49 = .ok (.iconst 0, 1) := by decide +kernel
theorem dX6_begin_50 : decode cX6_begin 50 = .ok (.putfield 27, 3) := by decide +kernel
theorem dX6_begin_53 : decode cX6_begin 53 = .ok (.aload_n 1, 1) := by decide +kernel
theorem dX6_begin_54 : decode cX6_begin 54 = .ok (.getfield 76, 3) := by decide +kernel
theorem dX6_begin_57 : decode cX6_begin 57 = .ok (.getfield 83, 3) := by decide +kernel
theorem dX6_begin_60 : decode cX6_begin 60 = .ok (.aload_n 0, 1) := by decide +kernel
theorem dX6_begin_61 : decode cX6_begin 61 = .ok (.getfield 30, 3) := by decide +kernel
theorem dX6_begin_64 : decode cX6_begin 64 = .ok (.invokestatic 84, 3) := by decide +kernel
theorem dX6_begin_67 : decode cX6_begin 67 = .ok (.aload_n 1, 1) := by decide +kernel
theorem dX6_begin_68 : decode cX6_begin 68 = .ok (.getfield 76, 3) := by decide +kernel
theorem dX6_begin_71 : decode cX6_begin 71 = .ok (.getfield 88, 3) := by decide +kernel
theorem dX6_begin_74 : decode cX6_begin 74 = .ok (.aload_n 0, 1) := by decide +kernel
theorem dX6_begin_75 : decode cX6_begin 75 = .ok (.getfield 34, 3) := by decide +kernel
theorem dX6_begin_78 : decode cX6_begin 78 = .ok (.invokestatic 84, 3) := by decide +kernel
theorem dX6_begin_81 : decode cX6_begin 81 = .ok (.aload_n 0, 1) := by decide +kernel
theorem dX6_begin_82 : decode cX6_begin 82 = .ok (.iconst 0, 1) := by decide +kernel
theorem dX6_begin_83 : decode cX6_begin 83 = .ok (.putfield 37, 3) := by decide +kernel
theorem dX6_begin_86 : decode cX6_begin 86 = .ok (.aload_n 0, 1) := by decide +kernel
theorem dX6_begin_87 : decode cX6_begin 87 = .ok (.iconst 0, 1) := by decide +kernel
theorem dX6_begin_88 : decode cX6_begin 88 = .ok (.putfield 43, 3) := by decide +kernel
theorem dX6_begin_91 : decode cX6_begin 91 = .ok (.aload_n 0, 1) := by decide +kernel
theorem dX6_begin_92 : decode cX6_begin 92 = .ok (.iconst 0, 1) := by decide +kernel
theorem dX6_begin_93 : decode cX6_begin 93 = .ok (.putfield 52, 3) := by decide +kernel
theorem dX6_begin_96 : decode cX6_begin 96 = .ok (.return_, 1) := by decide +kernel
theorem dX6_copy_0 : decode cX6_copy 0 = .ok (.aload_n 0, 1) := by decide +kernel
theorem dX6_copy_1 : decode cX6_copy 1 = .ok (.aload_n 1, 1) := by decide +kernel
theorem dX6_copy_2 : decode cX6_copy 2 = .ok (.getfield 9, 3) := by decide +kernel
theorem dX6_copy_5 : decode cX6_copy 5 = .ok (.putfield 9, 3) := by decide +kernel
theorem dX6_copy_8 : decode cX6_copy 8 = .ok (.aload_n 0, 1) := by decide +kernel
theorem dX6_copy_9 : decode cX6_copy 9 = .ok (.aload_n 1, 1) := by decide +kernel
theorem dX6_copy_10 : decode cX6_copy 10 = .ok (.getfield 15, 3) := by decide +kernel
theorem dX6_copy_13 : decode cX6_copy 13 = .ok (.putfield 15, 3) := by decide +kernel
theorem dX6_copy_16 : decode cX6_copy 16 = .ok (.aload_n 0, 1) := by decide +kernel
theorem dX6_copy_17 : decode cX6_copy 17 = .ok (.aload_n 1, 1) := by decide +kernel
theorem dX6_copy_18 : decode cX6_copy 18 = .ok (.getfield 18, 3) := by decide +kernel
theorem dX6_copy_21 : decode cX6_copy 21 = .ok (.putfield 18, 3) := by decide +kernel
theorem dX6_copy_24 : decode cX6_copy 24 = .ok (.aload_n 0, 1) := by decide +kernel
theorem dX6_copy_25 : decode cX6_copy 25 = .ok (.aload_n 1, 1) := by decide +kernel
theorem dX6_copy_26 : decode cX6_copy 26 = .ok (.getfield 21, 3) := by decide +kernel
theorem dX6_copy_29 : decode cX6_copy 29 = .ok (.putfield 21, 3) := by decide +kernel
theorem dX6_copy_32 : decode cX6_copy 32 = .ok (.aload_n 0, 1) := by decide +kernel
theorem dX6_copy_33 : decode cX6_copy 33 = .ok (.aload_n 1, 1) := by decide +kernel
theorem dX6_copy_34 : decode cX6_copy 34 = .ok (.getfield 24, 3) := by decide +kernel
theorem dX6_copy_37 : decode cX6_copy 37 = .ok (.putfield 24, 3) := by decide +kernel
theorem dX6_copy_40 : decode cX6_copy 40 = .ok (.aload_n 0, 1) := by decide +kernel
theorem dX6_copy_41 : decode cX6_copy 41 = .ok (.aload_n 1, 1) := by decide +kernel
theorem dX6_copy_42 : decode cX6_copy 42 = .ok (.getfield 27, 3) := by decide +kernel
theorem dX6_copy_45 : decode cX6_copy 45 = .ok (.putfield 27, 3) := by decide +kernel
theorem dX6_copy_48 : decode cX6_copy 48 = .ok (.aload_n 1, 1) := by decide +kernel
theorem dX6_copy_49 : decode cX6_copy 49 = .ok (.getfield 30, 3) := by decide +kernel
theorem dX6_copy_52 : decode cX6_copy 52 = .ok (.aload_n 0, 1) := by decide +kernel
theorem dX6_copy_53 : decode cX6_copy 53 = .ok (.getfield 30, 3) := by decide +kernel
theorem dX6_copy_56 : decode cX6_copy 56 = .ok (.invokestatic 84, 3) := by decide +kernel
theorem dX6_copy_59 : decode cX6_copy 59 = .ok (.aload_n 1, 1) := by decide +kernel
theorem dX6_copy_60 : decode cX6_copy 60 = .ok (.getfield 34, 3) := by decide +kernel
theorem dX6_copy_63 : decode cX6_copy 63 = .ok (.aload_n 0, 1) := by decide +kernel
theorem dX6_copy_64 : decode cX6_copy 64 = .ok (.getfield 34, 3) := by decide +kernel
theorem dX6_copy_67 : decode cX6_copy 67 = .ok (.invokestatic 84, 3) := by decide +kernel
theorem dX6_copy_70 : decode cX6_copy 70 = .ok (.aload_n 0, 1) := by decide +kernel
theorem dX6_copy_71 : decode cX6_copy 71 = .ok (.aload_n 1, 1) := by decide +kernel
theorem dX6_copy_72 : decode cX6_copy 72 = .ok (.getfield 37, 3) := by decide +kernel
theorem dX6_copy_75 : decode cX6_copy 75 = .ok (.putfield 37, 3) := by decide +kernel
theorem dX6_copy_78 : decode cX6_copy 78 = .ok (.aload_n 1, 1) := by decide +kernel
theorem dX6_copy_79 : decode cX6_copy 79 = .ok (.getfield 40, 3) := by decide +kernel
theorem dX6_copy_82 : decode cX6_copy 82 = .ok (.aload_n 0, 1) := by decide +kernel
theorem dX6_copy_83 : decode cX6_copy 83 = .ok (.getfield 40, 3) := by decide +kernel
theorem dX6_copy_86 : decode cX6_copy 86 = .ok (.invokestatic 84, 3) := by decide +kernel
theorem dX6_copy_89 : decode cX6_copy 89 = .ok (.aload_n 0, 1) := by decide +kernel
theorem dX6_copy_90 : decode cX6_copy 90 = .ok (.aload_n 1, 1) := by decide +kernel
theorem dX6_copy_91 : decode cX6_copy 91 = .ok (.getfield 43, 3) := by decide +kernel
theorem dX6_copy_94 : decode cX6_copy 94 = .ok (.putfield 43, 3) := by decide +kernel
theorem dX6_copy_97 : decode cX6_copy 97 = .ok (.aload_n 1, 1) := by decide +kernel
theorem dX6_copy_98 : decode cX6_copy 98 = .ok (.getfield 46, 3) := by decide +kernel
theorem dX6_copy_101 : decode cX6_copy 101 = .ok (.aload_n 0, 1) := by decide +kernel
theorem dX6_copy_102 : decode cX6_copy 102 = .ok (.getfield 46, 3) := by decide +kernel
theorem dX6_copy_105 : decode cX6_copy 105 = .ok (.invokestatic 84, 3) := by decide +kernel
theorem dX6_copy_108 : decode cX6_copy 108 = .ok (.aload_n 1, 1) := by decide +kernel
theorem dX6_copy_109 : decode cX6_copy 109 = .ok (.getfield 49, 3) := by decide +kernel
theorem dX6_copy_112 : decode cX6_copy 112 = .ok (.aload_n 0, 1) := by decide +kernel
theorem dX6_copy_113 : decode cX6_copy 113 = .ok (.getfield 49, 3) := by decide +kernel
theorem dX6_copy_116 : decode cX6_copy 116 = .ok (.invokestatic 84, 3) := by decide +kernel
theorem dX6_copy_119 : decode cX6_copy 119 = .ok (.aload_n 0, 1) := by decide +kernel
theorem dX6_copy_120 : decode cX6_copy 120 = .ok (.aload_n 1, 1) := by decide +kernel
theorem dX6_copy_121 : decode cX6_copy 121 = .ok (.getfield 52, 3) := by decide +kernel
theorem dX6_copy_124 : decode cX6_copy 124 = .ok (.putfield 52, 3) := by decide +kernel
theorem dX6_copy_127 : decode cX6_copy 127 = .ok (.aload_n 1, 1) := by decide +kernel
theorem dX6_copy_128 : decode cX6_copy 128 = .ok (.getfield 55, 3) := by decide +kernel
theorem dX6_copy_131 : decode cX6_copy 131 = .ok (.aload_n 0, 1) := by decide +kernel
theorem dX6_copy_132 : decode cX6_copy 132 = .ok (.getfield 55, 3) := by decide +kernel
theorem dX6_copy_135 : decode cX6_copy 135 = .ok (.invokestatic 84, 3) := by decide +kernel
theorem dX6_copy_138 : decode cX6_copy 138 = .ok (.aload_n 1, 1) := by decide +kernel
theorem dX6_copy_139 : decode cX6_copy 139 = .ok (.getfield 58, 3) := by decide +kernel
theorem dX6_copy_142 : decode cX6_copy 142 = .ok (.aload_n 0, 1) := by decide +kernel
theorem dX6_copy_143 : decode cX6_copy 143 = .ok (.getfield 58, 3) := by decide +kernel
theorem dX6_copy_146 : decode cX6_copy 146 = .ok (.invokestatic 84, 3) := by decide +kernel
theorem dX6_copy_149 : decode cX6_copy 149 = .ok (.aload_n 1, 1) := by decide +kernel
theorem dX6_copy_150 : decode cX6_copy 150 = .ok (.getfield 61, 3) := by decide +kernel
theorem dX6_copy_153 : decode cX6_copy 153 = .ok (.aload_n 0, 1) := by decide +kernel
theorem dX6_copy_154 : decode cX6_copy 154 = .ok (.getfield 61, 3) := by decide +kernel
theorem dX6_copy_157 : decode cX6_copy 157 = .ok (.invokestatic 84, 3) := by decide +kernel
theorem dX6_copy_160 : decode cX6_copy 160 = .ok (.return_, 1) := by decide +kernel
theorem dX6_refuse_0 : decode cX6_refuse 0 = .ok (.aload_n 0, 1) := by decide +kernel
theorem dX6_refuse_1 : decode cX6_refuse 1 = .ok (.getfield 61, 3) := by decide +kernel
theorem dX6_refuse_4 : decode cX6_refuse 4 = .ok (.iload_n 1, 1) := by decide +kernel
theorem dX6_refuse_5 : decode cX6_refuse 5 = .ok (.aload_n 0, 1) := by decide +kernel
theorem dX6_refuse_6 : decode cX6_refuse 6 = .ok (.getfield 61, 3) := by decide +kernel
theorem dX6_refuse_9 : decode cX6_refuse 9 = .ok (.iload_n 1, 1) := by decide +kernel
theorem dX6_refuse_10 : decode cX6_refuse 10 = .ok (.invokestatic 89, 3) := by decide +kernel
theorem dX6_refuse_13 : decode cX6_refuse 13 = .ok (.iconst 1, 1) := by decide +kernel
theorem dX6_refuse_14 : decode cX6_refuse 14 = .ok (.iadd, 1) := by decide +kernel
theorem dX6_refuse_15 : decode cX6_refuse 15 = .ok (.invokestatic 93, 3) := by decide +kernel
theorem dX6_refuse_18 : decode cX6_refuse 18 = .ok (.return_, 1) := by decide +kernel
theorem dX6_keepAct_0 : decode cX6_keepAct 0 = .ok (.aload_n 0, 1) := by decide +kernel
theorem dX6_keepAct_1 : decode cX6_keepAct 1 = .ok (.getfield 37, 3) := by decide +kernel
theorem dX6_keepAct_4 : decode cX6_keepAct 4 = .ok (.bipush 40, 2) := by decide +kernel
theorem dX6_keepAct_6 : decode cX6_keepAct 6 = .ok (.if_icmp .ne 30, 3) := by decide +kernel
theorem dX6_keepAct_9 : decode cX6_keepAct 9 = .ok (.aload_n 0, 1) := by decide +kernel
theorem dX6_keepAct_10 : decode cX6_keepAct 10 = .ok (.getfield 40, 3) := by decide +kernel
theorem dX6_keepAct_13 : decode cX6_keepAct 13 = .ok (.bipush 26, 2) := by decide +kernel
theorem dX6_keepAct_15 : decode cX6_keepAct 15 = .ok (.aload_n 0, 1) := by decide +kernel
theorem dX6_keepAct_16 : decode cX6_keepAct 16 = .ok (.getfield 40, 3) := by decide +kernel
theorem dX6_keepAct_19 : decode cX6_keepAct 19 = .ok (.iconst 0, 1) := by decide +kernel
theorem dX6_keepAct_20 : decode cX6_keepAct 20 = .ok (.sipush 1014, 3) := by decide +kernel
theorem dX6_keepAct_23 : decode cX6_keepAct 23 = .ok (.invokestatic 97, 3) := by decide +kernel
theorem dX6_keepAct_26 : decode cX6_keepAct 26 = .ok (.aload_n 0, 1) := by decide +kernel
theorem dX6_keepAct_27 : decode cX6_keepAct 27 = .ok (.dup, 1) := by decide +kernel
theorem dX6_keepAct_28 : decode cX6_keepAct 28 = .ok (.getfield 37, 3) := by decide +kernel
theorem dX6_keepAct_31 : decode cX6_keepAct 31 = .ok (.iconst 1, 1) := by decide +kernel
theorem dX6_keepAct_32 : decode cX6_keepAct 32 = .ok (.isub, 1) := by decide +kernel
theorem dX6_keepAct_33 : decode cX6_keepAct 33 = .ok (.putfield 37, 3) := by decide +kernel
theorem dX6_keepAct_36 : decode cX6_keepAct 36 = .ok (.aload_n 0, 1) := by decide +kernel
theorem dX6_keepAct_37 : decode cX6_keepAct 37 = .ok (.getfield 37, 3) := by decide +kernel
theorem dX6_keepAct_40 : decode cX6_keepAct 40 = .ok (.bipush 26, 2) := by decide +kernel
theorem dX6_keepAct_42 : decode cX6_keepAct 42 = .ok (.imul, 1) := by decide +kernel
theorem dX6_keepAct_43 : decode cX6_keepAct 43 = .ok (.istore_n 1, 1) := by decide +kernel
theorem dX6_keepAct_44 : decode cX6_keepAct 44 = .ok (.aload_n 0, 1) := by decide +kernel
theorem dX6_keepAct_45 : decode cX6_keepAct 45 = .ok (.getfield 40, 3) := by decide +kernel
theorem dX6_keepAct_48 : decode cX6_keepAct 48 = .ok (.iload_n 1, 1) := by decide +kernel
theorem dX6_keepAct_49 : decode cX6_keepAct 49 = .ok (.aload_n 0, 1) := by decide +kernel
theorem dX6_keepAct_50 : decode cX6_keepAct 50 = .ok (.getfield 9, 3) := by decide +kernel
theorem dX6_keepAct_53 : decode cX6_keepAct 53 = .ok (.invokestatic 93, 3) := by decide +kernel
theorem dX6_keepAct_56 : decode cX6_keepAct 56 = .ok (.aload_n 0, 1) := by decide +kernel
theorem dX6_keepAct_57 : decode cX6_keepAct 57 = .ok (.getfield 40, 3) := by decide +kernel
theorem dX6_keepAct_60 : decode cX6_keepAct 60 = .ok (.iload_n 1, 1) := by decide +kernel
theorem dX6_keepAct_61 : decode cX6_keepAct 61 = .ok (.iconst 1, 1) := by decide +kernel
theorem dX6_keepAct_62 : decode cX6_keepAct 62 = .ok (.iadd, 1) := by decide +kernel
theorem dX6_keepAct_63 : decode cX6_keepAct 63 = .ok (.aload_n 0, 1) := by decide +kernel
theorem dX6_keepAct_64 : decode cX6_keepAct 64 = .ok (.getfield 15, 3) := by decide +kernel
theorem dX6_keepAct_67 : decode cX6_keepAct 67 = .ok (.invokestatic 93, 3) := by decide +kernel
theorem dX6_keepAct_70 : decode cX6_keepAct 70 = .ok (.aload_n 0, 1) := by decide +kernel
theorem dX6_keepAct_71 : decode cX6_keepAct 71 = .ok (.getfield 40, 3) := by decide +kernel
theorem dX6_keepAct_74 : decode cX6_keepAct 74 = .ok (.iload_n 1, 1) := by decide +kernel
theorem dX6_keepAct_75 : decode cX6_keepAct 75 = .ok (.iconst 2, 1) := by decide +kernel
theorem dX6_keepAct_76 : decode cX6_keepAct 76 = .ok (.iadd, 1) := by decide +kernel
theorem dX6_keepAct_77 : decode cX6_keepAct 77 = .ok (.aload_n 0, 1) := by decide +kernel
theorem dX6_keepAct_78 : decode cX6_keepAct 78 = .ok (.getfield 18, 3) := by decide +kernel
theorem dX6_keepAct_81 : decode cX6_keepAct 81 = .ok (.invokestatic 93, 3) := by decide +kernel
theorem dX6_keepAct_84 : decode cX6_keepAct 84 = .ok (.aload_n 0, 1) := by decide +kernel
theorem dX6_keepAct_85 : decode cX6_keepAct 85 = .ok (.getfield 40, 3) := by decide +kernel
theorem dX6_keepAct_88 : decode cX6_keepAct 88 = .ok (.iload_n 1, 1) := by decide +kernel
theorem dX6_keepAct_89 : decode cX6_keepAct 89 = .ok (.iconst 3, 1) := by decide +kernel
theorem dX6_keepAct_90 : decode cX6_keepAct 90 = .ok (.iadd, 1) := by decide +kernel
theorem dX6_keepAct_91 : decode cX6_keepAct 91 = .ok (.aload_n 0, 1) := by decide +kernel
theorem dX6_keepAct_92 : decode cX6_keepAct 92 = .ok (.getfield 21, 3) := by decide +kernel
theorem dX6_keepAct_95 : decode cX6_keepAct 95 = .ok (.invokestatic 93, 3) := by decide +kernel
theorem dX6_keepAct_98 : decode cX6_keepAct 98 = .ok (.aload_n 0, 1) := by decide +kernel
theorem dX6_keepAct_99 : decode cX6_keepAct 99 = .ok (.getfield 40, 3) := by decide +kernel
theorem dX6_keepAct_102 : decode cX6_keepAct 102 = .ok (.iload_n 1, 1) := by decide +kernel
theorem dX6_keepAct_103 : decode cX6_keepAct 103 = .ok (.iconst 4, 1) := by decide +kernel
theorem dX6_keepAct_104 : decode cX6_keepAct 104 = .ok (.iadd, 1) := by decide +kernel
theorem dX6_keepAct_105 : decode cX6_keepAct 105 = .ok (.aload_n 0, 1) := by decide +kernel
theorem dX6_keepAct_106 : decode cX6_keepAct 106 = .ok (.getfield 24, 3) := by decide +kernel
theorem dX6_keepAct_109 : decode cX6_keepAct 109 = .ok (.invokestatic 93, 3) := by decide +kernel
theorem dX6_keepAct_112 : decode cX6_keepAct 112 = .ok (.aload_n 0, 1) := by decide +kernel
theorem dX6_keepAct_113 : decode cX6_keepAct 113 = .ok (.getfield 40, 3) := by decide +kernel
theorem dX6_keepAct_116 : decode cX6_keepAct 116 = .ok (.iload_n 1, 1) := by decide +kernel
theorem dX6_keepAct_117 : decode cX6_keepAct 117 = .ok (.iconst 5, 1) := by decide +kernel
theorem dX6_keepAct_118 : decode cX6_keepAct 118 = .ok (.iadd, 1) := by decide +kernel
theorem dX6_keepAct_119 : decode cX6_keepAct 119 = .ok (.aload_n 0, 1) := by decide +kernel
theorem dX6_keepAct_120 : decode cX6_keepAct 120 = .ok (.getfield 27, 3) := by decide +kernel
theorem dX6_keepAct_123 : decode cX6_keepAct 123 = .ok (.invokestatic 93, 3) := by decide +kernel
theorem dX6_keepAct_126 : decode cX6_keepAct 126 = .ok (.iconst 0, 1) := by decide +kernel
theorem dX6_keepAct_127 : decode cX6_keepAct 127 = .ok (.istore_n 2, 1) := by decide +kernel
theorem dX6_keepAct_128 : decode cX6_keepAct 128 = .ok (.iload_n 2, 1) := by decide +kernel
theorem dX6_keepAct_129 : decode cX6_keepAct 129 = .ok (.bipush 10, 2) := by decide +kernel
theorem dX6_keepAct_131 : decode cX6_keepAct 131 = .ok (.if_icmp .ge 54, 3) := by decide +kernel
theorem dX6_keepAct_134 : decode cX6_keepAct 134 = .ok (.aload_n 0, 1) := by decide +kernel
theorem dX6_keepAct_135 : decode cX6_keepAct 135 = .ok (.getfield 40, 3) := by decide +kernel
theorem dX6_keepAct_138 : decode cX6_keepAct 138 = .ok (.iload_n 1, 1) := by decide +kernel
theorem dX6_keepAct_139 : decode cX6_keepAct 139 = .ok (.bipush 6, 2) := by decide +kernel
theorem dX6_keepAct_141 : decode cX6_keepAct 141 = .ok (.iadd, 1) := by decide +kernel
theorem dX6_keepAct_142 : decode cX6_keepAct 142 = .ok (.iload_n 2, 1) := by decide +kernel
theorem dX6_keepAct_143 : decode cX6_keepAct 143 = .ok (.iadd, 1) := by decide +kernel
theorem dX6_keepAct_144 : decode cX6_keepAct 144 = .ok (.aload_n 0, 1) := by decide +kernel
theorem dX6_keepAct_145 : decode cX6_keepAct 145 = .ok (.getfield 30, 3) := by decide +kernel
theorem dX6_keepAct_148 : decode cX6_keepAct 148 = .ok (.iload_n 2, 1) := by decide +kernel
theorem dX6_keepAct_149 : decode cX6_keepAct 149 = .ok (.invokestatic 89, 3) := by decide +kernel
theorem dX6_keepAct_152 : decode cX6_keepAct 152 = .ok (.invokestatic 93, 3) := by decide +kernel
theorem dX6_keepAct_155 : decode cX6_keepAct 155 = .ok (.aload_n 0, 1) := by decide +kernel
theorem dX6_keepAct_156 : decode cX6_keepAct 156 = .ok (.getfield 40, 3) := by decide +kernel
theorem dX6_keepAct_159 : decode cX6_keepAct 159 = .ok (.iload_n 1, 1) := by decide +kernel
theorem dX6_keepAct_160 : decode cX6_keepAct 160 = .ok (.bipush 6, 2) := by decide +kernel
theorem dX6_keepAct_162 : decode cX6_keepAct 162 = .ok (.iadd, 1) := by decide +kernel
theorem dX6_keepAct_163 : decode cX6_keepAct 163 = .ok (.bipush 10, 2) := by decide +kernel
theorem dX6_keepAct_165 : decode cX6_keepAct 165 = .ok (.iadd, 1) := by decide +kernel
theorem dX6_keepAct_166 : decode cX6_keepAct 166 = .ok (.iload_n 2, 1) := by decide +kernel
theorem dX6_keepAct_167 : decode cX6_keepAct 167 = .ok (.iadd, 1) := by decide +kernel
theorem dX6_keepAct_168 : decode cX6_keepAct 168 = .ok (.aload_n 0, 1) := by decide +kernel
theorem dX6_keepAct_169 : decode cX6_keepAct 169 = .ok (.getfield 34, 3) := by decide +kernel
theorem dX6_keepAct_172 : decode cX6_keepAct 172 = .ok (.iload_n 2, 1) := by decide +kernel
theorem dX6_keepAct_173 : decode cX6_keepAct 173 = .ok (.invokestatic 89, 3) := by decide +kernel
theorem dX6_keepAct_176 : decode cX6_keepAct 176 = .ok (.invokestatic 93, 3) := by decide +kernel
theorem dX6_keepAct_179 : decode cX6_keepAct 179 = .ok (.iinc 2 1, 3) := by decide +kernel
theorem dX6_keepAct_182 : decode cX6_keepAct 182 = .ok (.goto (-54), 3) := by decide +kernel
theorem dX6_keepAct_185 : decode cX6_keepAct 185 = .ok (.aload_n 0, 1) := by decide +kernel
theorem dX6_keepAct_186 : decode cX6_keepAct 186 = .ok (.dup, 1) := by decide +kernel
theorem dX6_keepAct_187 : decode cX6_keepAct 187 = .ok (.getfield 37, 3) := by decide +kernel
theorem dX6_keepAct_190 : decode cX6_keepAct 190 = .ok (.iconst 1, 1) := by decide +kernel
theorem dX6_keepAct_191 : decode cX6_keepAct 191 = .ok (.iadd, 1) := by decide +kernel
theorem dX6_keepAct_192 : decode cX6_keepAct 192 = .ok (.putfield 37, 3) := by decide +kernel
theorem dX6_keepAct_195 : decode cX6_keepAct 195 = .ok (.return_, 1) := by decide +kernel
theorem dX6_undoLast_0 : decode cX6_undoLast 0 = .ok (.aload_n 0, 1) := by decide +kernel
theorem dX6_undoLast_1 : decode cX6_undoLast 1 = .ok (.dup, 1) := by decide +kernel
theorem dX6_undoLast_2 : decode cX6_undoLast 2 = .ok (.getfield 37, 3) := by decide +kernel
theorem dX6_undoLast_5 : decode cX6_undoLast 5 = .ok (.iconst 1, 1) := by decide +kernel
theorem dX6_undoLast_6 : decode cX6_undoLast 6 = .ok (.isub, 1) := by decide +kernel
theorem dX6_undoLast_7 : decode cX6_undoLast 7 = .ok (.putfield 37, 3) := by decide +kernel
theorem dX6_undoLast_10 : decode cX6_undoLast 10 = .ok (.aload_n 0, 1) := by decide +kernel
theorem dX6_undoLast_11 : decode cX6_undoLast 11 = .ok (.getfield 37, 3) := by decide +kernel
theorem dX6_undoLast_14 : decode cX6_undoLast 14 = .ok (.bipush 26, 2) := by decide +kernel
theorem dX6_undoLast_16 : decode cX6_undoLast 16 = .ok (.imul, 1) := by decide +kernel
theorem dX6_undoLast_17 : decode cX6_undoLast 17 = .ok (.istore_n 1, 1) := by decide +kernel
theorem dX6_undoLast_18 : decode cX6_undoLast 18 = .ok (.aload_n 0, 1) := by decide +kernel
theorem dX6_undoLast_19 : decode cX6_undoLast 19 = .ok (.aload_n 0, 1) := by decide +kernel
theorem dX6_undoLast_20 : decode cX6_undoLast 20 = .ok (.getfield 40, 3) := by decide +kernel
theorem dX6_undoLast_23 : decode cX6_undoLast 23 = .ok (.iload_n 1, 1) := by decide +kernel
theorem dX6_undoLast_24 : decode cX6_undoLast 24 = .ok (.invokestatic 89, 3) := by decide +kernel
theorem dX6_undoLast_27 : decode cX6_undoLast 27 = .ok (.putfield 9, 3) := by decide +kernel
theorem dX6_undoLast_30 : decode cX6_undoLast 30 = .ok (.aload_n 0, 1) := by decide +kernel
theorem dX6_undoLast_31 : decode cX6_undoLast 31 = .ok (.aload_n 0, 1) := by decide +kernel
theorem dX6_undoLast_32 : decode cX6_undoLast 32 = .ok (.getfield 40, 3) := by decide +kernel
theorem dX6_undoLast_35 : decode cX6_undoLast 35 = .ok (.iload_n 1, 1) := by decide +kernel
theorem dX6_undoLast_36 : decode cX6_undoLast 36 = .ok (.iconst 1, 1) := by decide +kernel
theorem dX6_undoLast_37 : decode cX6_undoLast 37 = .ok (.iadd, 1) := by decide +kernel
theorem dX6_undoLast_38 : decode cX6_undoLast 38 = .ok (.invokestatic 89, 3) := by decide +kernel
theorem dX6_undoLast_41 : decode cX6_undoLast 41 = .ok (.putfield 15, 3) := by decide +kernel
theorem dX6_undoLast_44 : decode cX6_undoLast 44 = .ok (.aload_n 0, 1) := by decide +kernel
theorem dX6_undoLast_45 : decode cX6_undoLast 45 = .ok (.aload_n 0, 1) := by decide +kernel
theorem dX6_undoLast_46 : decode cX6_undoLast 46 = .ok (.getfield 40, 3) := by decide +kernel
theorem dX6_undoLast_49 : decode cX6_undoLast 49 = .ok (.iload_n 1, 1) := by decide +kernel
theorem dX6_undoLast_50 : decode cX6_undoLast 50 = .ok (.iconst 2, 1) := by decide +kernel
theorem dX6_undoLast_51 : decode cX6_undoLast 51 = .ok (.iadd, 1) := by decide +kernel
theorem dX6_undoLast_52 : decode cX6_undoLast 52 = .ok (.invokestatic 89, 3) := by decide +kernel
theorem dX6_undoLast_55 : decode cX6_undoLast 55 = .ok (.putfield 18, 3) := by decide +kernel
theorem dX6_undoLast_58 : decode cX6_undoLast 58 = .ok (.aload_n 0, 1) := by decide +kernel
theorem dX6_undoLast_59 : decode cX6_undoLast 59 = .ok (.aload_n 0, 1) := by decide +kernel
theorem dX6_undoLast_60 : decode cX6_undoLast 60 = .ok (.getfield 40, 3) := by decide +kernel
theorem dX6_undoLast_63 : decode cX6_undoLast 63 = .ok (.iload_n 1, 1) := by decide +kernel
theorem dX6_undoLast_64 : decode cX6_undoLast 64 = .ok (.iconst 3, 1) := by decide +kernel
theorem dX6_undoLast_65 : decode cX6_undoLast 65 = .ok (.iadd, 1) := by decide +kernel
theorem dX6_undoLast_66 : decode cX6_undoLast 66 = .ok (.invokestatic 89, 3) := by decide +kernel
theorem dX6_undoLast_69 : decode cX6_undoLast 69 = .ok (.putfield 21, 3) := by decide +kernel
theorem dX6_undoLast_72 : decode cX6_undoLast 72 = .ok (.aload_n 0, 1) := by decide +kernel
theorem dX6_undoLast_73 : decode cX6_undoLast 73 = .ok (.aload_n 0, 1) := by decide +kernel
theorem dX6_undoLast_74 : decode cX6_undoLast 74 = .ok (.getfield 40, 3) := by decide +kernel
theorem dX6_undoLast_77 : decode cX6_undoLast 77 = .ok (.iload_n 1, 1) := by decide +kernel
theorem dX6_undoLast_78 : decode cX6_undoLast 78 = .ok (.iconst 4, 1) := by decide +kernel
theorem dX6_undoLast_79 : decode cX6_undoLast 79 = .ok (.iadd, 1) := by decide +kernel
theorem dX6_undoLast_80 : decode cX6_undoLast 80 = .ok (.invokestatic 89, 3) := by decide +kernel
theorem dX6_undoLast_83 : decode cX6_undoLast 83 = .ok (.putfield 24, 3) := by decide +kernel
theorem dX6_undoLast_86 : decode cX6_undoLast 86 = .ok (.aload_n 0, 1) := by decide +kernel
theorem dX6_undoLast_87 : decode cX6_undoLast 87 = .ok (.aload_n 0, 1) := by decide +kernel
theorem dX6_undoLast_88 : decode cX6_undoLast 88 = .ok (.getfield 40, 3) := by decide +kernel
theorem dX6_undoLast_91 : decode cX6_undoLast 91 = .ok (.iload_n 1, 1) := by decide +kernel
theorem dX6_undoLast_92 : decode cX6_undoLast 92 = .ok (.iconst 5, 1) := by decide +kernel
theorem dX6_undoLast_93 : decode cX6_undoLast 93 = .ok (.iadd, 1) := by decide +kernel
theorem dX6_undoLast_94 : decode cX6_undoLast 94 = .ok (.invokestatic 89, 3) := by decide +kernel
theorem dX6_undoLast_97 : decode cX6_undoLast 97 = .ok (.putfield 27, 3) := by decide +kernel
theorem dX6_undoLast_100 : decode cX6_undoLast 100 = .ok (.iconst 0, 1) := by decide +kernel
theorem dX6_undoLast_101 : decode cX6_undoLast 101 = .ok (.istore_n 2, 1) := by decide +kernel
theorem dX6_undoLast_102 : decode cX6_undoLast 102 = .ok (.iload_n 2, 1) := by decide +kernel
theorem dX6_undoLast_103 : decode cX6_undoLast 103 = .ok (.bipush 10, 2) := by decide +kernel
theorem dX6_undoLast_105 : decode cX6_undoLast 105 = .ok (.if_icmp .ge 54, 3) := by decide +kernel
theorem dX6_undoLast_108 : decode cX6_undoLast 108 = .ok (.aload_n 0, 1) := by decide +kernel
theorem dX6_undoLast_109 : decode cX6_undoLast 109 = .ok (.getfield 30, 3) := by decide +kernel
theorem dX6_undoLast_112 : decode cX6_undoLast 112 = .ok (.iload_n 2, 1) := by decide +kernel
theorem dX6_undoLast_113 : decode cX6_undoLast 113 = .ok (.aload_n 0, 1) := by decide +kernel
theorem dX6_undoLast_114 : decode cX6_undoLast 114 = .ok (.getfield 40, 3) := by decide +kernel
theorem dX6_undoLast_117 : decode cX6_undoLast 117 = .ok (.iload_n 1, 1) := by decide +kernel
theorem dX6_undoLast_118 : decode cX6_undoLast 118 = .ok (.bipush 6, 2) := by decide +kernel
theorem dX6_undoLast_120 : decode cX6_undoLast 120 = .ok (.iadd, 1) := by decide +kernel
theorem dX6_undoLast_121 : decode cX6_undoLast 121 = .ok (.iload_n 2, 1) := by decide +kernel
theorem dX6_undoLast_122 : decode cX6_undoLast 122 = .ok (.iadd, 1) := by decide +kernel
theorem dX6_undoLast_123 : decode cX6_undoLast 123 = .ok (.invokestatic 89, 3) := by decide +kernel
theorem dX6_undoLast_126 : decode cX6_undoLast 126 = .ok (.invokestatic 93, 3) := by decide +kernel
theorem dX6_undoLast_129 : decode cX6_undoLast 129 = .ok (.aload_n 0, 1) := by decide +kernel
theorem dX6_undoLast_130 : decode cX6_undoLast 130 = .ok (.getfield 34, 3) := by decide +kernel
theorem dX6_undoLast_133 : decode cX6_undoLast 133 = .ok (.iload_n 2, 1) := by decide +kernel
theorem dX6_undoLast_134 : decode cX6_undoLast 134 = .ok (.aload_n 0, 1) := by decide +kernel
theorem dX6_undoLast_135 : decode cX6_undoLast 135 = .ok (.getfield 40, 3) := by decide +kernel
theorem dX6_undoLast_138 : decode cX6_undoLast 138 = .ok (.iload_n 1, 1) := by decide +kernel
theorem dX6_undoLast_139 : decode cX6_undoLast 139 = .ok (.bipush 6, 2) := by decide +kernel
theorem dX6_undoLast_141 : decode cX6_undoLast 141 = .ok (.iadd, 1) := by decide +kernel
theorem dX6_undoLast_142 : decode cX6_undoLast 142 = .ok (.bipush 10, 2) := by decide +kernel
theorem dX6_undoLast_144 : decode cX6_undoLast 144 = .ok (.iadd, 1) := by decide +kernel
theorem dX6_undoLast_145 : decode cX6_undoLast 145 = .ok (.iload_n 2, 1) := by decide +kernel
theorem dX6_undoLast_146 : decode cX6_undoLast 146 = .ok (.iadd, 1) := by decide +kernel
theorem dX6_undoLast_147 : decode cX6_undoLast 147 = .ok (.invokestatic 89, 3) := by decide +kernel
theorem dX6_undoLast_150 : decode cX6_undoLast 150 = .ok (.invokestatic 93, 3) := by decide +kernel
theorem dX6_undoLast_153 : decode cX6_undoLast 153 = .ok (.iinc 2 1, 3) := by decide +kernel
theorem dX6_undoLast_156 : decode cX6_undoLast 156 = .ok (.goto (-54), 3) := by decide +kernel
theorem dX6_undoLast_159 : decode cX6_undoLast 159 = .ok (.return_, 1) := by decide +kernel
theorem dX6_toldFrom_0 : decode cX6_toldFrom 0 = .ok (.iconst 0, 1) := by decide +kernel
theorem dX6_toldFrom_1 : decode cX6_toldFrom 1 = .ok (.istore_n 2, 1) := by decide +kernel
theorem dX6_toldFrom_2 : decode cX6_toldFrom 2 = .ok (.iconst 0, 1) := by decide +kernel
theorem dX6_toldFrom_3 : decode cX6_toldFrom 3 = .ok (.istore_n 3, 1) := by decide +kernel
theorem dX6_toldFrom_4 : decode cX6_toldFrom 4 = .ok (.iload_n 3, 1) := by decide +kernel
theorem dX6_toldFrom_5 : decode cX6_toldFrom 5 = .ok (.aload_n 0, 1) := by decide +kernel
theorem dX6_toldFrom_6 : decode cX6_toldFrom 6 = .ok (.getfield 43, 3) := by decide +kernel
theorem dX6_toldFrom_9 : decode cX6_toldFrom 9 = .ok (.if_icmp .ge 29, 3) := by decide +kernel
theorem dX6_toldFrom_12 : decode cX6_toldFrom 12 = .ok (.iload_n 2, 1) := by decide +kernel
theorem dX6_toldFrom_13 : decode cX6_toldFrom 13 = .ok (.aload_n 0, 1) := by decide +kernel
theorem dX6_toldFrom_14 : decode cX6_toldFrom 14 = .ok (.getfield 46, 3) := by decide +kernel
theorem dX6_toldFrom_17 : decode cX6_toldFrom 17 = .ok (.iload_n 3, 1) := by decide +kernel
theorem dX6_toldFrom_18 : decode cX6_toldFrom 18 = .ok (.invokestatic 89, 3) := by decide +kernel
theorem dX6_toldFrom_21 : decode cX6_toldFrom 21 = .ok (.iload_n 1, 1) := by decide +kernel
theorem dX6_toldFrom_22 : decode cX6_toldFrom 22 = .ok (.if_icmp .lt 7, 3) := by decide +kernel
theorem dX6_toldFrom_25 : decode cX6_toldFrom 25 = .ok (.iconst 1, 1) := by decide +kernel
theorem dX6_toldFrom_26 : decode cX6_toldFrom 26 = .ok (.goto 4, 3) := by decide +kernel
theorem dX6_toldFrom_29 : decode cX6_toldFrom 29 = .ok (.iconst 0, 1) := by decide +kernel
theorem dX6_toldFrom_30 : decode cX6_toldFrom 30 = .ok (.iadd, 1) := by decide +kernel
theorem dX6_toldFrom_31 : decode cX6_toldFrom 31 = .ok (.istore_n 2, 1) := by decide +kernel
theorem dX6_toldFrom_32 : decode cX6_toldFrom 32 = .ok (.iinc 3 1, 3) := by decide +kernel
theorem dX6_toldFrom_35 : decode cX6_toldFrom 35 = .ok (.goto (-31), 3) := by decide +kernel
theorem dX6_toldFrom_38 : decode cX6_toldFrom 38 = .ok (.iload_n 2, 1) := by decide +kernel
theorem dX6_toldFrom_39 : decode cX6_toldFrom 39 = .ok (.ireturn, 1) := by decide +kernel
theorem dX6_hadFrom_0 : decode cX6_hadFrom 0 = .ok (.iconst 0, 1) := by decide +kernel
theorem dX6_hadFrom_1 : decode cX6_hadFrom 1 = .ok (.istore_n 2, 1) := by decide +kernel
theorem dX6_hadFrom_2 : decode cX6_hadFrom 2 = .ok (.iconst 0, 1) := by decide +kernel
theorem dX6_hadFrom_3 : decode cX6_hadFrom 3 = .ok (.istore_n 3, 1) := by decide +kernel
theorem dX6_hadFrom_4 : decode cX6_hadFrom 4 = .ok (.iload_n 3, 1) := by decide +kernel
theorem dX6_hadFrom_5 : decode cX6_hadFrom 5 = .ok (.aload_n 0, 1) := by decide +kernel
theorem dX6_hadFrom_6 : decode cX6_hadFrom 6 = .ok (.getfield 43, 3) := by decide +kernel
theorem dX6_hadFrom_9 : decode cX6_hadFrom 9 = .ok (.if_icmp .ge 36, 3) := by decide +kernel
theorem dX6_hadFrom_12 : decode cX6_hadFrom 12 = .ok (.iload_n 2, 1) := by decide +kernel
theorem dX6_hadFrom_13 : decode cX6_hadFrom 13 = .ok (.aload_n 0, 1) := by decide +kernel
theorem dX6_hadFrom_14 : decode cX6_hadFrom 14 = .ok (.getfield 46, 3) := by decide +kernel
theorem dX6_hadFrom_17 : decode cX6_hadFrom 17 = .ok (.iload_n 3, 1) := by decide +kernel
theorem dX6_hadFrom_18 : decode cX6_hadFrom 18 = .ok (.invokestatic 89, 3) := by decide +kernel
theorem dX6_hadFrom_21 : decode cX6_hadFrom 21 = .ok (.iload_n 1, 1) := by decide +kernel
theorem dX6_hadFrom_22 : decode cX6_hadFrom 22 = .ok (.if_icmp .lt 14, 3) := by decide +kernel
theorem dX6_hadFrom_25 : decode cX6_hadFrom 25 = .ok (.aload_n 0, 1) := by decide +kernel
theorem dX6_hadFrom_26 : decode cX6_hadFrom 26 = .ok (.getfield 49, 3) := by decide +kernel
theorem dX6_hadFrom_29 : decode cX6_hadFrom 29 = .ok (.iload_n 3, 1) := by decide +kernel
theorem dX6_hadFrom_30 : decode cX6_hadFrom 30 = .ok (.invokestatic 89, 3) := by decide +kernel
theorem dX6_hadFrom_33 : decode cX6_hadFrom 33 = .ok (.goto 4, 3) := by decide +kernel
theorem dX6_hadFrom_36 : decode cX6_hadFrom 36 = .ok (.iconst 0, 1) := by decide +kernel
theorem dX6_hadFrom_37 : decode cX6_hadFrom 37 = .ok (.iadd, 1) := by decide +kernel
theorem dX6_hadFrom_38 : decode cX6_hadFrom 38 = .ok (.istore_n 2, 1) := by decide +kernel
theorem dX6_hadFrom_39 : decode cX6_hadFrom 39 = .ok (.iinc 3 1, 3) := by decide +kernel
theorem dX6_hadFrom_42 : decode cX6_hadFrom 42 = .ok (.goto (-38), 3) := by decide +kernel
theorem dX6_hadFrom_45 : decode cX6_hadFrom 45 = .ok (.iload_n 2, 1) := by decide +kernel
theorem dX6_hadFrom_46 : decode cX6_hadFrom 46 = .ok (.ireturn, 1) := by decide +kernel
theorem dX7_init_0 : decode cX7_init 0 = .ok (.aload_n 0, 1) := by decide +kernel
theorem dX7_init_1 : decode cX7_init 1 = .ok (.invokespecial 1, 3) := by decide +kernel
theorem dX7_init_4 : decode cX7_init 4 = .ok (.aload_n 0, 1) := by decide +kernel
theorem dX7_init_5 : decode cX7_init 5 = .ok (.iconst 0, 1) := by decide +kernel
theorem dX7_init_6 : decode cX7_init 6 = .ok (.putfield 7, 3) := by decide +kernel
theorem dX7_init_9 : decode cX7_init 9 = .ok (.aload_n 0, 1) := by decide +kernel
theorem dX7_init_10 : decode cX7_init 10 = .ok (.iconst (-1), 1) := by decide +kernel
theorem dX7_init_11 : decode cX7_init 11 = .ok (.putfield 13, 3) := by decide +kernel
theorem dX7_init_14 : decode cX7_init 14 = .ok (.aload_n 0, 1) := by decide +kernel
theorem dX7_init_15 : decode cX7_init 15 = .ok (.new 16, 3) := by decide +kernel
theorem dX7_init_18 : decode cX7_init 18 = .ok (.dup, 1) := by decide +kernel
theorem dX7_init_19 : decode cX7_init 19 = .ok (.invokespecial 18, 3) := by decide +kernel
theorem dX7_init_22 : decode cX7_init 22 = .ok (.putfield 19, 3) := by decide +kernel
theorem dX7_init_25 : decode cX7_init 25 = .ok (.aload_n 0, 1) := by decide +kernel
theorem dX7_init_26 : decode cX7_init 26 = .ok (.new 23, 3) := by decide +kernel
theorem dX7_init_29 : decode cX7_init 29 = .ok (.dup, 1) := by decide +kernel
theorem dX7_init_30 : decode cX7_init 30 = .ok (.invokespecial 25, 3) := by decide +kernel
theorem dX7_init_33 : decode cX7_init 33 = .ok (.putfield 26, 3) := by decide +kernel
theorem dX7_init_36 : decode cX7_init 36 = .ok (.aload_n 0, 1) := by decide +kernel
theorem dX7_init_37 : decode cX7_init 37 = .ok (.new 30, 3) := by decide +kernel
theorem dX7_init_40 : decode cX7_init 40 = .ok (.dup, 1) := by decide +kernel
theorem dX7_init_41 : decode cX7_init 41 = .ok (.invokespecial 32, 3) := by decide +kernel
theorem dX7_init_44 : decode cX7_init 44 = .ok (.putfield 33, 3) := by decide +kernel
theorem dX7_init_47 : decode cX7_init 47 = .ok (.aload_n 0, 1) := by decide +kernel
theorem dX7_init_48 : decode cX7_init 48 = .ok (.new 30, 3) := by decide +kernel
theorem dX7_init_51 : decode cX7_init 51 = .ok (.dup, 1) := by decide +kernel
theorem dX7_init_52 : decode cX7_init 52 = .ok (.invokespecial 32, 3) := by decide +kernel
theorem dX7_init_55 : decode cX7_init 55 = .ok (.putfield 37, 3) := by decide +kernel
theorem dX7_init_58 : decode cX7_init 58 = .ok (.aload_n 0, 1) := by decide +kernel
theorem dX7_init_59 : decode cX7_init 59 = .ok (.iconst 0, 1) := by decide +kernel
theorem dX7_init_60 : decode cX7_init 60 = .ok (.putfield 40, 3) := by decide +kernel
theorem dX7_init_63 : decode cX7_init 63 = .ok (.aload_n 0, 1) := by decide +kernel
theorem dX7_init_64 : decode cX7_init 64 = .ok (.new 44, 3) := by decide +kernel
theorem dX7_init_67 : decode cX7_init 67 = .ok (.dup, 1) := by decide +kernel
theorem dX7_init_68 : decode cX7_init 68 = .ok (.aload_n 0, 1) := by decide +kernel
theorem dX7_init_69 : decode cX7_init 69 = .ok (.getfield 19, 3) := by decide +kernel
theorem dX7_init_72 : decode cX7_init 72 = .ok (.invokespecial 46, 3) := by decide +kernel
theorem dX7_init_75 : decode cX7_init 75 = .ok (.putfield 49, 3) := by decide +kernel
theorem dX7_init_78 : decode cX7_init 78 = .ok (.aload_n 0, 1) := by decide +kernel
theorem dX7_init_79 : decode cX7_init 79 = .ok (.new 44, 3) := by decide +kernel
theorem dX7_init_82 : decode cX7_init 82 = .ok (.dup, 1) := by decide +kernel
theorem dX7_init_83 : decode cX7_init 83 = .ok (.aload_n 0, 1) := by decide +kernel
theorem dX7_init_84 : decode cX7_init 84 = .ok (.getfield 19, 3) := by decide +kernel
theorem dX7_init_87 : decode cX7_init 87 = .ok (.invokespecial 46, 3) := by decide +kernel
theorem dX7_init_90 : decode cX7_init 90 = .ok (.putfield 53, 3) := by decide +kernel
theorem dX7_init_93 : decode cX7_init 93 = .ok (.aload_n 0, 1) := by decide +kernel
theorem dX7_init_94 : decode cX7_init 94 = .ok (.iconst 0, 1) := by decide +kernel
theorem dX7_init_95 : decode cX7_init 95 = .ok (.putfield 56, 3) := by decide +kernel
theorem dX7_init_98 : decode cX7_init 98 = .ok (.aload_n 0, 1) := by decide +kernel
theorem dX7_init_99 : decode cX7_init 99 = .ok (.iconst 5, 1) := by decide +kernel
theorem dX7_init_100 : decode cX7_init 100 = .ok (.newarray .int, 2) := by decide +kernel
theorem dX7_init_102 : decode cX7_init 102 = .ok (.putfield 59, 3) := by decide +kernel
theorem dX7_init_105 : decode cX7_init 105 = .ok (.aload_n 0, 1) := by decide +kernel
theorem dX7_init_106 : decode cX7_init 106 = .ok (.iconst 5, 1) := by decide +kernel
theorem dX7_init_107 : decode cX7_init 107 = .ok (.newarray .int, 2) := by decide +kernel
theorem dX7_init_109 : decode cX7_init 109 = .ok (.putfield 63, 3) := by decide +kernel
theorem dX7_init_112 : decode cX7_init 112 = .ok (.aload_n 0, 1) := by decide +kernel
theorem dX7_init_113 : decode cX7_init 113 = .ok (.iconst 0, 1) := by decide +kernel
theorem dX7_init_114 : decode cX7_init 114 = .ok (.putfield 66, 3) := by decide +kernel
theorem dX7_init_117 : decode cX7_init 117 = .ok (.aload_n 0, 1) := by decide +kernel
theorem dX7_init_118 : decode cX7_init 118 = .ok (.bipush 8, 2) := by decide +kernel
theorem dX7_init_120 : decode cX7_init 120 = .ok (.newarray .int, 2) := by decide +kernel
theorem dX7_init_122 : decode cX7_init 122 = .ok (.putfield 69, 3) := by decide +kernel
theorem dX7_init_125 : decode cX7_init 125 = .ok (.return_, 1) := by decide +kernel
theorem dX7_feed_0 : decode cX7_feed 0 = .ok (.aload_n 0, 1) := by decide +kernel
theorem dX7_feed_1 : decode cX7_feed 1 = .ok (.getfield 7, 3) := by decide +kernel
theorem dX7_feed_4 : decode cX7_feed 4 = .ok (.bipush 20, 2) := by decide +kernel
theorem dX7_feed_6 : decode cX7_feed 6 = .ok (.iadd, 1) := by decide +kernel
theorem dX7_feed_7 : decode cX7_feed 7 = .ok (.sipush 700, 3) := by decide +kernel
theorem dX7_feed_10 : decode cX7_feed 10 = .ok (.if_icmp .le 5, 3) := by decide +kernel
theorem dX7_feed_13 : decode cX7_feed 13 = .ok (.iconst (-1), 1) := by decide +kernel
theorem dX7_feed_14 : decode cX7_feed 14 = .ok (.ireturn, 1) := by decide +kernel
theorem dX7_feed_15 : decode cX7_feed 15 = .ok (.aload_n 0, 1) := by decide +kernel
theorem dX7_feed_16 : decode cX7_feed 16 = .ok (.iload_n 1, 1) := by decide +kernel
theorem dX7_feed_17 : decode cX7_feed 17 = .ok (.invokevirtual 72, 3) := by decide +kernel
theorem dX7_feed_20 : decode cX7_feed 20 = .ok (.aload_n 0, 1) := by decide +kernel
theorem dX7_feed_21 : decode cX7_feed 21 = .ok (.iload_n 2, 1) := by decide +kernel
theorem dX7_feed_22 : decode cX7_feed 22 = .ok (.invokevirtual 72, 3) := by decide +kernel
theorem dX7_feed_25 : decode cX7_feed 25 = .ok (.aload_n 0, 1) := by decide +kernel
theorem dX7_feed_26 : decode cX7_feed 26 = .ok (.iload_n 3, 1) := by decide +kernel
theorem dX7_feed_27 : decode cX7_feed 27 = .ok (.invokevirtual 72, 3) := by decide +kernel
theorem dX7_feed_30 : decode cX7_feed 30 = .ok (.aload_n 0, 1) := by decide +kernel
theorem dX7_feed_31 : decode cX7_feed 31 = .ok (.iload 4, 2) := by decide +kernel
theorem dX7_feed_33 : decode cX7_feed 33 = .ok (.invokevirtual 72, 3) := by decide +kernel
theorem dX7_feed_36 : decode cX7_feed 36 = .ok (.aload_n 0, 1) := by decide +kernel
theorem dX7_feed_37 : decode cX7_feed 37 = .ok (.iload 5, 2) := by decide +kernel
theorem dX7_feed_39 : decode cX7_feed 39 = .ok (.invokevirtual 72, 3) := by decide +kernel
theorem dX7_feed_42 : decode cX7_feed 42 = .ok (.aload_n 0, 1) := by decide +kernel
theorem dX7_feed_43 : decode cX7_feed 43 = .ok (.getfield 7, 3) := by decide +kernel
theorem dX7_feed_46 : decode cX7_feed 46 = .ok (.ireturn, 1) := by decide +kernel
theorem dX7_tellBytes_0 : decode cX7_tellBytes 0 = .ok (.bipush 24, 2) := by decide +kernel
theorem dX7_tellBytes_2 : decode cX7_tellBytes 2 = .ok (.istore_n 2, 1) := by decide +kernel
theorem dX7_tellBytes_3 : decode cX7_tellBytes 3 = .ok (.iload_n 2, 1) := by decide +kernel
theorem dX7_tellBytes_4 : decode cX7_tellBytes 4 = .ok (.ifCond .lt 40, 3) := by decide +kernel
theorem dX7_tellBytes_7 : decode cX7_tellBytes 7 = .ok (.aload_n 0, 1) := by decide +kernel
theorem dX7_tellBytes_8 : decode cX7_tellBytes 8 = .ok (.getfield 26, 3) := by decide +kernel
theorem dX7_tellBytes_11 : decode cX7_tellBytes 11 = .ok (.getfield 76, 3) := by decide +kernel
theorem dX7_tellBytes_14 : decode cX7_tellBytes 14 = .ok (.aload_n 0, 1) := by decide +kernel
theorem dX7_tellBytes_15 : decode cX7_tellBytes 15 = .ok (.getfield 7, 3) := by decide +kernel
theorem dX7_tellBytes_18 : decode cX7_tellBytes 18 = .ok (.iload_n 1, 1) := by decide +kernel
theorem dX7_tellBytes_19 : decode cX7_tellBytes 19 = .ok (.iload_n 2, 1) := by decide +kernel
theorem dX7_tellBytes_20 : decode cX7_tellBytes 20 = .ok (.ishr, 1) := by decide +kernel
theorem dX7_tellBytes_21 : decode cX7_tellBytes 21 = .ok (.sipush 255, 3) := by decide +kernel
theorem dX7_tellBytes_24 : decode cX7_tellBytes 24 = .ok (.iand, 1) := by decide +kernel
theorem dX7_tellBytes_25 : decode cX7_tellBytes 25 = .ok (.invokestatic 79, 3) := by decide +kernel
theorem dX7_tellBytes_28 : decode cX7_tellBytes 28 = .ok (.aload_n 0, 1) := by decide +kernel
theorem dX7_tellBytes_29 : decode cX7_tellBytes 29 = .ok (.dup, 1) := by decide +kernel
theorem dX7_tellBytes_30 : decode cX7_tellBytes 30 = .ok (.getfield 7, 3) := by decide +kernel
theorem dX7_tellBytes_33 : decode cX7_tellBytes 33 = .ok (.iconst 1, 1) := by decide +kernel
theorem dX7_tellBytes_34 : decode cX7_tellBytes 34 = .ok (.iadd, 1) := by decide +kernel
theorem dX7_tellBytes_35 : decode cX7_tellBytes 35 = .ok (.putfield 7, 3) := by decide +kernel
theorem dX7_tellBytes_38 : decode cX7_tellBytes 38 = .ok (.iinc 2 (-8), 3) := by decide +kernel
theorem dX7_tellBytes_41 : decode cX7_tellBytes 41 = .ok (.goto (-38), 3) := by decide +kernel
theorem dX7_tellBytes_44 : decode cX7_tellBytes 44 = .ok (.return_, 1) := by decide +kernel
theorem dX7_shop_0 : decode cX7_shop 0 = .ok (.iload_n 1, 1) := by decide +kernel
theorem dX7_shop_1 : decode cX7_shop 1 = .ok (.ifCond .lt 11, 3) := by decide +kernel
theorem dX7_shop_4 : decode cX7_shop 4 = .ok (.iload_n 1, 1) := by decide +kernel
theorem dX7_shop_5 : decode cX7_shop 5 = .ok (.aload_n 0, 1) := by decide +kernel
theorem dX7_shop_6 : decode cX7_shop 6 = .ok (.getfield 7, 3) := by decide +kernel
theorem dX7_shop_9 : decode cX7_shop 9 = .ok (.if_icmp .le 11, 3) := by decide +kernel
theorem dX7_shop_12 : decode cX7_shop 12 = .ok (.new 83, 3) := by decide +kernel
theorem dX7_shop_15 : decode cX7_shop 15 = .ok (.dup, 1) := by decide +kernel
theorem dX7_shop_16 : decode cX7_shop 16 = .ok (.invokespecial 85, 3) := by decide +kernel
theorem dX7_shop_19 : decode cX7_shop 19 = .ok (.athrow, 1) := by decide +kernel
theorem dX7_shop_20 : decode cX7_shop 20 = .ok (.aload_n 0, 1) := by decide +kernel
theorem dX7_shop_21 : decode cX7_shop 21 = .ok (.getfield 26, 3) := by decide +kernel
theorem dX7_shop_24 : decode cX7_shop 24 = .ok (.iload_n 1, 1) := by decide +kernel
theorem dX7_shop_25 : decode cX7_shop 25 = .ok (.invokevirtual 86, 3) := by decide +kernel
theorem dX7_shop_28 : decode cX7_shop 28 = .ok (.istore_n 2, 1) := by decide +kernel
theorem dX7_shop_29 : decode cX7_shop 29 = .ok (.aload_n 0, 1) := by decide +kernel
theorem dX7_shop_30 : decode cX7_shop 30 = .ok (.iconst 0, 1) := by decide +kernel
theorem dX7_shop_31 : decode cX7_shop 31 = .ok (.putfield 7, 3) := by decide +kernel
theorem dX7_shop_34 : decode cX7_shop 34 = .ok (.iload_n 2, 1) := by decide +kernel
theorem dX7_shop_35 : decode cX7_shop 35 = .ok (.ifCond .eq 24, 3) := by decide +kernel
theorem dX7_shop_38 : decode cX7_shop 38 = .ok (.aload_n 0, 1) := by decide +kernel
theorem dX7_shop_39 : decode cX7_shop 39 = .ok (.aload_n 0, 1) := by decide +kernel
theorem dX7_shop_40 : decode cX7_shop 40 = .ok (.getfield 26, 3) := by decide +kernel
theorem dX7_shop_43 : decode cX7_shop 43 = .ok (.getfield 90, 3) := by decide +kernel
theorem dX7_shop_46 : decode cX7_shop 46 = .ok (.putfield 13, 3) := by decide +kernel
theorem dX7_shop_49 : decode cX7_shop 49 = .ok (.aload_n 0, 1) := by decide +kernel
theorem dX7_shop_50 : decode cX7_shop 50 = .ok (.getfield 33, 3) := by decide +kernel
theorem dX7_shop_53 : decode cX7_shop 53 = .ok (.iconst 0, 1) := by decide +kernel
theorem dX7_shop_54 : decode cX7_shop 54 = .ok (.invokevirtual 93, 3) := by decide +kernel
theorem dX7_shop_57 : decode cX7_shop 57 = .ok (.iload_n 2, 1) := by decide +kernel
theorem dX7_shop_58 : decode cX7_shop 58 = .ok (.ireturn, 1) := by decide +kernel
theorem dX7_shop_59 : decode cX7_shop 59 = .ok (.aload_n 0, 1) := by decide +kernel
theorem dX7_shop_60 : decode cX7_shop 60 = .ok (.iconst (-1), 1) := by decide +kernel
theorem dX7_shop_61 : decode cX7_shop 61 = .ok (.putfield 13, 3) := by decide +kernel
theorem dX7_shop_64 : decode cX7_shop 64 = .ok (.aload_n 0, 1) := by decide +kernel
theorem dX7_shop_65 : decode cX7_shop 65 = .ok (.aload_n 0, 1) := by decide +kernel
theorem dX7_shop_66 : decode cX7_shop 66 = .ok (.getfield 26, 3) := by decide +kernel
theorem dX7_shop_69 : decode cX7_shop 69 = .ok (.aload_n 0, 1) := by decide +kernel
theorem dX7_shop_70 : decode cX7_shop 70 = .ok (.getfield 19, 3) := by decide +kernel
theorem dX7_shop_73 : decode cX7_shop 73 = .ok (.invokevirtual 96, 3) := by decide +kernel
theorem dX7_shop_76 : decode cX7_shop 76 = .ok (.putfield 19, 3) := by decide +kernel
theorem dX7_shop_79 : decode cX7_shop 79 = .ok (.aload_n 0, 1) := by decide +kernel
theorem dX7_shop_80 : decode cX7_shop 80 = .ok (.getfield 33, 3) := by decide +kernel
theorem dX7_shop_83 : decode cX7_shop 83 = .ok (.aload_n 0, 1) := by decide +kernel
theorem dX7_shop_84 : decode cX7_shop 84 = .ok (.getfield 19, 3) := by decide +kernel
theorem dX7_shop_87 : decode cX7_shop 87 = .ok (.invokevirtual 100, 3) := by decide +kernel
theorem dX7_shop_90 : decode cX7_shop 90 = .ok (.aload_n 0, 1) := by decide +kernel
theorem dX7_shop_91 : decode cX7_shop 91 = .ok (.iconst 0, 1) := by decide +kernel
theorem dX7_shop_92 : decode cX7_shop 92 = .ok (.putfield 40, 3) := by decide +kernel
theorem dX7_shop_95 : decode cX7_shop 95 = .ok (.aload_n 0, 1) := by decide +kernel
theorem dX7_shop_96 : decode cX7_shop 96 = .ok (.iconst 0, 1) := by decide +kernel
theorem dX7_shop_97 : decode cX7_shop 97 = .ok (.putfield 66, 3) := by decide +kernel
theorem dX7_shop_100 : decode cX7_shop 100 = .ok (.aload_n 0, 1) := by decide +kernel
theorem dX7_shop_101 : decode cX7_shop 101 = .ok (.iconst 0, 1) := by decide +kernel
theorem dX7_shop_102 : decode cX7_shop 102 = .ok (.putfield 56, 3) := by decide +kernel
theorem dX7_shop_105 : decode cX7_shop 105 = .ok (.iconst 0, 1) := by decide +kernel
theorem dX7_shop_106 : decode cX7_shop 106 = .ok (.ireturn, 1) := by decide +kernel
theorem dX7_fault_0 : decode cX7_fault 0 = .ok (.aload_n 0, 1) := by decide +kernel
theorem dX7_fault_1 : decode cX7_fault 1 = .ok (.getfield 13, 3) := by decide +kernel
theorem dX7_fault_4 : decode cX7_fault 4 = .ok (.ireturn, 1) := by decide +kernel
theorem dX7_count_0 : decode cX7_count 0 = .ok (.iload_n 1, 1) := by decide +kernel
theorem dX7_count_1 : decode cX7_count 1 = .ok (.tableswitch 243 0 18 #[91, 102, 113, 121, 132, 143, 151, 159, 167, 175, 183, 191, 199, 207, 215, 223, 228, 228, 228], 91) := by decide +kernel
theorem dX7_count_92 : decode cX7_count 92 = .ok (.aload_n 0, 1) := by decide +kernel
theorem dX7_count_93 : decode cX7_count 93 = .ok (.getfield 19, 3) := by decide +kernel
theorem dX7_count_96 : decode cX7_count 96 = .ok (.getfield 103, 3) := by decide +kernel
theorem dX7_count_99 : decode cX7_count 99 = .ok (.getfield 107, 3) := by decide +kernel
theorem dX7_count_102 : decode cX7_count 102 = .ok (.ireturn, 1) := by decide +kernel
theorem dX7_count_103 : decode cX7_count 103 = .ok (.aload_n 0, 1) := by decide +kernel
theorem dX7_count_104 : decode cX7_count 104 = .ok (.getfield 19, 3) := by decide +kernel
theorem dX7_count_107 : decode cX7_count 107 = .ok (.getfield 103, 3) := by decide +kernel
theorem dX7_count_110 : decode cX7_count 110 = .ok (.getfield 112, 3) := by decide +kernel
theorem dX7_count_113 : decode cX7_count 113 = .ok (.ireturn, 1) := by decide +kernel
theorem dX7_count_114 : decode cX7_count 114 = .ok (.aload_n 0, 1) := by decide +kernel
theorem dX7_count_115 : decode cX7_count 115 = .ok (.getfield 33, 3) := by decide +kernel
theorem dX7_count_118 : decode cX7_count 118 = .ok (.getfield 115, 3) := by decide +kernel
theorem dX7_count_121 : decode cX7_count 121 = .ok (.ireturn, 1) := by decide +kernel
theorem dX7_count_122 : decode cX7_count 122 = .ok (.aload_n 0, 1) := by decide +kernel
theorem dX7_count_123 : decode cX7_count 123 = .ok (.getfield 19, 3) := by decide +kernel
theorem dX7_count_126 : decode cX7_count 126 = .ok (.getfield 118, 3) := by decide +kernel
theorem dX7_count_129 : decode cX7_count 129 = .ok (.getfield 122, 3) := by decide +kernel
theorem dX7_count_132 : decode cX7_count 132 = .ok (.ireturn, 1) := by decide +kernel
theorem dX7_count_133 : decode cX7_count 133 = .ok (.aload_n 0, 1) := by decide +kernel
theorem dX7_count_134 : decode cX7_count 134 = .ok (.getfield 19, 3) := by decide +kernel
theorem dX7_count_137 : decode cX7_count 137 = .ok (.getfield 127, 3) := by decide +kernel
theorem dX7_count_140 : decode cX7_count 140 = .ok (.getfield 131, 3) := by decide +kernel
theorem dX7_count_143 : decode cX7_count 143 = .ok (.ireturn, 1) := by decide +kernel
theorem dX7_count_144 : decode cX7_count 144 = .ok (.aload_n 0, 1) := by decide +kernel
theorem dX7_count_145 : decode cX7_count 145 = .ok (.getfield 19, 3) := by decide +kernel
theorem dX7_count_148 : decode cX7_count 148 = .ok (.getfield 134, 3) := by decide +kernel
theorem dX7_count_151 : decode cX7_count 151 = .ok (.ireturn, 1) := by decide +kernel
theorem dX7_count_152 : decode cX7_count 152 = .ok (.aload_n 0, 1) := by decide +kernel
theorem dX7_count_153 : decode cX7_count 153 = .ok (.getfield 19, 3) := by decide +kernel
theorem dX7_count_156 : decode cX7_count 156 = .ok (.getfield 137, 3) := by decide +kernel
theorem dX7_count_159 : decode cX7_count 159 = .ok (.ireturn, 1) := by decide +kernel
theorem dX7_count_160 : decode cX7_count 160 = .ok (.aload_n 0, 1) := by decide +kernel
theorem dX7_count_161 : decode cX7_count 161 = .ok (.getfield 33, 3) := by decide +kernel
theorem dX7_count_164 : decode cX7_count 164 = .ok (.getfield 140, 3) := by decide +kernel
theorem dX7_count_167 : decode cX7_count 167 = .ok (.ireturn, 1) := by decide +kernel
theorem dX7_count_168 : decode cX7_count 168 = .ok (.aload_n 0, 1) := by decide +kernel
theorem dX7_count_169 : decode cX7_count 169 = .ok (.getfield 33, 3) := by decide +kernel
theorem dX7_count_172 : decode cX7_count 172 = .ok (.getfield 143, 3) := by decide +kernel
theorem dX7_count_175 : decode cX7_count 175 = .ok (.ireturn, 1) := by decide +kernel
theorem dX7_count_176 : decode cX7_count 176 = .ok (.aload_n 0, 1) := by decide +kernel
theorem dX7_count_177 : decode cX7_count 177 = .ok (.getfield 33, 3) := by decide +kernel
theorem dX7_count_180 : decode cX7_count 180 = .ok (.getfield 146, 3) := by decide +kernel
theorem dX7_count_183 : decode cX7_count 183 = .ok (.ireturn, 1) := by decide +kernel
theorem dX7_count_184 : decode cX7_count 184 = .ok (.aload_n 0, 1) := by decide +kernel
theorem dX7_count_185 : decode cX7_count 185 = .ok (.getfield 33, 3) := by decide +kernel
theorem dX7_count_188 : decode cX7_count 188 = .ok (.getfield 149, 3) := by decide +kernel
theorem dX7_count_191 : decode cX7_count 191 = .ok (.ireturn, 1) := by decide +kernel
theorem dX7_count_192 : decode cX7_count 192 = .ok (.aload_n 0, 1) := by decide +kernel
theorem dX7_count_193 : decode cX7_count 193 = .ok (.getfield 33, 3) := by decide +kernel
theorem dX7_count_196 : decode cX7_count 196 = .ok (.getfield 152, 3) := by decide +kernel
theorem dX7_count_199 : decode cX7_count 199 = .ok (.ireturn, 1) := by decide +kernel
theorem dX7_count_200 : decode cX7_count 200 = .ok (.aload_n 0, 1) := by decide +kernel
theorem dX7_count_201 : decode cX7_count 201 = .ok (.getfield 33, 3) := by decide +kernel
theorem dX7_count_204 : decode cX7_count 204 = .ok (.getfield 155, 3) := by decide +kernel
theorem dX7_count_207 : decode cX7_count 207 = .ok (.ireturn, 1) := by decide +kernel
theorem dX7_count_208 : decode cX7_count 208 = .ok (.aload_n 0, 1) := by decide +kernel
theorem dX7_count_209 : decode cX7_count 209 = .ok (.getfield 33, 3) := by decide +kernel
theorem dX7_count_212 : decode cX7_count 212 = .ok (.getfield 158, 3) := by decide +kernel
theorem dX7_count_215 : decode cX7_count 215 = .ok (.ireturn, 1) := by decide +kernel
theorem dX7_count_216 : decode cX7_count 216 = .ok (.aload_n 0, 1) := by decide +kernel
theorem dX7_count_217 : decode cX7_count 217 = .ok (.getfield 33, 3) := by decide +kernel
theorem dX7_count_220 : decode cX7_count 220 = .ok (.getfield 161, 3) := by decide +kernel
theorem dX7_count_223 : decode cX7_count 223 = .ok (.ireturn, 1) := by decide +kernel
theorem dX7_count_224 : decode cX7_count 224 = .ok (.aload_n 0, 1) := by decide +kernel
theorem dX7_count_225 : decode cX7_count 225 = .ok (.getfield 7, 3) := by decide +kernel
theorem dX7_count_228 : decode cX7_count 228 = .ok (.ireturn, 1) := by decide +kernel
theorem dX7_count_229 : decode cX7_count 229 = .ok (.aload_n 0, 1) := by decide +kernel
theorem dX7_count_230 : decode cX7_count 230 = .ok (.getfield 33, 3) := by decide +kernel
theorem dX7_count_233 : decode cX7_count 233 = .ok (.getfield 164, 3) := by decide +kernel
theorem dX7_count_236 : decode cX7_count 236 = .ok (.iload_n 1, 1) := by decide +kernel
theorem dX7_count_237 : decode cX7_count 237 = .ok (.bipush 16, 2) := by decide +kernel
theorem dX7_count_239 : decode cX7_count 239 = .ok (.isub, 1) := by decide +kernel
theorem dX7_count_240 : decode cX7_count 240 = .ok (.invokestatic 167, 3) := by decide +kernel
theorem dX7_count_243 : decode cX7_count 243 = .ok (.ireturn, 1) := by decide +kernel
theorem dX7_count_244 : decode cX7_count 244 = .ok (.new 171, 3) := by decide +kernel
theorem dX7_count_247 : decode cX7_count 247 = .ok (.dup, 1) := by decide +kernel
theorem dX7_count_248 : decode cX7_count 248 = .ok (.invokespecial 173, 3) := by decide +kernel
theorem dX7_count_251 : decode cX7_count 251 = .ok (.athrow, 1) := by decide +kernel
theorem dX7_aisle_0 : decode cX7_aisle 0 = .ok (.aload_n 0, 1) := by decide +kernel
theorem dX7_aisle_1 : decode cX7_aisle 1 = .ok (.iload_n 1, 1) := by decide +kernel
theorem dX7_aisle_2 : decode cX7_aisle 2 = .ok (.invokevirtual 174, 3) := by decide +kernel
theorem dX7_aisle_5 : decode cX7_aisle 5 = .ok (.iload_n 2, 1) := by decide +kernel
theorem dX7_aisle_6 : decode cX7_aisle 6 = .ok (.tableswitch 84 0 3 #[30, 45, 57, 72], 30) := by decide +kernel
theorem dX7_aisle_36 : decode cX7_aisle 36 = .ok (.aload_n 0, 1) := by decide +kernel
theorem dX7_aisle_37 : decode cX7_aisle 37 = .ok (.getfield 19, 3) := by decide +kernel
theorem dX7_aisle_40 : decode cX7_aisle 40 = .ok (.getfield 103, 3) := by decide +kernel
theorem dX7_aisle_43 : decode cX7_aisle 43 = .ok (.getfield 177, 3) := by decide +kernel
theorem dX7_aisle_46 : decode cX7_aisle 46 = .ok (.iload_n 1, 1) := by decide +kernel
theorem dX7_aisle_47 : decode cX7_aisle 47 = .ok (.invokestatic 167, 3) := by decide +kernel
theorem dX7_aisle_50 : decode cX7_aisle 50 = .ok (.ireturn, 1) := by decide +kernel
theorem dX7_aisle_51 : decode cX7_aisle 51 = .ok (.aload_n 0, 1) := by decide +kernel
theorem dX7_aisle_52 : decode cX7_aisle 52 = .ok (.getfield 33, 3) := by decide +kernel
theorem dX7_aisle_55 : decode cX7_aisle 55 = .ok (.getfield 180, 3) := by decide +kernel
theorem dX7_aisle_58 : decode cX7_aisle 58 = .ok (.iload_n 1, 1) := by decide +kernel
theorem dX7_aisle_59 : decode cX7_aisle 59 = .ok (.invokestatic 167, 3) := by decide +kernel
theorem dX7_aisle_62 : decode cX7_aisle 62 = .ok (.ireturn, 1) := by decide +kernel
theorem dX7_aisle_63 : decode cX7_aisle 63 = .ok (.aload_n 0, 1) := by decide +kernel
theorem dX7_aisle_64 : decode cX7_aisle 64 = .ok (.getfield 19, 3) := by decide +kernel
theorem dX7_aisle_67 : decode cX7_aisle 67 = .ok (.getfield 103, 3) := by decide +kernel
theorem dX7_aisle_70 : decode cX7_aisle 70 = .ok (.getfield 183, 3) := by decide +kernel
theorem dX7_aisle_73 : decode cX7_aisle 73 = .ok (.iload_n 1, 1) := by decide +kernel
theorem dX7_aisle_74 : decode cX7_aisle 74 = .ok (.invokestatic 167, 3) := by decide +kernel
theorem dX7_aisle_77 : decode cX7_aisle 77 = .ok (.ireturn, 1) := by decide +kernel
theorem dX7_aisle_78 : decode cX7_aisle 78 = .ok (.aload_n 0, 1) := by decide +kernel
theorem dX7_aisle_79 : decode cX7_aisle 79 = .ok (.getfield 33, 3) := by decide +kernel
theorem dX7_aisle_82 : decode cX7_aisle 82 = .ok (.getfield 186, 3) := by decide +kernel
theorem dX7_aisle_85 : decode cX7_aisle 85 = .ok (.iload_n 1, 1) := by decide +kernel
theorem dX7_aisle_86 : decode cX7_aisle 86 = .ok (.invokestatic 167, 3) := by decide +kernel
theorem dX7_aisle_89 : decode cX7_aisle 89 = .ok (.ireturn, 1) := by decide +kernel
theorem dX7_aisle_90 : decode cX7_aisle 90 = .ok (.new 171, 3) := by decide +kernel
theorem dX7_aisle_93 : decode cX7_aisle 93 = .ok (.dup, 1) := by decide +kernel
theorem dX7_aisle_94 : decode cX7_aisle 94 = .ok (.invokespecial 173, 3) := by decide +kernel
theorem dX7_aisle_97 : decode cX7_aisle 97 = .ok (.athrow, 1) := by decide +kernel
theorem dX7_person_0 : decode cX7_person 0 = .ok (.aload_n 0, 1) := by decide +kernel
theorem dX7_person_1 : decode cX7_person 1 = .ok (.iload_n 1, 1) := by decide +kernel
theorem dX7_person_2 : decode cX7_person 2 = .ok (.invokevirtual 189, 3) := by decide +kernel
theorem dX7_person_5 : decode cX7_person 5 = .ok (.iload_n 2, 1) := by decide +kernel
theorem dX7_person_6 : decode cX7_person 6 = .ok (.tableswitch 109 0 4 #[34, 49, 64, 79, 94], 34) := by decide +kernel
theorem dX7_person_40 : decode cX7_person 40 = .ok (.aload_n 0, 1) := by decide +kernel
theorem dX7_person_41 : decode cX7_person 41 = .ok (.getfield 19, 3) := by decide +kernel
theorem dX7_person_44 : decode cX7_person 44 = .ok (.getfield 118, 3) := by decide +kernel
theorem dX7_person_47 : decode cX7_person 47 = .ok (.getfield 192, 3) := by decide +kernel
theorem dX7_person_50 : decode cX7_person 50 = .ok (.iload_n 1, 1) := by decide +kernel
theorem dX7_person_51 : decode cX7_person 51 = .ok (.invokestatic 167, 3) := by decide +kernel
theorem dX7_person_54 : decode cX7_person 54 = .ok (.ireturn, 1) := by decide +kernel
theorem dX7_person_55 : decode cX7_person 55 = .ok (.aload_n 0, 1) := by decide +kernel
theorem dX7_person_56 : decode cX7_person 56 = .ok (.getfield 19, 3) := by decide +kernel
theorem dX7_person_59 : decode cX7_person 59 = .ok (.getfield 118, 3) := by decide +kernel
theorem dX7_person_62 : decode cX7_person 62 = .ok (.getfield 195, 3) := by decide +kernel
theorem dX7_person_65 : decode cX7_person 65 = .ok (.iload_n 1, 1) := by decide +kernel
theorem dX7_person_66 : decode cX7_person 66 = .ok (.invokestatic 167, 3) := by decide +kernel
theorem dX7_person_69 : decode cX7_person 69 = .ok (.ireturn, 1) := by decide +kernel
theorem dX7_person_70 : decode cX7_person 70 = .ok (.aload_n 0, 1) := by decide +kernel
theorem dX7_person_71 : decode cX7_person 71 = .ok (.getfield 19, 3) := by decide +kernel
theorem dX7_person_74 : decode cX7_person 74 = .ok (.getfield 118, 3) := by decide +kernel
theorem dX7_person_77 : decode cX7_person 77 = .ok (.getfield 198, 3) := by decide +kernel
theorem dX7_person_80 : decode cX7_person 80 = .ok (.iload_n 1, 1) := by decide +kernel
theorem dX7_person_81 : decode cX7_person 81 = .ok (.invokestatic 167, 3) := by decide +kernel
theorem dX7_person_84 : decode cX7_person 84 = .ok (.ireturn, 1) := by decide +kernel
theorem dX7_person_85 : decode cX7_person 85 = .ok (.aload_n 0, 1) := by decide +kernel
theorem dX7_person_86 : decode cX7_person 86 = .ok (.getfield 19, 3) := by decide +kernel
theorem dX7_person_89 : decode cX7_person 89 = .ok (.getfield 118, 3) := by decide +kernel
theorem dX7_person_92 : decode cX7_person 92 = .ok (.getfield 201, 3) := by decide +kernel
theorem dX7_person_95 : decode cX7_person 95 = .ok (.iload_n 1, 1) := by decide +kernel
theorem dX7_person_96 : decode cX7_person 96 = .ok (.invokestatic 167, 3) := by decide +kernel
theorem dX7_person_99 : decode cX7_person 99 = .ok (.ireturn, 1) := by decide +kernel
theorem dX7_person_100 : decode cX7_person 100 = .ok (.aload_n 0, 1) := by decide +kernel
theorem dX7_person_101 : decode cX7_person 101 = .ok (.getfield 19, 3) := by decide +kernel
theorem dX7_person_104 : decode cX7_person 104 = .ok (.getfield 118, 3) := by decide +kernel
theorem dX7_person_107 : decode cX7_person 107 = .ok (.getfield 204, 3) := by decide +kernel
theorem dX7_person_110 : decode cX7_person 110 = .ok (.iload_n 1, 1) := by decide +kernel
theorem dX7_person_111 : decode cX7_person 111 = .ok (.invokestatic 167, 3) := by decide +kernel
theorem dX7_person_114 : decode cX7_person 114 = .ok (.ireturn, 1) := by decide +kernel
theorem dX7_person_115 : decode cX7_person 115 = .ok (.new 171, 3) := by decide +kernel
theorem dX7_person_118 : decode cX7_person 118 = .ok (.dup, 1) := by decide +kernel
theorem dX7_person_119 : decode cX7_person 119 = .ok (.invokespecial 173, 3) := by decide +kernel
theorem dX7_person_122 : decode cX7_person 122 = .ok (.athrow, 1) := by decide +kernel
theorem dX7_route_0 : decode cX7_route 0 = .ok (.aload_n 0, 1) := by decide +kernel
theorem dX7_route_1 : decode cX7_route 1 = .ok (.iload_n 1, 1) := by decide +kernel
theorem dX7_route_2 : decode cX7_route 2 = .ok (.invokevirtual 189, 3) := by decide +kernel
theorem dX7_route_5 : decode cX7_route 5 = .ok (.iload_n 2, 1) := by decide +kernel
theorem dX7_route_6 : decode cX7_route 6 = .ok (.ifCond .lt 21, 3) := by decide +kernel
theorem dX7_route_9 : decode cX7_route 9 = .ok (.iload_n 2, 1) := by decide +kernel
theorem dX7_route_10 : decode cX7_route 10 = .ok (.aload_n 0, 1) := by decide +kernel
theorem dX7_route_11 : decode cX7_route 11 = .ok (.getfield 19, 3) := by decide +kernel
theorem dX7_route_14 : decode cX7_route 14 = .ok (.getfield 118, 3) := by decide +kernel
theorem dX7_route_17 : decode cX7_route 17 = .ok (.getfield 204, 3) := by decide +kernel
theorem dX7_route_20 : decode cX7_route 20 = .ok (.iload_n 1, 1) := by decide +kernel
theorem dX7_route_21 : decode cX7_route 21 = .ok (.invokestatic 167, 3) := by decide +kernel
theorem dX7_route_24 : decode cX7_route 24 = .ok (.if_icmp .lt 11, 3) := by decide +kernel
theorem dX7_route_27 : decode cX7_route 27 = .ok (.new 171, 3) := by decide +kernel
theorem dX7_route_30 : decode cX7_route 30 = .ok (.dup, 1) := by decide +kernel
theorem dX7_route_31 : decode cX7_route 31 = .ok (.invokespecial 173, 3) := by decide +kernel
theorem dX7_route_34 : decode cX7_route 34 = .ok (.athrow, 1) := by decide +kernel
theorem dX7_route_35 : decode cX7_route 35 = .ok (.aload_n 0, 1) := by decide +kernel
theorem dX7_route_36 : decode cX7_route 36 = .ok (.getfield 19, 3) := by decide +kernel
theorem dX7_route_39 : decode cX7_route 39 = .ok (.getfield 118, 3) := by decide +kernel
theorem dX7_route_42 : decode cX7_route 42 = .ok (.iload_n 1, 1) := by decide +kernel
theorem dX7_route_43 : decode cX7_route 43 = .ok (.iload_n 2, 1) := by decide +kernel
theorem dX7_route_44 : decode cX7_route 44 = .ok (.invokevirtual 207, 3) := by decide +kernel
theorem dX7_route_47 : decode cX7_route 47 = .ok (.ireturn, 1) := by decide +kernel
theorem dX7_far_0 : decode cX7_far 0 = .ok (.aload_n 0, 1) := by decide +kernel
theorem dX7_far_1 : decode cX7_far 1 = .ok (.iload_n 1, 1) := by decide +kernel
theorem dX7_far_2 : decode cX7_far 2 = .ok (.invokevirtual 174, 3) := by decide +kernel
theorem dX7_far_5 : decode cX7_far 5 = .ok (.aload_n 0, 1) := by decide +kernel
theorem dX7_far_6 : decode cX7_far 6 = .ok (.iload_n 2, 1) := by decide +kernel
theorem dX7_far_7 : decode cX7_far 7 = .ok (.invokevirtual 174, 3) := by decide +kernel
theorem dX7_far_10 : decode cX7_far 10 = .ok (.aload_n 0, 1) := by decide +kernel
theorem dX7_far_11 : decode cX7_far 11 = .ok (.getfield 19, 3) := by decide +kernel
theorem dX7_far_14 : decode cX7_far 14 = .ok (.getfield 103, 3) := by decide +kernel
theorem dX7_far_17 : decode cX7_far 17 = .ok (.iload_n 1, 1) := by decide +kernel
theorem dX7_far_18 : decode cX7_far 18 = .ok (.iload_n 2, 1) := by decide +kernel
theorem dX7_far_19 : decode cX7_far 19 = .ok (.invokevirtual 211, 3) := by decide +kernel
theorem dX7_far_22 : decode cX7_far 22 = .ok (.istore_n 3, 1) := by decide +kernel
theorem dX7_far_23 : decode cX7_far 23 = .ok (.iload_n 3, 1) := by decide +kernel
theorem dX7_far_24 : decode cX7_far 24 = .ok (.bipush 99, 2) := by decide +kernel
theorem dX7_far_26 : decode cX7_far 26 = .ok (.if_icmp .ne 7, 3) := by decide +kernel
theorem dX7_far_29 : decode cX7_far 29 = .ok (.iconst (-1), 1) := by decide +kernel
theorem dX7_far_30 : decode cX7_far 30 = .ok (.goto 4, 3) := by decide +kernel
theorem dX7_far_33 : decode cX7_far 33 = .ok (.iload_n 3, 1) := by decide +kernel
theorem dX7_far_34 : decode cX7_far 34 = .ok (.ireturn, 1) := by decide +kernel
theorem dX7_watch_0 : decode cX7_watch 0 = .ok (.aload_n 0, 1) := by decide +kernel
theorem dX7_watch_1 : decode cX7_watch 1 = .ok (.iload_n 1, 1) := by decide +kernel
theorem dX7_watch_2 : decode cX7_watch 2 = .ok (.iload_n 2, 1) := by decide +kernel
theorem dX7_watch_3 : decode cX7_watch 3 = .ok (.invokevirtual 214, 3) := by decide +kernel
theorem dX7_watch_6 : decode cX7_watch 6 = .ok (.ifCond .ne 13, 3) := by decide +kernel
theorem dX7_watch_9 : decode cX7_watch 9 = .ok (.aload_n 0, 1) := by decide +kernel
theorem dX7_watch_10 : decode cX7_watch 10 = .ok (.getfield 33, 3) := by decide +kernel
theorem dX7_watch_13 : decode cX7_watch 13 = .ok (.iconst 1, 1) := by decide +kernel
theorem dX7_watch_14 : decode cX7_watch 14 = .ok (.invokevirtual 93, 3) := by decide +kernel
theorem dX7_watch_17 : decode cX7_watch 17 = .ok (.iconst 0, 1) := by decide +kernel
theorem dX7_watch_18 : decode cX7_watch 18 = .ok (.ireturn, 1) := by decide +kernel
theorem dX7_watch_19 : decode cX7_watch 19 = .ok (.aload_n 0, 1) := by decide +kernel
theorem dX7_watch_20 : decode cX7_watch 20 = .ok (.invokevirtual 218, 3) := by decide +kernel
theorem dX7_watch_23 : decode cX7_watch 23 = .ok (.aload_n 0, 1) := by decide +kernel
theorem dX7_watch_24 : decode cX7_watch 24 = .ok (.getfield 33, 3) := by decide +kernel
theorem dX7_watch_27 : decode cX7_watch 27 = .ok (.iload_n 1, 1) := by decide +kernel
theorem dX7_watch_28 : decode cX7_watch 28 = .ok (.putfield 143, 3) := by decide +kernel
theorem dX7_watch_31 : decode cX7_watch 31 = .ok (.aload_n 0, 1) := by decide +kernel
theorem dX7_watch_32 : decode cX7_watch 32 = .ok (.getfield 33, 3) := by decide +kernel
theorem dX7_watch_35 : decode cX7_watch 35 = .ok (.iload_n 1, 1) := by decide +kernel
theorem dX7_watch_36 : decode cX7_watch 36 = .ok (.ifCond .ne 7, 3) := by decide +kernel
theorem dX7_watch_39 : decode cX7_watch 39 = .ok (.iconst 0, 1) := by decide +kernel
theorem dX7_watch_40 : decode cX7_watch 40 = .ok (.goto 4, 3) := by decide +kernel
theorem dX7_watch_43 : decode cX7_watch 43 = .ok (.iload_n 2, 1) := by decide +kernel
theorem dX7_watch_44 : decode cX7_watch 44 = .ok (.putfield 146, 3) := by decide +kernel
theorem dX7_watch_47 : decode cX7_watch 47 = .ok (.iconst 1, 1) := by decide +kernel
theorem dX7_watch_48 : decode cX7_watch 48 = .ok (.ireturn, 1) := by decide +kernel
theorem dX7_canWatch_0 : decode cX7_canWatch 0 = .ok (.iload_n 1, 1) := by decide +kernel
theorem dX7_canWatch_1 : decode cX7_canWatch 1 = .ok (.tableswitch 81 0 3 #[31, 33, 57, 69], 31) := by decide +kernel
theorem dX7_canWatch_32 : decode cX7_canWatch 32 = .ok (.iconst 1, 1) := by decide +kernel
theorem dX7_canWatch_33 : decode cX7_canWatch 33 = .ok (.ireturn, 1) := by decide +kernel
theorem dX7_canWatch_34 : decode cX7_canWatch 34 = .ok (.iload_n 2, 1) := by decide +kernel
theorem dX7_canWatch_35 : decode cX7_canWatch 35 = .ok (.ifCond .lt 21, 3) := by decide +kernel
theorem dX7_canWatch_38 : decode cX7_canWatch 38 = .ok (.iload_n 2, 1) := by decide +kernel
theorem dX7_canWatch_39 : decode cX7_canWatch 39 = .ok (.aload_n 0, 1) := by decide +kernel
theorem dX7_canWatch_40 : decode cX7_canWatch 40 = .ok (.getfield 19, 3) := by decide +kernel
theorem dX7_canWatch_43 : decode cX7_canWatch 43 = .ok (.getfield 127, 3) := by decide +kernel
theorem dX7_canWatch_46 : decode cX7_canWatch 46 = .ok (.getfield 131, 3) := by decide +kernel
theorem dX7_canWatch_49 : decode cX7_canWatch 49 = .ok (.if_icmp .ge 7, 3) := by decide +kernel
theorem dX7_canWatch_52 : decode cX7_canWatch 52 = .ok (.iconst 1, 1) := by decide +kernel
theorem dX7_canWatch_53 : decode cX7_canWatch 53 = .ok (.goto 4, 3) := by decide +kernel
theorem dX7_canWatch_56 : decode cX7_canWatch 56 = .ok (.iconst 0, 1) := by decide +kernel
theorem dX7_canWatch_57 : decode cX7_canWatch 57 = .ok (.ireturn, 1) := by decide +kernel
theorem dX7_canWatch_58 : decode cX7_canWatch 58 = .ok (.aload_n 0, 1) := by decide +kernel
theorem dX7_canWatch_59 : decode cX7_canWatch 59 = .ok (.getfield 19, 3) := by decide +kernel
theorem dX7_canWatch_62 : decode cX7_canWatch 62 = .ok (.getfield 118, 3) := by decide +kernel
theorem dX7_canWatch_65 : decode cX7_canWatch 65 = .ok (.iload_n 2, 1) := by decide +kernel
theorem dX7_canWatch_66 : decode cX7_canWatch 66 = .ok (.invokevirtual 221, 3) := by decide +kernel
theorem dX7_canWatch_69 : decode cX7_canWatch 69 = .ok (.ireturn, 1) := by decide +kernel
theorem dX7_canWatch_70 : decode cX7_canWatch 70 = .ok (.aload_n 0, 1) := by decide +kernel
theorem dX7_canWatch_71 : decode cX7_canWatch 71 = .ok (.getfield 19, 3) := by decide +kernel
theorem dX7_canWatch_74 : decode cX7_canWatch 74 = .ok (.getfield 103, 3) := by decide +kernel
theorem dX7_canWatch_77 : decode cX7_canWatch 77 = .ok (.iload_n 2, 1) := by decide +kernel
theorem dX7_canWatch_78 : decode cX7_canWatch 78 = .ok (.invokevirtual 225, 3) := by decide +kernel
theorem dX7_canWatch_81 : decode cX7_canWatch 81 = .ok (.ireturn, 1) := by decide +kernel
theorem dX7_canWatch_82 : decode cX7_canWatch 82 = .ok (.iconst 0, 1) := by decide +kernel
theorem dX7_canWatch_83 : decode cX7_canWatch 83 = .ok (.ireturn, 1) := by decide +kernel
theorem dX7_open_0 : decode cX7_open 0 = .ok (.aload_n 0, 1) := by decide +kernel
theorem dX7_open_1 : decode cX7_open 1 = .ok (.getfield 33, 3) := by decide +kernel
theorem dX7_open_4 : decode cX7_open 4 = .ok (.getfield 149, 3) := by decide +kernel
theorem dX7_open_7 : decode cX7_open 7 = .ok (.iconst 1, 1) := by decide +kernel
theorem dX7_open_8 : decode cX7_open 8 = .ok (.if_icmp .ne 7, 3) := by decide +kernel
theorem dX7_open_11 : decode cX7_open 11 = .ok (.iconst 1, 1) := by decide +kernel
theorem dX7_open_12 : decode cX7_open 12 = .ok (.goto 4, 3) := by decide +kernel
theorem dX7_open_15 : decode cX7_open 15 = .ok (.iconst 0, 1) := by decide +kernel
theorem dX7_open_16 : decode cX7_open 16 = .ok (.istore_n 2, 1) := by decide +kernel
theorem dX7_open_17 : decode cX7_open 17 = .ok (.aload_n 0, 1) := by decide +kernel
theorem dX7_open_18 : decode cX7_open 18 = .ok (.invokevirtual 218, 3) := by decide +kernel
theorem dX7_open_21 : decode cX7_open 21 = .ok (.aload_n 0, 1) := by decide +kernel
theorem dX7_open_22 : decode cX7_open 22 = .ok (.getfield 33, 3) := by decide +kernel
theorem dX7_open_25 : decode cX7_open 25 = .ok (.iload_n 1, 1) := by decide +kernel
theorem dX7_open_26 : decode cX7_open 26 = .ok (.ifCond .eq 7, 3) := by decide +kernel
theorem dX7_open_29 : decode cX7_open 29 = .ok (.iconst 1, 1) := by decide +kernel
theorem dX7_open_30 : decode cX7_open 30 = .ok (.goto 4, 3) := by decide +kernel
theorem dX7_open_33 : decode cX7_open 33 = .ok (.iconst 0, 1) := by decide +kernel
theorem dX7_open_34 : decode cX7_open 34 = .ok (.putfield 149, 3) := by decide +kernel
theorem dX7_open_37 : decode cX7_open 37 = .ok (.iload_n 2, 1) := by decide +kernel
theorem dX7_open_38 : decode cX7_open 38 = .ok (.ireturn, 1) := by decide +kernel
theorem dX7_stops_0 : decode cX7_stops 0 = .ok (.iload_n 1, 1) := by decide +kernel
theorem dX7_stops_1 : decode cX7_stops 1 = .ok (.ifCond .lt 8, 3) := by decide +kernel
theorem dX7_stops_4 : decode cX7_stops 4 = .ok (.iload_n 1, 1) := by decide +kernel
theorem dX7_stops_5 : decode cX7_stops 5 = .ok (.iconst 2, 1) := by decide +kernel
theorem dX7_stops_6 : decode cX7_stops 6 = .ok (.if_icmp .le 13, 3) := by decide +kernel
theorem dX7_stops_9 : decode cX7_stops 9 = .ok (.aload_n 0, 1) := by decide +kernel
theorem dX7_stops_10 : decode cX7_stops 10 = .ok (.getfield 33, 3) := by decide +kernel
theorem dX7_stops_13 : decode cX7_stops 13 = .ok (.iconst 1, 1) := by decide +kernel
theorem dX7_stops_14 : decode cX7_stops 14 = .ok (.invokevirtual 93, 3) := by decide +kernel
theorem dX7_stops_17 : decode cX7_stops 17 = .ok (.iconst (-1), 1) := by decide +kernel
theorem dX7_stops_18 : decode cX7_stops 18 = .ok (.ireturn, 1) := by decide +kernel
theorem dX7_stops_19 : decode cX7_stops 19 = .ok (.aload_n 0, 1) := by decide +kernel
theorem dX7_stops_20 : decode cX7_stops 20 = .ok (.getfield 33, 3) := by decide +kernel
theorem dX7_stops_23 : decode cX7_stops 23 = .ok (.getfield 140, 3) := by decide +kernel
theorem dX7_stops_26 : decode cX7_stops 26 = .ok (.istore_n 2, 1) := by decide +kernel
theorem dX7_stops_27 : decode cX7_stops 27 = .ok (.aload_n 0, 1) := by decide +kernel
theorem dX7_stops_28 : decode cX7_stops 28 = .ok (.invokevirtual 218, 3) := by decide +kernel
theorem dX7_stops_31 : decode cX7_stops 31 = .ok (.aload_n 0, 1) := by decide +kernel
theorem dX7_stops_32 : decode cX7_stops 32 = .ok (.getfield 33, 3) := by decide +kernel
theorem dX7_stops_35 : decode cX7_stops 35 = .ok (.iload_n 1, 1) := by decide +kernel
theorem dX7_stops_36 : decode cX7_stops 36 = .ok (.putfield 140, 3) := by decide +kernel
theorem dX7_stops_39 : decode cX7_stops 39 = .ok (.iload_n 2, 1) := by decide +kernel
theorem dX7_stops_40 : decode cX7_stops 40 = .ok (.ireturn, 1) := by decide +kernel
theorem dX7_mirror_0 : decode cX7_mirror 0 = .ok (.aload_n 0, 1) := by decide +kernel
theorem dX7_mirror_1 : decode cX7_mirror 1 = .ok (.getfield 33, 3) := by decide +kernel
theorem dX7_mirror_4 : decode cX7_mirror 4 = .ok (.getfield 115, 3) := by decide +kernel
theorem dX7_mirror_7 : decode cX7_mirror 7 = .ok (.bipush 6, 2) := by decide +kernel
theorem dX7_mirror_9 : decode cX7_mirror 9 = .ok (.if_icmp .ge 12, 3) := by decide +kernel
theorem dX7_mirror_12 : decode cX7_mirror 12 = .ok (.aload_n 0, 1) := by decide +kernel
theorem dX7_mirror_13 : decode cX7_mirror 13 = .ok (.iload_n 1, 1) := by decide +kernel
theorem dX7_mirror_14 : decode cX7_mirror 14 = .ok (.iload_n 2, 1) := by decide +kernel
theorem dX7_mirror_15 : decode cX7_mirror 15 = .ok (.invokevirtual 228, 3) := by decide +kernel
theorem dX7_mirror_18 : decode cX7_mirror 18 = .ok (.ifCond .ne 13, 3) := by decide +kernel
theorem dX7_mirror_21 : decode cX7_mirror 21 = .ok (.aload_n 0, 1) := by decide +kernel
theorem dX7_mirror_22 : decode cX7_mirror 22 = .ok (.getfield 33, 3) := by decide +kernel
theorem dX7_mirror_25 : decode cX7_mirror 25 = .ok (.iconst 1, 1) := by decide +kernel
theorem dX7_mirror_26 : decode cX7_mirror 26 = .ok (.invokevirtual 93, 3) := by decide +kernel
theorem dX7_mirror_29 : decode cX7_mirror 29 = .ok (.iconst (-1), 1) := by decide +kernel
theorem dX7_mirror_30 : decode cX7_mirror 30 = .ok (.ireturn, 1) := by decide +kernel
theorem dX7_mirror_31 : decode cX7_mirror 31 = .ok (.aload_n 0, 1) := by decide +kernel
theorem dX7_mirror_32 : decode cX7_mirror 32 = .ok (.invokevirtual 218, 3) := by decide +kernel
theorem dX7_mirror_35 : decode cX7_mirror 35 = .ok (.aload_n 0, 1) := by decide +kernel
theorem dX7_mirror_36 : decode cX7_mirror 36 = .ok (.getfield 33, 3) := by decide +kernel
theorem dX7_mirror_39 : decode cX7_mirror 39 = .ok (.getfield 186, 3) := by decide +kernel
theorem dX7_mirror_42 : decode cX7_mirror 42 = .ok (.iload_n 1, 1) := by decide +kernel
theorem dX7_mirror_43 : decode cX7_mirror 43 = .ok (.aload_n 0, 1) := by decide +kernel
theorem dX7_mirror_44 : decode cX7_mirror 44 = .ok (.getfield 33, 3) := by decide +kernel
theorem dX7_mirror_47 : decode cX7_mirror 47 = .ok (.getfield 186, 3) := by decide +kernel
theorem dX7_mirror_50 : decode cX7_mirror 50 = .ok (.iload_n 1, 1) := by decide +kernel
theorem dX7_mirror_51 : decode cX7_mirror 51 = .ok (.invokestatic 167, 3) := by decide +kernel
theorem dX7_mirror_54 : decode cX7_mirror 54 = .ok (.iload_n 2, 1) := by decide +kernel
theorem dX7_mirror_55 : decode cX7_mirror 55 = .ok (.invokestatic 231, 3) := by decide +kernel
theorem dX7_mirror_58 : decode cX7_mirror 58 = .ok (.ior, 1) := by decide +kernel
theorem dX7_mirror_59 : decode cX7_mirror 59 = .ok (.invokestatic 79, 3) := by decide +kernel
theorem dX7_mirror_62 : decode cX7_mirror 62 = .ok (.aload_n 0, 1) := by decide +kernel
theorem dX7_mirror_63 : decode cX7_mirror 63 = .ok (.getfield 33, 3) := by decide +kernel
theorem dX7_mirror_66 : decode cX7_mirror 66 = .ok (.dup, 1) := by decide +kernel
theorem dX7_mirror_67 : decode cX7_mirror 67 = .ok (.getfield 115, 3) := by decide +kernel
theorem dX7_mirror_70 : decode cX7_mirror 70 = .ok (.iconst 1, 1) := by decide +kernel
theorem dX7_mirror_71 : decode cX7_mirror 71 = .ok (.iadd, 1) := by decide +kernel
theorem dX7_mirror_72 : decode cX7_mirror 72 = .ok (.putfield 115, 3) := by decide +kernel
theorem dX7_mirror_75 : decode cX7_mirror 75 = .ok (.aload_n 0, 1) := by decide +kernel
theorem dX7_mirror_76 : decode cX7_mirror 76 = .ok (.getfield 33, 3) := by decide +kernel
theorem dX7_mirror_79 : decode cX7_mirror 79 = .ok (.getfield 115, 3) := by decide +kernel
theorem dX7_mirror_82 : decode cX7_mirror 82 = .ok (.ireturn, 1) := by decide +kernel
theorem dX7_canHang_0 : decode cX7_canHang 0 = .ok (.aload_n 0, 1) := by decide +kernel
theorem dX7_canHang_1 : decode cX7_canHang 1 = .ok (.getfield 19, 3) := by decide +kernel
theorem dX7_canHang_4 : decode cX7_canHang 4 = .ok (.getfield 103, 3) := by decide +kernel
theorem dX7_canHang_7 : decode cX7_canHang 7 = .ok (.iload_n 1, 1) := by decide +kernel
theorem dX7_canHang_8 : decode cX7_canHang 8 = .ok (.invokevirtual 225, 3) := by decide +kernel
theorem dX7_canHang_11 : decode cX7_canHang 11 = .ok (.ifCond .eq 44, 3) := by decide +kernel
theorem dX7_canHang_14 : decode cX7_canHang 14 = .ok (.aload_n 0, 1) := by decide +kernel
theorem dX7_canHang_15 : decode cX7_canHang 15 = .ok (.getfield 19, 3) := by decide +kernel
theorem dX7_canHang_18 : decode cX7_canHang 18 = .ok (.getfield 103, 3) := by decide +kernel
theorem dX7_canHang_21 : decode cX7_canHang 21 = .ok (.iload_n 2, 1) := by decide +kernel
theorem dX7_canHang_22 : decode cX7_canHang 22 = .ok (.invokevirtual 225, 3) := by decide +kernel
theorem dX7_canHang_25 : decode cX7_canHang 25 = .ok (.ifCond .eq 30, 3) := by decide +kernel
theorem dX7_canHang_28 : decode cX7_canHang 28 = .ok (.iload_n 1, 1) := by decide +kernel
theorem dX7_canHang_29 : decode cX7_canHang 29 = .ok (.iload_n 2, 1) := by decide +kernel
theorem dX7_canHang_30 : decode cX7_canHang 30 = .ok (.if_icmp .eq 25, 3) := by decide +kernel
theorem dX7_canHang_33 : decode cX7_canHang 33 = .ok (.aload_n 0, 1) := by decide +kernel
theorem dX7_canHang_34 : decode cX7_canHang 34 = .ok (.getfield 33, 3) := by decide +kernel
theorem dX7_canHang_37 : decode cX7_canHang 37 = .ok (.getfield 186, 3) := by decide +kernel
theorem dX7_canHang_40 : decode cX7_canHang 40 = .ok (.iload_n 1, 1) := by decide +kernel
theorem dX7_canHang_41 : decode cX7_canHang 41 = .ok (.invokestatic 167, 3) := by decide +kernel
theorem dX7_canHang_44 : decode cX7_canHang 44 = .ok (.iload_n 2, 1) := by decide +kernel
theorem dX7_canHang_45 : decode cX7_canHang 45 = .ok (.invokestatic 234, 3) := by decide +kernel
theorem dX7_canHang_48 : decode cX7_canHang 48 = .ok (.ifCond .ne 7, 3) := by decide +kernel
theorem dX7_canHang_51 : decode cX7_canHang 51 = .ok (.iconst 1, 1) := by decide +kernel
theorem dX7_canHang_52 : decode cX7_canHang 52 = .ok (.goto 4, 3) := by decide +kernel
theorem dX7_canHang_55 : decode cX7_canHang 55 = .ok (.iconst 0, 1) := by decide +kernel
theorem dX7_canHang_56 : decode cX7_canHang 56 = .ok (.ireturn, 1) := by decide +kernel
theorem dX7_stock_0 : decode cX7_stock 0 = .ok (.aload_n 0, 1) := by decide +kernel
theorem dX7_stock_1 : decode cX7_stock 1 = .ok (.iload_n 1, 1) := by decide +kernel
theorem dX7_stock_2 : decode cX7_stock 2 = .ok (.invokevirtual 174, 3) := by decide +kernel
theorem dX7_stock_5 : decode cX7_stock 5 = .ok (.iload_n 2, 1) := by decide +kernel
theorem dX7_stock_6 : decode cX7_stock 6 = .ok (.ifCond .lt 9, 3) := by decide +kernel
theorem dX7_stock_9 : decode cX7_stock 9 = .ok (.iload_n 2, 1) := by decide +kernel
theorem dX7_stock_10 : decode cX7_stock 10 = .ok (.bipush 99, 2) := by decide +kernel
theorem dX7_stock_12 : decode cX7_stock 12 = .ok (.if_icmp .le 13, 3) := by decide +kernel
theorem dX7_stock_15 : decode cX7_stock 15 = .ok (.aload_n 0, 1) := by decide +kernel
theorem dX7_stock_16 : decode cX7_stock 16 = .ok (.getfield 33, 3) := by decide +kernel
theorem dX7_stock_19 : decode cX7_stock 19 = .ok (.iconst 1, 1) := by decide +kernel
theorem dX7_stock_20 : decode cX7_stock 20 = .ok (.invokevirtual 93, 3) := by decide +kernel
theorem dX7_stock_23 : decode cX7_stock 23 = .ok (.iconst (-1), 1) := by decide +kernel
theorem dX7_stock_24 : decode cX7_stock 24 = .ok (.ireturn, 1) := by decide +kernel
theorem dX7_stock_25 : decode cX7_stock 25 = .ok (.aload_n 0, 1) := by decide +kernel
theorem dX7_stock_26 : decode cX7_stock 26 = .ok (.getfield 33, 3) := by decide +kernel
theorem dX7_stock_29 : decode cX7_stock 29 = .ok (.getfield 180, 3) := by decide +kernel
theorem dX7_stock_32 : decode cX7_stock 32 = .ok (.iload_n 1, 1) := by decide +kernel
theorem dX7_stock_33 : decode cX7_stock 33 = .ok (.invokestatic 167, 3) := by decide +kernel
theorem dX7_stock_36 : decode cX7_stock 36 = .ok (.istore_n 3, 1) := by decide +kernel
theorem dX7_stock_37 : decode cX7_stock 37 = .ok (.aload_n 0, 1) := by decide +kernel
theorem dX7_stock_38 : decode cX7_stock 38 = .ok (.invokevirtual 218, 3) := by decide +kernel
theorem dX7_stock_41 : decode cX7_stock 41 = .ok (.aload_n 0, 1) := by decide +kernel
theorem dX7_stock_42 : decode cX7_stock 42 = .ok (.getfield 33, 3) := by decide +kernel
theorem dX7_stock_45 : decode cX7_stock 45 = .ok (.getfield 180, 3) := by decide +kernel
theorem dX7_stock_48 : decode cX7_stock 48 = .ok (.iload_n 1, 1) := by decide +kernel
theorem dX7_stock_49 : decode cX7_stock 49 = .ok (.iload_n 2, 1) := by decide +kernel
theorem dX7_stock_50 : decode cX7_stock 50 = .ok (.invokestatic 79, 3) := by decide +kernel
theorem dX7_stock_53 : decode cX7_stock 53 = .ok (.iload_n 3, 1) := by decide +kernel
theorem dX7_stock_54 : decode cX7_stock 54 = .ok (.ireturn, 1) := by decide +kernel
theorem dX7_days_0 : decode cX7_days 0 = .ok (.iload_n 1, 1) := by decide +kernel
theorem dX7_days_1 : decode cX7_days 1 = .ok (.iconst 1, 1) := by decide +kernel
theorem dX7_days_2 : decode cX7_days 2 = .ok (.if_icmp .lt 9, 3) := by decide +kernel
theorem dX7_days_5 : decode cX7_days 5 = .ok (.iload_n 1, 1) := by decide +kernel
theorem dX7_days_6 : decode cX7_days 6 = .ok (.bipush 30, 2) := by decide +kernel
theorem dX7_days_8 : decode cX7_days 8 = .ok (.if_icmp .le 13, 3) := by decide +kernel
theorem dX7_days_11 : decode cX7_days 11 = .ok (.aload_n 0, 1) := by decide +kernel
theorem dX7_days_12 : decode cX7_days 12 = .ok (.getfield 33, 3) := by decide +kernel
theorem dX7_days_15 : decode cX7_days 15 = .ok (.iconst 1, 1) := by decide +kernel
theorem dX7_days_16 : decode cX7_days 16 = .ok (.invokevirtual 93, 3) := by decide +kernel
theorem dX7_days_19 : decode cX7_days 19 = .ok (.iconst (-1), 1) := by decide +kernel
theorem dX7_days_20 : decode cX7_days 20 = .ok (.ireturn, 1) := by decide +kernel
theorem dX7_days_21 : decode cX7_days 21 = .ok (.aload_n 0, 1) := by decide +kernel
theorem dX7_days_22 : decode cX7_days 22 = .ok (.invokevirtual 218, 3) := by decide +kernel
theorem dX7_days_25 : decode cX7_days 25 = .ok (.aload_n 0, 1) := by decide +kernel
theorem dX7_days_26 : decode cX7_days 26 = .ok (.getfield 53, 3) := by decide +kernel
theorem dX7_days_29 : decode cX7_days 29 = .ok (.aload_n 0, 1) := by decide +kernel
theorem dX7_days_30 : decode cX7_days 30 = .ok (.getfield 19, 3) := by decide +kernel
theorem dX7_days_33 : decode cX7_days 33 = .ok (.aload_n 0, 1) := by decide +kernel
theorem dX7_days_34 : decode cX7_days 34 = .ok (.getfield 33, 3) := by decide +kernel
theorem dX7_days_37 : decode cX7_days 37 = .ok (.invokevirtual 237, 3) := by decide +kernel
theorem dX7_days_40 : decode cX7_days 40 = .ok (.iconst 0, 1) := by decide +kernel
theorem dX7_days_41 : decode cX7_days 41 = .ok (.istore_n 2, 1) := by decide +kernel
theorem dX7_days_42 : decode cX7_days 42 = .ok (.iconst 0, 1) := by decide +kernel
theorem dX7_days_43 : decode cX7_days 43 = .ok (.istore_n 3, 1) := by decide +kernel
theorem dX7_days_44 : decode cX7_days 44 = .ok (.iload_n 3, 1) := by decide +kernel
theorem dX7_days_45 : decode cX7_days 45 = .ok (.iload_n 1, 1) := by decide +kernel
theorem dX7_days_46 : decode cX7_days 46 = .ok (.if_icmp .ge 19, 3) := by decide +kernel
theorem dX7_days_49 : decode cX7_days 49 = .ok (.iload_n 2, 1) := by decide +kernel
theorem dX7_days_50 : decode cX7_days 50 = .ok (.aload_n 0, 1) := by decide +kernel
theorem dX7_days_51 : decode cX7_days 51 = .ok (.getfield 53, 3) := by decide +kernel
theorem dX7_days_54 : decode cX7_days 54 = .ok (.invokevirtual 241, 3) := by decide +kernel
theorem dX7_days_57 : decode cX7_days 57 = .ok (.iadd, 1) := by decide +kernel
theorem dX7_days_58 : decode cX7_days 58 = .ok (.istore_n 2, 1) := by decide +kernel
theorem dX7_days_59 : decode cX7_days 59 = .ok (.iinc 3 1, 3) := by decide +kernel
theorem dX7_days_62 : decode cX7_days 62 = .ok (.goto (-18), 3) := by decide +kernel
theorem dX7_days_65 : decode cX7_days 65 = .ok (.aload_n 0, 1) := by decide +kernel
theorem dX7_days_66 : decode cX7_days 66 = .ok (.getfield 53, 3) := by decide +kernel
theorem dX7_days_69 : decode cX7_days 69 = .ok (.getfield 245, 3) := by decide +kernel
theorem dX7_days_72 : decode cX7_days 72 = .ok (.aload_n 0, 1) := by decide +kernel
theorem dX7_days_73 : decode cX7_days 73 = .ok (.getfield 33, 3) := by decide +kernel
theorem dX7_days_76 : decode cX7_days 76 = .ok (.getfield 180, 3) := by decide +kernel
theorem dX7_days_79 : decode cX7_days 79 = .ok (.invokestatic 246, 3) := by decide +kernel
theorem dX7_days_82 : decode cX7_days 82 = .ok (.aload_n 0, 1) := by decide +kernel
theorem dX7_days_83 : decode cX7_days 83 = .ok (.getfield 33, 3) := by decide +kernel
theorem dX7_days_86 : decode cX7_days 86 = .ok (.dup, 1) := by decide +kernel
theorem dX7_days_87 : decode cX7_days 87 = .ok (.getfield 152, 3) := by decide +kernel
theorem dX7_days_90 : decode cX7_days 90 = .ok (.iload_n 1, 1) := by decide +kernel
theorem dX7_days_91 : decode cX7_days 91 = .ok (.iadd, 1) := by decide +kernel
theorem dX7_days_92 : decode cX7_days 92 = .ok (.putfield 152, 3) := by decide +kernel
theorem dX7_days_95 : decode cX7_days 95 = .ok (.iload_n 2, 1) := by decide +kernel
theorem dX7_days_96 : decode cX7_days 96 = .ok (.ireturn, 1) := by decide +kernel
theorem dX7_undo_0 : decode cX7_undo 0 = .ok (.aload_n 0, 1) := by decide +kernel
theorem dX7_undo_1 : decode cX7_undo 1 = .ok (.getfield 33, 3) := by decide +kernel
theorem dX7_undo_4 : decode cX7_undo 4 = .ok (.getfield 155, 3) := by decide +kernel
theorem dX7_undo_7 : decode cX7_undo 7 = .ok (.ifCond .gt 5, 3) := by decide +kernel
theorem dX7_undo_10 : decode cX7_undo 10 = .ok (.iconst (-1), 1) := by decide +kernel
theorem dX7_undo_11 : decode cX7_undo 11 = .ok (.ireturn, 1) := by decide +kernel
theorem dX7_undo_12 : decode cX7_undo 12 = .ok (.aload_n 0, 1) := by decide +kernel
theorem dX7_undo_13 : decode cX7_undo 13 = .ok (.getfield 33, 3) := by decide +kernel
theorem dX7_undo_16 : decode cX7_undo 16 = .ok (.invokevirtual 250, 3) := by decide +kernel
theorem dX7_undo_19 : decode cX7_undo 19 = .ok (.aload_n 0, 1) := by decide +kernel
theorem dX7_undo_20 : decode cX7_undo 20 = .ok (.iconst 0, 1) := by decide +kernel
theorem dX7_undo_21 : decode cX7_undo 21 = .ok (.putfield 56, 3) := by decide +kernel
theorem dX7_undo_24 : decode cX7_undo 24 = .ok (.aload_n 0, 1) := by decide +kernel
theorem dX7_undo_25 : decode cX7_undo 25 = .ok (.getfield 33, 3) := by decide +kernel
theorem dX7_undo_28 : decode cX7_undo 28 = .ok (.getfield 155, 3) := by decide +kernel
theorem dX7_undo_31 : decode cX7_undo 31 = .ok (.ireturn, 1) := by decide +kernel
theorem dX7_day_0 : decode cX7_day 0 = .ok (.iload_n 1, 1) := by decide +kernel
theorem dX7_day_1 : decode cX7_day 1 = .ok (.ifCond .lt 9, 3) := by decide +kernel
theorem dX7_day_4 : decode cX7_day 4 = .ok (.iload_n 1, 1) := by decide +kernel
theorem dX7_day_5 : decode cX7_day 5 = .ok (.bipush 8, 2) := by decide +kernel
theorem dX7_day_7 : decode cX7_day 7 = .ok (.if_icmp .lt 11, 3) := by decide +kernel
theorem dX7_day_10 : decode cX7_day 10 = .ok (.new 171, 3) := by decide +kernel
theorem dX7_day_13 : decode cX7_day 13 = .ok (.dup, 1) := by decide +kernel
theorem dX7_day_14 : decode cX7_day 14 = .ok (.invokespecial 173, 3) := by decide +kernel
theorem dX7_day_17 : decode cX7_day 17 = .ok (.athrow, 1) := by decide +kernel
theorem dX7_day_18 : decode cX7_day 18 = .ok (.aload_n 0, 1) := by decide +kernel
theorem dX7_day_19 : decode cX7_day 19 = .ok (.invokevirtual 253, 3) := by decide +kernel
theorem dX7_day_22 : decode cX7_day 22 = .ok (.aload_n 0, 1) := by decide +kernel
theorem dX7_day_23 : decode cX7_day 23 = .ok (.getfield 49, 3) := by decide +kernel
theorem dX7_day_26 : decode cX7_day 26 = .ok (.getfield 256, 3) := by decide +kernel
theorem dX7_day_29 : decode cX7_day 29 = .ok (.iload_n 1, 1) := by decide +kernel
theorem dX7_day_30 : decode cX7_day 30 = .ok (.invokestatic 167, 3) := by decide +kernel
theorem dX7_day_33 : decode cX7_day 33 = .ok (.ireturn, 1) := by decide +kernel
theorem dX7_where_0 : decode cX7_where 0 = .ok (.aload_n 0, 1) := by decide +kernel
theorem dX7_where_1 : decode cX7_where 1 = .ok (.iload_n 1, 1) := by decide +kernel
theorem dX7_where_2 : decode cX7_where 2 = .ok (.invokevirtual 189, 3) := by decide +kernel
theorem dX7_where_5 : decode cX7_where 5 = .ok (.iload_n 2, 1) := by decide +kernel
theorem dX7_where_6 : decode cX7_where 6 = .ok (.invokestatic 259, 3) := by decide +kernel
theorem dX7_where_9 : decode cX7_where 9 = .ok (.aload_n 0, 1) := by decide +kernel
theorem dX7_where_10 : decode cX7_where 10 = .ok (.getfield 19, 3) := by decide +kernel
theorem dX7_where_13 : decode cX7_where 13 = .ok (.getfield 118, 3) := by decide +kernel
theorem dX7_where_16 : decode cX7_where 16 = .ok (.iload_n 1, 1) := by decide +kernel
theorem dX7_where_17 : decode cX7_where 17 = .ok (.iload_n 2, 1) := by decide +kernel
theorem dX7_where_18 : decode cX7_where 18 = .ok (.invokevirtual 262, 3) := by decide +kernel
theorem dX7_where_21 : decode cX7_where 21 = .ok (.ireturn, 1) := by decide +kernel
theorem dX7_eyes_0 : decode cX7_eyes 0 = .ok (.iload_n 1, 1) := by decide +kernel
theorem dX7_eyes_1 : decode cX7_eyes 1 = .ok (.invokestatic 259, 3) := by decide +kernel
theorem dX7_eyes_4 : decode cX7_eyes 4 = .ok (.aload_n 0, 1) := by decide +kernel
theorem dX7_eyes_5 : decode cX7_eyes 5 = .ok (.invokevirtual 253, 3) := by decide +kernel
theorem dX7_eyes_8 : decode cX7_eyes 8 = .ok (.aload_n 0, 1) := by decide +kernel
theorem dX7_eyes_9 : decode cX7_eyes 9 = .ok (.getfield 49, 3) := by decide +kernel
theorem dX7_eyes_12 : decode cX7_eyes 12 = .ok (.getfield 265, 3) := by decide +kernel
theorem dX7_eyes_15 : decode cX7_eyes 15 = .ok (.iload_n 1, 1) := by decide +kernel
theorem dX7_eyes_16 : decode cX7_eyes 16 = .ok (.invokestatic 167, 3) := by decide +kernel
theorem dX7_eyes_19 : decode cX7_eyes 19 = .ok (.ireturn, 1) := by decide +kernel
theorem dX7_has_0 : decode cX7_has 0 = .ok (.aload_n 0, 1) := by decide +kernel
theorem dX7_has_1 : decode cX7_has 1 = .ok (.iload_n 1, 1) := by decide +kernel
theorem dX7_has_2 : decode cX7_has 2 = .ok (.invokevirtual 189, 3) := by decide +kernel
theorem dX7_has_5 : decode cX7_has 5 = .ok (.iload_n 2, 1) := by decide +kernel
theorem dX7_has_6 : decode cX7_has 6 = .ok (.invokestatic 259, 3) := by decide +kernel
theorem dX7_has_9 : decode cX7_has 9 = .ok (.aload_n 0, 1) := by decide +kernel
theorem dX7_has_10 : decode cX7_has 10 = .ok (.invokevirtual 253, 3) := by decide +kernel
theorem dX7_has_13 : decode cX7_has 13 = .ok (.aload_n 0, 1) := by decide +kernel
theorem dX7_has_14 : decode cX7_has 14 = .ok (.getfield 49, 3) := by decide +kernel
theorem dX7_has_17 : decode cX7_has 17 = .ok (.getfield 268, 3) := by decide +kernel
theorem dX7_has_20 : decode cX7_has 20 = .ok (.iload_n 2, 1) := by decide +kernel
theorem dX7_has_21 : decode cX7_has 21 = .ok (.bipush 8, 2) := by decide +kernel
theorem dX7_has_23 : decode cX7_has 23 = .ok (.imul, 1) := by decide +kernel
theorem dX7_has_24 : decode cX7_has 24 = .ok (.iload_n 1, 1) := by decide +kernel
theorem dX7_has_25 : decode cX7_has 25 = .ok (.iadd, 1) := by decide +kernel
theorem dX7_has_26 : decode cX7_has 26 = .ok (.invokestatic 167, 3) := by decide +kernel
theorem dX7_has_29 : decode cX7_has 29 = .ok (.ireturn, 1) := by decide +kernel
theorem dX7_best_0 : decode cX7_best 0 = .ok (.iload_n 1, 1) := by decide +kernel
theorem dX7_best_1 : decode cX7_best 1 = .ok (.ifCond .lt 17, 3) := by decide +kernel
theorem dX7_best_4 : decode cX7_best 4 = .ok (.iload_n 1, 1) := by decide +kernel
theorem dX7_best_5 : decode cX7_best 5 = .ok (.iconst 2, 1) := by decide +kernel
theorem dX7_best_6 : decode cX7_best 6 = .ok (.if_icmp .gt 12, 3) := by decide +kernel
theorem dX7_best_9 : decode cX7_best 9 = .ok (.iload_n 2, 1) := by decide +kernel
theorem dX7_best_10 : decode cX7_best 10 = .ok (.ifCond .lt 8, 3) := by decide +kernel
theorem dX7_best_13 : decode cX7_best 13 = .ok (.iload_n 2, 1) := by decide +kernel
theorem dX7_best_14 : decode cX7_best 14 = .ok (.iconst 1, 1) := by decide +kernel
theorem dX7_best_15 : decode cX7_best 15 = .ok (.if_icmp .le 11, 3) := by decide +kernel
theorem dX7_best_18 : decode cX7_best 18 = .ok (.new 171, 3) := by decide +kernel
theorem dX7_best_21 : decode cX7_best 21 = .ok (.dup, 1) := by decide +kernel
theorem dX7_best_22 : decode cX7_best 22 = .ok (.invokespecial 173, 3) := by decide +kernel
theorem dX7_best_25 : decode cX7_best 25 = .ok (.athrow, 1) := by decide +kernel
theorem dX7_best_26 : decode cX7_best 26 = .ok (.iload_n 1, 1) := by decide +kernel
theorem dX7_best_27 : decode cX7_best 27 = .ok (.ifCond .ne 7, 3) := by decide +kernel
theorem dX7_best_30 : decode cX7_best 30 = .ok (.iconst 3, 1) := by decide +kernel
theorem dX7_best_31 : decode cX7_best 31 = .ok (.goto 13, 3) := by decide +kernel
theorem dX7_best_34 : decode cX7_best 34 = .ok (.iload_n 1, 1) := by decide +kernel
theorem dX7_best_35 : decode cX7_best 35 = .ok (.iconst 1, 1) := by decide +kernel
theorem dX7_best_36 : decode cX7_best 36 = .ok (.if_icmp .ne 7, 3) := by decide +kernel
theorem dX7_best_39 : decode cX7_best 39 = .ok (.iconst 2, 1) := by decide +kernel
theorem dX7_best_40 : decode cX7_best 40 = .ok (.goto 4, 3) := by decide +kernel
theorem dX7_best_43 : decode cX7_best 43 = .ok (.iconst 1, 1) := by decide +kernel
theorem dX7_best_44 : decode cX7_best 44 = .ok (.istore_n 3, 1) := by decide +kernel
theorem dX7_best_45 : decode cX7_best 45 = .ok (.iload_n 1, 1) := by decide +kernel
theorem dX7_best_46 : decode cX7_best 46 = .ok (.ifCond .ne 16, 3) := by decide +kernel
theorem dX7_best_49 : decode cX7_best 49 = .ok (.aload_n 0, 1) := by decide +kernel
theorem dX7_best_50 : decode cX7_best 50 = .ok (.getfield 19, 3) := by decide +kernel
theorem dX7_best_53 : decode cX7_best 53 = .ok (.getfield 103, 3) := by decide +kernel
theorem dX7_best_56 : decode cX7_best 56 = .ok (.getfield 107, 3) := by decide +kernel
theorem dX7_best_59 : decode cX7_best 59 = .ok (.goto 31, 3) := by decide +kernel
theorem dX7_best_62 : decode cX7_best 62 = .ok (.iload_n 1, 1) := by decide +kernel
theorem dX7_best_63 : decode cX7_best 63 = .ok (.iconst 1, 1) := by decide +kernel
theorem dX7_best_64 : decode cX7_best 64 = .ok (.if_icmp .ne 16, 3) := by decide +kernel
theorem dX7_best_67 : decode cX7_best 67 = .ok (.aload_n 0, 1) := by decide +kernel
theorem dX7_best_68 : decode cX7_best 68 = .ok (.getfield 19, 3) := by decide +kernel
theorem dX7_best_71 : decode cX7_best 71 = .ok (.getfield 118, 3) := by decide +kernel
theorem dX7_best_74 : decode cX7_best 74 = .ok (.getfield 122, 3) := by decide +kernel
theorem dX7_best_77 : decode cX7_best 77 = .ok (.goto 13, 3) := by decide +kernel
theorem dX7_best_80 : decode cX7_best 80 = .ok (.aload_n 0, 1) := by decide +kernel
theorem dX7_best_81 : decode cX7_best 81 = .ok (.getfield 19, 3) := by decide +kernel
theorem dX7_best_84 : decode cX7_best 84 = .ok (.getfield 127, 3) := by decide +kernel
theorem dX7_best_87 : decode cX7_best 87 = .ok (.getfield 131, 3) := by decide +kernel
theorem dX7_best_90 : decode cX7_best 90 = .ok (.istore 4, 2) := by decide +kernel
theorem dX7_best_92 : decode cX7_best 92 = .ok (.iconst (-1), 1) := by decide +kernel
theorem dX7_best_93 : decode cX7_best 93 = .ok (.istore 5, 2) := by decide +kernel
theorem dX7_best_95 : decode cX7_best 95 = .ok (.iconst (-1), 1) := by decide +kernel
theorem dX7_best_96 : decode cX7_best 96 = .ok (.istore 6, 2) := by decide +kernel
theorem dX7_best_98 : decode cX7_best 98 = .ok (.iconst 0, 1) := by decide +kernel
theorem dX7_best_99 : decode cX7_best 99 = .ok (.istore 7, 2) := by decide +kernel
theorem dX7_best_101 : decode cX7_best 101 = .ok (.iload 7, 2) := by decide +kernel
theorem dX7_best_103 : decode cX7_best 103 = .ok (.iload 4, 2) := by decide +kernel
theorem dX7_best_105 : decode cX7_best 105 = .ok (.if_icmp .ge 44, 3) := by decide +kernel
theorem dX7_best_108 : decode cX7_best 108 = .ok (.iload 6, 2) := by decide +kernel
theorem dX7_best_110 : decode cX7_best 110 = .ok (.ifCond .eq 39, 3) := by decide +kernel
theorem dX7_best_113 : decode cX7_best 113 = .ok (.aload_n 0, 1) := by decide +kernel
theorem dX7_best_114 : decode cX7_best 114 = .ok (.iload_n 3, 1) := by decide +kernel
theorem dX7_best_115 : decode cX7_best 115 = .ok (.iload 7, 2) := by decide +kernel
theorem dX7_best_117 : decode cX7_best 117 = .ok (.invokevirtual 271, 3) := by decide +kernel
theorem dX7_best_120 : decode cX7_best 120 = .ok (.istore 8, 2) := by decide +kernel
theorem dX7_best_122 : decode cX7_best 122 = .ok (.iload 6, 2) := by decide +kernel
theorem dX7_best_124 : decode cX7_best 124 = .ok (.iconst (-1), 1) := by decide +kernel
theorem dX7_best_125 : decode cX7_best 125 = .ok (.if_icmp .eq 10, 3) := by decide +kernel
theorem dX7_best_128 : decode cX7_best 128 = .ok (.iload 8, 2) := by decide +kernel
theorem dX7_best_130 : decode cX7_best 130 = .ok (.iload 6, 2) := by decide +kernel
theorem dX7_best_132 : decode cX7_best 132 = .ok (.if_icmp .ge 11, 3) := by decide +kernel
theorem dX7_best_135 : decode cX7_best 135 = .ok (.iload 7, 2) := by decide +kernel
theorem dX7_best_137 : decode cX7_best 137 = .ok (.istore 5, 2) := by decide +kernel
theorem dX7_best_139 : decode cX7_best 139 = .ok (.iload 8, 2) := by decide +kernel
theorem dX7_best_141 : decode cX7_best 141 = .ok (.istore 6, 2) := by decide +kernel
theorem dX7_best_143 : decode cX7_best 143 = .ok (.iinc 7 1, 3) := by decide +kernel
theorem dX7_best_146 : decode cX7_best 146 = .ok (.goto (-45), 3) := by decide +kernel
theorem dX7_best_149 : decode cX7_best 149 = .ok (.iload_n 3, 1) := by decide +kernel
theorem dX7_best_150 : decode cX7_best 150 = .ok (.iconst 1, 1) := by decide +kernel
theorem dX7_best_151 : decode cX7_best 151 = .ok (.if_icmp .ne 36, 3) := by decide +kernel
theorem dX7_best_154 : decode cX7_best 154 = .ok (.iload 6, 2) := by decide +kernel
theorem dX7_best_156 : decode cX7_best 156 = .ok (.ifCond .eq 31, 3) := by decide +kernel
theorem dX7_best_159 : decode cX7_best 159 = .ok (.aload_n 0, 1) := by decide +kernel
theorem dX7_best_160 : decode cX7_best 160 = .ok (.iconst 0, 1) := by decide +kernel
theorem dX7_best_161 : decode cX7_best 161 = .ok (.iconst 0, 1) := by decide +kernel
theorem dX7_best_162 : decode cX7_best 162 = .ok (.invokevirtual 271, 3) := by decide +kernel
theorem dX7_best_165 : decode cX7_best 165 = .ok (.istore 7, 2) := by decide +kernel
theorem dX7_best_167 : decode cX7_best 167 = .ok (.iload 6, 2) := by decide +kernel
theorem dX7_best_169 : decode cX7_best 169 = .ok (.iconst (-1), 1) := by decide +kernel
theorem dX7_best_170 : decode cX7_best 170 = .ok (.if_icmp .eq 10, 3) := by decide +kernel
theorem dX7_best_173 : decode cX7_best 173 = .ok (.iload 7, 2) := by decide +kernel
theorem dX7_best_175 : decode cX7_best 175 = .ok (.iload 6, 2) := by decide +kernel
theorem dX7_best_177 : decode cX7_best 177 = .ok (.if_icmp .ge 10, 3) := by decide +kernel
theorem dX7_best_180 : decode cX7_best 180 = .ok (.iconst (-1), 1) := by decide +kernel
theorem dX7_best_181 : decode cX7_best 181 = .ok (.istore 5, 2) := by decide +kernel
theorem dX7_best_183 : decode cX7_best 183 = .ok (.iload 7, 2) := by decide +kernel
theorem dX7_best_185 : decode cX7_best 185 = .ok (.istore 6, 2) := by decide +kernel
theorem dX7_best_187 : decode cX7_best 187 = .ok (.iload_n 2, 1) := by decide +kernel
theorem dX7_best_188 : decode cX7_best 188 = .ok (.ifCond .ne 8, 3) := by decide +kernel
theorem dX7_best_191 : decode cX7_best 191 = .ok (.iload 5, 2) := by decide +kernel
theorem dX7_best_193 : decode cX7_best 193 = .ok (.goto 5, 3) := by decide +kernel
theorem dX7_best_196 : decode cX7_best 196 = .ok (.iload 6, 2) := by decide +kernel
theorem dX7_best_198 : decode cX7_best 198 = .ok (.ireturn, 1) := by decide +kernel
theorem dX7_costWatched_0 : decode cX7_costWatched 0 = .ok (.aload_n 0, 1) := by decide +kernel
theorem dX7_costWatched_1 : decode cX7_costWatched 1 = .ok (.getfield 53, 3) := by decide +kernel
theorem dX7_costWatched_4 : decode cX7_costWatched 4 = .ok (.aload_n 0, 1) := by decide +kernel
theorem dX7_costWatched_5 : decode cX7_costWatched 5 = .ok (.getfield 19, 3) := by decide +kernel
theorem dX7_costWatched_8 : decode cX7_costWatched 8 = .ok (.aload_n 0, 1) := by decide +kernel
theorem dX7_costWatched_9 : decode cX7_costWatched 9 = .ok (.getfield 33, 3) := by decide +kernel
theorem dX7_costWatched_12 : decode cX7_costWatched 12 = .ok (.invokevirtual 237, 3) := by decide +kernel
theorem dX7_costWatched_15 : decode cX7_costWatched 15 = .ok (.aload_n 0, 1) := by decide +kernel
theorem dX7_costWatched_16 : decode cX7_costWatched 16 = .ok (.getfield 53, 3) := by decide +kernel
theorem dX7_costWatched_19 : decode cX7_costWatched 19 = .ok (.iload_n 1, 1) := by decide +kernel
theorem dX7_costWatched_20 : decode cX7_costWatched 20 = .ok (.putfield 274, 3) := by decide +kernel
theorem dX7_costWatched_23 : decode cX7_costWatched 23 = .ok (.aload_n 0, 1) := by decide +kernel
theorem dX7_costWatched_24 : decode cX7_costWatched 24 = .ok (.getfield 53, 3) := by decide +kernel
theorem dX7_costWatched_27 : decode cX7_costWatched 27 = .ok (.iload_n 2, 1) := by decide +kernel
theorem dX7_costWatched_28 : decode cX7_costWatched 28 = .ok (.putfield 275, 3) := by decide +kernel
theorem dX7_costWatched_31 : decode cX7_costWatched 31 = .ok (.aload_n 0, 1) := by decide +kernel
theorem dX7_costWatched_32 : decode cX7_costWatched 32 = .ok (.getfield 53, 3) := by decide +kernel
theorem dX7_costWatched_35 : decode cX7_costWatched 35 = .ok (.invokevirtual 241, 3) := by decide +kernel
theorem dX7_costWatched_38 : decode cX7_costWatched 38 = .ok (.ireturn, 1) := by decide +kernel
theorem dX7_cost_0 : decode cX7_cost 0 = .ok (.aload_n 0, 1) := by decide +kernel
theorem dX7_cost_1 : decode cX7_cost 1 = .ok (.getfield 53, 3) := by decide +kernel
theorem dX7_cost_4 : decode cX7_cost 4 = .ok (.aload_n 0, 1) := by decide +kernel
theorem dX7_cost_5 : decode cX7_cost 5 = .ok (.getfield 19, 3) := by decide +kernel
theorem dX7_cost_8 : decode cX7_cost 8 = .ok (.aload_n 0, 1) := by decide +kernel
theorem dX7_cost_9 : decode cX7_cost 9 = .ok (.getfield 33, 3) := by decide +kernel
theorem dX7_cost_12 : decode cX7_cost 12 = .ok (.invokevirtual 237, 3) := by decide +kernel
theorem dX7_cost_15 : decode cX7_cost 15 = .ok (.aload_n 0, 1) := by decide +kernel
theorem dX7_cost_16 : decode cX7_cost 16 = .ok (.getfield 53, 3) := by decide +kernel
theorem dX7_cost_19 : decode cX7_cost 19 = .ok (.iload_n 1, 1) := by decide +kernel
theorem dX7_cost_20 : decode cX7_cost 20 = .ok (.ifCond .eq 7, 3) := by decide +kernel
theorem dX7_cost_23 : decode cX7_cost 23 = .ok (.iconst 1, 1) := by decide +kernel
theorem dX7_cost_24 : decode cX7_cost 24 = .ok (.goto 4, 3) := by decide +kernel
theorem dX7_cost_27 : decode cX7_cost 27 = .ok (.iconst 0, 1) := by decide +kernel
theorem dX7_cost_28 : decode cX7_cost 28 = .ok (.putfield 276, 3) := by decide +kernel
theorem dX7_cost_31 : decode cX7_cost 31 = .ok (.aload_n 0, 1) := by decide +kernel
theorem dX7_cost_32 : decode cX7_cost 32 = .ok (.getfield 53, 3) := by decide +kernel
theorem dX7_cost_35 : decode cX7_cost 35 = .ok (.invokevirtual 241, 3) := by decide +kernel
theorem dX7_cost_38 : decode cX7_cost 38 = .ok (.ireturn, 1) := by decide +kernel
theorem dX7_glass_0 : decode cX7_glass 0 = .ok (.iload_n 1, 1) := by decide +kernel
theorem dX7_glass_1 : decode cX7_glass 1 = .ok (.ifCond .lt 8, 3) := by decide +kernel
theorem dX7_glass_4 : decode cX7_glass 4 = .ok (.iload_n 1, 1) := by decide +kernel
theorem dX7_glass_5 : decode cX7_glass 5 = .ok (.iconst 1, 1) := by decide +kernel
theorem dX7_glass_6 : decode cX7_glass 6 = .ok (.if_icmp .le 11, 3) := by decide +kernel
theorem dX7_glass_9 : decode cX7_glass 9 = .ok (.new 171, 3) := by decide +kernel
theorem dX7_glass_12 : decode cX7_glass 12 = .ok (.dup, 1) := by decide +kernel
theorem dX7_glass_13 : decode cX7_glass 13 = .ok (.invokespecial 173, 3) := by decide +kernel
theorem dX7_glass_16 : decode cX7_glass 16 = .ok (.athrow, 1) := by decide +kernel
theorem dX7_glass_17 : decode cX7_glass 17 = .ok (.aload_n 0, 1) := by decide +kernel
theorem dX7_glass_18 : decode cX7_glass 18 = .ok (.getfield 33, 3) := by decide +kernel
theorem dX7_glass_21 : decode cX7_glass 21 = .ok (.getfield 115, 3) := by decide +kernel
theorem dX7_glass_24 : decode cX7_glass 24 = .ok (.bipush 6, 2) := by decide +kernel
theorem dX7_glass_26 : decode cX7_glass 26 = .ok (.if_icmp .lt 5, 3) := by decide +kernel
theorem dX7_glass_29 : decode cX7_glass 29 = .ok (.iconst (-1), 1) := by decide +kernel
theorem dX7_glass_30 : decode cX7_glass 30 = .ok (.ireturn, 1) := by decide +kernel
theorem dX7_glass_31 : decode cX7_glass 31 = .ok (.aload_n 0, 1) := by decide +kernel
theorem dX7_glass_32 : decode cX7_glass 32 = .ok (.invokevirtual 253, 3) := by decide +kernel
theorem dX7_glass_35 : decode cX7_glass 35 = .ok (.iconst (-1), 1) := by decide +kernel
theorem dX7_glass_36 : decode cX7_glass 36 = .ok (.istore_n 2, 1) := by decide +kernel
theorem dX7_glass_37 : decode cX7_glass 37 = .ok (.aload_n 0, 1) := by decide +kernel
theorem dX7_glass_38 : decode cX7_glass 38 = .ok (.getfield 49, 3) := by decide +kernel
theorem dX7_glass_41 : decode cX7_glass 41 = .ok (.getfield 256, 3) := by decide +kernel
theorem dX7_glass_44 : decode cX7_glass 44 = .ok (.iconst 0, 1) := by decide +kernel
theorem dX7_glass_45 : decode cX7_glass 45 = .ok (.invokestatic 167, 3) := by decide +kernel
theorem dX7_glass_48 : decode cX7_glass 48 = .ok (.istore_n 3, 1) := by decide +kernel
theorem dX7_glass_49 : decode cX7_glass 49 = .ok (.iconst 0, 1) := by decide +kernel
theorem dX7_glass_50 : decode cX7_glass 50 = .ok (.istore 4, 2) := by decide +kernel
theorem dX7_glass_52 : decode cX7_glass 52 = .ok (.iload 4, 2) := by decide +kernel
theorem dX7_glass_54 : decode cX7_glass 54 = .ok (.aload_n 0, 1) := by decide +kernel
theorem dX7_glass_55 : decode cX7_glass 55 = .ok (.getfield 19, 3) := by decide +kernel
theorem dX7_glass_58 : decode cX7_glass 58 = .ok (.getfield 103, 3) := by decide +kernel
theorem dX7_glass_61 : decode cX7_glass 61 = .ok (.getfield 107, 3) := by decide +kernel
theorem dX7_glass_64 : decode cX7_glass 64 = .ok (.if_icmp .ge 80, 3) := by decide +kernel
theorem dX7_glass_67 : decode cX7_glass 67 = .ok (.iconst 0, 1) := by decide +kernel
theorem dX7_glass_68 : decode cX7_glass 68 = .ok (.istore 5, 2) := by decide +kernel
theorem dX7_glass_70 : decode cX7_glass 70 = .ok (.iload 5, 2) := by decide +kernel
theorem dX7_glass_72 : decode cX7_glass 72 = .ok (.aload_n 0, 1) := by decide +kernel
theorem dX7_glass_73 : decode cX7_glass 73 = .ok (.getfield 19, 3) := by decide +kernel
theorem dX7_glass_76 : decode cX7_glass 76 = .ok (.getfield 103, 3) := by decide +kernel
theorem dX7_glass_79 : decode cX7_glass 79 = .ok (.getfield 107, 3) := by decide +kernel
theorem dX7_glass_82 : decode cX7_glass 82 = .ok (.if_icmp .ge 56, 3) := by decide +kernel
theorem dX7_glass_85 : decode cX7_glass 85 = .ok (.iload_n 3, 1) := by decide +kernel
theorem dX7_glass_86 : decode cX7_glass 86 = .ok (.ifCond .eq 52, 3) := by decide +kernel
theorem dX7_glass_89 : decode cX7_glass 89 = .ok (.aload_n 0, 1) := by decide +kernel
theorem dX7_glass_90 : decode cX7_glass 90 = .ok (.iload 4, 2) := by decide +kernel
theorem dX7_glass_92 : decode cX7_glass 92 = .ok (.iload 5, 2) := by decide +kernel
theorem dX7_glass_94 : decode cX7_glass 94 = .ok (.invokevirtual 228, 3) := by decide +kernel
theorem dX7_glass_97 : decode cX7_glass 97 = .ok (.ifCond .eq 14, 3) := by decide +kernel
theorem dX7_glass_100 : decode cX7_glass 100 = .ok (.aload_n 0, 1) := by decide +kernel
theorem dX7_glass_101 : decode cX7_glass 101 = .ok (.iload 4, 2) := by decide +kernel
theorem dX7_glass_103 : decode cX7_glass 103 = .ok (.iload 5, 2) := by decide +kernel
theorem dX7_glass_105 : decode cX7_glass 105 = .ok (.invokevirtual 277, 3) := by decide +kernel
theorem dX7_glass_108 : decode cX7_glass 108 = .ok (.goto 4, 3) := by decide +kernel
theorem dX7_glass_111 : decode cX7_glass 111 = .ok (.iload_n 3, 1) := by decide +kernel
theorem dX7_glass_112 : decode cX7_glass 112 = .ok (.istore 6, 2) := by decide +kernel
theorem dX7_glass_114 : decode cX7_glass 114 = .ok (.iload 6, 2) := by decide +kernel
theorem dX7_glass_116 : decode cX7_glass 116 = .ok (.iload_n 3, 1) := by decide +kernel
theorem dX7_glass_117 : decode cX7_glass 117 = .ok (.if_icmp .ge 15, 3) := by decide +kernel
theorem dX7_glass_120 : decode cX7_glass 120 = .ok (.bipush 10, 2) := by decide +kernel
theorem dX7_glass_122 : decode cX7_glass 122 = .ok (.iload 4, 2) := by decide +kernel
theorem dX7_glass_124 : decode cX7_glass 124 = .ok (.imul, 1) := by decide +kernel
theorem dX7_glass_125 : decode cX7_glass 125 = .ok (.iload 5, 2) := by decide +kernel
theorem dX7_glass_127 : decode cX7_glass 127 = .ok (.iadd, 1) := by decide +kernel
theorem dX7_glass_128 : decode cX7_glass 128 = .ok (.istore_n 2, 1) := by decide +kernel
theorem dX7_glass_129 : decode cX7_glass 129 = .ok (.iload 6, 2) := by decide +kernel
theorem dX7_glass_131 : decode cX7_glass 131 = .ok (.istore_n 3, 1) := by decide +kernel
theorem dX7_glass_132 : decode cX7_glass 132 = .ok (.iinc 5 1, 3) := by decide +kernel
theorem dX7_glass_135 : decode cX7_glass 135 = .ok (.goto (-65), 3) := by decide +kernel
theorem dX7_glass_138 : decode cX7_glass 138 = .ok (.iinc 4 1, 3) := by decide +kernel
theorem dX7_glass_141 : decode cX7_glass 141 = .ok (.goto (-89), 3) := by decide +kernel
theorem dX7_glass_144 : decode cX7_glass 144 = .ok (.iload_n 2, 1) := by decide +kernel
theorem dX7_glass_145 : decode cX7_glass 145 = .ok (.iconst (-1), 1) := by decide +kernel
theorem dX7_glass_146 : decode cX7_glass 146 = .ok (.if_icmp .eq 7, 3) := by decide +kernel
theorem dX7_glass_149 : decode cX7_glass 149 = .ok (.iload_n 1, 1) := by decide +kernel
theorem dX7_glass_150 : decode cX7_glass 150 = .ok (.ifCond .ne 7, 3) := by decide +kernel
theorem dX7_glass_153 : decode cX7_glass 153 = .ok (.iload_n 2, 1) := by decide +kernel
theorem dX7_glass_154 : decode cX7_glass 154 = .ok (.goto 4, 3) := by decide +kernel
theorem dX7_glass_157 : decode cX7_glass 157 = .ok (.iload_n 3, 1) := by decide +kernel
theorem dX7_glass_158 : decode cX7_glass 158 = .ok (.ireturn, 1) := by decide +kernel
theorem dX7_costMirrored_0 : decode cX7_costMirrored 0 = .ok (.aload_n 0, 1) := by decide +kernel
theorem dX7_costMirrored_1 : decode cX7_costMirrored 1 = .ok (.getfield 53, 3) := by decide +kernel
theorem dX7_costMirrored_4 : decode cX7_costMirrored 4 = .ok (.aload_n 0, 1) := by decide +kernel
theorem dX7_costMirrored_5 : decode cX7_costMirrored 5 = .ok (.getfield 19, 3) := by decide +kernel
theorem dX7_costMirrored_8 : decode cX7_costMirrored 8 = .ok (.aload_n 0, 1) := by decide +kernel
theorem dX7_costMirrored_9 : decode cX7_costMirrored 9 = .ok (.getfield 33, 3) := by decide +kernel
theorem dX7_costMirrored_12 : decode cX7_costMirrored 12 = .ok (.invokevirtual 237, 3) := by decide +kernel
theorem dX7_costMirrored_15 : decode cX7_costMirrored 15 = .ok (.aload_n 0, 1) := by decide +kernel
theorem dX7_costMirrored_16 : decode cX7_costMirrored 16 = .ok (.getfield 53, 3) := by decide +kernel
theorem dX7_costMirrored_19 : decode cX7_costMirrored 19 = .ok (.getfield 280, 3) := by decide +kernel
theorem dX7_costMirrored_22 : decode cX7_costMirrored 22 = .ok (.iload_n 1, 1) := by decide +kernel
theorem dX7_costMirrored_23 : decode cX7_costMirrored 23 = .ok (.aload_n 0, 1) := by decide +kernel
theorem dX7_costMirrored_24 : decode cX7_costMirrored 24 = .ok (.getfield 53, 3) := by decide +kernel
theorem dX7_costMirrored_27 : decode cX7_costMirrored 27 = .ok (.getfield 280, 3) := by decide +kernel
theorem dX7_costMirrored_30 : decode cX7_costMirrored 30 = .ok (.iload_n 1, 1) := by decide +kernel
theorem dX7_costMirrored_31 : decode cX7_costMirrored 31 = .ok (.invokestatic 167, 3) := by decide +kernel
theorem dX7_costMirrored_34 : decode cX7_costMirrored 34 = .ok (.iload_n 2, 1) := by decide +kernel
theorem dX7_costMirrored_35 : decode cX7_costMirrored 35 = .ok (.invokestatic 231, 3) := by decide +kernel
theorem dX7_costMirrored_38 : decode cX7_costMirrored 38 = .ok (.ior, 1) := by decide +kernel
theorem dX7_costMirrored_39 : decode cX7_costMirrored 39 = .ok (.invokestatic 79, 3) := by decide +kernel
theorem dX7_costMirrored_42 : decode cX7_costMirrored 42 = .ok (.aload_n 0, 1) := by decide +kernel
theorem dX7_costMirrored_43 : decode cX7_costMirrored 43 = .ok (.getfield 53, 3) := by decide +kernel
theorem dX7_costMirrored_46 : decode cX7_costMirrored 46 = .ok (.invokevirtual 241, 3) := by decide +kernel
theorem dX7_costMirrored_49 : decode cX7_costMirrored 49 = .ok (.ireturn, 1) := by decide +kernel
theorem dX7_lay_0 : decode cX7_lay 0 = .ok (.aload_n 0, 1) := by decide +kernel
theorem dX7_lay_1 : decode cX7_lay 1 = .ok (.getfield 19, 3) := by decide +kernel
theorem dX7_lay_4 : decode cX7_lay 4 = .ok (.getfield 103, 3) := by decide +kernel
theorem dX7_lay_7 : decode cX7_lay 7 = .ok (.getfield 107, 3) := by decide +kernel
theorem dX7_lay_10 : decode cX7_lay 10 = .ok (.istore_n 1, 1) := by decide +kernel
theorem dX7_lay_11 : decode cX7_lay 11 = .ok (.iload_n 1, 1) := by decide +kernel
theorem dX7_lay_12 : decode cX7_lay 12 = .ok (.iconst 5, 1) := by decide +kernel
theorem dX7_lay_13 : decode cX7_lay 13 = .ok (.if_icmp .le 6, 3) := by decide +kernel
theorem dX7_lay_16 : decode cX7_lay 16 = .ok (.bipush (-2), 2) := by decide +kernel
theorem dX7_lay_18 : decode cX7_lay 18 = .ok (.ireturn, 1) := by decide +kernel
theorem dX7_lay_19 : decode cX7_lay 19 = .ok (.iconst 0, 1) := by decide +kernel
theorem dX7_lay_20 : decode cX7_lay 20 = .ok (.istore_n 2, 1) := by decide +kernel
theorem dX7_lay_21 : decode cX7_lay 21 = .ok (.iload_n 2, 1) := by decide +kernel
theorem dX7_lay_22 : decode cX7_lay 22 = .ok (.iload_n 1, 1) := by decide +kernel
theorem dX7_lay_23 : decode cX7_lay 23 = .ok (.if_icmp .ge 18, 3) := by decide +kernel
theorem dX7_lay_26 : decode cX7_lay 26 = .ok (.aload_n 0, 1) := by decide +kernel
theorem dX7_lay_27 : decode cX7_lay 27 = .ok (.getfield 59, 3) := by decide +kernel
theorem dX7_lay_30 : decode cX7_lay 30 = .ok (.iload_n 2, 1) := by decide +kernel
theorem dX7_lay_31 : decode cX7_lay 31 = .ok (.iload_n 2, 1) := by decide +kernel
theorem dX7_lay_32 : decode cX7_lay 32 = .ok (.invokestatic 79, 3) := by decide +kernel
theorem dX7_lay_35 : decode cX7_lay 35 = .ok (.iinc 2 1, 3) := by decide +kernel
theorem dX7_lay_38 : decode cX7_lay 38 = .ok (.goto (-17), 3) := by decide +kernel
theorem dX7_lay_41 : decode cX7_lay 41 = .ok (.iconst (-1), 1) := by decide +kernel
theorem dX7_lay_42 : decode cX7_lay 42 = .ok (.istore_n 2, 1) := by decide +kernel
theorem dX7_lay_43 : decode cX7_lay 43 = .ok (.iconst 1, 1) := by decide +kernel
theorem dX7_lay_44 : decode cX7_lay 44 = .ok (.istore_n 3, 1) := by decide +kernel
theorem dX7_lay_45 : decode cX7_lay 45 = .ok (.iconst 0, 1) := by decide +kernel
theorem dX7_lay_46 : decode cX7_lay 46 = .ok (.istore 4, 2) := by decide +kernel
theorem dX7_lay_48 : decode cX7_lay 48 = .ok (.iload 4, 2) := by decide +kernel
theorem dX7_lay_50 : decode cX7_lay 50 = .ok (.bipush 120, 2) := by decide +kernel
theorem dX7_lay_52 : decode cX7_lay 52 = .ok (.if_icmp .ge 58, 3) := by decide +kernel
theorem dX7_lay_55 : decode cX7_lay 55 = .ok (.iload_n 3, 1) := by decide +kernel
theorem dX7_lay_56 : decode cX7_lay 56 = .ok (.ifCond .eq 54, 3) := by decide +kernel
theorem dX7_lay_59 : decode cX7_lay 59 = .ok (.iload_n 2, 1) := by decide +kernel
theorem dX7_lay_60 : decode cX7_lay 60 = .ok (.ifCond .eq 50, 3) := by decide +kernel
theorem dX7_lay_63 : decode cX7_lay 63 = .ok (.aload_n 0, 1) := by decide +kernel
theorem dX7_lay_64 : decode cX7_lay 64 = .ok (.iload_n 1, 1) := by decide +kernel
theorem dX7_lay_65 : decode cX7_lay 65 = .ok (.invokevirtual 281, 3) := by decide +kernel
theorem dX7_lay_68 : decode cX7_lay 68 = .ok (.istore 5, 2) := by decide +kernel
theorem dX7_lay_70 : decode cX7_lay 70 = .ok (.iload_n 2, 1) := by decide +kernel
theorem dX7_lay_71 : decode cX7_lay 71 = .ok (.iconst (-1), 1) := by decide +kernel
theorem dX7_lay_72 : decode cX7_lay 72 = .ok (.if_icmp .eq 9, 3) := by decide +kernel
theorem dX7_lay_75 : decode cX7_lay 75 = .ok (.iload 5, 2) := by decide +kernel
theorem dX7_lay_77 : decode cX7_lay 77 = .ok (.iload_n 2, 1) := by decide +kernel
theorem dX7_lay_78 : decode cX7_lay 78 = .ok (.if_icmp .ge 17, 3) := by decide +kernel
theorem dX7_lay_81 : decode cX7_lay 81 = .ok (.iload 5, 2) := by decide +kernel
theorem dX7_lay_83 : decode cX7_lay 83 = .ok (.istore_n 2, 1) := by decide +kernel
theorem dX7_lay_84 : decode cX7_lay 84 = .ok (.aload_n 0, 1) := by decide +kernel
theorem dX7_lay_85 : decode cX7_lay 85 = .ok (.getfield 59, 3) := by decide +kernel
theorem dX7_lay_88 : decode cX7_lay 88 = .ok (.aload_n 0, 1) := by decide +kernel
theorem dX7_lay_89 : decode cX7_lay 89 = .ok (.getfield 63, 3) := by decide +kernel
theorem dX7_lay_92 : decode cX7_lay 92 = .ok (.invokestatic 246, 3) := by decide +kernel
theorem dX7_lay_95 : decode cX7_lay 95 = .ok (.aload_n 0, 1) := by decide +kernel
theorem dX7_lay_96 : decode cX7_lay 96 = .ok (.getfield 59, 3) := by decide +kernel
theorem dX7_lay_99 : decode cX7_lay 99 = .ok (.iload_n 1, 1) := by decide +kernel
theorem dX7_lay_100 : decode cX7_lay 100 = .ok (.invokestatic 284, 3) := by decide +kernel
theorem dX7_lay_103 : decode cX7_lay 103 = .ok (.istore_n 3, 1) := by decide +kernel
theorem dX7_lay_104 : decode cX7_lay 104 = .ok (.iinc 4 1, 3) := by decide +kernel
theorem dX7_lay_107 : decode cX7_lay 107 = .ok (.goto (-59), 3) := by decide +kernel
theorem dX7_lay_110 : decode cX7_lay 110 = .ok (.aload_n 0, 1) := by decide +kernel
theorem dX7_lay_111 : decode cX7_lay 111 = .ok (.iconst 1, 1) := by decide +kernel
theorem dX7_lay_112 : decode cX7_lay 112 = .ok (.putfield 66, 3) := by decide +kernel
theorem dX7_lay_115 : decode cX7_lay 115 = .ok (.iload_n 2, 1) := by decide +kernel
theorem dX7_lay_116 : decode cX7_lay 116 = .ok (.ireturn, 1) := by decide +kernel
theorem dX7_costLaid_0 : decode cX7_costLaid 0 = .ok (.aload_n 0, 1) := by decide +kernel
theorem dX7_costLaid_1 : decode cX7_costLaid 1 = .ok (.getfield 53, 3) := by decide +kernel
theorem dX7_costLaid_4 : decode cX7_costLaid 4 = .ok (.aload_n 0, 1) := by decide +kernel
theorem dX7_costLaid_5 : decode cX7_costLaid 5 = .ok (.getfield 19, 3) := by decide +kernel
theorem dX7_costLaid_8 : decode cX7_costLaid 8 = .ok (.aload_n 0, 1) := by decide +kernel
theorem dX7_costLaid_9 : decode cX7_costLaid 9 = .ok (.getfield 33, 3) := by decide +kernel
theorem dX7_costLaid_12 : decode cX7_costLaid 12 = .ok (.invokevirtual 237, 3) := by decide +kernel
theorem dX7_costLaid_15 : decode cX7_costLaid 15 = .ok (.iconst 0, 1) := by decide +kernel
theorem dX7_costLaid_16 : decode cX7_costLaid 16 = .ok (.istore_n 2, 1) := by decide +kernel
theorem dX7_costLaid_17 : decode cX7_costLaid 17 = .ok (.iload_n 2, 1) := by decide +kernel
theorem dX7_costLaid_18 : decode cX7_costLaid 18 = .ok (.iload_n 1, 1) := by decide +kernel
theorem dX7_costLaid_19 : decode cX7_costLaid 19 = .ok (.if_icmp .ge 41, 3) := by decide +kernel
theorem dX7_costLaid_22 : decode cX7_costLaid 22 = .ok (.aload_n 0, 1) := by decide +kernel
theorem dX7_costLaid_23 : decode cX7_costLaid 23 = .ok (.getfield 53, 3) := by decide +kernel
theorem dX7_costLaid_26 : decode cX7_costLaid 26 = .ok (.getfield 288, 3) := by decide +kernel
theorem dX7_costLaid_29 : decode cX7_costLaid 29 = .ok (.iload_n 2, 1) := by decide +kernel
theorem dX7_costLaid_30 : decode cX7_costLaid 30 = .ok (.aload_n 0, 1) := by decide +kernel
theorem dX7_costLaid_31 : decode cX7_costLaid 31 = .ok (.getfield 19, 3) := by decide +kernel
theorem dX7_costLaid_34 : decode cX7_costLaid 34 = .ok (.getfield 103, 3) := by decide +kernel
theorem dX7_costLaid_37 : decode cX7_costLaid 37 = .ok (.getfield 177, 3) := by decide +kernel
theorem dX7_costLaid_40 : decode cX7_costLaid 40 = .ok (.aload_n 0, 1) := by decide +kernel
theorem dX7_costLaid_41 : decode cX7_costLaid 41 = .ok (.getfield 59, 3) := by decide +kernel
theorem dX7_costLaid_44 : decode cX7_costLaid 44 = .ok (.iload_n 2, 1) := by decide +kernel
theorem dX7_costLaid_45 : decode cX7_costLaid 45 = .ok (.invokestatic 167, 3) := by decide +kernel
theorem dX7_costLaid_48 : decode cX7_costLaid 48 = .ok (.invokestatic 167, 3) := by decide +kernel
theorem dX7_costLaid_51 : decode cX7_costLaid 51 = .ok (.invokestatic 79, 3) := by decide +kernel
theorem dX7_costLaid_54 : decode cX7_costLaid 54 = .ok (.iinc 2 1, 3) := by decide +kernel
theorem dX7_costLaid_57 : decode cX7_costLaid 57 = .ok (.goto (-40), 3) := by decide +kernel
theorem dX7_costLaid_60 : decode cX7_costLaid 60 = .ok (.aload_n 0, 1) := by decide +kernel
theorem dX7_costLaid_61 : decode cX7_costLaid 61 = .ok (.getfield 53, 3) := by decide +kernel
theorem dX7_costLaid_64 : decode cX7_costLaid 64 = .ok (.invokevirtual 241, 3) := by decide +kernel
theorem dX7_costLaid_67 : decode cX7_costLaid 67 = .ok (.ireturn, 1) := by decide +kernel
theorem dX7_nextOrder_0 : decode cX7_nextOrder 0 = .ok (.iload_n 1, 1) := by decide +kernel
theorem dX7_nextOrder_1 : decode cX7_nextOrder 1 = .ok (.iconst 2, 1) := by decide +kernel
theorem dX7_nextOrder_2 : decode cX7_nextOrder 2 = .ok (.isub, 1) := by decide +kernel
theorem dX7_nextOrder_3 : decode cX7_nextOrder 3 = .ok (.istore_n 2, 1) := by decide +kernel
theorem dX7_nextOrder_4 : decode cX7_nextOrder 4 = .ok (.iload_n 2, 1) := by decide +kernel
theorem dX7_nextOrder_5 : decode cX7_nextOrder 5 = .ok (.ifCond .lt 24, 3) := by decide +kernel
theorem dX7_nextOrder_8 : decode cX7_nextOrder 8 = .ok (.aload_n 0, 1) := by decide +kernel
theorem dX7_nextOrder_9 : decode cX7_nextOrder 9 = .ok (.iload_n 2, 1) := by decide +kernel
theorem dX7_nextOrder_10 : decode cX7_nextOrder 10 = .ok (.invokestatic 167, 3) := by decide +kernel
theorem dX7_nextOrder_13 : decode cX7_nextOrder 13 = .ok (.aload_n 0, 1) := by decide +kernel
theorem dX7_nextOrder_14 : decode cX7_nextOrder 14 = .ok (.iload_n 2, 1) := by decide +kernel
theorem dX7_nextOrder_15 : decode cX7_nextOrder 15 = .ok (.iconst 1, 1) := by decide +kernel
theorem dX7_nextOrder_16 : decode cX7_nextOrder 16 = .ok (.iadd, 1) := by decide +kernel
theorem dX7_nextOrder_17 : decode cX7_nextOrder 17 = .ok (.invokestatic 167, 3) := by decide +kernel
theorem dX7_nextOrder_20 : decode cX7_nextOrder 20 = .ok (.if_icmp .lt 9, 3) := by decide +kernel
theorem dX7_nextOrder_23 : decode cX7_nextOrder 23 = .ok (.iinc 2 (-1), 3) := by decide +kernel
theorem dX7_nextOrder_26 : decode cX7_nextOrder 26 = .ok (.goto (-22), 3) := by decide +kernel
theorem dX7_nextOrder_29 : decode cX7_nextOrder 29 = .ok (.iload_n 2, 1) := by decide +kernel
theorem dX7_nextOrder_30 : decode cX7_nextOrder 30 = .ok (.ifCond .ge 5, 3) := by decide +kernel
theorem dX7_nextOrder_33 : decode cX7_nextOrder 33 = .ok (.iconst 0, 1) := by decide +kernel
theorem dX7_nextOrder_34 : decode cX7_nextOrder 34 = .ok (.ireturn, 1) := by decide +kernel
theorem dX7_nextOrder_35 : decode cX7_nextOrder 35 = .ok (.iload_n 1, 1) := by decide +kernel
theorem dX7_nextOrder_36 : decode cX7_nextOrder 36 = .ok (.iconst 1, 1) := by decide +kernel
theorem dX7_nextOrder_37 : decode cX7_nextOrder 37 = .ok (.isub, 1) := by decide +kernel
theorem dX7_nextOrder_38 : decode cX7_nextOrder 38 = .ok (.istore_n 3, 1) := by decide +kernel
theorem dX7_nextOrder_39 : decode cX7_nextOrder 39 = .ok (.iload_n 3, 1) := by decide +kernel
theorem dX7_nextOrder_40 : decode cX7_nextOrder 40 = .ok (.iload_n 2, 1) := by decide +kernel
theorem dX7_nextOrder_41 : decode cX7_nextOrder 41 = .ok (.if_icmp .le 22, 3) := by decide +kernel
theorem dX7_nextOrder_44 : decode cX7_nextOrder 44 = .ok (.aload_n 0, 1) := by decide +kernel
theorem dX7_nextOrder_45 : decode cX7_nextOrder 45 = .ok (.iload_n 3, 1) := by decide +kernel
theorem dX7_nextOrder_46 : decode cX7_nextOrder 46 = .ok (.invokestatic 167, 3) := by decide +kernel
theorem dX7_nextOrder_49 : decode cX7_nextOrder 49 = .ok (.aload_n 0, 1) := by decide +kernel
theorem dX7_nextOrder_50 : decode cX7_nextOrder 50 = .ok (.iload_n 2, 1) := by decide +kernel
theorem dX7_nextOrder_51 : decode cX7_nextOrder 51 = .ok (.invokestatic 167, 3) := by decide +kernel
theorem dX7_nextOrder_54 : decode cX7_nextOrder 54 = .ok (.if_icmp .gt 9, 3) := by decide +kernel
theorem dX7_nextOrder_57 : decode cX7_nextOrder 57 = .ok (.iinc 3 (-1), 3) := by decide +kernel
theorem dX7_nextOrder_60 : decode cX7_nextOrder 60 = .ok (.goto (-21), 3) := by decide +kernel
theorem dX7_nextOrder_63 : decode cX7_nextOrder 63 = .ok (.aload_n 0, 1) := by decide +kernel
theorem dX7_nextOrder_64 : decode cX7_nextOrder 64 = .ok (.iload_n 2, 1) := by decide +kernel
theorem dX7_nextOrder_65 : decode cX7_nextOrder 65 = .ok (.iload_n 3, 1) := by decide +kernel
theorem dX7_nextOrder_66 : decode cX7_nextOrder 66 = .ok (.invokestatic 289, 3) := by decide +kernel
theorem dX7_nextOrder_69 : decode cX7_nextOrder 69 = .ok (.iload_n 2, 1) := by decide +kernel
theorem dX7_nextOrder_70 : decode cX7_nextOrder 70 = .ok (.iconst 1, 1) := by decide +kernel
theorem dX7_nextOrder_71 : decode cX7_nextOrder 71 = .ok (.iadd, 1) := by decide +kernel
theorem dX7_nextOrder_72 : decode cX7_nextOrder 72 = .ok (.istore 4, 2) := by decide +kernel
theorem dX7_nextOrder_74 : decode cX7_nextOrder 74 = .ok (.iload_n 1, 1) := by decide +kernel
theorem dX7_nextOrder_75 : decode cX7_nextOrder 75 = .ok (.iconst 1, 1) := by decide +kernel
theorem dX7_nextOrder_76 : decode cX7_nextOrder 76 = .ok (.isub, 1) := by decide +kernel
theorem dX7_nextOrder_77 : decode cX7_nextOrder 77 = .ok (.istore 5, 2) := by decide +kernel
theorem dX7_nextOrder_79 : decode cX7_nextOrder 79 = .ok (.iload 4, 2) := by decide +kernel
theorem dX7_nextOrder_81 : decode cX7_nextOrder 81 = .ok (.iload 5, 2) := by decide +kernel
theorem dX7_nextOrder_83 : decode cX7_nextOrder 83 = .ok (.if_icmp .ge 20, 3) := by decide +kernel
theorem dX7_nextOrder_86 : decode cX7_nextOrder 86 = .ok (.aload_n 0, 1) := by decide +kernel
theorem dX7_nextOrder_87 : decode cX7_nextOrder 87 = .ok (.iload 4, 2) := by decide +kernel
theorem dX7_nextOrder_89 : decode cX7_nextOrder 89 = .ok (.iload 5, 2) := by decide +kernel
theorem dX7_nextOrder_91 : decode cX7_nextOrder 91 = .ok (.invokestatic 289, 3) := by decide +kernel
theorem dX7_nextOrder_94 : decode cX7_nextOrder 94 = .ok (.iinc 4 1, 3) := by decide +kernel
theorem dX7_nextOrder_97 : decode cX7_nextOrder 97 = .ok (.iinc 5 (-1), 3) := by decide +kernel
theorem dX7_nextOrder_100 : decode cX7_nextOrder 100 = .ok (.goto (-21), 3) := by decide +kernel
theorem dX7_nextOrder_103 : decode cX7_nextOrder 103 = .ok (.iconst 1, 1) := by decide +kernel
theorem dX7_nextOrder_104 : decode cX7_nextOrder 104 = .ok (.ireturn, 1) := by decide +kernel
theorem dX7_swap_0 : decode cX7_swap 0 = .ok (.aload_n 0, 1) := by decide +kernel
theorem dX7_swap_1 : decode cX7_swap 1 = .ok (.iload_n 1, 1) := by decide +kernel
theorem dX7_swap_2 : decode cX7_swap 2 = .ok (.invokestatic 167, 3) := by decide +kernel
theorem dX7_swap_5 : decode cX7_swap 5 = .ok (.istore_n 3, 1) := by decide +kernel
theorem dX7_swap_6 : decode cX7_swap 6 = .ok (.aload_n 0, 1) := by decide +kernel
theorem dX7_swap_7 : decode cX7_swap 7 = .ok (.iload_n 1, 1) := by decide +kernel
theorem dX7_swap_8 : decode cX7_swap 8 = .ok (.aload_n 0, 1) := by decide +kernel
theorem dX7_swap_9 : decode cX7_swap 9 = .ok (.iload_n 2, 1) := by decide +kernel
theorem dX7_swap_10 : decode cX7_swap 10 = .ok (.invokestatic 167, 3) := by decide +kernel
theorem dX7_swap_13 : decode cX7_swap 13 = .ok (.invokestatic 79, 3) := by decide +kernel
theorem dX7_swap_16 : decode cX7_swap 16 = .ok (.aload_n 0, 1) := by decide +kernel
theorem dX7_swap_17 : decode cX7_swap 17 = .ok (.iload_n 2, 1) := by decide +kernel
theorem dX7_swap_18 : decode cX7_swap 18 = .ok (.iload_n 3, 1) := by decide +kernel
theorem dX7_swap_19 : decode cX7_swap 19 = .ok (.invokestatic 79, 3) := by decide +kernel
theorem dX7_swap_22 : decode cX7_swap 22 = .ok (.return_, 1) := by decide +kernel
theorem dX7_laid_0 : decode cX7_laid 0 = .ok (.aload_n 0, 1) := by decide +kernel
theorem dX7_laid_1 : decode cX7_laid 1 = .ok (.iload_n 1, 1) := by decide +kernel
theorem dX7_laid_2 : decode cX7_laid 2 = .ok (.invokevirtual 174, 3) := by decide +kernel
theorem dX7_laid_5 : decode cX7_laid 5 = .ok (.aload_n 0, 1) := by decide +kernel
theorem dX7_laid_6 : decode cX7_laid 6 = .ok (.getfield 66, 3) := by decide +kernel
theorem dX7_laid_9 : decode cX7_laid 9 = .ok (.ifCond .ne 11, 3) := by decide +kernel
theorem dX7_laid_12 : decode cX7_laid 12 = .ok (.new 171, 3) := by decide +kernel
theorem dX7_laid_15 : decode cX7_laid 15 = .ok (.dup, 1) := by decide +kernel
theorem dX7_laid_16 : decode cX7_laid 16 = .ok (.invokespecial 173, 3) := by decide +kernel
theorem dX7_laid_19 : decode cX7_laid 19 = .ok (.athrow, 1) := by decide +kernel
theorem dX7_laid_20 : decode cX7_laid 20 = .ok (.aload_n 0, 1) := by decide +kernel
theorem dX7_laid_21 : decode cX7_laid 21 = .ok (.getfield 63, 3) := by decide +kernel
theorem dX7_laid_24 : decode cX7_laid 24 = .ok (.iload_n 1, 1) := by decide +kernel
theorem dX7_laid_25 : decode cX7_laid 25 = .ok (.invokestatic 167, 3) := by decide +kernel
theorem dX7_laid_28 : decode cX7_laid 28 = .ok (.ireturn, 1) := by decide +kernel
theorem dX7_without_0 : decode cX7_without 0 = .ok (.aload_n 0, 1) := by decide +kernel
theorem dX7_without_1 : decode cX7_without 1 = .ok (.iload_n 1, 1) := by decide +kernel
theorem dX7_without_2 : decode cX7_without 2 = .ok (.invokevirtual 189, 3) := by decide +kernel
theorem dX7_without_5 : decode cX7_without 5 = .ok (.aload_n 0, 1) := by decide +kernel
theorem dX7_without_6 : decode cX7_without 6 = .ok (.getfield 53, 3) := by decide +kernel
theorem dX7_without_9 : decode cX7_without 9 = .ok (.aload_n 0, 1) := by decide +kernel
theorem dX7_without_10 : decode cX7_without 10 = .ok (.getfield 19, 3) := by decide +kernel
theorem dX7_without_13 : decode cX7_without 13 = .ok (.aload_n 0, 1) := by decide +kernel
theorem dX7_without_14 : decode cX7_without 14 = .ok (.getfield 33, 3) := by decide +kernel
theorem dX7_without_17 : decode cX7_without 17 = .ok (.invokevirtual 237, 3) := by decide +kernel
theorem dX7_without_20 : decode cX7_without 20 = .ok (.aload_n 0, 1) := by decide +kernel
theorem dX7_without_21 : decode cX7_without 21 = .ok (.getfield 53, 3) := by decide +kernel
theorem dX7_without_24 : decode cX7_without 24 = .ok (.iload_n 1, 1) := by decide +kernel
theorem dX7_without_25 : decode cX7_without 25 = .ok (.invokestatic 231, 3) := by decide +kernel
theorem dX7_without_28 : decode cX7_without 28 = .ok (.putfield 292, 3) := by decide +kernel
theorem dX7_without_31 : decode cX7_without 31 = .ok (.aload_n 0, 1) := by decide +kernel
theorem dX7_without_32 : decode cX7_without 32 = .ok (.getfield 53, 3) := by decide +kernel
theorem dX7_without_35 : decode cX7_without 35 = .ok (.invokevirtual 241, 3) := by decide +kernel
theorem dX7_without_38 : decode cX7_without 38 = .ok (.ireturn, 1) := by decide +kernel
theorem dX7_sign_0 : decode cX7_sign 0 = .ok (.aload_n 0, 1) := by decide +kernel
theorem dX7_sign_1 : decode cX7_sign 1 = .ok (.getfield 33, 3) := by decide +kernel
theorem dX7_sign_4 : decode cX7_sign 4 = .ok (.getfield 158, 3) := by decide +kernel
theorem dX7_sign_7 : decode cX7_sign 7 = .ok (.bipush 12, 2) := by decide +kernel
theorem dX7_sign_9 : decode cX7_sign 9 = .ok (.if_icmp .ge 13, 3) := by decide +kernel
theorem dX7_sign_12 : decode cX7_sign 12 = .ok (.iload_n 1, 1) := by decide +kernel
theorem dX7_sign_13 : decode cX7_sign 13 = .ok (.ifCond .lt 9, 3) := by decide +kernel
theorem dX7_sign_16 : decode cX7_sign 16 = .ok (.iload_n 1, 1) := by decide +kernel
theorem dX7_sign_17 : decode cX7_sign 17 = .ok (.bipush 9, 2) := by decide +kernel
theorem dX7_sign_19 : decode cX7_sign 19 = .ok (.if_icmp .le 13, 3) := by decide +kernel
theorem dX7_sign_22 : decode cX7_sign 22 = .ok (.aload_n 0, 1) := by decide +kernel
theorem dX7_sign_23 : decode cX7_sign 23 = .ok (.getfield 33, 3) := by decide +kernel
theorem dX7_sign_26 : decode cX7_sign 26 = .ok (.iconst 2, 1) := by decide +kernel
theorem dX7_sign_27 : decode cX7_sign 27 = .ok (.invokevirtual 93, 3) := by decide +kernel
theorem dX7_sign_30 : decode cX7_sign 30 = .ok (.iconst (-1), 1) := by decide +kernel
theorem dX7_sign_31 : decode cX7_sign 31 = .ok (.ireturn, 1) := by decide +kernel
theorem dX7_sign_32 : decode cX7_sign 32 = .ok (.aload_n 0, 1) := by decide +kernel
theorem dX7_sign_33 : decode cX7_sign 33 = .ok (.getfield 33, 3) := by decide +kernel
theorem dX7_sign_36 : decode cX7_sign 36 = .ok (.getfield 295, 3) := by decide +kernel
theorem dX7_sign_39 : decode cX7_sign 39 = .ok (.aload_n 0, 1) := by decide +kernel
theorem dX7_sign_40 : decode cX7_sign 40 = .ok (.getfield 33, 3) := by decide +kernel
theorem dX7_sign_43 : decode cX7_sign 43 = .ok (.getfield 158, 3) := by decide +kernel
theorem dX7_sign_46 : decode cX7_sign 46 = .ok (.iload_n 1, 1) := by decide +kernel
theorem dX7_sign_47 : decode cX7_sign 47 = .ok (.invokestatic 79, 3) := by decide +kernel
theorem dX7_sign_50 : decode cX7_sign 50 = .ok (.aload_n 0, 1) := by decide +kernel
theorem dX7_sign_51 : decode cX7_sign 51 = .ok (.getfield 33, 3) := by decide +kernel
theorem dX7_sign_54 : decode cX7_sign 54 = .ok (.getfield 298, 3) := by decide +kernel
theorem dX7_sign_57 : decode cX7_sign 57 = .ok (.aload_n 0, 1) := by decide +kernel
theorem dX7_sign_58 : decode cX7_sign 58 = .ok (.getfield 33, 3) := by decide +kernel
theorem dX7_sign_61 : decode cX7_sign 61 = .ok (.getfield 158, 3) := by decide +kernel
theorem dX7_sign_64 : decode cX7_sign 64 = .ok (.iload_n 2, 1) := by decide +kernel
theorem dX7_sign_65 : decode cX7_sign 65 = .ok (.ifCond .eq 7, 3) := by decide +kernel
theorem dX7_sign_68 : decode cX7_sign 68 = .ok (.iconst 1, 1) := by decide +kernel
theorem dX7_sign_69 : decode cX7_sign 69 = .ok (.goto 4, 3) := by decide +kernel
theorem dX7_sign_72 : decode cX7_sign 72 = .ok (.iconst 0, 1) := by decide +kernel
theorem dX7_sign_73 : decode cX7_sign 73 = .ok (.invokestatic 79, 3) := by decide +kernel
theorem dX7_sign_76 : decode cX7_sign 76 = .ok (.aload_n 0, 1) := by decide +kernel
theorem dX7_sign_77 : decode cX7_sign 77 = .ok (.getfield 33, 3) := by decide +kernel
theorem dX7_sign_80 : decode cX7_sign 80 = .ok (.dup, 1) := by decide +kernel
theorem dX7_sign_81 : decode cX7_sign 81 = .ok (.getfield 158, 3) := by decide +kernel
theorem dX7_sign_84 : decode cX7_sign 84 = .ok (.iconst 1, 1) := by decide +kernel
theorem dX7_sign_85 : decode cX7_sign 85 = .ok (.iadd, 1) := by decide +kernel
theorem dX7_sign_86 : decode cX7_sign 86 = .ok (.putfield 158, 3) := by decide +kernel
theorem dX7_sign_89 : decode cX7_sign 89 = .ok (.aload_n 0, 1) := by decide +kernel
theorem dX7_sign_90 : decode cX7_sign 90 = .ok (.getfield 33, 3) := by decide +kernel
theorem dX7_sign_93 : decode cX7_sign 93 = .ok (.getfield 158, 3) := by decide +kernel
theorem dX7_sign_96 : decode cX7_sign 96 = .ok (.ireturn, 1) := by decide +kernel
theorem dX7_odds_0 : decode cX7_odds 0 = .ok (.iload_n 2, 1) := by decide +kernel
theorem dX7_odds_1 : decode cX7_odds 1 = .ok (.ifCond .lt 8, 3) := by decide +kernel
theorem dX7_odds_4 : decode cX7_odds 4 = .ok (.iload_n 2, 1) := by decide +kernel
theorem dX7_odds_5 : decode cX7_odds 5 = .ok (.iconst 1, 1) := by decide +kernel
theorem dX7_odds_6 : decode cX7_odds 6 = .ok (.if_icmp .le 11, 3) := by decide +kernel
theorem dX7_odds_9 : decode cX7_odds 9 = .ok (.new 171, 3) := by decide +kernel
theorem dX7_odds_12 : decode cX7_odds 12 = .ok (.dup, 1) := by decide +kernel
theorem dX7_odds_13 : decode cX7_odds 13 = .ok (.invokespecial 173, 3) := by decide +kernel
theorem dX7_odds_16 : decode cX7_odds 16 = .ok (.athrow, 1) := by decide +kernel
theorem dX7_odds_17 : decode cX7_odds 17 = .ok (.iload_n 1, 1) := by decide +kernel
theorem dX7_odds_18 : decode cX7_odds 18 = .ok (.ifCond .lt 9, 3) := by decide +kernel
theorem dX7_odds_21 : decode cX7_odds 21 = .ok (.iload_n 1, 1) := by decide +kernel
theorem dX7_odds_22 : decode cX7_odds 22 = .ok (.bipush 9, 2) := by decide +kernel
theorem dX7_odds_24 : decode cX7_odds 24 = .ok (.if_icmp .le 11, 3) := by decide +kernel
theorem dX7_odds_27 : decode cX7_odds 27 = .ok (.new 83, 3) := by decide +kernel
theorem dX7_odds_30 : decode cX7_odds 30 = .ok (.dup, 1) := by decide +kernel
theorem dX7_odds_31 : decode cX7_odds 31 = .ok (.invokespecial 85, 3) := by decide +kernel
theorem dX7_odds_34 : decode cX7_odds 34 = .ok (.athrow, 1) := by decide +kernel
theorem dX7_odds_35 : decode cX7_odds 35 = .ok (.aload_n 0, 1) := by decide +kernel
theorem dX7_odds_36 : decode cX7_odds 36 = .ok (.getfield 33, 3) := by decide +kernel
theorem dX7_odds_39 : decode cX7_odds 39 = .ok (.iload_n 1, 1) := by decide +kernel
theorem dX7_odds_40 : decode cX7_odds 40 = .ok (.invokevirtual 301, 3) := by decide +kernel
theorem dX7_odds_43 : decode cX7_odds 43 = .ok (.aload_n 0, 1) := by decide +kernel
theorem dX7_odds_44 : decode cX7_odds 44 = .ok (.getfield 33, 3) := by decide +kernel
theorem dX7_odds_47 : decode cX7_odds 47 = .ok (.iload_n 1, 1) := by decide +kernel
theorem dX7_odds_48 : decode cX7_odds 48 = .ok (.invokevirtual 304, 3) := by decide +kernel
theorem dX7_odds_51 : decode cX7_odds 51 = .ok (.iload_n 2, 1) := by decide +kernel
theorem dX7_odds_52 : decode cX7_odds 52 = .ok (.invokestatic 307, 3) := by decide +kernel
theorem dX7_odds_55 : decode cX7_odds 55 = .ok (.ireturn, 1) := by decide +kernel
theorem dX7_fraction_0 : decode cX7_fraction 0 = .ok (.iload_n 0, 1) := by decide +kernel
theorem dX7_fraction_1 : decode cX7_fraction 1 = .ok (.istore_n 3, 1) := by decide +kernel
theorem dX7_fraction_2 : decode cX7_fraction 2 = .ok (.iload_n 1, 1) := by decide +kernel
theorem dX7_fraction_3 : decode cX7_fraction 3 = .ok (.istore 4, 2) := by decide +kernel
theorem dX7_fraction_5 : decode cX7_fraction 5 = .ok (.iconst 0, 1) := by decide +kernel
theorem dX7_fraction_6 : decode cX7_fraction 6 = .ok (.istore 5, 2) := by decide +kernel
theorem dX7_fraction_8 : decode cX7_fraction 8 = .ok (.iload 5, 2) := by decide +kernel
theorem dX7_fraction_10 : decode cX7_fraction 10 = .ok (.bipush 64, 2) := by decide +kernel
theorem dX7_fraction_12 : decode cX7_fraction 12 = .ok (.if_icmp .ge 27, 3) := by decide +kernel
theorem dX7_fraction_15 : decode cX7_fraction 15 = .ok (.iload 4, 2) := by decide +kernel
theorem dX7_fraction_17 : decode cX7_fraction 17 = .ok (.ifCond .eq 22, 3) := by decide +kernel
theorem dX7_fraction_20 : decode cX7_fraction 20 = .ok (.iload_n 3, 1) := by decide +kernel
theorem dX7_fraction_21 : decode cX7_fraction 21 = .ok (.iload 4, 2) := by decide +kernel
theorem dX7_fraction_23 : decode cX7_fraction 23 = .ok (.irem, 1) := by decide +kernel
theorem dX7_fraction_24 : decode cX7_fraction 24 = .ok (.istore 6, 2) := by decide +kernel
theorem dX7_fraction_26 : decode cX7_fraction 26 = .ok (.iload 4, 2) := by decide +kernel
theorem dX7_fraction_28 : decode cX7_fraction 28 = .ok (.istore_n 3, 1) := by decide +kernel
theorem dX7_fraction_29 : decode cX7_fraction 29 = .ok (.iload 6, 2) := by decide +kernel
theorem dX7_fraction_31 : decode cX7_fraction 31 = .ok (.istore 4, 2) := by decide +kernel
theorem dX7_fraction_33 : decode cX7_fraction 33 = .ok (.iinc 5 1, 3) := by decide +kernel
theorem dX7_fraction_36 : decode cX7_fraction 36 = .ok (.goto (-28), 3) := by decide +kernel
theorem dX7_fraction_39 : decode cX7_fraction 39 = .ok (.iload_n 1, 1) := by decide +kernel
theorem dX7_fraction_40 : decode cX7_fraction 40 = .ok (.ifCond .eq 7, 3) := by decide +kernel
theorem dX7_fraction_43 : decode cX7_fraction 43 = .ok (.iload_n 3, 1) := by decide +kernel
theorem dX7_fraction_44 : decode cX7_fraction 44 = .ok (.ifCond .ne 5, 3) := by decide +kernel
theorem dX7_fraction_47 : decode cX7_fraction 47 = .ok (.iload_n 2, 1) := by decide +kernel
theorem dX7_fraction_48 : decode cX7_fraction 48 = .ok (.ireturn, 1) := by decide +kernel
theorem dX7_fraction_49 : decode cX7_fraction 49 = .ok (.iload_n 2, 1) := by decide +kernel
theorem dX7_fraction_50 : decode cX7_fraction 50 = .ok (.ifCond .ne 7, 3) := by decide +kernel
theorem dX7_fraction_53 : decode cX7_fraction 53 = .ok (.iload_n 0, 1) := by decide +kernel
theorem dX7_fraction_54 : decode cX7_fraction 54 = .ok (.goto 4, 3) := by decide +kernel
theorem dX7_fraction_57 : decode cX7_fraction 57 = .ok (.iload_n 1, 1) := by decide +kernel
theorem dX7_fraction_58 : decode cX7_fraction 58 = .ok (.iload_n 3, 1) := by decide +kernel
theorem dX7_fraction_59 : decode cX7_fraction 59 = .ok (.idiv, 1) := by decide +kernel
theorem dX7_fraction_60 : decode cX7_fraction 60 = .ok (.ireturn, 1) := by decide +kernel
theorem dX7_line_0 : decode cX7_line 0 = .ok (.iconst 0, 1) := by decide +kernel
theorem dX7_line_1 : decode cX7_line 1 = .ok (.istore_n 1, 1) := by decide +kernel
theorem dX7_line_2 : decode cX7_line 2 = .ok (.iload_n 1, 1) := by decide +kernel
theorem dX7_line_3 : decode cX7_line 3 = .ok (.bipush 9, 2) := by decide +kernel
theorem dX7_line_5 : decode cX7_line 5 = .ok (.if_icmp .gt 34, 3) := by decide +kernel
theorem dX7_line_8 : decode cX7_line 8 = .ok (.aload_n 0, 1) := by decide +kernel
theorem dX7_line_9 : decode cX7_line 9 = .ok (.getfield 33, 3) := by decide +kernel
theorem dX7_line_12 : decode cX7_line 12 = .ok (.iload_n 1, 1) := by decide +kernel
theorem dX7_line_13 : decode cX7_line 13 = .ok (.invokevirtual 301, 3) := by decide +kernel
theorem dX7_line_16 : decode cX7_line 16 = .ok (.istore_n 2, 1) := by decide +kernel
theorem dX7_line_17 : decode cX7_line 17 = .ok (.iload_n 2, 1) := by decide +kernel
theorem dX7_line_18 : decode cX7_line 18 = .ok (.aload_n 0, 1) := by decide +kernel
theorem dX7_line_19 : decode cX7_line 19 = .ok (.getfield 33, 3) := by decide +kernel
theorem dX7_line_22 : decode cX7_line 22 = .ok (.iload_n 1, 1) := by decide +kernel
theorem dX7_line_23 : decode cX7_line 23 = .ok (.invokevirtual 304, 3) := by decide +kernel
theorem dX7_line_26 : decode cX7_line 26 = .ok (.iload_n 2, 1) := by decide +kernel
theorem dX7_line_27 : decode cX7_line 27 = .ok (.isub, 1) := by decide +kernel
theorem dX7_line_28 : decode cX7_line 28 = .ok (.if_icmp .le 5, 3) := by decide +kernel
theorem dX7_line_31 : decode cX7_line 31 = .ok (.iload_n 1, 1) := by decide +kernel
theorem dX7_line_32 : decode cX7_line 32 = .ok (.ireturn, 1) := by decide +kernel
theorem dX7_line_33 : decode cX7_line 33 = .ok (.iinc 1 1, 3) := by decide +kernel
theorem dX7_line_36 : decode cX7_line 36 = .ok (.goto (-34), 3) := by decide +kernel
theorem dX7_line_39 : decode cX7_line 39 = .ok (.iconst (-1), 1) := by decide +kernel
theorem dX7_line_40 : decode cX7_line 40 = .ok (.ireturn, 1) := by decide +kernel
theorem dX7_gate_0 : decode cX7_gate 0 = .ok (.iload 5, 2) := by decide +kernel
theorem dX7_gate_2 : decode cX7_gate 2 = .ok (.ifCond .lt 9, 3) := by decide +kernel
theorem dX7_gate_5 : decode cX7_gate 5 = .ok (.iload 5, 2) := by decide +kernel
theorem dX7_gate_7 : decode cX7_gate 7 = .ok (.iconst 1, 1) := by decide +kernel
theorem dX7_gate_8 : decode cX7_gate 8 = .ok (.if_icmp .le 11, 3) := by decide +kernel
theorem dX7_gate_11 : decode cX7_gate 11 = .ok (.new 171, 3) := by decide +kernel
theorem dX7_gate_14 : decode cX7_gate 14 = .ok (.dup, 1) := by decide +kernel
theorem dX7_gate_15 : decode cX7_gate 15 = .ok (.invokespecial 173, 3) := by decide +kernel
theorem dX7_gate_18 : decode cX7_gate 18 = .ok (.athrow, 1) := by decide +kernel
theorem dX7_gate_19 : decode cX7_gate 19 = .ok (.iload_n 2, 1) := by decide +kernel
theorem dX7_gate_20 : decode cX7_gate 20 = .ok (.iconst 1, 1) := by decide +kernel
theorem dX7_gate_21 : decode cX7_gate 21 = .ok (.if_icmp .lt 40, 3) := by decide +kernel
theorem dX7_gate_24 : decode cX7_gate 24 = .ok (.iload_n 2, 1) := by decide +kernel
theorem dX7_gate_25 : decode cX7_gate 25 = .ok (.bipush 99, 2) := by decide +kernel
theorem dX7_gate_27 : decode cX7_gate 27 = .ok (.if_icmp .gt 34, 3) := by decide +kernel
theorem dX7_gate_30 : decode cX7_gate 30 = .ok (.iload_n 1, 1) := by decide +kernel
theorem dX7_gate_31 : decode cX7_gate 31 = .ok (.ifCond .lt 30, 3) := by decide +kernel
theorem dX7_gate_34 : decode cX7_gate 34 = .ok (.iload_n 1, 1) := by decide +kernel
theorem dX7_gate_35 : decode cX7_gate 35 = .ok (.iload_n 2, 1) := by decide +kernel
theorem dX7_gate_36 : decode cX7_gate 36 = .ok (.if_icmp .gt 25, 3) := by decide +kernel
theorem dX7_gate_39 : decode cX7_gate 39 = .ok (.iload_n 3, 1) := by decide +kernel
theorem dX7_gate_40 : decode cX7_gate 40 = .ok (.ifCond .lt 21, 3) := by decide +kernel
theorem dX7_gate_43 : decode cX7_gate 43 = .ok (.iload_n 3, 1) := by decide +kernel
theorem dX7_gate_44 : decode cX7_gate 44 = .ok (.bipush 10, 2) := by decide +kernel
theorem dX7_gate_46 : decode cX7_gate 46 = .ok (.if_icmp .gt 15, 3) := by decide +kernel
theorem dX7_gate_49 : decode cX7_gate 49 = .ok (.iload 4, 2) := by decide +kernel
theorem dX7_gate_51 : decode cX7_gate 51 = .ok (.ifCond .lt 10, 3) := by decide +kernel
theorem dX7_gate_54 : decode cX7_gate 54 = .ok (.iload 4, 2) := by decide +kernel
theorem dX7_gate_56 : decode cX7_gate 56 = .ok (.bipush 10, 2) := by decide +kernel
theorem dX7_gate_58 : decode cX7_gate 58 = .ok (.if_icmp .le 11, 3) := by decide +kernel
theorem dX7_gate_61 : decode cX7_gate 61 = .ok (.new 83, 3) := by decide +kernel
theorem dX7_gate_64 : decode cX7_gate 64 = .ok (.dup, 1) := by decide +kernel
theorem dX7_gate_65 : decode cX7_gate 65 = .ok (.invokespecial 85, 3) := by decide +kernel
theorem dX7_gate_68 : decode cX7_gate 68 = .ok (.athrow, 1) := by decide +kernel
theorem dX7_gate_69 : decode cX7_gate 69 = .ok (.iload_n 1, 1) := by decide +kernel
theorem dX7_gate_70 : decode cX7_gate 70 = .ok (.iload_n 3, 1) := by decide +kernel
theorem dX7_gate_71 : decode cX7_gate 71 = .ok (.imul, 1) := by decide +kernel
theorem dX7_gate_72 : decode cX7_gate 72 = .ok (.istore 6, 2) := by decide +kernel
theorem dX7_gate_74 : decode cX7_gate 74 = .ok (.iload 6, 2) := by decide +kernel
theorem dX7_gate_76 : decode cX7_gate 76 = .ok (.iload 6, 2) := by decide +kernel
theorem dX7_gate_78 : decode cX7_gate 78 = .ok (.iload_n 2, 1) := by decide +kernel
theorem dX7_gate_79 : decode cX7_gate 79 = .ok (.iload_n 1, 1) := by decide +kernel
theorem dX7_gate_80 : decode cX7_gate 80 = .ok (.isub, 1) := by decide +kernel
theorem dX7_gate_81 : decode cX7_gate 81 = .ok (.iload 4, 2) := by decide +kernel
theorem dX7_gate_83 : decode cX7_gate 83 = .ok (.imul, 1) := by decide +kernel
theorem dX7_gate_84 : decode cX7_gate 84 = .ok (.iadd, 1) := by decide +kernel
theorem dX7_gate_85 : decode cX7_gate 85 = .ok (.iload 5, 2) := by decide +kernel
theorem dX7_gate_87 : decode cX7_gate 87 = .ok (.invokestatic 307, 3) := by decide +kernel
theorem dX7_gate_90 : decode cX7_gate 90 = .ok (.ireturn, 1) := by decide +kernel
theorem dX7_miss_0 : decode cX7_miss 0 = .ok (.aload_n 0, 1) := by decide +kernel
theorem dX7_miss_1 : decode cX7_miss 1 = .ok (.getfield 33, 3) := by decide +kernel
theorem dX7_miss_4 : decode cX7_miss 4 = .ok (.getfield 161, 3) := by decide +kernel
theorem dX7_miss_7 : decode cX7_miss 7 = .ok (.bipush 8, 2) := by decide +kernel
theorem dX7_miss_9 : decode cX7_miss 9 = .ok (.if_icmp .ge 24, 3) := by decide +kernel
theorem dX7_miss_12 : decode cX7_miss 12 = .ok (.aload_n 0, 1) := by decide +kernel
theorem dX7_miss_13 : decode cX7_miss 13 = .ok (.getfield 19, 3) := by decide +kernel
theorem dX7_miss_16 : decode cX7_miss 16 = .ok (.getfield 103, 3) := by decide +kernel
theorem dX7_miss_19 : decode cX7_miss 19 = .ok (.iload_n 1, 1) := by decide +kernel
theorem dX7_miss_20 : decode cX7_miss 20 = .ok (.invokevirtual 225, 3) := by decide +kernel
theorem dX7_miss_23 : decode cX7_miss 23 = .ok (.ifCond .eq 10, 3) := by decide +kernel
theorem dX7_miss_26 : decode cX7_miss 26 = .ok (.iload_n 2, 1) := by decide +kernel
theorem dX7_miss_27 : decode cX7_miss 27 = .ok (.invokestatic 311, 3) := by decide +kernel
theorem dX7_miss_30 : decode cX7_miss 30 = .ok (.ifCond .ne 13, 3) := by decide +kernel
theorem dX7_miss_33 : decode cX7_miss 33 = .ok (.aload_n 0, 1) := by decide +kernel
theorem dX7_miss_34 : decode cX7_miss 34 = .ok (.getfield 33, 3) := by decide +kernel
theorem dX7_miss_37 : decode cX7_miss 37 = .ok (.iconst 2, 1) := by decide +kernel
theorem dX7_miss_38 : decode cX7_miss 38 = .ok (.invokevirtual 93, 3) := by decide +kernel
theorem dX7_miss_41 : decode cX7_miss 41 = .ok (.iconst (-1), 1) := by decide +kernel
theorem dX7_miss_42 : decode cX7_miss 42 = .ok (.ireturn, 1) := by decide +kernel
theorem dX7_miss_43 : decode cX7_miss 43 = .ok (.aload_n 0, 1) := by decide +kernel
theorem dX7_miss_44 : decode cX7_miss 44 = .ok (.getfield 33, 3) := by decide +kernel
theorem dX7_miss_47 : decode cX7_miss 47 = .ok (.getfield 314, 3) := by decide +kernel
theorem dX7_miss_50 : decode cX7_miss 50 = .ok (.aload_n 0, 1) := by decide +kernel
theorem dX7_miss_51 : decode cX7_miss 51 = .ok (.getfield 33, 3) := by decide +kernel
theorem dX7_miss_54 : decode cX7_miss 54 = .ok (.getfield 161, 3) := by decide +kernel
theorem dX7_miss_57 : decode cX7_miss 57 = .ok (.iload_n 1, 1) := by decide +kernel
theorem dX7_miss_58 : decode cX7_miss 58 = .ok (.invokestatic 79, 3) := by decide +kernel
theorem dX7_miss_61 : decode cX7_miss 61 = .ok (.aload_n 0, 1) := by decide +kernel
theorem dX7_miss_62 : decode cX7_miss 62 = .ok (.getfield 33, 3) := by decide +kernel
theorem dX7_miss_65 : decode cX7_miss 65 = .ok (.getfield 317, 3) := by decide +kernel
theorem dX7_miss_68 : decode cX7_miss 68 = .ok (.aload_n 0, 1) := by decide +kernel
theorem dX7_miss_69 : decode cX7_miss 69 = .ok (.getfield 33, 3) := by decide +kernel
theorem dX7_miss_72 : decode cX7_miss 72 = .ok (.getfield 161, 3) := by decide +kernel
theorem dX7_miss_75 : decode cX7_miss 75 = .ok (.iload_n 2, 1) := by decide +kernel
theorem dX7_miss_76 : decode cX7_miss 76 = .ok (.invokestatic 79, 3) := by decide +kernel
theorem dX7_miss_79 : decode cX7_miss 79 = .ok (.aload_n 0, 1) := by decide +kernel
theorem dX7_miss_80 : decode cX7_miss 80 = .ok (.getfield 33, 3) := by decide +kernel
theorem dX7_miss_83 : decode cX7_miss 83 = .ok (.dup, 1) := by decide +kernel
theorem dX7_miss_84 : decode cX7_miss 84 = .ok (.getfield 161, 3) := by decide +kernel
theorem dX7_miss_87 : decode cX7_miss 87 = .ok (.iconst 1, 1) := by decide +kernel
theorem dX7_miss_88 : decode cX7_miss 88 = .ok (.iadd, 1) := by decide +kernel
theorem dX7_miss_89 : decode cX7_miss 89 = .ok (.putfield 161, 3) := by decide +kernel
theorem dX7_miss_92 : decode cX7_miss 92 = .ok (.aload_n 0, 1) := by decide +kernel
theorem dX7_miss_93 : decode cX7_miss 93 = .ok (.getfield 33, 3) := by decide +kernel
theorem dX7_miss_96 : decode cX7_miss 96 = .ok (.getfield 161, 3) := by decide +kernel
theorem dX7_miss_99 : decode cX7_miss 99 = .ok (.ireturn, 1) := by decide +kernel
theorem dX7_forget_0 : decode cX7_forget 0 = .ok (.aload_n 0, 1) := by decide +kernel
theorem dX7_forget_1 : decode cX7_forget 1 = .ok (.getfield 33, 3) := by decide +kernel
theorem dX7_forget_4 : decode cX7_forget 4 = .ok (.iconst 0, 1) := by decide +kernel
theorem dX7_forget_5 : decode cX7_forget 5 = .ok (.putfield 158, 3) := by decide +kernel
theorem dX7_forget_8 : decode cX7_forget 8 = .ok (.aload_n 0, 1) := by decide +kernel
theorem dX7_forget_9 : decode cX7_forget 9 = .ok (.getfield 33, 3) := by decide +kernel
theorem dX7_forget_12 : decode cX7_forget 12 = .ok (.iconst 0, 1) := by decide +kernel
theorem dX7_forget_13 : decode cX7_forget 13 = .ok (.putfield 161, 3) := by decide +kernel
theorem dX7_forget_16 : decode cX7_forget 16 = .ok (.return_, 1) := by decide +kernel
theorem dX7_who_0 : decode cX7_who 0 = .ok (.iload_n 1, 1) := by decide +kernel
theorem dX7_who_1 : decode cX7_who 1 = .ok (.iconst (-1), 1) := by decide +kernel
theorem dX7_who_2 : decode cX7_who 2 = .ok (.if_icmp .lt 14, 3) := by decide +kernel
theorem dX7_who_5 : decode cX7_who 5 = .ok (.iload_n 1, 1) := by decide +kernel
theorem dX7_who_6 : decode cX7_who 6 = .ok (.aload_n 0, 1) := by decide +kernel
theorem dX7_who_7 : decode cX7_who 7 = .ok (.getfield 33, 3) := by decide +kernel
theorem dX7_who_10 : decode cX7_who 10 = .ok (.getfield 161, 3) := by decide +kernel
theorem dX7_who_13 : decode cX7_who 13 = .ok (.if_icmp .lt 11, 3) := by decide +kernel
theorem dX7_who_16 : decode cX7_who 16 = .ok (.new 171, 3) := by decide +kernel
theorem dX7_who_19 : decode cX7_who 19 = .ok (.dup, 1) := by decide +kernel
theorem dX7_who_20 : decode cX7_who 20 = .ok (.invokespecial 173, 3) := by decide +kernel
theorem dX7_who_23 : decode cX7_who 23 = .ok (.athrow, 1) := by decide +kernel
theorem dX7_who_24 : decode cX7_who 24 = .ok (.iload_n 1, 1) := by decide +kernel
theorem dX7_who_25 : decode cX7_who 25 = .ok (.iconst (-1), 1) := by decide +kernel
theorem dX7_who_26 : decode cX7_who 26 = .ok (.if_icmp .ne 10, 3) := by decide +kernel
theorem dX7_who_29 : decode cX7_who 29 = .ok (.aload_n 0, 1) := by decide +kernel
theorem dX7_who_30 : decode cX7_who 30 = .ok (.invokevirtual 320, 3) := by decide +kernel
theorem dX7_who_33 : decode cX7_who 33 = .ok (.goto 8, 3) := by decide +kernel
theorem dX7_who_36 : decode cX7_who 36 = .ok (.aload_n 0, 1) := by decide +kernel
theorem dX7_who_37 : decode cX7_who 37 = .ok (.iload_n 1, 1) := by decide +kernel
theorem dX7_who_38 : decode cX7_who 38 = .ok (.invokevirtual 323, 3) := by decide +kernel
theorem dX7_who_41 : decode cX7_who 41 = .ok (.ireturn, 1) := by decide +kernel
theorem dX7_canHave_0 : decode cX7_canHave 0 = .ok (.aload_n 0, 1) := by decide +kernel
theorem dX7_canHave_1 : decode cX7_canHave 1 = .ok (.getfield 33, 3) := by decide +kernel
theorem dX7_canHave_4 : decode cX7_canHave 4 = .ok (.getfield 314, 3) := by decide +kernel
theorem dX7_canHave_7 : decode cX7_canHave 7 = .ok (.iload_n 1, 1) := by decide +kernel
theorem dX7_canHave_8 : decode cX7_canHave 8 = .ok (.invokestatic 167, 3) := by decide +kernel
theorem dX7_canHave_11 : decode cX7_canHave 11 = .ok (.istore_n 2, 1) := by decide +kernel
theorem dX7_canHave_12 : decode cX7_canHave 12 = .ok (.aload_n 0, 1) := by decide +kernel
theorem dX7_canHave_13 : decode cX7_canHave 13 = .ok (.getfield 33, 3) := by decide +kernel
theorem dX7_canHave_16 : decode cX7_canHave 16 = .ok (.getfield 317, 3) := by decide +kernel
theorem dX7_canHave_19 : decode cX7_canHave 19 = .ok (.iload_n 1, 1) := by decide +kernel
theorem dX7_canHave_20 : decode cX7_canHave 20 = .ok (.invokestatic 167, 3) := by decide +kernel
theorem dX7_canHave_23 : decode cX7_canHave 23 = .ok (.istore_n 3, 1) := by decide +kernel
theorem dX7_canHave_24 : decode cX7_canHave 24 = .ok (.iconst 0, 1) := by decide +kernel
theorem dX7_canHave_25 : decode cX7_canHave 25 = .ok (.istore 4, 2) := by decide +kernel
theorem dX7_canHave_27 : decode cX7_canHave 27 = .ok (.iconst 0, 1) := by decide +kernel
theorem dX7_canHave_28 : decode cX7_canHave 28 = .ok (.istore 5, 2) := by decide +kernel
theorem dX7_canHave_30 : decode cX7_canHave 30 = .ok (.iload 5, 2) := by decide +kernel
theorem dX7_canHave_32 : decode cX7_canHave 32 = .ok (.aload_n 0, 1) := by decide +kernel
theorem dX7_canHave_33 : decode cX7_canHave 33 = .ok (.getfield 19, 3) := by decide +kernel
theorem dX7_canHave_36 : decode cX7_canHave 36 = .ok (.getfield 118, 3) := by decide +kernel
theorem dX7_canHave_39 : decode cX7_canHave 39 = .ok (.getfield 122, 3) := by decide +kernel
theorem dX7_canHave_42 : decode cX7_canHave 42 = .ok (.if_icmp .ge 52, 3) := by decide +kernel
theorem dX7_canHave_45 : decode cX7_canHave 45 = .ok (.iconst 1, 1) := by decide +kernel
theorem dX7_canHave_46 : decode cX7_canHave 46 = .ok (.istore 6, 2) := by decide +kernel
theorem dX7_canHave_48 : decode cX7_canHave 48 = .ok (.iload 6, 2) := by decide +kernel
theorem dX7_canHave_50 : decode cX7_canHave 50 = .ok (.iload_n 3, 1) := by decide +kernel
theorem dX7_canHave_51 : decode cX7_canHave 51 = .ok (.if_icmp .gt 37, 3) := by decide +kernel
theorem dX7_canHave_54 : decode cX7_canHave 54 = .ok (.aload_n 0, 1) := by decide +kernel
theorem dX7_canHave_55 : decode cX7_canHave 55 = .ok (.getfield 19, 3) := by decide +kernel
theorem dX7_canHave_58 : decode cX7_canHave 58 = .ok (.getfield 118, 3) := by decide +kernel
theorem dX7_canHave_61 : decode cX7_canHave 61 = .ok (.iload 5, 2) := by decide +kernel
theorem dX7_canHave_63 : decode cX7_canHave 63 = .ok (.iload 6, 2) := by decide +kernel
theorem dX7_canHave_65 : decode cX7_canHave 65 = .ok (.invokevirtual 262, 3) := by decide +kernel
theorem dX7_canHave_68 : decode cX7_canHave 68 = .ok (.iload_n 2, 1) := by decide +kernel
theorem dX7_canHave_69 : decode cX7_canHave 69 = .ok (.if_icmp .ne 13, 3) := by decide +kernel
theorem dX7_canHave_72 : decode cX7_canHave 72 = .ok (.iload 4, 2) := by decide +kernel
theorem dX7_canHave_74 : decode cX7_canHave 74 = .ok (.iload 5, 2) := by decide +kernel
theorem dX7_canHave_76 : decode cX7_canHave 76 = .ok (.invokestatic 231, 3) := by decide +kernel
theorem dX7_canHave_79 : decode cX7_canHave 79 = .ok (.ior, 1) := by decide +kernel
theorem dX7_canHave_80 : decode cX7_canHave 80 = .ok (.istore 4, 2) := by decide +kernel
theorem dX7_canHave_82 : decode cX7_canHave 82 = .ok (.iinc 6 1, 3) := by decide +kernel
theorem dX7_canHave_85 : decode cX7_canHave 85 = .ok (.goto (-37), 3) := by decide +kernel
theorem dX7_canHave_88 : decode cX7_canHave 88 = .ok (.iinc 5 1, 3) := by decide +kernel
theorem dX7_canHave_91 : decode cX7_canHave 91 = .ok (.goto (-61), 3) := by decide +kernel
theorem dX7_canHave_94 : decode cX7_canHave 94 = .ok (.iload 4, 2) := by decide +kernel
theorem dX7_canHave_96 : decode cX7_canHave 96 = .ok (.ireturn, 1) := by decide +kernel
theorem dX7_fewest_0 : decode cX7_fewest 0 = .ok (.iconst 0, 1) := by decide +kernel
theorem dX7_fewest_1 : decode cX7_fewest 1 = .ok (.istore_n 1, 1) := by decide +kernel
theorem dX7_fewest_2 : decode cX7_fewest 2 = .ok (.iload_n 1, 1) := by decide +kernel
theorem dX7_fewest_3 : decode cX7_fewest 3 = .ok (.aload_n 0, 1) := by decide +kernel
theorem dX7_fewest_4 : decode cX7_fewest 4 = .ok (.getfield 33, 3) := by decide +kernel
theorem dX7_fewest_7 : decode cX7_fewest 7 = .ok (.getfield 161, 3) := by decide +kernel
theorem dX7_fewest_10 : decode cX7_fewest 10 = .ok (.if_icmp .ge 22, 3) := by decide +kernel
theorem dX7_fewest_13 : decode cX7_fewest 13 = .ok (.aload_n 0, 1) := by decide +kernel
theorem dX7_fewest_14 : decode cX7_fewest 14 = .ok (.getfield 69, 3) := by decide +kernel
theorem dX7_fewest_17 : decode cX7_fewest 17 = .ok (.iload_n 1, 1) := by decide +kernel
theorem dX7_fewest_18 : decode cX7_fewest 18 = .ok (.aload_n 0, 1) := by decide +kernel
theorem dX7_fewest_19 : decode cX7_fewest 19 = .ok (.iload_n 1, 1) := by decide +kernel
theorem dX7_fewest_20 : decode cX7_fewest 20 = .ok (.invokevirtual 323, 3) := by decide +kernel
theorem dX7_fewest_23 : decode cX7_fewest 23 = .ok (.invokestatic 79, 3) := by decide +kernel
theorem dX7_fewest_26 : decode cX7_fewest 26 = .ok (.iinc 1 1, 3) := by decide +kernel
theorem dX7_fewest_29 : decode cX7_fewest 29 = .ok (.goto (-27), 3) := by decide +kernel
theorem dX7_fewest_32 : decode cX7_fewest 32 = .ok (.iconst (-1), 1) := by decide +kernel
theorem dX7_fewest_33 : decode cX7_fewest 33 = .ok (.istore_n 1, 1) := by decide +kernel
theorem dX7_fewest_34 : decode cX7_fewest 34 = .ok (.bipush 9, 2) := by decide +kernel
theorem dX7_fewest_36 : decode cX7_fewest 36 = .ok (.istore_n 2, 1) := by decide +kernel
theorem dX7_fewest_37 : decode cX7_fewest 37 = .ok (.iconst 0, 1) := by decide +kernel
theorem dX7_fewest_38 : decode cX7_fewest 38 = .ok (.istore_n 3, 1) := by decide +kernel
theorem dX7_fewest_39 : decode cX7_fewest 39 = .ok (.iload_n 3, 1) := by decide +kernel
theorem dX7_fewest_40 : decode cX7_fewest 40 = .ok (.aload_n 0, 1) := by decide +kernel
theorem dX7_fewest_41 : decode cX7_fewest 41 = .ok (.getfield 19, 3) := by decide +kernel
theorem dX7_fewest_44 : decode cX7_fewest 44 = .ok (.getfield 118, 3) := by decide +kernel
theorem dX7_fewest_47 : decode cX7_fewest 47 = .ok (.getfield 122, 3) := by decide +kernel
theorem dX7_fewest_50 : decode cX7_fewest 50 = .ok (.invokestatic 231, 3) := by decide +kernel
theorem dX7_fewest_53 : decode cX7_fewest 53 = .ok (.if_icmp .ge 32, 3) := by decide +kernel
theorem dX7_fewest_56 : decode cX7_fewest 56 = .ok (.iload_n 3, 1) := by decide +kernel
theorem dX7_fewest_57 : decode cX7_fewest 57 = .ok (.invokestatic 326, 3) := by decide +kernel
theorem dX7_fewest_60 : decode cX7_fewest 60 = .ok (.iload_n 2, 1) := by decide +kernel
theorem dX7_fewest_61 : decode cX7_fewest 61 = .ok (.if_icmp .ge 18, 3) := by decide +kernel
theorem dX7_fewest_64 : decode cX7_fewest 64 = .ok (.aload_n 0, 1) := by decide +kernel
theorem dX7_fewest_65 : decode cX7_fewest 65 = .ok (.iload_n 3, 1) := by decide +kernel
theorem dX7_fewest_66 : decode cX7_fewest 66 = .ok (.invokevirtual 331, 3) := by decide +kernel
theorem dX7_fewest_69 : decode cX7_fewest 69 = .ok (.ifCond .eq 10, 3) := by decide +kernel
theorem dX7_fewest_72 : decode cX7_fewest 72 = .ok (.iload_n 3, 1) := by decide +kernel
theorem dX7_fewest_73 : decode cX7_fewest 73 = .ok (.istore_n 1, 1) := by decide +kernel
theorem dX7_fewest_74 : decode cX7_fewest 74 = .ok (.iload_n 3, 1) := by decide +kernel
theorem dX7_fewest_75 : decode cX7_fewest 75 = .ok (.invokestatic 326, 3) := by decide +kernel
theorem dX7_fewest_78 : decode cX7_fewest 78 = .ok (.istore_n 2, 1) := by decide +kernel
theorem dX7_fewest_79 : decode cX7_fewest 79 = .ok (.iinc 3 1, 3) := by decide +kernel
theorem dX7_fewest_82 : decode cX7_fewest 82 = .ok (.goto (-43), 3) := by decide +kernel
theorem dX7_fewest_85 : decode cX7_fewest 85 = .ok (.iload_n 1, 1) := by decide +kernel
theorem dX7_fewest_86 : decode cX7_fewest 86 = .ok (.ireturn, 1) := by decide +kernel
theorem dX7_explains_0 : decode cX7_explains 0 = .ok (.iconst 0, 1) := by decide +kernel
theorem dX7_explains_1 : decode cX7_explains 1 = .ok (.istore_n 2, 1) := by decide +kernel
theorem dX7_explains_2 : decode cX7_explains 2 = .ok (.iload_n 2, 1) := by decide +kernel
theorem dX7_explains_3 : decode cX7_explains 3 = .ok (.aload_n 0, 1) := by decide +kernel
theorem dX7_explains_4 : decode cX7_explains 4 = .ok (.getfield 33, 3) := by decide +kernel
theorem dX7_explains_7 : decode cX7_explains 7 = .ok (.getfield 161, 3) := by decide +kernel
theorem dX7_explains_10 : decode cX7_explains 10 = .ok (.if_icmp .ge 24, 3) := by decide +kernel
theorem dX7_explains_13 : decode cX7_explains 13 = .ok (.aload_n 0, 1) := by decide +kernel
theorem dX7_explains_14 : decode cX7_explains 14 = .ok (.getfield 69, 3) := by decide +kernel
theorem dX7_explains_17 : decode cX7_explains 17 = .ok (.iload_n 2, 1) := by decide +kernel
theorem dX7_explains_18 : decode cX7_explains 18 = .ok (.invokestatic 167, 3) := by decide +kernel
theorem dX7_explains_21 : decode cX7_explains 21 = .ok (.iload_n 1, 1) := by decide +kernel
theorem dX7_explains_22 : decode cX7_explains 22 = .ok (.iand, 1) := by decide +kernel
theorem dX7_explains_23 : decode cX7_explains 23 = .ok (.ifCond .ne 5, 3) := by decide +kernel
theorem dX7_explains_26 : decode cX7_explains 26 = .ok (.iconst 0, 1) := by decide +kernel
theorem dX7_explains_27 : decode cX7_explains 27 = .ok (.ireturn, 1) := by decide +kernel
theorem dX7_explains_28 : decode cX7_explains 28 = .ok (.iinc 2 1, 3) := by decide +kernel
theorem dX7_explains_31 : decode cX7_explains 31 = .ok (.goto (-29), 3) := by decide +kernel
theorem dX7_explains_34 : decode cX7_explains 34 = .ok (.iconst 1, 1) := by decide +kernel
theorem dX7_explains_35 : decode cX7_explains 35 = .ok (.ireturn, 1) := by decide +kernel
theorem dX7_game_0 : decode cX7_game 0 = .ok (.iload_n 1, 1) := by decide +kernel
theorem dX7_game_1 : decode cX7_game 1 = .ok (.ifCond .lt 8, 3) := by decide +kernel
theorem dX7_game_4 : decode cX7_game 4 = .ok (.iload_n 1, 1) := by decide +kernel
theorem dX7_game_5 : decode cX7_game 5 = .ok (.iconst 3, 1) := by decide +kernel
theorem dX7_game_6 : decode cX7_game 6 = .ok (.if_icmp .le 11, 3) := by decide +kernel
theorem dX7_game_9 : decode cX7_game 9 = .ok (.new 171, 3) := by decide +kernel
theorem dX7_game_12 : decode cX7_game 12 = .ok (.dup, 1) := by decide +kernel
theorem dX7_game_13 : decode cX7_game 13 = .ok (.invokespecial 173, 3) := by decide +kernel
theorem dX7_game_16 : decode cX7_game 16 = .ok (.athrow, 1) := by decide +kernel
theorem dX7_game_17 : decode cX7_game 17 = .ok (.iload_n 1, 1) := by decide +kernel
theorem dX7_game_18 : decode cX7_game 18 = .ok (.iconst 2, 1) := by decide +kernel
theorem dX7_game_19 : decode cX7_game 19 = .ok (.if_icmp .ge 11, 3) := by decide +kernel
theorem dX7_game_22 : decode cX7_game 22 = .ok (.aload_n 0, 1) := by decide +kernel
theorem dX7_game_23 : decode cX7_game 23 = .ok (.iload_n 1, 1) := by decide +kernel
theorem dX7_game_24 : decode cX7_game 24 = .ok (.invokevirtual 334, 3) := by decide +kernel
theorem dX7_game_27 : decode cX7_game 27 = .ok (.goto 8, 3) := by decide +kernel
theorem dX7_game_30 : decode cX7_game 30 = .ok (.aload_n 0, 1) := by decide +kernel
theorem dX7_game_31 : decode cX7_game 31 = .ok (.iload_n 1, 1) := by decide +kernel
theorem dX7_game_32 : decode cX7_game 32 = .ok (.invokevirtual 337, 3) := by decide +kernel
theorem dX7_game_35 : decode cX7_game 35 = .ok (.ireturn, 1) := by decide +kernel
theorem dX7_resting_0 : decode cX7_resting 0 = .ok (.iconst 0, 1) := by decide +kernel
theorem dX7_resting_1 : decode cX7_resting 1 = .ok (.istore_n 2, 1) := by decide +kernel
theorem dX7_resting_2 : decode cX7_resting 2 = .ok (.iconst (-1), 1) := by decide +kernel
theorem dX7_resting_3 : decode cX7_resting 3 = .ok (.istore_n 3, 1) := by decide +kernel
theorem dX7_resting_4 : decode cX7_resting 4 = .ok (.iconst 0, 1) := by decide +kernel
theorem dX7_resting_5 : decode cX7_resting 5 = .ok (.istore 4, 2) := by decide +kernel
theorem dX7_resting_7 : decode cX7_resting 7 = .ok (.iload 4, 2) := by decide +kernel
theorem dX7_resting_9 : decode cX7_resting 9 = .ok (.aload_n 0, 1) := by decide +kernel
theorem dX7_resting_10 : decode cX7_resting 10 = .ok (.getfield 19, 3) := by decide +kernel
theorem dX7_resting_13 : decode cX7_resting 13 = .ok (.getfield 103, 3) := by decide +kernel
theorem dX7_resting_16 : decode cX7_resting 16 = .ok (.getfield 107, 3) := by decide +kernel
theorem dX7_resting_19 : decode cX7_resting 19 = .ok (.if_icmp .ge 65, 3) := by decide +kernel
theorem dX7_resting_22 : decode cX7_resting 22 = .ok (.iconst 0, 1) := by decide +kernel
theorem dX7_resting_23 : decode cX7_resting 23 = .ok (.istore 5, 2) := by decide +kernel
theorem dX7_resting_25 : decode cX7_resting 25 = .ok (.iload 5, 2) := by decide +kernel
theorem dX7_resting_27 : decode cX7_resting 27 = .ok (.aload_n 0, 1) := by decide +kernel
theorem dX7_resting_28 : decode cX7_resting 28 = .ok (.getfield 19, 3) := by decide +kernel
theorem dX7_resting_31 : decode cX7_resting 31 = .ok (.getfield 103, 3) := by decide +kernel
theorem dX7_resting_34 : decode cX7_resting 34 = .ok (.getfield 107, 3) := by decide +kernel
theorem dX7_resting_37 : decode cX7_resting 37 = .ok (.if_icmp .ge 41, 3) := by decide +kernel
theorem dX7_resting_40 : decode cX7_resting 40 = .ok (.aload_n 0, 1) := by decide +kernel
theorem dX7_resting_41 : decode cX7_resting 41 = .ok (.iload 4, 2) := by decide +kernel
theorem dX7_resting_43 : decode cX7_resting 43 = .ok (.iload 5, 2) := by decide +kernel
theorem dX7_resting_45 : decode cX7_resting 45 = .ok (.invokevirtual 340, 3) := by decide +kernel
theorem dX7_resting_48 : decode cX7_resting 48 = .ok (.ifCond .eq 24, 3) := by decide +kernel
theorem dX7_resting_51 : decode cX7_resting 51 = .ok (.iinc 2 1, 3) := by decide +kernel
theorem dX7_resting_54 : decode cX7_resting 54 = .ok (.iload_n 3, 1) := by decide +kernel
theorem dX7_resting_55 : decode cX7_resting 55 = .ok (.iconst (-1), 1) := by decide +kernel
theorem dX7_resting_56 : decode cX7_resting 56 = .ok (.if_icmp .ne 14, 3) := by decide +kernel
theorem dX7_resting_59 : decode cX7_resting 59 = .ok (.bipush 10, 2) := by decide +kernel
theorem dX7_resting_61 : decode cX7_resting 61 = .ok (.iload 4, 2) := by decide +kernel
theorem dX7_resting_63 : decode cX7_resting 63 = .ok (.imul, 1) := by decide +kernel
theorem dX7_resting_64 : decode cX7_resting 64 = .ok (.iload 5, 2) := by decide +kernel
theorem dX7_resting_66 : decode cX7_resting 66 = .ok (.iadd, 1) := by decide +kernel
theorem dX7_resting_67 : decode cX7_resting 67 = .ok (.goto 4, 3) := by decide +kernel
theorem dX7_resting_70 : decode cX7_resting 70 = .ok (.iload_n 3, 1) := by decide +kernel
theorem dX7_resting_71 : decode cX7_resting 71 = .ok (.istore_n 3, 1) := by decide +kernel
theorem dX7_resting_72 : decode cX7_resting 72 = .ok (.iinc 5 1, 3) := by decide +kernel
theorem dX7_resting_75 : decode cX7_resting 75 = .ok (.goto (-50), 3) := by decide +kernel
theorem dX7_resting_78 : decode cX7_resting 78 = .ok (.iinc 4 1, 3) := by decide +kernel
theorem dX7_resting_81 : decode cX7_resting 81 = .ok (.goto (-74), 3) := by decide +kernel
theorem dX7_resting_84 : decode cX7_resting 84 = .ok (.iload_n 1, 1) := by decide +kernel
theorem dX7_resting_85 : decode cX7_resting 85 = .ok (.ifCond .ne 7, 3) := by decide +kernel
theorem dX7_resting_88 : decode cX7_resting 88 = .ok (.iload_n 2, 1) := by decide +kernel
theorem dX7_resting_89 : decode cX7_resting 89 = .ok (.goto 4, 3) := by decide +kernel
theorem dX7_resting_92 : decode cX7_resting 92 = .ok (.iload_n 3, 1) := by decide +kernel
theorem dX7_resting_93 : decode cX7_resting 93 = .ok (.ireturn, 1) := by decide +kernel
theorem dX7_rests_0 : decode cX7_rests 0 = .ok (.aload_n 0, 1) := by decide +kernel
theorem dX7_rests_1 : decode cX7_rests 1 = .ok (.iload_n 1, 1) := by decide +kernel
theorem dX7_rests_2 : decode cX7_rests 2 = .ok (.iload_n 2, 1) := by decide +kernel
theorem dX7_rests_3 : decode cX7_rests 3 = .ok (.invokevirtual 343, 3) := by decide +kernel
theorem dX7_rests_6 : decode cX7_rests 6 = .ok (.istore_n 3, 1) := by decide +kernel
theorem dX7_rests_7 : decode cX7_rests 7 = .ok (.iconst 0, 1) := by decide +kernel
theorem dX7_rests_8 : decode cX7_rests 8 = .ok (.istore 4, 2) := by decide +kernel
theorem dX7_rests_10 : decode cX7_rests 10 = .ok (.iload 4, 2) := by decide +kernel
theorem dX7_rests_12 : decode cX7_rests 12 = .ok (.aload_n 0, 1) := by decide +kernel
theorem dX7_rests_13 : decode cX7_rests 13 = .ok (.getfield 19, 3) := by decide +kernel
theorem dX7_rests_16 : decode cX7_rests 16 = .ok (.getfield 103, 3) := by decide +kernel
theorem dX7_rests_19 : decode cX7_rests 19 = .ok (.getfield 107, 3) := by decide +kernel
theorem dX7_rests_22 : decode cX7_rests 22 = .ok (.if_icmp .ge 33, 3) := by decide +kernel
theorem dX7_rests_25 : decode cX7_rests 25 = .ok (.aload_n 0, 1) := by decide +kernel
theorem dX7_rests_26 : decode cX7_rests 26 = .ok (.iload 4, 2) := by decide +kernel
theorem dX7_rests_28 : decode cX7_rests 28 = .ok (.iload_n 2, 1) := by decide +kernel
theorem dX7_rests_29 : decode cX7_rests 29 = .ok (.invokevirtual 343, 3) := by decide +kernel
theorem dX7_rests_32 : decode cX7_rests 32 = .ok (.iload_n 3, 1) := by decide +kernel
theorem dX7_rests_33 : decode cX7_rests 33 = .ok (.if_icmp .gt 14, 3) := by decide +kernel
theorem dX7_rests_36 : decode cX7_rests 36 = .ok (.aload_n 0, 1) := by decide +kernel
theorem dX7_rests_37 : decode cX7_rests 37 = .ok (.iload_n 1, 1) := by decide +kernel
theorem dX7_rests_38 : decode cX7_rests 38 = .ok (.iload 4, 2) := by decide +kernel
theorem dX7_rests_40 : decode cX7_rests 40 = .ok (.invokevirtual 343, 3) := by decide +kernel
theorem dX7_rests_43 : decode cX7_rests 43 = .ok (.iload_n 3, 1) := by decide +kernel
theorem dX7_rests_44 : decode cX7_rests 44 = .ok (.if_icmp .ge 5, 3) := by decide +kernel
theorem dX7_rests_47 : decode cX7_rests 47 = .ok (.iconst 0, 1) := by decide +kernel
theorem dX7_rests_48 : decode cX7_rests 48 = .ok (.ireturn, 1) := by decide +kernel
theorem dX7_rests_49 : decode cX7_rests 49 = .ok (.iinc 4 1, 3) := by decide +kernel
theorem dX7_rests_52 : decode cX7_rests 52 = .ok (.goto (-42), 3) := by decide +kernel
theorem dX7_rests_55 : decode cX7_rests 55 = .ok (.iconst 1, 1) := by decide +kernel
theorem dX7_rests_56 : decode cX7_rests 56 = .ok (.ireturn, 1) := by decide +kernel
theorem dX7_gain_0 : decode cX7_gain 0 = .ok (.iload_n 1, 1) := by decide +kernel
theorem dX7_gain_1 : decode cX7_gain 1 = .ok (.iload_n 2, 1) := by decide +kernel
theorem dX7_gain_2 : decode cX7_gain 2 = .ok (.if_icmp .eq 21, 3) := by decide +kernel
theorem dX7_gain_5 : decode cX7_gain 5 = .ok (.aload_n 0, 1) := by decide +kernel
theorem dX7_gain_6 : decode cX7_gain 6 = .ok (.getfield 33, 3) := by decide +kernel
theorem dX7_gain_9 : decode cX7_gain 9 = .ok (.getfield 186, 3) := by decide +kernel
theorem dX7_gain_12 : decode cX7_gain 12 = .ok (.iload_n 2, 1) := by decide +kernel
theorem dX7_gain_13 : decode cX7_gain 13 = .ok (.invokestatic 167, 3) := by decide +kernel
theorem dX7_gain_16 : decode cX7_gain 16 = .ok (.iload_n 1, 1) := by decide +kernel
theorem dX7_gain_17 : decode cX7_gain 17 = .ok (.invokestatic 234, 3) := by decide +kernel
theorem dX7_gain_20 : decode cX7_gain 20 = .ok (.ifCond .eq 7, 3) := by decide +kernel
theorem dX7_gain_23 : decode cX7_gain 23 = .ok (.iconst 1, 1) := by decide +kernel
theorem dX7_gain_24 : decode cX7_gain 24 = .ok (.goto 4, 3) := by decide +kernel
theorem dX7_gain_27 : decode cX7_gain 27 = .ok (.iconst 0, 1) := by decide +kernel
theorem dX7_gain_28 : decode cX7_gain 28 = .ok (.istore_n 3, 1) := by decide +kernel
theorem dX7_gain_29 : decode cX7_gain 29 = .ok (.iload_n 3, 1) := by decide +kernel
theorem dX7_gain_30 : decode cX7_gain 30 = .ok (.ifCond .eq 17, 3) := by decide +kernel
theorem dX7_gain_33 : decode cX7_gain 33 = .ok (.aload_n 0, 1) := by decide +kernel
theorem dX7_gain_34 : decode cX7_gain 34 = .ok (.getfield 19, 3) := by decide +kernel
theorem dX7_gain_37 : decode cX7_gain 37 = .ok (.getfield 137, 3) := by decide +kernel
theorem dX7_gain_40 : decode cX7_gain 40 = .ok (.bipush 10, 2) := by decide +kernel
theorem dX7_gain_42 : decode cX7_gain 42 = .ok (.idiv, 1) := by decide +kernel
theorem dX7_gain_43 : decode cX7_gain 43 = .ok (.ineg, 1) := by decide +kernel
theorem dX7_gain_44 : decode cX7_gain 44 = .ok (.goto 17, 3) := by decide +kernel
theorem dX7_gain_47 : decode cX7_gain 47 = .ok (.aload_n 0, 1) := by decide +kernel
theorem dX7_gain_48 : decode cX7_gain 48 = .ok (.getfield 19, 3) := by decide +kernel
theorem dX7_gain_51 : decode cX7_gain 51 = .ok (.getfield 103, 3) := by decide +kernel
theorem dX7_gain_54 : decode cX7_gain 54 = .ok (.getfield 177, 3) := by decide +kernel
theorem dX7_gain_57 : decode cX7_gain 57 = .ok (.iload_n 1, 1) := by decide +kernel
theorem dX7_gain_58 : decode cX7_gain 58 = .ok (.invokestatic 167, 3) := by decide +kernel
theorem dX7_gain_61 : decode cX7_gain 61 = .ok (.ireturn, 1) := by decide +kernel
theorem dX7_safest_0 : decode cX7_safest 0 = .ok (.aload_n 0, 1) := by decide +kernel
theorem dX7_safest_1 : decode cX7_safest 1 = .ok (.getfield 19, 3) := by decide +kernel
theorem dX7_safest_4 : decode cX7_safest 4 = .ok (.getfield 103, 3) := by decide +kernel
theorem dX7_safest_7 : decode cX7_safest 7 = .ok (.getfield 107, 3) := by decide +kernel
theorem dX7_safest_10 : decode cX7_safest 10 = .ok (.ifCond .ne 5, 3) := by decide +kernel
theorem dX7_safest_13 : decode cX7_safest 13 = .ok (.iconst (-1), 1) := by decide +kernel
theorem dX7_safest_14 : decode cX7_safest 14 = .ok (.ireturn, 1) := by decide +kernel
theorem dX7_safest_15 : decode cX7_safest 15 = .ok (.iconst 0, 1) := by decide +kernel
theorem dX7_safest_16 : decode cX7_safest 16 = .ok (.istore_n 2, 1) := by decide +kernel
theorem dX7_safest_17 : decode cX7_safest 17 = .ok (.aload_n 0, 1) := by decide +kernel
theorem dX7_safest_18 : decode cX7_safest 18 = .ok (.iconst 0, 1) := by decide +kernel
theorem dX7_safest_19 : decode cX7_safest 19 = .ok (.invokevirtual 346, 3) := by decide +kernel
theorem dX7_safest_22 : decode cX7_safest 22 = .ok (.istore_n 3, 1) := by decide +kernel
theorem dX7_safest_23 : decode cX7_safest 23 = .ok (.iconst 1, 1) := by decide +kernel
theorem dX7_safest_24 : decode cX7_safest 24 = .ok (.istore 4, 2) := by decide +kernel
theorem dX7_safest_26 : decode cX7_safest 26 = .ok (.iload 4, 2) := by decide +kernel
theorem dX7_safest_28 : decode cX7_safest 28 = .ok (.aload_n 0, 1) := by decide +kernel
theorem dX7_safest_29 : decode cX7_safest 29 = .ok (.getfield 19, 3) := by decide +kernel
theorem dX7_safest_32 : decode cX7_safest 32 = .ok (.getfield 103, 3) := by decide +kernel
theorem dX7_safest_35 : decode cX7_safest 35 = .ok (.getfield 107, 3) := by decide +kernel
theorem dX7_safest_38 : decode cX7_safest 38 = .ok (.if_icmp .ge 29, 3) := by decide +kernel
theorem dX7_safest_41 : decode cX7_safest 41 = .ok (.aload_n 0, 1) := by decide +kernel
theorem dX7_safest_42 : decode cX7_safest 42 = .ok (.iload 4, 2) := by decide +kernel
theorem dX7_safest_44 : decode cX7_safest 44 = .ok (.invokevirtual 346, 3) := by decide +kernel
theorem dX7_safest_47 : decode cX7_safest 47 = .ok (.istore 5, 2) := by decide +kernel
theorem dX7_safest_49 : decode cX7_safest 49 = .ok (.iload 5, 2) := by decide +kernel
theorem dX7_safest_51 : decode cX7_safest 51 = .ok (.iload_n 3, 1) := by decide +kernel
theorem dX7_safest_52 : decode cX7_safest 52 = .ok (.if_icmp .ge 9, 3) := by decide +kernel
theorem dX7_safest_55 : decode cX7_safest 55 = .ok (.iload 4, 2) := by decide +kernel
theorem dX7_safest_57 : decode cX7_safest 57 = .ok (.istore_n 2, 1) := by decide +kernel
theorem dX7_safest_58 : decode cX7_safest 58 = .ok (.iload 5, 2) := by decide +kernel
theorem dX7_safest_60 : decode cX7_safest 60 = .ok (.istore_n 3, 1) := by decide +kernel
theorem dX7_safest_61 : decode cX7_safest 61 = .ok (.iinc 4 1, 3) := by decide +kernel
theorem dX7_safest_64 : decode cX7_safest 64 = .ok (.goto (-38), 3) := by decide +kernel
theorem dX7_safest_67 : decode cX7_safest 67 = .ok (.iload_n 1, 1) := by decide +kernel
theorem dX7_safest_68 : decode cX7_safest 68 = .ok (.iconst 2, 1) := by decide +kernel
theorem dX7_safest_69 : decode cX7_safest 69 = .ok (.if_icmp .ne 7, 3) := by decide +kernel
theorem dX7_safest_72 : decode cX7_safest 72 = .ok (.iload_n 2, 1) := by decide +kernel
theorem dX7_safest_73 : decode cX7_safest 73 = .ok (.goto 4, 3) := by decide +kernel
theorem dX7_safest_76 : decode cX7_safest 76 = .ok (.iload_n 3, 1) := by decide +kernel
theorem dX7_safest_77 : decode cX7_safest 77 = .ok (.ireturn, 1) := by decide +kernel
theorem dX7_mostGain_0 : decode cX7_mostGain 0 = .ok (.aload_n 0, 1) := by decide +kernel
theorem dX7_mostGain_1 : decode cX7_mostGain 1 = .ok (.iconst 0, 1) := by decide +kernel
theorem dX7_mostGain_2 : decode cX7_mostGain 2 = .ok (.iload_n 1, 1) := by decide +kernel
theorem dX7_mostGain_3 : decode cX7_mostGain 3 = .ok (.invokevirtual 343, 3) := by decide +kernel
theorem dX7_mostGain_6 : decode cX7_mostGain 6 = .ok (.istore_n 2, 1) := by decide +kernel
theorem dX7_mostGain_7 : decode cX7_mostGain 7 = .ok (.iconst 1, 1) := by decide +kernel
theorem dX7_mostGain_8 : decode cX7_mostGain 8 = .ok (.istore_n 3, 1) := by decide +kernel
theorem dX7_mostGain_9 : decode cX7_mostGain 9 = .ok (.iload_n 3, 1) := by decide +kernel
theorem dX7_mostGain_10 : decode cX7_mostGain 10 = .ok (.aload_n 0, 1) := by decide +kernel
theorem dX7_mostGain_11 : decode cX7_mostGain 11 = .ok (.getfield 19, 3) := by decide +kernel
theorem dX7_mostGain_14 : decode cX7_mostGain 14 = .ok (.getfield 103, 3) := by decide +kernel
theorem dX7_mostGain_17 : decode cX7_mostGain 17 = .ok (.getfield 107, 3) := by decide +kernel
theorem dX7_mostGain_20 : decode cX7_mostGain 20 = .ok (.if_icmp .ge 20, 3) := by decide +kernel
theorem dX7_mostGain_23 : decode cX7_mostGain 23 = .ok (.iload_n 2, 1) := by decide +kernel
theorem dX7_mostGain_24 : decode cX7_mostGain 24 = .ok (.aload_n 0, 1) := by decide +kernel
theorem dX7_mostGain_25 : decode cX7_mostGain 25 = .ok (.iload_n 3, 1) := by decide +kernel
theorem dX7_mostGain_26 : decode cX7_mostGain 26 = .ok (.iload_n 1, 1) := by decide +kernel
theorem dX7_mostGain_27 : decode cX7_mostGain 27 = .ok (.invokevirtual 343, 3) := by decide +kernel
theorem dX7_mostGain_30 : decode cX7_mostGain 30 = .ok (.invokestatic 349, 3) := by decide +kernel
theorem dX7_mostGain_33 : decode cX7_mostGain 33 = .ok (.istore_n 2, 1) := by decide +kernel
theorem dX7_mostGain_34 : decode cX7_mostGain 34 = .ok (.iinc 3 1, 3) := by decide +kernel
theorem dX7_mostGain_37 : decode cX7_mostGain 37 = .ok (.goto (-28), 3) := by decide +kernel
theorem dX7_mostGain_40 : decode cX7_mostGain 40 = .ok (.iload_n 2, 1) := by decide +kernel
theorem dX7_mostGain_41 : decode cX7_mostGain 41 = .ok (.ireturn, 1) := by decide +kernel
theorem dX7_weeks_0 : decode cX7_weeks 0 = .ok (.iload_n 3, 1) := by decide +kernel
theorem dX7_weeks_1 : decode cX7_weeks 1 = .ok (.ifCond .lt 8, 3) := by decide +kernel
theorem dX7_weeks_4 : decode cX7_weeks 4 = .ok (.iload_n 3, 1) := by decide +kernel
theorem dX7_weeks_5 : decode cX7_weeks 5 = .ok (.iconst 2, 1) := by decide +kernel
theorem dX7_weeks_6 : decode cX7_weeks 6 = .ok (.if_icmp .le 11, 3) := by decide +kernel
theorem dX7_weeks_9 : decode cX7_weeks 9 = .ok (.new 171, 3) := by decide +kernel
theorem dX7_weeks_12 : decode cX7_weeks 12 = .ok (.dup, 1) := by decide +kernel
theorem dX7_weeks_13 : decode cX7_weeks 13 = .ok (.invokespecial 173, 3) := by decide +kernel
theorem dX7_weeks_16 : decode cX7_weeks 16 = .ok (.athrow, 1) := by decide +kernel
theorem dX7_weeks_17 : decode cX7_weeks 17 = .ok (.iload_n 2, 1) := by decide +kernel
theorem dX7_weeks_18 : decode cX7_weeks 18 = .ok (.ifCond .lt 9, 3) := by decide +kernel
theorem dX7_weeks_21 : decode cX7_weeks 21 = .ok (.iload_n 2, 1) := by decide +kernel
theorem dX7_weeks_22 : decode cX7_weeks 22 = .ok (.bipush 30, 2) := by decide +kernel
theorem dX7_weeks_24 : decode cX7_weeks 24 = .ok (.if_icmp .le 11, 3) := by decide +kernel
theorem dX7_weeks_27 : decode cX7_weeks 27 = .ok (.new 83, 3) := by decide +kernel
theorem dX7_weeks_30 : decode cX7_weeks 30 = .ok (.dup, 1) := by decide +kernel
theorem dX7_weeks_31 : decode cX7_weeks 31 = .ok (.invokespecial 85, 3) := by decide +kernel
theorem dX7_weeks_34 : decode cX7_weeks 34 = .ok (.athrow, 1) := by decide +kernel
theorem dX7_weeks_35 : decode cX7_weeks 35 = .ok (.aload_n 0, 1) := by decide +kernel
theorem dX7_weeks_36 : decode cX7_weeks 36 = .ok (.getfield 53, 3) := by decide +kernel
theorem dX7_weeks_39 : decode cX7_weeks 39 = .ok (.aload_n 0, 1) := by decide +kernel
theorem dX7_weeks_40 : decode cX7_weeks 40 = .ok (.getfield 19, 3) := by decide +kernel
theorem dX7_weeks_43 : decode cX7_weeks 43 = .ok (.aload_n 0, 1) := by decide +kernel
theorem dX7_weeks_44 : decode cX7_weeks 44 = .ok (.getfield 33, 3) := by decide +kernel
theorem dX7_weeks_47 : decode cX7_weeks 47 = .ok (.invokevirtual 237, 3) := by decide +kernel
theorem dX7_weeks_50 : decode cX7_weeks 50 = .ok (.iload_n 1, 1) := by decide +kernel
theorem dX7_weeks_51 : decode cX7_weeks 51 = .ok (.istore 4, 2) := by decide +kernel
theorem dX7_weeks_53 : decode cX7_weeks 53 = .ok (.iconst 0, 1) := by decide +kernel
theorem dX7_weeks_54 : decode cX7_weeks 54 = .ok (.istore 5, 2) := by decide +kernel
theorem dX7_weeks_56 : decode cX7_weeks 56 = .ok (.iconst 0, 1) := by decide +kernel
theorem dX7_weeks_57 : decode cX7_weeks 57 = .ok (.istore 6, 2) := by decide +kernel
theorem dX7_weeks_59 : decode cX7_weeks 59 = .ok (.iconst 0, 1) := by decide +kernel
theorem dX7_weeks_60 : decode cX7_weeks 60 = .ok (.istore 7, 2) := by decide +kernel
theorem dX7_weeks_62 : decode cX7_weeks 62 = .ok (.iconst 0, 1) := by decide +kernel
theorem dX7_weeks_63 : decode cX7_weeks 63 = .ok (.istore 8, 2) := by decide +kernel
theorem dX7_weeks_65 : decode cX7_weeks 65 = .ok (.iload 8, 2) := by decide +kernel
theorem dX7_weeks_67 : decode cX7_weeks 67 = .ok (.iload_n 2, 1) := by decide +kernel
theorem dX7_weeks_68 : decode cX7_weeks 68 = .ok (.if_icmp .ge 125, 3) := by decide +kernel
theorem dX7_weeks_71 : decode cX7_weeks 71 = .ok (.aload_n 0, 1) := by decide +kernel
theorem dX7_weeks_72 : decode cX7_weeks 72 = .ok (.getfield 53, 3) := by decide +kernel
theorem dX7_weeks_75 : decode cX7_weeks 75 = .ok (.iconst 0, 1) := by decide +kernel
theorem dX7_weeks_76 : decode cX7_weeks 76 = .ok (.putfield 292, 3) := by decide +kernel
theorem dX7_weeks_79 : decode cX7_weeks 79 = .ok (.iconst 0, 1) := by decide +kernel
theorem dX7_weeks_80 : decode cX7_weeks 80 = .ok (.istore 9, 2) := by decide +kernel
theorem dX7_weeks_82 : decode cX7_weeks 82 = .ok (.iload 9, 2) := by decide +kernel
theorem dX7_weeks_84 : decode cX7_weeks 84 = .ok (.aload_n 0, 1) := by decide +kernel
theorem dX7_weeks_85 : decode cX7_weeks 85 = .ok (.getfield 19, 3) := by decide +kernel
theorem dX7_weeks_88 : decode cX7_weeks 88 = .ok (.getfield 118, 3) := by decide +kernel
theorem dX7_weeks_91 : decode cX7_weeks 91 = .ok (.getfield 122, 3) := by decide +kernel
theorem dX7_weeks_94 : decode cX7_weeks 94 = .ok (.if_icmp .ge 52, 3) := by decide +kernel
theorem dX7_weeks_97 : decode cX7_weeks 97 = .ok (.iload 4, 2) := by decide +kernel
theorem dX7_weeks_99 : decode cX7_weeks 99 = .ok (.ldc_w 354, 3) := by decide +kernel
theorem dX7_weeks_102 : decode cX7_weeks 102 = .ok (.imul, 1) := by decide +kernel
theorem dX7_weeks_103 : decode cX7_weeks 103 = .ok (.sipush 12345, 3) := by decide +kernel
theorem dX7_weeks_106 : decode cX7_weeks 106 = .ok (.iadd, 1) := by decide +kernel
theorem dX7_weeks_107 : decode cX7_weeks 107 = .ok (.istore 4, 2) := by decide +kernel
theorem dX7_weeks_109 : decode cX7_weeks 109 = .ok (.iload 4, 2) := by decide +kernel
theorem dX7_weeks_111 : decode cX7_weeks 111 = .ok (.bipush 16, 2) := by decide +kernel
theorem dX7_weeks_113 : decode cX7_weeks 113 = .ok (.iushr, 1) := by decide +kernel
theorem dX7_weeks_114 : decode cX7_weeks 114 = .ok (.sipush 32767, 3) := by decide +kernel
theorem dX7_weeks_117 : decode cX7_weeks 117 = .ok (.iand, 1) := by decide +kernel
theorem dX7_weeks_118 : decode cX7_weeks 118 = .ok (.iconst 2, 1) := by decide +kernel
theorem dX7_weeks_119 : decode cX7_weeks 119 = .ok (.irem, 1) := by decide +kernel
theorem dX7_weeks_120 : decode cX7_weeks 120 = .ok (.ifCond .ne 20, 3) := by decide +kernel
theorem dX7_weeks_123 : decode cX7_weeks 123 = .ok (.aload_n 0, 1) := by decide +kernel
theorem dX7_weeks_124 : decode cX7_weeks 124 = .ok (.getfield 53, 3) := by decide +kernel
theorem dX7_weeks_127 : decode cX7_weeks 127 = .ok (.dup, 1) := by decide +kernel
theorem dX7_weeks_128 : decode cX7_weeks 128 = .ok (.getfield 292, 3) := by decide +kernel
theorem dX7_weeks_131 : decode cX7_weeks 131 = .ok (.iload 9, 2) := by decide +kernel
theorem dX7_weeks_133 : decode cX7_weeks 133 = .ok (.invokestatic 231, 3) := by decide +kernel
theorem dX7_weeks_136 : decode cX7_weeks 136 = .ok (.ior, 1) := by decide +kernel
theorem dX7_weeks_137 : decode cX7_weeks 137 = .ok (.putfield 292, 3) := by decide +kernel
theorem dX7_weeks_140 : decode cX7_weeks 140 = .ok (.iinc 9 1, 3) := by decide +kernel
theorem dX7_weeks_143 : decode cX7_weeks 143 = .ok (.goto (-61), 3) := by decide +kernel
theorem dX7_weeks_146 : decode cX7_weeks 146 = .ok (.aload_n 0, 1) := by decide +kernel
theorem dX7_weeks_147 : decode cX7_weeks 147 = .ok (.getfield 53, 3) := by decide +kernel
theorem dX7_weeks_150 : decode cX7_weeks 150 = .ok (.invokevirtual 241, 3) := by decide +kernel
theorem dX7_weeks_153 : decode cX7_weeks 153 = .ok (.istore 9, 2) := by decide +kernel
theorem dX7_weeks_155 : decode cX7_weeks 155 = .ok (.iload 5, 2) := by decide +kernel
theorem dX7_weeks_157 : decode cX7_weeks 157 = .ok (.iload 9, 2) := by decide +kernel
theorem dX7_weeks_159 : decode cX7_weeks 159 = .ok (.iadd, 1) := by decide +kernel
theorem dX7_weeks_160 : decode cX7_weeks 160 = .ok (.istore 5, 2) := by decide +kernel
theorem dX7_weeks_162 : decode cX7_weeks 162 = .ok (.iload 6, 2) := by decide +kernel
theorem dX7_weeks_164 : decode cX7_weeks 164 = .ok (.iload 9, 2) := by decide +kernel
theorem dX7_weeks_166 : decode cX7_weeks 166 = .ok (.invokestatic 349, 3) := by decide +kernel
theorem dX7_weeks_169 : decode cX7_weeks 169 = .ok (.istore 6, 2) := by decide +kernel
theorem dX7_weeks_171 : decode cX7_weeks 171 = .ok (.iload 7, 2) := by decide +kernel
theorem dX7_weeks_173 : decode cX7_weeks 173 = .ok (.aload_n 0, 1) := by decide +kernel
theorem dX7_weeks_174 : decode cX7_weeks 174 = .ok (.getfield 53, 3) := by decide +kernel
theorem dX7_weeks_177 : decode cX7_weeks 177 = .ok (.getfield 256, 3) := by decide +kernel
theorem dX7_weeks_180 : decode cX7_weeks 180 = .ok (.iconst 1, 1) := by decide +kernel
theorem dX7_weeks_181 : decode cX7_weeks 181 = .ok (.invokestatic 167, 3) := by decide +kernel
theorem dX7_weeks_184 : decode cX7_weeks 184 = .ok (.iadd, 1) := by decide +kernel
theorem dX7_weeks_185 : decode cX7_weeks 185 = .ok (.istore 7, 2) := by decide +kernel
theorem dX7_weeks_187 : decode cX7_weeks 187 = .ok (.iinc 8 1, 3) := by decide +kernel
theorem dX7_weeks_190 : decode cX7_weeks 190 = .ok (.goto (-125), 3) := by decide +kernel
theorem dX7_weeks_193 : decode cX7_weeks 193 = .ok (.iload_n 3, 1) := by decide +kernel
theorem dX7_weeks_194 : decode cX7_weeks 194 = .ok (.ifCond .ne 8, 3) := by decide +kernel
theorem dX7_weeks_197 : decode cX7_weeks 197 = .ok (.iload 5, 2) := by decide +kernel
theorem dX7_weeks_199 : decode cX7_weeks 199 = .ok (.goto 15, 3) := by decide +kernel
theorem dX7_weeks_202 : decode cX7_weeks 202 = .ok (.iload_n 3, 1) := by decide +kernel
theorem dX7_weeks_203 : decode cX7_weeks 203 = .ok (.iconst 1, 1) := by decide +kernel
theorem dX7_weeks_204 : decode cX7_weeks 204 = .ok (.if_icmp .ne 8, 3) := by decide +kernel
theorem dX7_weeks_207 : decode cX7_weeks 207 = .ok (.iload 6, 2) := by decide +kernel
theorem dX7_weeks_209 : decode cX7_weeks 209 = .ok (.goto 5, 3) := by decide +kernel
theorem dX7_weeks_212 : decode cX7_weeks 212 = .ok (.iload 7, 2) := by decide +kernel
theorem dX7_weeks_214 : decode cX7_weeks 214 = .ok (.ireturn, 1) := by decide +kernel
theorem dX7_image_0 : decode cX7_image 0 = .ok (.aload_n 0, 1) := by decide +kernel
theorem dX7_image_1 : decode cX7_image 1 = .ok (.getfield 37, 3) := by decide +kernel
theorem dX7_image_4 : decode cX7_image 4 = .ok (.aload_n 0, 1) := by decide +kernel
theorem dX7_image_5 : decode cX7_image 5 = .ok (.getfield 33, 3) := by decide +kernel
theorem dX7_image_8 : decode cX7_image 8 = .ok (.invokevirtual 355, 3) := by decide +kernel
theorem dX7_image_11 : decode cX7_image 11 = .ok (.aload_n 0, 1) := by decide +kernel
theorem dX7_image_12 : decode cX7_image 12 = .ok (.iconst 1, 1) := by decide +kernel
theorem dX7_image_13 : decode cX7_image 13 = .ok (.putfield 40, 3) := by decide +kernel
theorem dX7_image_16 : decode cX7_image 16 = .ok (.return_, 1) := by decide +kernel
theorem dX7_restore_0 : decode cX7_restore 0 = .ok (.aload_n 0, 1) := by decide +kernel
theorem dX7_restore_1 : decode cX7_restore 1 = .ok (.getfield 40, 3) := by decide +kernel
theorem dX7_restore_4 : decode cX7_restore 4 = .ok (.ifCond .ne 5, 3) := by decide +kernel
theorem dX7_restore_7 : decode cX7_restore 7 = .ok (.iconst 0, 1) := by decide +kernel
theorem dX7_restore_8 : decode cX7_restore 8 = .ok (.ireturn, 1) := by decide +kernel
theorem dX7_restore_9 : decode cX7_restore 9 = .ok (.aload_n 0, 1) := by decide +kernel
theorem dX7_restore_10 : decode cX7_restore 10 = .ok (.getfield 33, 3) := by decide +kernel
theorem dX7_restore_13 : decode cX7_restore 13 = .ok (.aload_n 0, 1) := by decide +kernel
theorem dX7_restore_14 : decode cX7_restore 14 = .ok (.getfield 37, 3) := by decide +kernel
theorem dX7_restore_17 : decode cX7_restore 17 = .ok (.invokevirtual 355, 3) := by decide +kernel
theorem dX7_restore_20 : decode cX7_restore 20 = .ok (.aload_n 0, 1) := by decide +kernel
theorem dX7_restore_21 : decode cX7_restore 21 = .ok (.iconst 0, 1) := by decide +kernel
theorem dX7_restore_22 : decode cX7_restore 22 = .ok (.putfield 56, 3) := by decide +kernel
theorem dX7_restore_25 : decode cX7_restore 25 = .ok (.iconst 1, 1) := by decide +kernel
theorem dX7_restore_26 : decode cX7_restore 26 = .ok (.ireturn, 1) := by decide +kernel
theorem dX7_beginAct_0 : decode cX7_beginAct 0 = .ok (.aload_n 0, 1) := by decide +kernel
theorem dX7_beginAct_1 : decode cX7_beginAct 1 = .ok (.getfield 33, 3) := by decide +kernel
theorem dX7_beginAct_4 : decode cX7_beginAct 4 = .ok (.invokevirtual 359, 3) := by decide +kernel
theorem dX7_beginAct_7 : decode cX7_beginAct 7 = .ok (.aload_n 0, 1) := by decide +kernel
theorem dX7_beginAct_8 : decode cX7_beginAct 8 = .ok (.iconst 0, 1) := by decide +kernel
theorem dX7_beginAct_9 : decode cX7_beginAct 9 = .ok (.putfield 56, 3) := by decide +kernel
theorem dX7_beginAct_12 : decode cX7_beginAct 12 = .ok (.return_, 1) := by decide +kernel
theorem dX7_knowToday_0 : decode cX7_knowToday 0 = .ok (.aload_n 0, 1) := by decide +kernel
theorem dX7_knowToday_1 : decode cX7_knowToday 1 = .ok (.getfield 56, 3) := by decide +kernel
theorem dX7_knowToday_4 : decode cX7_knowToday 4 = .ok (.ifCond .ne 31, 3) := by decide +kernel
theorem dX7_knowToday_7 : decode cX7_knowToday 7 = .ok (.aload_n 0, 1) := by decide +kernel
theorem dX7_knowToday_8 : decode cX7_knowToday 8 = .ok (.getfield 49, 3) := by decide +kernel
theorem dX7_knowToday_11 : decode cX7_knowToday 11 = .ok (.aload_n 0, 1) := by decide +kernel
theorem dX7_knowToday_12 : decode cX7_knowToday 12 = .ok (.getfield 19, 3) := by decide +kernel
theorem dX7_knowToday_15 : decode cX7_knowToday 15 = .ok (.aload_n 0, 1) := by decide +kernel
theorem dX7_knowToday_16 : decode cX7_knowToday 16 = .ok (.getfield 33, 3) := by decide +kernel
theorem dX7_knowToday_19 : decode cX7_knowToday 19 = .ok (.invokevirtual 237, 3) := by decide +kernel
theorem dX7_knowToday_22 : decode cX7_knowToday 22 = .ok (.aload_n 0, 1) := by decide +kernel
theorem dX7_knowToday_23 : decode cX7_knowToday 23 = .ok (.getfield 49, 3) := by decide +kernel
theorem dX7_knowToday_26 : decode cX7_knowToday 26 = .ok (.invokevirtual 241, 3) := by decide +kernel
theorem dX7_knowToday_29 : decode cX7_knowToday 29 = .ok (.pop, 1) := by decide +kernel
theorem dX7_knowToday_30 : decode cX7_knowToday 30 = .ok (.aload_n 0, 1) := by decide +kernel
theorem dX7_knowToday_31 : decode cX7_knowToday 31 = .ok (.iconst 1, 1) := by decide +kernel
theorem dX7_knowToday_32 : decode cX7_knowToday 32 = .ok (.putfield 56, 3) := by decide +kernel
theorem dX7_knowToday_35 : decode cX7_knowToday 35 = .ok (.return_, 1) := by decide +kernel
theorem dX7_needAisle_0 : decode cX7_needAisle 0 = .ok (.aload_n 0, 1) := by decide +kernel
theorem dX7_needAisle_1 : decode cX7_needAisle 1 = .ok (.getfield 19, 3) := by decide +kernel
theorem dX7_needAisle_4 : decode cX7_needAisle 4 = .ok (.getfield 103, 3) := by decide +kernel
theorem dX7_needAisle_7 : decode cX7_needAisle 7 = .ok (.iload_n 1, 1) := by decide +kernel
theorem dX7_needAisle_8 : decode cX7_needAisle 8 = .ok (.invokevirtual 225, 3) := by decide +kernel
theorem dX7_needAisle_11 : decode cX7_needAisle 11 = .ok (.ifCond .ne 11, 3) := by decide +kernel
theorem dX7_needAisle_14 : decode cX7_needAisle 14 = .ok (.new 171, 3) := by decide +kernel
theorem dX7_needAisle_17 : decode cX7_needAisle 17 = .ok (.dup, 1) := by decide +kernel
theorem dX7_needAisle_18 : decode cX7_needAisle 18 = .ok (.invokespecial 173, 3) := by decide +kernel
theorem dX7_needAisle_21 : decode cX7_needAisle 21 = .ok (.athrow, 1) := by decide +kernel
theorem dX7_needAisle_22 : decode cX7_needAisle 22 = .ok (.return_, 1) := by decide +kernel
theorem dX7_needPerson_0 : decode cX7_needPerson 0 = .ok (.aload_n 0, 1) := by decide +kernel
theorem dX7_needPerson_1 : decode cX7_needPerson 1 = .ok (.getfield 19, 3) := by decide +kernel
theorem dX7_needPerson_4 : decode cX7_needPerson 4 = .ok (.getfield 118, 3) := by decide +kernel
theorem dX7_needPerson_7 : decode cX7_needPerson 7 = .ok (.iload_n 1, 1) := by decide +kernel
theorem dX7_needPerson_8 : decode cX7_needPerson 8 = .ok (.invokevirtual 221, 3) := by decide +kernel
theorem dX7_needPerson_11 : decode cX7_needPerson 11 = .ok (.ifCond .ne 11, 3) := by decide +kernel
theorem dX7_needPerson_14 : decode cX7_needPerson 14 = .ok (.new 171, 3) := by decide +kernel
theorem dX7_needPerson_17 : decode cX7_needPerson 17 = .ok (.dup, 1) := by decide +kernel
theorem dX7_needPerson_18 : decode cX7_needPerson 18 = .ok (.invokespecial 173, 3) := by decide +kernel
theorem dX7_needPerson_21 : decode cX7_needPerson 21 = .ok (.athrow, 1) := by decide +kernel
theorem dX7_needPerson_22 : decode cX7_needPerson 22 = .ok (.return_, 1) := by decide +kernel
theorem dX7_needMinute_0 : decode cX7_needMinute 0 = .ok (.iload_n 0, 1) := by decide +kernel
theorem dX7_needMinute_1 : decode cX7_needMinute 1 = .ok (.invokestatic 311, 3) := by decide +kernel
theorem dX7_needMinute_4 : decode cX7_needMinute 4 = .ok (.ifCond .ne 11, 3) := by decide +kernel
theorem dX7_needMinute_7 : decode cX7_needMinute 7 = .ok (.new 171, 3) := by decide +kernel
theorem dX7_needMinute_10 : decode cX7_needMinute 10 = .ok (.dup, 1) := by decide +kernel
theorem dX7_needMinute_11 : decode cX7_needMinute 11 = .ok (.invokespecial 173, 3) := by decide +kernel
theorem dX7_needMinute_14 : decode cX7_needMinute 14 = .ok (.athrow, 1) := by decide +kernel
theorem dX7_needMinute_15 : decode cX7_needMinute 15 = .ok (.return_, 1) := by decide +kernel
theorem dX7_isMinute_0 : decode cX7_isMinute 0 = .ok (.iload_n 0, 1) := by decide +kernel
theorem dX7_isMinute_1 : decode cX7_isMinute 1 = .ok (.iconst 1, 1) := by decide +kernel
theorem dX7_isMinute_2 : decode cX7_isMinute 2 = .ok (.if_icmp .lt 13, 3) := by decide +kernel
theorem dX7_isMinute_5 : decode cX7_isMinute 5 = .ok (.iload_n 0, 1) := by decide +kernel
theorem dX7_isMinute_6 : decode cX7_isMinute 6 = .ok (.bipush 60, 2) := by decide +kernel
theorem dX7_isMinute_8 : decode cX7_isMinute 8 = .ok (.if_icmp .gt 7, 3) := by decide +kernel
theorem dX7_isMinute_11 : decode cX7_isMinute 11 = .ok (.iconst 1, 1) := by decide +kernel
theorem dX7_isMinute_12 : decode cX7_isMinute 12 = .ok (.goto 4, 3) := by decide +kernel
theorem dX7_isMinute_15 : decode cX7_isMinute 15 = .ok (.iconst 0, 1) := by decide +kernel
theorem dX7_isMinute_16 : decode cX7_isMinute 16 = .ok (.ireturn, 1) := by decide +kernel
theorem dX7_at_0 : decode cX7_at 0 = .ok (.iload_n 1, 1) := by decide +kernel
theorem dX7_at_1 : decode cX7_at 1 = .ok (.ifCond .lt 15, 3) := by decide +kernel
theorem dX7_at_4 : decode cX7_at 4 = .ok (.iload_n 1, 1) := by decide +kernel
theorem dX7_at_5 : decode cX7_at 5 = .ok (.aload_n 0, 1) := by decide +kernel
theorem dX7_at_6 : decode cX7_at 6 = .ok (.arraylength, 1) := by decide +kernel
theorem dX7_at_7 : decode cX7_at 7 = .ok (.if_icmp .ge 9, 3) := by decide +kernel
theorem dX7_at_10 : decode cX7_at 10 = .ok (.aload_n 0, 1) := by decide +kernel
theorem dX7_at_11 : decode cX7_at 11 = .ok (.iload_n 1, 1) := by decide +kernel
theorem dX7_at_12 : decode cX7_at 12 = .ok (.iaload, 1) := by decide +kernel
theorem dX7_at_13 : decode cX7_at 13 = .ok (.goto 4, 3) := by decide +kernel
theorem dX7_at_16 : decode cX7_at 16 = .ok (.iconst 0, 1) := by decide +kernel
theorem dX7_at_17 : decode cX7_at 17 = .ok (.ireturn, 1) := by decide +kernel
theorem dX7_put_0 : decode cX7_put 0 = .ok (.iload_n 1, 1) := by decide +kernel
theorem dX7_put_1 : decode cX7_put 1 = .ok (.ifCond .lt 13, 3) := by decide +kernel
theorem dX7_put_4 : decode cX7_put 4 = .ok (.iload_n 1, 1) := by decide +kernel
theorem dX7_put_5 : decode cX7_put 5 = .ok (.aload_n 0, 1) := by decide +kernel
theorem dX7_put_6 : decode cX7_put 6 = .ok (.arraylength, 1) := by decide +kernel
theorem dX7_put_7 : decode cX7_put 7 = .ok (.if_icmp .ge 7, 3) := by decide +kernel
theorem dX7_put_10 : decode cX7_put 10 = .ok (.aload_n 0, 1) := by decide +kernel
theorem dX7_put_11 : decode cX7_put 11 = .ok (.iload_n 1, 1) := by decide +kernel
theorem dX7_put_12 : decode cX7_put 12 = .ok (.iload_n 2, 1) := by decide +kernel
theorem dX7_put_13 : decode cX7_put 13 = .ok (.iastore, 1) := by decide +kernel
theorem dX7_put_14 : decode cX7_put 14 = .ok (.return_, 1) := by decide +kernel
theorem dX7_fillRow_0 : decode cX7_fillRow 0 = .ok (.iconst 0, 1) := by decide +kernel
theorem dX7_fillRow_1 : decode cX7_fillRow 1 = .ok (.istore_n 2, 1) := by decide +kernel
theorem dX7_fillRow_2 : decode cX7_fillRow 2 = .ok (.iload_n 2, 1) := by decide +kernel
theorem dX7_fillRow_3 : decode cX7_fillRow 3 = .ok (.aload_n 0, 1) := by decide +kernel
theorem dX7_fillRow_4 : decode cX7_fillRow 4 = .ok (.arraylength, 1) := by decide +kernel
theorem dX7_fillRow_5 : decode cX7_fillRow 5 = .ok (.if_icmp .ge 13, 3) := by decide +kernel
theorem dX7_fillRow_8 : decode cX7_fillRow 8 = .ok (.aload_n 0, 1) := by decide +kernel
theorem dX7_fillRow_9 : decode cX7_fillRow 9 = .ok (.iload_n 2, 1) := by decide +kernel
theorem dX7_fillRow_10 : decode cX7_fillRow 10 = .ok (.iload_n 1, 1) := by decide +kernel
theorem dX7_fillRow_11 : decode cX7_fillRow 11 = .ok (.iastore, 1) := by decide +kernel
theorem dX7_fillRow_12 : decode cX7_fillRow 12 = .ok (.iinc 2 1, 3) := by decide +kernel
theorem dX7_fillRow_15 : decode cX7_fillRow 15 = .ok (.goto (-13), 3) := by decide +kernel
theorem dX7_fillRow_18 : decode cX7_fillRow 18 = .ok (.return_, 1) := by decide +kernel
theorem dX7_copyRow_0 : decode cX7_copyRow 0 = .ok (.aload_n 0, 1) := by decide +kernel
theorem dX7_copyRow_1 : decode cX7_copyRow 1 = .ok (.iconst 0, 1) := by decide +kernel
theorem dX7_copyRow_2 : decode cX7_copyRow 2 = .ok (.aload_n 1, 1) := by decide +kernel
theorem dX7_copyRow_3 : decode cX7_copyRow 3 = .ok (.iconst 0, 1) := by decide +kernel
theorem dX7_copyRow_4 : decode cX7_copyRow 4 = .ok (.aload_n 0, 1) := by decide +kernel
theorem dX7_copyRow_5 : decode cX7_copyRow 5 = .ok (.arraylength, 1) := by decide +kernel
theorem dX7_copyRow_6 : decode cX7_copyRow 6 = .ok (.aload_n 1, 1) := by decide +kernel
theorem dX7_copyRow_7 : decode cX7_copyRow 7 = .ok (.arraylength, 1) := by decide +kernel
theorem dX7_copyRow_8 : decode cX7_copyRow 8 = .ok (.invokestatic 362, 3) := by decide +kernel
theorem dX7_copyRow_11 : decode cX7_copyRow 11 = .ok (.invokestatic 365, 3) := by decide +kernel
theorem dX7_copyRow_14 : decode cX7_copyRow 14 = .ok (.return_, 1) := by decide +kernel
theorem dX7_bit_0 : decode cX7_bit 0 = .ok (.iconst 1, 1) := by decide +kernel
theorem dX7_bit_1 : decode cX7_bit 1 = .ok (.iload_n 0, 1) := by decide +kernel
theorem dX7_bit_2 : decode cX7_bit 2 = .ok (.ishl, 1) := by decide +kernel
theorem dX7_bit_3 : decode cX7_bit 3 = .ok (.ireturn, 1) := by decide +kernel
theorem dX7_holds_0 : decode cX7_holds 0 = .ok (.iload_n 1, 1) := by decide +kernel
theorem dX7_holds_1 : decode cX7_holds 1 = .ok (.ifCond .lt 21, 3) := by decide +kernel
theorem dX7_holds_4 : decode cX7_holds 4 = .ok (.iload_n 1, 1) := by decide +kernel
theorem dX7_holds_5 : decode cX7_holds 5 = .ok (.bipush 32, 2) := by decide +kernel
theorem dX7_holds_7 : decode cX7_holds 7 = .ok (.if_icmp .ge 15, 3) := by decide +kernel
theorem dX7_holds_10 : decode cX7_holds 10 = .ok (.iload_n 0, 1) := by decide +kernel
theorem dX7_holds_11 : decode cX7_holds 11 = .ok (.iload_n 1, 1) := by decide +kernel
theorem dX7_holds_12 : decode cX7_holds 12 = .ok (.ishr, 1) := by decide +kernel
theorem dX7_holds_13 : decode cX7_holds 13 = .ok (.iconst 1, 1) := by decide +kernel
theorem dX7_holds_14 : decode cX7_holds 14 = .ok (.iand, 1) := by decide +kernel
theorem dX7_holds_15 : decode cX7_holds 15 = .ok (.ifCond .eq 7, 3) := by decide +kernel
theorem dX7_holds_18 : decode cX7_holds 18 = .ok (.iconst 1, 1) := by decide +kernel
theorem dX7_holds_19 : decode cX7_holds 19 = .ok (.goto 4, 3) := by decide +kernel
theorem dX7_holds_22 : decode cX7_holds 22 = .ok (.iconst 0, 1) := by decide +kernel
theorem dX7_holds_23 : decode cX7_holds 23 = .ok (.ireturn, 1) := by decide +kernel
theorem dJ6_bitCount_0f7a4_0 : decode cJ6_bitCount_0f7a4 0 = .ok (.iload_n 0, 1) := by decide +kernel
theorem dJ6_bitCount_0f7a4_1 : decode cJ6_bitCount_0f7a4 1 = .ok (.iload_n 0, 1) := by decide +kernel
theorem dJ6_bitCount_0f7a4_2 : decode cJ6_bitCount_0f7a4 2 = .ok (.iconst 1, 1) := by decide +kernel
theorem dJ6_bitCount_0f7a4_3 : decode cJ6_bitCount_0f7a4 3 = .ok (.iushr, 1) := by decide +kernel
theorem dJ6_bitCount_0f7a4_4 : decode cJ6_bitCount_0f7a4 4 = .ok (.ldc_w 265, 3) := by decide +kernel
theorem dJ6_bitCount_0f7a4_7 : decode cJ6_bitCount_0f7a4 7 = .ok (.iand, 1) := by decide +kernel
theorem dJ6_bitCount_0f7a4_8 : decode cJ6_bitCount_0f7a4 8 = .ok (.isub, 1) := by decide +kernel
theorem dJ6_bitCount_0f7a4_9 : decode cJ6_bitCount_0f7a4 9 = .ok (.istore_n 0, 1) := by decide +kernel
theorem dJ6_bitCount_0f7a4_10 : decode cJ6_bitCount_0f7a4 10 = .ok (.iload_n 0, 1) := by decide +kernel
theorem dJ6_bitCount_0f7a4_11 : decode cJ6_bitCount_0f7a4 11 = .ok (.ldc_w 266, 3) := by decide +kernel
theorem dJ6_bitCount_0f7a4_14 : decode cJ6_bitCount_0f7a4 14 = .ok (.iand, 1) := by decide +kernel
theorem dJ6_bitCount_0f7a4_15 : decode cJ6_bitCount_0f7a4 15 = .ok (.iload_n 0, 1) := by decide +kernel
theorem dJ6_bitCount_0f7a4_16 : decode cJ6_bitCount_0f7a4 16 = .ok (.iconst 2, 1) := by decide +kernel
theorem dJ6_bitCount_0f7a4_17 : decode cJ6_bitCount_0f7a4 17 = .ok (.iushr, 1) := by decide +kernel
theorem dJ6_bitCount_0f7a4_18 : decode cJ6_bitCount_0f7a4 18 = .ok (.ldc_w 266, 3) := by decide +kernel
theorem dJ6_bitCount_0f7a4_21 : decode cJ6_bitCount_0f7a4 21 = .ok (.iand, 1) := by decide +kernel
theorem dJ6_bitCount_0f7a4_22 : decode cJ6_bitCount_0f7a4 22 = .ok (.iadd, 1) := by decide +kernel
theorem dJ6_bitCount_0f7a4_23 : decode cJ6_bitCount_0f7a4 23 = .ok (.istore_n 0, 1) := by decide +kernel
theorem dJ6_bitCount_0f7a4_24 : decode cJ6_bitCount_0f7a4 24 = .ok (.iload_n 0, 1) := by decide +kernel
theorem dJ6_bitCount_0f7a4_25 : decode cJ6_bitCount_0f7a4 25 = .ok (.iload_n 0, 1) := by decide +kernel
theorem dJ6_bitCount_0f7a4_26 : decode cJ6_bitCount_0f7a4 26 = .ok (.iconst 4, 1) := by decide +kernel
theorem dJ6_bitCount_0f7a4_27 : decode cJ6_bitCount_0f7a4 27 = .ok (.iushr, 1) := by decide +kernel
theorem dJ6_bitCount_0f7a4_28 : decode cJ6_bitCount_0f7a4 28 = .ok (.iadd, 1) := by decide +kernel
theorem dJ6_bitCount_0f7a4_29 : decode cJ6_bitCount_0f7a4 29 = .ok (.ldc_w 267, 3) := by decide +kernel
theorem dJ6_bitCount_0f7a4_32 : decode cJ6_bitCount_0f7a4 32 = .ok (.iand, 1) := by decide +kernel
theorem dJ6_bitCount_0f7a4_33 : decode cJ6_bitCount_0f7a4 33 = .ok (.istore_n 0, 1) := by decide +kernel
theorem dJ6_bitCount_0f7a4_34 : decode cJ6_bitCount_0f7a4 34 = .ok (.iload_n 0, 1) := by decide +kernel
theorem dJ6_bitCount_0f7a4_35 : decode cJ6_bitCount_0f7a4 35 = .ok (.iload_n 0, 1) := by decide +kernel
theorem dJ6_bitCount_0f7a4_36 : decode cJ6_bitCount_0f7a4 36 = .ok (.bipush 8, 2) := by decide +kernel
theorem dJ6_bitCount_0f7a4_38 : decode cJ6_bitCount_0f7a4 38 = .ok (.iushr, 1) := by decide +kernel
theorem dJ6_bitCount_0f7a4_39 : decode cJ6_bitCount_0f7a4 39 = .ok (.iadd, 1) := by decide +kernel
theorem dJ6_bitCount_0f7a4_40 : decode cJ6_bitCount_0f7a4 40 = .ok (.istore_n 0, 1) := by decide +kernel
theorem dJ6_bitCount_0f7a4_41 : decode cJ6_bitCount_0f7a4 41 = .ok (.iload_n 0, 1) := by decide +kernel
theorem dJ6_bitCount_0f7a4_42 : decode cJ6_bitCount_0f7a4 42 = .ok (.iload_n 0, 1) := by decide +kernel
theorem dJ6_bitCount_0f7a4_43 : decode cJ6_bitCount_0f7a4 43 = .ok (.bipush 16, 2) := by decide +kernel
theorem dJ6_bitCount_0f7a4_45 : decode cJ6_bitCount_0f7a4 45 = .ok (.iushr, 1) := by decide +kernel
theorem dJ6_bitCount_0f7a4_46 : decode cJ6_bitCount_0f7a4 46 = .ok (.iadd, 1) := by decide +kernel
theorem dJ6_bitCount_0f7a4_47 : decode cJ6_bitCount_0f7a4 47 = .ok (.istore_n 0, 1) := by decide +kernel
theorem dJ6_bitCount_0f7a4_48 : decode cJ6_bitCount_0f7a4 48 = .ok (.iload_n 0, 1) := by decide +kernel
theorem dJ6_bitCount_0f7a4_49 : decode cJ6_bitCount_0f7a4 49 = .ok (.bipush 63, 2) := by decide +kernel
theorem dJ6_bitCount_0f7a4_51 : decode cJ6_bitCount_0f7a4 51 = .ok (.iand, 1) := by decide +kernel
theorem dJ6_bitCount_0f7a4_52 : decode cJ6_bitCount_0f7a4 52 = .ok (.ireturn, 1) := by decide +kernel
theorem dJ9_max_7cf53_0 : decode cJ9_max_7cf53 0 = .ok (.iload_n 0, 1) := by decide +kernel
theorem dJ9_max_7cf53_1 : decode cJ9_max_7cf53 1 = .ok (.iload_n 1, 1) := by decide +kernel
theorem dJ9_max_7cf53_2 : decode cJ9_max_7cf53 2 = .ok (.if_icmp .lt 7, 3) := by decide +kernel
theorem dJ9_max_7cf53_5 : decode cJ9_max_7cf53 5 = .ok (.iload_n 0, 1) := by decide +kernel
theorem dJ9_max_7cf53_6 : decode cJ9_max_7cf53 6 = .ok (.goto 4, 3) := by decide +kernel
theorem dJ9_max_7cf53_9 : decode cJ9_max_7cf53 9 = .ok (.iload_n 1, 1) := by decide +kernel
theorem dJ9_max_7cf53_10 : decode cJ9_max_7cf53 10 = .ok (.ireturn, 1) := by decide +kernel
theorem dJ9_min_7cf53_0 : decode cJ9_min_7cf53 0 = .ok (.iload_n 0, 1) := by decide +kernel
theorem dJ9_min_7cf53_1 : decode cJ9_min_7cf53 1 = .ok (.iload_n 1, 1) := by decide +kernel
theorem dJ9_min_7cf53_2 : decode cJ9_min_7cf53 2 = .ok (.if_icmp .gt 7, 3) := by decide +kernel
theorem dJ9_min_7cf53_5 : decode cJ9_min_7cf53 5 = .ok (.iload_n 0, 1) := by decide +kernel
theorem dJ9_min_7cf53_6 : decode cJ9_min_7cf53 6 = .ok (.goto 4, 3) := by decide +kernel
theorem dJ9_min_7cf53_9 : decode cJ9_min_7cf53 9 = .ok (.iload_n 1, 1) := by decide +kernel
theorem dJ9_min_7cf53_10 : decode cJ9_min_7cf53 10 = .ok (.ireturn, 1) := by decide +kernel
theorem dJ0_length_8abf5_0 : decode cJ0_length_8abf5 0 = .ok (.aload_n 0, 1) := by decide +kernel
theorem dJ0_length_8abf5_1 : decode cJ0_length_8abf5 1 = .ok (.getfield 9, 3) := by decide +kernel
theorem dJ0_length_8abf5_4 : decode cJ0_length_8abf5 4 = .ok (.arraylength, 1) := by decide +kernel
theorem dJ0_length_8abf5_5 : decode cJ0_length_8abf5 5 = .ok (.aload_n 0, 1) := by decide +kernel
theorem dJ0_length_8abf5_6 : decode cJ0_length_8abf5 6 = .ok (.invokevirtual 335, 3) := by decide +kernel
theorem dJ0_length_8abf5_9 : decode cJ0_length_8abf5 9 = .ok (.ishr, 1) := by decide +kernel
theorem dJ0_length_8abf5_10 : decode cJ0_length_8abf5 10 = .ok (.ireturn, 1) := by decide +kernel
theorem dJ0_charAt_5068e_0 : decode cJ0_charAt_5068e 0 = .ok (.aload_n 0, 1) := by decide +kernel
theorem dJ0_charAt_5068e_1 : decode cJ0_charAt_5068e 1 = .ok (.invokevirtual 492, 3) := by decide +kernel
theorem dJ0_charAt_5068e_4 : decode cJ0_charAt_5068e 4 = .ok (.ifCond .eq 12, 3) := by decide +kernel
theorem dJ0_charAt_5068e_7 : decode cJ0_charAt_5068e 7 = .ok (.aload_n 0, 1) := by decide +kernel
theorem dJ0_charAt_5068e_8 : decode cJ0_charAt_5068e 8 = .ok (.getfield 9, 3) := by decide +kernel
theorem dJ0_charAt_5068e_11 : decode cJ0_charAt_5068e 11 = .ok (.iload_n 1, 1) := by decide +kernel
theorem dJ0_charAt_5068e_12 : decode cJ0_charAt_5068e 12 = .ok (.invokestatic 495, 3) := by decide +kernel
theorem dJ0_charAt_5068e_15 : decode cJ0_charAt_5068e 15 = .ok (.ireturn, 1) := by decide +kernel
theorem dJ0_charAt_5068e_16 : decode cJ0_charAt_5068e 16 = .ok (.aload_n 0, 1) := by decide +kernel
theorem dJ0_charAt_5068e_17 : decode cJ0_charAt_5068e 17 = .ok (.getfield 9, 3) := by decide +kernel
theorem dJ0_charAt_5068e_20 : decode cJ0_charAt_5068e 20 = .ok (.iload_n 1, 1) := by decide +kernel
theorem dJ0_charAt_5068e_21 : decode cJ0_charAt_5068e 21 = .ok (.invokestatic 498, 3) := by decide +kernel
theorem dJ0_charAt_5068e_24 : decode cJ0_charAt_5068e 24 = .ok (.ireturn, 1) := by decide +kernel
theorem dJ0_coder_7d493_0 : decode cJ0_coder_7d493 0 = .ok (.getstatic 38, 3) := by decide +kernel
theorem dJ0_coder_7d493_3 : decode cJ0_coder_7d493 3 = .ok (.ifCond .eq 10, 3) := by decide +kernel
theorem dJ0_coder_7d493_6 : decode cJ0_coder_7d493 6 = .ok (.aload_n 0, 1) := by decide +kernel
theorem dJ0_coder_7d493_7 : decode cJ0_coder_7d493 7 = .ok (.getfield 15, 3) := by decide +kernel
theorem dJ0_coder_7d493_10 : decode cJ0_coder_7d493 10 = .ok (.goto 4, 3) := by decide +kernel
theorem dJ0_coder_7d493_13 : decode cJ0_coder_7d493 13 = .ok (.iconst 1, 1) := by decide +kernel
theorem dJ0_coder_7d493_14 : decode cJ0_coder_7d493 14 = .ok (.ireturn, 1) := by decide +kernel
theorem dJ0_isLatin1_aae02_0 : decode cJ0_isLatin1_aae02 0 = .ok (.getstatic 38, 3) := by decide +kernel
theorem dJ0_isLatin1_aae02_3 : decode cJ0_isLatin1_aae02 3 = .ok (.ifCond .eq 14, 3) := by decide +kernel
theorem dJ0_isLatin1_aae02_6 : decode cJ0_isLatin1_aae02 6 = .ok (.aload_n 0, 1) := by decide +kernel
theorem dJ0_isLatin1_aae02_7 : decode cJ0_isLatin1_aae02 7 = .ok (.getfield 15, 3) := by decide +kernel
theorem dJ0_isLatin1_aae02_10 : decode cJ0_isLatin1_aae02 10 = .ok (.ifCond .ne 7, 3) := by decide +kernel
theorem dJ0_isLatin1_aae02_13 : decode cJ0_isLatin1_aae02 13 = .ok (.iconst 1, 1) := by decide +kernel
theorem dJ0_isLatin1_aae02_14 : decode cJ0_isLatin1_aae02 14 = .ok (.goto 4, 3) := by decide +kernel
theorem dJ0_isLatin1_aae02_17 : decode cJ0_isLatin1_aae02 17 = .ok (.iconst 0, 1) := by decide +kernel
theorem dJ0_isLatin1_aae02_18 : decode cJ0_isLatin1_aae02 18 = .ok (.ireturn, 1) := by decide +kernel
theorem dJ0_checkIndex_df160_0 : decode cJ0_checkIndex_df160 0 = .ok (.iload_n 0, 1) := by decide +kernel
theorem dJ0_checkIndex_df160_1 : decode cJ0_checkIndex_df160 1 = .ok (.iload_n 1, 1) := by decide +kernel
theorem dJ0_checkIndex_df160_2 : decode cJ0_checkIndex_df160 2 = .ok (.getstatic 1053, 3) := by decide +kernel
theorem dJ0_checkIndex_df160_5 : decode cJ0_checkIndex_df160 5 = .ok (.invokestatic 1059, 3) := by decide +kernel
theorem dJ0_checkIndex_df160_8 : decode cJ0_checkIndex_df160 8 = .ok (.pop, 1) := by decide +kernel
theorem dJ0_checkIndex_df160_9 : decode cJ0_checkIndex_df160 9 = .ok (.return_, 1) := by decide +kernel
theorem dJ1_charAt_3b067_0 : decode cJ1_charAt_3b067 0 = .ok (.iload_n 1, 1) := by decide +kernel
theorem dJ1_charAt_3b067_1 : decode cJ1_charAt_3b067 1 = .ok (.aload_n 0, 1) := by decide +kernel
theorem dJ1_charAt_3b067_2 : decode cJ1_charAt_3b067 2 = .ok (.arraylength, 1) := by decide +kernel
theorem dJ1_charAt_3b067_3 : decode cJ1_charAt_3b067 3 = .ok (.invokestatic 9, 3) := by decide +kernel
theorem dJ1_charAt_3b067_6 : decode cJ1_charAt_3b067 6 = .ok (.aload_n 0, 1) := by decide +kernel
theorem dJ1_charAt_3b067_7 : decode cJ1_charAt_3b067 7 = .ok (.iload_n 1, 1) := by decide +kernel
theorem dJ1_charAt_3b067_8 : decode cJ1_charAt_3b067 8 = .ok (.baload, 1) := by decide +kernel
theorem dJ1_charAt_3b067_9 : decode cJ1_charAt_3b067 9 = .ok (.sipush 255, 3) := by decide +kernel
theorem dJ1_charAt_3b067_12 : decode cJ1_charAt_3b067 12 = .ok (.iand, 1) := by decide +kernel
theorem dJ1_charAt_3b067_13 : decode cJ1_charAt_3b067 13 = .ok (.i2c, 1) := by decide +kernel
theorem dJ1_charAt_3b067_14 : decode cJ1_charAt_3b067 14 = .ok (.ireturn, 1) := by decide +kernel
theorem dJ2_getChar_3b067_0 : decode cJ2_getChar_3b067 0 = .ok (.getstatic 44, 3) := by decide +kernel
theorem dJ2_getChar_3b067_3 : decode cJ2_getChar_3b067 3 = .ok (.ifCond .ne 25, 3) := by decide +kernel
theorem dJ2_getChar_3b067_6 : decode cJ2_getChar_3b067 6 = .ok (.iload_n 1, 1) := by decide +kernel
theorem dJ2_getChar_3b067_7 : decode cJ2_getChar_3b067 7 = .ok (.ifCond .lt 11, 3) := by decide +kernel
theorem dJ2_getChar_3b067_10 : decode cJ2_getChar_3b067 10 = .ok (.iload_n 1, 1) := by decide +kernel
theorem dJ2_getChar_3b067_11 : decode cJ2_getChar_3b067 11 = .ok (.aload_n 0, 1) := by decide +kernel
theorem dJ2_getChar_3b067_12 : decode cJ2_getChar_3b067 12 = .ok (.invokestatic 48, 3) := by decide +kernel
theorem dJ2_getChar_3b067_15 : decode cJ2_getChar_3b067 15 = .ok (.if_icmp .lt 13, 3) := by decide +kernel
theorem dJ2_getChar_3b067_18 : decode cJ2_getChar_3b067 18 = .ok (.new 52, 3) := by decide +kernel
theorem dJ2_getChar_3b067_21 : decode cJ2_getChar_3b067 21 = .ok (.dup, 1) := by decide +kernel
theorem dJ2_getChar_3b067_22 : decode cJ2_getChar_3b067 22 = .ok (.ldc 54, 2) := by decide +kernel
theorem dJ2_getChar_3b067_24 : decode cJ2_getChar_3b067 24 = .ok (.invokespecial 56, 3) := by decide +kernel
theorem dJ2_getChar_3b067_27 : decode cJ2_getChar_3b067 27 = .ok (.athrow, 1) := by decide +kernel
theorem dJ2_getChar_3b067_28 : decode cJ2_getChar_3b067 28 = .ok (.iload_n 1, 1) := by decide +kernel
theorem dJ2_getChar_3b067_29 : decode cJ2_getChar_3b067 29 = .ok (.iconst 1, 1) := by decide +kernel
theorem dJ2_getChar_3b067_30 : decode cJ2_getChar_3b067 30 = .ok (.ishl, 1) := by decide +kernel
theorem dJ2_getChar_3b067_31 : decode cJ2_getChar_3b067 31 = .ok (.istore_n 1, 1) := by decide +kernel
theorem dJ2_getChar_3b067_32 : decode cJ2_getChar_3b067 32 = .ok (.aload_n 0, 1) := by decide +kernel
theorem dJ2_getChar_3b067_33 : decode cJ2_getChar_3b067 33 = .ok (.iload_n 1, 1) := by decide +kernel
theorem dJ2_getChar_3b067_34 : decode cJ2_getChar_3b067 34 = .ok (.iinc 1 1, 3) := by decide +kernel
theorem dJ2_getChar_3b067_37 : decode cJ2_getChar_3b067 37 = .ok (.baload, 1) := by decide +kernel
theorem dJ2_getChar_3b067_38 : decode cJ2_getChar_3b067 38 = .ok (.sipush 255, 3) := by decide +kernel
theorem dJ2_getChar_3b067_41 : decode cJ2_getChar_3b067 41 = .ok (.iand, 1) := by decide +kernel
theorem dJ2_getChar_3b067_42 : decode cJ2_getChar_3b067 42 = .ok (.getstatic 59, 3) := by decide +kernel
theorem dJ2_getChar_3b067_45 : decode cJ2_getChar_3b067 45 = .ok (.ishl, 1) := by decide +kernel
theorem dJ2_getChar_3b067_46 : decode cJ2_getChar_3b067 46 = .ok (.aload_n 0, 1) := by decide +kernel
theorem dJ2_getChar_3b067_47 : decode cJ2_getChar_3b067 47 = .ok (.iload_n 1, 1) := by decide +kernel
theorem dJ2_getChar_3b067_48 : decode cJ2_getChar_3b067 48 = .ok (.baload, 1) := by decide +kernel
theorem dJ2_getChar_3b067_49 : decode cJ2_getChar_3b067 49 = .ok (.sipush 255, 3) := by decide +kernel
theorem dJ2_getChar_3b067_52 : decode cJ2_getChar_3b067 52 = .ok (.iand, 1) := by decide +kernel
theorem dJ2_getChar_3b067_53 : decode cJ2_getChar_3b067 53 = .ok (.getstatic 63, 3) := by decide +kernel
theorem dJ2_getChar_3b067_56 : decode cJ2_getChar_3b067 56 = .ok (.ishl, 1) := by decide +kernel
theorem dJ2_getChar_3b067_57 : decode cJ2_getChar_3b067 57 = .ok (.ior, 1) := by decide +kernel
theorem dJ2_getChar_3b067_58 : decode cJ2_getChar_3b067 58 = .ok (.i2c, 1) := by decide +kernel
theorem dJ2_getChar_3b067_59 : decode cJ2_getChar_3b067 59 = .ok (.ireturn, 1) := by decide +kernel
theorem dJ2_length_9d52b_0 : decode cJ2_length_9d52b 0 = .ok (.aload_n 0, 1) := by decide +kernel
theorem dJ2_length_9d52b_1 : decode cJ2_length_9d52b 1 = .ok (.arraylength, 1) := by decide +kernel
theorem dJ2_length_9d52b_2 : decode cJ2_length_9d52b 2 = .ok (.iconst 1, 1) := by decide +kernel
theorem dJ2_length_9d52b_3 : decode cJ2_length_9d52b 3 = .ok (.ishr, 1) := by decide +kernel
theorem dJ2_length_9d52b_4 : decode cJ2_length_9d52b 4 = .ok (.ireturn, 1) := by decide +kernel
theorem dJ2_charAt_3b067_0 : decode cJ2_charAt_3b067 0 = .ok (.iload_n 1, 1) := by decide +kernel
theorem dJ2_charAt_3b067_1 : decode cJ2_charAt_3b067 1 = .ok (.aload_n 0, 1) := by decide +kernel
theorem dJ2_charAt_3b067_2 : decode cJ2_charAt_3b067 2 = .ok (.invokestatic 67, 3) := by decide +kernel
theorem dJ2_charAt_3b067_5 : decode cJ2_charAt_3b067 5 = .ok (.aload_n 0, 1) := by decide +kernel
theorem dJ2_charAt_3b067_6 : decode cJ2_charAt_3b067 6 = .ok (.iload_n 1, 1) := by decide +kernel
theorem dJ2_charAt_3b067_7 : decode cJ2_charAt_3b067 7 = .ok (.invokestatic 71, 3) := by decide +kernel
theorem dJ2_charAt_3b067_10 : decode cJ2_charAt_3b067 10 = .ok (.ireturn, 1) := by decide +kernel
theorem dJ2_checkIndex_2214a_0 : decode cJ2_checkIndex_2214a 0 = .ok (.iload_n 0, 1) := by decide +kernel
theorem dJ2_checkIndex_2214a_1 : decode cJ2_checkIndex_2214a 1 = .ok (.aload_n 1, 1) := by decide +kernel
theorem dJ2_checkIndex_2214a_2 : decode cJ2_checkIndex_2214a 2 = .ok (.invokestatic 48, 3) := by decide +kernel
theorem dJ2_checkIndex_2214a_5 : decode cJ2_checkIndex_2214a 5 = .ok (.invokestatic 414, 3) := by decide +kernel
theorem dJ2_checkIndex_2214a_8 : decode cJ2_checkIndex_2214a 8 = .ok (.return_, 1) := by decide +kernel
theorem dJ3_checkIndex_8e157_0 : decode cJ3_checkIndex_8e157 0 = .ok (.iload_n 0, 1) := by decide +kernel
theorem dJ3_checkIndex_8e157_1 : decode cJ3_checkIndex_8e157 1 = .ok (.ifCond .lt 8, 3) := by decide +kernel
theorem dJ3_checkIndex_8e157_4 : decode cJ3_checkIndex_8e157 4 = .ok (.iload_n 0, 1) := by decide +kernel
theorem dJ3_checkIndex_8e157_5 : decode cJ3_checkIndex_8e157 5 = .ok (.iload_n 1, 1) := by decide +kernel
theorem dJ3_checkIndex_8e157_6 : decode cJ3_checkIndex_8e157 6 = .ok (.if_icmp .lt 10, 3) := by decide +kernel
theorem dJ3_checkIndex_8e157_9 : decode cJ3_checkIndex_8e157 9 = .ok (.aload_n 2, 1) := by decide +kernel
theorem dJ3_checkIndex_8e157_10 : decode cJ3_checkIndex_8e157 10 = .ok (.iload_n 0, 1) := by decide +kernel
theorem dJ3_checkIndex_8e157_11 : decode cJ3_checkIndex_8e157 11 = .ok (.iload_n 1, 1) := by decide +kernel
theorem dJ3_checkIndex_8e157_12 : decode cJ3_checkIndex_8e157 12 = .ok (.invokestatic 95, 3) := by decide +kernel
theorem dJ3_checkIndex_8e157_15 : decode cJ3_checkIndex_8e157 15 = .ok (.athrow, 1) := by decide +kernel
theorem dJ3_checkIndex_8e157_16 : decode cJ3_checkIndex_8e157 16 = .ok (.iload_n 0, 1) := by decide +kernel
theorem dJ3_checkIndex_8e157_17 : decode cJ3_checkIndex_8e157 17 = .ok (.ireturn, 1) := by decide +kernel
