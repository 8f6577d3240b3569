theorem dX0_init_0 : decode cX0_init 0 = .ok (.aload_n 0, 1) := by decide +kernel
theorem dX0_init_1 : decode cX0_init 1 = .ok (.invokespecial 3, 3) := by decide +kernel
theorem dX0_init_4 : decode cX0_init 4 = .ok (.aload_n 0, 1) := by decide +kernel
theorem dX0_init_5 : decode cX0_init 5 = .ok (.aload_n 1, 1) := by decide +kernel
theorem dX0_init_6 : decode cX0_init 6 = .ok (.putfield 9, 3) := by decide +kernel
theorem dX0_init_9 : decode cX0_init 9 = .ok (.aload_n 0, 1) := by decide +kernel
theorem dX0_init_10 : decode cX0_init 10 = .ok (.iconst 0, 1) := by decide +kernel
theorem dX0_init_11 : decode cX0_init 11 = .ok (.putfield 15, 3) := by decide +kernel
theorem dX0_init_14 : decode cX0_init 14 = .ok (.aload_n 0, 1) := by decide +kernel
theorem dX0_init_15 : decode cX0_init 15 = .ok (.iconst 0, 1) := by decide +kernel
theorem dX0_init_16 : decode cX0_init 16 = .ok (.putfield 19, 3) := by decide +kernel
theorem dX0_init_19 : decode cX0_init 19 = .ok (.aload_n 0, 1) := by decide +kernel
theorem dX0_init_20 : decode cX0_init 20 = .ok (.iconst 0, 1) := by decide +kernel
theorem dX0_init_21 : decode cX0_init 21 = .ok (.putfield 22, 3) := by decide +kernel
theorem dX0_init_24 : decode cX0_init 24 = .ok (.return_, 1) := by decide +kernel
theorem dX0_perform_0 : decode cX0_perform 0 = .ok (.aload_n 2, 1) := by decide +kernel
theorem dX0_perform_1 : decode cX0_perform 1 = .ok (.iload_n 3, 1) := by decide +kernel
theorem dX0_perform_2 : decode cX0_perform 2 = .ok (.invokevirtual 25, 3) := by decide +kernel
theorem dX0_perform_5 : decode cX0_perform 5 = .ok (.istore 4, 2) := by decide +kernel
theorem dX0_perform_7 : decode cX0_perform 7 = .ok (.aload_n 0, 1) := by decide +kernel
theorem dX0_perform_8 : decode cX0_perform 8 = .ok (.getfield 9, 3) := by decide +kernel
theorem dX0_perform_11 : decode cX0_perform 11 = .ok (.iload 4, 2) := by decide +kernel
theorem dX0_perform_13 : decode cX0_perform 13 = .ok (.invokevirtual 31, 3) := by decide +kernel
theorem dX0_perform_16 : decode cX0_perform 16 = .ok (.ifCond .ne 5, 3) := by decide +kernel
theorem dX0_perform_19 : decode cX0_perform 19 = .ok (.iconst 1, 1) := by decide +kernel
theorem dX0_perform_20 : decode cX0_perform 20 = .ok (.ireturn, 1) := by decide +kernel
theorem dX0_perform_21 : decode cX0_perform 21 = .ok (.aload_n 0, 1) := by decide +kernel
theorem dX0_perform_22 : decode cX0_perform 22 = .ok (.aload_n 1, 1) := by decide +kernel
theorem dX0_perform_23 : decode cX0_perform 23 = .ok (.aload_n 2, 1) := by decide +kernel
theorem dX0_perform_24 : decode cX0_perform 24 = .ok (.iload_n 3, 1) := by decide +kernel
theorem dX0_perform_25 : decode cX0_perform 25 = .ok (.invokevirtual 37, 3) := by decide +kernel
theorem dX0_perform_28 : decode cX0_perform 28 = .ok (.aload_n 0, 1) := by decide +kernel
theorem dX0_perform_29 : decode cX0_perform 29 = .ok (.getfield 15, 3) := by decide +kernel
theorem dX0_perform_32 : decode cX0_perform 32 = .ok (.aload_n 0, 1) := by decide +kernel
theorem dX0_perform_33 : decode cX0_perform 33 = .ok (.getfield 9, 3) := by decide +kernel
theorem dX0_perform_36 : decode cX0_perform 36 = .ok (.invokevirtual 41, 3) := by decide +kernel
theorem dX0_perform_39 : decode cX0_perform 39 = .ok (.if_icmp .ne 7, 3) := by decide +kernel
theorem dX0_perform_42 : decode cX0_perform 42 = .ok (.iconst 1, 1) := by decide +kernel
theorem dX0_perform_43 : decode cX0_perform 43 = .ok (.goto 4, 3) := by decide +kernel
theorem dX0_perform_46 : decode cX0_perform 46 = .ok (.iconst 0, 1) := by decide +kernel
theorem dX0_perform_47 : decode cX0_perform 47 = .ok (.istore 5, 2) := by decide +kernel
theorem dX0_perform_49 : decode cX0_perform 49 = .ok (.aload_n 0, 1) := by decide +kernel
theorem dX0_perform_50 : decode cX0_perform 50 = .ok (.getfield 9, 3) := by decide +kernel
theorem dX0_perform_53 : decode cX0_perform 53 = .ok (.iload 4, 2) := by decide +kernel
theorem dX0_perform_55 : decode cX0_perform 55 = .ok (.invokevirtual 45, 3) := by decide +kernel
theorem dX0_perform_58 : decode cX0_perform 58 = .ok (.istore 6, 2) := by decide +kernel
theorem dX0_perform_60 : decode cX0_perform 60 = .ok (.iconst 0, 1) := by decide +kernel
theorem dX0_perform_61 : decode cX0_perform 61 = .ok (.istore 7, 2) := by decide +kernel
theorem dX0_perform_63 : decode cX0_perform 63 = .ok (.iconst 0, 1) := by decide +kernel
theorem dX0_perform_64 : decode cX0_perform 64 = .ok (.istore 8, 2) := by decide +kernel
theorem dX0_perform_66 : decode cX0_perform 66 = .ok (.iload 8, 2) := by decide +kernel
theorem dX0_perform_68 : decode cX0_perform 68 = .ok (.iload 6, 2) := by decide +kernel
theorem dX0_perform_70 : decode cX0_perform 70 = .ok (.if_icmp .ge 65, 3) := by decide +kernel
theorem dX0_perform_73 : decode cX0_perform 73 = .ok (.iload 7, 2) := by decide +kernel
theorem dX0_perform_75 : decode cX0_perform 75 = .ok (.ifCond .ne 60, 3) := by decide +kernel
theorem dX0_perform_78 : decode cX0_perform 78 = .ok (.aload_n 0, 1) := by decide +kernel
theorem dX0_perform_79 : decode cX0_perform 79 = .ok (.getfield 9, 3) := by decide +kernel
theorem dX0_perform_82 : decode cX0_perform 82 = .ok (.iload 4, 2) := by decide +kernel
theorem dX0_perform_84 : decode cX0_perform 84 = .ok (.iload 8, 2) := by decide +kernel
theorem dX0_perform_86 : decode cX0_perform 86 = .ok (.invokevirtual 48, 3) := by decide +kernel
theorem dX0_perform_89 : decode cX0_perform 89 = .ok (.istore 9, 2) := by decide +kernel
theorem dX0_perform_91 : decode cX0_perform 91 = .ok (.iload 5, 2) := by decide +kernel
theorem dX0_perform_93 : decode cX0_perform 93 = .ok (.ifCond .eq 20, 3) := by decide +kernel
theorem dX0_perform_96 : decode cX0_perform 96 = .ok (.aload_n 0, 1) := by decide +kernel
theorem dX0_perform_97 : decode cX0_perform 97 = .ok (.aload_n 1, 1) := by decide +kernel
theorem dX0_perform_98 : decode cX0_perform 98 = .ok (.iload 9, 2) := by decide +kernel
theorem dX0_perform_100 : decode cX0_perform 100 = .ok (.iconst 4, 1) := by decide +kernel
theorem dX0_perform_101 : decode cX0_perform 101 = .ok (.ishr, 1) := by decide +kernel
theorem dX0_perform_102 : decode cX0_perform 102 = .ok (.iload 9, 2) := by decide +kernel
theorem dX0_perform_104 : decode cX0_perform 104 = .ok (.bipush 15, 2) := by decide +kernel
theorem dX0_perform_106 : decode cX0_perform 106 = .ok (.iand, 1) := by decide +kernel
theorem dX0_perform_107 : decode cX0_perform 107 = .ok (.invokevirtual 52, 3) := by decide +kernel
theorem dX0_perform_110 : decode cX0_perform 110 = .ok (.goto 17, 3) := by decide +kernel
theorem dX0_perform_113 : decode cX0_perform 113 = .ok (.aload_n 0, 1) := by decide +kernel
theorem dX0_perform_114 : decode cX0_perform 114 = .ok (.aload_n 1, 1) := by decide +kernel
theorem dX0_perform_115 : decode cX0_perform 115 = .ok (.iload 9, 2) := by decide +kernel
theorem dX0_perform_117 : decode cX0_perform 117 = .ok (.iconst 4, 1) := by decide +kernel
theorem dX0_perform_118 : decode cX0_perform 118 = .ok (.ishr, 1) := by decide +kernel
theorem dX0_perform_119 : decode cX0_perform 119 = .ok (.iload 9, 2) := by decide +kernel
theorem dX0_perform_121 : decode cX0_perform 121 = .ok (.bipush 15, 2) := by decide +kernel
theorem dX0_perform_123 : decode cX0_perform 123 = .ok (.iand, 1) := by decide +kernel
theorem dX0_perform_124 : decode cX0_perform 124 = .ok (.invokevirtual 56, 3) := by decide +kernel
theorem dX0_perform_127 : decode cX0_perform 127 = .ok (.istore 7, 2) := by decide +kernel
theorem dX0_perform_129 : decode cX0_perform 129 = .ok (.iinc 8 1, 3) := by decide +kernel
theorem dX0_perform_132 : decode cX0_perform 132 = .ok (.goto (-66), 3) := by decide +kernel
theorem dX0_perform_135 : decode cX0_perform 135 = .ok (.iload 7, 2) := by decide +kernel
theorem dX0_perform_137 : decode cX0_perform 137 = .ok (.ireturn, 1) := by decide +kernel
theorem dX0_takeUp_0 : decode cX0_takeUp 0 = .ok (.aload_n 0, 1) := by decide +kernel
theorem dX0_takeUp_1 : decode cX0_takeUp 1 = .ok (.aload_n 2, 1) := by decide +kernel
theorem dX0_takeUp_2 : decode cX0_takeUp 2 = .ok (.iload_n 3, 1) := by decide +kernel
theorem dX0_takeUp_3 : decode cX0_takeUp 3 = .ok (.invokevirtual 59, 3) := by decide +kernel
theorem dX0_takeUp_6 : decode cX0_takeUp 6 = .ok (.putfield 15, 3) := by decide +kernel
theorem dX0_takeUp_9 : decode cX0_takeUp 9 = .ok (.aload_n 2, 1) := by decide +kernel
theorem dX0_takeUp_10 : decode cX0_takeUp 10 = .ok (.iload_n 3, 1) := by decide +kernel
theorem dX0_takeUp_11 : decode cX0_takeUp 11 = .ok (.invokevirtual 62, 3) := by decide +kernel
theorem dX0_takeUp_14 : decode cX0_takeUp 14 = .ok (.iconst (-1), 1) := by decide +kernel
theorem dX0_takeUp_15 : decode cX0_takeUp 15 = .ok (.if_icmp .eq 33, 3) := by decide +kernel
theorem dX0_takeUp_18 : decode cX0_takeUp 18 = .ok (.aload_n 1, 1) := by decide +kernel
theorem dX0_takeUp_19 : decode cX0_takeUp 19 = .ok (.aload_n 2, 1) := by decide +kernel
theorem dX0_takeUp_20 : decode cX0_takeUp 20 = .ok (.iload_n 3, 1) := by decide +kernel
theorem dX0_takeUp_21 : decode cX0_takeUp 21 = .ok (.invokevirtual 62, 3) := by decide +kernel
theorem dX0_takeUp_24 : decode cX0_takeUp 24 = .ok (.invokevirtual 65, 3) := by decide +kernel
theorem dX0_takeUp_27 : decode cX0_takeUp 27 = .ok (.istore 4, 2) := by decide +kernel
theorem dX0_takeUp_29 : decode cX0_takeUp 29 = .ok (.aload_n 0, 1) := by decide +kernel
theorem dX0_takeUp_30 : decode cX0_takeUp 30 = .ok (.iload 4, 2) := by decide +kernel
theorem dX0_takeUp_32 : decode cX0_takeUp 32 = .ok (.invokestatic 70, 3) := by decide +kernel
theorem dX0_takeUp_35 : decode cX0_takeUp 35 = .ok (.putfield 19, 3) := by decide +kernel
theorem dX0_takeUp_38 : decode cX0_takeUp 38 = .ok (.aload_n 0, 1) := by decide +kernel
theorem dX0_takeUp_39 : decode cX0_takeUp 39 = .ok (.iload 4, 2) := by decide +kernel
theorem dX0_takeUp_41 : decode cX0_takeUp 41 = .ok (.invokestatic 75, 3) := by decide +kernel
theorem dX0_takeUp_44 : decode cX0_takeUp 44 = .ok (.putfield 22, 3) := by decide +kernel
theorem dX0_takeUp_47 : decode cX0_takeUp 47 = .ok (.return_, 1) := by decide +kernel
theorem dX0_takeUp_48 : decode cX0_takeUp 48 = .ok (.aload_n 0, 1) := by decide +kernel
theorem dX0_takeUp_49 : decode cX0_takeUp 49 = .ok (.aload_n 0, 1) := by decide +kernel
theorem dX0_takeUp_50 : decode cX0_takeUp 50 = .ok (.getfield 15, 3) := by decide +kernel
theorem dX0_takeUp_53 : decode cX0_takeUp 53 = .ok (.putfield 19, 3) := by decide +kernel
theorem dX0_takeUp_56 : decode cX0_takeUp 56 = .ok (.aload_n 0, 1) := by decide +kernel
theorem dX0_takeUp_57 : decode cX0_takeUp 57 = .ok (.iconst 0, 1) := by decide +kernel
theorem dX0_takeUp_58 : decode cX0_takeUp 58 = .ok (.putfield 22, 3) := by decide +kernel
theorem dX0_takeUp_61 : decode cX0_takeUp 61 = .ok (.aload_n 2, 1) := by decide +kernel
theorem dX0_takeUp_62 : decode cX0_takeUp 62 = .ok (.iload_n 3, 1) := by decide +kernel
theorem dX0_takeUp_63 : decode cX0_takeUp 63 = .ok (.invokevirtual 78, 3) := by decide +kernel
theorem dX0_takeUp_66 : decode cX0_takeUp 66 = .ok (.istore 4, 2) := by decide +kernel
theorem dX0_takeUp_68 : decode cX0_takeUp 68 = .ok (.iload 4, 2) := by decide +kernel
theorem dX0_takeUp_70 : decode cX0_takeUp 70 = .ok (.ifCond .eq 9, 3) := by decide +kernel
theorem dX0_takeUp_73 : decode cX0_takeUp 73 = .ok (.iload 4, 2) := by decide +kernel
theorem dX0_takeUp_75 : decode cX0_takeUp 75 = .ok (.iconst 1, 1) := by decide +kernel
theorem dX0_takeUp_76 : decode cX0_takeUp 76 = .ok (.if_icmp .ne 21, 3) := by decide +kernel
theorem dX0_takeUp_79 : decode cX0_takeUp 79 = .ok (.aload_n 1, 1) := by decide +kernel
theorem dX0_takeUp_80 : decode cX0_takeUp 80 = .ok (.aload_n 0, 1) := by decide +kernel
theorem dX0_takeUp_81 : decode cX0_takeUp 81 = .ok (.getfield 15, 3) := by decide +kernel
theorem dX0_takeUp_84 : decode cX0_takeUp 84 = .ok (.iload 4, 2) := by decide +kernel
theorem dX0_takeUp_86 : decode cX0_takeUp 86 = .ok (.ifCond .ne 7, 3) := by decide +kernel
theorem dX0_takeUp_89 : decode cX0_takeUp 89 = .ok (.iconst 1, 1) := by decide +kernel
theorem dX0_takeUp_90 : decode cX0_takeUp 90 = .ok (.goto 4, 3) := by decide +kernel
theorem dX0_takeUp_93 : decode cX0_takeUp 93 = .ok (.iconst 2, 1) := by decide +kernel
theorem dX0_takeUp_94 : decode cX0_takeUp 94 = .ok (.invokevirtual 81, 3) := by decide +kernel
theorem dX0_takeUp_97 : decode cX0_takeUp 97 = .ok (.return_, 1) := by decide +kernel
theorem dX0_cacheAct_0 : decode cX0_cacheAct 0 = .ok (.iload_n 2, 1) := by decide +kernel
theorem dX0_cacheAct_1 : decode cX0_cacheAct 1 = .ok (.tableswitch 206 1 8 #[47, 58, 79, 107, 125, 150, 164, 191], 47) := by decide +kernel
theorem dX0_cacheAct_48 : decode cX0_cacheAct 48 = .ok (.aload_n 1, 1) := by decide +kernel
theorem dX0_cacheAct_49 : decode cX0_cacheAct 49 = .ok (.aload_n 0, 1) := by decide +kernel
theorem dX0_cacheAct_50 : decode cX0_cacheAct 50 = .ok (.getfield 15, 3) := by decide +kernel
theorem dX0_cacheAct_53 : decode cX0_cacheAct 53 = .ok (.iload_n 3, 1) := by decide +kernel
theorem dX0_cacheAct_54 : decode cX0_cacheAct 54 = .ok (.invokevirtual 85, 3) := by decide +kernel
theorem dX0_cacheAct_57 : decode cX0_cacheAct 57 = .ok (.iconst 0, 1) := by decide +kernel
theorem dX0_cacheAct_58 : decode cX0_cacheAct 58 = .ok (.ireturn, 1) := by decide +kernel
theorem dX0_cacheAct_59 : decode cX0_cacheAct 59 = .ok (.aload_n 0, 1) := by decide +kernel
theorem dX0_cacheAct_60 : decode cX0_cacheAct 60 = .ok (.aload_n 1, 1) := by decide +kernel
theorem dX0_cacheAct_61 : decode cX0_cacheAct 61 = .ok (.iload_n 3, 1) := by decide +kernel
theorem dX0_cacheAct_62 : decode cX0_cacheAct 62 = .ok (.iconst 1, 1) := by decide +kernel
theorem dX0_cacheAct_63 : decode cX0_cacheAct 63 = .ok (.aload_n 0, 1) := by decide +kernel
theorem dX0_cacheAct_64 : decode cX0_cacheAct 64 = .ok (.getfield 9, 3) := by decide +kernel
theorem dX0_cacheAct_67 : decode cX0_cacheAct 67 = .ok (.invokevirtual 41, 3) := by decide +kernel
theorem dX0_cacheAct_70 : decode cX0_cacheAct 70 = .ok (.ishl, 1) := by decide +kernel
theorem dX0_cacheAct_71 : decode cX0_cacheAct 71 = .ok (.aload_n 0, 1) := by decide +kernel
theorem dX0_cacheAct_72 : decode cX0_cacheAct 72 = .ok (.getfield 15, 3) := by decide +kernel
theorem dX0_cacheAct_75 : decode cX0_cacheAct 75 = .ok (.iconst 0, 1) := by decide +kernel
theorem dX0_cacheAct_76 : decode cX0_cacheAct 76 = .ok (.invokevirtual 88, 3) := by decide +kernel
theorem dX0_cacheAct_79 : decode cX0_cacheAct 79 = .ok (.ireturn, 1) := by decide +kernel
theorem dX0_cacheAct_80 : decode cX0_cacheAct 80 = .ok (.aload_n 0, 1) := by decide +kernel
theorem dX0_cacheAct_81 : decode cX0_cacheAct 81 = .ok (.aload_n 1, 1) := by decide +kernel
theorem dX0_cacheAct_82 : decode cX0_cacheAct 82 = .ok (.iload_n 3, 1) := by decide +kernel
theorem dX0_cacheAct_83 : decode cX0_cacheAct 83 = .ok (.iconst 1, 1) := by decide +kernel
theorem dX0_cacheAct_84 : decode cX0_cacheAct 84 = .ok (.aload_n 0, 1) := by decide +kernel
theorem dX0_cacheAct_85 : decode cX0_cacheAct 85 = .ok (.getfield 9, 3) := by decide +kernel
theorem dX0_cacheAct_88 : decode cX0_cacheAct 88 = .ok (.invokevirtual 41, 3) := by decide +kernel
theorem dX0_cacheAct_91 : decode cX0_cacheAct 91 = .ok (.ishl, 1) := by decide +kernel
theorem dX0_cacheAct_92 : decode cX0_cacheAct 92 = .ok (.aload_n 0, 1) := by decide +kernel
theorem dX0_cacheAct_93 : decode cX0_cacheAct 93 = .ok (.getfield 15, 3) := by decide +kernel
theorem dX0_cacheAct_96 : decode cX0_cacheAct 96 = .ok (.aload_n 1, 1) := by decide +kernel
theorem dX0_cacheAct_97 : decode cX0_cacheAct 97 = .ok (.aload_n 0, 1) := by decide +kernel
theorem dX0_cacheAct_98 : decode cX0_cacheAct 98 = .ok (.getfield 15, 3) := by decide +kernel
theorem dX0_cacheAct_101 : decode cX0_cacheAct 101 = .ok (.invokevirtual 92, 3) := by decide +kernel
theorem dX0_cacheAct_104 : decode cX0_cacheAct 104 = .ok (.invokevirtual 88, 3) := by decide +kernel
theorem dX0_cacheAct_107 : decode cX0_cacheAct 107 = .ok (.ireturn, 1) := by decide +kernel
theorem dX0_cacheAct_108 : decode cX0_cacheAct 108 = .ok (.aload_n 0, 1) := by decide +kernel
theorem dX0_cacheAct_109 : decode cX0_cacheAct 109 = .ok (.aload_n 1, 1) := by decide +kernel
theorem dX0_cacheAct_110 : decode cX0_cacheAct 110 = .ok (.iload_n 3, 1) := by decide +kernel
theorem dX0_cacheAct_111 : decode cX0_cacheAct 111 = .ok (.iconst 1, 1) := by decide +kernel
theorem dX0_cacheAct_112 : decode cX0_cacheAct 112 = .ok (.aload_n 0, 1) := by decide +kernel
theorem dX0_cacheAct_113 : decode cX0_cacheAct 113 = .ok (.getfield 19, 3) := by decide +kernel
theorem dX0_cacheAct_116 : decode cX0_cacheAct 116 = .ok (.ishl, 1) := by decide +kernel
theorem dX0_cacheAct_117 : decode cX0_cacheAct 117 = .ok (.aload_n 0, 1) := by decide +kernel
theorem dX0_cacheAct_118 : decode cX0_cacheAct 118 = .ok (.getfield 19, 3) := by decide +kernel
theorem dX0_cacheAct_121 : decode cX0_cacheAct 121 = .ok (.iconst 0, 1) := by decide +kernel
theorem dX0_cacheAct_122 : decode cX0_cacheAct 122 = .ok (.invokevirtual 88, 3) := by decide +kernel
theorem dX0_cacheAct_125 : decode cX0_cacheAct 125 = .ok (.ireturn, 1) := by decide +kernel
theorem dX0_cacheAct_126 : decode cX0_cacheAct 126 = .ok (.aload_n 0, 1) := by decide +kernel
theorem dX0_cacheAct_127 : decode cX0_cacheAct 127 = .ok (.aload_n 1, 1) := by decide +kernel
theorem dX0_cacheAct_128 : decode cX0_cacheAct 128 = .ok (.iload_n 3, 1) := by decide +kernel
theorem dX0_cacheAct_129 : decode cX0_cacheAct 129 = .ok (.iconst 1, 1) := by decide +kernel
theorem dX0_cacheAct_130 : decode cX0_cacheAct 130 = .ok (.aload_n 0, 1) := by decide +kernel
theorem dX0_cacheAct_131 : decode cX0_cacheAct 131 = .ok (.getfield 19, 3) := by decide +kernel
theorem dX0_cacheAct_134 : decode cX0_cacheAct 134 = .ok (.ishl, 1) := by decide +kernel
theorem dX0_cacheAct_135 : decode cX0_cacheAct 135 = .ok (.aload_n 0, 1) := by decide +kernel
theorem dX0_cacheAct_136 : decode cX0_cacheAct 136 = .ok (.getfield 19, 3) := by decide +kernel
theorem dX0_cacheAct_139 : decode cX0_cacheAct 139 = .ok (.aload_n 1, 1) := by decide +kernel
theorem dX0_cacheAct_140 : decode cX0_cacheAct 140 = .ok (.aload_n 0, 1) := by decide +kernel
theorem dX0_cacheAct_141 : decode cX0_cacheAct 141 = .ok (.getfield 15, 3) := by decide +kernel
theorem dX0_cacheAct_144 : decode cX0_cacheAct 144 = .ok (.invokevirtual 92, 3) := by decide +kernel
theorem dX0_cacheAct_147 : decode cX0_cacheAct 147 = .ok (.invokevirtual 88, 3) := by decide +kernel
theorem dX0_cacheAct_150 : decode cX0_cacheAct 150 = .ok (.ireturn, 1) := by decide +kernel
theorem dX0_cacheAct_151 : decode cX0_cacheAct 151 = .ok (.aload_n 1, 1) := by decide +kernel
theorem dX0_cacheAct_152 : decode cX0_cacheAct 152 = .ok (.aload_n 0, 1) := by decide +kernel
theorem dX0_cacheAct_153 : decode cX0_cacheAct 153 = .ok (.getfield 15, 3) := by decide +kernel
theorem dX0_cacheAct_156 : decode cX0_cacheAct 156 = .ok (.aload_n 0, 1) := by decide +kernel
theorem dX0_cacheAct_157 : decode cX0_cacheAct 157 = .ok (.getfield 22, 3) := by decide +kernel
theorem dX0_cacheAct_160 : decode cX0_cacheAct 160 = .ok (.invokevirtual 93, 3) := by decide +kernel
theorem dX0_cacheAct_163 : decode cX0_cacheAct 163 = .ok (.iconst 0, 1) := by decide +kernel
theorem dX0_cacheAct_164 : decode cX0_cacheAct 164 = .ok (.ireturn, 1) := by decide +kernel
theorem dX0_cacheAct_165 : decode cX0_cacheAct 165 = .ok (.aload_n 1, 1) := by decide +kernel
theorem dX0_cacheAct_166 : decode cX0_cacheAct 166 = .ok (.aload_n 0, 1) := by decide +kernel
theorem dX0_cacheAct_167 : decode cX0_cacheAct 167 = .ok (.getfield 15, 3) := by decide +kernel
theorem dX0_cacheAct_170 : decode cX0_cacheAct 170 = .ok (.iconst 0, 1) := by decide +kernel
theorem dX0_cacheAct_171 : decode cX0_cacheAct 171 = .ok (.invokevirtual 81, 3) := by decide +kernel
theorem dX0_cacheAct_174 : decode cX0_cacheAct 174 = .ok (.aload_n 1, 1) := by decide +kernel
theorem dX0_cacheAct_175 : decode cX0_cacheAct 175 = .ok (.aload_n 0, 1) := by decide +kernel
theorem dX0_cacheAct_176 : decode cX0_cacheAct 176 = .ok (.getfield 15, 3) := by decide +kernel
theorem dX0_cacheAct_179 : decode cX0_cacheAct 179 = .ok (.invokevirtual 92, 3) := by decide +kernel
theorem dX0_cacheAct_182 : decode cX0_cacheAct 182 = .ok (.iconst 1, 1) := by decide +kernel
theorem dX0_cacheAct_183 : decode cX0_cacheAct 183 = .ok (.if_icmp .ne 7, 3) := by decide +kernel
theorem dX0_cacheAct_186 : decode cX0_cacheAct 186 = .ok (.iconst 0, 1) := by decide +kernel
theorem dX0_cacheAct_187 : decode cX0_cacheAct 187 = .ok (.goto 4, 3) := by decide +kernel
theorem dX0_cacheAct_190 : decode cX0_cacheAct 190 = .ok (.iconst 2, 1) := by decide +kernel
theorem dX0_cacheAct_191 : decode cX0_cacheAct 191 = .ok (.ireturn, 1) := by decide +kernel
theorem dX0_cacheAct_192 : decode cX0_cacheAct 192 = .ok (.aload_n 1, 1) := by decide +kernel
theorem dX0_cacheAct_193 : decode cX0_cacheAct 193 = .ok (.aload_n 0, 1) := by decide +kernel
theorem dX0_cacheAct_194 : decode cX0_cacheAct 194 = .ok (.getfield 15, 3) := by decide +kernel
theorem dX0_cacheAct_197 : decode cX0_cacheAct 197 = .ok (.invokevirtual 96, 3) := by decide +kernel
theorem dX0_cacheAct_200 : decode cX0_cacheAct 200 = .ok (.aload_n 0, 1) := by decide +kernel
theorem dX0_cacheAct_201 : decode cX0_cacheAct 201 = .ok (.iconst 0, 1) := by decide +kernel
theorem dX0_cacheAct_202 : decode cX0_cacheAct 202 = .ok (.putfield 22, 3) := by decide +kernel
theorem dX0_cacheAct_205 : decode cX0_cacheAct 205 = .ok (.iconst 0, 1) := by decide +kernel
theorem dX0_cacheAct_206 : decode cX0_cacheAct 206 = .ok (.ireturn, 1) := by decide +kernel
theorem dX0_cacheAct_207 : decode cX0_cacheAct 207 = .ok (.iconst 0, 1) := by decide +kernel
theorem dX0_cacheAct_208 : decode cX0_cacheAct 208 = .ok (.ireturn, 1) := by decide +kernel
theorem dX0_homeAct_0 : decode cX0_homeAct 0 = .ok (.iload_n 2, 1) := by decide +kernel
theorem dX0_homeAct_1 : decode cX0_homeAct 1 = .ok (.tableswitch 183 1 8 #[47, 58, 76, 101, 126, 143, 162, 169], 47) := by decide +kernel
theorem dX0_homeAct_48 : decode cX0_homeAct 48 = .ok (.aload_n 1, 1) := by decide +kernel
theorem dX0_homeAct_49 : decode cX0_homeAct 49 = .ok (.aload_n 0, 1) := by decide +kernel
theorem dX0_homeAct_50 : decode cX0_homeAct 50 = .ok (.getfield 15, 3) := by decide +kernel
theorem dX0_homeAct_53 : decode cX0_homeAct 53 = .ok (.iload_n 3, 1) := by decide +kernel
theorem dX0_homeAct_54 : decode cX0_homeAct 54 = .ok (.invokevirtual 85, 3) := by decide +kernel
theorem dX0_homeAct_57 : decode cX0_homeAct 57 = .ok (.iconst 0, 1) := by decide +kernel
theorem dX0_homeAct_58 : decode cX0_homeAct 58 = .ok (.ireturn, 1) := by decide +kernel
theorem dX0_homeAct_59 : decode cX0_homeAct 59 = .ok (.aload_n 0, 1) := by decide +kernel
theorem dX0_homeAct_60 : decode cX0_homeAct 60 = .ok (.aload_n 1, 1) := by decide +kernel
theorem dX0_homeAct_61 : decode cX0_homeAct 61 = .ok (.iload_n 3, 1) := by decide +kernel
theorem dX0_homeAct_62 : decode cX0_homeAct 62 = .ok (.iconst 1, 1) := by decide +kernel
theorem dX0_homeAct_63 : decode cX0_homeAct 63 = .ok (.aload_n 0, 1) := by decide +kernel
theorem dX0_homeAct_64 : decode cX0_homeAct 64 = .ok (.getfield 19, 3) := by decide +kernel
theorem dX0_homeAct_67 : decode cX0_homeAct 67 = .ok (.ishl, 1) := by decide +kernel
theorem dX0_homeAct_68 : decode cX0_homeAct 68 = .ok (.aload_n 0, 1) := by decide +kernel
theorem dX0_homeAct_69 : decode cX0_homeAct 69 = .ok (.getfield 19, 3) := by decide +kernel
theorem dX0_homeAct_72 : decode cX0_homeAct 72 = .ok (.iconst 0, 1) := by decide +kernel
theorem dX0_homeAct_73 : decode cX0_homeAct 73 = .ok (.invokevirtual 88, 3) := by decide +kernel
theorem dX0_homeAct_76 : decode cX0_homeAct 76 = .ok (.ireturn, 1) := by decide +kernel
theorem dX0_homeAct_77 : decode cX0_homeAct 77 = .ok (.aload_n 0, 1) := by decide +kernel
theorem dX0_homeAct_78 : decode cX0_homeAct 78 = .ok (.aload_n 1, 1) := by decide +kernel
theorem dX0_homeAct_79 : decode cX0_homeAct 79 = .ok (.iload_n 3, 1) := by decide +kernel
theorem dX0_homeAct_80 : decode cX0_homeAct 80 = .ok (.iconst 1, 1) := by decide +kernel
theorem dX0_homeAct_81 : decode cX0_homeAct 81 = .ok (.aload_n 0, 1) := by decide +kernel
theorem dX0_homeAct_82 : decode cX0_homeAct 82 = .ok (.getfield 19, 3) := by decide +kernel
theorem dX0_homeAct_85 : decode cX0_homeAct 85 = .ok (.ishl, 1) := by decide +kernel
theorem dX0_homeAct_86 : decode cX0_homeAct 86 = .ok (.aload_n 0, 1) := by decide +kernel
theorem dX0_homeAct_87 : decode cX0_homeAct 87 = .ok (.getfield 19, 3) := by decide +kernel
theorem dX0_homeAct_90 : decode cX0_homeAct 90 = .ok (.aload_n 1, 1) := by decide +kernel
theorem dX0_homeAct_91 : decode cX0_homeAct 91 = .ok (.aload_n 0, 1) := by decide +kernel
theorem dX0_homeAct_92 : decode cX0_homeAct 92 = .ok (.getfield 15, 3) := by decide +kernel
theorem dX0_homeAct_95 : decode cX0_homeAct 95 = .ok (.invokevirtual 92, 3) := by decide +kernel
theorem dX0_homeAct_98 : decode cX0_homeAct 98 = .ok (.invokevirtual 88, 3) := by decide +kernel
theorem dX0_homeAct_101 : decode cX0_homeAct 101 = .ok (.ireturn, 1) := by decide +kernel
theorem dX0_homeAct_102 : decode cX0_homeAct 102 = .ok (.aload_n 0, 1) := by decide +kernel
theorem dX0_homeAct_103 : decode cX0_homeAct 103 = .ok (.aload_n 1, 1) := by decide +kernel
theorem dX0_homeAct_104 : decode cX0_homeAct 104 = .ok (.iload_n 3, 1) := by decide +kernel
theorem dX0_homeAct_105 : decode cX0_homeAct 105 = .ok (.aload_n 1, 1) := by decide +kernel
theorem dX0_homeAct_106 : decode cX0_homeAct 106 = .ok (.invokevirtual 100, 3) := by decide +kernel
theorem dX0_homeAct_109 : decode cX0_homeAct 109 = .ok (.iconst 1, 1) := by decide +kernel
theorem dX0_homeAct_110 : decode cX0_homeAct 110 = .ok (.aload_n 0, 1) := by decide +kernel
theorem dX0_homeAct_111 : decode cX0_homeAct 111 = .ok (.getfield 19, 3) := by decide +kernel
theorem dX0_homeAct_114 : decode cX0_homeAct 114 = .ok (.ishl, 1) := by decide +kernel
theorem dX0_homeAct_115 : decode cX0_homeAct 115 = .ok (.iconst (-1), 1) := by decide +kernel
theorem dX0_homeAct_116 : decode cX0_homeAct 116 = .ok (.ixor, 1) := by decide +kernel
theorem dX0_homeAct_117 : decode cX0_homeAct 117 = .ok (.iand, 1) := by decide +kernel
theorem dX0_homeAct_118 : decode cX0_homeAct 118 = .ok (.aload_n 0, 1) := by decide +kernel
theorem dX0_homeAct_119 : decode cX0_homeAct 119 = .ok (.getfield 19, 3) := by decide +kernel
theorem dX0_homeAct_122 : decode cX0_homeAct 122 = .ok (.iconst 0, 1) := by decide +kernel
theorem dX0_homeAct_123 : decode cX0_homeAct 123 = .ok (.invokevirtual 88, 3) := by decide +kernel
theorem dX0_homeAct_126 : decode cX0_homeAct 126 = .ok (.ireturn, 1) := by decide +kernel
theorem dX0_homeAct_127 : decode cX0_homeAct 127 = .ok (.aload_n 1, 1) := by decide +kernel
theorem dX0_homeAct_128 : decode cX0_homeAct 128 = .ok (.aload_n 1, 1) := by decide +kernel
theorem dX0_homeAct_129 : decode cX0_homeAct 129 = .ok (.invokevirtual 100, 3) := by decide +kernel
theorem dX0_homeAct_132 : decode cX0_homeAct 132 = .ok (.iconst 1, 1) := by decide +kernel
theorem dX0_homeAct_133 : decode cX0_homeAct 133 = .ok (.aload_n 0, 1) := by decide +kernel
theorem dX0_homeAct_134 : decode cX0_homeAct 134 = .ok (.getfield 19, 3) := by decide +kernel
theorem dX0_homeAct_137 : decode cX0_homeAct 137 = .ok (.ishl, 1) := by decide +kernel
theorem dX0_homeAct_138 : decode cX0_homeAct 138 = .ok (.ior, 1) := by decide +kernel
theorem dX0_homeAct_139 : decode cX0_homeAct 139 = .ok (.invokevirtual 103, 3) := by decide +kernel
theorem dX0_homeAct_142 : decode cX0_homeAct 142 = .ok (.iconst 0, 1) := by decide +kernel
theorem dX0_homeAct_143 : decode cX0_homeAct 143 = .ok (.ireturn, 1) := by decide +kernel
theorem dX0_homeAct_144 : decode cX0_homeAct 144 = .ok (.aload_n 1, 1) := by decide +kernel
theorem dX0_homeAct_145 : decode cX0_homeAct 145 = .ok (.aload_n 1, 1) := by decide +kernel
theorem dX0_homeAct_146 : decode cX0_homeAct 146 = .ok (.invokevirtual 100, 3) := by decide +kernel
theorem dX0_homeAct_149 : decode cX0_homeAct 149 = .ok (.iconst 1, 1) := by decide +kernel
theorem dX0_homeAct_150 : decode cX0_homeAct 150 = .ok (.aload_n 0, 1) := by decide +kernel
theorem dX0_homeAct_151 : decode cX0_homeAct 151 = .ok (.getfield 19, 3) := by decide +kernel
theorem dX0_homeAct_154 : decode cX0_homeAct 154 = .ok (.ishl, 1) := by decide +kernel
theorem dX0_homeAct_155 : decode cX0_homeAct 155 = .ok (.iconst (-1), 1) := by decide +kernel
theorem dX0_homeAct_156 : decode cX0_homeAct 156 = .ok (.ixor, 1) := by decide +kernel
theorem dX0_homeAct_157 : decode cX0_homeAct 157 = .ok (.iand, 1) := by decide +kernel
theorem dX0_homeAct_158 : decode cX0_homeAct 158 = .ok (.invokevirtual 103, 3) := by decide +kernel
theorem dX0_homeAct_161 : decode cX0_homeAct 161 = .ok (.iconst 0, 1) := by decide +kernel
theorem dX0_homeAct_162 : decode cX0_homeAct 162 = .ok (.ireturn, 1) := by decide +kernel
theorem dX0_homeAct_163 : decode cX0_homeAct 163 = .ok (.aload_n 1, 1) := by decide +kernel
theorem dX0_homeAct_164 : decode cX0_homeAct 164 = .ok (.iconst 0, 1) := by decide +kernel
theorem dX0_homeAct_165 : decode cX0_homeAct 165 = .ok (.invokevirtual 103, 3) := by decide +kernel
theorem dX0_homeAct_168 : decode cX0_homeAct 168 = .ok (.iconst 0, 1) := by decide +kernel
theorem dX0_homeAct_169 : decode cX0_homeAct 169 = .ok (.ireturn, 1) := by decide +kernel
theorem dX0_homeAct_170 : decode cX0_homeAct 170 = .ok (.aload_n 1, 1) := by decide +kernel
theorem dX0_homeAct_171 : decode cX0_homeAct 171 = .ok (.aload_n 0, 1) := by decide +kernel
theorem dX0_homeAct_172 : decode cX0_homeAct 172 = .ok (.getfield 15, 3) := by decide +kernel
theorem dX0_homeAct_175 : decode cX0_homeAct 175 = .ok (.aload_n 0, 1) := by decide +kernel
theorem dX0_homeAct_176 : decode cX0_homeAct 176 = .ok (.getfield 22, 3) := by decide +kernel
theorem dX0_homeAct_179 : decode cX0_homeAct 179 = .ok (.invokevirtual 93, 3) := by decide +kernel
theorem dX0_homeAct_182 : decode cX0_homeAct 182 = .ok (.iconst 0, 1) := by decide +kernel
theorem dX0_homeAct_183 : decode cX0_homeAct 183 = .ok (.ireturn, 1) := by decide +kernel
theorem dX0_homeAct_184 : decode cX0_homeAct 184 = .ok (.iconst 0, 1) := by decide +kernel
theorem dX0_homeAct_185 : decode cX0_homeAct 185 = .ok (.ireturn, 1) := by decide +kernel
theorem dX0_send_0 : decode cX0_send 0 = .ok (.aload_n 0, 1) := by decide +kernel
theorem dX0_send_1 : decode cX0_send 1 = .ok (.getfield 9, 3) := by decide +kernel
theorem dX0_send_4 : decode cX0_send 4 = .ok (.iload_n 2, 1) := by decide +kernel
theorem dX0_send_5 : decode cX0_send 5 = .ok (.invokevirtual 106, 3) := by decide +kernel
theorem dX0_send_8 : decode cX0_send 8 = .ok (.istore 6, 2) := by decide +kernel
theorem dX0_send_10 : decode cX0_send 10 = .ok (.iconst 0, 1) := by decide +kernel
theorem dX0_send_11 : decode cX0_send 11 = .ok (.istore 7, 2) := by decide +kernel
theorem dX0_send_13 : decode cX0_send 13 = .ok (.iload 7, 2) := by decide +kernel
theorem dX0_send_15 : decode cX0_send 15 = .ok (.iconst 4, 1) := by decide +kernel
theorem dX0_send_16 : decode cX0_send 16 = .ok (.if_icmp .gt 56, 3) := by decide +kernel
theorem dX0_send_19 : decode cX0_send 19 = .ok (.iload_n 3, 1) := by decide +kernel
theorem dX0_send_20 : decode cX0_send 20 = .ok (.iload 7, 2) := by decide +kernel
theorem dX0_send_22 : decode cX0_send 22 = .ok (.ishr, 1) := by decide +kernel
theorem dX0_send_23 : decode cX0_send 23 = .ok (.iconst 1, 1) := by decide +kernel
theorem dX0_send_24 : decode cX0_send 24 = .ok (.iand, 1) := by decide +kernel
theorem dX0_send_25 : decode cX0_send 25 = .ok (.iconst 1, 1) := by decide +kernel
theorem dX0_send_26 : decode cX0_send 26 = .ok (.if_icmp .ne 7, 3) := by decide +kernel
theorem dX0_send_29 : decode cX0_send 29 = .ok (.iconst 1, 1) := by decide +kernel
theorem dX0_send_30 : decode cX0_send 30 = .ok (.goto 4, 3) := by decide +kernel
theorem dX0_send_33 : decode cX0_send 33 = .ok (.iconst 0, 1) := by decide +kernel
theorem dX0_send_34 : decode cX0_send 34 = .ok (.istore 8, 2) := by decide +kernel
theorem dX0_send_36 : decode cX0_send 36 = .ok (.iload 8, 2) := by decide +kernel
theorem dX0_send_38 : decode cX0_send 38 = .ok (.ifCond .eq 28, 3) := by decide +kernel
theorem dX0_send_41 : decode cX0_send 41 = .ok (.aload_n 1, 1) := by decide +kernel
theorem dX0_send_42 : decode cX0_send 42 = .ok (.iload_n 2, 1) := by decide +kernel
theorem dX0_send_43 : decode cX0_send 43 = .ok (.iload 6, 2) := by decide +kernel
theorem dX0_send_45 : decode cX0_send 45 = .ok (.aload_n 0, 1) := by decide +kernel
theorem dX0_send_46 : decode cX0_send 46 = .ok (.getfield 15, 3) := by decide +kernel
theorem dX0_send_49 : decode cX0_send 49 = .ok (.iload 7, 2) := by decide +kernel
theorem dX0_send_51 : decode cX0_send 51 = .ok (.iload 4, 2) := by decide +kernel
theorem dX0_send_53 : decode cX0_send 53 = .ok (.iload 5, 2) := by decide +kernel
theorem dX0_send_55 : decode cX0_send 55 = .ok (.invokestatic 109, 3) := by decide +kernel
theorem dX0_send_58 : decode cX0_send 58 = .ok (.invokevirtual 113, 3) := by decide +kernel
theorem dX0_send_61 : decode cX0_send 61 = .ok (.ifCond .ne 5, 3) := by decide +kernel
theorem dX0_send_64 : decode cX0_send 64 = .ok (.iconst 3, 1) := by decide +kernel
theorem dX0_send_65 : decode cX0_send 65 = .ok (.ireturn, 1) := by decide +kernel
theorem dX0_send_66 : decode cX0_send 66 = .ok (.iinc 7 1, 3) := by decide +kernel
theorem dX0_send_69 : decode cX0_send 69 = .ok (.goto (-56), 3) := by decide +kernel
theorem dX0_send_72 : decode cX0_send 72 = .ok (.iconst 0, 1) := by decide +kernel
theorem dX0_send_73 : decode cX0_send 73 = .ok (.ireturn, 1) := by decide +kernel
theorem dX1_init_0 : decode cX1_init 0 = .ok (.aload_n 0, 1) := by decide +kernel
theorem dX1_init_1 : decode cX1_init 1 = .ok (.invokespecial 3, 3) := by decide +kernel
theorem dX1_init_4 : decode cX1_init 4 = .ok (.aload_n 0, 1) := by decide +kernel
theorem dX1_init_5 : decode cX1_init 5 = .ok (.aload_n 1, 1) := by decide +kernel
theorem dX1_init_6 : decode cX1_init 6 = .ok (.putfield 9, 3) := by decide +kernel
theorem dX1_init_9 : decode cX1_init 9 = .ok (.aload_n 0, 1) := by decide +kernel
theorem dX1_init_10 : decode cX1_init 10 = .ok (.aload_n 2, 1) := by decide +kernel
theorem dX1_init_11 : decode cX1_init 11 = .ok (.putfield 15, 3) := by decide +kernel
theorem dX1_init_14 : decode cX1_init 14 = .ok (.aload_n 0, 1) := by decide +kernel
theorem dX1_init_15 : decode cX1_init 15 = .ok (.new 19, 3) := by decide +kernel
theorem dX1_init_18 : decode cX1_init 18 = .ok (.dup, 1) := by decide +kernel
theorem dX1_init_19 : decode cX1_init 19 = .ok (.invokespecial 21, 3) := by decide +kernel
theorem dX1_init_22 : decode cX1_init 22 = .ok (.putfield 22, 3) := by decide +kernel
theorem dX1_init_25 : decode cX1_init 25 = .ok (.aload_n 0, 1) := by decide +kernel
theorem dX1_init_26 : decode cX1_init 26 = .ok (.new 19, 3) := by decide +kernel
theorem dX1_init_29 : decode cX1_init 29 = .ok (.dup, 1) := by decide +kernel
theorem dX1_init_30 : decode cX1_init 30 = .ok (.invokespecial 21, 3) := by decide +kernel
theorem dX1_init_33 : decode cX1_init 33 = .ok (.putfield 26, 3) := by decide +kernel
theorem dX1_init_36 : decode cX1_init 36 = .ok (.aload_n 0, 1) := by decide +kernel
theorem dX1_init_37 : decode cX1_init 37 = .ok (.new 29, 3) := by decide +kernel
theorem dX1_init_40 : decode cX1_init 40 = .ok (.dup, 1) := by decide +kernel
theorem dX1_init_41 : decode cX1_init 41 = .ok (.aload_n 1, 1) := by decide +kernel
theorem dX1_init_42 : decode cX1_init 42 = .ok (.invokespecial 31, 3) := by decide +kernel
theorem dX1_init_45 : decode cX1_init 45 = .ok (.putfield 34, 3) := by decide +kernel
theorem dX1_init_48 : decode cX1_init 48 = .ok (.aload_n 0, 1) := by decide +kernel
theorem dX1_init_49 : decode cX1_init 49 = .ok (.new 38, 3) := by decide +kernel
theorem dX1_init_52 : decode cX1_init 52 = .ok (.dup, 1) := by decide +kernel
theorem dX1_init_53 : decode cX1_init 53 = .ok (.invokespecial 40, 3) := by decide +kernel
theorem dX1_init_56 : decode cX1_init 56 = .ok (.putfield 41, 3) := by decide +kernel
theorem dX1_init_59 : decode cX1_init 59 = .ok (.aload_n 0, 1) := by decide +kernel
theorem dX1_init_60 : decode cX1_init 60 = .ok (.new 45, 3) := by decide +kernel
theorem dX1_init_63 : decode cX1_init 63 = .ok (.dup, 1) := by decide +kernel
theorem dX1_init_64 : decode cX1_init 64 = .ok (.invokespecial 47, 3) := by decide +kernel
theorem dX1_init_67 : decode cX1_init 67 = .ok (.putfield 48, 3) := by decide +kernel
theorem dX1_init_70 : decode cX1_init 70 = .ok (.aload_n 0, 1) := by decide +kernel
theorem dX1_init_71 : decode cX1_init 71 = .ok (.new 52, 3) := by decide +kernel
theorem dX1_init_74 : decode cX1_init 74 = .ok (.dup, 1) := by decide +kernel
theorem dX1_init_75 : decode cX1_init 75 = .ok (.invokespecial 54, 3) := by decide +kernel
theorem dX1_init_78 : decode cX1_init 78 = .ok (.putfield 55, 3) := by decide +kernel
theorem dX1_init_81 : decode cX1_init 81 = .ok (.aload_n 0, 1) := by decide +kernel
theorem dX1_init_82 : decode cX1_init 82 = .ok (.new 52, 3) := by decide +kernel
theorem dX1_init_85 : decode cX1_init 85 = .ok (.dup, 1) := by decide +kernel
theorem dX1_init_86 : decode cX1_init 86 = .ok (.invokespecial 54, 3) := by decide +kernel
theorem dX1_init_89 : decode cX1_init 89 = .ok (.putfield 59, 3) := by decide +kernel
theorem dX1_init_92 : decode cX1_init 92 = .ok (.aload_n 0, 1) := by decide +kernel
theorem dX1_init_93 : decode cX1_init 93 = .ok (.new 62, 3) := by decide +kernel
theorem dX1_init_96 : decode cX1_init 96 = .ok (.dup, 1) := by decide +kernel
theorem dX1_init_97 : decode cX1_init 97 = .ok (.invokespecial 64, 3) := by decide +kernel
theorem dX1_init_100 : decode cX1_init 100 = .ok (.putfield 65, 3) := by decide +kernel
theorem dX1_init_103 : decode cX1_init 103 = .ok (.aload_n 0, 1) := by decide +kernel
theorem dX1_init_104 : decode cX1_init 104 = .ok (.sipush 4000, 3) := by decide +kernel
theorem dX1_init_107 : decode cX1_init 107 = .ok (.newarray .int, 2) := by decide +kernel
theorem dX1_init_109 : decode cX1_init 109 = .ok (.putfield 69, 3) := by decide +kernel
theorem dX1_init_112 : decode cX1_init 112 = .ok (.aload_n 0, 1) := by decide +kernel
theorem dX1_init_113 : decode cX1_init 113 = .ok (.sipush 4000, 3) := by decide +kernel
theorem dX1_init_116 : decode cX1_init 116 = .ok (.newarray .int, 2) := by decide +kernel
theorem dX1_init_118 : decode cX1_init 118 = .ok (.putfield 73, 3) := by decide +kernel
theorem dX1_init_121 : decode cX1_init 121 = .ok (.aload_n 0, 1) := by decide +kernel
theorem dX1_init_122 : decode cX1_init 122 = .ok (.sipush 2048, 3) := by decide +kernel
theorem dX1_init_125 : decode cX1_init 125 = .ok (.newarray .int, 2) := by decide +kernel
theorem dX1_init_127 : decode cX1_init 127 = .ok (.putfield 76, 3) := by decide +kernel
theorem dX1_init_130 : decode cX1_init 130 = .ok (.aload_n 0, 1) := by decide +kernel
theorem dX1_init_131 : decode cX1_init 131 = .ok (.iconst 0, 1) := by decide +kernel
theorem dX1_init_132 : decode cX1_init 132 = .ok (.putfield 79, 3) := by decide +kernel
theorem dX1_init_135 : decode cX1_init 135 = .ok (.aload_n 0, 1) := by decide +kernel
theorem dX1_init_136 : decode cX1_init 136 = .ok (.iconst 0, 1) := by decide +kernel
theorem dX1_init_137 : decode cX1_init 137 = .ok (.putfield 83, 3) := by decide +kernel
theorem dX1_init_140 : decode cX1_init 140 = .ok (.aload_n 0, 1) := by decide +kernel
theorem dX1_init_141 : decode cX1_init 141 = .ok (.iconst 0, 1) := by decide +kernel
theorem dX1_init_142 : decode cX1_init 142 = .ok (.putfield 86, 3) := by decide +kernel
theorem dX1_init_145 : decode cX1_init 145 = .ok (.aload_n 0, 1) := by decide +kernel
theorem dX1_init_146 : decode cX1_init 146 = .ok (.iconst 0, 1) := by decide +kernel
theorem dX1_init_147 : decode cX1_init 147 = .ok (.putfield 89, 3) := by decide +kernel
theorem dX1_init_150 : decode cX1_init 150 = .ok (.return_, 1) := by decide +kernel
theorem dX1_begin_0 : decode cX1_begin 0 = .ok (.aload_n 0, 1) := by decide +kernel
theorem dX1_begin_1 : decode cX1_begin 1 = .ok (.getfield 41, 3) := by decide +kernel
theorem dX1_begin_4 : decode cX1_begin 4 = .ok (.invokevirtual 93, 3) := by decide +kernel
theorem dX1_begin_7 : decode cX1_begin 7 = .ok (.aload_n 0, 1) := by decide +kernel
theorem dX1_begin_8 : decode cX1_begin 8 = .ok (.getfield 48, 3) := by decide +kernel
theorem dX1_begin_11 : decode cX1_begin 11 = .ok (.invokevirtual 96, 3) := by decide +kernel
theorem dX1_begin_14 : decode cX1_begin 14 = .ok (.aload_n 0, 1) := by decide +kernel
theorem dX1_begin_15 : decode cX1_begin 15 = .ok (.getfield 55, 3) := by decide +kernel
theorem dX1_begin_18 : decode cX1_begin 18 = .ok (.invokevirtual 97, 3) := by decide +kernel
theorem dX1_begin_21 : decode cX1_begin 21 = .ok (.aload_n 0, 1) := by decide +kernel
theorem dX1_begin_22 : decode cX1_begin 22 = .ok (.getfield 59, 3) := by decide +kernel
theorem dX1_begin_25 : decode cX1_begin 25 = .ok (.invokevirtual 97, 3) := by decide +kernel
theorem dX1_begin_28 : decode cX1_begin 28 = .ok (.aload_n 0, 1) := by decide +kernel
theorem dX1_begin_29 : decode cX1_begin 29 = .ok (.getfield 65, 3) := by decide +kernel
theorem dX1_begin_32 : decode cX1_begin 32 = .ok (.invokevirtual 98, 3) := by decide +kernel
theorem dX1_begin_35 : decode cX1_begin 35 = .ok (.aload_n 0, 1) := by decide +kernel
theorem dX1_begin_36 : decode cX1_begin 36 = .ok (.getfield 76, 3) := by decide +kernel
theorem dX1_begin_39 : decode cX1_begin 39 = .ok (.iconst 0, 1) := by decide +kernel
theorem dX1_begin_40 : decode cX1_begin 40 = .ok (.invokestatic 99, 3) := by decide +kernel
theorem dX1_begin_43 : decode cX1_begin 43 = .ok (.aload_n 0, 1) := by decide +kernel
theorem dX1_begin_44 : decode cX1_begin 44 = .ok (.iload_n 1, 1) := by decide +kernel
theorem dX1_begin_45 : decode cX1_begin 45 = .ok (.putfield 79, 3) := by decide +kernel
theorem dX1_begin_48 : decode cX1_begin 48 = .ok (.aload_n 0, 1) := by decide +kernel
theorem dX1_begin_49 : decode cX1_begin 49 = .ok (.iconst 0, 1) := by decide +kernel
theorem dX1_begin_50 : decode cX1_begin 50 = .ok (.putfield 83, 3) := by decide +kernel
theorem dX1_begin_53 : decode cX1_begin 53 = .ok (.aload_n 0, 1) := by decide +kernel
theorem dX1_begin_54 : decode cX1_begin 54 = .ok (.iconst 0, 1) := by decide +kernel
theorem dX1_begin_55 : decode cX1_begin 55 = .ok (.putfield 86, 3) := by decide +kernel
theorem dX1_begin_58 : decode cX1_begin 58 = .ok (.aload_n 0, 1) := by decide +kernel
theorem dX1_begin_59 : decode cX1_begin 59 = .ok (.iconst 0, 1) := by decide +kernel
theorem dX1_begin_60 : decode cX1_begin 60 = .ok (.putfield 89, 3) := by decide +kernel
theorem dX1_begin_63 : decode cX1_begin 63 = .ok (.aload_n 0, 1) := by decide +kernel
theorem dX1_begin_64 : decode cX1_begin 64 = .ok (.getfield 26, 3) := by decide +kernel
theorem dX1_begin_67 : decode cX1_begin 67 = .ok (.aload_n 0, 1) := by decide +kernel
theorem dX1_begin_68 : decode cX1_begin 68 = .ok (.getfield 9, 3) := by decide +kernel
theorem dX1_begin_71 : decode cX1_begin 71 = .ok (.invokevirtual 105, 3) := by decide +kernel
theorem dX1_begin_74 : decode cX1_begin 74 = .ok (.invokevirtual 111, 3) := by decide +kernel
theorem dX1_begin_77 : decode cX1_begin 77 = .ok (.aload_n 0, 1) := by decide +kernel
theorem dX1_begin_78 : decode cX1_begin 78 = .ok (.iconst (-1), 1) := by decide +kernel
theorem dX1_begin_79 : decode cX1_begin 79 = .ok (.iconst 0, 1) := by decide +kernel
theorem dX1_begin_80 : decode cX1_begin 80 = .ok (.invokevirtual 115, 3) := by decide +kernel
theorem dX1_begin_83 : decode cX1_begin 83 = .ok (.pop, 1) := by decide +kernel
theorem dX1_begin_84 : decode cX1_begin 84 = .ok (.return_, 1) := by decide +kernel
theorem dX1_visit_0 : decode cX1_visit 0 = .ok (.aload_n 0, 1) := by decide +kernel
theorem dX1_visit_1 : decode cX1_visit 1 = .ok (.getfield 41, 3) := by decide +kernel
theorem dX1_visit_4 : decode cX1_visit 4 = .ok (.iload_n 1, 1) := by decide +kernel
theorem dX1_visit_5 : decode cX1_visit 5 = .ok (.aload_n 0, 1) := by decide +kernel
theorem dX1_visit_6 : decode cX1_visit 6 = .ok (.getfield 22, 3) := by decide +kernel
theorem dX1_visit_9 : decode cX1_visit 9 = .ok (.invokevirtual 119, 3) := by decide +kernel
theorem dX1_visit_12 : decode cX1_visit 12 = .ok (.aload_n 0, 1) := by decide +kernel
theorem dX1_visit_13 : decode cX1_visit 13 = .ok (.getfield 34, 3) := by decide +kernel
theorem dX1_visit_16 : decode cX1_visit 16 = .ok (.aload_n 0, 1) := by decide +kernel
theorem dX1_visit_17 : decode cX1_visit 17 = .ok (.getfield 22, 3) := by decide +kernel
theorem dX1_visit_20 : decode cX1_visit 20 = .ok (.invokevirtual 123, 3) := by decide +kernel
theorem dX1_visit_23 : decode cX1_visit 23 = .ok (.aload_n 0, 1) := by decide +kernel
theorem dX1_visit_24 : decode cX1_visit 24 = .ok (.getfield 22, 3) := by decide +kernel
theorem dX1_visit_27 : decode cX1_visit 27 = .ok (.invokevirtual 127, 3) := by decide +kernel
theorem dX1_visit_30 : decode cX1_visit 30 = .ok (.ifCond .eq 24, 3) := by decide +kernel
theorem dX1_visit_33 : decode cX1_visit 33 = .ok (.aload_n 0, 1) := by decide +kernel
theorem dX1_visit_34 : decode cX1_visit 34 = .ok (.dup, 1) := by decide +kernel
theorem dX1_visit_35 : decode cX1_visit 35 = .ok (.getfield 86, 3) := by decide +kernel
theorem dX1_visit_38 : decode cX1_visit 38 = .ok (.iconst 1, 1) := by decide +kernel
theorem dX1_visit_39 : decode cX1_visit 39 = .ok (.iadd, 1) := by decide +kernel
theorem dX1_visit_40 : decode cX1_visit 40 = .ok (.putfield 86, 3) := by decide +kernel
theorem dX1_visit_43 : decode cX1_visit 43 = .ok (.aload_n 0, 1) := by decide +kernel
theorem dX1_visit_44 : decode cX1_visit 44 = .ok (.getfield 65, 3) := by decide +kernel
theorem dX1_visit_47 : decode cX1_visit 47 = .ok (.iload_n 1, 1) := by decide +kernel
theorem dX1_visit_48 : decode cX1_visit 48 = .ok (.invokevirtual 131, 3) := by decide +kernel
theorem dX1_visit_51 : decode cX1_visit 51 = .ok (.goto 21, 3) := by decide +kernel
theorem dX1_visit_54 : decode cX1_visit 54 = .ok (.aload_n 0, 1) := by decide +kernel
theorem dX1_visit_55 : decode cX1_visit 55 = .ok (.getfield 34, 3) := by decide +kernel
theorem dX1_visit_58 : decode cX1_visit 58 = .ok (.invokevirtual 134, 3) := by decide +kernel
theorem dX1_visit_61 : decode cX1_visit 61 = .ok (.ifCond .ne 11, 3) := by decide +kernel
theorem dX1_visit_64 : decode cX1_visit 64 = .ok (.aload_n 0, 1) := by decide +kernel
theorem dX1_visit_65 : decode cX1_visit 65 = .ok (.getfield 55, 3) := by decide +kernel
theorem dX1_visit_68 : decode cX1_visit 68 = .ok (.iload_n 1, 1) := by decide +kernel
theorem dX1_visit_69 : decode cX1_visit 69 = .ok (.invokevirtual 137, 3) := by decide +kernel
theorem dX1_visit_72 : decode cX1_visit 72 = .ok (.iconst 0, 1) := by decide +kernel
theorem dX1_visit_73 : decode cX1_visit 73 = .ok (.istore_n 2, 1) := by decide +kernel
theorem dX1_visit_74 : decode cX1_visit 74 = .ok (.iload_n 2, 1) := by decide +kernel
theorem dX1_visit_75 : decode cX1_visit 75 = .ok (.aload_n 0, 1) := by decide +kernel
theorem dX1_visit_76 : decode cX1_visit 76 = .ok (.getfield 34, 3) := by decide +kernel
theorem dX1_visit_79 : decode cX1_visit 79 = .ok (.invokevirtual 134, 3) := by decide +kernel
theorem dX1_visit_82 : decode cX1_visit 82 = .ok (.if_icmp .ge 15, 3) := by decide +kernel
theorem dX1_visit_85 : decode cX1_visit 85 = .ok (.aload_n 0, 1) := by decide +kernel
theorem dX1_visit_86 : decode cX1_visit 86 = .ok (.iload_n 1, 1) := by decide +kernel
theorem dX1_visit_87 : decode cX1_visit 87 = .ok (.iload_n 2, 1) := by decide +kernel
theorem dX1_visit_88 : decode cX1_visit 88 = .ok (.invokevirtual 140, 3) := by decide +kernel
theorem dX1_visit_91 : decode cX1_visit 91 = .ok (.iinc 2 1, 3) := by decide +kernel
theorem dX1_visit_94 : decode cX1_visit 94 = .ok (.goto (-20), 3) := by decide +kernel
theorem dX1_visit_97 : decode cX1_visit 97 = .ok (.return_, 1) := by decide +kernel
theorem dX1_finish_0 : decode cX1_finish 0 = .ok (.aload_n 0, 1) := by decide +kernel
theorem dX1_finish_1 : decode cX1_finish 1 = .ok (.getfield 65, 3) := by decide +kernel
theorem dX1_finish_4 : decode cX1_finish 4 = .ok (.invokevirtual 144, 3) := by decide +kernel
theorem dX1_finish_7 : decode cX1_finish 7 = .ok (.iconst 0, 1) := by decide +kernel
theorem dX1_finish_8 : decode cX1_finish 8 = .ok (.istore_n 1, 1) := by decide +kernel
theorem dX1_finish_9 : decode cX1_finish 9 = .ok (.iload_n 1, 1) := by decide +kernel
theorem dX1_finish_10 : decode cX1_finish 10 = .ok (.aload_n 0, 1) := by decide +kernel
theorem dX1_finish_11 : decode cX1_finish 11 = .ok (.getfield 41, 3) := by decide +kernel
theorem dX1_finish_14 : decode cX1_finish 14 = .ok (.invokevirtual 147, 3) := by decide +kernel
theorem dX1_finish_17 : decode cX1_finish 17 = .ok (.if_icmp .ge 28, 3) := by decide +kernel
theorem dX1_finish_20 : decode cX1_finish 20 = .ok (.aload_n 0, 1) := by decide +kernel
theorem dX1_finish_21 : decode cX1_finish 21 = .ok (.getfield 65, 3) := by decide +kernel
theorem dX1_finish_24 : decode cX1_finish 24 = .ok (.iload_n 1, 1) := by decide +kernel
theorem dX1_finish_25 : decode cX1_finish 25 = .ok (.invokevirtual 148, 3) := by decide +kernel
theorem dX1_finish_28 : decode cX1_finish 28 = .ok (.ifCond .ne 11, 3) := by decide +kernel
theorem dX1_finish_31 : decode cX1_finish 31 = .ok (.aload_n 0, 1) := by decide +kernel
theorem dX1_finish_32 : decode cX1_finish 32 = .ok (.getfield 59, 3) := by decide +kernel
theorem dX1_finish_35 : decode cX1_finish 35 = .ok (.iload_n 1, 1) := by decide +kernel
theorem dX1_finish_36 : decode cX1_finish 36 = .ok (.invokevirtual 137, 3) := by decide +kernel
theorem dX1_finish_39 : decode cX1_finish 39 = .ok (.iinc 1 1, 3) := by decide +kernel
theorem dX1_finish_42 : decode cX1_finish 42 = .ok (.goto (-33), 3) := by decide +kernel
theorem dX1_finish_45 : decode cX1_finish 45 = .ok (.return_, 1) := by decide +kernel
theorem dX1_tryStep_0 : decode cX1_tryStep 0 = .ok (.aload_n 0, 1) := by decide +kernel
theorem dX1_tryStep_1 : decode cX1_tryStep 1 = .ok (.dup, 1) := by decide +kernel
theorem dX1_tryStep_2 : decode cX1_tryStep 2 = .ok (.getfield 83, 3) := by decide +kernel
theorem dX1_tryStep_5 : decode cX1_tryStep 5 = .ok (.iconst 1, 1) := by decide +kernel
theorem dX1_tryStep_6 : decode cX1_tryStep 6 = .ok (.iadd, 1) := by decide +kernel
theorem dX1_tryStep_7 : decode cX1_tryStep 7 = .ok (.putfield 83, 3) := by decide +kernel
theorem dX1_tryStep_10 : decode cX1_tryStep 10 = .ok (.aload_n 0, 1) := by decide +kernel
theorem dX1_tryStep_11 : decode cX1_tryStep 11 = .ok (.aload_n 0, 1) := by decide +kernel
theorem dX1_tryStep_12 : decode cX1_tryStep 12 = .ok (.getfield 34, 3) := by decide +kernel
theorem dX1_tryStep_15 : decode cX1_tryStep 15 = .ok (.iload_n 2, 1) := by decide +kernel
theorem dX1_tryStep_16 : decode cX1_tryStep 16 = .ok (.invokevirtual 152, 3) := by decide +kernel
theorem dX1_tryStep_19 : decode cX1_tryStep 19 = .ok (.invokevirtual 156, 3) := by decide +kernel
theorem dX1_tryStep_22 : decode cX1_tryStep 22 = .ok (.aload_n 0, 1) := by decide +kernel
theorem dX1_tryStep_23 : decode cX1_tryStep 23 = .ok (.getfield 26, 3) := by decide +kernel
theorem dX1_tryStep_26 : decode cX1_tryStep 26 = .ok (.aload_n 0, 1) := by decide +kernel
theorem dX1_tryStep_27 : decode cX1_tryStep 27 = .ok (.getfield 22, 3) := by decide +kernel
theorem dX1_tryStep_30 : decode cX1_tryStep 30 = .ok (.invokevirtual 159, 3) := by decide +kernel
theorem dX1_tryStep_33 : decode cX1_tryStep 33 = .ok (.aload_n 0, 1) := by decide +kernel
theorem dX1_tryStep_34 : decode cX1_tryStep 34 = .ok (.getfield 15, 3) := by decide +kernel
theorem dX1_tryStep_37 : decode cX1_tryStep 37 = .ok (.aload_n 0, 1) := by decide +kernel
theorem dX1_tryStep_38 : decode cX1_tryStep 38 = .ok (.getfield 26, 3) := by decide +kernel
theorem dX1_tryStep_41 : decode cX1_tryStep 41 = .ok (.aload_n 0, 1) := by decide +kernel
theorem dX1_tryStep_42 : decode cX1_tryStep 42 = .ok (.getfield 34, 3) := by decide +kernel
theorem dX1_tryStep_45 : decode cX1_tryStep 45 = .ok (.iload_n 2, 1) := by decide +kernel
theorem dX1_tryStep_46 : decode cX1_tryStep 46 = .ok (.invokevirtual 162, 3) := by decide +kernel
theorem dX1_tryStep_49 : decode cX1_tryStep 49 = .ok (.istore_n 3, 1) := by decide +kernel
theorem dX1_tryStep_50 : decode cX1_tryStep 50 = .ok (.iload_n 3, 1) := by decide +kernel
theorem dX1_tryStep_51 : decode cX1_tryStep 51 = .ok (.ifCond .eq 14, 3) := by decide +kernel
theorem dX1_tryStep_54 : decode cX1_tryStep 54 = .ok (.aload_n 0, 1) := by decide +kernel
theorem dX1_tryStep_55 : decode cX1_tryStep 55 = .ok (.getfield 48, 3) := by decide +kernel
theorem dX1_tryStep_58 : decode cX1_tryStep 58 = .ok (.iload_n 3, 1) := by decide +kernel
theorem dX1_tryStep_59 : decode cX1_tryStep 59 = .ok (.iload_n 1, 1) := by decide +kernel
theorem dX1_tryStep_60 : decode cX1_tryStep 60 = .ok (.iload_n 2, 1) := by decide +kernel
theorem dX1_tryStep_61 : decode cX1_tryStep 61 = .ok (.invokevirtual 168, 3) := by decide +kernel
theorem dX1_tryStep_64 : decode cX1_tryStep 64 = .ok (.return_, 1) := by decide +kernel
theorem dX1_tryStep_65 : decode cX1_tryStep 65 = .ok (.iload_n 1, 1) := by decide +kernel
theorem dX1_tryStep_66 : decode cX1_tryStep 66 = .ok (.bipush 20, 2) := by decide +kernel
theorem dX1_tryStep_68 : decode cX1_tryStep 68 = .ok (.imul, 1) := by decide +kernel
theorem dX1_tryStep_69 : decode cX1_tryStep 69 = .ok (.iload_n 2, 1) := by decide +kernel
theorem dX1_tryStep_70 : decode cX1_tryStep 70 = .ok (.iadd, 1) := by decide +kernel
theorem dX1_tryStep_71 : decode cX1_tryStep 71 = .ok (.istore 4, 2) := by decide +kernel
theorem dX1_tryStep_73 : decode cX1_tryStep 73 = .ok (.aload_n 0, 1) := by decide +kernel
theorem dX1_tryStep_74 : decode cX1_tryStep 74 = .ok (.getfield 41, 3) := by decide +kernel
theorem dX1_tryStep_77 : decode cX1_tryStep 77 = .ok (.aload_n 0, 1) := by decide +kernel
theorem dX1_tryStep_78 : decode cX1_tryStep 78 = .ok (.getfield 26, 3) := by decide +kernel
theorem dX1_tryStep_81 : decode cX1_tryStep 81 = .ok (.invokevirtual 171, 3) := by decide +kernel
theorem dX1_tryStep_84 : decode cX1_tryStep 84 = .ok (.istore 5, 2) := by decide +kernel
theorem dX1_tryStep_86 : decode cX1_tryStep 86 = .ok (.iload 5, 2) := by decide +kernel
theorem dX1_tryStep_88 : decode cX1_tryStep 88 = .ok (.iconst (-1), 1) := by decide +kernel
theorem dX1_tryStep_89 : decode cX1_tryStep 89 = .ok (.if_icmp .ne 19, 3) := by decide +kernel
theorem dX1_tryStep_92 : decode cX1_tryStep 92 = .ok (.aload_n 0, 1) := by decide +kernel
theorem dX1_tryStep_93 : decode cX1_tryStep 93 = .ok (.iload 4, 2) := by decide +kernel
theorem dX1_tryStep_95 : decode cX1_tryStep 95 = .ok (.aload_n 0, 1) := by decide +kernel
theorem dX1_tryStep_96 : decode cX1_tryStep 96 = .ok (.getfield 73, 3) := by decide +kernel
theorem dX1_tryStep_99 : decode cX1_tryStep 99 = .ok (.iload_n 1, 1) := by decide +kernel
theorem dX1_tryStep_100 : decode cX1_tryStep 100 = .ok (.iaload, 1) := by decide +kernel
theorem dX1_tryStep_101 : decode cX1_tryStep 101 = .ok (.iconst 1, 1) := by decide +kernel
theorem dX1_tryStep_102 : decode cX1_tryStep 102 = .ok (.iadd, 1) := by decide +kernel
theorem dX1_tryStep_103 : decode cX1_tryStep 103 = .ok (.invokevirtual 115, 3) := by decide +kernel
theorem dX1_tryStep_106 : decode cX1_tryStep 106 = .ok (.istore 5, 2) := by decide +kernel
theorem dX1_tryStep_108 : decode cX1_tryStep 108 = .ok (.iload 5, 2) := by decide +kernel
theorem dX1_tryStep_110 : decode cX1_tryStep 110 = .ok (.iconst (-1), 1) := by decide +kernel
theorem dX1_tryStep_111 : decode cX1_tryStep 111 = .ok (.if_icmp .eq 14, 3) := by decide +kernel
theorem dX1_tryStep_114 : decode cX1_tryStep 114 = .ok (.aload_n 0, 1) := by decide +kernel
theorem dX1_tryStep_115 : decode cX1_tryStep 115 = .ok (.getfield 65, 3) := by decide +kernel
theorem dX1_tryStep_118 : decode cX1_tryStep 118 = .ok (.iload 4, 2) := by decide +kernel
theorem dX1_tryStep_120 : decode cX1_tryStep 120 = .ok (.iload 5, 2) := by decide +kernel
theorem dX1_tryStep_122 : decode cX1_tryStep 122 = .ok (.invokevirtual 175, 3) := by decide +kernel
theorem dX1_tryStep_125 : decode cX1_tryStep 125 = .ok (.return_, 1) := by decide +kernel
theorem dX1_markUsed_0 : decode cX1_markUsed 0 = .ok (.aload_n 0, 1) := by decide +kernel
theorem dX1_markUsed_1 : decode cX1_markUsed 1 = .ok (.getfield 9, 3) := by decide +kernel
theorem dX1_markUsed_4 : decode cX1_markUsed 4 = .ok (.iload_n 1, 1) := by decide +kernel
theorem dX1_markUsed_5 : decode cX1_markUsed 5 = .ok (.invokevirtual 178, 3) := by decide +kernel
theorem dX1_markUsed_8 : decode cX1_markUsed 8 = .ok (.ifCond .eq 10, 3) := by decide +kernel
theorem dX1_markUsed_11 : decode cX1_markUsed 11 = .ok (.aload_n 0, 1) := by decide +kernel
theorem dX1_markUsed_12 : decode cX1_markUsed 12 = .ok (.getfield 76, 3) := by decide +kernel
theorem dX1_markUsed_15 : decode cX1_markUsed 15 = .ok (.iload_n 1, 1) := by decide +kernel
theorem dX1_markUsed_16 : decode cX1_markUsed 16 = .ok (.iconst 1, 1) := by decide +kernel
theorem dX1_markUsed_17 : decode cX1_markUsed 17 = .ok (.iastore, 1) := by decide +kernel
theorem dX1_markUsed_18 : decode cX1_markUsed 18 = .ok (.return_, 1) := by decide +kernel
theorem dX1_keepTrial_0 : decode cX1_keepTrial 0 = .ok (.aload_n 0, 1) := by decide +kernel
theorem dX1_keepTrial_1 : decode cX1_keepTrial 1 = .ok (.getfield 41, 3) := by decide +kernel
theorem dX1_keepTrial_4 : decode cX1_keepTrial 4 = .ok (.invokevirtual 147, 3) := by decide +kernel
theorem dX1_keepTrial_7 : decode cX1_keepTrial 7 = .ok (.aload_n 0, 1) := by decide +kernel
theorem dX1_keepTrial_8 : decode cX1_keepTrial 8 = .ok (.getfield 79, 3) := by decide +kernel
theorem dX1_keepTrial_11 : decode cX1_keepTrial 11 = .ok (.if_icmp .lt 10, 3) := by decide +kernel
theorem dX1_keepTrial_14 : decode cX1_keepTrial 14 = .ok (.aload_n 0, 1) := by decide +kernel
theorem dX1_keepTrial_15 : decode cX1_keepTrial 15 = .ok (.iconst 1, 1) := by decide +kernel
theorem dX1_keepTrial_16 : decode cX1_keepTrial 16 = .ok (.putfield 89, 3) := by decide +kernel
theorem dX1_keepTrial_19 : decode cX1_keepTrial 19 = .ok (.iconst (-1), 1) := by decide +kernel
theorem dX1_keepTrial_20 : decode cX1_keepTrial 20 = .ok (.ireturn, 1) := by decide +kernel
theorem dX1_keepTrial_21 : decode cX1_keepTrial 21 = .ok (.aload_n 0, 1) := by decide +kernel
theorem dX1_keepTrial_22 : decode cX1_keepTrial 22 = .ok (.getfield 41, 3) := by decide +kernel
theorem dX1_keepTrial_25 : decode cX1_keepTrial 25 = .ok (.aload_n 0, 1) := by decide +kernel
theorem dX1_keepTrial_26 : decode cX1_keepTrial 26 = .ok (.getfield 26, 3) := by decide +kernel
theorem dX1_keepTrial_29 : decode cX1_keepTrial 29 = .ok (.invokevirtual 181, 3) := by decide +kernel
theorem dX1_keepTrial_32 : decode cX1_keepTrial 32 = .ok (.istore_n 3, 1) := by decide +kernel
theorem dX1_keepTrial_33 : decode cX1_keepTrial 33 = .ok (.aload_n 0, 1) := by decide +kernel
theorem dX1_keepTrial_34 : decode cX1_keepTrial 34 = .ok (.getfield 69, 3) := by decide +kernel
theorem dX1_keepTrial_37 : decode cX1_keepTrial 37 = .ok (.iload_n 3, 1) := by decide +kernel
theorem dX1_keepTrial_38 : decode cX1_keepTrial 38 = .ok (.iload_n 1, 1) := by decide +kernel
theorem dX1_keepTrial_39 : decode cX1_keepTrial 39 = .ok (.iastore, 1) := by decide +kernel
theorem dX1_keepTrial_40 : decode cX1_keepTrial 40 = .ok (.aload_n 0, 1) := by decide +kernel
theorem dX1_keepTrial_41 : decode cX1_keepTrial 41 = .ok (.getfield 73, 3) := by decide +kernel
theorem dX1_keepTrial_44 : decode cX1_keepTrial 44 = .ok (.iload_n 3, 1) := by decide +kernel
theorem dX1_keepTrial_45 : decode cX1_keepTrial 45 = .ok (.iload_n 2, 1) := by decide +kernel
theorem dX1_keepTrial_46 : decode cX1_keepTrial 46 = .ok (.iastore, 1) := by decide +kernel
theorem dX1_keepTrial_47 : decode cX1_keepTrial 47 = .ok (.aload_n 0, 1) := by decide +kernel
theorem dX1_keepTrial_48 : decode cX1_keepTrial 48 = .ok (.getfield 65, 3) := by decide +kernel
theorem dX1_keepTrial_51 : decode cX1_keepTrial 51 = .ok (.iload_n 3, 1) := by decide +kernel
theorem dX1_keepTrial_52 : decode cX1_keepTrial 52 = .ok (.invokevirtual 184, 3) := by decide +kernel
theorem dX1_keepTrial_55 : decode cX1_keepTrial 55 = .ok (.aload_n 0, 1) := by decide +kernel
theorem dX1_keepTrial_56 : decode cX1_keepTrial 56 = .ok (.getfield 9, 3) := by decide +kernel
theorem dX1_keepTrial_59 : decode cX1_keepTrial 59 = .ok (.aload_n 0, 1) := by decide +kernel
theorem dX1_keepTrial_60 : decode cX1_keepTrial 60 = .ok (.getfield 26, 3) := by decide +kernel
theorem dX1_keepTrial_63 : decode cX1_keepTrial 63 = .ok (.invokevirtual 187, 3) := by decide +kernel
theorem dX1_keepTrial_66 : decode cX1_keepTrial 66 = .ok (.istore 4, 2) := by decide +kernel
theorem dX1_keepTrial_68 : decode cX1_keepTrial 68 = .ok (.iload 4, 2) := by decide +kernel
theorem dX1_keepTrial_70 : decode cX1_keepTrial 70 = .ok (.ifCond .eq 14, 3) := by decide +kernel
theorem dX1_keepTrial_73 : decode cX1_keepTrial 73 = .ok (.aload_n 0, 1) := by decide +kernel
theorem dX1_keepTrial_74 : decode cX1_keepTrial 74 = .ok (.getfield 48, 3) := by decide +kernel
theorem dX1_keepTrial_77 : decode cX1_keepTrial 77 = .ok (.iload 4, 2) := by decide +kernel
theorem dX1_keepTrial_79 : decode cX1_keepTrial 79 = .ok (.iload_n 3, 1) := by decide +kernel
theorem dX1_keepTrial_80 : decode cX1_keepTrial 80 = .ok (.iconst (-1), 1) := by decide +kernel
theorem dX1_keepTrial_81 : decode cX1_keepTrial 81 = .ok (.invokevirtual 168, 3) := by decide +kernel
theorem dX1_keepTrial_84 : decode cX1_keepTrial 84 = .ok (.iload_n 3, 1) := by decide +kernel
theorem dX1_keepTrial_85 : decode cX1_keepTrial 85 = .ok (.ireturn, 1) := by decide +kernel
theorem dX1_figure_0 : decode cX1_figure 0 = .ok (.iload_n 1, 1) := by decide +kernel
theorem dX1_figure_1 : decode cX1_figure 1 = .ok (.tableswitch 107 0 7 #[47, 55, 60, 68, 76, 84, 89, 102], 47) := by decide +kernel
theorem dX1_figure_48 : decode cX1_figure 48 = .ok (.aload_n 0, 1) := by decide +kernel
theorem dX1_figure_49 : decode cX1_figure 49 = .ok (.getfield 41, 3) := by decide +kernel
theorem dX1_figure_52 : decode cX1_figure 52 = .ok (.invokevirtual 147, 3) := by decide +kernel
theorem dX1_figure_55 : decode cX1_figure 55 = .ok (.ireturn, 1) := by decide +kernel
theorem dX1_figure_56 : decode cX1_figure 56 = .ok (.aload_n 0, 1) := by decide +kernel
theorem dX1_figure_57 : decode cX1_figure 57 = .ok (.getfield 83, 3) := by decide +kernel
theorem dX1_figure_60 : decode cX1_figure 60 = .ok (.ireturn, 1) := by decide +kernel
theorem dX1_figure_61 : decode cX1_figure 61 = .ok (.aload_n 0, 1) := by decide +kernel
theorem dX1_figure_62 : decode cX1_figure 62 = .ok (.getfield 48, 3) := by decide +kernel
theorem dX1_figure_65 : decode cX1_figure 65 = .ok (.invokevirtual 190, 3) := by decide +kernel
theorem dX1_figure_68 : decode cX1_figure 68 = .ok (.ireturn, 1) := by decide +kernel
theorem dX1_figure_69 : decode cX1_figure 69 = .ok (.aload_n 0, 1) := by decide +kernel
theorem dX1_figure_70 : decode cX1_figure 70 = .ok (.getfield 55, 3) := by decide +kernel
theorem dX1_figure_73 : decode cX1_figure 73 = .ok (.invokevirtual 191, 3) := by decide +kernel
theorem dX1_figure_76 : decode cX1_figure 76 = .ok (.ireturn, 1) := by decide +kernel
theorem dX1_figure_77 : decode cX1_figure 77 = .ok (.aload_n 0, 1) := by decide +kernel
theorem dX1_figure_78 : decode cX1_figure 78 = .ok (.getfield 59, 3) := by decide +kernel
theorem dX1_figure_81 : decode cX1_figure 81 = .ok (.invokevirtual 191, 3) := by decide +kernel
theorem dX1_figure_84 : decode cX1_figure 84 = .ok (.ireturn, 1) := by decide +kernel
theorem dX1_figure_85 : decode cX1_figure 85 = .ok (.aload_n 0, 1) := by decide +kernel
theorem dX1_figure_86 : decode cX1_figure 86 = .ok (.invokevirtual 192, 3) := by decide +kernel
theorem dX1_figure_89 : decode cX1_figure 89 = .ok (.ireturn, 1) := by decide +kernel
theorem dX1_figure_90 : decode cX1_figure 90 = .ok (.aload_n 0, 1) := by decide +kernel
theorem dX1_figure_91 : decode cX1_figure 91 = .ok (.getfield 89, 3) := by decide +kernel
theorem dX1_figure_94 : decode cX1_figure 94 = .ok (.ifCond .eq 7, 3) := by decide +kernel
theorem dX1_figure_97 : decode cX1_figure 97 = .ok (.iconst 1, 1) := by decide +kernel
theorem dX1_figure_98 : decode cX1_figure 98 = .ok (.goto 4, 3) := by decide +kernel
theorem dX1_figure_101 : decode cX1_figure 101 = .ok (.iconst 0, 1) := by decide +kernel
theorem dX1_figure_102 : decode cX1_figure 102 = .ok (.ireturn, 1) := by decide +kernel
theorem dX1_figure_103 : decode cX1_figure 103 = .ok (.aload_n 0, 1) := by decide +kernel
theorem dX1_figure_104 : decode cX1_figure 104 = .ok (.getfield 86, 3) := by decide +kernel
theorem dX1_figure_107 : decode cX1_figure 107 = .ok (.ireturn, 1) := by decide +kernel
theorem dX1_figure_108 : decode cX1_figure 108 = .ok (.iconst (-1), 1) := by decide +kernel
theorem dX1_figure_109 : decode cX1_figure 109 = .ok (.ireturn, 1) := by decide +kernel
theorem dX1_greatestDepth_0 : decode cX1_greatestDepth 0 = .ok (.aload_n 0, 1) := by decide +kernel
theorem dX1_greatestDepth_1 : decode cX1_greatestDepth 1 = .ok (.getfield 41, 3) := by decide +kernel
theorem dX1_greatestDepth_4 : decode cX1_greatestDepth 4 = .ok (.invokevirtual 147, 3) := by decide +kernel
theorem dX1_greatestDepth_7 : decode cX1_greatestDepth 7 = .ok (.istore_n 1, 1) := by decide +kernel
theorem dX1_greatestDepth_8 : decode cX1_greatestDepth 8 = .ok (.iload_n 1, 1) := by decide +kernel
theorem dX1_greatestDepth_9 : decode cX1_greatestDepth 9 = .ok (.ifCond .ne 7, 3) := by decide +kernel
theorem dX1_greatestDepth_12 : decode cX1_greatestDepth 12 = .ok (.iconst 0, 1) := by decide +kernel
theorem dX1_greatestDepth_13 : decode cX1_greatestDepth 13 = .ok (.goto 11, 3) := by decide +kernel
theorem dX1_greatestDepth_16 : decode cX1_greatestDepth 16 = .ok (.aload_n 0, 1) := by decide +kernel
theorem dX1_greatestDepth_17 : decode cX1_greatestDepth 17 = .ok (.getfield 73, 3) := by decide +kernel
theorem dX1_greatestDepth_20 : decode cX1_greatestDepth 20 = .ok (.iload_n 1, 1) := by decide +kernel
theorem dX1_greatestDepth_21 : decode cX1_greatestDepth 21 = .ok (.iconst 1, 1) := by decide +kernel
theorem dX1_greatestDepth_22 : decode cX1_greatestDepth 22 = .ok (.isub, 1) := by decide +kernel
theorem dX1_greatestDepth_23 : decode cX1_greatestDepth 23 = .ok (.iaload, 1) := by decide +kernel
theorem dX1_greatestDepth_24 : decode cX1_greatestDepth 24 = .ok (.ireturn, 1) := by decide +kernel
theorem dX1_countStates_0 : decode cX1_countStates 0 = .ok (.aload_n 0, 1) := by decide +kernel
theorem dX1_countStates_1 : decode cX1_countStates 1 = .ok (.getfield 41, 3) := by decide +kernel
theorem dX1_countStates_4 : decode cX1_countStates 4 = .ok (.invokevirtual 147, 3) := by decide +kernel
theorem dX1_countStates_7 : decode cX1_countStates 7 = .ok (.ireturn, 1) := by decide +kernel
theorem dX1_isSpent_0 : decode cX1_isSpent 0 = .ok (.aload_n 0, 1) := by decide +kernel
theorem dX1_isSpent_1 : decode cX1_isSpent 1 = .ok (.getfield 89, 3) := by decide +kernel
theorem dX1_isSpent_4 : decode cX1_isSpent 4 = .ok (.ireturn, 1) := by decide +kernel
theorem dX1_hasState_0 : decode cX1_hasState 0 = .ok (.iload_n 1, 1) := by decide +kernel
theorem dX1_hasState_1 : decode cX1_hasState 1 = .ok (.ifCond .lt 18, 3) := by decide +kernel
theorem dX1_hasState_4 : decode cX1_hasState 4 = .ok (.iload_n 1, 1) := by decide +kernel
theorem dX1_hasState_5 : decode cX1_hasState 5 = .ok (.aload_n 0, 1) := by decide +kernel
theorem dX1_hasState_6 : decode cX1_hasState 6 = .ok (.getfield 41, 3) := by decide +kernel
theorem dX1_hasState_9 : decode cX1_hasState 9 = .ok (.invokevirtual 147, 3) := by decide +kernel
theorem dX1_hasState_12 : decode cX1_hasState 12 = .ok (.if_icmp .ge 7, 3) := by decide +kernel
theorem dX1_hasState_15 : decode cX1_hasState 15 = .ok (.iconst 1, 1) := by decide +kernel
theorem dX1_hasState_16 : decode cX1_hasState 16 = .ok (.goto 4, 3) := by decide +kernel
theorem dX1_hasState_19 : decode cX1_hasState 19 = .ok (.iconst 0, 1) := by decide +kernel
theorem dX1_hasState_20 : decode cX1_hasState 20 = .ok (.ireturn, 1) := by decide +kernel
theorem dX1_badAt_0 : decode cX1_badAt 0 = .ok (.aload_n 0, 1) := by decide +kernel
theorem dX1_badAt_1 : decode cX1_badAt 1 = .ok (.getfield 48, 3) := by decide +kernel
theorem dX1_badAt_4 : decode cX1_badAt 4 = .ok (.iload_n 1, 1) := by decide +kernel
theorem dX1_badAt_5 : decode cX1_badAt 5 = .ok (.iload_n 2, 1) := by decide +kernel
theorem dX1_badAt_6 : decode cX1_badAt 6 = .ok (.invokevirtual 195, 3) := by decide +kernel
theorem dX1_badAt_9 : decode cX1_badAt 9 = .ok (.ireturn, 1) := by decide +kernel
theorem dX1_stuckAt_0 : decode cX1_stuckAt 0 = .ok (.aload_n 0, 1) := by decide +kernel
theorem dX1_stuckAt_1 : decode cX1_stuckAt 1 = .ok (.getfield 55, 3) := by decide +kernel
theorem dX1_stuckAt_4 : decode cX1_stuckAt 4 = .ok (.iload_n 1, 1) := by decide +kernel
theorem dX1_stuckAt_5 : decode cX1_stuckAt 5 = .ok (.invokevirtual 198, 3) := by decide +kernel
theorem dX1_stuckAt_8 : decode cX1_stuckAt 8 = .ok (.ireturn, 1) := by decide +kernel
theorem dX1_lostAt_0 : decode cX1_lostAt 0 = .ok (.aload_n 0, 1) := by decide +kernel
theorem dX1_lostAt_1 : decode cX1_lostAt 1 = .ok (.getfield 59, 3) := by decide +kernel
theorem dX1_lostAt_4 : decode cX1_lostAt 4 = .ok (.iload_n 1, 1) := by decide +kernel
theorem dX1_lostAt_5 : decode cX1_lostAt 5 = .ok (.invokevirtual 198, 3) := by decide +kernel
theorem dX1_lostAt_8 : decode cX1_lostAt 8 = .ok (.ireturn, 1) := by decide +kernel
theorem dX1_depthOf_0 : decode cX1_depthOf 0 = .ok (.aload_n 0, 1) := by decide +kernel
theorem dX1_depthOf_1 : decode cX1_depthOf 1 = .ok (.getfield 73, 3) := by decide +kernel
theorem dX1_depthOf_4 : decode cX1_depthOf 4 = .ok (.iload_n 1, 1) := by decide +kernel
theorem dX1_depthOf_5 : decode cX1_depthOf 5 = .ok (.iaload, 1) := by decide +kernel
theorem dX1_depthOf_6 : decode cX1_depthOf 6 = .ok (.ireturn, 1) := by decide +kernel
theorem dX1_stepTowards_0 : decode cX1_stepTowards 0 = .ok (.iload_n 1, 1) := by decide +kernel
theorem dX1_stepTowards_1 : decode cX1_stepTowards 1 = .ok (.istore_n 3, 1) := by decide +kernel
theorem dX1_stepTowards_2 : decode cX1_stepTowards 2 = .ok (.aload_n 0, 1) := by decide +kernel
theorem dX1_stepTowards_3 : decode cX1_stepTowards 3 = .ok (.getfield 73, 3) := by decide +kernel
theorem dX1_stepTowards_6 : decode cX1_stepTowards 6 = .ok (.iload_n 1, 1) := by decide +kernel
theorem dX1_stepTowards_7 : decode cX1_stepTowards 7 = .ok (.iaload, 1) := by decide +kernel
theorem dX1_stepTowards_8 : decode cX1_stepTowards 8 = .ok (.iconst 1, 1) := by decide +kernel
theorem dX1_stepTowards_9 : decode cX1_stepTowards 9 = .ok (.isub, 1) := by decide +kernel
theorem dX1_stepTowards_10 : decode cX1_stepTowards 10 = .ok (.istore 4, 2) := by decide +kernel
theorem dX1_stepTowards_12 : decode cX1_stepTowards 12 = .ok (.iload 4, 2) := by decide +kernel
theorem dX1_stepTowards_14 : decode cX1_stepTowards 14 = .ok (.iload_n 2, 1) := by decide +kernel
theorem dX1_stepTowards_15 : decode cX1_stepTowards 15 = .ok (.if_icmp .le 19, 3) := by decide +kernel
theorem dX1_stepTowards_18 : decode cX1_stepTowards 18 = .ok (.aload_n 0, 1) := by decide +kernel
theorem dX1_stepTowards_19 : decode cX1_stepTowards 19 = .ok (.getfield 69, 3) := by decide +kernel
theorem dX1_stepTowards_22 : decode cX1_stepTowards 22 = .ok (.iload_n 3, 1) := by decide +kernel
theorem dX1_stepTowards_23 : decode cX1_stepTowards 23 = .ok (.iaload, 1) := by decide +kernel
theorem dX1_stepTowards_24 : decode cX1_stepTowards 24 = .ok (.bipush 20, 2) := by decide +kernel
theorem dX1_stepTowards_26 : decode cX1_stepTowards 26 = .ok (.idiv, 1) := by decide +kernel
theorem dX1_stepTowards_27 : decode cX1_stepTowards 27 = .ok (.istore_n 3, 1) := by decide +kernel
theorem dX1_stepTowards_28 : decode cX1_stepTowards 28 = .ok (.iinc 4 (-1), 3) := by decide +kernel
theorem dX1_stepTowards_31 : decode cX1_stepTowards 31 = .ok (.goto (-19), 3) := by decide +kernel
theorem dX1_stepTowards_34 : decode cX1_stepTowards 34 = .ok (.aload_n 0, 1) := by decide +kernel
theorem dX1_stepTowards_35 : decode cX1_stepTowards 35 = .ok (.getfield 69, 3) := by decide +kernel
theorem dX1_stepTowards_38 : decode cX1_stepTowards 38 = .ok (.iload_n 3, 1) := by decide +kernel
theorem dX1_stepTowards_39 : decode cX1_stepTowards 39 = .ok (.iaload, 1) := by decide +kernel
theorem dX1_stepTowards_40 : decode cX1_stepTowards 40 = .ok (.bipush 20, 2) := by decide +kernel
theorem dX1_stepTowards_42 : decode cX1_stepTowards 42 = .ok (.irem, 1) := by decide +kernel
theorem dX1_stepTowards_43 : decode cX1_stepTowards 43 = .ok (.ireturn, 1) := by decide +kernel
theorem dX1_load_0 : decode cX1_load 0 = .ok (.aload_n 0, 1) := by decide +kernel
theorem dX1_load_1 : decode cX1_load 1 = .ok (.getfield 41, 3) := by decide +kernel
theorem dX1_load_4 : decode cX1_load 4 = .ok (.iload_n 1, 1) := by decide +kernel
theorem dX1_load_5 : decode cX1_load 5 = .ok (.aload_n 2, 1) := by decide +kernel
theorem dX1_load_6 : decode cX1_load 6 = .ok (.invokevirtual 119, 3) := by decide +kernel
theorem dX1_load_9 : decode cX1_load 9 = .ok (.return_, 1) := by decide +kernel
theorem dX1_numberOf_0 : decode cX1_numberOf 0 = .ok (.aload_n 0, 1) := by decide +kernel
theorem dX1_numberOf_1 : decode cX1_numberOf 1 = .ok (.getfield 41, 3) := by decide +kernel
theorem dX1_numberOf_4 : decode cX1_numberOf 4 = .ok (.aload_n 1, 1) := by decide +kernel
theorem dX1_numberOf_5 : decode cX1_numberOf 5 = .ok (.invokevirtual 171, 3) := by decide +kernel
theorem dX1_numberOf_8 : decode cX1_numberOf 8 = .ok (.ireturn, 1) := by decide +kernel
theorem dX1_usedAt_0 : decode cX1_usedAt 0 = .ok (.aload_n 0, 1) := by decide +kernel
theorem dX1_usedAt_1 : decode cX1_usedAt 1 = .ok (.getfield 76, 3) := by decide +kernel
theorem dX1_usedAt_4 : decode cX1_usedAt 4 = .ok (.iload_n 1, 1) := by decide +kernel
theorem dX1_usedAt_5 : decode cX1_usedAt 5 = .ok (.iaload, 1) := by decide +kernel
theorem dX1_usedAt_6 : decode cX1_usedAt 6 = .ok (.ireturn, 1) := by decide +kernel
theorem dX2_init_0 : decode cX2_init 0 = .ok (.aload_n 0, 1) := by decide +kernel
theorem dX2_init_1 : decode cX2_init 1 = .ok (.invokespecial 3, 3) := by decide +kernel
theorem dX2_init_4 : decode cX2_init 4 = .ok (.aload_n 0, 1) := by decide +kernel
theorem dX2_init_5 : decode cX2_init 5 = .ok (.sipush 4000, 3) := by decide +kernel
theorem dX2_init_8 : decode cX2_init 8 = .ok (.newarray .int, 2) := by decide +kernel
theorem dX2_init_10 : decode cX2_init 10 = .ok (.putfield 9, 3) := by decide +kernel
theorem dX2_init_13 : decode cX2_init 13 = .ok (.aload_n 0, 1) := by decide +kernel
theorem dX2_init_14 : decode cX2_init 14 = .ok (.ldc 15, 2) := by decide +kernel
theorem dX2_init_16 : decode cX2_init 16 = .ok (.newarray .int, 2) := by decide +kernel
theorem dX2_init_18 : decode cX2_init 18 = .ok (.putfield 16, 3) := by decide +kernel
theorem dX2_init_21 : decode cX2_init 21 = .ok (.aload_n 0, 1) := by decide +kernel
theorem dX2_init_22 : decode cX2_init 22 = .ok (.sipush 4000, 3) := by decide +kernel
theorem dX2_init_25 : decode cX2_init 25 = .ok (.newarray .boolean, 2) := by decide +kernel
theorem dX2_init_27 : decode cX2_init 27 = .ok (.putfield 19, 3) := by decide +kernel
theorem dX2_init_30 : decode cX2_init 30 = .ok (.aload_n 0, 1) := by decide +kernel
theorem dX2_init_31 : decode cX2_init 31 = .ok (.new 23, 3) := by decide +kernel
theorem dX2_init_34 : decode cX2_init 34 = .ok (.dup, 1) := by decide +kernel
theorem dX2_init_35 : decode cX2_init 35 = .ok (.invokespecial 25, 3) := by decide +kernel
theorem dX2_init_38 : decode cX2_init 38 = .ok (.putfield 26, 3) := by decide +kernel
theorem dX2_init_41 : decode cX2_init 41 = .ok (.return_, 1) := by decide +kernel
theorem dX2_clear_0 : decode cX2_clear 0 = .ok (.aload_n 0, 1) := by decide +kernel
theorem dX2_clear_1 : decode cX2_clear 1 = .ok (.getfield 26, 3) := by decide +kernel
theorem dX2_clear_4 : decode cX2_clear 4 = .ok (.invokevirtual 30, 3) := by decide +kernel
theorem dX2_clear_7 : decode cX2_clear 7 = .ok (.return_, 1) := by decide +kernel
theorem dX2_addState_0 : decode cX2_addState 0 = .ok (.aload_n 0, 1) := by decide +kernel
theorem dX2_addState_1 : decode cX2_addState 1 = .ok (.getfield 9, 3) := by decide +kernel
theorem dX2_addState_4 : decode cX2_addState 4 = .ok (.iload_n 1, 1) := by decide +kernel
theorem dX2_addState_5 : decode cX2_addState 5 = .ok (.iconst (-1), 1) := by decide +kernel
theorem dX2_addState_6 : decode cX2_addState 6 = .ok (.iastore, 1) := by decide +kernel
theorem dX2_addState_7 : decode cX2_addState 7 = .ok (.aload_n 0, 1) := by decide +kernel
theorem dX2_addState_8 : decode cX2_addState 8 = .ok (.getfield 19, 3) := by decide +kernel
theorem dX2_addState_11 : decode cX2_addState 11 = .ok (.iload_n 1, 1) := by decide +kernel
theorem dX2_addState_12 : decode cX2_addState 12 = .ok (.iconst 0, 1) := by decide +kernel
theorem dX2_addState_13 : decode cX2_addState 13 = .ok (.bastore, 1) := by decide +kernel
theorem dX2_addState_14 : decode cX2_addState 14 = .ok (.return_, 1) := by decide +kernel
theorem dX2_addPath_0 : decode cX2_addPath 0 = .ok (.aload_n 0, 1) := by decide +kernel
theorem dX2_addPath_1 : decode cX2_addPath 1 = .ok (.getfield 16, 3) := by decide +kernel
theorem dX2_addPath_4 : decode cX2_addPath 4 = .ok (.iload_n 1, 1) := by decide +kernel
theorem dX2_addPath_5 : decode cX2_addPath 5 = .ok (.aload_n 0, 1) := by decide +kernel
theorem dX2_addPath_6 : decode cX2_addPath 6 = .ok (.getfield 9, 3) := by decide +kernel
theorem dX2_addPath_9 : decode cX2_addPath 9 = .ok (.iload_n 2, 1) := by decide +kernel
theorem dX2_addPath_10 : decode cX2_addPath 10 = .ok (.iaload, 1) := by decide +kernel
theorem dX2_addPath_11 : decode cX2_addPath 11 = .ok (.iastore, 1) := by decide +kernel
theorem dX2_addPath_12 : decode cX2_addPath 12 = .ok (.aload_n 0, 1) := by decide +kernel
theorem dX2_addPath_13 : decode cX2_addPath 13 = .ok (.getfield 9, 3) := by decide +kernel
theorem dX2_addPath_16 : decode cX2_addPath 16 = .ok (.iload_n 2, 1) := by decide +kernel
theorem dX2_addPath_17 : decode cX2_addPath 17 = .ok (.iload_n 1, 1) := by decide +kernel
theorem dX2_addPath_18 : decode cX2_addPath 18 = .ok (.iastore, 1) := by decide +kernel
theorem dX2_addPath_19 : decode cX2_addPath 19 = .ok (.return_, 1) := by decide +kernel
theorem dX2_markLeading_0 : decode cX2_markLeading 0 = .ok (.aload_n 0, 1) := by decide +kernel
theorem dX2_markLeading_1 : decode cX2_markLeading 1 = .ok (.getfield 19, 3) := by decide +kernel
theorem dX2_markLeading_4 : decode cX2_markLeading 4 = .ok (.iload_n 1, 1) := by decide +kernel
theorem dX2_markLeading_5 : decode cX2_markLeading 5 = .ok (.baload, 1) := by decide +kernel
theorem dX2_markLeading_6 : decode cX2_markLeading 6 = .ok (.ifCond .ne 18, 3) := by decide +kernel
theorem dX2_markLeading_9 : decode cX2_markLeading 9 = .ok (.aload_n 0, 1) := by decide +kernel
theorem dX2_markLeading_10 : decode cX2_markLeading 10 = .ok (.getfield 19, 3) := by decide +kernel
theorem dX2_markLeading_13 : decode cX2_markLeading 13 = .ok (.iload_n 1, 1) := by decide +kernel
theorem dX2_markLeading_14 : decode cX2_markLeading 14 = .ok (.iconst 1, 1) := by decide +kernel
theorem dX2_markLeading_15 : decode cX2_markLeading 15 = .ok (.bastore, 1) := by decide +kernel
theorem dX2_markLeading_16 : decode cX2_markLeading 16 = .ok (.aload_n 0, 1) := by decide +kernel
theorem dX2_markLeading_17 : decode cX2_markLeading 17 = .ok (.getfield 26, 3) := by decide +kernel
theorem dX2_markLeading_20 : decode cX2_markLeading 20 = .ok (.iload_n 1, 1) := by decide +kernel
theorem dX2_markLeading_21 : decode cX2_markLeading 21 = .ok (.invokevirtual 33, 3) := by decide +kernel
theorem dX2_markLeading_24 : decode cX2_markLeading 24 = .ok (.return_, 1) := by decide +kernel
theorem dX2_isLeading_0 : decode cX2_isLeading 0 = .ok (.aload_n 0, 1) := by decide +kernel
theorem dX2_isLeading_1 : decode cX2_isLeading 1 = .ok (.getfield 19, 3) := by decide +kernel
theorem dX2_isLeading_4 : decode cX2_isLeading 4 = .ok (.iload_n 1, 1) := by decide +kernel
theorem dX2_isLeading_5 : decode cX2_isLeading 5 = .ok (.baload, 1) := by decide +kernel
theorem dX2_isLeading_6 : decode cX2_isLeading 6 = .ok (.ireturn, 1) := by decide +kernel
theorem dX2_spread_0 : decode cX2_spread 0 = .ok (.iconst 0, 1) := by decide +kernel
theorem dX2_spread_1 : decode cX2_spread 1 = .ok (.istore_n 1, 1) := by decide +kernel
theorem dX2_spread_2 : decode cX2_spread 2 = .ok (.iload_n 1, 1) := by decide +kernel
theorem dX2_spread_3 : decode cX2_spread 3 = .ok (.sipush 4000, 3) := by decide +kernel
theorem dX2_spread_6 : decode cX2_spread 6 = .ok (.if_icmp .ge 68, 3) := by decide +kernel
theorem dX2_spread_9 : decode cX2_spread 9 = .ok (.iload_n 1, 1) := by decide +kernel
theorem dX2_spread_10 : decode cX2_spread 10 = .ok (.aload_n 0, 1) := by decide +kernel
theorem dX2_spread_11 : decode cX2_spread 11 = .ok (.getfield 26, 3) := by decide +kernel
theorem dX2_spread_14 : decode cX2_spread 14 = .ok (.invokevirtual 37, 3) := by decide +kernel
theorem dX2_spread_17 : decode cX2_spread 17 = .ok (.if_icmp .ge 57, 3) := by decide +kernel
theorem dX2_spread_20 : decode cX2_spread 20 = .ok (.aload_n 0, 1) := by decide +kernel
theorem dX2_spread_21 : decode cX2_spread 21 = .ok (.getfield 9, 3) := by decide +kernel
theorem dX2_spread_24 : decode cX2_spread 24 = .ok (.aload_n 0, 1) := by decide +kernel
theorem dX2_spread_25 : decode cX2_spread 25 = .ok (.getfield 26, 3) := by decide +kernel
theorem dX2_spread_28 : decode cX2_spread 28 = .ok (.iload_n 1, 1) := by decide +kernel
theorem dX2_spread_29 : decode cX2_spread 29 = .ok (.invokevirtual 41, 3) := by decide +kernel
theorem dX2_spread_32 : decode cX2_spread 32 = .ok (.iaload, 1) := by decide +kernel
theorem dX2_spread_33 : decode cX2_spread 33 = .ok (.istore_n 2, 1) := by decide +kernel
theorem dX2_spread_34 : decode cX2_spread 34 = .ok (.iconst 0, 1) := by decide +kernel
theorem dX2_spread_35 : decode cX2_spread 35 = .ok (.istore_n 3, 1) := by decide +kernel
theorem dX2_spread_36 : decode cX2_spread 36 = .ok (.iload_n 3, 1) := by decide +kernel
theorem dX2_spread_37 : decode cX2_spread 37 = .ok (.ldc 15, 2) := by decide +kernel
theorem dX2_spread_39 : decode cX2_spread 39 = .ok (.if_icmp .ge 29, 3) := by decide +kernel
theorem dX2_spread_42 : decode cX2_spread 42 = .ok (.iload_n 2, 1) := by decide +kernel
theorem dX2_spread_43 : decode cX2_spread 43 = .ok (.iconst (-1), 1) := by decide +kernel
theorem dX2_spread_44 : decode cX2_spread 44 = .ok (.if_icmp .eq 24, 3) := by decide +kernel
theorem dX2_spread_47 : decode cX2_spread 47 = .ok (.aload_n 0, 1) := by decide +kernel
theorem dX2_spread_48 : decode cX2_spread 48 = .ok (.iload_n 2, 1) := by decide +kernel
theorem dX2_spread_49 : decode cX2_spread 49 = .ok (.bipush 20, 2) := by decide +kernel
theorem dX2_spread_51 : decode cX2_spread 51 = .ok (.idiv, 1) := by decide +kernel
theorem dX2_spread_52 : decode cX2_spread 52 = .ok (.invokevirtual 45, 3) := by decide +kernel
theorem dX2_spread_55 : decode cX2_spread 55 = .ok (.aload_n 0, 1) := by decide +kernel
theorem dX2_spread_56 : decode cX2_spread 56 = .ok (.getfield 16, 3) := by decide +kernel
theorem dX2_spread_59 : decode cX2_spread 59 = .ok (.iload_n 2, 1) := by decide +kernel
theorem dX2_spread_60 : decode cX2_spread 60 = .ok (.iaload, 1) := by decide +kernel
theorem dX2_spread_61 : decode cX2_spread 61 = .ok (.istore_n 2, 1) := by decide +kernel
theorem dX2_spread_62 : decode cX2_spread 62 = .ok (.iinc 3 1, 3) := by decide +kernel
theorem dX2_spread_65 : decode cX2_spread 65 = .ok (.goto (-29), 3) := by decide +kernel
theorem dX2_spread_68 : decode cX2_spread 68 = .ok (.iinc 1 1, 3) := by decide +kernel
theorem dX2_spread_71 : decode cX2_spread 71 = .ok (.goto (-69), 3) := by decide +kernel
theorem dX2_spread_74 : decode cX2_spread 74 = .ok (.return_, 1) := by decide +kernel
theorem dX3_init_0 : decode cX3_init 0 = .ok (.aload_n 0, 1) := by decide +kernel
theorem dX3_init_1 : decode cX3_init 1 = .ok (.invokespecial 3, 3) := by decide +kernel
theorem dX3_init_4 : decode cX3_init 4 = .ok (.aload_n 0, 1) := by decide +kernel
theorem dX3_init_5 : decode cX3_init 5 = .ok (.sipush 200, 3) := by decide +kernel
theorem dX3_init_8 : decode cX3_init 8 = .ok (.newarray .int, 2) := by decide +kernel
theorem dX3_init_10 : decode cX3_init 10 = .ok (.putfield 9, 3) := by decide +kernel
theorem dX3_init_13 : decode cX3_init 13 = .ok (.aload_n 0, 1) := by decide +kernel
theorem dX3_init_14 : decode cX3_init 14 = .ok (.sipush 200, 3) := by decide +kernel
theorem dX3_init_17 : decode cX3_init 17 = .ok (.newarray .int, 2) := by decide +kernel
theorem dX3_init_19 : decode cX3_init 19 = .ok (.putfield 15, 3) := by decide +kernel
theorem dX3_init_22 : decode cX3_init 22 = .ok (.aload_n 0, 1) := by decide +kernel
theorem dX3_init_23 : decode cX3_init 23 = .ok (.sipush 200, 3) := by decide +kernel
theorem dX3_init_26 : decode cX3_init 26 = .ok (.newarray .int, 2) := by decide +kernel
theorem dX3_init_28 : decode cX3_init 28 = .ok (.putfield 18, 3) := by decide +kernel
theorem dX3_init_31 : decode cX3_init 31 = .ok (.aload_n 0, 1) := by decide +kernel
theorem dX3_init_32 : decode cX3_init 32 = .ok (.iconst 0, 1) := by decide +kernel
theorem dX3_init_33 : decode cX3_init 33 = .ok (.putfield 21, 3) := by decide +kernel
theorem dX3_init_36 : decode cX3_init 36 = .ok (.return_, 1) := by decide +kernel
theorem dX3_clear_0 : decode cX3_clear 0 = .ok (.aload_n 0, 1) := by decide +kernel
theorem dX3_clear_1 : decode cX3_clear 1 = .ok (.iconst 0, 1) := by decide +kernel
theorem dX3_clear_2 : decode cX3_clear 2 = .ok (.putfield 21, 3) := by decide +kernel
theorem dX3_clear_5 : decode cX3_clear 5 = .ok (.return_, 1) := by decide +kernel
theorem dX3_count_0 : decode cX3_count 0 = .ok (.aload_n 0, 1) := by decide +kernel
theorem dX3_count_1 : decode cX3_count 1 = .ok (.getfield 21, 3) := by decide +kernel
theorem dX3_count_4 : decode cX3_count 4 = .ok (.ireturn, 1) := by decide +kernel
theorem dX3_add_0 : decode cX3_add 0 = .ok (.aload_n 0, 1) := by decide +kernel
theorem dX3_add_1 : decode cX3_add 1 = .ok (.getfield 21, 3) := by decide +kernel
theorem dX3_add_4 : decode cX3_add 4 = .ok (.sipush 200, 3) := by decide +kernel
theorem dX3_add_7 : decode cX3_add 7 = .ok (.if_icmp .ge 33, 3) := by decide +kernel
theorem dX3_add_10 : decode cX3_add 10 = .ok (.aload_n 0, 1) := by decide +kernel
theorem dX3_add_11 : decode cX3_add 11 = .ok (.getfield 9, 3) := by decide +kernel
theorem dX3_add_14 : decode cX3_add 14 = .ok (.aload_n 0, 1) := by decide +kernel
theorem dX3_add_15 : decode cX3_add 15 = .ok (.getfield 21, 3) := by decide +kernel
theorem dX3_add_18 : decode cX3_add 18 = .ok (.iload_n 1, 1) := by decide +kernel
theorem dX3_add_19 : decode cX3_add 19 = .ok (.iastore, 1) := by decide +kernel
theorem dX3_add_20 : decode cX3_add 20 = .ok (.aload_n 0, 1) := by decide +kernel
theorem dX3_add_21 : decode cX3_add 21 = .ok (.getfield 15, 3) := by decide +kernel
theorem dX3_add_24 : decode cX3_add 24 = .ok (.aload_n 0, 1) := by decide +kernel
theorem dX3_add_25 : decode cX3_add 25 = .ok (.getfield 21, 3) := by decide +kernel
theorem dX3_add_28 : decode cX3_add 28 = .ok (.iload_n 2, 1) := by decide +kernel
theorem dX3_add_29 : decode cX3_add 29 = .ok (.iastore, 1) := by decide +kernel
theorem dX3_add_30 : decode cX3_add 30 = .ok (.aload_n 0, 1) := by decide +kernel
theorem dX3_add_31 : decode cX3_add 31 = .ok (.getfield 18, 3) := by decide +kernel
theorem dX3_add_34 : decode cX3_add 34 = .ok (.aload_n 0, 1) := by decide +kernel
theorem dX3_add_35 : decode cX3_add 35 = .ok (.getfield 21, 3) := by decide +kernel
theorem dX3_add_38 : decode cX3_add 38 = .ok (.iload_n 3, 1) := by decide +kernel
theorem dX3_add_39 : decode cX3_add 39 = .ok (.iastore, 1) := by decide +kernel
theorem dX3_add_40 : decode cX3_add 40 = .ok (.aload_n 0, 1) := by decide +kernel
theorem dX3_add_41 : decode cX3_add 41 = .ok (.dup, 1) := by decide +kernel
theorem dX3_add_42 : decode cX3_add 42 = .ok (.getfield 21, 3) := by decide +kernel
theorem dX3_add_45 : decode cX3_add 45 = .ok (.iconst 1, 1) := by decide +kernel
theorem dX3_add_46 : decode cX3_add 46 = .ok (.iadd, 1) := by decide +kernel
theorem dX3_add_47 : decode cX3_add 47 = .ok (.putfield 21, 3) := by decide +kernel
theorem dX3_add_50 : decode cX3_add 50 = .ok (.return_, 1) := by decide +kernel
theorem dX3_ask_0 : decode cX3_ask 0 = .ok (.iload_n 1, 1) := by decide +kernel
theorem dX3_ask_1 : decode cX3_ask 1 = .ok (.ifCond .lt 18, 3) := by decide +kernel
theorem dX3_ask_4 : decode cX3_ask 4 = .ok (.iload_n 1, 1) := by decide +kernel
theorem dX3_ask_5 : decode cX3_ask 5 = .ok (.aload_n 0, 1) := by decide +kernel
theorem dX3_ask_6 : decode cX3_ask 6 = .ok (.getfield 21, 3) := by decide +kernel
theorem dX3_ask_9 : decode cX3_ask 9 = .ok (.if_icmp .ge 10, 3) := by decide +kernel
theorem dX3_ask_12 : decode cX3_ask 12 = .ok (.iload_n 1, 1) := by decide +kernel
theorem dX3_ask_13 : decode cX3_ask 13 = .ok (.sipush 200, 3) := by decide +kernel
theorem dX3_ask_16 : decode cX3_ask 16 = .ok (.if_icmp .lt 5, 3) := by decide +kernel
theorem dX3_ask_19 : decode cX3_ask 19 = .ok (.iconst (-1), 1) := by decide +kernel
theorem dX3_ask_20 : decode cX3_ask 20 = .ok (.ireturn, 1) := by decide +kernel
theorem dX3_ask_21 : decode cX3_ask 21 = .ok (.iload_n 2, 1) := by decide +kernel
theorem dX3_ask_22 : decode cX3_ask 22 = .ok (.tableswitch 47 0 2 #[26, 33, 40], 26) := by decide +kernel
theorem dX3_ask_48 : decode cX3_ask 48 = .ok (.aload_n 0, 1) := by decide +kernel
theorem dX3_ask_49 : decode cX3_ask 49 = .ok (.getfield 9, 3) := by decide +kernel
theorem dX3_ask_52 : decode cX3_ask 52 = .ok (.iload_n 1, 1) := by decide +kernel
theorem dX3_ask_53 : decode cX3_ask 53 = .ok (.iaload, 1) := by decide +kernel
theorem dX3_ask_54 : decode cX3_ask 54 = .ok (.ireturn, 1) := by decide +kernel
theorem dX3_ask_55 : decode cX3_ask 55 = .ok (.aload_n 0, 1) := by decide +kernel
theorem dX3_ask_56 : decode cX3_ask 56 = .ok (.getfield 15, 3) := by decide +kernel
theorem dX3_ask_59 : decode cX3_ask 59 = .ok (.iload_n 1, 1) := by decide +kernel
theorem dX3_ask_60 : decode cX3_ask 60 = .ok (.iaload, 1) := by decide +kernel
theorem dX3_ask_61 : decode cX3_ask 61 = .ok (.ireturn, 1) := by decide +kernel
theorem dX3_ask_62 : decode cX3_ask 62 = .ok (.aload_n 0, 1) := by decide +kernel
theorem dX3_ask_63 : decode cX3_ask 63 = .ok (.getfield 18, 3) := by decide +kernel
theorem dX3_ask_66 : decode cX3_ask 66 = .ok (.iload_n 1, 1) := by decide +kernel
theorem dX3_ask_67 : decode cX3_ask 67 = .ok (.iaload, 1) := by decide +kernel
theorem dX3_ask_68 : decode cX3_ask 68 = .ok (.ireturn, 1) := by decide +kernel
theorem dX3_ask_69 : decode cX3_ask 69 = .ok (.iconst (-1), 1) := by decide +kernel
theorem dX3_ask_70 : decode cX3_ask 70 = .ok (.ireturn, 1) := by decide +kernel
theorem dX4_make_0 : decode cX4_make 0 = .ok (.sipush 16384, 3) := by decide +kernel
theorem dX4_make_3 : decode cX4_make 3 = .ok (.iload_n 2, 1) := by decide +kernel
theorem dX4_make_4 : decode cX4_make 4 = .ok (.bipush 11, 2) := by decide +kernel
theorem dX4_make_6 : decode cX4_make 6 = .ok (.ishl, 1) := by decide +kernel
theorem dX4_make_7 : decode cX4_make 7 = .ok (.ior, 1) := by decide +kernel
theorem dX4_make_8 : decode cX4_make 8 = .ok (.iload_n 3, 1) := by decide +kernel
theorem dX4_make_9 : decode cX4_make 9 = .ok (.bipush 8, 2) := by decide +kernel
theorem dX4_make_11 : decode cX4_make 11 = .ok (.ishl, 1) := by decide +kernel
theorem dX4_make_12 : decode cX4_make 12 = .ok (.ior, 1) := by decide +kernel
theorem dX4_make_13 : decode cX4_make 13 = .ok (.iload_n 1, 1) := by decide +kernel
theorem dX4_make_14 : decode cX4_make 14 = .ok (.bipush 7, 2) := by decide +kernel
theorem dX4_make_16 : decode cX4_make 16 = .ok (.ishl, 1) := by decide +kernel
theorem dX4_make_17 : decode cX4_make 17 = .ok (.ior, 1) := by decide +kernel
theorem dX4_make_18 : decode cX4_make 18 = .ok (.iload_n 0, 1) := by decide +kernel
theorem dX4_make_19 : decode cX4_make 19 = .ok (.iconst 3, 1) := by decide +kernel
theorem dX4_make_20 : decode cX4_make 20 = .ok (.ishl, 1) := by decide +kernel
theorem dX4_make_21 : decode cX4_make 21 = .ok (.ior, 1) := by decide +kernel
theorem dX4_make_22 : decode cX4_make 22 = .ok (.iload 4, 2) := by decide +kernel
theorem dX4_make_24 : decode cX4_make 24 = .ok (.iconst 1, 1) := by decide +kernel
theorem dX4_make_25 : decode cX4_make 25 = .ok (.ishl, 1) := by decide +kernel
theorem dX4_make_26 : decode cX4_make 26 = .ok (.ior, 1) := by decide +kernel
theorem dX4_make_27 : decode cX4_make 27 = .ok (.iload 5, 2) := by decide +kernel
theorem dX4_make_29 : decode cX4_make 29 = .ok (.ior, 1) := by decide +kernel
theorem dX4_make_30 : decode cX4_make 30 = .ok (.ireturn, 1) := by decide +kernel
theorem dX4_kindOf_0 : decode cX4_kindOf 0 = .ok (.iload_n 0, 1) := by decide +kernel
theorem dX4_kindOf_1 : decode cX4_kindOf 1 = .ok (.iconst 3, 1) := by decide +kernel
theorem dX4_kindOf_2 : decode cX4_kindOf 2 = .ok (.ishr, 1) := by decide +kernel
theorem dX4_kindOf_3 : decode cX4_kindOf 3 = .ok (.bipush 15, 2) := by decide +kernel
theorem dX4_kindOf_5 : decode cX4_kindOf 5 = .ok (.iand, 1) := by decide +kernel
theorem dX4_kindOf_6 : decode cX4_kindOf 6 = .ok (.ireturn, 1) := by decide +kernel
theorem dX4_fromOf_0 : decode cX4_fromOf 0 = .ok (.iload_n 0, 1) := by decide +kernel
theorem dX4_fromOf_1 : decode cX4_fromOf 1 = .ok (.bipush 11, 2) := by decide +kernel
theorem dX4_fromOf_3 : decode cX4_fromOf 3 = .ok (.ishr, 1) := by decide +kernel
theorem dX4_fromOf_4 : decode cX4_fromOf 4 = .ok (.bipush 7, 2) := by decide +kernel
theorem dX4_fromOf_6 : decode cX4_fromOf 6 = .ok (.iand, 1) := by decide +kernel
theorem dX4_fromOf_7 : decode cX4_fromOf 7 = .ok (.ireturn, 1) := by decide +kernel
theorem dX4_toOf_0 : decode cX4_toOf 0 = .ok (.iload_n 0, 1) := by decide +kernel
theorem dX4_toOf_1 : decode cX4_toOf 1 = .ok (.bipush 8, 2) := by decide +kernel
theorem dX4_toOf_3 : decode cX4_toOf 3 = .ok (.ishr, 1) := by decide +kernel
theorem dX4_toOf_4 : decode cX4_toOf 4 = .ok (.bipush 7, 2) := by decide +kernel
theorem dX4_toOf_6 : decode cX4_toOf 6 = .ok (.iand, 1) := by decide +kernel
theorem dX4_toOf_7 : decode cX4_toOf 7 = .ok (.ireturn, 1) := by decide +kernel
theorem dX4_forOf_0 : decode cX4_forOf 0 = .ok (.iload_n 0, 1) := by decide +kernel
theorem dX4_forOf_1 : decode cX4_forOf 1 = .ok (.iconst 1, 1) := by decide +kernel
theorem dX4_forOf_2 : decode cX4_forOf 2 = .ok (.ishr, 1) := by decide +kernel
theorem dX4_forOf_3 : decode cX4_forOf 3 = .ok (.iconst 3, 1) := by decide +kernel
theorem dX4_forOf_4 : decode cX4_forOf 4 = .ok (.iand, 1) := by decide +kernel
theorem dX4_forOf_5 : decode cX4_forOf 5 = .ok (.ireturn, 1) := by decide +kernel
theorem dX4_freshOf_0 : decode cX4_freshOf 0 = .ok (.iload_n 0, 1) := by decide +kernel
theorem dX4_freshOf_1 : decode cX4_freshOf 1 = .ok (.iconst 1, 1) := by decide +kernel
theorem dX4_freshOf_2 : decode cX4_freshOf 2 = .ok (.iand, 1) := by decide +kernel
theorem dX4_freshOf_3 : decode cX4_freshOf 3 = .ok (.ireturn, 1) := by decide +kernel
theorem dX4_staled_0 : decode cX4_staled 0 = .ok (.iload_n 0, 1) := by decide +kernel
theorem dX4_staled_1 : decode cX4_staled 1 = .ok (.bipush (-2), 2) := by decide +kernel
theorem dX4_staled_3 : decode cX4_staled 3 = .ok (.iand, 1) := by decide +kernel
theorem dX4_staled_4 : decode cX4_staled 4 = .ok (.ireturn, 1) := by decide +kernel
theorem dX4_shareOrder_0 : decode cX4_shareOrder 0 = .ok (.iload_n 0, 1) := by decide +kernel
theorem dX4_shareOrder_1 : decode cX4_shareOrder 1 = .ok (.bipush 7, 2) := by decide +kernel
theorem dX4_shareOrder_3 : decode cX4_shareOrder 3 = .ok (.ishr, 1) := by decide +kernel
theorem dX4_shareOrder_4 : decode cX4_shareOrder 4 = .ok (.iload_n 1, 1) := by decide +kernel
theorem dX4_shareOrder_5 : decode cX4_shareOrder 5 = .ok (.bipush 7, 2) := by decide +kernel
theorem dX4_shareOrder_7 : decode cX4_shareOrder 7 = .ok (.ishr, 1) := by decide +kernel
theorem dX4_shareOrder_8 : decode cX4_shareOrder 8 = .ok (.if_icmp .ne 15, 3) := by decide +kernel
theorem dX4_shareOrder_11 : decode cX4_shareOrder 11 = .ok (.iload_n 0, 1) := by decide +kernel
theorem dX4_shareOrder_12 : decode cX4_shareOrder 12 = .ok (.sipush 128, 3) := by decide +kernel
theorem dX4_shareOrder_15 : decode cX4_shareOrder 15 = .ok (.iand, 1) := by decide +kernel
theorem dX4_shareOrder_16 : decode cX4_shareOrder 16 = .ok (.ifCond .ne 7, 3) := by decide +kernel
theorem dX4_shareOrder_19 : decode cX4_shareOrder 19 = .ok (.iconst 1, 1) := by decide +kernel
theorem dX4_shareOrder_20 : decode cX4_shareOrder 20 = .ok (.goto 4, 3) := by decide +kernel
theorem dX4_shareOrder_23 : decode cX4_shareOrder 23 = .ok (.iconst 0, 1) := by decide +kernel
theorem dX4_shareOrder_24 : decode cX4_shareOrder 24 = .ok (.ireturn, 1) := by decide +kernel
theorem dX4_lastAhead_0 : decode cX4_lastAhead 0 = .ok (.iload_n 0, 1) := by decide +kernel
theorem dX4_lastAhead_1 : decode cX4_lastAhead 1 = .ok (.sipush 128, 3) := by decide +kernel
theorem dX4_lastAhead_4 : decode cX4_lastAhead 4 = .ok (.iand, 1) := by decide +kernel
theorem dX4_lastAhead_5 : decode cX4_lastAhead 5 = .ok (.ifCond .ne 10, 3) := by decide +kernel
theorem dX4_lastAhead_8 : decode cX4_lastAhead 8 = .ok (.iload_n 0, 1) := by decide +kernel
theorem dX4_lastAhead_9 : decode cX4_lastAhead 9 = .ok (.bipush 127, 2) := by decide +kernel
theorem dX4_lastAhead_11 : decode cX4_lastAhead 11 = .ok (.ior, 1) := by decide +kernel
theorem dX4_lastAhead_12 : decode cX4_lastAhead 12 = .ok (.goto 4, 3) := by decide +kernel
theorem dX4_lastAhead_15 : decode cX4_lastAhead 15 = .ok (.iload_n 0, 1) := by decide +kernel
theorem dX4_lastAhead_16 : decode cX4_lastAhead 16 = .ok (.ireturn, 1) := by decide +kernel
theorem dX5_init_0 : decode cX5_init 0 = .ok (.aload_n 0, 1) := by decide +kernel
theorem dX5_init_1 : decode cX5_init 1 = .ok (.invokespecial 3, 3) := by decide +kernel
theorem dX5_init_4 : decode cX5_init 4 = .ok (.aload_n 0, 1) := by decide +kernel
theorem dX5_init_5 : decode cX5_init 5 = .ok (.sipush 4000, 3) := by decide +kernel
theorem dX5_init_8 : decode cX5_init 8 = .ok (.newarray .int, 2) := by decide +kernel
theorem dX5_init_10 : decode cX5_init 10 = .ok (.putfield 9, 3) := by decide +kernel
theorem dX5_init_13 : decode cX5_init 13 = .ok (.aload_n 0, 1) := by decide +kernel
theorem dX5_init_14 : decode cX5_init 14 = .ok (.iconst 0, 1) := by decide +kernel
theorem dX5_init_15 : decode cX5_init 15 = .ok (.putfield 15, 3) := by decide +kernel
theorem dX5_init_18 : decode cX5_init 18 = .ok (.return_, 1) := by decide +kernel
theorem dX5_clear_0 : decode cX5_clear 0 = .ok (.aload_n 0, 1) := by decide +kernel
theorem dX5_clear_1 : decode cX5_clear 1 = .ok (.iconst 0, 1) := by decide +kernel
theorem dX5_clear_2 : decode cX5_clear 2 = .ok (.putfield 15, 3) := by decide +kernel
theorem dX5_clear_5 : decode cX5_clear 5 = .ok (.return_, 1) := by decide +kernel
theorem dX5_count_0 : decode cX5_count 0 = .ok (.aload_n 0, 1) := by decide +kernel
theorem dX5_count_1 : decode cX5_count 1 = .ok (.getfield 15, 3) := by decide +kernel
theorem dX5_count_4 : decode cX5_count 4 = .ok (.ireturn, 1) := by decide +kernel
theorem dX5_add_0 : decode cX5_add 0 = .ok (.aload_n 0, 1) := by decide +kernel
theorem dX5_add_1 : decode cX5_add 1 = .ok (.getfield 15, 3) := by decide +kernel
theorem dX5_add_4 : decode cX5_add 4 = .ok (.sipush 4000, 3) := by decide +kernel
theorem dX5_add_7 : decode cX5_add 7 = .ok (.if_icmp .ge 23, 3) := by decide +kernel
theorem dX5_add_10 : decode cX5_add 10 = .ok (.aload_n 0, 1) := by decide +kernel
theorem dX5_add_11 : decode cX5_add 11 = .ok (.getfield 9, 3) := by decide +kernel
theorem dX5_add_14 : decode cX5_add 14 = .ok (.aload_n 0, 1) := by decide +kernel
theorem dX5_add_15 : decode cX5_add 15 = .ok (.getfield 15, 3) := by decide +kernel
theorem dX5_add_18 : decode cX5_add 18 = .ok (.iload_n 1, 1) := by decide +kernel
theorem dX5_add_19 : decode cX5_add 19 = .ok (.iastore, 1) := by decide +kernel
theorem dX5_add_20 : decode cX5_add 20 = .ok (.aload_n 0, 1) := by decide +kernel
theorem dX5_add_21 : decode cX5_add 21 = .ok (.dup, 1) := by decide +kernel
theorem dX5_add_22 : decode cX5_add 22 = .ok (.getfield 15, 3) := by decide +kernel
theorem dX5_add_25 : decode cX5_add 25 = .ok (.iconst 1, 1) := by decide +kernel
theorem dX5_add_26 : decode cX5_add 26 = .ok (.iadd, 1) := by decide +kernel
theorem dX5_add_27 : decode cX5_add 27 = .ok (.putfield 15, 3) := by decide +kernel
theorem dX5_add_30 : decode cX5_add 30 = .ok (.return_, 1) := by decide +kernel
theorem dX5_at_0 : decode cX5_at 0 = .ok (.iload_n 1, 1) := by decide +kernel
theorem dX5_at_1 : decode cX5_at 1 = .ok (.ifCond .lt 20, 3) := by decide +kernel
theorem dX5_at_4 : decode cX5_at 4 = .ok (.iload_n 1, 1) := by decide +kernel
theorem dX5_at_5 : decode cX5_at 5 = .ok (.aload_n 0, 1) := by decide +kernel
theorem dX5_at_6 : decode cX5_at 6 = .ok (.getfield 15, 3) := by decide +kernel
theorem dX5_at_9 : decode cX5_at 9 = .ok (.if_icmp .ge 12, 3) := by decide +kernel
theorem dX5_at_12 : decode cX5_at 12 = .ok (.aload_n 0, 1) := by decide +kernel
theorem dX5_at_13 : decode cX5_at 13 = .ok (.getfield 9, 3) := by decide +kernel
theorem dX5_at_16 : decode cX5_at 16 = .ok (.iload_n 1, 1) := by decide +kernel
theorem dX5_at_17 : decode cX5_at 17 = .ok (.iaload, 1) := by decide +kernel
theorem dX5_at_18 : decode cX5_at 18 = .ok (.goto 4, 3) := by decide +kernel
theorem dX5_at_21 : decode cX5_at 21 = .ok (.iconst (-1), 1) := by decide +kernel
theorem dX5_at_22 : decode cX5_at 22 = .ok (.ireturn, 1) := by decide +kernel
theorem dX6_init_0 : decode cX6_init 0 = .ok (.aload_n 0, 1) := by decide +kernel
theorem dX6_init_1 : decode cX6_init 1 = .ok (.invokespecial 3, 3) := by decide +kernel
theorem dX6_init_4 : decode cX6_init 4 = .ok (.aload_n 0, 1) := by decide +kernel
theorem dX6_init_5 : decode cX6_init 5 = .ok (.iconst 2, 1) := by decide +kernel
theorem dX6_init_6 : decode cX6_init 6 = .ok (.putfield 9, 3) := by decide +kernel
theorem dX6_init_9 : decode cX6_init 9 = .ok (.aload_n 0, 1) := by decide +kernel
theorem dX6_init_10 : decode cX6_init 10 = .ok (.bipush 16, 2) := by decide +kernel
theorem dX6_init_12 : decode cX6_init 12 = .ok (.newarray .int, 2) := by decide +kernel
theorem dX6_init_14 : decode cX6_init 14 = .ok (.putfield 15, 3) := by decide +kernel
theorem dX6_init_17 : decode cX6_init 17 = .ok (.aload_n 0, 1) := by decide +kernel
theorem dX6_init_18 : decode cX6_init 18 = .ok (.bipush 16, 2) := by decide +kernel
theorem dX6_init_20 : decode cX6_init 20 = .ok (.newarray .int, 2) := by decide +kernel
theorem dX6_init_22 : decode cX6_init 22 = .ok (.putfield 19, 3) := by decide +kernel
theorem dX6_init_25 : decode cX6_init 25 = .ok (.aload_n 0, 1) := by decide +kernel
theorem dX6_init_26 : decode cX6_init 26 = .ok (.sipush 2048, 3) := by decide +kernel
theorem dX6_init_29 : decode cX6_init 29 = .ok (.newarray .int, 2) := by decide +kernel
theorem dX6_init_31 : decode cX6_init 31 = .ok (.putfield 22, 3) := by decide +kernel
theorem dX6_init_34 : decode cX6_init 34 = .ok (.aload_n 0, 1) := by decide +kernel
theorem dX6_init_35 : decode cX6_init 35 = .ok (.sipush 2048, 3) := by decide +kernel
theorem dX6_init_38 : decode cX6_init 38 = .ok (.newarray .int, 2) := by decide +kernel
theorem dX6_init_40 : decode cX6_init 40 = .ok (.putfield 25, 3) := by decide +kernel
theorem dX6_init_43 : decode cX6_init 43 = .ok (.aload_n 0, 1) := by decide +kernel
theorem dX6_init_44 : decode cX6_init 44 = .ok (.sipush 2048, 3) := by decide +kernel
theorem dX6_init_47 : decode cX6_init 47 = .ok (.newarray .int, 2) := by decide +kernel
theorem dX6_init_49 : decode cX6_init 49 = .ok (.putfield 28, 3) := by decide +kernel
theorem dX6_init_52 : decode cX6_init 52 = .ok (.aload_n 0, 1) := by decide +kernel
theorem dX6_init_53 : decode cX6_init 53 = .ok (.sipush 2048, 3) := by decide +kernel
theorem dX6_init_56 : decode cX6_init 56 = .ok (.newarray .boolean, 2) := by decide +kernel
theorem dX6_init_58 : decode cX6_init 58 = .ok (.putfield 31, 3) := by decide +kernel
theorem dX6_init_61 : decode cX6_init 61 = .ok (.aload_n 0, 1) := by decide +kernel
theorem dX6_init_62 : decode cX6_init 62 = .ok (.iconst 2, 1) := by decide +kernel
theorem dX6_init_63 : decode cX6_init 63 = .ok (.newarray .int, 2) := by decide +kernel
theorem dX6_init_65 : decode cX6_init 65 = .ok (.putfield 35, 3) := by decide +kernel
theorem dX6_init_68 : decode cX6_init 68 = .ok (.aload_n 0, 1) := by decide +kernel
theorem dX6_init_69 : decode cX6_init 69 = .ok (.getfield 22, 3) := by decide +kernel
theorem dX6_init_72 : decode cX6_init 72 = .ok (.iconst (-1), 1) := by decide +kernel
theorem dX6_init_73 : decode cX6_init 73 = .ok (.invokestatic 38, 3) := by decide +kernel
theorem dX6_init_76 : decode cX6_init 76 = .ok (.return_, 1) := by decide +kernel
theorem dX6_home_0 : decode cX6_home 0 = .ok (.aload_n 0, 1) := by decide +kernel
theorem dX6_home_1 : decode cX6_home 1 = .ok (.getfield 9, 3) := by decide +kernel
theorem dX6_home_4 : decode cX6_home 4 = .ok (.ireturn, 1) := by decide +kernel
theorem dX6_setHome_0 : decode cX6_setHome 0 = .ok (.aload_n 0, 1) := by decide +kernel
theorem dX6_setHome_1 : decode cX6_setHome 1 = .ok (.getfield 9, 3) := by decide +kernel
theorem dX6_setHome_4 : decode cX6_setHome 4 = .ok (.istore_n 2, 1) := by decide +kernel
theorem dX6_setHome_5 : decode cX6_setHome 5 = .ok (.aload_n 0, 1) := by decide +kernel
theorem dX6_setHome_6 : decode cX6_setHome 6 = .ok (.iload_n 1, 1) := by decide +kernel
theorem dX6_setHome_7 : decode cX6_setHome 7 = .ok (.putfield 9, 3) := by decide +kernel
theorem dX6_setHome_10 : decode cX6_setHome 10 = .ok (.iload_n 2, 1) := by decide +kernel
theorem dX6_setHome_11 : decode cX6_setHome 11 = .ok (.ireturn, 1) := by decide +kernel
theorem dX6_looseOf_0 : decode cX6_looseOf 0 = .ok (.aload_n 0, 1) := by decide +kernel
theorem dX6_looseOf_1 : decode cX6_looseOf 1 = .ok (.getfield 15, 3) := by decide +kernel
theorem dX6_looseOf_4 : decode cX6_looseOf 4 = .ok (.iload_n 1, 1) := by decide +kernel
theorem dX6_looseOf_5 : decode cX6_looseOf 5 = .ok (.iaload, 1) := by decide +kernel
theorem dX6_looseOf_6 : decode cX6_looseOf 6 = .ok (.ireturn, 1) := by decide +kernel
theorem dX6_setLoose_0 : decode cX6_setLoose 0 = .ok (.aload_n 0, 1) := by decide +kernel
theorem dX6_setLoose_1 : decode cX6_setLoose 1 = .ok (.getfield 15, 3) := by decide +kernel
theorem dX6_setLoose_4 : decode cX6_setLoose 4 = .ok (.iload_n 1, 1) := by decide +kernel
theorem dX6_setLoose_5 : decode cX6_setLoose 5 = .ok (.iaload, 1) := by decide +kernel
theorem dX6_setLoose_6 : decode cX6_setLoose 6 = .ok (.istore_n 3, 1) := by decide +kernel
theorem dX6_setLoose_7 : decode cX6_setLoose 7 = .ok (.aload_n 0, 1) := by decide +kernel
theorem dX6_setLoose_8 : decode cX6_setLoose 8 = .ok (.getfield 15, 3) := by decide +kernel
theorem dX6_setLoose_11 : decode cX6_setLoose 11 = .ok (.iload_n 1, 1) := by decide +kernel
theorem dX6_setLoose_12 : decode cX6_setLoose 12 = .ok (.iload_n 2, 1) := by decide +kernel
theorem dX6_setLoose_13 : decode cX6_setLoose 13 = .ok (.iastore, 1) := by decide +kernel
theorem dX6_setLoose_14 : decode cX6_setLoose 14 = .ok (.iload_n 3, 1) := by decide +kernel
theorem dX6_setLoose_15 : decode cX6_setLoose 15 = .ok (.ireturn, 1) := by decide +kernel
theorem dX6_setRight_0 : decode cX6_setRight 0 = .ok (.aload_n 0, 1) := by decide +kernel
theorem dX6_setRight_1 : decode cX6_setRight 1 = .ok (.getfield 19, 3) := by decide +kernel
theorem dX6_setRight_4 : decode cX6_setRight 4 = .ok (.iload_n 1, 1) := by decide +kernel
theorem dX6_setRight_5 : decode cX6_setRight 5 = .ok (.iaload, 1) := by decide +kernel
theorem dX6_setRight_6 : decode cX6_setRight 6 = .ok (.istore_n 3, 1) := by decide +kernel
theorem dX6_setRight_7 : decode cX6_setRight 7 = .ok (.aload_n 0, 1) := by decide +kernel
theorem dX6_setRight_8 : decode cX6_setRight 8 = .ok (.getfield 19, 3) := by decide +kernel
theorem dX6_setRight_11 : decode cX6_setRight 11 = .ok (.iload_n 1, 1) := by decide +kernel
theorem dX6_setRight_12 : decode cX6_setRight 12 = .ok (.iload_n 2, 1) := by decide +kernel
theorem dX6_setRight_13 : decode cX6_setRight 13 = .ok (.iastore, 1) := by decide +kernel
theorem dX6_setRight_14 : decode cX6_setRight 14 = .ok (.iload_n 3, 1) := by decide +kernel
theorem dX6_setRight_15 : decode cX6_setRight 15 = .ok (.ireturn, 1) := by decide +kernel
theorem dX6_hasRow_0 : decode cX6_hasRow 0 = .ok (.aload_n 0, 1) := by decide +kernel
theorem dX6_hasRow_1 : decode cX6_hasRow 1 = .ok (.getfield 22, 3) := by decide +kernel
theorem dX6_hasRow_4 : decode cX6_hasRow 4 = .ok (.iload_n 1, 1) := by decide +kernel
theorem dX6_hasRow_5 : decode cX6_hasRow 5 = .ok (.iaload, 1) := by decide +kernel
theorem dX6_hasRow_6 : decode cX6_hasRow 6 = .ok (.iconst (-1), 1) := by decide +kernel
theorem dX6_hasRow_7 : decode cX6_hasRow 7 = .ok (.if_icmp .eq 7, 3) := by decide +kernel
theorem dX6_hasRow_10 : decode cX6_hasRow 10 = .ok (.iconst 1, 1) := by decide +kernel
theorem dX6_hasRow_11 : decode cX6_hasRow 11 = .ok (.goto 4, 3) := by decide +kernel
theorem dX6_hasRow_14 : decode cX6_hasRow 14 = .ok (.iconst 0, 1) := by decide +kernel
theorem dX6_hasRow_15 : decode cX6_hasRow 15 = .ok (.ireturn, 1) := by decide +kernel
theorem dX6_lengthOf_0 : decode cX6_lengthOf 0 = .ok (.aload_n 0, 1) := by decide +kernel
theorem dX6_lengthOf_1 : decode cX6_lengthOf 1 = .ok (.getfield 22, 3) := by decide +kernel
theorem dX6_lengthOf_4 : decode cX6_lengthOf 4 = .ok (.iload_n 1, 1) := by decide +kernel
theorem dX6_lengthOf_5 : decode cX6_lengthOf 5 = .ok (.iaload, 1) := by decide +kernel
theorem dX6_lengthOf_6 : decode cX6_lengthOf 6 = .ok (.ireturn, 1) := by decide +kernel
theorem dX6_waitsAt_0 : decode cX6_waitsAt 0 = .ok (.aload_n 0, 1) := by decide +kernel
theorem dX6_waitsAt_1 : decode cX6_waitsAt 1 = .ok (.getfield 31, 3) := by decide +kernel
theorem dX6_waitsAt_4 : decode cX6_waitsAt 4 = .ok (.iload_n 1, 1) := by decide +kernel
theorem dX6_waitsAt_5 : decode cX6_waitsAt 5 = .ok (.baload, 1) := by decide +kernel
theorem dX6_waitsAt_6 : decode cX6_waitsAt 6 = .ok (.ireturn, 1) := by decide +kernel
theorem dX6_countRows_0 : decode cX6_countRows 0 = .ok (.aload_n 0, 1) := by decide +kernel
theorem dX6_countRows_1 : decode cX6_countRows 1 = .ok (.getfield 35, 3) := by decide +kernel
theorem dX6_countRows_4 : decode cX6_countRows 4 = .ok (.iload_n 1, 1) := by decide +kernel
theorem dX6_countRows_5 : decode cX6_countRows 5 = .ok (.iaload, 1) := by decide +kernel
theorem dX6_countRows_6 : decode cX6_countRows 6 = .ok (.ireturn, 1) := by decide +kernel
theorem dX6_putRow_0 : decode cX6_putRow 0 = .ok (.aload_n 0, 1) := by decide +kernel
theorem dX6_putRow_1 : decode cX6_putRow 1 = .ok (.iload_n 1, 1) := by decide +kernel
theorem dX6_putRow_2 : decode cX6_putRow 2 = .ok (.invokevirtual 44, 3) := by decide +kernel
theorem dX6_putRow_5 : decode cX6_putRow 5 = .ok (.ifCond .eq 7, 3) := by decide +kernel
theorem dX6_putRow_8 : decode cX6_putRow 8 = .ok (.iconst 1, 1) := by decide +kernel
theorem dX6_putRow_9 : decode cX6_putRow 9 = .ok (.goto 4, 3) := by decide +kernel
theorem dX6_putRow_12 : decode cX6_putRow 12 = .ok (.iconst 0, 1) := by decide +kernel
theorem dX6_putRow_13 : decode cX6_putRow 13 = .ok (.istore 5, 2) := by decide +kernel
theorem dX6_putRow_15 : decode cX6_putRow 15 = .ok (.aload_n 0, 1) := by decide +kernel
theorem dX6_putRow_16 : decode cX6_putRow 16 = .ok (.getfield 35, 3) := by decide +kernel
theorem dX6_putRow_19 : decode cX6_putRow 19 = .ok (.iload_n 1, 1) := by decide +kernel
theorem dX6_putRow_20 : decode cX6_putRow 20 = .ok (.invokestatic 48, 3) := by decide +kernel
theorem dX6_putRow_23 : decode cX6_putRow 23 = .ok (.dup2, 1) := by decide +kernel
theorem dX6_putRow_24 : decode cX6_putRow 24 = .ok (.iaload, 1) := by decide +kernel
theorem dX6_putRow_25 : decode cX6_putRow 25 = .ok (.iconst 1, 1) := by decide +kernel
theorem dX6_putRow_26 : decode cX6_putRow 26 = .ok (.iload 5, 2) := by decide +kernel
theorem dX6_putRow_28 : decode cX6_putRow 28 = .ok (.isub, 1) := by decide +kernel
theorem dX6_putRow_29 : decode cX6_putRow 29 = .ok (.iadd, 1) := by decide +kernel
theorem dX6_putRow_30 : decode cX6_putRow 30 = .ok (.iastore, 1) := by decide +kernel
theorem dX6_putRow_31 : decode cX6_putRow 31 = .ok (.aload_n 0, 1) := by decide +kernel
theorem dX6_putRow_32 : decode cX6_putRow 32 = .ok (.getfield 22, 3) := by decide +kernel
theorem dX6_putRow_35 : decode cX6_putRow 35 = .ok (.iload_n 1, 1) := by decide +kernel
theorem dX6_putRow_36 : decode cX6_putRow 36 = .ok (.iload_n 2, 1) := by decide +kernel
theorem dX6_putRow_37 : decode cX6_putRow 37 = .ok (.iastore, 1) := by decide +kernel
theorem dX6_putRow_38 : decode cX6_putRow 38 = .ok (.aload_n 0, 1) := by decide +kernel
theorem dX6_putRow_39 : decode cX6_putRow 39 = .ok (.getfield 25, 3) := by decide +kernel
theorem dX6_putRow_42 : decode cX6_putRow 42 = .ok (.iload_n 1, 1) := by decide +kernel
theorem dX6_putRow_43 : decode cX6_putRow 43 = .ok (.iload_n 3, 1) := by decide +kernel
theorem dX6_putRow_44 : decode cX6_putRow 44 = .ok (.iastore, 1) := by decide +kernel
theorem dX6_putRow_45 : decode cX6_putRow 45 = .ok (.aload_n 0, 1) := by decide +kernel
theorem dX6_putRow_46 : decode cX6_putRow 46 = .ok (.getfield 28, 3) := by decide +kernel
theorem dX6_putRow_49 : decode cX6_putRow 49 = .ok (.iload_n 1, 1) := by decide +kernel
theorem dX6_putRow_50 : decode cX6_putRow 50 = .ok (.iload 4, 2) := by decide +kernel
theorem dX6_putRow_52 : decode cX6_putRow 52 = .ok (.iastore, 1) := by decide +kernel
theorem dX6_putRow_53 : decode cX6_putRow 53 = .ok (.aload_n 0, 1) := by decide +kernel
theorem dX6_putRow_54 : decode cX6_putRow 54 = .ok (.getfield 31, 3) := by decide +kernel
theorem dX6_putRow_57 : decode cX6_putRow 57 = .ok (.iload_n 1, 1) := by decide +kernel
theorem dX6_putRow_58 : decode cX6_putRow 58 = .ok (.aload_n 0, 1) := by decide +kernel
theorem dX6_putRow_59 : decode cX6_putRow 59 = .ok (.iload_n 1, 1) := by decide +kernel
theorem dX6_putRow_60 : decode cX6_putRow 60 = .ok (.invokevirtual 52, 3) := by decide +kernel
theorem dX6_putRow_63 : decode cX6_putRow 63 = .ok (.bastore, 1) := by decide +kernel
theorem dX6_putRow_64 : decode cX6_putRow 64 = .ok (.iload 5, 2) := by decide +kernel
theorem dX6_putRow_66 : decode cX6_putRow 66 = .ok (.ireturn, 1) := by decide +kernel
theorem dX6_dropRow_0 : decode cX6_dropRow 0 = .ok (.aload_n 0, 1) := by decide +kernel
theorem dX6_dropRow_1 : decode cX6_dropRow 1 = .ok (.iload_n 1, 1) := by decide +kernel
theorem dX6_dropRow_2 : decode cX6_dropRow 2 = .ok (.invokevirtual 44, 3) := by decide +kernel
theorem dX6_dropRow_5 : decode cX6_dropRow 5 = .ok (.ifCond .eq 7, 3) := by decide +kernel
theorem dX6_dropRow_8 : decode cX6_dropRow 8 = .ok (.iconst 1, 1) := by decide +kernel
theorem dX6_dropRow_9 : decode cX6_dropRow 9 = .ok (.goto 4, 3) := by decide +kernel
theorem dX6_dropRow_12 : decode cX6_dropRow 12 = .ok (.iconst 0, 1) := by decide +kernel
theorem dX6_dropRow_13 : decode cX6_dropRow 13 = .ok (.istore_n 2, 1) := by decide +kernel
theorem dX6_dropRow_14 : decode cX6_dropRow 14 = .ok (.aload_n 0, 1) := by decide +kernel
theorem dX6_dropRow_15 : decode cX6_dropRow 15 = .ok (.getfield 35, 3) := by decide +kernel
theorem dX6_dropRow_18 : decode cX6_dropRow 18 = .ok (.iload_n 1, 1) := by decide +kernel
theorem dX6_dropRow_19 : decode cX6_dropRow 19 = .ok (.invokestatic 48, 3) := by decide +kernel
theorem dX6_dropRow_22 : decode cX6_dropRow 22 = .ok (.dup2, 1) := by decide +kernel
theorem dX6_dropRow_23 : decode cX6_dropRow 23 = .ok (.iaload, 1) := by decide +kernel
theorem dX6_dropRow_24 : decode cX6_dropRow 24 = .ok (.iload_n 2, 1) := by decide +kernel
theorem dX6_dropRow_25 : decode cX6_dropRow 25 = .ok (.isub, 1) := by decide +kernel
theorem dX6_dropRow_26 : decode cX6_dropRow 26 = .ok (.iastore, 1) := by decide +kernel
theorem dX6_dropRow_27 : decode cX6_dropRow 27 = .ok (.aload_n 0, 1) := by decide +kernel
theorem dX6_dropRow_28 : decode cX6_dropRow 28 = .ok (.getfield 22, 3) := by decide +kernel
theorem dX6_dropRow_31 : decode cX6_dropRow 31 = .ok (.iload_n 1, 1) := by decide +kernel
theorem dX6_dropRow_32 : decode cX6_dropRow 32 = .ok (.iconst (-1), 1) := by decide +kernel
theorem dX6_dropRow_33 : decode cX6_dropRow 33 = .ok (.iastore, 1) := by decide +kernel
theorem dX6_dropRow_34 : decode cX6_dropRow 34 = .ok (.aload_n 0, 1) := by decide +kernel
theorem dX6_dropRow_35 : decode cX6_dropRow 35 = .ok (.getfield 31, 3) := by decide +kernel
theorem dX6_dropRow_38 : decode cX6_dropRow 38 = .ok (.iload_n 1, 1) := by decide +kernel
theorem dX6_dropRow_39 : decode cX6_dropRow 39 = .ok (.iconst 0, 1) := by decide +kernel
theorem dX6_dropRow_40 : decode cX6_dropRow 40 = .ok (.bastore, 1) := by decide +kernel
theorem dX6_dropRow_41 : decode cX6_dropRow 41 = .ok (.iload_n 2, 1) := by decide +kernel
theorem dX6_dropRow_42 : decode cX6_dropRow 42 = .ok (.ireturn, 1) := by decide +kernel
theorem dX6_actOf_0 : decode cX6_actOf 0 = .ok (.iload_n 2, 1) := by decide +kernel
theorem dX6_actOf_1 : decode cX6_actOf 1 = .ok (.iconst 4, 1) := by decide +kernel
theorem dX6_actOf_2 : decode cX6_actOf 2 = .ok (.if_icmp .ge 12, 3) := by decide +kernel
theorem dX6_actOf_5 : decode cX6_actOf 5 = .ok (.aload_n 0, 1) := by decide +kernel
theorem dX6_actOf_6 : decode cX6_actOf 6 = .ok (.getfield 25, 3) := by decide +kernel
theorem dX6_actOf_9 : decode cX6_actOf 9 = .ok (.iload_n 1, 1) := by decide +kernel
theorem dX6_actOf_10 : decode cX6_actOf 10 = .ok (.iaload, 1) := by decide +kernel
theorem dX6_actOf_11 : decode cX6_actOf 11 = .ok (.goto 9, 3) := by decide +kernel
theorem dX6_actOf_14 : decode cX6_actOf 14 = .ok (.aload_n 0, 1) := by decide +kernel
theorem dX6_actOf_15 : decode cX6_actOf 15 = .ok (.getfield 28, 3) := by decide +kernel
theorem dX6_actOf_18 : decode cX6_actOf 18 = .ok (.iload_n 1, 1) := by decide +kernel
theorem dX6_actOf_19 : decode cX6_actOf 19 = .ok (.iaload, 1) := by decide +kernel
theorem dX6_actOf_20 : decode cX6_actOf 20 = .ok (.istore_n 3, 1) := by decide +kernel
theorem dX6_actOf_21 : decode cX6_actOf 21 = .ok (.iload_n 3, 1) := by decide +kernel
theorem dX6_actOf_22 : decode cX6_actOf 22 = .ok (.bipush 24, 2) := by decide +kernel
theorem dX6_actOf_24 : decode cX6_actOf 24 = .ok (.bipush 8, 2) := by decide +kernel
theorem dX6_actOf_26 : decode cX6_actOf 26 = .ok (.iload_n 2, 1) := by decide +kernel
theorem dX6_actOf_27 : decode cX6_actOf 27 = .ok (.iconst 3, 1) := by decide +kernel
theorem dX6_actOf_28 : decode cX6_actOf 28 = .ok (.iand, 1) := by decide +kernel
theorem dX6_actOf_29 : decode cX6_actOf 29 = .ok (.imul, 1) := by decide +kernel
theorem dX6_actOf_30 : decode cX6_actOf 30 = .ok (.isub, 1) := by decide +kernel
theorem dX6_actOf_31 : decode cX6_actOf 31 = .ok (.iushr, 1) := by decide +kernel
theorem dX6_actOf_32 : decode cX6_actOf 32 = .ok (.sipush 255, 3) := by decide +kernel
theorem dX6_actOf_35 : decode cX6_actOf 35 = .ok (.iand, 1) := by decide +kernel
theorem dX6_actOf_36 : decode cX6_actOf 36 = .ok (.ireturn, 1) := by decide +kernel
theorem dX6_hasWait_0 : decode cX6_hasWait 0 = .ok (.iconst 0, 1) := by decide +kernel
theorem dX6_hasWait_1 : decode cX6_hasWait 1 = .ok (.istore_n 2, 1) := by decide +kernel
theorem dX6_hasWait_2 : decode cX6_hasWait 2 = .ok (.iload_n 2, 1) := by decide +kernel
theorem dX6_hasWait_3 : decode cX6_hasWait 3 = .ok (.aload_n 0, 1) := by decide +kernel
theorem dX6_hasWait_4 : decode cX6_hasWait 4 = .ok (.getfield 22, 3) := by decide +kernel
theorem dX6_hasWait_7 : decode cX6_hasWait 7 = .ok (.iload_n 1, 1) := by decide +kernel
theorem dX6_hasWait_8 : decode cX6_hasWait 8 = .ok (.iaload, 1) := by decide +kernel
theorem dX6_hasWait_9 : decode cX6_hasWait 9 = .ok (.if_icmp .ge 24, 3) := by decide +kernel
theorem dX6_hasWait_12 : decode cX6_hasWait 12 = .ok (.aload_n 0, 1) := by decide +kernel
theorem dX6_hasWait_13 : decode cX6_hasWait 13 = .ok (.iload_n 1, 1) := by decide +kernel
theorem dX6_hasWait_14 : decode cX6_hasWait 14 = .ok (.iload_n 2, 1) := by decide +kernel
theorem dX6_hasWait_15 : decode cX6_hasWait 15 = .ok (.invokevirtual 55, 3) := by decide +kernel
theorem dX6_hasWait_18 : decode cX6_hasWait 18 = .ok (.iconst 4, 1) := by decide +kernel
theorem dX6_hasWait_19 : decode cX6_hasWait 19 = .ok (.ishr, 1) := by decide +kernel
theorem dX6_hasWait_20 : decode cX6_hasWait 20 = .ok (.bipush 9, 2) := by decide +kernel
theorem dX6_hasWait_22 : decode cX6_hasWait 22 = .ok (.if_icmp .ne 5, 3) := by decide +kernel
theorem dX6_hasWait_25 : decode cX6_hasWait 25 = .ok (.iconst 1, 1) := by decide +kernel
theorem dX6_hasWait_26 : decode cX6_hasWait 26 = .ok (.ireturn, 1) := by decide +kernel
theorem dX6_hasWait_27 : decode cX6_hasWait 27 = .ok (.iinc 2 1, 3) := by decide +kernel
theorem dX6_hasWait_30 : decode cX6_hasWait 30 = .ok (.goto (-28), 3) := by decide +kernel
theorem dX6_hasWait_33 : decode cX6_hasWait 33 = .ok (.iconst 0, 1) := by decide +kernel
theorem dX6_hasWait_34 : decode cX6_hasWait 34 = .ok (.ireturn, 1) := by decide +kernel
theorem dX6_cachePlace_0 : decode cX6_cachePlace 0 = .ok (.iload_n 1, 1) := by decide +kernel
theorem dX6_cachePlace_1 : decode cX6_cachePlace 1 = .ok (.bipush 64, 2) := by decide +kernel
theorem dX6_cachePlace_3 : decode cX6_cachePlace 3 = .ok (.imul, 1) := by decide +kernel
theorem dX6_cachePlace_4 : decode cX6_cachePlace 4 = .ok (.iload_n 2, 1) := by decide +kernel
theorem dX6_cachePlace_5 : decode cX6_cachePlace 5 = .ok (.iadd, 1) := by decide +kernel
theorem dX6_cachePlace_6 : decode cX6_cachePlace 6 = .ok (.ireturn, 1) := by decide +kernel
theorem dX6_letterPlace_0 : decode cX6_letterPlace 0 = .ok (.iload_n 2, 1) := by decide +kernel
theorem dX6_letterPlace_1 : decode cX6_letterPlace 1 = .ok (.invokestatic 59, 3) := by decide +kernel
theorem dX6_letterPlace_4 : decode cX6_letterPlace 4 = .ok (.istore_n 3, 1) := by decide +kernel
theorem dX6_letterPlace_5 : decode cX6_letterPlace 5 = .ok (.iload_n 2, 1) := by decide +kernel
theorem dX6_letterPlace_6 : decode cX6_letterPlace 6 = .ok (.invokestatic 64, 3) := by decide +kernel
theorem dX6_letterPlace_9 : decode cX6_letterPlace 9 = .ok (.istore 4, 2) := by decide +kernel
theorem dX6_letterPlace_11 : decode cX6_letterPlace 11 = .ok (.iload_n 3, 1) := by decide +kernel
theorem dX6_letterPlace_12 : decode cX6_letterPlace 12 = .ok (.aload_n 0, 1) := by decide +kernel
theorem dX6_letterPlace_13 : decode cX6_letterPlace 13 = .ok (.getfield 9, 3) := by decide +kernel
theorem dX6_letterPlace_16 : decode cX6_letterPlace 16 = .ok (.if_icmp .eq 17, 3) := by decide +kernel
theorem dX6_letterPlace_19 : decode cX6_letterPlace 19 = .ok (.aload_n 0, 1) := by decide +kernel
theorem dX6_letterPlace_20 : decode cX6_letterPlace 20 = .ok (.aload_n 1, 1) := by decide +kernel
theorem dX6_letterPlace_21 : decode cX6_letterPlace 21 = .ok (.iload_n 3, 1) := by decide +kernel
theorem dX6_letterPlace_22 : decode cX6_letterPlace 22 = .ok (.invokevirtual 67, 3) := by decide +kernel
theorem dX6_letterPlace_25 : decode cX6_letterPlace 25 = .ok (.iconst 3, 1) := by decide +kernel
theorem dX6_letterPlace_26 : decode cX6_letterPlace 26 = .ok (.iload 4, 2) := by decide +kernel
theorem dX6_letterPlace_28 : decode cX6_letterPlace 28 = .ok (.iadd, 1) := by decide +kernel
theorem dX6_letterPlace_29 : decode cX6_letterPlace 29 = .ok (.invokevirtual 72, 3) := by decide +kernel
theorem dX6_letterPlace_32 : decode cX6_letterPlace 32 = .ok (.ireturn, 1) := by decide +kernel
theorem dX6_letterPlace_33 : decode cX6_letterPlace 33 = .ok (.aload_n 1, 1) := by decide +kernel
theorem dX6_letterPlace_34 : decode cX6_letterPlace 34 = .ok (.invokevirtual 75, 3) := by decide +kernel
theorem dX6_letterPlace_37 : decode cX6_letterPlace 37 = .ok (.iconst 1, 1) := by decide +kernel
theorem dX6_letterPlace_38 : decode cX6_letterPlace 38 = .ok (.iload_n 2, 1) := by decide +kernel
theorem dX6_letterPlace_39 : decode cX6_letterPlace 39 = .ok (.invokestatic 79, 3) := by decide +kernel
theorem dX6_letterPlace_42 : decode cX6_letterPlace 42 = .ok (.ishl, 1) := by decide +kernel
theorem dX6_letterPlace_43 : decode cX6_letterPlace 43 = .ok (.iconst (-1), 1) := by decide +kernel
theorem dX6_letterPlace_44 : decode cX6_letterPlace 44 = .ok (.ixor, 1) := by decide +kernel
theorem dX6_letterPlace_45 : decode cX6_letterPlace 45 = .ok (.iand, 1) := by decide +kernel
theorem dX6_letterPlace_46 : decode cX6_letterPlace 46 = .ok (.istore 5, 2) := by decide +kernel
theorem dX6_letterPlace_48 : decode cX6_letterPlace 48 = .ok (.iload 5, 2) := by decide +kernel
theorem dX6_letterPlace_50 : decode cX6_letterPlace 50 = .ok (.ifCond .ne 10, 3) := by decide +kernel
theorem dX6_letterPlace_53 : decode cX6_letterPlace 53 = .ok (.iconst 2, 1) := by decide +kernel
theorem dX6_letterPlace_54 : decode cX6_letterPlace 54 = .ok (.iload 4, 2) := by decide +kernel
theorem dX6_letterPlace_56 : decode cX6_letterPlace 56 = .ok (.imul, 1) := by decide +kernel
theorem dX6_letterPlace_57 : decode cX6_letterPlace 57 = .ok (.goto 9, 3) := by decide +kernel
theorem dX6_letterPlace_60 : decode cX6_letterPlace 60 = .ok (.iconst 2, 1) := by decide +kernel
theorem dX6_letterPlace_61 : decode cX6_letterPlace 61 = .ok (.iload 4, 2) := by decide +kernel
theorem dX6_letterPlace_63 : decode cX6_letterPlace 63 = .ok (.imul, 1) := by decide +kernel
theorem dX6_letterPlace_64 : decode cX6_letterPlace 64 = .ok (.iconst 1, 1) := by decide +kernel
theorem dX6_letterPlace_65 : decode cX6_letterPlace 65 = .ok (.iadd, 1) := by decide +kernel
theorem dX6_letterPlace_66 : decode cX6_letterPlace 66 = .ok (.istore 6, 2) := by decide +kernel
theorem dX6_letterPlace_68 : decode cX6_letterPlace 68 = .ok (.bipush 16, 2) := by decide +kernel
theorem dX6_letterPlace_70 : decode cX6_letterPlace 70 = .ok (.aload_n 1, 1) := by decide +kernel
theorem dX6_letterPlace_71 : decode cX6_letterPlace 71 = .ok (.aload_n 0, 1) := by decide +kernel
theorem dX6_letterPlace_72 : decode cX6_letterPlace 72 = .ok (.getfield 9, 3) := by decide +kernel
theorem dX6_letterPlace_75 : decode cX6_letterPlace 75 = .ok (.invokevirtual 67, 3) := by decide +kernel
theorem dX6_letterPlace_78 : decode cX6_letterPlace 78 = .ok (.iadd, 1) := by decide +kernel
theorem dX6_letterPlace_79 : decode cX6_letterPlace 79 = .ok (.bipush 64, 2) := by decide +kernel
theorem dX6_letterPlace_81 : decode cX6_letterPlace 81 = .ok (.imul, 1) := by decide +kernel
theorem dX6_letterPlace_82 : decode cX6_letterPlace 82 = .ok (.iload 6, 2) := by decide +kernel
theorem dX6_letterPlace_84 : decode cX6_letterPlace 84 = .ok (.iadd, 1) := by decide +kernel
theorem dX6_letterPlace_85 : decode cX6_letterPlace 85 = .ok (.ireturn, 1) := by decide +kernel
theorem dX6_badnessOf_0 : decode cX6_badnessOf 0 = .ok (.iconst 0, 1) := by decide +kernel
theorem dX6_badnessOf_1 : decode cX6_badnessOf 1 = .ok (.istore_n 2, 1) := by decide +kernel
theorem dX6_badnessOf_2 : decode cX6_badnessOf 2 = .ok (.iconst 0, 1) := by decide +kernel
theorem dX6_badnessOf_3 : decode cX6_badnessOf 3 = .ok (.istore_n 3, 1) := by decide +kernel
theorem dX6_badnessOf_4 : decode cX6_badnessOf 4 = .ok (.iconst 0, 1) := by decide +kernel
theorem dX6_badnessOf_5 : decode cX6_badnessOf 5 = .ok (.istore 4, 2) := by decide +kernel
theorem dX6_badnessOf_7 : decode cX6_badnessOf 7 = .ok (.iconst 0, 1) := by decide +kernel
theorem dX6_badnessOf_8 : decode cX6_badnessOf 8 = .ok (.istore 5, 2) := by decide +kernel
theorem dX6_badnessOf_10 : decode cX6_badnessOf 10 = .ok (.iload 5, 2) := by decide +kernel
theorem dX6_badnessOf_12 : decode cX6_badnessOf 12 = .ok (.aload_n 0, 1) := by decide +kernel
theorem dX6_badnessOf_13 : decode cX6_badnessOf 13 = .ok (.getfield 9, 3) := by decide +kernel
theorem dX6_badnessOf_16 : decode cX6_badnessOf 16 = .ok (.if_icmp .ge 75, 3) := by decide +kernel
theorem dX6_badnessOf_19 : decode cX6_badnessOf 19 = .ok (.aload_n 0, 1) := by decide +kernel
theorem dX6_badnessOf_20 : decode cX6_badnessOf 20 = .ok (.getfield 19, 3) := by decide +kernel
theorem dX6_badnessOf_23 : decode cX6_badnessOf 23 = .ok (.aload_n 1, 1) := by decide +kernel
theorem dX6_badnessOf_24 : decode cX6_badnessOf 24 = .ok (.iload 5, 2) := by decide +kernel
theorem dX6_badnessOf_26 : decode cX6_badnessOf 26 = .ok (.invokevirtual 67, 3) := by decide +kernel
theorem dX6_badnessOf_29 : decode cX6_badnessOf 29 = .ok (.iaload, 1) := by decide +kernel
theorem dX6_badnessOf_30 : decode cX6_badnessOf 30 = .ok (.istore 6, 2) := by decide +kernel
theorem dX6_badnessOf_32 : decode cX6_badnessOf 32 = .ok (.iload_n 2, 1) := by decide +kernel
theorem dX6_badnessOf_33 : decode cX6_badnessOf 33 = .ok (.iload 6, 2) := by decide +kernel
theorem dX6_badnessOf_35 : decode cX6_badnessOf 35 = .ok (.iconst 2, 1) := by decide +kernel
theorem dX6_badnessOf_36 : decode cX6_badnessOf 36 = .ok (.if_icmp .ne 7, 3) := by decide +kernel
theorem dX6_badnessOf_39 : decode cX6_badnessOf 39 = .ok (.iconst 1, 1) := by decide +kernel
theorem dX6_badnessOf_40 : decode cX6_badnessOf 40 = .ok (.goto 4, 3) := by decide +kernel
theorem dX6_badnessOf_43 : decode cX6_badnessOf 43 = .ok (.iconst 0, 1) := by decide +kernel
theorem dX6_badnessOf_44 : decode cX6_badnessOf 44 = .ok (.iadd, 1) := by decide +kernel
theorem dX6_badnessOf_45 : decode cX6_badnessOf 45 = .ok (.istore_n 2, 1) := by decide +kernel
theorem dX6_badnessOf_46 : decode cX6_badnessOf 46 = .ok (.iload_n 3, 1) := by decide +kernel
theorem dX6_badnessOf_47 : decode cX6_badnessOf 47 = .ok (.iload 6, 2) := by decide +kernel
theorem dX6_badnessOf_49 : decode cX6_badnessOf 49 = .ok (.iconst 1, 1) := by decide +kernel
theorem dX6_badnessOf_50 : decode cX6_badnessOf 50 = .ok (.if_icmp .lt 7, 3) := by decide +kernel
theorem dX6_badnessOf_53 : decode cX6_badnessOf 53 = .ok (.iconst 1, 1) := by decide +kernel
theorem dX6_badnessOf_54 : decode cX6_badnessOf 54 = .ok (.goto 4, 3) := by decide +kernel
theorem dX6_badnessOf_57 : decode cX6_badnessOf 57 = .ok (.iconst 0, 1) := by decide +kernel
theorem dX6_badnessOf_58 : decode cX6_badnessOf 58 = .ok (.iadd, 1) := by decide +kernel
theorem dX6_badnessOf_59 : decode cX6_badnessOf 59 = .ok (.istore_n 3, 1) := by decide +kernel
theorem dX6_badnessOf_60 : decode cX6_badnessOf 60 = .ok (.iload 4, 2) := by decide +kernel
theorem dX6_badnessOf_62 : decode cX6_badnessOf 62 = .ok (.iload 6, 2) := by decide +kernel
theorem dX6_badnessOf_64 : decode cX6_badnessOf 64 = .ok (.iconst 1, 1) := by decide +kernel
theorem dX6_badnessOf_65 : decode cX6_badnessOf 65 = .ok (.if_icmp .lt 16, 3) := by decide +kernel
theorem dX6_badnessOf_68 : decode cX6_badnessOf 68 = .ok (.aload_n 1, 1) := by decide +kernel
theorem dX6_badnessOf_69 : decode cX6_badnessOf 69 = .ok (.iload 5, 2) := by decide +kernel
theorem dX6_badnessOf_71 : decode cX6_badnessOf 71 = .ok (.invokevirtual 82, 3) := by decide +kernel
theorem dX6_badnessOf_74 : decode cX6_badnessOf 74 = .ok (.ifCond .ne 7, 3) := by decide +kernel
theorem dX6_badnessOf_77 : decode cX6_badnessOf 77 = .ok (.iconst 1, 1) := by decide +kernel
theorem dX6_badnessOf_78 : decode cX6_badnessOf 78 = .ok (.goto 4, 3) := by decide +kernel
theorem dX6_badnessOf_81 : decode cX6_badnessOf 81 = .ok (.iconst 0, 1) := by decide +kernel
theorem dX6_badnessOf_82 : decode cX6_badnessOf 82 = .ok (.ior, 1) := by decide +kernel
theorem dX6_badnessOf_83 : decode cX6_badnessOf 83 = .ok (.istore 4, 2) := by decide +kernel
theorem dX6_badnessOf_85 : decode cX6_badnessOf 85 = .ok (.iinc 5 1, 3) := by decide +kernel
theorem dX6_badnessOf_88 : decode cX6_badnessOf 88 = .ok (.goto (-78), 3) := by decide +kernel
theorem dX6_badnessOf_91 : decode cX6_badnessOf 91 = .ok (.iload_n 2, 1) := by decide +kernel
theorem dX6_badnessOf_92 : decode cX6_badnessOf 92 = .ok (.ifCond .le 10, 3) := by decide +kernel
theorem dX6_badnessOf_95 : decode cX6_badnessOf 95 = .ok (.iload_n 3, 1) := by decide +kernel
theorem dX6_badnessOf_96 : decode cX6_badnessOf 96 = .ok (.iconst 1, 1) := by decide +kernel
theorem dX6_badnessOf_97 : decode cX6_badnessOf 97 = .ok (.if_icmp .le 5, 3) := by decide +kernel
theorem dX6_badnessOf_100 : decode cX6_badnessOf 100 = .ok (.iconst 4, 1) := by decide +kernel
theorem dX6_badnessOf_101 : decode cX6_badnessOf 101 = .ok (.ireturn, 1) := by decide +kernel
theorem dX6_badnessOf_102 : decode cX6_badnessOf 102 = .ok (.iload 4, 2) := by decide +kernel
theorem dX6_badnessOf_104 : decode cX6_badnessOf 104 = .ok (.ifCond .eq 7, 3) := by decide +kernel
theorem dX6_badnessOf_107 : decode cX6_badnessOf 107 = .ok (.iconst 5, 1) := by decide +kernel
theorem dX6_badnessOf_108 : decode cX6_badnessOf 108 = .ok (.goto 4, 3) := by decide +kernel
theorem dX6_badnessOf_111 : decode cX6_badnessOf 111 = .ok (.iconst 0, 1) := by decide +kernel
theorem dX6_badnessOf_112 : decode cX6_badnessOf 112 = .ok (.ireturn, 1) := by decide +kernel
theorem dX7_init_0 : decode cX7_init 0 = .ok (.aload_n 0, 1) := by decide +kernel
theorem dX7_init_1 : decode cX7_init 1 = .ok (.invokespecial 5, 3) := by decide +kernel
theorem dX7_init_4 : decode cX7_init 4 = .ok (.aload_n 0, 1) := by decide +kernel
theorem dX7_init_5 : decode cX7_init 5 = .ok (.lconst 0, 1) := by decide +kernel
theorem dX7_init_6 : decode cX7_init 6 = .ok (.putfield 11, 3) := by decide +kernel
theorem dX7_init_9 : decode cX7_init 9 = .ok (.aload_n 0, 1) := by decide +kernel
theorem dX7_init_10 : decode cX7_init 10 = .ok (.iconst 0, 1) := by decide +kernel
theorem dX7_init_11 : decode cX7_init 11 = .ok (.putfield 15, 3) := by decide +kernel
theorem dX7_init_14 : decode cX7_init 14 = .ok (.aload_n 0, 1) := by decide +kernel
theorem dX7_init_15 : decode cX7_init 15 = .ok (.bipush 8, 2) := by decide +kernel
theorem dX7_init_17 : decode cX7_init 17 = .ok (.newarray .int, 2) := by decide +kernel
theorem dX7_init_19 : decode cX7_init 19 = .ok (.putfield 19, 3) := by decide +kernel
theorem dX7_init_22 : decode cX7_init 22 = .ok (.return_, 1) := by decide +kernel
theorem dX7_begin_0 : decode cX7_begin 0 = .ok (.aload_n 0, 1) := by decide +kernel
theorem dX7_begin_1 : decode cX7_begin 1 = .ok (.lconst 0, 1) := by decide +kernel
theorem dX7_begin_2 : decode cX7_begin 2 = .ok (.putfield 11, 3) := by decide +kernel
theorem dX7_begin_5 : decode cX7_begin 5 = .ok (.aload_n 0, 1) := by decide +kernel
theorem dX7_begin_6 : decode cX7_begin 6 = .ok (.iconst 0, 1) := by decide +kernel
theorem dX7_begin_7 : decode cX7_begin 7 = .ok (.putfield 15, 3) := by decide +kernel
theorem dX7_begin_10 : decode cX7_begin 10 = .ok (.aload_n 0, 1) := by decide +kernel
theorem dX7_begin_11 : decode cX7_begin 11 = .ok (.getfield 19, 3) := by decide +kernel
theorem dX7_begin_14 : decode cX7_begin 14 = .ok (.iconst 0, 1) := by decide +kernel
theorem dX7_begin_15 : decode cX7_begin 15 = .ok (.invokestatic 23, 3) := by decide +kernel
theorem dX7_begin_18 : decode cX7_begin 18 = .ok (.aload_n 0, 1) := by decide +kernel
theorem dX7_begin_19 : decode cX7_begin 19 = .ok (.iload_n 1, 1) := by decide +kernel
theorem dX7_begin_20 : decode cX7_begin 20 = .ok (.iconst 1, 1) := by decide +kernel
theorem dX7_begin_21 : decode cX7_begin 21 = .ok (.invokevirtual 29, 3) := by decide +kernel
theorem dX7_begin_24 : decode cX7_begin 24 = .ok (.return_, 1) := by decide +kernel
theorem dX7_copy_0 : decode cX7_copy 0 = .ok (.aload_n 0, 1) := by decide +kernel
theorem dX7_copy_1 : decode cX7_copy 1 = .ok (.aload_n 1, 1) := by decide +kernel
theorem dX7_copy_2 : decode cX7_copy 2 = .ok (.getfield 11, 3) := by decide +kernel
theorem dX7_copy_5 : decode cX7_copy 5 = .ok (.putfield 11, 3) := by decide +kernel
theorem dX7_copy_8 : decode cX7_copy 8 = .ok (.aload_n 0, 1) := by decide +kernel
theorem dX7_copy_9 : decode cX7_copy 9 = .ok (.aload_n 1, 1) := by decide +kernel
theorem dX7_copy_10 : decode cX7_copy 10 = .ok (.getfield 15, 3) := by decide +kernel
theorem dX7_copy_13 : decode cX7_copy 13 = .ok (.putfield 15, 3) := by decide +kernel
theorem dX7_copy_16 : decode cX7_copy 16 = .ok (.aload_n 1, 1) := by decide +kernel
theorem dX7_copy_17 : decode cX7_copy 17 = .ok (.getfield 19, 3) := by decide +kernel
theorem dX7_copy_20 : decode cX7_copy 20 = .ok (.iconst 0, 1) := by decide +kernel
theorem dX7_copy_21 : decode cX7_copy 21 = .ok (.aload_n 0, 1) := by decide +kernel
theorem dX7_copy_22 : decode cX7_copy 22 = .ok (.getfield 19, 3) := by decide +kernel
theorem dX7_copy_25 : decode cX7_copy 25 = .ok (.iconst 0, 1) := by decide +kernel
theorem dX7_copy_26 : decode cX7_copy 26 = .ok (.bipush 8, 2) := by decide +kernel
theorem dX7_copy_28 : decode cX7_copy 28 = .ok (.invokestatic 33, 3) := by decide +kernel
theorem dX7_copy_31 : decode cX7_copy 31 = .ok (.return_, 1) := by decide +kernel
theorem dX7_stateOf_0 : decode cX7_stateOf 0 = .ok (.aload_n 0, 1) := by decide +kernel
theorem dX7_stateOf_1 : decode cX7_stateOf 1 = .ok (.bipush 7, 2) := by decide +kernel
theorem dX7_stateOf_3 : decode cX7_stateOf 3 = .ok (.iload_n 1, 1) := by decide +kernel
theorem dX7_stateOf_4 : decode cX7_stateOf 4 = .ok (.imul, 1) := by decide +kernel
theorem dX7_stateOf_5 : decode cX7_stateOf 5 = .ok (.bipush 15, 2) := by decide +kernel
theorem dX7_stateOf_7 : decode cX7_stateOf 7 = .ok (.invokevirtual 39, 3) := by decide +kernel
theorem dX7_stateOf_10 : decode cX7_stateOf 10 = .ok (.ireturn, 1) := by decide +kernel
theorem dX7_freshOf_0 : decode cX7_freshOf 0 = .ok (.aload_n 0, 1) := by decide +kernel
theorem dX7_freshOf_1 : decode cX7_freshOf 1 = .ok (.bipush 7, 2) := by decide +kernel
theorem dX7_freshOf_3 : decode cX7_freshOf 3 = .ok (.iload_n 1, 1) := by decide +kernel
theorem dX7_freshOf_4 : decode cX7_freshOf 4 = .ok (.imul, 1) := by decide +kernel
theorem dX7_freshOf_5 : decode cX7_freshOf 5 = .ok (.iconst 4, 1) := by decide +kernel
theorem dX7_freshOf_6 : decode cX7_freshOf 6 = .ok (.iadd, 1) := by decide +kernel
theorem dX7_freshOf_7 : decode cX7_freshOf 7 = .ok (.iconst 1, 1) := by decide +kernel
theorem dX7_freshOf_8 : decode cX7_freshOf 8 = .ok (.invokevirtual 39, 3) := by decide +kernel
theorem dX7_freshOf_11 : decode cX7_freshOf 11 = .ok (.ireturn, 1) := by decide +kernel
theorem dX7_wantOf_0 : decode cX7_wantOf 0 = .ok (.aload_n 0, 1) := by decide +kernel
theorem dX7_wantOf_1 : decode cX7_wantOf 1 = .ok (.bipush 7, 2) := by decide +kernel
theorem dX7_wantOf_3 : decode cX7_wantOf 3 = .ok (.iload_n 1, 1) := by decide +kernel
theorem dX7_wantOf_4 : decode cX7_wantOf 4 = .ok (.imul, 1) := by decide +kernel
theorem dX7_wantOf_5 : decode cX7_wantOf 5 = .ok (.iconst 5, 1) := by decide +kernel
theorem dX7_wantOf_6 : decode cX7_wantOf 6 = .ok (.iadd, 1) := by decide +kernel
theorem dX7_wantOf_7 : decode cX7_wantOf 7 = .ok (.iconst 3, 1) := by decide +kernel
theorem dX7_wantOf_8 : decode cX7_wantOf 8 = .ok (.invokevirtual 39, 3) := by decide +kernel
theorem dX7_wantOf_11 : decode cX7_wantOf 11 = .ok (.ireturn, 1) := by decide +kernel
theorem dX7_holders_0 : decode cX7_holders 0 = .ok (.aload_n 0, 1) := by decide +kernel
theorem dX7_holders_1 : decode cX7_holders 1 = .ok (.bipush 35, 2) := by decide +kernel
theorem dX7_holders_3 : decode cX7_holders 3 = .ok (.bipush 15, 2) := by decide +kernel
theorem dX7_holders_5 : decode cX7_holders 5 = .ok (.invokevirtual 39, 3) := by decide +kernel
theorem dX7_holders_8 : decode cX7_holders 8 = .ok (.ireturn, 1) := by decide +kernel
theorem dX7_setState_0 : decode cX7_setState 0 = .ok (.aload_n 0, 1) := by decide +kernel
theorem dX7_setState_1 : decode cX7_setState 1 = .ok (.bipush 7, 2) := by decide +kernel
theorem dX7_setState_3 : decode cX7_setState 3 = .ok (.iload_n 1, 1) := by decide +kernel
theorem dX7_setState_4 : decode cX7_setState 4 = .ok (.imul, 1) := by decide +kernel
theorem dX7_setState_5 : decode cX7_setState 5 = .ok (.bipush 15, 2) := by decide +kernel
theorem dX7_setState_7 : decode cX7_setState 7 = .ok (.iload_n 2, 1) := by decide +kernel
theorem dX7_setState_8 : decode cX7_setState 8 = .ok (.invokevirtual 43, 3) := by decide +kernel
theorem dX7_setState_11 : decode cX7_setState 11 = .ok (.return_, 1) := by decide +kernel
theorem dX7_setFresh_0 : decode cX7_setFresh 0 = .ok (.aload_n 0, 1) := by decide +kernel
theorem dX7_setFresh_1 : decode cX7_setFresh 1 = .ok (.bipush 7, 2) := by decide +kernel
theorem dX7_setFresh_3 : decode cX7_setFresh 3 = .ok (.iload_n 1, 1) := by decide +kernel
theorem dX7_setFresh_4 : decode cX7_setFresh 4 = .ok (.imul, 1) := by decide +kernel
theorem dX7_setFresh_5 : decode cX7_setFresh 5 = .ok (.iconst 4, 1) := by decide +kernel
theorem dX7_setFresh_6 : decode cX7_setFresh 6 = .ok (.iadd, 1) := by decide +kernel
theorem dX7_setFresh_7 : decode cX7_setFresh 7 = .ok (.iconst 1, 1) := by decide +kernel
theorem dX7_setFresh_8 : decode cX7_setFresh 8 = .ok (.iload_n 2, 1) := by decide +kernel
theorem dX7_setFresh_9 : decode cX7_setFresh 9 = .ok (.invokevirtual 43, 3) := by decide +kernel
theorem dX7_setFresh_12 : decode cX7_setFresh 12 = .ok (.return_, 1) := by decide +kernel
theorem dX7_setWant_0 : decode cX7_setWant 0 = .ok (.aload_n 0, 1) := by decide +kernel
theorem dX7_setWant_1 : decode cX7_setWant 1 = .ok (.bipush 7, 2) := by decide +kernel
theorem dX7_setWant_3 : decode cX7_setWant 3 = .ok (.iload_n 1, 1) := by decide +kernel
theorem dX7_setWant_4 : decode cX7_setWant 4 = .ok (.imul, 1) := by decide +kernel
theorem dX7_setWant_5 : decode cX7_setWant 5 = .ok (.iconst 5, 1) := by decide +kernel
theorem dX7_setWant_6 : decode cX7_setWant 6 = .ok (.iadd, 1) := by decide +kernel
theorem dX7_setWant_7 : decode cX7_setWant 7 = .ok (.iconst 3, 1) := by decide +kernel
theorem dX7_setWant_8 : decode cX7_setWant 8 = .ok (.iload_n 2, 1) := by decide +kernel
theorem dX7_setWant_9 : decode cX7_setWant 9 = .ok (.invokevirtual 43, 3) := by decide +kernel
theorem dX7_setWant_12 : decode cX7_setWant 12 = .ok (.return_, 1) := by decide +kernel
theorem dX7_setHolders_0 : decode cX7_setHolders 0 = .ok (.aload_n 0, 1) := by decide +kernel
theorem dX7_setHolders_1 : decode cX7_setHolders 1 = .ok (.bipush 35, 2) := by decide +kernel
theorem dX7_setHolders_3 : decode cX7_setHolders 3 = .ok (.bipush 15, 2) := by decide +kernel
theorem dX7_setHolders_5 : decode cX7_setHolders 5 = .ok (.iload_n 1, 1) := by decide +kernel
theorem dX7_setHolders_6 : decode cX7_setHolders 6 = .ok (.invokevirtual 43, 3) := by decide +kernel
theorem dX7_setHolders_9 : decode cX7_setHolders 9 = .ok (.return_, 1) := by decide +kernel
theorem dX7_isQuiet_0 : decode cX7_isQuiet 0 = .ok (.aload_n 0, 1) := by decide +kernel
theorem dX7_isQuiet_1 : decode cX7_isQuiet 1 = .ok (.getfield 15, 3) := by decide +kernel
theorem dX7_isQuiet_4 : decode cX7_isQuiet 4 = .ok (.ifCond .ne 20, 3) := by decide +kernel
theorem dX7_isQuiet_7 : decode cX7_isQuiet 7 = .ok (.aload_n 0, 1) := by decide +kernel
theorem dX7_isQuiet_8 : decode cX7_isQuiet 8 = .ok (.getfield 11, 3) := by decide +kernel
theorem dX7_isQuiet_11 : decode cX7_isQuiet 11 = .ok (.ldc2_w 47, 3) := by decide +kernel
theorem dX7_isQuiet_14 : decode cX7_isQuiet 14 = .ok (.land, 1) := by decide +kernel
theorem dX7_isQuiet_15 : decode cX7_isQuiet 15 = .ok (.lconst 0, 1) := by decide +kernel
theorem dX7_isQuiet_16 : decode cX7_isQuiet 16 = .ok (.lcmp, 1) := by decide +kernel
theorem dX7_isQuiet_17 : decode cX7_isQuiet 17 = .ok (.ifCond .ne 7, 3) := by decide +kernel
theorem dX7_isQuiet_20 : decode cX7_isQuiet 20 = .ok (.iconst 1, 1) := by decide +kernel
theorem dX7_isQuiet_21 : decode cX7_isQuiet 21 = .ok (.goto 4, 3) := by decide +kernel
theorem dX7_isQuiet_24 : decode cX7_isQuiet 24 = .ok (.iconst 0, 1) := by decide +kernel
theorem dX7_isQuiet_25 : decode cX7_isQuiet 25 = .ok (.ireturn, 1) := by decide +kernel
theorem dX7_letterCount_0 : decode cX7_letterCount 0 = .ok (.aload_n 0, 1) := by decide +kernel
theorem dX7_letterCount_1 : decode cX7_letterCount 1 = .ok (.getfield 15, 3) := by decide +kernel
theorem dX7_letterCount_4 : decode cX7_letterCount 4 = .ok (.ireturn, 1) := by decide +kernel
theorem dX7_letterAt_0 : decode cX7_letterAt 0 = .ok (.aload_n 0, 1) := by decide +kernel
theorem dX7_letterAt_1 : decode cX7_letterAt 1 = .ok (.getfield 19, 3) := by decide +kernel
theorem dX7_letterAt_4 : decode cX7_letterAt 4 = .ok (.iload_n 1, 1) := by decide +kernel
theorem dX7_letterAt_5 : decode cX7_letterAt 5 = .ok (.iaload, 1) := by decide +kernel
theorem dX7_letterAt_6 : decode cX7_letterAt 6 = .ok (.ireturn, 1) := by decide +kernel
theorem dX7_isBehindAnother_0 : decode cX7_isBehindAnother 0 = .ok (.iload_n 1, 1) := by decide +kernel
theorem dX7_isBehindAnother_1 : decode cX7_isBehindAnother 1 = .ok (.ifCond .le 27, 3) := by decide +kernel
theorem dX7_isBehindAnother_4 : decode cX7_isBehindAnother 4 = .ok (.aload_n 0, 1) := by decide +kernel
theorem dX7_isBehindAnother_5 : decode cX7_isBehindAnother 5 = .ok (.getfield 19, 3) := by decide +kernel
theorem dX7_isBehindAnother_8 : decode cX7_isBehindAnother 8 = .ok (.iload_n 1, 1) := by decide +kernel
theorem dX7_isBehindAnother_9 : decode cX7_isBehindAnother 9 = .ok (.iconst 1, 1) := by decide +kernel
theorem dX7_isBehindAnother_10 : decode cX7_isBehindAnother 10 = .ok (.isub, 1) := by decide +kernel
theorem dX7_isBehindAnother_11 : decode cX7_isBehindAnother 11 = .ok (.iaload, 1) := by decide +kernel
theorem dX7_isBehindAnother_12 : decode cX7_isBehindAnother 12 = .ok (.aload_n 0, 1) := by decide +kernel
theorem dX7_isBehindAnother_13 : decode cX7_isBehindAnother 13 = .ok (.getfield 19, 3) := by decide +kernel
theorem dX7_isBehindAnother_16 : decode cX7_isBehindAnother 16 = .ok (.iload_n 1, 1) := by decide +kernel
theorem dX7_isBehindAnother_17 : decode cX7_isBehindAnother 17 = .ok (.iaload, 1) := by decide +kernel
theorem dX7_isBehindAnother_18 : decode cX7_isBehindAnother 18 = .ok (.invokestatic 49, 3) := by decide +kernel
theorem dX7_isBehindAnother_21 : decode cX7_isBehindAnother 21 = .ok (.ifCond .eq 7, 3) := by decide +kernel
theorem dX7_isBehindAnother_24 : decode cX7_isBehindAnother 24 = .ok (.iconst 1, 1) := by decide +kernel
theorem dX7_isBehindAnother_25 : decode cX7_isBehindAnother 25 = .ok (.goto 4, 3) := by decide +kernel
theorem dX7_isBehindAnother_28 : decode cX7_isBehindAnother 28 = .ok (.iconst 0, 1) := by decide +kernel
theorem dX7_isBehindAnother_29 : decode cX7_isBehindAnother 29 = .ok (.ireturn, 1) := by decide +kernel
theorem dX7_add_0 : decode cX7_add 0 = .ok (.aload_n 0, 1) := by decide +kernel
theorem dX7_add_1 : decode cX7_add 1 = .ok (.getfield 15, 3) := by decide +kernel
theorem dX7_add_4 : decode cX7_add 4 = .ok (.bipush 8, 2) := by decide +kernel
theorem dX7_add_6 : decode cX7_add 6 = .ok (.if_icmp .lt 5, 3) := by decide +kernel
theorem dX7_add_9 : decode cX7_add 9 = .ok (.iconst 0, 1) := by decide +kernel
theorem dX7_add_10 : decode cX7_add 10 = .ok (.ireturn, 1) := by decide +kernel
theorem dX7_add_11 : decode cX7_add 11 = .ok (.iload_n 1, 1) := by decide +kernel
theorem dX7_add_12 : decode cX7_add 12 = .ok (.invokestatic 55, 3) := by decide +kernel
theorem dX7_add_15 : decode cX7_add 15 = .ok (.istore_n 2, 1) := by decide +kernel
theorem dX7_add_16 : decode cX7_add 16 = .ok (.aload_n 0, 1) := by decide +kernel
theorem dX7_add_17 : decode cX7_add 17 = .ok (.getfield 15, 3) := by decide +kernel
theorem dX7_add_20 : decode cX7_add 20 = .ok (.istore_n 3, 1) := by decide +kernel
theorem dX7_add_21 : decode cX7_add 21 = .ok (.iload_n 3, 1) := by decide +kernel
theorem dX7_add_22 : decode cX7_add 22 = .ok (.ifCond .le 35, 3) := by decide +kernel
theorem dX7_add_25 : decode cX7_add 25 = .ok (.aload_n 0, 1) := by decide +kernel
theorem dX7_add_26 : decode cX7_add 26 = .ok (.getfield 19, 3) := by decide +kernel
theorem dX7_add_29 : decode cX7_add 29 = .ok (.iload_n 3, 1) := by decide +kernel
theorem dX7_add_30 : decode cX7_add 30 = .ok (.iconst 1, 1) := by decide +kernel
theorem dX7_add_31 : decode cX7_add 31 = .ok (.isub, 1) := by decide +kernel
theorem dX7_add_32 : decode cX7_add 32 = .ok (.iaload, 1) := by decide +kernel
theorem dX7_add_33 : decode cX7_add 33 = .ok (.iload_n 2, 1) := by decide +kernel
theorem dX7_add_34 : decode cX7_add 34 = .ok (.if_icmp .le 23, 3) := by decide +kernel
theorem dX7_add_37 : decode cX7_add 37 = .ok (.aload_n 0, 1) := by decide +kernel
theorem dX7_add_38 : decode cX7_add 38 = .ok (.getfield 19, 3) := by decide +kernel
theorem dX7_add_41 : decode cX7_add 41 = .ok (.iload_n 3, 1) := by decide +kernel
theorem dX7_add_42 : decode cX7_add 42 = .ok (.aload_n 0, 1) := by decide +kernel
theorem dX7_add_43 : decode cX7_add 43 = .ok (.getfield 19, 3) := by decide +kernel
theorem dX7_add_46 : decode cX7_add 46 = .ok (.iload_n 3, 1) := by decide +kernel
theorem dX7_add_47 : decode cX7_add 47 = .ok (.iconst 1, 1) := by decide +kernel
theorem dX7_add_48 : decode cX7_add 48 = .ok (.isub, 1) := by decide +kernel
theorem dX7_add_49 : decode cX7_add 49 = .ok (.iaload, 1) := by decide +kernel
theorem dX7_add_50 : decode cX7_add 50 = .ok (.iastore, 1) := by decide +kernel
theorem dX7_add_51 : decode cX7_add 51 = .ok (.iinc 3 (-1), 3) := by decide +kernel
theorem dX7_add_54 : decode cX7_add 54 = .ok (.goto (-33), 3) := by decide +kernel
theorem dX7_add_57 : decode cX7_add 57 = .ok (.aload_n 0, 1) := by decide +kernel
theorem dX7_add_58 : decode cX7_add 58 = .ok (.getfield 19, 3) := by decide +kernel
theorem dX7_add_61 : decode cX7_add 61 = .ok (.iload_n 3, 1) := by decide +kernel
theorem dX7_add_62 : decode cX7_add 62 = .ok (.iload_n 1, 1) := by decide +kernel
theorem dX7_add_63 : decode cX7_add 63 = .ok (.iastore, 1) := by decide +kernel
theorem dX7_add_64 : decode cX7_add 64 = .ok (.aload_n 0, 1) := by decide +kernel
theorem dX7_add_65 : decode cX7_add 65 = .ok (.dup, 1) := by decide +kernel
theorem dX7_add_66 : decode cX7_add 66 = .ok (.getfield 15, 3) := by decide +kernel
theorem dX7_add_69 : decode cX7_add 69 = .ok (.iconst 1, 1) := by decide +kernel
theorem dX7_add_70 : decode cX7_add 70 = .ok (.iadd, 1) := by decide +kernel
theorem dX7_add_71 : decode cX7_add 71 = .ok (.putfield 15, 3) := by decide +kernel
theorem dX7_add_74 : decode cX7_add 74 = .ok (.iconst 1, 1) := by decide +kernel
theorem dX7_add_75 : decode cX7_add 75 = .ok (.ireturn, 1) := by decide +kernel
theorem dX7_take_0 : decode cX7_take 0 = .ok (.aload_n 0, 1) := by decide +kernel
theorem dX7_take_1 : decode cX7_take 1 = .ok (.getfield 19, 3) := by decide +kernel
theorem dX7_take_4 : decode cX7_take 4 = .ok (.iload_n 1, 1) := by decide +kernel
theorem dX7_take_5 : decode cX7_take 5 = .ok (.iaload, 1) := by decide +kernel
theorem dX7_take_6 : decode cX7_take 6 = .ok (.istore_n 2, 1) := by decide +kernel
theorem dX7_take_7 : decode cX7_take 7 = .ok (.aload_n 0, 1) := by decide +kernel
theorem dX7_take_8 : decode cX7_take 8 = .ok (.dup, 1) := by decide +kernel
theorem dX7_take_9 : decode cX7_take 9 = .ok (.getfield 15, 3) := by decide +kernel
theorem dX7_take_12 : decode cX7_take 12 = .ok (.iconst 1, 1) := by decide +kernel
theorem dX7_take_13 : decode cX7_take 13 = .ok (.isub, 1) := by decide +kernel
theorem dX7_take_14 : decode cX7_take 14 = .ok (.putfield 15, 3) := by decide +kernel
theorem dX7_take_17 : decode cX7_take 17 = .ok (.iload_n 1, 1) := by decide +kernel
theorem dX7_take_18 : decode cX7_take 18 = .ok (.istore_n 3, 1) := by decide +kernel
theorem dX7_take_19 : decode cX7_take 19 = .ok (.iload_n 3, 1) := by decide +kernel
theorem dX7_take_20 : decode cX7_take 20 = .ok (.aload_n 0, 1) := by decide +kernel
theorem dX7_take_21 : decode cX7_take 21 = .ok (.getfield 15, 3) := by decide +kernel
theorem dX7_take_24 : decode cX7_take 24 = .ok (.if_icmp .ge 23, 3) := by decide +kernel
theorem dX7_take_27 : decode cX7_take 27 = .ok (.aload_n 0, 1) := by decide +kernel
theorem dX7_take_28 : decode cX7_take 28 = .ok (.getfield 19, 3) := by decide +kernel
theorem dX7_take_31 : decode cX7_take 31 = .ok (.iload_n 3, 1) := by decide +kernel
theorem dX7_take_32 : decode cX7_take 32 = .ok (.aload_n 0, 1) := by decide +kernel
theorem dX7_take_33 : decode cX7_take 33 = .ok (.getfield 19, 3) := by decide +kernel
theorem dX7_take_36 : decode cX7_take 36 = .ok (.iload_n 3, 1) := by decide +kernel
theorem dX7_take_37 : decode cX7_take 37 = .ok (.iconst 1, 1) := by decide +kernel
theorem dX7_take_38 : decode cX7_take 38 = .ok (.iadd, 1) := by decide +kernel
theorem dX7_take_39 : decode cX7_take 39 = .ok (.iaload, 1) := by decide +kernel
theorem dX7_take_40 : decode cX7_take 40 = .ok (.iastore, 1) := by decide +kernel
theorem dX7_take_41 : decode cX7_take 41 = .ok (.iinc 3 1, 3) := by decide +kernel
theorem dX7_take_44 : decode cX7_take 44 = .ok (.goto (-25), 3) := by decide +kernel
theorem dX7_take_47 : decode cX7_take 47 = .ok (.aload_n 0, 1) := by decide +kernel
theorem dX7_take_48 : decode cX7_take 48 = .ok (.getfield 19, 3) := by decide +kernel
theorem dX7_take_51 : decode cX7_take 51 = .ok (.aload_n 0, 1) := by decide +kernel
theorem dX7_take_52 : decode cX7_take 52 = .ok (.getfield 15, 3) := by decide +kernel
theorem dX7_take_55 : decode cX7_take 55 = .ok (.iconst 0, 1) := by decide +kernel
theorem dX7_take_56 : decode cX7_take 56 = .ok (.iastore, 1) := by decide +kernel
theorem dX7_take_57 : decode cX7_take 57 = .ok (.iload_n 2, 1) := by decide +kernel
theorem dX7_take_58 : decode cX7_take 58 = .ok (.ireturn, 1) := by decide +kernel
theorem dX7_storeAt_0 : decode cX7_storeAt 0 = .ok (.aload_n 0, 1) := by decide +kernel
theorem dX7_storeAt_1 : decode cX7_storeAt 1 = .ok (.iload_n 1, 1) := by decide +kernel
theorem dX7_storeAt_2 : decode cX7_storeAt 2 = .ok (.iconst 0, 1) := by decide +kernel
theorem dX7_storeAt_3 : decode cX7_storeAt 3 = .ok (.invokevirtual 59, 3) := by decide +kernel
theorem dX7_storeAt_6 : decode cX7_storeAt 6 = .ok (.aload_n 0, 1) := by decide +kernel
theorem dX7_storeAt_7 : decode cX7_storeAt 7 = .ok (.dup, 1) := by decide +kernel
theorem dX7_storeAt_8 : decode cX7_storeAt 8 = .ok (.getfield 11, 3) := by decide +kernel
theorem dX7_storeAt_11 : decode cX7_storeAt 11 = .ok (.ldc2_w 62, 3) := by decide +kernel
theorem dX7_storeAt_14 : decode cX7_storeAt 14 = .ok (.land, 1) := by decide +kernel
theorem dX7_storeAt_15 : decode cX7_storeAt 15 = .ok (.putfield 11, 3) := by decide +kernel
theorem dX7_storeAt_18 : decode cX7_storeAt 18 = .ok (.iconst 0, 1) := by decide +kernel
theorem dX7_storeAt_19 : decode cX7_storeAt 19 = .ok (.istore_n 2, 1) := by decide +kernel
theorem dX7_storeAt_20 : decode cX7_storeAt 20 = .ok (.iload_n 2, 1) := by decide +kernel
theorem dX7_storeAt_21 : decode cX7_storeAt 21 = .ok (.aload_n 0, 1) := by decide +kernel
theorem dX7_storeAt_22 : decode cX7_storeAt 22 = .ok (.getfield 15, 3) := by decide +kernel
theorem dX7_storeAt_25 : decode cX7_storeAt 25 = .ok (.if_icmp .ge 24, 3) := by decide +kernel
theorem dX7_storeAt_28 : decode cX7_storeAt 28 = .ok (.aload_n 0, 1) := by decide +kernel
theorem dX7_storeAt_29 : decode cX7_storeAt 29 = .ok (.getfield 19, 3) := by decide +kernel
theorem dX7_storeAt_32 : decode cX7_storeAt 32 = .ok (.iload_n 2, 1) := by decide +kernel
theorem dX7_storeAt_33 : decode cX7_storeAt 33 = .ok (.aload_n 0, 1) := by decide +kernel
theorem dX7_storeAt_34 : decode cX7_storeAt 34 = .ok (.getfield 19, 3) := by decide +kernel
theorem dX7_storeAt_37 : decode cX7_storeAt 37 = .ok (.iload_n 2, 1) := by decide +kernel
theorem dX7_storeAt_38 : decode cX7_storeAt 38 = .ok (.iaload, 1) := by decide +kernel
theorem dX7_storeAt_39 : decode cX7_storeAt 39 = .ok (.invokestatic 64, 3) := by decide +kernel
theorem dX7_storeAt_42 : decode cX7_storeAt 42 = .ok (.iastore, 1) := by decide +kernel
theorem dX7_storeAt_43 : decode cX7_storeAt 43 = .ok (.iinc 2 1, 3) := by decide +kernel
theorem dX7_storeAt_46 : decode cX7_storeAt 46 = .ok (.goto (-26), 3) := by decide +kernel
theorem dX7_storeAt_49 : decode cX7_storeAt 49 = .ok (.aload_n 0, 1) := by decide +kernel
theorem dX7_storeAt_50 : decode cX7_storeAt 50 = .ok (.iload_n 1, 1) := by decide +kernel
theorem dX7_storeAt_51 : decode cX7_storeAt 51 = .ok (.iconst 1, 1) := by decide +kernel
theorem dX7_storeAt_52 : decode cX7_storeAt 52 = .ok (.invokevirtual 29, 3) := by decide +kernel
theorem dX7_storeAt_55 : decode cX7_storeAt 55 = .ok (.return_, 1) := by decide +kernel
theorem dX7_endsWord_0 : decode cX7_endsWord 0 = .ok (.aload_n 0, 1) := by decide +kernel
theorem dX7_endsWord_1 : decode cX7_endsWord 1 = .ok (.getfield 11, 3) := by decide +kernel
theorem dX7_endsWord_4 : decode cX7_endsWord 4 = .ok (.lreturn, 1) := by decide +kernel
theorem dX7_lettersWord_0 : decode cX7_lettersWord 0 = .ok (.lconst 0, 1) := by decide +kernel
theorem dX7_lettersWord_1 : decode cX7_lettersWord 1 = .ok (.lstore_n 2, 1) := by decide +kernel
theorem dX7_lettersWord_2 : decode cX7_lettersWord 2 = .ok (.iconst 0, 1) := by decide +kernel
theorem dX7_lettersWord_3 : decode cX7_lettersWord 3 = .ok (.istore 4, 2) := by decide +kernel
theorem dX7_lettersWord_5 : decode cX7_lettersWord 5 = .ok (.iload 4, 2) := by decide +kernel
theorem dX7_lettersWord_7 : decode cX7_lettersWord 7 = .ok (.iconst 4, 1) := by decide +kernel
theorem dX7_lettersWord_8 : decode cX7_lettersWord 8 = .ok (.if_icmp .ge 27, 3) := by decide +kernel
theorem dX7_lettersWord_11 : decode cX7_lettersWord 11 = .ok (.lload_n 2, 1) := by decide +kernel
theorem dX7_lettersWord_12 : decode cX7_lettersWord 12 = .ok (.bipush 15, 2) := by decide +kernel
theorem dX7_lettersWord_14 : decode cX7_lettersWord 14 = .ok (.lshl, 1) := by decide +kernel
theorem dX7_lettersWord_15 : decode cX7_lettersWord 15 = .ok (.aload_n 0, 1) := by decide +kernel
theorem dX7_lettersWord_16 : decode cX7_lettersWord 16 = .ok (.getfield 19, 3) := by decide +kernel
theorem dX7_lettersWord_19 : decode cX7_lettersWord 19 = .ok (.iload_n 1, 1) := by decide +kernel
theorem dX7_lettersWord_20 : decode cX7_lettersWord 20 = .ok (.iconst 4, 1) := by decide +kernel
theorem dX7_lettersWord_21 : decode cX7_lettersWord 21 = .ok (.imul, 1) := by decide +kernel
theorem dX7_lettersWord_22 : decode cX7_lettersWord 22 = .ok (.iload 4, 2) := by decide +kernel
theorem dX7_lettersWord_24 : decode cX7_lettersWord 24 = .ok (.iadd, 1) := by decide +kernel
theorem dX7_lettersWord_25 : decode cX7_lettersWord 25 = .ok (.iaload, 1) := by decide +kernel
theorem dX7_lettersWord_26 : decode cX7_lettersWord 26 = .ok (.i2l, 1) := by decide +kernel
theorem dX7_lettersWord_27 : decode cX7_lettersWord 27 = .ok (.lor, 1) := by decide +kernel
theorem dX7_lettersWord_28 : decode cX7_lettersWord 28 = .ok (.lstore_n 2, 1) := by decide +kernel
theorem dX7_lettersWord_29 : decode cX7_lettersWord 29 = .ok (.iinc 4 1, 3) := by decide +kernel
theorem dX7_lettersWord_32 : decode cX7_lettersWord 32 = .ok (.goto (-27), 3) := by decide +kernel
theorem dX7_lettersWord_35 : decode cX7_lettersWord 35 = .ok (.lload_n 2, 1) := by decide +kernel
theorem dX7_lettersWord_36 : decode cX7_lettersWord 36 = .ok (.lreturn, 1) := by decide +kernel
theorem dX7_load_0 : decode cX7_load 0 = .ok (.aload_n 0, 1) := by decide +kernel
theorem dX7_load_1 : decode cX7_load 1 = .ok (.lload_n 1, 1) := by decide +kernel
theorem dX7_load_2 : decode cX7_load 2 = .ok (.putfield 11, 3) := by decide +kernel
theorem dX7_load_5 : decode cX7_load 5 = .ok (.aload_n 0, 1) := by decide +kernel
theorem dX7_load_6 : decode cX7_load 6 = .ok (.iconst 0, 1) := by decide +kernel
theorem dX7_load_7 : decode cX7_load 7 = .ok (.putfield 15, 3) := by decide +kernel
theorem dX7_load_10 : decode cX7_load 10 = .ok (.aload_n 0, 1) := by decide +kernel
theorem dX7_load_11 : decode cX7_load 11 = .ok (.iconst 0, 1) := by decide +kernel
theorem dX7_load_12 : decode cX7_load 12 = .ok (.lload_n 3, 1) := by decide +kernel
theorem dX7_load_13 : decode cX7_load 13 = .ok (.invokevirtual 67, 3) := by decide +kernel
theorem dX7_load_16 : decode cX7_load 16 = .ok (.aload_n 0, 1) := by decide +kernel
theorem dX7_load_17 : decode cX7_load 17 = .ok (.iconst 1, 1) := by decide +kernel
theorem dX7_load_18 : decode cX7_load 18 = .ok (.lload 5, 2) := by decide +kernel
theorem dX7_load_20 : decode cX7_load 20 = .ok (.invokevirtual 67, 3) := by decide +kernel
theorem dX7_load_23 : decode cX7_load 23 = .ok (.return_, 1) := by decide +kernel
theorem dX7_loadHalf_0 : decode cX7_loadHalf 0 = .ok (.lload_n 2, 1) := by decide +kernel
theorem dX7_loadHalf_1 : decode cX7_loadHalf 1 = .ok (.lstore 4, 2) := by decide +kernel
theorem dX7_loadHalf_3 : decode cX7_loadHalf 3 = .ok (.iconst 3, 1) := by decide +kernel
theorem dX7_loadHalf_4 : decode cX7_loadHalf 4 = .ok (.istore 6, 2) := by decide +kernel
theorem dX7_loadHalf_6 : decode cX7_loadHalf 6 = .ok (.iload 6, 2) := by decide +kernel
theorem dX7_loadHalf_8 : decode cX7_loadHalf 8 = .ok (.ifCond .lt 57, 3) := by decide +kernel
theorem dX7_loadHalf_11 : decode cX7_loadHalf 11 = .ok (.lload 4, 2) := by decide +kernel
theorem dX7_loadHalf_13 : decode cX7_loadHalf 13 = .ok (.l2i, 1) := by decide +kernel
theorem dX7_loadHalf_14 : decode cX7_loadHalf 14 = .ok (.sipush 32767, 3) := by decide +kernel
theorem dX7_loadHalf_17 : decode cX7_loadHalf 17 = .ok (.iand, 1) := by decide +kernel
theorem dX7_loadHalf_18 : decode cX7_loadHalf 18 = .ok (.istore 7, 2) := by decide +kernel
theorem dX7_loadHalf_20 : decode cX7_loadHalf 20 = .ok (.aload_n 0, 1) := by decide +kernel
theorem dX7_loadHalf_21 : decode cX7_loadHalf 21 = .ok (.getfield 19, 3) := by decide +kernel
theorem dX7_loadHalf_24 : decode cX7_loadHalf 24 = .ok (.iload_n 1, 1) := by decide +kernel
theorem dX7_loadHalf_25 : decode cX7_loadHalf 25 = .ok (.iconst 4, 1) := by decide +kernel
theorem dX7_loadHalf_26 : decode cX7_loadHalf 26 = .ok (.imul, 1) := by decide +kernel
theorem dX7_loadHalf_27 : decode cX7_loadHalf 27 = .ok (.iload 6, 2) := by decide +kernel
theorem dX7_loadHalf_29 : decode cX7_loadHalf 29 = .ok (.iadd, 1) := by decide +kernel
theorem dX7_loadHalf_30 : decode cX7_loadHalf 30 = .ok (.iload 7, 2) := by decide +kernel
theorem dX7_loadHalf_32 : decode cX7_loadHalf 32 = .ok (.iastore, 1) := by decide +kernel
theorem dX7_loadHalf_33 : decode cX7_loadHalf 33 = .ok (.aload_n 0, 1) := by decide +kernel
theorem dX7_loadHalf_34 : decode cX7_loadHalf 34 = .ok (.dup, 1) := by decide +kernel
theorem dX7_loadHalf_35 : decode cX7_loadHalf 35 = .ok (.getfield 15, 3) := by decide +kernel
theorem dX7_loadHalf_38 : decode cX7_loadHalf 38 = .ok (.iload 7, 2) := by decide +kernel
theorem dX7_loadHalf_40 : decode cX7_loadHalf 40 = .ok (.ifCond .ne 7, 3) := by decide +kernel
theorem dX7_loadHalf_43 : decode cX7_loadHalf 43 = .ok (.iconst 0, 1) := by decide +kernel
theorem dX7_loadHalf_44 : decode cX7_loadHalf 44 = .ok (.goto 4, 3) := by decide +kernel
theorem dX7_loadHalf_47 : decode cX7_loadHalf 47 = .ok (.iconst 1, 1) := by decide +kernel
theorem dX7_loadHalf_48 : decode cX7_loadHalf 48 = .ok (.iadd, 1) := by decide +kernel
theorem dX7_loadHalf_49 : decode cX7_loadHalf 49 = .ok (.putfield 15, 3) := by decide +kernel
theorem dX7_loadHalf_52 : decode cX7_loadHalf 52 = .ok (.lload 4, 2) := by decide +kernel
theorem dX7_loadHalf_54 : decode cX7_loadHalf 54 = .ok (.bipush 15, 2) := by decide +kernel
theorem dX7_loadHalf_56 : decode cX7_loadHalf 56 = .ok (.lushr, 1) := by decide +kernel
theorem dX7_loadHalf_57 : decode cX7_loadHalf 57 = .ok (.lstore 4, 2) := by decide +kernel
theorem dX7_loadHalf_59 : decode cX7_loadHalf 59 = .ok (.iinc 6 (-1), 3) := by decide +kernel
theorem dX7_loadHalf_62 : decode cX7_loadHalf 62 = .ok (.goto (-56), 3) := by decide +kernel
theorem dX7_loadHalf_65 : decode cX7_loadHalf 65 = .ok (.return_, 1) := by decide +kernel
theorem dX7_part_0 : decode cX7_part 0 = .ok (.aload_n 0, 1) := by decide +kernel
theorem dX7_part_1 : decode cX7_part 1 = .ok (.getfield 11, 3) := by decide +kernel
theorem dX7_part_4 : decode cX7_part 4 = .ok (.iload_n 1, 1) := by decide +kernel
theorem dX7_part_5 : decode cX7_part 5 = .ok (.lushr, 1) := by decide +kernel
theorem dX7_part_6 : decode cX7_part 6 = .ok (.l2i, 1) := by decide +kernel
theorem dX7_part_7 : decode cX7_part 7 = .ok (.iload_n 2, 1) := by decide +kernel
theorem dX7_part_8 : decode cX7_part 8 = .ok (.iand, 1) := by decide +kernel
theorem dX7_part_9 : decode cX7_part 9 = .ok (.ireturn, 1) := by decide +kernel
theorem dX7_setPart_0 : decode cX7_setPart 0 = .ok (.aload_n 0, 1) := by decide +kernel
theorem dX7_setPart_1 : decode cX7_setPart 1 = .ok (.aload_n 0, 1) := by decide +kernel
theorem dX7_setPart_2 : decode cX7_setPart 2 = .ok (.getfield 11, 3) := by decide +kernel
theorem dX7_setPart_5 : decode cX7_setPart 5 = .ok (.iload_n 2, 1) := by decide +kernel
theorem dX7_setPart_6 : decode cX7_setPart 6 = .ok (.i2l, 1) := by decide +kernel
theorem dX7_setPart_7 : decode cX7_setPart 7 = .ok (.iload_n 1, 1) := by decide +kernel
theorem dX7_setPart_8 : decode cX7_setPart 8 = .ok (.lshl, 1) := by decide +kernel
theorem dX7_setPart_9 : decode cX7_setPart 9 = .ok (.ldc2_w 71, 3) := by decide +kernel
theorem dX7_setPart_12 : decode cX7_setPart 12 = .ok (.lxor, 1) := by decide +kernel
theorem dX7_setPart_13 : decode cX7_setPart 13 = .ok (.land, 1) := by decide +kernel
theorem dX7_setPart_14 : decode cX7_setPart 14 = .ok (.iload_n 3, 1) := by decide +kernel
theorem dX7_setPart_15 : decode cX7_setPart 15 = .ok (.iload_n 2, 1) := by decide +kernel
theorem dX7_setPart_16 : decode cX7_setPart 16 = .ok (.iand, 1) := by decide +kernel
theorem dX7_setPart_17 : decode cX7_setPart 17 = .ok (.i2l, 1) := by decide +kernel
theorem dX7_setPart_18 : decode cX7_setPart 18 = .ok (.iload_n 1, 1) := by decide +kernel
theorem dX7_setPart_19 : decode cX7_setPart 19 = .ok (.lshl, 1) := by decide +kernel
theorem dX7_setPart_20 : decode cX7_setPart 20 = .ok (.lor, 1) := by decide +kernel
theorem dX7_setPart_21 : decode cX7_setPart 21 = .ok (.putfield 11, 3) := by decide +kernel
theorem dX7_setPart_24 : decode cX7_setPart 24 = .ok (.return_, 1) := by decide +kernel
theorem dX8_init_0 : decode cX8_init 0 = .ok (.aload_n 0, 1) := by decide +kernel
theorem dX8_init_1 : decode cX8_init 1 = .ok (.invokespecial 5, 3) := by decide +kernel
theorem dX8_init_4 : decode cX8_init 4 = .ok (.aload_n 0, 1) := by decide +kernel
theorem dX8_init_5 : decode cX8_init 5 = .ok (.sipush 4000, 3) := by decide +kernel
theorem dX8_init_8 : decode cX8_init 8 = .ok (.newarray .long, 2) := by decide +kernel
theorem dX8_init_10 : decode cX8_init 10 = .ok (.putfield 11, 3) := by decide +kernel
theorem dX8_init_13 : decode cX8_init 13 = .ok (.aload_n 0, 1) := by decide +kernel
theorem dX8_init_14 : decode cX8_init 14 = .ok (.sipush 4000, 3) := by decide +kernel
theorem dX8_init_17 : decode cX8_init 17 = .ok (.newarray .long, 2) := by decide +kernel
theorem dX8_init_19 : decode cX8_init 19 = .ok (.putfield 15, 3) := by decide +kernel
theorem dX8_init_22 : decode cX8_init 22 = .ok (.aload_n 0, 1) := by decide +kernel
theorem dX8_init_23 : decode cX8_init 23 = .ok (.sipush 4000, 3) := by decide +kernel
theorem dX8_init_26 : decode cX8_init 26 = .ok (.newarray .long, 2) := by decide +kernel
theorem dX8_init_28 : decode cX8_init 28 = .ok (.putfield 18, 3) := by decide +kernel
theorem dX8_init_31 : decode cX8_init 31 = .ok (.aload_n 0, 1) := by decide +kernel
theorem dX8_init_32 : decode cX8_init 32 = .ok (.sipush 8192, 3) := by decide +kernel
theorem dX8_init_35 : decode cX8_init 35 = .ok (.newarray .int, 2) := by decide +kernel
theorem dX8_init_37 : decode cX8_init 37 = .ok (.putfield 21, 3) := by decide +kernel
theorem dX8_init_40 : decode cX8_init 40 = .ok (.aload_n 0, 1) := by decide +kernel
theorem dX8_init_41 : decode cX8_init 41 = .ok (.iconst 0, 1) := by decide +kernel
theorem dX8_init_42 : decode cX8_init 42 = .ok (.putfield 25, 3) := by decide +kernel
theorem dX8_init_45 : decode cX8_init 45 = .ok (.return_, 1) := by decide +kernel
theorem dX8_clear_0 : decode cX8_clear 0 = .ok (.aload_n 0, 1) := by decide +kernel
theorem dX8_clear_1 : decode cX8_clear 1 = .ok (.getfield 21, 3) := by decide +kernel
theorem dX8_clear_4 : decode cX8_clear 4 = .ok (.iconst 0, 1) := by decide +kernel
theorem dX8_clear_5 : decode cX8_clear 5 = .ok (.invokestatic 29, 3) := by decide +kernel
theorem dX8_clear_8 : decode cX8_clear 8 = .ok (.aload_n 0, 1) := by decide +kernel
theorem dX8_clear_9 : decode cX8_clear 9 = .ok (.iconst 0, 1) := by decide +kernel
theorem dX8_clear_10 : decode cX8_clear 10 = .ok (.putfield 25, 3) := by decide +kernel
theorem dX8_clear_13 : decode cX8_clear 13 = .ok (.return_, 1) := by decide +kernel
theorem dX8_count_0 : decode cX8_count 0 = .ok (.aload_n 0, 1) := by decide +kernel
theorem dX8_count_1 : decode cX8_count 1 = .ok (.getfield 25, 3) := by decide +kernel
theorem dX8_count_4 : decode cX8_count 4 = .ok (.ireturn, 1) := by decide +kernel
theorem dX8_find_0 : decode cX8_find 0 = .ok (.aload_n 0, 1) := by decide +kernel
theorem dX8_find_1 : decode cX8_find 1 = .ok (.getfield 21, 3) := by decide +kernel
theorem dX8_find_4 : decode cX8_find 4 = .ok (.aload_n 0, 1) := by decide +kernel
theorem dX8_find_5 : decode cX8_find 5 = .ok (.aload_n 1, 1) := by decide +kernel
theorem dX8_find_6 : decode cX8_find 6 = .ok (.invokevirtual 35, 3) := by decide +kernel
theorem dX8_find_9 : decode cX8_find 9 = .ok (.aload_n 1, 1) := by decide +kernel
theorem dX8_find_10 : decode cX8_find 10 = .ok (.iconst 0, 1) := by decide +kernel
theorem dX8_find_11 : decode cX8_find 11 = .ok (.invokevirtual 41, 3) := by decide +kernel
theorem dX8_find_14 : decode cX8_find 14 = .ok (.aload_n 1, 1) := by decide +kernel
theorem dX8_find_15 : decode cX8_find 15 = .ok (.iconst 1, 1) := by decide +kernel
theorem dX8_find_16 : decode cX8_find 16 = .ok (.invokevirtual 41, 3) := by decide +kernel
theorem dX8_find_19 : decode cX8_find 19 = .ok (.invokevirtual 45, 3) := by decide +kernel
theorem dX8_find_22 : decode cX8_find 22 = .ok (.iaload, 1) := by decide +kernel
theorem dX8_find_23 : decode cX8_find 23 = .ok (.iconst 1, 1) := by decide +kernel
theorem dX8_find_24 : decode cX8_find 24 = .ok (.isub, 1) := by decide +kernel
theorem dX8_find_25 : decode cX8_find 25 = .ok (.ireturn, 1) := by decide +kernel
theorem dX8_keep_0 : decode cX8_keep 0 = .ok (.aload_n 0, 1) := by decide +kernel
theorem dX8_keep_1 : decode cX8_keep 1 = .ok (.getfield 25, 3) := by decide +kernel
theorem dX8_keep_4 : decode cX8_keep 4 = .ok (.istore_n 2, 1) := by decide +kernel
theorem dX8_keep_5 : decode cX8_keep 5 = .ok (.aload_n 0, 1) := by decide +kernel
theorem dX8_keep_6 : decode cX8_keep 6 = .ok (.getfield 11, 3) := by decide +kernel
theorem dX8_keep_9 : decode cX8_keep 9 = .ok (.iload_n 2, 1) := by decide +kernel
theorem dX8_keep_10 : decode cX8_keep 10 = .ok (.aload_n 1, 1) := by decide +kernel
theorem dX8_keep_11 : decode cX8_keep 11 = .ok (.invokevirtual 35, 3) := by decide +kernel
theorem dX8_keep_14 : decode cX8_keep 14 = .ok (.lastore, 1) := by decide +kernel
theorem dX8_keep_15 : decode cX8_keep 15 = .ok (.aload_n 0, 1) := by decide +kernel
theorem dX8_keep_16 : decode cX8_keep 16 = .ok (.getfield 15, 3) := by decide +kernel
theorem dX8_keep_19 : decode cX8_keep 19 = .ok (.iload_n 2, 1) := by decide +kernel
theorem dX8_keep_20 : decode cX8_keep 20 = .ok (.aload_n 1, 1) := by decide +kernel
theorem dX8_keep_21 : decode cX8_keep 21 = .ok (.iconst 0, 1) := by decide +kernel
theorem dX8_keep_22 : decode cX8_keep 22 = .ok (.invokevirtual 41, 3) := by decide +kernel
theorem dX8_keep_25 : decode cX8_keep 25 = .ok (.lastore, 1) := by decide +kernel
theorem dX8_keep_26 : decode cX8_keep 26 = .ok (.aload_n 0, 1) := by decide +kernel
theorem dX8_keep_27 : decode cX8_keep 27 = .ok (.getfield 18, 3) := by decide +kernel
theorem dX8_keep_30 : decode cX8_keep 30 = .ok (.iload_n 2, 1) := by decide +kernel
theorem dX8_keep_31 : decode cX8_keep 31 = .ok (.aload_n 1, 1) := by decide +kernel
theorem dX8_keep_32 : decode cX8_keep 32 = .ok (.iconst 1, 1) := by decide +kernel
theorem dX8_keep_33 : decode cX8_keep 33 = .ok (.invokevirtual 41, 3) := by decide +kernel
theorem dX8_keep_36 : decode cX8_keep 36 = .ok (.lastore, 1) := by decide +kernel
theorem dX8_keep_37 : decode cX8_keep 37 = .ok (.aload_n 0, 1) := by decide +kernel
theorem dX8_keep_38 : decode cX8_keep 38 = .ok (.getfield 21, 3) := by decide +kernel
theorem dX8_keep_41 : decode cX8_keep 41 = .ok (.aload_n 0, 1) := by decide +kernel
theorem dX8_keep_42 : decode cX8_keep 42 = .ok (.aload_n 0, 1) := by decide +kernel
theorem dX8_keep_43 : decode cX8_keep 43 = .ok (.getfield 11, 3) := by decide +kernel
theorem dX8_keep_46 : decode cX8_keep 46 = .ok (.iload_n 2, 1) := by decide +kernel
theorem dX8_keep_47 : decode cX8_keep 47 = .ok (.laload, 1) := by decide +kernel
theorem dX8_keep_48 : decode cX8_keep 48 = .ok (.aload_n 0, 1) := by decide +kernel
theorem dX8_keep_49 : decode cX8_keep 49 = .ok (.getfield 15, 3) := by decide +kernel
theorem dX8_keep_52 : decode cX8_keep 52 = .ok (.iload_n 2, 1) := by decide +kernel
theorem dX8_keep_53 : decode cX8_keep 53 = .ok (.laload, 1) := by decide +kernel
theorem dX8_keep_54 : decode cX8_keep 54 = .ok (.aload_n 0, 1) := by decide +kernel
theorem dX8_keep_55 : decode cX8_keep 55 = .ok (.getfield 18, 3) := by decide +kernel
theorem dX8_keep_58 : decode cX8_keep 58 = .ok (.iload_n 2, 1) := by decide +kernel
theorem dX8_keep_59 : decode cX8_keep 59 = .ok (.laload, 1) := by decide +kernel
theorem dX8_keep_60 : decode cX8_keep 60 = .ok (.invokevirtual 45, 3) := by decide +kernel
theorem dX8_keep_63 : decode cX8_keep 63 = .ok (.iload_n 2, 1) := by decide +kernel
theorem dX8_keep_64 : decode cX8_keep 64 = .ok (.iconst 1, 1) := by decide +kernel
theorem dX8_keep_65 : decode cX8_keep 65 = .ok (.iadd, 1) := by decide +kernel
theorem dX8_keep_66 : decode cX8_keep 66 = .ok (.iastore, 1) := by decide +kernel
theorem dX8_keep_67 : decode cX8_keep 67 = .ok (.aload_n 0, 1) := by decide +kernel
theorem dX8_keep_68 : decode cX8_keep 68 = .ok (.dup, 1) := by decide +kernel
theorem dX8_keep_69 : decode cX8_keep 69 = .ok (.getfield 25, 3) := by decide +kernel
theorem dX8_keep_72 : decode cX8_keep 72 = .ok (.iconst 1, 1) := by decide +kernel
theorem dX8_keep_73 : decode cX8_keep 73 = .ok (.iadd, 1) := by decide +kernel
theorem dX8_keep_74 : decode cX8_keep 74 = .ok (.putfield 25, 3) := by decide +kernel
theorem dX8_keep_77 : decode cX8_keep 77 = .ok (.iload_n 2, 1) := by decide +kernel
theorem dX8_keep_78 : decode cX8_keep 78 = .ok (.ireturn, 1) := by decide +kernel
theorem dX8_load_0 : decode cX8_load 0 = .ok (.aload_n 2, 1) := by decide +kernel
theorem dX8_load_1 : decode cX8_load 1 = .ok (.aload_n 0, 1) := by decide +kernel
theorem dX8_load_2 : decode cX8_load 2 = .ok (.getfield 11, 3) := by decide +kernel
theorem dX8_load_5 : decode cX8_load 5 = .ok (.iload_n 1, 1) := by decide +kernel
theorem dX8_load_6 : decode cX8_load 6 = .ok (.laload, 1) := by decide +kernel
theorem dX8_load_7 : decode cX8_load 7 = .ok (.aload_n 0, 1) := by decide +kernel
theorem dX8_load_8 : decode cX8_load 8 = .ok (.getfield 15, 3) := by decide +kernel
theorem dX8_load_11 : decode cX8_load 11 = .ok (.iload_n 1, 1) := by decide +kernel
theorem dX8_load_12 : decode cX8_load 12 = .ok (.laload, 1) := by decide +kernel
theorem dX8_load_13 : decode cX8_load 13 = .ok (.aload_n 0, 1) := by decide +kernel
theorem dX8_load_14 : decode cX8_load 14 = .ok (.getfield 18, 3) := by decide +kernel
theorem dX8_load_17 : decode cX8_load 17 = .ok (.iload_n 1, 1) := by decide +kernel
theorem dX8_load_18 : decode cX8_load 18 = .ok (.laload, 1) := by decide +kernel
theorem dX8_load_19 : decode cX8_load 19 = .ok (.invokevirtual 49, 3) := by decide +kernel
theorem dX8_load_22 : decode cX8_load 22 = .ok (.return_, 1) := by decide +kernel
theorem dX8_slotOf_0 : decode cX8_slotOf 0 = .ok (.lload_n 1, 1) := by decide +kernel
theorem dX8_slotOf_1 : decode cX8_slotOf 1 = .ok (.lload_n 3, 1) := by decide +kernel
theorem dX8_slotOf_2 : decode cX8_slotOf 2 = .ok (.lload 5, 2) := by decide +kernel
theorem dX8_slotOf_4 : decode cX8_slotOf 4 = .ok (.invokestatic 53, 3) := by decide +kernel
theorem dX8_slotOf_7 : decode cX8_slotOf 7 = .ok (.istore 7, 2) := by decide +kernel
theorem dX8_slotOf_9 : decode cX8_slotOf 9 = .ok (.iconst 0, 1) := by decide +kernel
theorem dX8_slotOf_10 : decode cX8_slotOf 10 = .ok (.istore 8, 2) := by decide +kernel
theorem dX8_slotOf_12 : decode cX8_slotOf 12 = .ok (.iload 8, 2) := by decide +kernel
theorem dX8_slotOf_14 : decode cX8_slotOf 14 = .ok (.sipush 8192, 3) := by decide +kernel
theorem dX8_slotOf_17 : decode cX8_slotOf 17 = .ok (.if_icmp .ge 78, 3) := by decide +kernel
theorem dX8_slotOf_20 : decode cX8_slotOf 20 = .ok (.aload_n 0, 1) := by decide +kernel
theorem dX8_slotOf_21 : decode cX8_slotOf 21 = .ok (.getfield 21, 3) := by decide +kernel
theorem dX8_slotOf_24 : decode cX8_slotOf 24 = .ok (.iload 7, 2) := by decide +kernel
theorem dX8_slotOf_26 : decode cX8_slotOf 26 = .ok (.iaload, 1) := by decide +kernel
theorem dX8_slotOf_27 : decode cX8_slotOf 27 = .ok (.iconst 1, 1) := by decide +kernel
theorem dX8_slotOf_28 : decode cX8_slotOf 28 = .ok (.isub, 1) := by decide +kernel
theorem dX8_slotOf_29 : decode cX8_slotOf 29 = .ok (.istore 9, 2) := by decide +kernel
theorem dX8_slotOf_31 : decode cX8_slotOf 31 = .ok (.iload 9, 2) := by decide +kernel
theorem dX8_slotOf_33 : decode cX8_slotOf 33 = .ok (.ifCond .ge 6, 3) := by decide +kernel
theorem dX8_slotOf_36 : decode cX8_slotOf 36 = .ok (.iload 7, 2) := by decide +kernel
theorem dX8_slotOf_38 : decode cX8_slotOf 38 = .ok (.ireturn, 1) := by decide +kernel
theorem dX8_slotOf_39 : decode cX8_slotOf 39 = .ok (.aload_n 0, 1) := by decide +kernel
theorem dX8_slotOf_40 : decode cX8_slotOf 40 = .ok (.getfield 11, 3) := by decide +kernel
theorem dX8_slotOf_43 : decode cX8_slotOf 43 = .ok (.iload 9, 2) := by decide +kernel
theorem dX8_slotOf_45 : decode cX8_slotOf 45 = .ok (.laload, 1) := by decide +kernel
theorem dX8_slotOf_46 : decode cX8_slotOf 46 = .ok (.lload_n 1, 1) := by decide +kernel
theorem dX8_slotOf_47 : decode cX8_slotOf 47 = .ok (.lcmp, 1) := by decide +kernel
theorem dX8_slotOf_48 : decode cX8_slotOf 48 = .ok (.ifCond .ne 31, 3) := by decide +kernel
theorem dX8_slotOf_51 : decode cX8_slotOf 51 = .ok (.aload_n 0, 1) := by decide +kernel
theorem dX8_slotOf_52 : decode cX8_slotOf 52 = .ok (.getfield 15, 3) := by decide +kernel
theorem dX8_slotOf_55 : decode cX8_slotOf 55 = .ok (.iload 9, 2) := by decide +kernel
theorem dX8_slotOf_57 : decode cX8_slotOf 57 = .ok (.laload, 1) := by decide +kernel
theorem dX8_slotOf_58 : decode cX8_slotOf 58 = .ok (.lload_n 3, 1) := by decide +kernel
theorem dX8_slotOf_59 : decode cX8_slotOf 59 = .ok (.lcmp, 1) := by decide +kernel
theorem dX8_slotOf_60 : decode cX8_slotOf 60 = .ok (.ifCond .ne 19, 3) := by decide +kernel
theorem dX8_slotOf_63 : decode cX8_slotOf 63 = .ok (.aload_n 0, 1) := by decide +kernel
theorem dX8_slotOf_64 : decode cX8_slotOf 64 = .ok (.getfield 18, 3) := by decide +kernel
theorem dX8_slotOf_67 : decode cX8_slotOf 67 = .ok (.iload 9, 2) := by decide +kernel
theorem dX8_slotOf_69 : decode cX8_slotOf 69 = .ok (.laload, 1) := by decide +kernel
theorem dX8_slotOf_70 : decode cX8_slotOf 70 = .ok (.lload 5, 2) := by decide +kernel
theorem dX8_slotOf_72 : decode cX8_slotOf 72 = .ok (.lcmp, 1) := by decide +kernel
theorem dX8_slotOf_73 : decode cX8_slotOf 73 = .ok (.ifCond .ne 6, 3) := by decide +kernel
theorem dX8_slotOf_76 : decode cX8_slotOf 76 = .ok (.iload 7, 2) := by decide +kernel
theorem dX8_slotOf_78 : decode cX8_slotOf 78 = .ok (.ireturn, 1) := by decide +kernel
theorem dX8_slotOf_79 : decode cX8_slotOf 79 = .ok (.iload 7, 2) := by decide +kernel
theorem dX8_slotOf_81 : decode cX8_slotOf 81 = .ok (.iconst 1, 1) := by decide +kernel
theorem dX8_slotOf_82 : decode cX8_slotOf 82 = .ok (.iadd, 1) := by decide +kernel
theorem dX8_slotOf_83 : decode cX8_slotOf 83 = .ok (.sipush 8191, 3) := by decide +kernel
theorem dX8_slotOf_86 : decode cX8_slotOf 86 = .ok (.iand, 1) := by decide +kernel
theorem dX8_slotOf_87 : decode cX8_slotOf 87 = .ok (.istore 7, 2) := by decide +kernel
theorem dX8_slotOf_89 : decode cX8_slotOf 89 = .ok (.iinc 8 1, 3) := by decide +kernel
theorem dX8_slotOf_92 : decode cX8_slotOf 92 = .ok (.goto (-80), 3) := by decide +kernel
theorem dX8_slotOf_95 : decode cX8_slotOf 95 = .ok (.iload 7, 2) := by decide +kernel
theorem dX8_slotOf_97 : decode cX8_slotOf 97 = .ok (.ireturn, 1) := by decide +kernel
theorem dX8_startOf_0 : decode cX8_startOf 0 = .ok (.lload_n 0, 1) := by decide +kernel
theorem dX8_startOf_1 : decode cX8_startOf 1 = .ok (.ldc2_w 56, 3) := by decide +kernel
theorem dX8_startOf_4 : decode cX8_startOf 4 = .ok (.lmul, 1) := by decide +kernel
theorem dX8_startOf_5 : decode cX8_startOf 5 = .ok (.lload_n 2, 1) := by decide +kernel
theorem dX8_startOf_6 : decode cX8_startOf 6 = .ok (.ladd, 1) := by decide +kernel
theorem dX8_startOf_7 : decode cX8_startOf 7 = .ok (.ldc2_w 56, 3) := by decide +kernel
theorem dX8_startOf_10 : decode cX8_startOf 10 = .ok (.lmul, 1) := by decide +kernel
theorem dX8_startOf_11 : decode cX8_startOf 11 = .ok (.lload 4, 2) := by decide +kernel
theorem dX8_startOf_13 : decode cX8_startOf 13 = .ok (.ladd, 1) := by decide +kernel
theorem dX8_startOf_14 : decode cX8_startOf 14 = .ok (.lstore 6, 2) := by decide +kernel
theorem dX8_startOf_16 : decode cX8_startOf 16 = .ok (.lload 6, 2) := by decide +kernel
theorem dX8_startOf_18 : decode cX8_startOf 18 = .ok (.lload 6, 2) := by decide +kernel
theorem dX8_startOf_20 : decode cX8_startOf 20 = .ok (.bipush 29, 2) := by decide +kernel
theorem dX8_startOf_22 : decode cX8_startOf 22 = .ok (.lushr, 1) := by decide +kernel
theorem dX8_startOf_23 : decode cX8_startOf 23 = .ok (.lxor, 1) := by decide +kernel
theorem dX8_startOf_24 : decode cX8_startOf 24 = .ok (.ldc2_w 58, 3) := by decide +kernel
theorem dX8_startOf_27 : decode cX8_startOf 27 = .ok (.lmul, 1) := by decide +kernel
theorem dX8_startOf_28 : decode cX8_startOf 28 = .ok (.lstore 6, 2) := by decide +kernel
theorem dX8_startOf_30 : decode cX8_startOf 30 = .ok (.lload 6, 2) := by decide +kernel
theorem dX8_startOf_32 : decode cX8_startOf 32 = .ok (.lload 6, 2) := by decide +kernel
theorem dX8_startOf_34 : decode cX8_startOf 34 = .ok (.bipush 32, 2) := by decide +kernel
theorem dX8_startOf_36 : decode cX8_startOf 36 = .ok (.lushr, 1) := by decide +kernel
theorem dX8_startOf_37 : decode cX8_startOf 37 = .ok (.lxor, 1) := by decide +kernel
theorem dX8_startOf_38 : decode cX8_startOf 38 = .ok (.ldc2_w 58, 3) := by decide +kernel
theorem dX8_startOf_41 : decode cX8_startOf 41 = .ok (.lmul, 1) := by decide +kernel
theorem dX8_startOf_42 : decode cX8_startOf 42 = .ok (.lstore 6, 2) := by decide +kernel
theorem dX8_startOf_44 : decode cX8_startOf 44 = .ok (.lload 6, 2) := by decide +kernel
theorem dX8_startOf_46 : decode cX8_startOf 46 = .ok (.bipush 51, 2) := by decide +kernel
theorem dX8_startOf_48 : decode cX8_startOf 48 = .ok (.lushr, 1) := by decide +kernel
theorem dX8_startOf_49 : decode cX8_startOf 49 = .ok (.l2i, 1) := by decide +kernel
theorem dX8_startOf_50 : decode cX8_startOf 50 = .ok (.ireturn, 1) := by decide +kernel
theorem dX9_init_0 : decode cX9_init 0 = .ok (.aload_n 0, 1) := by decide +kernel
theorem dX9_init_1 : decode cX9_init 1 = .ok (.invokespecial 3, 3) := by decide +kernel
theorem dX9_init_4 : decode cX9_init 4 = .ok (.aload_n 0, 1) := by decide +kernel
theorem dX9_init_5 : decode cX9_init 5 = .ok (.aload_n 1, 1) := by decide +kernel
theorem dX9_init_6 : decode cX9_init 6 = .ok (.putfield 9, 3) := by decide +kernel
theorem dX9_init_9 : decode cX9_init 9 = .ok (.aload_n 0, 1) := by decide +kernel
theorem dX9_init_10 : decode cX9_init 10 = .ok (.bipush 20, 2) := by decide +kernel
theorem dX9_init_12 : decode cX9_init 12 = .ok (.newarray .int, 2) := by decide +kernel
theorem dX9_init_14 : decode cX9_init 14 = .ok (.putfield 15, 3) := by decide +kernel
theorem dX9_init_17 : decode cX9_init 17 = .ok (.aload_n 0, 1) := by decide +kernel
theorem dX9_init_18 : decode cX9_init 18 = .ok (.bipush 20, 2) := by decide +kernel
theorem dX9_init_20 : decode cX9_init 20 = .ok (.newarray .int, 2) := by decide +kernel
theorem dX9_init_22 : decode cX9_init 22 = .ok (.putfield 19, 3) := by decide +kernel
theorem dX9_init_25 : decode cX9_init 25 = .ok (.aload_n 0, 1) := by decide +kernel
theorem dX9_init_26 : decode cX9_init 26 = .ok (.bipush 20, 2) := by decide +kernel
theorem dX9_init_28 : decode cX9_init 28 = .ok (.newarray .int, 2) := by decide +kernel
theorem dX9_init_30 : decode cX9_init 30 = .ok (.putfield 22, 3) := by decide +kernel
theorem dX9_init_33 : decode cX9_init 33 = .ok (.aload_n 0, 1) := by decide +kernel
theorem dX9_init_34 : decode cX9_init 34 = .ok (.bipush 20, 2) := by decide +kernel
theorem dX9_init_36 : decode cX9_init 36 = .ok (.newarray .int, 2) := by decide +kernel
theorem dX9_init_38 : decode cX9_init 38 = .ok (.putfield 25, 3) := by decide +kernel
theorem dX9_init_41 : decode cX9_init 41 = .ok (.aload_n 0, 1) := by decide +kernel
theorem dX9_init_42 : decode cX9_init 42 = .ok (.bipush 20, 2) := by decide +kernel
theorem dX9_init_44 : decode cX9_init 44 = .ok (.newarray .int, 2) := by decide +kernel
theorem dX9_init_46 : decode cX9_init 46 = .ok (.putfield 28, 3) := by decide +kernel
theorem dX9_init_49 : decode cX9_init 49 = .ok (.aload_n 0, 1) := by decide +kernel
theorem dX9_init_50 : decode cX9_init 50 = .ok (.iconst 0, 1) := by decide +kernel
theorem dX9_init_51 : decode cX9_init 51 = .ok (.putfield 31, 3) := by decide +kernel
theorem dX9_init_54 : decode cX9_init 54 = .ok (.return_, 1) := by decide +kernel
theorem dX9_count_0 : decode cX9_count 0 = .ok (.aload_n 0, 1) := by decide +kernel
theorem dX9_count_1 : decode cX9_count 1 = .ok (.getfield 31, 3) := by decide +kernel
theorem dX9_count_4 : decode cX9_count 4 = .ok (.ireturn, 1) := by decide +kernel
theorem dX9_endOf_0 : decode cX9_endOf 0 = .ok (.aload_n 0, 1) := by decide +kernel
theorem dX9_endOf_1 : decode cX9_endOf 1 = .ok (.getfield 15, 3) := by decide +kernel
theorem dX9_endOf_4 : decode cX9_endOf 4 = .ok (.iload_n 1, 1) := by decide +kernel
theorem dX9_endOf_5 : decode cX9_endOf 5 = .ok (.iaload, 1) := by decide +kernel
theorem dX9_endOf_6 : decode cX9_endOf 6 = .ok (.ireturn, 1) := by decide +kernel
theorem dX9_eventOf_0 : decode cX9_eventOf 0 = .ok (.aload_n 0, 1) := by decide +kernel
theorem dX9_eventOf_1 : decode cX9_eventOf 1 = .ok (.getfield 19, 3) := by decide +kernel
theorem dX9_eventOf_4 : decode cX9_eventOf 4 = .ok (.iload_n 1, 1) := by decide +kernel
theorem dX9_eventOf_5 : decode cX9_eventOf 5 = .ok (.iaload, 1) := by decide +kernel
theorem dX9_eventOf_6 : decode cX9_eventOf 6 = .ok (.ireturn, 1) := by decide +kernel
theorem dX9_senderOf_0 : decode cX9_senderOf 0 = .ok (.aload_n 0, 1) := by decide +kernel
theorem dX9_senderOf_1 : decode cX9_senderOf 1 = .ok (.getfield 22, 3) := by decide +kernel
theorem dX9_senderOf_4 : decode cX9_senderOf 4 = .ok (.iload_n 1, 1) := by decide +kernel
theorem dX9_senderOf_5 : decode cX9_senderOf 5 = .ok (.iaload, 1) := by decide +kernel
theorem dX9_senderOf_6 : decode cX9_senderOf 6 = .ok (.ireturn, 1) := by decide +kernel
theorem dX9_letterOf_0 : decode cX9_letterOf 0 = .ok (.aload_n 0, 1) := by decide +kernel
theorem dX9_letterOf_1 : decode cX9_letterOf 1 = .ok (.getfield 25, 3) := by decide +kernel
theorem dX9_letterOf_4 : decode cX9_letterOf 4 = .ok (.iload_n 1, 1) := by decide +kernel
theorem dX9_letterOf_5 : decode cX9_letterOf 5 = .ok (.iaload, 1) := by decide +kernel
theorem dX9_letterOf_6 : decode cX9_letterOf 6 = .ok (.ireturn, 1) := by decide +kernel
theorem dX9_placeAt_0 : decode cX9_placeAt 0 = .ok (.aload_n 0, 1) := by decide +kernel
theorem dX9_placeAt_1 : decode cX9_placeAt 1 = .ok (.getfield 28, 3) := by decide +kernel
theorem dX9_placeAt_4 : decode cX9_placeAt 4 = .ok (.iload_n 1, 1) := by decide +kernel
theorem dX9_placeAt_5 : decode cX9_placeAt 5 = .ok (.iaload, 1) := by decide +kernel
theorem dX9_placeAt_6 : decode cX9_placeAt 6 = .ok (.ireturn, 1) := by decide +kernel
theorem dX9_list_0 : decode cX9_list 0 = .ok (.aload_n 0, 1) := by decide +kernel
theorem dX9_list_1 : decode cX9_list 1 = .ok (.iconst 0, 1) := by decide +kernel
theorem dX9_list_2 : decode cX9_list 2 = .ok (.putfield 31, 3) := by decide +kernel
theorem dX9_list_5 : decode cX9_list 5 = .ok (.iconst 0, 1) := by decide +kernel
theorem dX9_list_6 : decode cX9_list 6 = .ok (.istore_n 2, 1) := by decide +kernel
theorem dX9_list_7 : decode cX9_list 7 = .ok (.iload_n 2, 1) := by decide +kernel
theorem dX9_list_8 : decode cX9_list 8 = .ok (.aload_n 0, 1) := by decide +kernel
theorem dX9_list_9 : decode cX9_list 9 = .ok (.getfield 9, 3) := by decide +kernel
theorem dX9_list_12 : decode cX9_list 12 = .ok (.invokevirtual 35, 3) := by decide +kernel
theorem dX9_list_15 : decode cX9_list 15 = .ok (.if_icmp .ge 23, 3) := by decide +kernel
theorem dX9_list_18 : decode cX9_list 18 = .ok (.aload_n 1, 1) := by decide +kernel
theorem dX9_list_19 : decode cX9_list 19 = .ok (.iload_n 2, 1) := by decide +kernel
theorem dX9_list_20 : decode cX9_list 20 = .ok (.invokevirtual 41, 3) := by decide +kernel
theorem dX9_list_23 : decode cX9_list 23 = .ok (.ifCond .ne 9, 3) := by decide +kernel
theorem dX9_list_26 : decode cX9_list 26 = .ok (.aload_n 0, 1) := by decide +kernel
theorem dX9_list_27 : decode cX9_list 27 = .ok (.aload_n 1, 1) := by decide +kernel
theorem dX9_list_28 : decode cX9_list 28 = .ok (.iload_n 2, 1) := by decide +kernel
theorem dX9_list_29 : decode cX9_list 29 = .ok (.invokevirtual 47, 3) := by decide +kernel
theorem dX9_list_32 : decode cX9_list 32 = .ok (.iinc 2 1, 3) := by decide +kernel
theorem dX9_list_35 : decode cX9_list 35 = .ok (.goto (-28), 3) := by decide +kernel
theorem dX9_list_38 : decode cX9_list 38 = .ok (.iconst 0, 1) := by decide +kernel
theorem dX9_list_39 : decode cX9_list 39 = .ok (.istore_n 2, 1) := by decide +kernel
theorem dX9_list_40 : decode cX9_list 40 = .ok (.iload_n 2, 1) := by decide +kernel
theorem dX9_list_41 : decode cX9_list 41 = .ok (.aload_n 1, 1) := by decide +kernel
theorem dX9_list_42 : decode cX9_list 42 = .ok (.invokevirtual 51, 3) := by decide +kernel
theorem dX9_list_45 : decode cX9_list 45 = .ok (.if_icmp .ge 23, 3) := by decide +kernel
theorem dX9_list_48 : decode cX9_list 48 = .ok (.aload_n 1, 1) := by decide +kernel
theorem dX9_list_49 : decode cX9_list 49 = .ok (.iload_n 2, 1) := by decide +kernel
theorem dX9_list_50 : decode cX9_list 50 = .ok (.invokevirtual 54, 3) := by decide +kernel
theorem dX9_list_53 : decode cX9_list 53 = .ok (.ifCond .ne 9, 3) := by decide +kernel
theorem dX9_list_56 : decode cX9_list 56 = .ok (.aload_n 0, 1) := by decide +kernel
theorem dX9_list_57 : decode cX9_list 57 = .ok (.aload_n 1, 1) := by decide +kernel
theorem dX9_list_58 : decode cX9_list 58 = .ok (.iload_n 2, 1) := by decide +kernel
theorem dX9_list_59 : decode cX9_list 59 = .ok (.invokevirtual 58, 3) := by decide +kernel
theorem dX9_list_62 : decode cX9_list 62 = .ok (.iinc 2 1, 3) := by decide +kernel
theorem dX9_list_65 : decode cX9_list 65 = .ok (.goto (-25), 3) := by decide +kernel
theorem dX9_list_68 : decode cX9_list 68 = .ok (.return_, 1) := by decide +kernel
theorem dX9_listOwn_0 : decode cX9_listOwn 0 = .ok (.aload_n 1, 1) := by decide +kernel
theorem dX9_listOwn_1 : decode cX9_listOwn 1 = .ok (.iload_n 2, 1) := by decide +kernel
theorem dX9_listOwn_2 : decode cX9_listOwn 2 = .ok (.invokevirtual 61, 3) := by decide +kernel
theorem dX9_listOwn_5 : decode cX9_listOwn 5 = .ok (.istore_n 3, 1) := by decide +kernel
theorem dX9_listOwn_6 : decode cX9_listOwn 6 = .ok (.iconst 0, 1) := by decide +kernel
theorem dX9_listOwn_7 : decode cX9_listOwn 7 = .ok (.istore 4, 2) := by decide +kernel
theorem dX9_listOwn_9 : decode cX9_listOwn 9 = .ok (.iload 4, 2) := by decide +kernel
theorem dX9_listOwn_11 : decode cX9_listOwn 11 = .ok (.iconst 3, 1) := by decide +kernel
theorem dX9_listOwn_12 : decode cX9_listOwn 12 = .ok (.if_icmp .ge 56, 3) := by decide +kernel
theorem dX9_listOwn_15 : decode cX9_listOwn 15 = .ok (.aload_n 0, 1) := by decide +kernel
theorem dX9_listOwn_16 : decode cX9_listOwn 16 = .ok (.getfield 9, 3) := by decide +kernel
theorem dX9_listOwn_19 : decode cX9_listOwn 19 = .ok (.iload_n 3, 1) := by decide +kernel
theorem dX9_listOwn_20 : decode cX9_listOwn 20 = .ok (.iload 4, 2) := by decide +kernel
theorem dX9_listOwn_22 : decode cX9_listOwn 22 = .ok (.invokevirtual 64, 3) := by decide +kernel
theorem dX9_listOwn_25 : decode cX9_listOwn 25 = .ok (.istore 5, 2) := by decide +kernel
theorem dX9_listOwn_27 : decode cX9_listOwn 27 = .ok (.aload_n 0, 1) := by decide +kernel
theorem dX9_listOwn_28 : decode cX9_listOwn 28 = .ok (.getfield 9, 3) := by decide +kernel
theorem dX9_listOwn_31 : decode cX9_listOwn 31 = .ok (.iload 5, 2) := by decide +kernel
theorem dX9_listOwn_33 : decode cX9_listOwn 33 = .ok (.invokevirtual 68, 3) := by decide +kernel
theorem dX9_listOwn_36 : decode cX9_listOwn 36 = .ok (.ifCond .eq 26, 3) := by decide +kernel
theorem dX9_listOwn_39 : decode cX9_listOwn 39 = .ok (.aload_n 0, 1) := by decide +kernel
theorem dX9_listOwn_40 : decode cX9_listOwn 40 = .ok (.getfield 9, 3) := by decide +kernel
theorem dX9_listOwn_43 : decode cX9_listOwn 43 = .ok (.iload 5, 2) := by decide +kernel
theorem dX9_listOwn_45 : decode cX9_listOwn 45 = .ok (.invokevirtual 71, 3) := by decide +kernel
theorem dX9_listOwn_48 : decode cX9_listOwn 48 = .ok (.ifCond .ne 14, 3) := by decide +kernel
theorem dX9_listOwn_51 : decode cX9_listOwn 51 = .ok (.aload_n 0, 1) := by decide +kernel
theorem dX9_listOwn_52 : decode cX9_listOwn 52 = .ok (.iload_n 2, 1) := by decide +kernel
theorem dX9_listOwn_53 : decode cX9_listOwn 53 = .ok (.iload 4, 2) := by decide +kernel
theorem dX9_listOwn_55 : decode cX9_listOwn 55 = .ok (.iconst (-1), 1) := by decide +kernel
theorem dX9_listOwn_56 : decode cX9_listOwn 56 = .ok (.iconst (-1), 1) := by decide +kernel
theorem dX9_listOwn_57 : decode cX9_listOwn 57 = .ok (.iload 5, 2) := by decide +kernel
theorem dX9_listOwn_59 : decode cX9_listOwn 59 = .ok (.invokevirtual 74, 3) := by decide +kernel
theorem dX9_listOwn_62 : decode cX9_listOwn 62 = .ok (.iinc 4 1, 3) := by decide +kernel
theorem dX9_listOwn_65 : decode cX9_listOwn 65 = .ok (.goto (-56), 3) := by decide +kernel
theorem dX9_listOwn_68 : decode cX9_listOwn 68 = .ok (.return_, 1) := by decide +kernel
theorem dX9_listComing_0 : decode cX9_listComing 0 = .ok (.aload_n 1, 1) := by decide +kernel
theorem dX9_listComing_1 : decode cX9_listComing 1 = .ok (.iload_n 2, 1) := by decide +kernel
theorem dX9_listComing_2 : decode cX9_listComing 2 = .ok (.invokevirtual 78, 3) := by decide +kernel
theorem dX9_listComing_5 : decode cX9_listComing 5 = .ok (.istore_n 3, 1) := by decide +kernel
theorem dX9_listComing_6 : decode cX9_listComing 6 = .ok (.aload_n 0, 1) := by decide +kernel
theorem dX9_listComing_7 : decode cX9_listComing 7 = .ok (.getfield 9, 3) := by decide +kernel
theorem dX9_listComing_10 : decode cX9_listComing 10 = .ok (.aload_n 1, 1) := by decide +kernel
theorem dX9_listComing_11 : decode cX9_listComing 11 = .ok (.iload_n 3, 1) := by decide +kernel
theorem dX9_listComing_12 : decode cX9_listComing 12 = .ok (.invokevirtual 81, 3) := by decide +kernel
theorem dX9_listComing_15 : decode cX9_listComing 15 = .ok (.istore 4, 2) := by decide +kernel
theorem dX9_listComing_17 : decode cX9_listComing 17 = .ok (.aload_n 0, 1) := by decide +kernel
theorem dX9_listComing_18 : decode cX9_listComing 18 = .ok (.getfield 9, 3) := by decide +kernel
theorem dX9_listComing_21 : decode cX9_listComing 21 = .ok (.iload 4, 2) := by decide +kernel
theorem dX9_listComing_23 : decode cX9_listComing 23 = .ok (.invokevirtual 71, 3) := by decide +kernel
theorem dX9_listComing_26 : decode cX9_listComing 26 = .ok (.ifCond .ne 24, 3) := by decide +kernel
theorem dX9_listComing_29 : decode cX9_listComing 29 = .ok (.aload_n 0, 1) := by decide +kernel
theorem dX9_listComing_30 : decode cX9_listComing 30 = .ok (.iload_n 3, 1) := by decide +kernel
theorem dX9_listComing_31 : decode cX9_listComing 31 = .ok (.invokestatic 85, 3) := by decide +kernel
theorem dX9_listComing_34 : decode cX9_listComing 34 = .ok (.iconst 3, 1) := by decide +kernel
theorem dX9_listComing_35 : decode cX9_listComing 35 = .ok (.iload_n 3, 1) := by decide +kernel
theorem dX9_listComing_36 : decode cX9_listComing 36 = .ok (.invokestatic 90, 3) := by decide +kernel
theorem dX9_listComing_39 : decode cX9_listComing 39 = .ok (.iadd, 1) := by decide +kernel
theorem dX9_listComing_40 : decode cX9_listComing 40 = .ok (.iload_n 3, 1) := by decide +kernel
theorem dX9_listComing_41 : decode cX9_listComing 41 = .ok (.invokestatic 93, 3) := by decide +kernel
theorem dX9_listComing_44 : decode cX9_listComing 44 = .ok (.iload_n 2, 1) := by decide +kernel
theorem dX9_listComing_45 : decode cX9_listComing 45 = .ok (.iload 4, 2) := by decide +kernel
theorem dX9_listComing_47 : decode cX9_listComing 47 = .ok (.invokevirtual 74, 3) := by decide +kernel
theorem dX9_listComing_50 : decode cX9_listComing 50 = .ok (.return_, 1) := by decide +kernel
theorem dX9_add_0 : decode cX9_add 0 = .ok (.aload_n 0, 1) := by decide +kernel
theorem dX9_add_1 : decode cX9_add 1 = .ok (.getfield 31, 3) := by decide +kernel
theorem dX9_add_4 : decode cX9_add 4 = .ok (.bipush 20, 2) := by decide +kernel
theorem dX9_add_6 : decode cX9_add 6 = .ok (.if_icmp .lt 4, 3) := by decide +kernel
theorem dX9_add_9 : decode cX9_add 9 = .ok (.return_, 1) := by decide +kernel
theorem dX9_add_10 : decode cX9_add 10 = .ok (.aload_n 0, 1) := by decide +kernel
theorem dX9_add_11 : decode cX9_add 11 = .ok (.getfield 15, 3) := by decide +kernel
theorem dX9_add_14 : decode cX9_add 14 = .ok (.aload_n 0, 1) := by decide +kernel
theorem dX9_add_15 : decode cX9_add 15 = .ok (.getfield 31, 3) := by decide +kernel
theorem dX9_add_18 : decode cX9_add 18 = .ok (.iload_n 1, 1) := by decide +kernel
theorem dX9_add_19 : decode cX9_add 19 = .ok (.iastore, 1) := by decide +kernel
theorem dX9_add_20 : decode cX9_add 20 = .ok (.aload_n 0, 1) := by decide +kernel
theorem dX9_add_21 : decode cX9_add 21 = .ok (.getfield 19, 3) := by decide +kernel
theorem dX9_add_24 : decode cX9_add 24 = .ok (.aload_n 0, 1) := by decide +kernel
theorem dX9_add_25 : decode cX9_add 25 = .ok (.getfield 31, 3) := by decide +kernel
theorem dX9_add_28 : decode cX9_add 28 = .ok (.iload_n 2, 1) := by decide +kernel
theorem dX9_add_29 : decode cX9_add 29 = .ok (.iastore, 1) := by decide +kernel
theorem dX9_add_30 : decode cX9_add 30 = .ok (.aload_n 0, 1) := by decide +kernel
theorem dX9_add_31 : decode cX9_add 31 = .ok (.getfield 22, 3) := by decide +kernel
theorem dX9_add_34 : decode cX9_add 34 = .ok (.aload_n 0, 1) := by decide +kernel
theorem dX9_add_35 : decode cX9_add 35 = .ok (.getfield 31, 3) := by decide +kernel
theorem dX9_add_38 : decode cX9_add 38 = .ok (.iload_n 3, 1) := by decide +kernel
theorem dX9_add_39 : decode cX9_add 39 = .ok (.iastore, 1) := by decide +kernel
theorem dX9_add_40 : decode cX9_add 40 = .ok (.aload_n 0, 1) := by decide +kernel
theorem dX9_add_41 : decode cX9_add 41 = .ok (.getfield 25, 3) := by decide +kernel
theorem dX9_add_44 : decode cX9_add 44 = .ok (.aload_n 0, 1) := by decide +kernel
theorem dX9_add_45 : decode cX9_add 45 = .ok (.getfield 31, 3) := by decide +kernel
theorem dX9_add_48 : decode cX9_add 48 = .ok (.iload 4, 2) := by decide +kernel
theorem dX9_add_50 : decode cX9_add 50 = .ok (.iastore, 1) := by decide +kernel
theorem dX9_add_51 : decode cX9_add 51 = .ok (.aload_n 0, 1) := by decide +kernel
theorem dX9_add_52 : decode cX9_add 52 = .ok (.getfield 28, 3) := by decide +kernel
theorem dX9_add_55 : decode cX9_add 55 = .ok (.aload_n 0, 1) := by decide +kernel
theorem dX9_add_56 : decode cX9_add 56 = .ok (.getfield 31, 3) := by decide +kernel
theorem dX9_add_59 : decode cX9_add 59 = .ok (.iload 5, 2) := by decide +kernel
theorem dX9_add_61 : decode cX9_add 61 = .ok (.iastore, 1) := by decide +kernel
theorem dX9_add_62 : decode cX9_add 62 = .ok (.aload_n 0, 1) := by decide +kernel
theorem dX9_add_63 : decode cX9_add 63 = .ok (.dup, 1) := by decide +kernel
theorem dX9_add_64 : decode cX9_add 64 = .ok (.getfield 31, 3) := by decide +kernel
theorem dX9_add_67 : decode cX9_add 67 = .ok (.iconst 1, 1) := by decide +kernel
theorem dX9_add_68 : decode cX9_add 68 = .ok (.iadd, 1) := by decide +kernel
theorem dX9_add_69 : decode cX9_add 69 = .ok (.putfield 31, 3) := by decide +kernel
theorem dX9_add_72 : decode cX9_add 72 = .ok (.return_, 1) := by decide +kernel
theorem dX10_init_0 : decode cX10_init 0 = .ok (.aload_n 0, 1) := by decide +kernel
theorem dX10_init_1 : decode cX10_init 1 = .ok (.invokespecial 3, 3) := by decide +kernel
theorem dX10_init_4 : decode cX10_init 4 = .ok (.aload_n 0, 1) := by decide +kernel
theorem dX10_init_5 : decode cX10_init 5 = .ok (.new 9, 3) := by decide +kernel
theorem dX10_init_8 : decode cX10_init 8 = .ok (.dup, 1) := by decide +kernel
theorem dX10_init_9 : decode cX10_init 9 = .ok (.invokespecial 11, 3) := by decide +kernel
theorem dX10_init_12 : decode cX10_init 12 = .ok (.putfield 12, 3) := by decide +kernel
theorem dX10_init_15 : decode cX10_init 15 = .ok (.aload_n 0, 1) := by decide +kernel
theorem dX10_init_16 : decode cX10_init 16 = .ok (.new 16, 3) := by decide +kernel
theorem dX10_init_19 : decode cX10_init 19 = .ok (.dup, 1) := by decide +kernel
theorem dX10_init_20 : decode cX10_init 20 = .ok (.aload_n 0, 1) := by decide +kernel
theorem dX10_init_21 : decode cX10_init 21 = .ok (.getfield 12, 3) := by decide +kernel
theorem dX10_init_24 : decode cX10_init 24 = .ok (.invokespecial 18, 3) := by decide +kernel
theorem dX10_init_27 : decode cX10_init 27 = .ok (.putfield 21, 3) := by decide +kernel
theorem dX10_init_30 : decode cX10_init 30 = .ok (.aload_n 0, 1) := by decide +kernel
theorem dX10_init_31 : decode cX10_init 31 = .ok (.new 25, 3) := by decide +kernel
theorem dX10_init_34 : decode cX10_init 34 = .ok (.dup, 1) := by decide +kernel
theorem dX10_init_35 : decode cX10_init 35 = .ok (.invokespecial 27, 3) := by decide +kernel
theorem dX10_init_38 : decode cX10_init 38 = .ok (.putfield 28, 3) := by decide +kernel
theorem dX10_init_41 : decode cX10_init 41 = .ok (.aload_n 0, 1) := by decide +kernel
theorem dX10_init_42 : decode cX10_init 42 = .ok (.new 25, 3) := by decide +kernel
theorem dX10_init_45 : decode cX10_init 45 = .ok (.dup, 1) := by decide +kernel
theorem dX10_init_46 : decode cX10_init 46 = .ok (.invokespecial 27, 3) := by decide +kernel
theorem dX10_init_49 : decode cX10_init 49 = .ok (.putfield 32, 3) := by decide +kernel
theorem dX10_init_52 : decode cX10_init 52 = .ok (.aload_n 0, 1) := by decide +kernel
theorem dX10_init_53 : decode cX10_init 53 = .ok (.new 35, 3) := by decide +kernel
theorem dX10_init_56 : decode cX10_init 56 = .ok (.dup, 1) := by decide +kernel
theorem dX10_init_57 : decode cX10_init 57 = .ok (.aload_n 0, 1) := by decide +kernel
theorem dX10_init_58 : decode cX10_init 58 = .ok (.getfield 12, 3) := by decide +kernel
theorem dX10_init_61 : decode cX10_init 61 = .ok (.invokespecial 37, 3) := by decide +kernel
theorem dX10_init_64 : decode cX10_init 64 = .ok (.putfield 38, 3) := by decide +kernel
theorem dX10_init_67 : decode cX10_init 67 = .ok (.aload_n 0, 1) := by decide +kernel
theorem dX10_init_68 : decode cX10_init 68 = .ok (.new 42, 3) := by decide +kernel
theorem dX10_init_71 : decode cX10_init 71 = .ok (.dup, 1) := by decide +kernel
theorem dX10_init_72 : decode cX10_init 72 = .ok (.aload_n 0, 1) := by decide +kernel
theorem dX10_init_73 : decode cX10_init 73 = .ok (.getfield 12, 3) := by decide +kernel
theorem dX10_init_76 : decode cX10_init 76 = .ok (.aload_n 0, 1) := by decide +kernel
theorem dX10_init_77 : decode cX10_init 77 = .ok (.getfield 21, 3) := by decide +kernel
theorem dX10_init_80 : decode cX10_init 80 = .ok (.invokespecial 44, 3) := by decide +kernel
theorem dX10_init_83 : decode cX10_init 83 = .ok (.putfield 47, 3) := by decide +kernel
theorem dX10_init_86 : decode cX10_init 86 = .ok (.aload_n 0, 1) := by decide +kernel
theorem dX10_init_87 : decode cX10_init 87 = .ok (.iconst 0, 1) := by decide +kernel
theorem dX10_init_88 : decode cX10_init 88 = .ok (.putfield 51, 3) := by decide +kernel
theorem dX10_init_91 : decode cX10_init 91 = .ok (.aload_n 0, 1) := by decide +kernel
theorem dX10_init_92 : decode cX10_init 92 = .ok (.getfield 28, 3) := by decide +kernel
theorem dX10_init_95 : decode cX10_init 95 = .ok (.aload_n 0, 1) := by decide +kernel
theorem dX10_init_96 : decode cX10_init 96 = .ok (.getfield 12, 3) := by decide +kernel
theorem dX10_init_99 : decode cX10_init 99 = .ok (.invokevirtual 55, 3) := by decide +kernel
theorem dX10_init_102 : decode cX10_init 102 = .ok (.invokevirtual 59, 3) := by decide +kernel
theorem dX10_init_105 : decode cX10_init 105 = .ok (.return_, 1) := by decide +kernel
theorem dX10_processors_0 : decode cX10_processors 0 = .ok (.iload_n 1, 1) := by decide +kernel
theorem dX10_processors_1 : decode cX10_processors 1 = .ok (.iconst 1, 1) := by decide +kernel
theorem dX10_processors_2 : decode cX10_processors 2 = .ok (.if_icmp .lt 8, 3) := by decide +kernel
theorem dX10_processors_5 : decode cX10_processors 5 = .ok (.iload_n 1, 1) := by decide +kernel
theorem dX10_processors_6 : decode cX10_processors 6 = .ok (.iconst 4, 1) := by decide +kernel
theorem dX10_processors_7 : decode cX10_processors 7 = .ok (.if_icmp .le 5, 3) := by decide +kernel
theorem dX10_processors_10 : decode cX10_processors 10 = .ok (.iconst (-1), 1) := by decide +kernel
theorem dX10_processors_11 : decode cX10_processors 11 = .ok (.ireturn, 1) := by decide +kernel
theorem dX10_processors_12 : decode cX10_processors 12 = .ok (.aload_n 0, 1) := by decide +kernel
theorem dX10_processors_13 : decode cX10_processors 13 = .ok (.getfield 12, 3) := by decide +kernel
theorem dX10_processors_16 : decode cX10_processors 16 = .ok (.iload_n 1, 1) := by decide +kernel
theorem dX10_processors_17 : decode cX10_processors 17 = .ok (.invokevirtual 63, 3) := by decide +kernel
theorem dX10_processors_20 : decode cX10_processors 20 = .ok (.istore_n 2, 1) := by decide +kernel
theorem dX10_processors_21 : decode cX10_processors 21 = .ok (.aload_n 0, 1) := by decide +kernel
theorem dX10_processors_22 : decode cX10_processors 22 = .ok (.invokevirtual 67, 3) := by decide +kernel
theorem dX10_processors_25 : decode cX10_processors 25 = .ok (.iload_n 2, 1) := by decide +kernel
theorem dX10_processors_26 : decode cX10_processors 26 = .ok (.ireturn, 1) := by decide +kernel
theorem dX10_net_0 : decode cX10_net 0 = .ok (.iload_n 1, 1) := by decide +kernel
theorem dX10_net_1 : decode cX10_net 1 = .ok (.ifCond .lt 18, 3) := by decide +kernel
theorem dX10_net_4 : decode cX10_net 4 = .ok (.iload_n 1, 1) := by decide +kernel
theorem dX10_net_5 : decode cX10_net 5 = .ok (.bipush 16, 2) := by decide +kernel
theorem dX10_net_7 : decode cX10_net 7 = .ok (.if_icmp .ge 12, 3) := by decide +kernel
theorem dX10_net_10 : decode cX10_net 10 = .ok (.iload_n 2, 1) := by decide +kernel
theorem dX10_net_11 : decode cX10_net 11 = .ok (.ifCond .lt 8, 3) := by decide +kernel
theorem dX10_net_14 : decode cX10_net 14 = .ok (.iload_n 2, 1) := by decide +kernel
theorem dX10_net_15 : decode cX10_net 15 = .ok (.iconst 1, 1) := by decide +kernel
theorem dX10_net_16 : decode cX10_net 16 = .ok (.if_icmp .le 5, 3) := by decide +kernel
theorem dX10_net_19 : decode cX10_net 19 = .ok (.iconst (-1), 1) := by decide +kernel
theorem dX10_net_20 : decode cX10_net 20 = .ok (.ireturn, 1) := by decide +kernel
theorem dX10_net_21 : decode cX10_net 21 = .ok (.aload_n 0, 1) := by decide +kernel
theorem dX10_net_22 : decode cX10_net 22 = .ok (.getfield 12, 3) := by decide +kernel
theorem dX10_net_25 : decode cX10_net 25 = .ok (.iload_n 1, 1) := by decide +kernel
theorem dX10_net_26 : decode cX10_net 26 = .ok (.iload_n 2, 1) := by decide +kernel
theorem dX10_net_27 : decode cX10_net 27 = .ok (.invokevirtual 70, 3) := by decide +kernel
theorem dX10_net_30 : decode cX10_net 30 = .ok (.istore_n 3, 1) := by decide +kernel
theorem dX10_net_31 : decode cX10_net 31 = .ok (.aload_n 0, 1) := by decide +kernel
theorem dX10_net_32 : decode cX10_net 32 = .ok (.invokevirtual 67, 3) := by decide +kernel
theorem dX10_net_35 : decode cX10_net 35 = .ok (.iload_n 3, 1) := by decide +kernel
theorem dX10_net_36 : decode cX10_net 36 = .ok (.ireturn, 1) := by decide +kernel
theorem dX10_right_0 : decode cX10_right 0 = .ok (.iload_n 1, 1) := by decide +kernel
theorem dX10_right_1 : decode cX10_right 1 = .ok (.ifCond .lt 18, 3) := by decide +kernel
theorem dX10_right_4 : decode cX10_right 4 = .ok (.iload_n 1, 1) := by decide +kernel
theorem dX10_right_5 : decode cX10_right 5 = .ok (.bipush 16, 2) := by decide +kernel
theorem dX10_right_7 : decode cX10_right 7 = .ok (.if_icmp .ge 12, 3) := by decide +kernel
theorem dX10_right_10 : decode cX10_right 10 = .ok (.iload_n 2, 1) := by decide +kernel
theorem dX10_right_11 : decode cX10_right 11 = .ok (.ifCond .lt 8, 3) := by decide +kernel
theorem dX10_right_14 : decode cX10_right 14 = .ok (.iload_n 2, 1) := by decide +kernel
theorem dX10_right_15 : decode cX10_right 15 = .ok (.iconst 2, 1) := by decide +kernel
theorem dX10_right_16 : decode cX10_right 16 = .ok (.if_icmp .le 5, 3) := by decide +kernel
theorem dX10_right_19 : decode cX10_right 19 = .ok (.iconst (-1), 1) := by decide +kernel
theorem dX10_right_20 : decode cX10_right 20 = .ok (.ireturn, 1) := by decide +kernel
theorem dX10_right_21 : decode cX10_right 21 = .ok (.aload_n 0, 1) := by decide +kernel
theorem dX10_right_22 : decode cX10_right 22 = .ok (.getfield 12, 3) := by decide +kernel
theorem dX10_right_25 : decode cX10_right 25 = .ok (.iload_n 1, 1) := by decide +kernel
theorem dX10_right_26 : decode cX10_right 26 = .ok (.iload_n 2, 1) := by decide +kernel
theorem dX10_right_27 : decode cX10_right 27 = .ok (.invokevirtual 74, 3) := by decide +kernel
theorem dX10_right_30 : decode cX10_right 30 = .ok (.istore_n 3, 1) := by decide +kernel
theorem dX10_right_31 : decode cX10_right 31 = .ok (.aload_n 0, 1) := by decide +kernel
theorem dX10_right_32 : decode cX10_right 32 = .ok (.invokevirtual 67, 3) := by decide +kernel
theorem dX10_right_35 : decode cX10_right 35 = .ok (.iload_n 3, 1) := by decide +kernel
theorem dX10_right_36 : decode cX10_right 36 = .ok (.ireturn, 1) := by decide +kernel
theorem dX10_row_0 : decode cX10_row 0 = .ok (.iload_n 1, 1) := by decide +kernel
theorem dX10_row_1 : decode cX10_row 1 = .ok (.invokestatic 77, 3) := by decide +kernel
theorem dX10_row_4 : decode cX10_row 4 = .ok (.istore 4, 2) := by decide +kernel
theorem dX10_row_6 : decode cX10_row 6 = .ok (.iload_n 1, 1) := by decide +kernel
theorem dX10_row_7 : decode cX10_row 7 = .ok (.bipush 15, 2) := by decide +kernel
theorem dX10_row_9 : decode cX10_row 9 = .ok (.iand, 1) := by decide +kernel
theorem dX10_row_10 : decode cX10_row 10 = .ok (.istore 5, 2) := by decide +kernel
theorem dX10_row_12 : decode cX10_row 12 = .ok (.iload 4, 2) := by decide +kernel
theorem dX10_row_14 : decode cX10_row 14 = .ok (.iconst (-1), 1) := by decide +kernel
theorem dX10_row_15 : decode cX10_row 15 = .ok (.if_icmp .eq 10, 3) := by decide +kernel
theorem dX10_row_18 : decode cX10_row 18 = .ok (.iload 5, 2) := by decide +kernel
theorem dX10_row_20 : decode cX10_row 20 = .ok (.bipush 8, 2) := by decide +kernel
theorem dX10_row_22 : decode cX10_row 22 = .ok (.if_icmp .le 5, 3) := by decide +kernel
theorem dX10_row_25 : decode cX10_row 25 = .ok (.iconst (-1), 1) := by decide +kernel
theorem dX10_row_26 : decode cX10_row 26 = .ok (.ireturn, 1) := by decide +kernel
theorem dX10_row_27 : decode cX10_row 27 = .ok (.aload_n 0, 1) := by decide +kernel
theorem dX10_row_28 : decode cX10_row 28 = .ok (.getfield 12, 3) := by decide +kernel
theorem dX10_row_31 : decode cX10_row 31 = .ok (.iload 4, 2) := by decide +kernel
theorem dX10_row_33 : decode cX10_row 33 = .ok (.iload 5, 2) := by decide +kernel
theorem dX10_row_35 : decode cX10_row 35 = .ok (.iload_n 2, 1) := by decide +kernel
theorem dX10_row_36 : decode cX10_row 36 = .ok (.iload_n 3, 1) := by decide +kernel
theorem dX10_row_37 : decode cX10_row 37 = .ok (.invokevirtual 80, 3) := by decide +kernel
theorem dX10_row_40 : decode cX10_row 40 = .ok (.istore 6, 2) := by decide +kernel
theorem dX10_row_42 : decode cX10_row 42 = .ok (.aload_n 0, 1) := by decide +kernel
theorem dX10_row_43 : decode cX10_row 43 = .ok (.invokevirtual 67, 3) := by decide +kernel
theorem dX10_row_46 : decode cX10_row 46 = .ok (.iload 6, 2) := by decide +kernel
theorem dX10_row_48 : decode cX10_row 48 = .ok (.ireturn, 1) := by decide +kernel
theorem dX10_tear_0 : decode cX10_tear 0 = .ok (.iload_n 1, 1) := by decide +kernel
theorem dX10_tear_1 : decode cX10_tear 1 = .ok (.invokestatic 77, 3) := by decide +kernel
theorem dX10_tear_4 : decode cX10_tear 4 = .ok (.istore_n 2, 1) := by decide +kernel
theorem dX10_tear_5 : decode cX10_tear 5 = .ok (.iload_n 2, 1) := by decide +kernel
theorem dX10_tear_6 : decode cX10_tear 6 = .ok (.iconst (-1), 1) := by decide +kernel
theorem dX10_tear_7 : decode cX10_tear 7 = .ok (.if_icmp .ne 5, 3) := by decide +kernel
theorem dX10_tear_10 : decode cX10_tear 10 = .ok (.iconst (-1), 1) := by decide +kernel
theorem dX10_tear_11 : decode cX10_tear 11 = .ok (.ireturn, 1) := by decide +kernel
theorem dX10_tear_12 : decode cX10_tear 12 = .ok (.aload_n 0, 1) := by decide +kernel
theorem dX10_tear_13 : decode cX10_tear 13 = .ok (.getfield 12, 3) := by decide +kernel
theorem dX10_tear_16 : decode cX10_tear 16 = .ok (.iload_n 2, 1) := by decide +kernel
theorem dX10_tear_17 : decode cX10_tear 17 = .ok (.invokevirtual 84, 3) := by decide +kernel
theorem dX10_tear_20 : decode cX10_tear 20 = .ok (.istore_n 3, 1) := by decide +kernel
theorem dX10_tear_21 : decode cX10_tear 21 = .ok (.aload_n 0, 1) := by decide +kernel
theorem dX10_tear_22 : decode cX10_tear 22 = .ok (.invokevirtual 67, 3) := by decide +kernel
theorem dX10_tear_25 : decode cX10_tear 25 = .ok (.iload_n 3, 1) := by decide +kernel
theorem dX10_tear_26 : decode cX10_tear 26 = .ok (.ireturn, 1) := by decide +kernel
theorem dX10_rows_0 : decode cX10_rows 0 = .ok (.iload_n 1, 1) := by decide +kernel
theorem dX10_rows_1 : decode cX10_rows 1 = .ok (.ifCond .lt 8, 3) := by decide +kernel
theorem dX10_rows_4 : decode cX10_rows 4 = .ok (.iload_n 1, 1) := by decide +kernel
theorem dX10_rows_5 : decode cX10_rows 5 = .ok (.iconst 2, 1) := by decide +kernel
theorem dX10_rows_6 : decode cX10_rows 6 = .ok (.if_icmp .lt 5, 3) := by decide +kernel
theorem dX10_rows_9 : decode cX10_rows 9 = .ok (.iconst (-1), 1) := by decide +kernel
theorem dX10_rows_10 : decode cX10_rows 10 = .ok (.ireturn, 1) := by decide +kernel
theorem dX10_rows_11 : decode cX10_rows 11 = .ok (.aload_n 0, 1) := by decide +kernel
theorem dX10_rows_12 : decode cX10_rows 12 = .ok (.getfield 12, 3) := by decide +kernel
theorem dX10_rows_15 : decode cX10_rows 15 = .ok (.iload_n 1, 1) := by decide +kernel
theorem dX10_rows_16 : decode cX10_rows 16 = .ok (.invokevirtual 87, 3) := by decide +kernel
theorem dX10_rows_19 : decode cX10_rows 19 = .ok (.ireturn, 1) := by decide +kernel
theorem dX10_reset_0 : decode cX10_reset 0 = .ok (.aload_n 0, 1) := by decide +kernel
theorem dX10_reset_1 : decode cX10_reset 1 = .ok (.getfield 28, 3) := by decide +kernel
theorem dX10_reset_4 : decode cX10_reset 4 = .ok (.aload_n 0, 1) := by decide +kernel
theorem dX10_reset_5 : decode cX10_reset 5 = .ok (.getfield 12, 3) := by decide +kernel
theorem dX10_reset_8 : decode cX10_reset 8 = .ok (.invokevirtual 55, 3) := by decide +kernel
theorem dX10_reset_11 : decode cX10_reset 11 = .ok (.invokevirtual 59, 3) := by decide +kernel
theorem dX10_reset_14 : decode cX10_reset 14 = .ok (.aload_n 0, 1) := by decide +kernel
theorem dX10_reset_15 : decode cX10_reset 15 = .ok (.invokevirtual 90, 3) := by decide +kernel
theorem dX10_reset_18 : decode cX10_reset 18 = .ok (.ireturn, 1) := by decide +kernel
theorem dX10_steps_0 : decode cX10_steps 0 = .ok (.aload_n 0, 1) := by decide +kernel
theorem dX10_steps_1 : decode cX10_steps 1 = .ok (.invokevirtual 90, 3) := by decide +kernel
theorem dX10_steps_4 : decode cX10_steps 4 = .ok (.ireturn, 1) := by decide +kernel
theorem dX10_step_0 : decode cX10_step 0 = .ok (.iload_n 1, 1) := by decide +kernel
theorem dX10_step_1 : decode cX10_step 1 = .ok (.ifCond .lt 11, 3) := by decide +kernel
theorem dX10_step_4 : decode cX10_step 4 = .ok (.iload_n 1, 1) := by decide +kernel
theorem dX10_step_5 : decode cX10_step 5 = .ok (.aload_n 0, 1) := by decide +kernel
theorem dX10_step_6 : decode cX10_step 6 = .ok (.invokevirtual 90, 3) := by decide +kernel
theorem dX10_step_9 : decode cX10_step 9 = .ok (.if_icmp .lt 5, 3) := by decide +kernel
theorem dX10_step_12 : decode cX10_step 12 = .ok (.iconst (-1), 1) := by decide +kernel
theorem dX10_step_13 : decode cX10_step 13 = .ok (.ireturn, 1) := by decide +kernel
theorem dX10_step_14 : decode cX10_step 14 = .ok (.iload_n 2, 1) := by decide +kernel
theorem dX10_step_15 : decode cX10_step 15 = .ok (.tableswitch 52 0 2 #[25, 34, 43], 25) := by decide +kernel
theorem dX10_step_40 : decode cX10_step 40 = .ok (.aload_n 0, 1) := by decide +kernel
theorem dX10_step_41 : decode cX10_step 41 = .ok (.getfield 38, 3) := by decide +kernel
theorem dX10_step_44 : decode cX10_step 44 = .ok (.iload_n 1, 1) := by decide +kernel
theorem dX10_step_45 : decode cX10_step 45 = .ok (.invokevirtual 93, 3) := by decide +kernel
theorem dX10_step_48 : decode cX10_step 48 = .ok (.ireturn, 1) := by decide +kernel
theorem dX10_step_49 : decode cX10_step 49 = .ok (.aload_n 0, 1) := by decide +kernel
theorem dX10_step_50 : decode cX10_step 50 = .ok (.getfield 38, 3) := by decide +kernel
theorem dX10_step_53 : decode cX10_step 53 = .ok (.iload_n 1, 1) := by decide +kernel
theorem dX10_step_54 : decode cX10_step 54 = .ok (.invokevirtual 96, 3) := by decide +kernel
theorem dX10_step_57 : decode cX10_step 57 = .ok (.ireturn, 1) := by decide +kernel
theorem dX10_step_58 : decode cX10_step 58 = .ok (.aload_n 0, 1) := by decide +kernel
theorem dX10_step_59 : decode cX10_step 59 = .ok (.getfield 38, 3) := by decide +kernel
theorem dX10_step_62 : decode cX10_step 62 = .ok (.iload_n 1, 1) := by decide +kernel
theorem dX10_step_63 : decode cX10_step 63 = .ok (.invokevirtual 99, 3) := by decide +kernel
theorem dX10_step_66 : decode cX10_step 66 = .ok (.ireturn, 1) := by decide +kernel
theorem dX10_step_67 : decode cX10_step 67 = .ok (.iconst (-1), 1) := by decide +kernel
theorem dX10_step_68 : decode cX10_step 68 = .ok (.ireturn, 1) := by decide +kernel
theorem dX10_choose_0 : decode cX10_choose 0 = .ok (.iload_n 1, 1) := by decide +kernel
theorem dX10_choose_1 : decode cX10_choose 1 = .ok (.ifCond .lt 11, 3) := by decide +kernel
theorem dX10_choose_4 : decode cX10_choose 4 = .ok (.iload_n 1, 1) := by decide +kernel
theorem dX10_choose_5 : decode cX10_choose 5 = .ok (.aload_n 0, 1) := by decide +kernel
theorem dX10_choose_6 : decode cX10_choose 6 = .ok (.invokevirtual 90, 3) := by decide +kernel
theorem dX10_choose_9 : decode cX10_choose 9 = .ok (.if_icmp .lt 5, 3) := by decide +kernel
theorem dX10_choose_12 : decode cX10_choose 12 = .ok (.iconst (-1), 1) := by decide +kernel
theorem dX10_choose_13 : decode cX10_choose 13 = .ok (.ireturn, 1) := by decide +kernel
theorem dX10_choose_14 : decode cX10_choose 14 = .ok (.aload_n 0, 1) := by decide +kernel
theorem dX10_choose_15 : decode cX10_choose 15 = .ok (.getfield 32, 3) := by decide +kernel
theorem dX10_choose_18 : decode cX10_choose 18 = .ok (.aload_n 0, 1) := by decide +kernel
theorem dX10_choose_19 : decode cX10_choose 19 = .ok (.getfield 28, 3) := by decide +kernel
theorem dX10_choose_22 : decode cX10_choose 22 = .ok (.invokevirtual 102, 3) := by decide +kernel
theorem dX10_choose_25 : decode cX10_choose 25 = .ok (.aload_n 0, 1) := by decide +kernel
theorem dX10_choose_26 : decode cX10_choose 26 = .ok (.getfield 21, 3) := by decide +kernel
theorem dX10_choose_29 : decode cX10_choose 29 = .ok (.aload_n 0, 1) := by decide +kernel
theorem dX10_choose_30 : decode cX10_choose 30 = .ok (.getfield 32, 3) := by decide +kernel
theorem dX10_choose_33 : decode cX10_choose 33 = .ok (.aload_n 0, 1) := by decide +kernel
theorem dX10_choose_34 : decode cX10_choose 34 = .ok (.getfield 38, 3) := by decide +kernel
theorem dX10_choose_37 : decode cX10_choose 37 = .ok (.iload_n 1, 1) := by decide +kernel
theorem dX10_choose_38 : decode cX10_choose 38 = .ok (.invokevirtual 106, 3) := by decide +kernel
theorem dX10_choose_41 : decode cX10_choose 41 = .ok (.istore_n 2, 1) := by decide +kernel
theorem dX10_choose_42 : decode cX10_choose 42 = .ok (.iload_n 2, 1) := by decide +kernel
theorem dX10_choose_43 : decode cX10_choose 43 = .ok (.ifCond .ne 14, 3) := by decide +kernel
theorem dX10_choose_46 : decode cX10_choose 46 = .ok (.aload_n 0, 1) := by decide +kernel
theorem dX10_choose_47 : decode cX10_choose 47 = .ok (.getfield 28, 3) := by decide +kernel
theorem dX10_choose_50 : decode cX10_choose 50 = .ok (.aload_n 0, 1) := by decide +kernel
theorem dX10_choose_51 : decode cX10_choose 51 = .ok (.getfield 32, 3) := by decide +kernel
theorem dX10_choose_54 : decode cX10_choose 54 = .ok (.invokevirtual 102, 3) := by decide +kernel
theorem dX10_choose_57 : decode cX10_choose 57 = .ok (.iload_n 2, 1) := by decide +kernel
theorem dX10_choose_58 : decode cX10_choose 58 = .ok (.ireturn, 1) := by decide +kernel
theorem dX10_end_0 : decode cX10_end 0 = .ok (.aload_n 0, 1) := by decide +kernel
theorem dX10_end_1 : decode cX10_end 1 = .ok (.getfield 12, 3) := by decide +kernel
theorem dX10_end_4 : decode cX10_end 4 = .ok (.invokevirtual 55, 3) := by decide +kernel
theorem dX10_end_7 : decode cX10_end 7 = .ok (.istore_n 3, 1) := by decide +kernel
theorem dX10_end_8 : decode cX10_end 8 = .ok (.iload_n 1, 1) := by decide +kernel
theorem dX10_end_9 : decode cX10_end 9 = .ok (.ifCond .lt 8, 3) := by decide +kernel
theorem dX10_end_12 : decode cX10_end 12 = .ok (.iload_n 1, 1) := by decide +kernel
theorem dX10_end_13 : decode cX10_end 13 = .ok (.iload_n 3, 1) := by decide +kernel
theorem dX10_end_14 : decode cX10_end 14 = .ok (.if_icmp .le 5, 3) := by decide +kernel
theorem dX10_end_17 : decode cX10_end 17 = .ok (.iconst (-1), 1) := by decide +kernel
theorem dX10_end_18 : decode cX10_end 18 = .ok (.ireturn, 1) := by decide +kernel
theorem dX10_end_19 : decode cX10_end 19 = .ok (.iload_n 2, 1) := by decide +kernel
theorem dX10_end_20 : decode cX10_end 20 = .ok (.tableswitch 70 0 2 #[28, 37, 46], 28) := by decide +kernel
theorem dX10_end_48 : decode cX10_end 48 = .ok (.aload_n 0, 1) := by decide +kernel
theorem dX10_end_49 : decode cX10_end 49 = .ok (.getfield 28, 3) := by decide +kernel
theorem dX10_end_52 : decode cX10_end 52 = .ok (.iload_n 1, 1) := by decide +kernel
theorem dX10_end_53 : decode cX10_end 53 = .ok (.invokevirtual 110, 3) := by decide +kernel
theorem dX10_end_56 : decode cX10_end 56 = .ok (.ireturn, 1) := by decide +kernel
theorem dX10_end_57 : decode cX10_end 57 = .ok (.aload_n 0, 1) := by decide +kernel
theorem dX10_end_58 : decode cX10_end 58 = .ok (.getfield 28, 3) := by decide +kernel
theorem dX10_end_61 : decode cX10_end 61 = .ok (.iload_n 1, 1) := by decide +kernel
theorem dX10_end_62 : decode cX10_end 62 = .ok (.invokevirtual 113, 3) := by decide +kernel
theorem dX10_end_65 : decode cX10_end 65 = .ok (.ireturn, 1) := by decide +kernel
theorem dX10_end_66 : decode cX10_end 66 = .ok (.iload_n 1, 1) := by decide +kernel
theorem dX10_end_67 : decode cX10_end 67 = .ok (.iload_n 3, 1) := by decide +kernel
theorem dX10_end_68 : decode cX10_end 68 = .ok (.if_icmp .ne 13, 3) := by decide +kernel
theorem dX10_end_71 : decode cX10_end 71 = .ok (.aload_n 0, 1) := by decide +kernel
theorem dX10_end_72 : decode cX10_end 72 = .ok (.getfield 28, 3) := by decide +kernel
theorem dX10_end_75 : decode cX10_end 75 = .ok (.invokevirtual 116, 3) := by decide +kernel
theorem dX10_end_78 : decode cX10_end 78 = .ok (.goto 11, 3) := by decide +kernel
theorem dX10_end_81 : decode cX10_end 81 = .ok (.aload_n 0, 1) := by decide +kernel
theorem dX10_end_82 : decode cX10_end 82 = .ok (.getfield 28, 3) := by decide +kernel
theorem dX10_end_85 : decode cX10_end 85 = .ok (.iload_n 1, 1) := by decide +kernel
theorem dX10_end_86 : decode cX10_end 86 = .ok (.invokevirtual 119, 3) := by decide +kernel
theorem dX10_end_89 : decode cX10_end 89 = .ok (.ireturn, 1) := by decide +kernel
theorem dX10_end_90 : decode cX10_end 90 = .ok (.iconst (-1), 1) := by decide +kernel
theorem dX10_end_91 : decode cX10_end 91 = .ok (.ireturn, 1) := by decide +kernel
theorem dX10_letter_0 : decode cX10_letter 0 = .ok (.iload_n 1, 1) := by decide +kernel
theorem dX10_letter_1 : decode cX10_letter 1 = .ok (.ifCond .lt 14, 3) := by decide +kernel
theorem dX10_letter_4 : decode cX10_letter 4 = .ok (.iload_n 1, 1) := by decide +kernel
theorem dX10_letter_5 : decode cX10_letter 5 = .ok (.aload_n 0, 1) := by decide +kernel
theorem dX10_letter_6 : decode cX10_letter 6 = .ok (.getfield 28, 3) := by decide +kernel
theorem dX10_letter_9 : decode cX10_letter 9 = .ok (.invokevirtual 122, 3) := by decide +kernel
theorem dX10_letter_12 : decode cX10_letter 12 = .ok (.if_icmp .lt 5, 3) := by decide +kernel
theorem dX10_letter_15 : decode cX10_letter 15 = .ok (.iconst (-1), 1) := by decide +kernel
theorem dX10_letter_16 : decode cX10_letter 16 = .ok (.ireturn, 1) := by decide +kernel
theorem dX10_letter_17 : decode cX10_letter 17 = .ok (.aload_n 0, 1) := by decide +kernel
theorem dX10_letter_18 : decode cX10_letter 18 = .ok (.getfield 28, 3) := by decide +kernel
theorem dX10_letter_21 : decode cX10_letter 21 = .ok (.iload_n 1, 1) := by decide +kernel
theorem dX10_letter_22 : decode cX10_letter 22 = .ok (.invokevirtual 125, 3) := by decide +kernel
theorem dX10_letter_25 : decode cX10_letter 25 = .ok (.istore_n 3, 1) := by decide +kernel
theorem dX10_letter_26 : decode cX10_letter 26 = .ok (.iload_n 2, 1) := by decide +kernel
theorem dX10_letter_27 : decode cX10_letter 27 = .ok (.tableswitch 58 0 4 #[33, 38, 43, 48, 53], 33) := by decide +kernel
theorem dX10_letter_60 : decode cX10_letter 60 = .ok (.iload_n 3, 1) := by decide +kernel
theorem dX10_letter_61 : decode cX10_letter 61 = .ok (.invokestatic 128, 3) := by decide +kernel
theorem dX10_letter_64 : decode cX10_letter 64 = .ok (.ireturn, 1) := by decide +kernel
theorem dX10_letter_65 : decode cX10_letter 65 = .ok (.iload_n 3, 1) := by decide +kernel
theorem dX10_letter_66 : decode cX10_letter 66 = .ok (.invokestatic 133, 3) := by decide +kernel
theorem dX10_letter_69 : decode cX10_letter 69 = .ok (.ireturn, 1) := by decide +kernel
theorem dX10_letter_70 : decode cX10_letter 70 = .ok (.iload_n 3, 1) := by decide +kernel
theorem dX10_letter_71 : decode cX10_letter 71 = .ok (.invokestatic 136, 3) := by decide +kernel
theorem dX10_letter_74 : decode cX10_letter 74 = .ok (.ireturn, 1) := by decide +kernel
theorem dX10_letter_75 : decode cX10_letter 75 = .ok (.iload_n 3, 1) := by decide +kernel
theorem dX10_letter_76 : decode cX10_letter 76 = .ok (.invokestatic 139, 3) := by decide +kernel
theorem dX10_letter_79 : decode cX10_letter 79 = .ok (.ireturn, 1) := by decide +kernel
theorem dX10_letter_80 : decode cX10_letter 80 = .ok (.iload_n 3, 1) := by decide +kernel
theorem dX10_letter_81 : decode cX10_letter 81 = .ok (.invokestatic 142, 3) := by decide +kernel
theorem dX10_letter_84 : decode cX10_letter 84 = .ok (.ireturn, 1) := by decide +kernel
theorem dX10_letter_85 : decode cX10_letter 85 = .ok (.iconst (-1), 1) := by decide +kernel
theorem dX10_letter_86 : decode cX10_letter 86 = .ok (.ireturn, 1) := by decide +kernel
theorem dX10_now_0 : decode cX10_now 0 = .ok (.iload_n 1, 1) := by decide +kernel
theorem dX10_now_1 : decode cX10_now 1 = .ok (.tableswitch 90 0 3 #[31, 39, 51, 67], 31) := by decide +kernel
theorem dX10_now_32 : decode cX10_now 32 = .ok (.aload_n 0, 1) := by decide +kernel
theorem dX10_now_33 : decode cX10_now 33 = .ok (.getfield 28, 3) := by decide +kernel
theorem dX10_now_36 : decode cX10_now 36 = .ok (.invokevirtual 122, 3) := by decide +kernel
theorem dX10_now_39 : decode cX10_now 39 = .ok (.ireturn, 1) := by decide +kernel
theorem dX10_now_40 : decode cX10_now 40 = .ok (.aload_n 0, 1) := by decide +kernel
theorem dX10_now_41 : decode cX10_now 41 = .ok (.getfield 12, 3) := by decide +kernel
theorem dX10_now_44 : decode cX10_now 44 = .ok (.aload_n 0, 1) := by decide +kernel
theorem dX10_now_45 : decode cX10_now 45 = .ok (.getfield 28, 3) := by decide +kernel
theorem dX10_now_48 : decode cX10_now 48 = .ok (.invokevirtual 143, 3) := by decide +kernel
theorem dX10_now_51 : decode cX10_now 51 = .ok (.ireturn, 1) := by decide +kernel
theorem dX10_now_52 : decode cX10_now 52 = .ok (.aload_n 0, 1) := by decide +kernel
theorem dX10_now_53 : decode cX10_now 53 = .ok (.getfield 28, 3) := by decide +kernel
theorem dX10_now_56 : decode cX10_now 56 = .ok (.invokevirtual 147, 3) := by decide +kernel
theorem dX10_now_59 : decode cX10_now 59 = .ok (.ifCond .eq 7, 3) := by decide +kernel
theorem dX10_now_62 : decode cX10_now 62 = .ok (.iconst 1, 1) := by decide +kernel
theorem dX10_now_63 : decode cX10_now 63 = .ok (.goto 4, 3) := by decide +kernel
theorem dX10_now_66 : decode cX10_now 66 = .ok (.iconst 0, 1) := by decide +kernel
theorem dX10_now_67 : decode cX10_now 67 = .ok (.ireturn, 1) := by decide +kernel
theorem dX10_now_68 : decode cX10_now 68 = .ok (.aload_n 0, 1) := by decide +kernel
theorem dX10_now_69 : decode cX10_now 69 = .ok (.invokevirtual 90, 3) := by decide +kernel
theorem dX10_now_72 : decode cX10_now 72 = .ok (.ifCond .ne 17, 3) := by decide +kernel
theorem dX10_now_75 : decode cX10_now 75 = .ok (.aload_n 0, 1) := by decide +kernel
theorem dX10_now_76 : decode cX10_now 76 = .ok (.getfield 28, 3) := by decide +kernel
theorem dX10_now_79 : decode cX10_now 79 = .ok (.invokevirtual 147, 3) := by decide +kernel
theorem dX10_now_82 : decode cX10_now 82 = .ok (.ifCond .ne 7, 3) := by decide +kernel
theorem dX10_now_85 : decode cX10_now 85 = .ok (.iconst 1, 1) := by decide +kernel
theorem dX10_now_86 : decode cX10_now 86 = .ok (.goto 4, 3) := by decide +kernel
theorem dX10_now_89 : decode cX10_now 89 = .ok (.iconst 0, 1) := by decide +kernel
theorem dX10_now_90 : decode cX10_now 90 = .ok (.ireturn, 1) := by decide +kernel
theorem dX10_now_91 : decode cX10_now 91 = .ok (.iconst (-1), 1) := by decide +kernel
theorem dX10_now_92 : decode cX10_now 92 = .ok (.ireturn, 1) := by decide +kernel
theorem dX10_walk_0 : decode cX10_walk 0 = .ok (.iload_n 1, 1) := by decide +kernel
theorem dX10_walk_1 : decode cX10_walk 1 = .ok (.iconst 1, 1) := by decide +kernel
theorem dX10_walk_2 : decode cX10_walk 2 = .ok (.if_icmp .lt 10, 3) := by decide +kernel
theorem dX10_walk_5 : decode cX10_walk 5 = .ok (.iload_n 1, 1) := by decide +kernel
theorem dX10_walk_6 : decode cX10_walk 6 = .ok (.sipush 4000, 3) := by decide +kernel
theorem dX10_walk_9 : decode cX10_walk 9 = .ok (.if_icmp .le 5, 3) := by decide +kernel
theorem dX10_walk_12 : decode cX10_walk 12 = .ok (.iconst (-1), 1) := by decide +kernel
theorem dX10_walk_13 : decode cX10_walk 13 = .ok (.ireturn, 1) := by decide +kernel
theorem dX10_walk_14 : decode cX10_walk 14 = .ok (.aload_n 0, 1) := by decide +kernel
theorem dX10_walk_15 : decode cX10_walk 15 = .ok (.getfield 47, 3) := by decide +kernel
theorem dX10_walk_18 : decode cX10_walk 18 = .ok (.iload_n 1, 1) := by decide +kernel
theorem dX10_walk_19 : decode cX10_walk 19 = .ok (.invokevirtual 151, 3) := by decide +kernel
theorem dX10_walk_22 : decode cX10_walk 22 = .ok (.iconst 0, 1) := by decide +kernel
theorem dX10_walk_23 : decode cX10_walk 23 = .ok (.istore_n 2, 1) := by decide +kernel
theorem dX10_walk_24 : decode cX10_walk 24 = .ok (.iload_n 2, 1) := by decide +kernel
theorem dX10_walk_25 : decode cX10_walk 25 = .ok (.iload_n 1, 1) := by decide +kernel
theorem dX10_walk_26 : decode cX10_walk 26 = .ok (.if_icmp .ge 28, 3) := by decide +kernel
theorem dX10_walk_29 : decode cX10_walk 29 = .ok (.iload_n 2, 1) := by decide +kernel
theorem dX10_walk_30 : decode cX10_walk 30 = .ok (.aload_n 0, 1) := by decide +kernel
theorem dX10_walk_31 : decode cX10_walk 31 = .ok (.getfield 47, 3) := by decide +kernel
theorem dX10_walk_34 : decode cX10_walk 34 = .ok (.invokevirtual 152, 3) := by decide +kernel
theorem dX10_walk_37 : decode cX10_walk 37 = .ok (.if_icmp .ge 17, 3) := by decide +kernel
theorem dX10_walk_40 : decode cX10_walk 40 = .ok (.aload_n 0, 1) := by decide +kernel
theorem dX10_walk_41 : decode cX10_walk 41 = .ok (.getfield 47, 3) := by decide +kernel
theorem dX10_walk_44 : decode cX10_walk 44 = .ok (.iload_n 2, 1) := by decide +kernel
theorem dX10_walk_45 : decode cX10_walk 45 = .ok (.invokevirtual 155, 3) := by decide +kernel
theorem dX10_walk_48 : decode cX10_walk 48 = .ok (.iinc 2 1, 3) := by decide +kernel
theorem dX10_walk_51 : decode cX10_walk 51 = .ok (.goto (-27), 3) := by decide +kernel
theorem dX10_walk_54 : decode cX10_walk 54 = .ok (.aload_n 0, 1) := by decide +kernel
theorem dX10_walk_55 : decode cX10_walk 55 = .ok (.getfield 47, 3) := by decide +kernel
theorem dX10_walk_58 : decode cX10_walk 58 = .ok (.invokevirtual 158, 3) := by decide +kernel
theorem dX10_walk_61 : decode cX10_walk 61 = .ok (.aload_n 0, 1) := by decide +kernel
theorem dX10_walk_62 : decode cX10_walk 62 = .ok (.iconst 1, 1) := by decide +kernel
theorem dX10_walk_63 : decode cX10_walk 63 = .ok (.putfield 51, 3) := by decide +kernel
theorem dX10_walk_66 : decode cX10_walk 66 = .ok (.aload_n 0, 1) := by decide +kernel
theorem dX10_walk_67 : decode cX10_walk 67 = .ok (.getfield 47, 3) := by decide +kernel
theorem dX10_walk_70 : decode cX10_walk 70 = .ok (.invokevirtual 152, 3) := by decide +kernel
theorem dX10_walk_73 : decode cX10_walk 73 = .ok (.istore_n 2, 1) := by decide +kernel
theorem dX10_walk_74 : decode cX10_walk 74 = .ok (.aload_n 0, 1) := by decide +kernel
theorem dX10_walk_75 : decode cX10_walk 75 = .ok (.getfield 47, 3) := by decide +kernel
theorem dX10_walk_78 : decode cX10_walk 78 = .ok (.invokevirtual 161, 3) := by decide +kernel
theorem dX10_walk_81 : decode cX10_walk 81 = .ok (.ifCond .eq 10, 3) := by decide +kernel
theorem dX10_walk_84 : decode cX10_walk 84 = .ok (.iload_n 2, 1) := by decide +kernel
theorem dX10_walk_85 : decode cX10_walk 85 = .ok (.ineg, 1) := by decide +kernel
theorem dX10_walk_86 : decode cX10_walk 86 = .ok (.iconst 1, 1) := by decide +kernel
theorem dX10_walk_87 : decode cX10_walk 87 = .ok (.isub, 1) := by decide +kernel
theorem dX10_walk_88 : decode cX10_walk 88 = .ok (.goto 4, 3) := by decide +kernel
theorem dX10_walk_91 : decode cX10_walk 91 = .ok (.iload_n 2, 1) := by decide +kernel
theorem dX10_walk_92 : decode cX10_walk 92 = .ok (.ireturn, 1) := by decide +kernel
theorem dX10_walked_0 : decode cX10_walked 0 = .ok (.aload_n 0, 1) := by decide +kernel
theorem dX10_walked_1 : decode cX10_walked 1 = .ok (.getfield 47, 3) := by decide +kernel
theorem dX10_walked_4 : decode cX10_walked 4 = .ok (.iload_n 1, 1) := by decide +kernel
theorem dX10_walked_5 : decode cX10_walked 5 = .ok (.invokevirtual 164, 3) := by decide +kernel
theorem dX10_walked_8 : decode cX10_walked 8 = .ok (.ireturn, 1) := by decide +kernel
theorem dX10_bad_0 : decode cX10_bad 0 = .ok (.aload_n 0, 1) := by decide +kernel
theorem dX10_bad_1 : decode cX10_bad 1 = .ok (.getfield 47, 3) := by decide +kernel
theorem dX10_bad_4 : decode cX10_bad 4 = .ok (.iload_n 1, 1) := by decide +kernel
theorem dX10_bad_5 : decode cX10_bad 5 = .ok (.iload_n 2, 1) := by decide +kernel
theorem dX10_bad_6 : decode cX10_bad 6 = .ok (.invokevirtual 167, 3) := by decide +kernel
theorem dX10_bad_9 : decode cX10_bad 9 = .ok (.ireturn, 1) := by decide +kernel
theorem dX10_found_0 : decode cX10_found 0 = .ok (.iload_n 1, 1) := by decide +kernel
theorem dX10_found_1 : decode cX10_found 1 = .ok (.lookupswitch 45 #[(0, 27), (1, 36)], 27) := by decide +kernel
theorem dX10_found_28 : decode cX10_found 28 = .ok (.aload_n 0, 1) := by decide +kernel
theorem dX10_found_29 : decode cX10_found 29 = .ok (.getfield 47, 3) := by decide +kernel
theorem dX10_found_32 : decode cX10_found 32 = .ok (.iload_n 2, 1) := by decide +kernel
theorem dX10_found_33 : decode cX10_found 33 = .ok (.invokevirtual 170, 3) := by decide +kernel
theorem dX10_found_36 : decode cX10_found 36 = .ok (.ireturn, 1) := by decide +kernel
theorem dX10_found_37 : decode cX10_found 37 = .ok (.aload_n 0, 1) := by decide +kernel
theorem dX10_found_38 : decode cX10_found 38 = .ok (.getfield 47, 3) := by decide +kernel
theorem dX10_found_41 : decode cX10_found 41 = .ok (.iload_n 2, 1) := by decide +kernel
theorem dX10_found_42 : decode cX10_found 42 = .ok (.invokevirtual 173, 3) := by decide +kernel
theorem dX10_found_45 : decode cX10_found 45 = .ok (.ireturn, 1) := by decide +kernel
theorem dX10_found_46 : decode cX10_found 46 = .ok (.iconst (-1), 1) := by decide +kernel
theorem dX10_found_47 : decode cX10_found 47 = .ok (.ireturn, 1) := by decide +kernel
theorem dX10_far_0 : decode cX10_far 0 = .ok (.aload_n 0, 1) := by decide +kernel
theorem dX10_far_1 : decode cX10_far 1 = .ok (.getfield 47, 3) := by decide +kernel
theorem dX10_far_4 : decode cX10_far 4 = .ok (.iload_n 1, 1) := by decide +kernel
theorem dX10_far_5 : decode cX10_far 5 = .ok (.invokevirtual 176, 3) := by decide +kernel
theorem dX10_far_8 : decode cX10_far 8 = .ok (.ifCond .eq 14, 3) := by decide +kernel
theorem dX10_far_11 : decode cX10_far 11 = .ok (.aload_n 0, 1) := by decide +kernel
theorem dX10_far_12 : decode cX10_far 12 = .ok (.getfield 47, 3) := by decide +kernel
theorem dX10_far_15 : decode cX10_far 15 = .ok (.iload_n 1, 1) := by decide +kernel
theorem dX10_far_16 : decode cX10_far 16 = .ok (.invokevirtual 180, 3) := by decide +kernel
theorem dX10_far_19 : decode cX10_far 19 = .ok (.goto 4, 3) := by decide +kernel
theorem dX10_far_22 : decode cX10_far 22 = .ok (.iconst (-1), 1) := by decide +kernel
theorem dX10_far_23 : decode cX10_far 23 = .ok (.ireturn, 1) := by decide +kernel
theorem dX10_way_0 : decode cX10_way 0 = .ok (.aload_n 0, 1) := by decide +kernel
theorem dX10_way_1 : decode cX10_way 1 = .ok (.getfield 47, 3) := by decide +kernel
theorem dX10_way_4 : decode cX10_way 4 = .ok (.iload_n 1, 1) := by decide +kernel
theorem dX10_way_5 : decode cX10_way 5 = .ok (.invokevirtual 176, 3) := by decide +kernel
theorem dX10_way_8 : decode cX10_way 8 = .ok (.ifCond .eq 19, 3) := by decide +kernel
theorem dX10_way_11 : decode cX10_way 11 = .ok (.iload_n 2, 1) := by decide +kernel
theorem dX10_way_12 : decode cX10_way 12 = .ok (.ifCond .lt 15, 3) := by decide +kernel
theorem dX10_way_15 : decode cX10_way 15 = .ok (.iload_n 2, 1) := by decide +kernel
theorem dX10_way_16 : decode cX10_way 16 = .ok (.aload_n 0, 1) := by decide +kernel
theorem dX10_way_17 : decode cX10_way 17 = .ok (.getfield 47, 3) := by decide +kernel
theorem dX10_way_20 : decode cX10_way 20 = .ok (.iload_n 1, 1) := by decide +kernel
theorem dX10_way_21 : decode cX10_way 21 = .ok (.invokevirtual 180, 3) := by decide +kernel
theorem dX10_way_24 : decode cX10_way 24 = .ok (.if_icmp .lt 5, 3) := by decide +kernel
theorem dX10_way_27 : decode cX10_way 27 = .ok (.iconst (-1), 1) := by decide +kernel
theorem dX10_way_28 : decode cX10_way 28 = .ok (.ireturn, 1) := by decide +kernel
theorem dX10_way_29 : decode cX10_way 29 = .ok (.aload_n 0, 1) := by decide +kernel
theorem dX10_way_30 : decode cX10_way 30 = .ok (.getfield 47, 3) := by decide +kernel
theorem dX10_way_33 : decode cX10_way 33 = .ok (.iload_n 1, 1) := by decide +kernel
theorem dX10_way_34 : decode cX10_way 34 = .ok (.iload_n 2, 1) := by decide +kernel
theorem dX10_way_35 : decode cX10_way 35 = .ok (.invokevirtual 183, 3) := by decide +kernel
theorem dX10_way_38 : decode cX10_way 38 = .ok (.ireturn, 1) := by decide +kernel
theorem dX10_go_0 : decode cX10_go 0 = .ok (.aload_n 0, 1) := by decide +kernel
theorem dX10_go_1 : decode cX10_go 1 = .ok (.getfield 51, 3) := by decide +kernel
theorem dX10_go_4 : decode cX10_go 4 = .ok (.ifCond .eq 14, 3) := by decide +kernel
theorem dX10_go_7 : decode cX10_go 7 = .ok (.aload_n 0, 1) := by decide +kernel
theorem dX10_go_8 : decode cX10_go 8 = .ok (.getfield 47, 3) := by decide +kernel
theorem dX10_go_11 : decode cX10_go 11 = .ok (.iload_n 1, 1) := by decide +kernel
theorem dX10_go_12 : decode cX10_go 12 = .ok (.invokevirtual 176, 3) := by decide +kernel
theorem dX10_go_15 : decode cX10_go 15 = .ok (.ifCond .ne 5, 3) := by decide +kernel
theorem dX10_go_18 : decode cX10_go 18 = .ok (.iconst (-1), 1) := by decide +kernel
theorem dX10_go_19 : decode cX10_go 19 = .ok (.ireturn, 1) := by decide +kernel
theorem dX10_go_20 : decode cX10_go 20 = .ok (.aload_n 0, 1) := by decide +kernel
theorem dX10_go_21 : decode cX10_go 21 = .ok (.getfield 47, 3) := by decide +kernel
theorem dX10_go_24 : decode cX10_go 24 = .ok (.iload_n 1, 1) := by decide +kernel
theorem dX10_go_25 : decode cX10_go 25 = .ok (.aload_n 0, 1) := by decide +kernel
theorem dX10_go_26 : decode cX10_go 26 = .ok (.getfield 28, 3) := by decide +kernel
theorem dX10_go_29 : decode cX10_go 29 = .ok (.invokevirtual 186, 3) := by decide +kernel
theorem dX10_go_32 : decode cX10_go 32 = .ok (.aload_n 0, 1) := by decide +kernel
theorem dX10_go_33 : decode cX10_go 33 = .ok (.invokevirtual 90, 3) := by decide +kernel
theorem dX10_go_36 : decode cX10_go 36 = .ok (.ireturn, 1) := by decide +kernel
theorem dX10_number_0 : decode cX10_number 0 = .ok (.aload_n 0, 1) := by decide +kernel
theorem dX10_number_1 : decode cX10_number 1 = .ok (.getfield 51, 3) := by decide +kernel
theorem dX10_number_4 : decode cX10_number 4 = .ok (.ifCond .eq 17, 3) := by decide +kernel
theorem dX10_number_7 : decode cX10_number 7 = .ok (.aload_n 0, 1) := by decide +kernel
theorem dX10_number_8 : decode cX10_number 8 = .ok (.getfield 47, 3) := by decide +kernel
theorem dX10_number_11 : decode cX10_number 11 = .ok (.aload_n 0, 1) := by decide +kernel
theorem dX10_number_12 : decode cX10_number 12 = .ok (.getfield 28, 3) := by decide +kernel
theorem dX10_number_15 : decode cX10_number 15 = .ok (.invokevirtual 190, 3) := by decide +kernel
theorem dX10_number_18 : decode cX10_number 18 = .ok (.goto 4, 3) := by decide +kernel
theorem dX10_number_21 : decode cX10_number 21 = .ok (.iconst (-1), 1) := by decide +kernel
theorem dX10_number_22 : decode cX10_number 22 = .ok (.ireturn, 1) := by decide +kernel
theorem dX10_used_0 : decode cX10_used 0 = .ok (.iload_n 1, 1) := by decide +kernel
theorem dX10_used_1 : decode cX10_used 1 = .ok (.invokestatic 77, 3) := by decide +kernel
theorem dX10_used_4 : decode cX10_used 4 = .ok (.istore_n 2, 1) := by decide +kernel
theorem dX10_used_5 : decode cX10_used 5 = .ok (.iload_n 2, 1) := by decide +kernel
theorem dX10_used_6 : decode cX10_used 6 = .ok (.iconst (-1), 1) := by decide +kernel
theorem dX10_used_7 : decode cX10_used 7 = .ok (.if_icmp .eq 14, 3) := by decide +kernel
theorem dX10_used_10 : decode cX10_used 10 = .ok (.aload_n 0, 1) := by decide +kernel
theorem dX10_used_11 : decode cX10_used 11 = .ok (.getfield 12, 3) := by decide +kernel
theorem dX10_used_14 : decode cX10_used 14 = .ok (.iload_n 2, 1) := by decide +kernel
theorem dX10_used_15 : decode cX10_used 15 = .ok (.invokevirtual 193, 3) := by decide +kernel
theorem dX10_used_18 : decode cX10_used 18 = .ok (.ifCond .ne 5, 3) := by decide +kernel
theorem dX10_used_21 : decode cX10_used 21 = .ok (.iconst (-1), 1) := by decide +kernel
theorem dX10_used_22 : decode cX10_used 22 = .ok (.ireturn, 1) := by decide +kernel
theorem dX10_used_23 : decode cX10_used 23 = .ok (.aload_n 0, 1) := by decide +kernel
theorem dX10_used_24 : decode cX10_used 24 = .ok (.getfield 47, 3) := by decide +kernel
theorem dX10_used_27 : decode cX10_used 27 = .ok (.iload_n 2, 1) := by decide +kernel
theorem dX10_used_28 : decode cX10_used 28 = .ok (.invokevirtual 196, 3) := by decide +kernel
theorem dX10_used_31 : decode cX10_used 31 = .ok (.ireturn, 1) := by decide +kernel
theorem dX10_beginAnew_0 : decode cX10_beginAnew 0 = .ok (.aload_n 0, 1) := by decide +kernel
theorem dX10_beginAnew_1 : decode cX10_beginAnew 1 = .ok (.getfield 28, 3) := by decide +kernel
theorem dX10_beginAnew_4 : decode cX10_beginAnew 4 = .ok (.aload_n 0, 1) := by decide +kernel
theorem dX10_beginAnew_5 : decode cX10_beginAnew 5 = .ok (.getfield 12, 3) := by decide +kernel
theorem dX10_beginAnew_8 : decode cX10_beginAnew 8 = .ok (.invokevirtual 55, 3) := by decide +kernel
theorem dX10_beginAnew_11 : decode cX10_beginAnew 11 = .ok (.invokevirtual 59, 3) := by decide +kernel
theorem dX10_beginAnew_14 : decode cX10_beginAnew 14 = .ok (.aload_n 0, 1) := by decide +kernel
theorem dX10_beginAnew_15 : decode cX10_beginAnew 15 = .ok (.iconst 0, 1) := by decide +kernel
theorem dX10_beginAnew_16 : decode cX10_beginAnew 16 = .ok (.putfield 51, 3) := by decide +kernel
theorem dX10_beginAnew_19 : decode cX10_beginAnew 19 = .ok (.return_, 1) := by decide +kernel
theorem dX10_countChoices_0 : decode cX10_countChoices 0 = .ok (.aload_n 0, 1) := by decide +kernel
theorem dX10_countChoices_1 : decode cX10_countChoices 1 = .ok (.getfield 38, 3) := by decide +kernel
theorem dX10_countChoices_4 : decode cX10_countChoices 4 = .ok (.aload_n 0, 1) := by decide +kernel
theorem dX10_countChoices_5 : decode cX10_countChoices 5 = .ok (.getfield 28, 3) := by decide +kernel
theorem dX10_countChoices_8 : decode cX10_countChoices 8 = .ok (.invokevirtual 199, 3) := by decide +kernel
theorem dX10_countChoices_11 : decode cX10_countChoices 11 = .ok (.aload_n 0, 1) := by decide +kernel
theorem dX10_countChoices_12 : decode cX10_countChoices 12 = .ok (.getfield 38, 3) := by decide +kernel
theorem dX10_countChoices_15 : decode cX10_countChoices 15 = .ok (.invokevirtual 202, 3) := by decide +kernel
theorem dX10_countChoices_18 : decode cX10_countChoices 18 = .ok (.ireturn, 1) := by decide +kernel
theorem dX10_placeOf_0 : decode cX10_placeOf 0 = .ok (.iload_n 0, 1) := by decide +kernel
theorem dX10_placeOf_1 : decode cX10_placeOf 1 = .ok (.ifCond .ge 5, 3) := by decide +kernel
theorem dX10_placeOf_4 : decode cX10_placeOf 4 = .ok (.iconst (-1), 1) := by decide +kernel
theorem dX10_placeOf_5 : decode cX10_placeOf 5 = .ok (.ireturn, 1) := by decide +kernel
theorem dX10_placeOf_6 : decode cX10_placeOf 6 = .ok (.iload_n 0, 1) := by decide +kernel
theorem dX10_placeOf_7 : decode cX10_placeOf 7 = .ok (.iconst 4, 1) := by decide +kernel
theorem dX10_placeOf_8 : decode cX10_placeOf 8 = .ok (.ishr, 1) := by decide +kernel
theorem dX10_placeOf_9 : decode cX10_placeOf 9 = .ok (.istore_n 1, 1) := by decide +kernel
theorem dX10_placeOf_10 : decode cX10_placeOf 10 = .ok (.iload_n 1, 1) := by decide +kernel
theorem dX10_placeOf_11 : decode cX10_placeOf 11 = .ok (.sipush 2048, 3) := by decide +kernel
theorem dX10_placeOf_14 : decode cX10_placeOf 14 = .ok (.if_icmp .lt 5, 3) := by decide +kernel
theorem dX10_placeOf_17 : decode cX10_placeOf 17 = .ok (.iconst (-1), 1) := by decide +kernel
theorem dX10_placeOf_18 : decode cX10_placeOf 18 = .ok (.ireturn, 1) := by decide +kernel
theorem dX10_placeOf_19 : decode cX10_placeOf 19 = .ok (.iload_n 1, 1) := by decide +kernel
theorem dX10_placeOf_20 : decode cX10_placeOf 20 = .ok (.bipush 64, 2) := by decide +kernel
theorem dX10_placeOf_22 : decode cX10_placeOf 22 = .ok (.irem, 1) := by decide +kernel
theorem dX10_placeOf_23 : decode cX10_placeOf 23 = .ok (.istore_n 2, 1) := by decide +kernel
theorem dX10_placeOf_24 : decode cX10_placeOf 24 = .ok (.iload_n 1, 1) := by decide +kernel
theorem dX10_placeOf_25 : decode cX10_placeOf 25 = .ok (.invokestatic 205, 3) := by decide +kernel
theorem dX10_placeOf_28 : decode cX10_placeOf 28 = .ok (.ifCond .ne 8, 3) := by decide +kernel
theorem dX10_placeOf_31 : decode cX10_placeOf 31 = .ok (.bipush 19, 2) := by decide +kernel
theorem dX10_placeOf_33 : decode cX10_placeOf 33 = .ok (.goto 5, 3) := by decide +kernel
theorem dX10_placeOf_36 : decode cX10_placeOf 36 = .ok (.bipush 32, 2) := by decide +kernel
theorem dX10_placeOf_38 : decode cX10_placeOf 38 = .ok (.istore_n 3, 1) := by decide +kernel
theorem dX10_placeOf_39 : decode cX10_placeOf 39 = .ok (.iload_n 2, 1) := by decide +kernel
theorem dX10_placeOf_40 : decode cX10_placeOf 40 = .ok (.iload_n 3, 1) := by decide +kernel
theorem dX10_placeOf_41 : decode cX10_placeOf 41 = .ok (.if_icmp .ge 7, 3) := by decide +kernel
theorem dX10_placeOf_44 : decode cX10_placeOf 44 = .ok (.iload_n 1, 1) := by decide +kernel
theorem dX10_placeOf_45 : decode cX10_placeOf 45 = .ok (.goto 4, 3) := by decide +kernel
theorem dX10_placeOf_48 : decode cX10_placeOf 48 = .ok (.iconst (-1), 1) := by decide +kernel
theorem dX10_placeOf_49 : decode cX10_placeOf 49 = .ok (.ireturn, 1) := by decide +kernel
theorem dX10_sideOf_0 : decode cX10_sideOf 0 = .ok (.iload_n 0, 1) := by decide +kernel
theorem dX10_sideOf_1 : decode cX10_sideOf 1 = .ok (.sipush 1024, 3) := by decide +kernel
theorem dX10_sideOf_4 : decode cX10_sideOf 4 = .ok (.if_icmp .ge 7, 3) := by decide +kernel
theorem dX10_sideOf_7 : decode cX10_sideOf 7 = .ok (.iconst 0, 1) := by decide +kernel
theorem dX10_sideOf_8 : decode cX10_sideOf 8 = .ok (.goto 4, 3) := by decide +kernel
theorem dX10_sideOf_11 : decode cX10_sideOf 11 = .ok (.iconst 1, 1) := by decide +kernel
theorem dX10_sideOf_12 : decode cX10_sideOf 12 = .ok (.ireturn, 1) := by decide +kernel
theorem dJ7_fill_53178_0 : decode cJ7_fill_53178 0 = .ok (.iconst 0, 1) := by decide +kernel
theorem dJ7_fill_53178_1 : decode cJ7_fill_53178 1 = .ok (.istore_n 2, 1) := by decide +kernel
theorem dJ7_fill_53178_2 : decode cJ7_fill_53178 2 = .ok (.aload_n 0, 1) := by decide +kernel
theorem dJ7_fill_53178_3 : decode cJ7_fill_53178 3 = .ok (.arraylength, 1) := by decide +kernel
theorem dJ7_fill_53178_4 : decode cJ7_fill_53178 4 = .ok (.istore_n 3, 1) := by decide +kernel
theorem dJ7_fill_53178_5 : decode cJ7_fill_53178 5 = .ok (.iload_n 2, 1) := by decide +kernel
theorem dJ7_fill_53178_6 : decode cJ7_fill_53178 6 = .ok (.iload_n 3, 1) := by decide +kernel
theorem dJ7_fill_53178_7 : decode cJ7_fill_53178 7 = .ok (.if_icmp .ge 13, 3) := by decide +kernel
theorem dJ7_fill_53178_10 : decode cJ7_fill_53178 10 = .ok (.aload_n 0, 1) := by decide +kernel
theorem dJ7_fill_53178_11 : decode cJ7_fill_53178 11 = .ok (.iload_n 2, 1) := by decide +kernel
theorem dJ7_fill_53178_12 : decode cJ7_fill_53178 12 = .ok (.iload_n 1, 1) := by decide +kernel
theorem dJ7_fill_53178_13 : decode cJ7_fill_53178 13 = .ok (.iastore, 1) := by decide +kernel
theorem dJ7_fill_53178_14 : decode cJ7_fill_53178 14 = .ok (.iinc 2 1, 3) := by decide +kernel
theorem dJ7_fill_53178_17 : decode cJ7_fill_53178 17 = .ok (.goto (-12), 3) := by decide +kernel
theorem dJ7_fill_53178_20 : decode cJ7_fill_53178 20 = .ok (.return_, 1) := by decide +kernel
