theorem dX10_isUpward_20 : decode cX10_isUpward 20 = .ok (.iconst 0, 1) := by decide +kernel
theorem dX10_isUpward_21 : decode cX10_isUpward 21 = .ok (.ireturn, 1) := by decide +kernel
theorem dX10_idle_0 : decode cX10_idle 0 = .ok (.aload_n 0, 1) := by decide +kernel
theorem dX10_idle_1 : decode cX10_idle 1 = .ok (.iconst 0, 1) := by decide +kernel
theorem dX10_idle_2 : decode cX10_idle 2 = .ok (.putfield 39, 3) := by decide +kernel
theorem dX10_idle_5 : decode cX10_idle 5 = .ok (.iload_n 1, 1) := by decide +kernel
theorem dX10_idle_6 : decode cX10_idle 6 = .ok (.iconst 1, 1) := by decide +kernel
theorem dX10_idle_7 : decode cX10_idle 7 = .ok (.sipush 1000, 3) := by decide +kernel
theorem dX10_idle_10 : decode cX10_idle 10 = .ok (.invokestatic 42, 3) := by decide +kernel
theorem dX10_idle_13 : decode cX10_idle 13 = .ok (.ifCond .ne 9, 3) := by decide +kernel
theorem dX10_idle_16 : decode cX10_idle 16 = .ok (.aload_n 0, 1) := by decide +kernel
theorem dX10_idle_17 : decode cX10_idle 17 = .ok (.iconst 1, 1) := by decide +kernel
theorem dX10_idle_18 : decode cX10_idle 18 = .ok (.invokevirtual 78, 3) := by decide +kernel
theorem dX10_idle_21 : decode cX10_idle 21 = .ok (.ireturn, 1) := by decide +kernel
theorem dX10_idle_22 : decode cX10_idle 22 = .ok (.aload_n 0, 1) := by decide +kernel
theorem dX10_idle_23 : decode cX10_idle 23 = .ok (.getfield 7, 3) := by decide +kernel
theorem dX10_idle_26 : decode cX10_idle 26 = .ok (.bipush 8, 2) := by decide +kernel
theorem dX10_idle_28 : decode cX10_idle 28 = .ok (.iaload, 1) := by decide +kernel
theorem dX10_idle_29 : decode cX10_idle 29 = .ok (.iload_n 1, 1) := by decide +kernel
theorem dX10_idle_30 : decode cX10_idle 30 = .ok (.iadd, 1) := by decide +kernel
theorem dX10_idle_31 : decode cX10_idle 31 = .ok (.ldc 99, 2) := by decide +kernel
theorem dX10_idle_33 : decode cX10_idle 33 = .ok (.if_icmp .le 9, 3) := by decide +kernel
theorem dX10_idle_36 : decode cX10_idle 36 = .ok (.aload_n 0, 1) := by decide +kernel
theorem dX10_idle_37 : decode cX10_idle 37 = .ok (.iconst 2, 1) := by decide +kernel
theorem dX10_idle_38 : decode cX10_idle 38 = .ok (.invokevirtual 78, 3) := by decide +kernel
theorem dX10_idle_41 : decode cX10_idle 41 = .ok (.ireturn, 1) := by decide +kernel
theorem dX10_idle_42 : decode cX10_idle 42 = .ok (.aload_n 0, 1) := by decide +kernel
theorem dX10_idle_43 : decode cX10_idle 43 = .ok (.getfield 7, 3) := by decide +kernel
theorem dX10_idle_46 : decode cX10_idle 46 = .ok (.bipush 8, 2) := by decide +kernel
theorem dX10_idle_48 : decode cX10_idle 48 = .ok (.dup2, 1) := by decide +kernel
theorem dX10_idle_49 : decode cX10_idle 49 = .ok (.iaload, 1) := by decide +kernel
theorem dX10_idle_50 : decode cX10_idle 50 = .ok (.iload_n 1, 1) := by decide +kernel
theorem dX10_idle_51 : decode cX10_idle 51 = .ok (.iadd, 1) := by decide +kernel
theorem dX10_idle_52 : decode cX10_idle 52 = .ok (.iastore, 1) := by decide +kernel
theorem dX10_idle_53 : decode cX10_idle 53 = .ok (.aload_n 0, 1) := by decide +kernel
theorem dX10_idle_54 : decode cX10_idle 54 = .ok (.getfield 7, 3) := by decide +kernel
theorem dX10_idle_57 : decode cX10_idle 57 = .ok (.bipush 8, 2) := by decide +kernel
theorem dX10_idle_59 : decode cX10_idle 59 = .ok (.iaload, 1) := by decide +kernel
theorem dX10_idle_60 : decode cX10_idle 60 = .ok (.ireturn, 1) := by decide +kernel
theorem dX10_isPending_0 : decode cX10_isPending 0 = .ok (.aload_n 0, 1) := by decide +kernel
theorem dX10_isPending_1 : decode cX10_isPending 1 = .ok (.getfield 7, 3) := by decide +kernel
theorem dX10_isPending_4 : decode cX10_isPending 4 = .ok (.sipush 350, 3) := by decide +kernel
theorem dX10_isPending_7 : decode cX10_isPending 7 = .ok (.iload_n 1, 1) := by decide +kernel
theorem dX10_isPending_8 : decode cX10_isPending 8 = .ok (.iadd, 1) := by decide +kernel
theorem dX10_isPending_9 : decode cX10_isPending 9 = .ok (.iaload, 1) := by decide +kernel
theorem dX10_isPending_10 : decode cX10_isPending 10 = .ok (.ifCond .ne 7, 3) := by decide +kernel
theorem dX10_isPending_13 : decode cX10_isPending 13 = .ok (.iconst 1, 1) := by decide +kernel
theorem dX10_isPending_14 : decode cX10_isPending 14 = .ok (.goto 4, 3) := by decide +kernel
theorem dX10_isPending_17 : decode cX10_isPending 17 = .ok (.iconst 0, 1) := by decide +kernel
theorem dX10_isPending_18 : decode cX10_isPending 18 = .ok (.ireturn, 1) := by decide +kernel
theorem dX10_pending_0 : decode cX10_pending 0 = .ok (.iconst 0, 1) := by decide +kernel
theorem dX10_pending_1 : decode cX10_pending 1 = .ok (.istore_n 1, 1) := by decide +kernel
theorem dX10_pending_2 : decode cX10_pending 2 = .ok (.iconst 0, 1) := by decide +kernel
theorem dX10_pending_3 : decode cX10_pending 3 = .ok (.istore_n 2, 1) := by decide +kernel
theorem dX10_pending_4 : decode cX10_pending 4 = .ok (.iload_n 2, 1) := by decide +kernel
theorem dX10_pending_5 : decode cX10_pending 5 = .ok (.aload_n 0, 1) := by decide +kernel
theorem dX10_pending_6 : decode cX10_pending 6 = .ok (.getfield 7, 3) := by decide +kernel
theorem dX10_pending_9 : decode cX10_pending 9 = .ok (.bipush 12, 2) := by decide +kernel
theorem dX10_pending_11 : decode cX10_pending 11 = .ok (.iaload, 1) := by decide +kernel
theorem dX10_pending_12 : decode cX10_pending 12 = .ok (.if_icmp .ge 25, 3) := by decide +kernel
theorem dX10_pending_15 : decode cX10_pending 15 = .ok (.iload_n 1, 1) := by decide +kernel
theorem dX10_pending_16 : decode cX10_pending 16 = .ok (.aload_n 0, 1) := by decide +kernel
theorem dX10_pending_17 : decode cX10_pending 17 = .ok (.iload_n 2, 1) := by decide +kernel
theorem dX10_pending_18 : decode cX10_pending 18 = .ok (.invokevirtual 100, 3) := by decide +kernel
theorem dX10_pending_21 : decode cX10_pending 21 = .ok (.ifCond .eq 7, 3) := by decide +kernel
theorem dX10_pending_24 : decode cX10_pending 24 = .ok (.iconst 1, 1) := by decide +kernel
theorem dX10_pending_25 : decode cX10_pending 25 = .ok (.goto 4, 3) := by decide +kernel
theorem dX10_pending_28 : decode cX10_pending 28 = .ok (.iconst 0, 1) := by decide +kernel
theorem dX10_pending_29 : decode cX10_pending 29 = .ok (.iadd, 1) := by decide +kernel
theorem dX10_pending_30 : decode cX10_pending 30 = .ok (.istore_n 1, 1) := by decide +kernel
theorem dX10_pending_31 : decode cX10_pending 31 = .ok (.iinc 2 1, 3) := by decide +kernel
theorem dX10_pending_34 : decode cX10_pending 34 = .ok (.goto (-30), 3) := by decide +kernel
theorem dX10_pending_37 : decode cX10_pending 37 = .ok (.iload_n 1, 1) := by decide +kernel
theorem dX10_pending_38 : decode cX10_pending 38 = .ok (.ireturn, 1) := by decide +kernel
theorem dX10_refusal_0 : decode cX10_refusal 0 = .ok (.iload_n 1, 1) := by decide +kernel
theorem dX10_refusal_1 : decode cX10_refusal 1 = .ok (.iconst 0, 1) := by decide +kernel
theorem dX10_refusal_2 : decode cX10_refusal 2 = .ok (.iconst 1, 1) := by decide +kernel
theorem dX10_refusal_3 : decode cX10_refusal 3 = .ok (.invokestatic 42, 3) := by decide +kernel
theorem dX10_refusal_6 : decode cX10_refusal 6 = .ok (.ifCond .eq 14, 3) := by decide +kernel
theorem dX10_refusal_9 : decode cX10_refusal 9 = .ok (.iload_n 3, 1) := by decide +kernel
theorem dX10_refusal_10 : decode cX10_refusal 10 = .ok (.iconst 0, 1) := by decide +kernel
theorem dX10_refusal_11 : decode cX10_refusal 11 = .ok (.sipush 9999, 3) := by decide +kernel
theorem dX10_refusal_14 : decode cX10_refusal 14 = .ok (.invokestatic 42, 3) := by decide +kernel
theorem dX10_refusal_17 : decode cX10_refusal 17 = .ok (.ifCond .ne 5, 3) := by decide +kernel
theorem dX10_refusal_20 : decode cX10_refusal 20 = .ok (.iconst 1, 1) := by decide +kernel
theorem dX10_refusal_21 : decode cX10_refusal 21 = .ok (.ireturn, 1) := by decide +kernel
theorem dX10_refusal_22 : decode cX10_refusal 22 = .ok (.iload_n 2, 1) := by decide +kernel
theorem dX10_refusal_23 : decode cX10_refusal 23 = .ok (.invokestatic 85, 3) := by decide +kernel
theorem dX10_refusal_26 : decode cX10_refusal 26 = .ok (.ifCond .ne 5, 3) := by decide +kernel
theorem dX10_refusal_29 : decode cX10_refusal 29 = .ok (.iconst 2, 1) := by decide +kernel
theorem dX10_refusal_30 : decode cX10_refusal 30 = .ok (.ireturn, 1) := by decide +kernel
theorem dX10_refusal_31 : decode cX10_refusal 31 = .ok (.aload_n 0, 1) := by decide +kernel
theorem dX10_refusal_32 : decode cX10_refusal 32 = .ok (.getfield 7, 3) := by decide +kernel
theorem dX10_refusal_35 : decode cX10_refusal 35 = .ok (.bipush 7, 2) := by decide +kernel
theorem dX10_refusal_37 : decode cX10_refusal 37 = .ok (.iaload, 1) := by decide +kernel
theorem dX10_refusal_38 : decode cX10_refusal 38 = .ok (.iconst 1, 1) := by decide +kernel
theorem dX10_refusal_39 : decode cX10_refusal 39 = .ok (.if_icmp .ne 34, 3) := by decide +kernel
theorem dX10_refusal_42 : decode cX10_refusal 42 = .ok (.iload_n 1, 1) := by decide +kernel
theorem dX10_refusal_43 : decode cX10_refusal 43 = .ok (.iconst 1, 1) := by decide +kernel
theorem dX10_refusal_44 : decode cX10_refusal 44 = .ok (.if_icmp .ne 29, 3) := by decide +kernel
theorem dX10_refusal_47 : decode cX10_refusal 47 = .ok (.aload_n 0, 1) := by decide +kernel
theorem dX10_refusal_48 : decode cX10_refusal 48 = .ok (.getfield 7, 3) := by decide +kernel
theorem dX10_refusal_51 : decode cX10_refusal 51 = .ok (.sipush 510, 3) := by decide +kernel
theorem dX10_refusal_54 : decode cX10_refusal 54 = .ok (.iload_n 2, 1) := by decide +kernel
theorem dX10_refusal_55 : decode cX10_refusal 55 = .ok (.iadd, 1) := by decide +kernel
theorem dX10_refusal_56 : decode cX10_refusal 56 = .ok (.iaload, 1) := by decide +kernel
theorem dX10_refusal_57 : decode cX10_refusal 57 = .ok (.ifCond .ne 16, 3) := by decide +kernel
theorem dX10_refusal_60 : decode cX10_refusal 60 = .ok (.aload_n 0, 1) := by decide +kernel
theorem dX10_refusal_61 : decode cX10_refusal 61 = .ok (.invokevirtual 81, 3) := by decide +kernel
theorem dX10_refusal_64 : decode cX10_refusal 64 = .ok (.bipush 8, 2) := by decide +kernel
theorem dX10_refusal_66 : decode cX10_refusal 66 = .ok (.if_icmp .ne 7, 3) := by decide +kernel
theorem dX10_refusal_69 : decode cX10_refusal 69 = .ok (.iconst 1, 1) := by decide +kernel
theorem dX10_refusal_70 : decode cX10_refusal 70 = .ok (.goto 4, 3) := by decide +kernel
theorem dX10_refusal_73 : decode cX10_refusal 73 = .ok (.iconst 0, 1) := by decide +kernel
theorem dX10_refusal_74 : decode cX10_refusal 74 = .ok (.istore 4, 2) := by decide +kernel
theorem dX10_refusal_76 : decode cX10_refusal 76 = .ok (.aload_n 0, 1) := by decide +kernel
theorem dX10_refusal_77 : decode cX10_refusal 77 = .ok (.getfield 7, 3) := by decide +kernel
theorem dX10_refusal_80 : decode cX10_refusal 80 = .ok (.bipush 12, 2) := by decide +kernel
theorem dX10_refusal_82 : decode cX10_refusal 82 = .ok (.iaload, 1) := by decide +kernel
theorem dX10_refusal_83 : decode cX10_refusal 83 = .ok (.bipush 80, 2) := by decide +kernel
theorem dX10_refusal_85 : decode cX10_refusal 85 = .ok (.if_icmp .eq 17, 3) := by decide +kernel
theorem dX10_refusal_88 : decode cX10_refusal 88 = .ok (.aload_n 0, 1) := by decide +kernel
theorem dX10_refusal_89 : decode cX10_refusal 89 = .ok (.invokevirtual 103, 3) := by decide +kernel
theorem dX10_refusal_92 : decode cX10_refusal 92 = .ok (.bipush 12, 2) := by decide +kernel
theorem dX10_refusal_94 : decode cX10_refusal 94 = .ok (.if_icmp .eq 8, 3) := by decide +kernel
theorem dX10_refusal_97 : decode cX10_refusal 97 = .ok (.iload 4, 2) := by decide +kernel
theorem dX10_refusal_99 : decode cX10_refusal 99 = .ok (.ifCond .eq 7, 3) := by decide +kernel
theorem dX10_refusal_102 : decode cX10_refusal 102 = .ok (.iconst 3, 1) := by decide +kernel
theorem dX10_refusal_103 : decode cX10_refusal 103 = .ok (.goto 4, 3) := by decide +kernel
theorem dX10_refusal_106 : decode cX10_refusal 106 = .ok (.iconst 0, 1) := by decide +kernel
theorem dX10_refusal_107 : decode cX10_refusal 107 = .ok (.ireturn, 1) := by decide +kernel
theorem dX10_comes_0 : decode cX10_comes 0 = .ok (.aload_n 0, 1) := by decide +kernel
theorem dX10_comes_1 : decode cX10_comes 1 = .ok (.getfield 7, 3) := by decide +kernel
theorem dX10_comes_4 : decode cX10_comes 4 = .ok (.bipush 12, 2) := by decide +kernel
theorem dX10_comes_6 : decode cX10_comes 6 = .ok (.iaload, 1) := by decide +kernel
theorem dX10_comes_7 : decode cX10_comes 7 = .ok (.istore 4, 2) := by decide +kernel
theorem dX10_comes_9 : decode cX10_comes 9 = .ok (.aload_n 0, 1) := by decide +kernel
theorem dX10_comes_10 : decode cX10_comes 10 = .ok (.getfield 7, 3) := by decide +kernel
theorem dX10_comes_13 : decode cX10_comes 13 = .ok (.bipush 12, 2) := by decide +kernel
theorem dX10_comes_15 : decode cX10_comes 15 = .ok (.dup2, 1) := by decide +kernel
theorem dX10_comes_16 : decode cX10_comes 16 = .ok (.iaload, 1) := by decide +kernel
theorem dX10_comes_17 : decode cX10_comes 17 = .ok (.iconst 1, 1) := by decide +kernel
theorem dX10_comes_18 : decode cX10_comes 18 = .ok (.iadd, 1) := by decide +kernel
theorem dX10_comes_19 : decode cX10_comes 19 = .ok (.iastore, 1) := by decide +kernel
theorem dX10_comes_20 : decode cX10_comes 20 = .ok (.aload_n 0, 1) := by decide +kernel
theorem dX10_comes_21 : decode cX10_comes 21 = .ok (.getfield 7, 3) := by decide +kernel
theorem dX10_comes_24 : decode cX10_comes 24 = .ok (.bipush 30, 2) := by decide +kernel
theorem dX10_comes_26 : decode cX10_comes 26 = .ok (.iload 4, 2) := by decide +kernel
theorem dX10_comes_28 : decode cX10_comes 28 = .ok (.iadd, 1) := by decide +kernel
theorem dX10_comes_29 : decode cX10_comes 29 = .ok (.iload_n 1, 1) := by decide +kernel
theorem dX10_comes_30 : decode cX10_comes 30 = .ok (.iastore, 1) := by decide +kernel
theorem dX10_comes_31 : decode cX10_comes 31 = .ok (.aload_n 0, 1) := by decide +kernel
theorem dX10_comes_32 : decode cX10_comes 32 = .ok (.getfield 7, 3) := by decide +kernel
theorem dX10_comes_35 : decode cX10_comes 35 = .ok (.bipush 110, 2) := by decide +kernel
theorem dX10_comes_37 : decode cX10_comes 37 = .ok (.iload 4, 2) := by decide +kernel
theorem dX10_comes_39 : decode cX10_comes 39 = .ok (.iadd, 1) := by decide +kernel
theorem dX10_comes_40 : decode cX10_comes 40 = .ok (.iload_n 2, 1) := by decide +kernel
theorem dX10_comes_41 : decode cX10_comes 41 = .ok (.iastore, 1) := by decide +kernel
theorem dX10_comes_42 : decode cX10_comes 42 = .ok (.aload_n 0, 1) := by decide +kernel
theorem dX10_comes_43 : decode cX10_comes 43 = .ok (.getfield 7, 3) := by decide +kernel
theorem dX10_comes_46 : decode cX10_comes 46 = .ok (.sipush 190, 3) := by decide +kernel
theorem dX10_comes_49 : decode cX10_comes 49 = .ok (.iload 4, 2) := by decide +kernel
theorem dX10_comes_51 : decode cX10_comes 51 = .ok (.iadd, 1) := by decide +kernel
theorem dX10_comes_52 : decode cX10_comes 52 = .ok (.aload_n 0, 1) := by decide +kernel
theorem dX10_comes_53 : decode cX10_comes 53 = .ok (.getfield 7, 3) := by decide +kernel
theorem dX10_comes_56 : decode cX10_comes 56 = .ok (.bipush 8, 2) := by decide +kernel
theorem dX10_comes_58 : decode cX10_comes 58 = .ok (.iaload, 1) := by decide +kernel
theorem dX10_comes_59 : decode cX10_comes 59 = .ok (.iastore, 1) := by decide +kernel
theorem dX10_comes_60 : decode cX10_comes 60 = .ok (.aload_n 0, 1) := by decide +kernel
theorem dX10_comes_61 : decode cX10_comes 61 = .ok (.getfield 7, 3) := by decide +kernel
theorem dX10_comes_64 : decode cX10_comes 64 = .ok (.sipush 270, 3) := by decide +kernel
theorem dX10_comes_67 : decode cX10_comes 67 = .ok (.iload 4, 2) := by decide +kernel
theorem dX10_comes_69 : decode cX10_comes 69 = .ok (.iadd, 1) := by decide +kernel
theorem dX10_comes_70 : decode cX10_comes 70 = .ok (.iload_n 3, 1) := by decide +kernel
theorem dX10_comes_71 : decode cX10_comes 71 = .ok (.ifCond .ne 7, 3) := by decide +kernel
theorem dX10_comes_74 : decode cX10_comes 74 = .ok (.iconst (-1), 1) := by decide +kernel
theorem dX10_comes_75 : decode cX10_comes 75 = .ok (.goto 12, 3) := by decide +kernel
theorem dX10_comes_78 : decode cX10_comes 78 = .ok (.aload_n 0, 1) := by decide +kernel
theorem dX10_comes_79 : decode cX10_comes 79 = .ok (.getfield 7, 3) := by decide +kernel
theorem dX10_comes_82 : decode cX10_comes 82 = .ok (.bipush 8, 2) := by decide +kernel
theorem dX10_comes_84 : decode cX10_comes 84 = .ok (.iaload, 1) := by decide +kernel
theorem dX10_comes_85 : decode cX10_comes 85 = .ok (.iload_n 3, 1) := by decide +kernel
theorem dX10_comes_86 : decode cX10_comes 86 = .ok (.iadd, 1) := by decide +kernel
theorem dX10_comes_87 : decode cX10_comes 87 = .ok (.iastore, 1) := by decide +kernel
theorem dX10_comes_88 : decode cX10_comes 88 = .ok (.aload_n 0, 1) := by decide +kernel
theorem dX10_comes_89 : decode cX10_comes 89 = .ok (.getfield 7, 3) := by decide +kernel
theorem dX10_comes_92 : decode cX10_comes 92 = .ok (.sipush 350, 3) := by decide +kernel
theorem dX10_comes_95 : decode cX10_comes 95 = .ok (.iload 4, 2) := by decide +kernel
theorem dX10_comes_97 : decode cX10_comes 97 = .ok (.iadd, 1) := by decide +kernel
theorem dX10_comes_98 : decode cX10_comes 98 = .ok (.iconst 0, 1) := by decide +kernel
theorem dX10_comes_99 : decode cX10_comes 99 = .ok (.iastore, 1) := by decide +kernel
theorem dX10_comes_100 : decode cX10_comes 100 = .ok (.aload_n 0, 1) := by decide +kernel
theorem dX10_comes_101 : decode cX10_comes 101 = .ok (.getfield 7, 3) := by decide +kernel
theorem dX10_comes_104 : decode cX10_comes 104 = .ok (.sipush 430, 3) := by decide +kernel
theorem dX10_comes_107 : decode cX10_comes 107 = .ok (.iload 4, 2) := by decide +kernel
theorem dX10_comes_109 : decode cX10_comes 109 = .ok (.iadd, 1) := by decide +kernel
theorem dX10_comes_110 : decode cX10_comes 110 = .ok (.iconst 0, 1) := by decide +kernel
theorem dX10_comes_111 : decode cX10_comes 111 = .ok (.iastore, 1) := by decide +kernel
theorem dX10_comes_112 : decode cX10_comes 112 = .ok (.aload_n 0, 1) := by decide +kernel
theorem dX10_comes_113 : decode cX10_comes 113 = .ok (.getfield 7, 3) := by decide +kernel
theorem dX10_comes_116 : decode cX10_comes 116 = .ok (.bipush 7, 2) := by decide +kernel
theorem dX10_comes_118 : decode cX10_comes 118 = .ok (.iaload, 1) := by decide +kernel
theorem dX10_comes_119 : decode cX10_comes 119 = .ok (.iconst 1, 1) := by decide +kernel
theorem dX10_comes_120 : decode cX10_comes 120 = .ok (.if_icmp .ne 63, 3) := by decide +kernel
theorem dX10_comes_123 : decode cX10_comes 123 = .ok (.iload_n 1, 1) := by decide +kernel
theorem dX10_comes_124 : decode cX10_comes 124 = .ok (.iconst 1, 1) := by decide +kernel
theorem dX10_comes_125 : decode cX10_comes 125 = .ok (.if_icmp .eq 17, 3) := by decide +kernel
theorem dX10_comes_128 : decode cX10_comes 128 = .ok (.aload_n 0, 1) := by decide +kernel
theorem dX10_comes_129 : decode cX10_comes 129 = .ok (.getfield 7, 3) := by decide +kernel
theorem dX10_comes_132 : decode cX10_comes 132 = .ok (.sipush 510, 3) := by decide +kernel
theorem dX10_comes_135 : decode cX10_comes 135 = .ok (.iload_n 2, 1) := by decide +kernel
theorem dX10_comes_136 : decode cX10_comes 136 = .ok (.iadd, 1) := by decide +kernel
theorem dX10_comes_137 : decode cX10_comes 137 = .ok (.iaload, 1) := by decide +kernel
theorem dX10_comes_138 : decode cX10_comes 138 = .ok (.iconst 1, 1) := by decide +kernel
theorem dX10_comes_139 : decode cX10_comes 139 = .ok (.if_icmp .ne 44, 3) := by decide +kernel
theorem dX10_comes_142 : decode cX10_comes 142 = .ok (.aload_n 0, 1) := by decide +kernel
theorem dX10_comes_143 : decode cX10_comes 143 = .ok (.getfield 7, 3) := by decide +kernel
theorem dX10_comes_146 : decode cX10_comes 146 = .ok (.sipush 510, 3) := by decide +kernel
theorem dX10_comes_149 : decode cX10_comes 149 = .ok (.iload_n 2, 1) := by decide +kernel
theorem dX10_comes_150 : decode cX10_comes 150 = .ok (.iadd, 1) := by decide +kernel
theorem dX10_comes_151 : decode cX10_comes 151 = .ok (.iconst 1, 1) := by decide +kernel
theorem dX10_comes_152 : decode cX10_comes 152 = .ok (.iastore, 1) := by decide +kernel
theorem dX10_comes_153 : decode cX10_comes 153 = .ok (.aload_n 0, 1) := by decide +kernel
theorem dX10_comes_154 : decode cX10_comes 154 = .ok (.getfield 7, 3) := by decide +kernel
theorem dX10_comes_157 : decode cX10_comes 157 = .ok (.sipush 350, 3) := by decide +kernel
theorem dX10_comes_160 : decode cX10_comes 160 = .ok (.iload 4, 2) := by decide +kernel
theorem dX10_comes_162 : decode cX10_comes 162 = .ok (.iadd, 1) := by decide +kernel
theorem dX10_comes_163 : decode cX10_comes 163 = .ok (.iconst 1, 1) := by decide +kernel
theorem dX10_comes_164 : decode cX10_comes 164 = .ok (.iastore, 1) := by decide +kernel
theorem dX10_comes_165 : decode cX10_comes 165 = .ok (.aload_n 0, 1) := by decide +kernel
theorem dX10_comes_166 : decode cX10_comes 166 = .ok (.getfield 7, 3) := by decide +kernel
theorem dX10_comes_169 : decode cX10_comes 169 = .ok (.sipush 430, 3) := by decide +kernel
theorem dX10_comes_172 : decode cX10_comes 172 = .ok (.iload 4, 2) := by decide +kernel
theorem dX10_comes_174 : decode cX10_comes 174 = .ok (.iadd, 1) := by decide +kernel
theorem dX10_comes_175 : decode cX10_comes 175 = .ok (.aload_n 0, 1) := by decide +kernel
theorem dX10_comes_176 : decode cX10_comes 176 = .ok (.getfield 7, 3) := by decide +kernel
theorem dX10_comes_179 : decode cX10_comes 179 = .ok (.bipush 8, 2) := by decide +kernel
theorem dX10_comes_181 : decode cX10_comes 181 = .ok (.iaload, 1) := by decide +kernel
theorem dX10_comes_182 : decode cX10_comes 182 = .ok (.iastore, 1) := by decide +kernel
theorem dX10_comes_183 : decode cX10_comes 183 = .ok (.iload 4, 2) := by decide +kernel
theorem dX10_comes_185 : decode cX10_comes 185 = .ok (.ireturn, 1) := by decide +kernel
theorem dX10_submit_0 : decode cX10_submit 0 = .ok (.aload_n 0, 1) := by decide +kernel
theorem dX10_submit_1 : decode cX10_submit 1 = .ok (.iconst 0, 1) := by decide +kernel
theorem dX10_submit_2 : decode cX10_submit 2 = .ok (.putfield 39, 3) := by decide +kernel
theorem dX10_submit_5 : decode cX10_submit 5 = .ok (.aload_n 0, 1) := by decide +kernel
theorem dX10_submit_6 : decode cX10_submit 6 = .ok (.iload_n 1, 1) := by decide +kernel
theorem dX10_submit_7 : decode cX10_submit 7 = .ok (.iload_n 2, 1) := by decide +kernel
theorem dX10_submit_8 : decode cX10_submit 8 = .ok (.iload_n 3, 1) := by decide +kernel
theorem dX10_submit_9 : decode cX10_submit 9 = .ok (.invokevirtual 106, 3) := by decide +kernel
theorem dX10_submit_12 : decode cX10_submit 12 = .ok (.istore 4, 2) := by decide +kernel
theorem dX10_submit_14 : decode cX10_submit 14 = .ok (.iload 4, 2) := by decide +kernel
theorem dX10_submit_16 : decode cX10_submit 16 = .ok (.ifCond .le 12, 3) := by decide +kernel
theorem dX10_submit_19 : decode cX10_submit 19 = .ok (.aload_n 0, 1) := by decide +kernel
theorem dX10_submit_20 : decode cX10_submit 20 = .ok (.iload 4, 2) := by decide +kernel
theorem dX10_submit_22 : decode cX10_submit 22 = .ok (.invokevirtual 78, 3) := by decide +kernel
theorem dX10_submit_25 : decode cX10_submit 25 = .ok (.goto 10, 3) := by decide +kernel
theorem dX10_submit_28 : decode cX10_submit 28 = .ok (.aload_n 0, 1) := by decide +kernel
theorem dX10_submit_29 : decode cX10_submit 29 = .ok (.iload_n 1, 1) := by decide +kernel
theorem dX10_submit_30 : decode cX10_submit 30 = .ok (.iload_n 2, 1) := by decide +kernel
theorem dX10_submit_31 : decode cX10_submit 31 = .ok (.iload_n 3, 1) := by decide +kernel
theorem dX10_submit_32 : decode cX10_submit 32 = .ok (.invokevirtual 109, 3) := by decide +kernel
theorem dX10_submit_35 : decode cX10_submit 35 = .ok (.ireturn, 1) := by decide +kernel
theorem dX10_appendCharacter_0 : decode cX10_appendCharacter 0 = .ok (.aload_n 0, 1) := by decide +kernel
theorem dX10_appendCharacter_1 : decode cX10_appendCharacter 1 = .ok (.iconst 0, 1) := by decide +kernel
theorem dX10_appendCharacter_2 : decode cX10_appendCharacter 2 = .ok (.putfield 39, 3) := by decide +kernel
theorem dX10_appendCharacter_5 : decode cX10_appendCharacter 5 = .ok (.iload_n 1, 1) := by decide +kernel
theorem dX10_appendCharacter_6 : decode cX10_appendCharacter 6 = .ok (.bipush 33, 2) := by decide +kernel
theorem dX10_appendCharacter_8 : decode cX10_appendCharacter 8 = .ok (.bipush 126, 2) := by decide +kernel
theorem dX10_appendCharacter_10 : decode cX10_appendCharacter 10 = .ok (.invokestatic 42, 3) := by decide +kernel
theorem dX10_appendCharacter_13 : decode cX10_appendCharacter 13 = .ok (.ifCond .ne 9, 3) := by decide +kernel
theorem dX10_appendCharacter_16 : decode cX10_appendCharacter 16 = .ok (.aload_n 0, 1) := by decide +kernel
theorem dX10_appendCharacter_17 : decode cX10_appendCharacter 17 = .ok (.iconst 1, 1) := by decide +kernel
theorem dX10_appendCharacter_18 : decode cX10_appendCharacter 18 = .ok (.invokevirtual 78, 3) := by decide +kernel
theorem dX10_appendCharacter_21 : decode cX10_appendCharacter 21 = .ok (.ireturn, 1) := by decide +kernel
theorem dX10_appendCharacter_22 : decode cX10_appendCharacter 22 = .ok (.aload_n 0, 1) := by decide +kernel
theorem dX10_appendCharacter_23 : decode cX10_appendCharacter 23 = .ok (.getfield 112, 3) := by decide +kernel
theorem dX10_appendCharacter_26 : decode cX10_appendCharacter 26 = .ok (.bipush 40, 2) := by decide +kernel
theorem dX10_appendCharacter_28 : decode cX10_appendCharacter 28 = .ok (.if_icmp .ne 9, 3) := by decide +kernel
theorem dX10_appendCharacter_31 : decode cX10_appendCharacter 31 = .ok (.aload_n 0, 1) := by decide +kernel
theorem dX10_appendCharacter_32 : decode cX10_appendCharacter 32 = .ok (.iconst 2, 1) := by decide +kernel
theorem dX10_appendCharacter_33 : decode cX10_appendCharacter 33 = .ok (.invokevirtual 78, 3) := by decide +kernel
theorem dX10_appendCharacter_36 : decode cX10_appendCharacter 36 = .ok (.ireturn, 1) := by decide +kernel
theorem dX10_appendCharacter_37 : decode cX10_appendCharacter 37 = .ok (.aload_n 0, 1) := by decide +kernel
theorem dX10_appendCharacter_38 : decode cX10_appendCharacter 38 = .ok (.getfield 16, 3) := by decide +kernel
theorem dX10_appendCharacter_41 : decode cX10_appendCharacter 41 = .ok (.aload_n 0, 1) := by decide +kernel
theorem dX10_appendCharacter_42 : decode cX10_appendCharacter 42 = .ok (.getfield 112, 3) := by decide +kernel
theorem dX10_appendCharacter_45 : decode cX10_appendCharacter 45 = .ok (.iload_n 1, 1) := by decide +kernel
theorem dX10_appendCharacter_46 : decode cX10_appendCharacter 46 = .ok (.iastore, 1) := by decide +kernel
theorem dX10_appendCharacter_47 : decode cX10_appendCharacter 47 = .ok (.aload_n 0, 1) := by decide +kernel
theorem dX10_appendCharacter_48 : decode cX10_appendCharacter 48 = .ok (.dup, 1) := by decide +kernel
theorem dX10_appendCharacter_49 : decode cX10_appendCharacter 49 = .ok (.getfield 112, 3) := by decide +kernel
theorem dX10_appendCharacter_52 : decode cX10_appendCharacter 52 = .ok (.iconst 1, 1) := by decide +kernel
theorem dX10_appendCharacter_53 : decode cX10_appendCharacter 53 = .ok (.iadd, 1) := by decide +kernel
theorem dX10_appendCharacter_54 : decode cX10_appendCharacter 54 = .ok (.putfield 112, 3) := by decide +kernel
theorem dX10_appendCharacter_57 : decode cX10_appendCharacter 57 = .ok (.aload_n 0, 1) := by decide +kernel
theorem dX10_appendCharacter_58 : decode cX10_appendCharacter 58 = .ok (.getfield 112, 3) := by decide +kernel
theorem dX10_appendCharacter_61 : decode cX10_appendCharacter 61 = .ok (.ireturn, 1) := by decide +kernel
theorem dX10_here_0 : decode cX10_here 0 = .ok (.aload_n 0, 1) := by decide +kernel
theorem dX10_here_1 : decode cX10_here 1 = .ok (.getfield 115, 3) := by decide +kernel
theorem dX10_here_4 : decode cX10_here 4 = .ok (.aload_n 0, 1) := by decide +kernel
theorem dX10_here_5 : decode cX10_here 5 = .ok (.getfield 112, 3) := by decide +kernel
theorem dX10_here_8 : decode cX10_here 8 = .ok (.if_icmp .ge 15, 3) := by decide +kernel
theorem dX10_here_11 : decode cX10_here 11 = .ok (.aload_n 0, 1) := by decide +kernel
theorem dX10_here_12 : decode cX10_here 12 = .ok (.getfield 16, 3) := by decide +kernel
theorem dX10_here_15 : decode cX10_here 15 = .ok (.aload_n 0, 1) := by decide +kernel
theorem dX10_here_16 : decode cX10_here 16 = .ok (.getfield 115, 3) := by decide +kernel
theorem dX10_here_19 : decode cX10_here 19 = .ok (.iaload, 1) := by decide +kernel
theorem dX10_here_20 : decode cX10_here 20 = .ok (.goto 4, 3) := by decide +kernel
theorem dX10_here_23 : decode cX10_here 23 = .ok (.iconst (-1), 1) := by decide +kernel
theorem dX10_here_24 : decode cX10_here 24 = .ok (.ireturn, 1) := by decide +kernel
theorem dX10_skips_0 : decode cX10_skips 0 = .ok (.aload_n 0, 1) := by decide +kernel
theorem dX10_skips_1 : decode cX10_skips 1 = .ok (.invokevirtual 118, 3) := by decide +kernel
theorem dX10_skips_4 : decode cX10_skips 4 = .ok (.iload_n 1, 1) := by decide +kernel
theorem dX10_skips_5 : decode cX10_skips 5 = .ok (.if_icmp .eq 5, 3) := by decide +kernel
theorem dX10_skips_8 : decode cX10_skips 8 = .ok (.iconst 0, 1) := by decide +kernel
theorem dX10_skips_9 : decode cX10_skips 9 = .ok (.ireturn, 1) := by decide +kernel
theorem dX10_skips_10 : decode cX10_skips 10 = .ok (.aload_n 0, 1) := by decide +kernel
theorem dX10_skips_11 : decode cX10_skips 11 = .ok (.dup, 1) := by decide +kernel
theorem dX10_skips_12 : decode cX10_skips 12 = .ok (.getfield 115, 3) := by decide +kernel
theorem dX10_skips_15 : decode cX10_skips 15 = .ok (.iconst 1, 1) := by decide +kernel
theorem dX10_skips_16 : decode cX10_skips 16 = .ok (.iadd, 1) := by decide +kernel
theorem dX10_skips_17 : decode cX10_skips 17 = .ok (.putfield 115, 3) := by decide +kernel
theorem dX10_skips_20 : decode cX10_skips 20 = .ok (.iconst 1, 1) := by decide +kernel
theorem dX10_skips_21 : decode cX10_skips 21 = .ok (.ireturn, 1) := by decide +kernel
theorem dX10_digits_0 : decode cX10_digits 0 = .ok (.aload_n 0, 1) := by decide +kernel
theorem dX10_digits_1 : decode cX10_digits 1 = .ok (.iconst 0, 1) := by decide +kernel
theorem dX10_digits_2 : decode cX10_digits 2 = .ok (.putfield 121, 3) := by decide +kernel
theorem dX10_digits_5 : decode cX10_digits 5 = .ok (.iconst 0, 1) := by decide +kernel
theorem dX10_digits_6 : decode cX10_digits 6 = .ok (.istore_n 2, 1) := by decide +kernel
theorem dX10_digits_7 : decode cX10_digits 7 = .ok (.iload_n 2, 1) := by decide +kernel
theorem dX10_digits_8 : decode cX10_digits 8 = .ok (.iload_n 1, 1) := by decide +kernel
theorem dX10_digits_9 : decode cX10_digits 9 = .ok (.if_icmp .ge 52, 3) := by decide +kernel
theorem dX10_digits_12 : decode cX10_digits 12 = .ok (.aload_n 0, 1) := by decide +kernel
theorem dX10_digits_13 : decode cX10_digits 13 = .ok (.invokevirtual 118, 3) := by decide +kernel
theorem dX10_digits_16 : decode cX10_digits 16 = .ok (.bipush 48, 2) := by decide +kernel
theorem dX10_digits_18 : decode cX10_digits 18 = .ok (.bipush 57, 2) := by decide +kernel
theorem dX10_digits_20 : decode cX10_digits 20 = .ok (.invokestatic 42, 3) := by decide +kernel
theorem dX10_digits_23 : decode cX10_digits 23 = .ok (.ifCond .eq 38, 3) := by decide +kernel
theorem dX10_digits_26 : decode cX10_digits 26 = .ok (.aload_n 0, 1) := by decide +kernel
theorem dX10_digits_27 : decode cX10_digits 27 = .ok (.bipush 10, 2) := by decide +kernel
theorem dX10_digits_29 : decode cX10_digits 29 = .ok (.aload_n 0, 1) := by decide +kernel
theorem dX10_digits_30 : decode cX10_digits 30 = .ok (.getfield 121, 3) := by decide +kernel
theorem dX10_digits_33 : decode cX10_digits 33 = .ok (.imul, 1) := by decide +kernel
theorem dX10_digits_34 : decode cX10_digits 34 = .ok (.aload_n 0, 1) := by decide +kernel
theorem dX10_digits_35 : decode cX10_digits 35 = .ok (.invokevirtual 118, 3) := by decide +kernel
theorem dX10_digits_38 : decode cX10_digits 38 = .ok (.iadd, 1) := by decide +kernel
theorem dX10_digits_39 : decode cX10_digits 39 = .ok (.bipush 48, 2) := by decide +kernel
theorem dX10_digits_41 : decode cX10_digits 41 = .ok (.isub, 1) := by decide +kernel
theorem dX10_digits_42 : decode cX10_digits 42 = .ok (.putfield 121, 3) := by decide +kernel
theorem dX10_digits_45 : decode cX10_digits 45 = .ok (.aload_n 0, 1) := by decide +kernel
theorem dX10_digits_46 : decode cX10_digits 46 = .ok (.dup, 1) := by decide +kernel
theorem dX10_digits_47 : decode cX10_digits 47 = .ok (.getfield 115, 3) := by decide +kernel
theorem dX10_digits_50 : decode cX10_digits 50 = .ok (.iconst 1, 1) := by decide +kernel
theorem dX10_digits_51 : decode cX10_digits 51 = .ok (.iadd, 1) := by decide +kernel
theorem dX10_digits_52 : decode cX10_digits 52 = .ok (.putfield 115, 3) := by decide +kernel
theorem dX10_digits_55 : decode cX10_digits 55 = .ok (.iinc 2 1, 3) := by decide +kernel
theorem dX10_digits_58 : decode cX10_digits 58 = .ok (.goto (-51), 3) := by decide +kernel
theorem dX10_digits_61 : decode cX10_digits 61 = .ok (.iload_n 2, 1) := by decide +kernel
theorem dX10_digits_62 : decode cX10_digits 62 = .ok (.ifCond .le 7, 3) := by decide +kernel
theorem dX10_digits_65 : decode cX10_digits 65 = .ok (.iconst 1, 1) := by decide +kernel
theorem dX10_digits_66 : decode cX10_digits 66 = .ok (.goto 4, 3) := by decide +kernel
theorem dX10_digits_69 : decode cX10_digits 69 = .ok (.iconst 0, 1) := by decide +kernel
theorem dX10_digits_70 : decode cX10_digits 70 = .ok (.ireturn, 1) := by decide +kernel
theorem dX10_isItem_0 : decode cX10_isItem 0 = .ok (.aload_n 0, 1) := by decide +kernel
theorem dX10_isItem_1 : decode cX10_isItem 1 = .ok (.invokevirtual 118, 3) := by decide +kernel
theorem dX10_isItem_4 : decode cX10_isItem 4 = .ok (.bipush 119, 2) := by decide +kernel
theorem dX10_isItem_6 : decode cX10_isItem 6 = .ok (.if_icmp .ne 7, 3) := by decide +kernel
theorem dX10_isItem_9 : decode cX10_isItem 9 = .ok (.iconst 1, 1) := by decide +kernel
theorem dX10_isItem_10 : decode cX10_isItem 10 = .ok (.goto 4, 3) := by decide +kernel
theorem dX10_isItem_13 : decode cX10_isItem 13 = .ok (.iconst 0, 1) := by decide +kernel
theorem dX10_isItem_14 : decode cX10_isItem 14 = .ok (.istore_n 1, 1) := by decide +kernel
theorem dX10_isItem_15 : decode cX10_isItem 15 = .ok (.aload_n 0, 1) := by decide +kernel
theorem dX10_isItem_16 : decode cX10_isItem 16 = .ok (.bipush 114, 2) := by decide +kernel
theorem dX10_isItem_18 : decode cX10_isItem 18 = .ok (.invokevirtual 124, 3) := by decide +kernel
theorem dX10_isItem_21 : decode cX10_isItem 21 = .ok (.ifCond .ne 12, 3) := by decide +kernel
theorem dX10_isItem_24 : decode cX10_isItem 24 = .ok (.aload_n 0, 1) := by decide +kernel
theorem dX10_isItem_25 : decode cX10_isItem 25 = .ok (.bipush 119, 2) := by decide +kernel
theorem dX10_isItem_27 : decode cX10_isItem 27 = .ok (.invokevirtual 124, 3) := by decide +kernel
theorem dX10_isItem_30 : decode cX10_isItem 30 = .ok (.ifCond .eq 11, 3) := by decide +kernel
theorem dX10_isItem_33 : decode cX10_isItem 33 = .ok (.aload_n 0, 1) := by decide +kernel
theorem dX10_isItem_34 : decode cX10_isItem 34 = .ok (.iconst 3, 1) := by decide +kernel
theorem dX10_isItem_35 : decode cX10_isItem 35 = .ok (.invokevirtual 127, 3) := by decide +kernel
theorem dX10_isItem_38 : decode cX10_isItem 38 = .ok (.ifCond .ne 5, 3) := by decide +kernel
theorem dX10_isItem_41 : decode cX10_isItem 41 = .ok (.iconst 0, 1) := by decide +kernel
theorem dX10_isItem_42 : decode cX10_isItem 42 = .ok (.ireturn, 1) := by decide +kernel
theorem dX10_isItem_43 : decode cX10_isItem 43 = .ok (.aload_n 0, 1) := by decide +kernel
theorem dX10_isItem_44 : decode cX10_isItem 44 = .ok (.getfield 23, 3) := by decide +kernel
theorem dX10_isItem_47 : decode cX10_isItem 47 = .ok (.iconst 3, 1) := by decide +kernel
theorem dX10_isItem_48 : decode cX10_isItem 48 = .ok (.aload_n 0, 1) := by decide +kernel
theorem dX10_isItem_49 : decode cX10_isItem 49 = .ok (.getfield 130, 3) := by decide +kernel
theorem dX10_isItem_52 : decode cX10_isItem 52 = .ok (.imul, 1) := by decide +kernel
theorem dX10_isItem_53 : decode cX10_isItem 53 = .ok (.iload_n 1, 1) := by decide +kernel
theorem dX10_isItem_54 : decode cX10_isItem 54 = .ok (.iastore, 1) := by decide +kernel
theorem dX10_isItem_55 : decode cX10_isItem 55 = .ok (.aload_n 0, 1) := by decide +kernel
theorem dX10_isItem_56 : decode cX10_isItem 56 = .ok (.getfield 23, 3) := by decide +kernel
theorem dX10_isItem_59 : decode cX10_isItem 59 = .ok (.iconst 3, 1) := by decide +kernel
theorem dX10_isItem_60 : decode cX10_isItem 60 = .ok (.aload_n 0, 1) := by decide +kernel
theorem dX10_isItem_61 : decode cX10_isItem 61 = .ok (.getfield 130, 3) := by decide +kernel
theorem dX10_isItem_64 : decode cX10_isItem 64 = .ok (.imul, 1) := by decide +kernel
theorem dX10_isItem_65 : decode cX10_isItem 65 = .ok (.iconst 1, 1) := by decide +kernel
theorem dX10_isItem_66 : decode cX10_isItem 66 = .ok (.iadd, 1) := by decide +kernel
theorem dX10_isItem_67 : decode cX10_isItem 67 = .ok (.aload_n 0, 1) := by decide +kernel
theorem dX10_isItem_68 : decode cX10_isItem 68 = .ok (.getfield 121, 3) := by decide +kernel
theorem dX10_isItem_71 : decode cX10_isItem 71 = .ok (.iastore, 1) := by decide +kernel
theorem dX10_isItem_72 : decode cX10_isItem 72 = .ok (.aload_n 0, 1) := by decide +kernel
theorem dX10_isItem_73 : decode cX10_isItem 73 = .ok (.getfield 23, 3) := by decide +kernel
theorem dX10_isItem_76 : decode cX10_isItem 76 = .ok (.iconst 3, 1) := by decide +kernel
theorem dX10_isItem_77 : decode cX10_isItem 77 = .ok (.aload_n 0, 1) := by decide +kernel
theorem dX10_isItem_78 : decode cX10_isItem 78 = .ok (.getfield 130, 3) := by decide +kernel
theorem dX10_isItem_81 : decode cX10_isItem 81 = .ok (.imul, 1) := by decide +kernel
theorem dX10_isItem_82 : decode cX10_isItem 82 = .ok (.iconst 2, 1) := by decide +kernel
theorem dX10_isItem_83 : decode cX10_isItem 83 = .ok (.iadd, 1) := by decide +kernel
theorem dX10_isItem_84 : decode cX10_isItem 84 = .ok (.iconst 0, 1) := by decide +kernel
theorem dX10_isItem_85 : decode cX10_isItem 85 = .ok (.iastore, 1) := by decide +kernel
theorem dX10_isItem_86 : decode cX10_isItem 86 = .ok (.aload_n 0, 1) := by decide +kernel
theorem dX10_isItem_87 : decode cX10_isItem 87 = .ok (.bipush 64, 2) := by decide +kernel
theorem dX10_isItem_89 : decode cX10_isItem 89 = .ok (.invokevirtual 124, 3) := by decide +kernel
theorem dX10_isItem_92 : decode cX10_isItem 92 = .ok (.ifCond .eq 30, 3) := by decide +kernel
theorem dX10_isItem_95 : decode cX10_isItem 95 = .ok (.aload_n 0, 1) := by decide +kernel
theorem dX10_isItem_96 : decode cX10_isItem 96 = .ok (.iconst 4, 1) := by decide +kernel
theorem dX10_isItem_97 : decode cX10_isItem 97 = .ok (.invokevirtual 127, 3) := by decide +kernel
theorem dX10_isItem_100 : decode cX10_isItem 100 = .ok (.ifCond .ne 5, 3) := by decide +kernel
theorem dX10_isItem_103 : decode cX10_isItem 103 = .ok (.iconst 0, 1) := by decide +kernel
theorem dX10_isItem_104 : decode cX10_isItem 104 = .ok (.ireturn, 1) := by decide +kernel
theorem dX10_isItem_105 : decode cX10_isItem 105 = .ok (.aload_n 0, 1) := by decide +kernel
theorem dX10_isItem_106 : decode cX10_isItem 106 = .ok (.getfield 23, 3) := by decide +kernel
theorem dX10_isItem_109 : decode cX10_isItem 109 = .ok (.iconst 3, 1) := by decide +kernel
theorem dX10_isItem_110 : decode cX10_isItem 110 = .ok (.aload_n 0, 1) := by decide +kernel
theorem dX10_isItem_111 : decode cX10_isItem 111 = .ok (.getfield 130, 3) := by decide +kernel
theorem dX10_isItem_114 : decode cX10_isItem 114 = .ok (.imul, 1) := by decide +kernel
theorem dX10_isItem_115 : decode cX10_isItem 115 = .ok (.iconst 2, 1) := by decide +kernel
theorem dX10_isItem_116 : decode cX10_isItem 116 = .ok (.iadd, 1) := by decide +kernel
theorem dX10_isItem_117 : decode cX10_isItem 117 = .ok (.aload_n 0, 1) := by decide +kernel
theorem dX10_isItem_118 : decode cX10_isItem 118 = .ok (.getfield 121, 3) := by decide +kernel
theorem dX10_isItem_121 : decode cX10_isItem 121 = .ok (.iastore, 1) := by decide +kernel
theorem dX10_isItem_122 : decode cX10_isItem 122 = .ok (.aload_n 0, 1) := by decide +kernel
theorem dX10_isItem_123 : decode cX10_isItem 123 = .ok (.dup, 1) := by decide +kernel
theorem dX10_isItem_124 : decode cX10_isItem 124 = .ok (.getfield 130, 3) := by decide +kernel
theorem dX10_isItem_127 : decode cX10_isItem 127 = .ok (.iconst 1, 1) := by decide +kernel
theorem dX10_isItem_128 : decode cX10_isItem 128 = .ok (.iadd, 1) := by decide +kernel
theorem dX10_isItem_129 : decode cX10_isItem 129 = .ok (.putfield 130, 3) := by decide +kernel
theorem dX10_isItem_132 : decode cX10_isItem 132 = .ok (.iconst 1, 1) := by decide +kernel
theorem dX10_isItem_133 : decode cX10_isItem 133 = .ok (.ireturn, 1) := by decide +kernel
theorem dX10_faultOf_0 : decode cX10_faultOf 0 = .ok (.aload_n 0, 1) := by decide +kernel
theorem dX10_faultOf_1 : decode cX10_faultOf 1 = .ok (.iconst 0, 1) := by decide +kernel
theorem dX10_faultOf_2 : decode cX10_faultOf 2 = .ok (.putfield 115, 3) := by decide +kernel
theorem dX10_faultOf_5 : decode cX10_faultOf 5 = .ok (.aload_n 0, 1) := by decide +kernel
theorem dX10_faultOf_6 : decode cX10_faultOf 6 = .ok (.iconst 0, 1) := by decide +kernel
theorem dX10_faultOf_7 : decode cX10_faultOf 7 = .ok (.putfield 130, 3) := by decide +kernel
theorem dX10_faultOf_10 : decode cX10_faultOf 10 = .ok (.aload_n 0, 1) := by decide +kernel
theorem dX10_faultOf_11 : decode cX10_faultOf 11 = .ok (.invokevirtual 133, 3) := by decide +kernel
theorem dX10_faultOf_14 : decode cX10_faultOf 14 = .ok (.ifCond .ne 8, 3) := by decide +kernel
theorem dX10_faultOf_17 : decode cX10_faultOf 17 = .ok (.aload_n 0, 1) := by decide +kernel
theorem dX10_faultOf_18 : decode cX10_faultOf 18 = .ok (.getfield 115, 3) := by decide +kernel
theorem dX10_faultOf_21 : decode cX10_faultOf 21 = .ok (.ireturn, 1) := by decide +kernel
theorem dX10_faultOf_22 : decode cX10_faultOf 22 = .ok (.aload_n 0, 1) := by decide +kernel
theorem dX10_faultOf_23 : decode cX10_faultOf 23 = .ok (.bipush 44, 2) := by decide +kernel
theorem dX10_faultOf_25 : decode cX10_faultOf 25 = .ok (.invokevirtual 124, 3) := by decide +kernel
theorem dX10_faultOf_28 : decode cX10_faultOf 28 = .ok (.ifCond .ne (-18), 3) := by decide +kernel
theorem dX10_faultOf_31 : decode cX10_faultOf 31 = .ok (.aload_n 0, 1) := by decide +kernel
theorem dX10_faultOf_32 : decode cX10_faultOf 32 = .ok (.getfield 115, 3) := by decide +kernel
theorem dX10_faultOf_35 : decode cX10_faultOf 35 = .ok (.aload_n 0, 1) := by decide +kernel
theorem dX10_faultOf_36 : decode cX10_faultOf 36 = .ok (.getfield 112, 3) := by decide +kernel
theorem dX10_faultOf_39 : decode cX10_faultOf 39 = .ok (.if_icmp .ge 10, 3) := by decide +kernel
theorem dX10_faultOf_42 : decode cX10_faultOf 42 = .ok (.aload_n 0, 1) := by decide +kernel
theorem dX10_faultOf_43 : decode cX10_faultOf 43 = .ok (.getfield 115, 3) := by decide +kernel
theorem dX10_faultOf_46 : decode cX10_faultOf 46 = .ok (.goto 4, 3) := by decide +kernel
theorem dX10_faultOf_49 : decode cX10_faultOf 49 = .ok (.iconst (-1), 1) := by decide +kernel
theorem dX10_faultOf_50 : decode cX10_faultOf 50 = .ok (.ireturn, 1) := by decide +kernel
theorem dX10_submitText_0 : decode cX10_submitText 0 = .ok (.aload_n 0, 1) := by decide +kernel
theorem dX10_submitText_1 : decode cX10_submitText 1 = .ok (.iconst 0, 1) := by decide +kernel
theorem dX10_submitText_2 : decode cX10_submitText 2 = .ok (.putfield 39, 3) := by decide +kernel
theorem dX10_submitText_5 : decode cX10_submitText 5 = .ok (.aload_n 0, 1) := by decide +kernel
theorem dX10_submitText_6 : decode cX10_submitText 6 = .ok (.aload_n 0, 1) := by decide +kernel
theorem dX10_submitText_7 : decode cX10_submitText 7 = .ok (.invokevirtual 137, 3) := by decide +kernel
theorem dX10_submitText_10 : decode cX10_submitText 10 = .ok (.putfield 19, 3) := by decide +kernel
theorem dX10_submitText_13 : decode cX10_submitText 13 = .ok (.aload_n 0, 1) := by decide +kernel
theorem dX10_submitText_14 : decode cX10_submitText 14 = .ok (.iconst 0, 1) := by decide +kernel
theorem dX10_submitText_15 : decode cX10_submitText 15 = .ok (.putfield 112, 3) := by decide +kernel
theorem dX10_submitText_18 : decode cX10_submitText 18 = .ok (.aload_n 0, 1) := by decide +kernel
theorem dX10_submitText_19 : decode cX10_submitText 19 = .ok (.getfield 19, 3) := by decide +kernel
theorem dX10_submitText_22 : decode cX10_submitText 22 = .ok (.ifCond .lt 9, 3) := by decide +kernel
theorem dX10_submitText_25 : decode cX10_submitText 25 = .ok (.aload_n 0, 1) := by decide +kernel
theorem dX10_submitText_26 : decode cX10_submitText 26 = .ok (.iconst 1, 1) := by decide +kernel
theorem dX10_submitText_27 : decode cX10_submitText 27 = .ok (.invokevirtual 78, 3) := by decide +kernel
theorem dX10_submitText_30 : decode cX10_submitText 30 = .ok (.ireturn, 1) := by decide +kernel
theorem dX10_submitText_31 : decode cX10_submitText 31 = .ok (.iconst 0, 1) := by decide +kernel
theorem dX10_submitText_32 : decode cX10_submitText 32 = .ok (.istore_n 1, 1) := by decide +kernel
theorem dX10_submitText_33 : decode cX10_submitText 33 = .ok (.iconst 0, 1) := by decide +kernel
theorem dX10_submitText_34 : decode cX10_submitText 34 = .ok (.istore_n 2, 1) := by decide +kernel
theorem dX10_submitText_35 : decode cX10_submitText 35 = .ok (.iload_n 2, 1) := by decide +kernel
theorem dX10_submitText_36 : decode cX10_submitText 36 = .ok (.aload_n 0, 1) := by decide +kernel
theorem dX10_submitText_37 : decode cX10_submitText 37 = .ok (.getfield 130, 3) := by decide +kernel
theorem dX10_submitText_40 : decode cX10_submitText 40 = .ok (.if_icmp .ge 80, 3) := by decide +kernel
theorem dX10_submitText_43 : decode cX10_submitText 43 = .ok (.aload_n 0, 1) := by decide +kernel
theorem dX10_submitText_44 : decode cX10_submitText 44 = .ok (.aload_n 0, 1) := by decide +kernel
theorem dX10_submitText_45 : decode cX10_submitText 45 = .ok (.getfield 23, 3) := by decide +kernel
theorem dX10_submitText_48 : decode cX10_submitText 48 = .ok (.iconst 3, 1) := by decide +kernel
theorem dX10_submitText_49 : decode cX10_submitText 49 = .ok (.iload_n 2, 1) := by decide +kernel
theorem dX10_submitText_50 : decode cX10_submitText 50 = .ok (.imul, 1) := by decide +kernel
theorem dX10_submitText_51 : decode cX10_submitText 51 = .ok (.iaload, 1) := by decide +kernel
theorem dX10_submitText_52 : decode cX10_submitText 52 = .ok (.aload_n 0, 1) := by decide +kernel
theorem dX10_submitText_53 : decode cX10_submitText 53 = .ok (.getfield 23, 3) := by decide +kernel
theorem dX10_submitText_56 : decode cX10_submitText 56 = .ok (.iconst 3, 1) := by decide +kernel
theorem dX10_submitText_57 : decode cX10_submitText 57 = .ok (.iload_n 2, 1) := by decide +kernel
theorem dX10_submitText_58 : decode cX10_submitText 58 = .ok (.imul, 1) := by decide +kernel
theorem dX10_submitText_59 : decode cX10_submitText 59 = .ok (.iconst 1, 1) := by decide +kernel
theorem dX10_submitText_60 : decode cX10_submitText 60 = .ok (.iadd, 1) := by decide +kernel
theorem dX10_submitText_61 : decode cX10_submitText 61 = .ok (.iaload, 1) := by decide +kernel
theorem dX10_submitText_62 : decode cX10_submitText 62 = .ok (.aload_n 0, 1) := by decide +kernel
theorem dX10_submitText_63 : decode cX10_submitText 63 = .ok (.getfield 23, 3) := by decide +kernel
theorem dX10_submitText_66 : decode cX10_submitText 66 = .ok (.iconst 3, 1) := by decide +kernel
theorem dX10_submitText_67 : decode cX10_submitText 67 = .ok (.iload_n 2, 1) := by decide +kernel
theorem dX10_submitText_68 : decode cX10_submitText 68 = .ok (.imul, 1) := by decide +kernel
theorem dX10_submitText_69 : decode cX10_submitText 69 = .ok (.iconst 2, 1) := by decide +kernel
theorem dX10_submitText_70 : decode cX10_submitText 70 = .ok (.iadd, 1) := by decide +kernel
theorem dX10_submitText_71 : decode cX10_submitText 71 = .ok (.iaload, 1) := by decide +kernel
theorem dX10_submitText_72 : decode cX10_submitText 72 = .ok (.invokevirtual 106, 3) := by decide +kernel
theorem dX10_submitText_75 : decode cX10_submitText 75 = .ok (.ifCond .ne 39, 3) := by decide +kernel
theorem dX10_submitText_78 : decode cX10_submitText 78 = .ok (.aload_n 0, 1) := by decide +kernel
theorem dX10_submitText_79 : decode cX10_submitText 79 = .ok (.aload_n 0, 1) := by decide +kernel
theorem dX10_submitText_80 : decode cX10_submitText 80 = .ok (.getfield 23, 3) := by decide +kernel
theorem dX10_submitText_83 : decode cX10_submitText 83 = .ok (.iconst 3, 1) := by decide +kernel
theorem dX10_submitText_84 : decode cX10_submitText 84 = .ok (.iload_n 2, 1) := by decide +kernel
theorem dX10_submitText_85 : decode cX10_submitText 85 = .ok (.imul, 1) := by decide +kernel
theorem dX10_submitText_86 : decode cX10_submitText 86 = .ok (.iaload, 1) := by decide +kernel
theorem dX10_submitText_87 : decode cX10_submitText 87 = .ok (.aload_n 0, 1) := by decide +kernel
theorem dX10_submitText_88 : decode cX10_submitText 88 = .ok (.getfield 23, 3) := by decide +kernel
theorem dX10_submitText_91 : decode cX10_submitText 91 = .ok (.iconst 3, 1) := by decide +kernel
theorem dX10_submitText_92 : decode cX10_submitText 92 = .ok (.iload_n 2, 1) := by decide +kernel
theorem dX10_submitText_93 : decode cX10_submitText 93 = .ok (.imul, 1) := by decide +kernel
theorem dX10_submitText_94 : decode cX10_submitText 94 = .ok (.iconst 1, 1) := by decide +kernel
theorem dX10_submitText_95 : decode cX10_submitText 95 = .ok (.iadd, 1) := by decide +kernel
theorem dX10_submitText_96 : decode cX10_submitText 96 = .ok (.iaload, 1) := by decide +kernel
theorem dX10_submitText_97 : decode cX10_submitText 97 = .ok (.aload_n 0, 1) := by decide +kernel
theorem dX10_submitText_98 : decode cX10_submitText 98 = .ok (.getfield 23, 3) := by decide +kernel
theorem dX10_submitText_101 : decode cX10_submitText 101 = .ok (.iconst 3, 1) := by decide +kernel
theorem dX10_submitText_102 : decode cX10_submitText 102 = .ok (.iload_n 2, 1) := by decide +kernel
theorem dX10_submitText_103 : decode cX10_submitText 103 = .ok (.imul, 1) := by decide +kernel
theorem dX10_submitText_104 : decode cX10_submitText 104 = .ok (.iconst 2, 1) := by decide +kernel
theorem dX10_submitText_105 : decode cX10_submitText 105 = .ok (.iadd, 1) := by decide +kernel
theorem dX10_submitText_106 : decode cX10_submitText 106 = .ok (.iaload, 1) := by decide +kernel
theorem dX10_submitText_107 : decode cX10_submitText 107 = .ok (.invokevirtual 109, 3) := by decide +kernel
theorem dX10_submitText_110 : decode cX10_submitText 110 = .ok (.pop, 1) := by decide +kernel
theorem dX10_submitText_111 : decode cX10_submitText 111 = .ok (.iinc 1 1, 3) := by decide +kernel
theorem dX10_submitText_114 : decode cX10_submitText 114 = .ok (.iinc 2 1, 3) := by decide +kernel
theorem dX10_submitText_117 : decode cX10_submitText 117 = .ok (.goto (-82), 3) := by decide +kernel
theorem dX10_submitText_120 : decode cX10_submitText 120 = .ok (.iload_n 1, 1) := by decide +kernel
theorem dX10_submitText_121 : decode cX10_submitText 121 = .ok (.ireturn, 1) := by decide +kernel
theorem dX10_faultPosition_0 : decode cX10_faultPosition 0 = .ok (.aload_n 0, 1) := by decide +kernel
theorem dX10_faultPosition_1 : decode cX10_faultPosition 1 = .ok (.iconst 0, 1) := by decide +kernel
theorem dX10_faultPosition_2 : decode cX10_faultPosition 2 = .ok (.putfield 39, 3) := by decide +kernel
theorem dX10_faultPosition_5 : decode cX10_faultPosition 5 = .ok (.aload_n 0, 1) := by decide +kernel
theorem dX10_faultPosition_6 : decode cX10_faultPosition 6 = .ok (.getfield 19, 3) := by decide +kernel
theorem dX10_faultPosition_9 : decode cX10_faultPosition 9 = .ok (.ireturn, 1) := by decide +kernel
theorem dX10_cancel_0 : decode cX10_cancel 0 = .ok (.aload_n 0, 1) := by decide +kernel
theorem dX10_cancel_1 : decode cX10_cancel 1 = .ok (.aload_n 0, 1) := by decide +kernel
theorem dX10_cancel_2 : decode cX10_cancel 2 = .ok (.iload_n 1, 1) := by decide +kernel
theorem dX10_cancel_3 : decode cX10_cancel 3 = .ok (.invokevirtual 140, 3) := by decide +kernel
theorem dX10_cancel_6 : decode cX10_cancel 6 = .ok (.ifCond .eq 19, 3) := by decide +kernel
theorem dX10_cancel_9 : decode cX10_cancel 9 = .ok (.aload_n 0, 1) := by decide +kernel
theorem dX10_cancel_10 : decode cX10_cancel 10 = .ok (.iload_n 1, 1) := by decide +kernel
theorem dX10_cancel_11 : decode cX10_cancel 11 = .ok (.invokevirtual 100, 3) := by decide +kernel
theorem dX10_cancel_14 : decode cX10_cancel 14 = .ok (.ifCond .eq 7, 3) := by decide +kernel
theorem dX10_cancel_17 : decode cX10_cancel 17 = .ok (.iconst 0, 1) := by decide +kernel
theorem dX10_cancel_18 : decode cX10_cancel 18 = .ok (.goto 8, 3) := by decide +kernel
theorem dX10_cancel_21 : decode cX10_cancel 21 = .ok (.iconst 2, 1) := by decide +kernel
theorem dX10_cancel_22 : decode cX10_cancel 22 = .ok (.goto 4, 3) := by decide +kernel
theorem dX10_cancel_25 : decode cX10_cancel 25 = .ok (.iconst 1, 1) := by decide +kernel
theorem dX10_cancel_26 : decode cX10_cancel 26 = .ok (.putfield 39, 3) := by decide +kernel
theorem dX10_cancel_29 : decode cX10_cancel 29 = .ok (.aload_n 0, 1) := by decide +kernel
theorem dX10_cancel_30 : decode cX10_cancel 30 = .ok (.getfield 39, 3) := by decide +kernel
theorem dX10_cancel_33 : decode cX10_cancel 33 = .ok (.ifCond .ne 14, 3) := by decide +kernel
theorem dX10_cancel_36 : decode cX10_cancel 36 = .ok (.aload_n 0, 1) := by decide +kernel
theorem dX10_cancel_37 : decode cX10_cancel 37 = .ok (.getfield 7, 3) := by decide +kernel
theorem dX10_cancel_40 : decode cX10_cancel 40 = .ok (.sipush 350, 3) := by decide +kernel
theorem dX10_cancel_43 : decode cX10_cancel 43 = .ok (.iload_n 1, 1) := by decide +kernel
theorem dX10_cancel_44 : decode cX10_cancel 44 = .ok (.iadd, 1) := by decide +kernel
theorem dX10_cancel_45 : decode cX10_cancel 45 = .ok (.iconst 2, 1) := by decide +kernel
theorem dX10_cancel_46 : decode cX10_cancel 46 = .ok (.iastore, 1) := by decide +kernel
theorem dX10_cancel_47 : decode cX10_cancel 47 = .ok (.return_, 1) := by decide +kernel
theorem dX10_cylinder_0 : decode cX10_cylinder 0 = .ok (.aload_n 0, 1) := by decide +kernel
theorem dX10_cylinder_1 : decode cX10_cylinder 1 = .ok (.aload_n 0, 1) := by decide +kernel
theorem dX10_cylinder_2 : decode cX10_cylinder 2 = .ok (.getfield 7, 3) := by decide +kernel
theorem dX10_cylinder_5 : decode cX10_cylinder 5 = .ok (.bipush 110, 2) := by decide +kernel
theorem dX10_cylinder_7 : decode cX10_cylinder 7 = .ok (.iload_n 1, 1) := by decide +kernel
theorem dX10_cylinder_8 : decode cX10_cylinder 8 = .ok (.iadd, 1) := by decide +kernel
theorem dX10_cylinder_9 : decode cX10_cylinder 9 = .ok (.iaload, 1) := by decide +kernel
theorem dX10_cylinder_10 : decode cX10_cylinder 10 = .ok (.invokevirtual 89, 3) := by decide +kernel
theorem dX10_cylinder_13 : decode cX10_cylinder 13 = .ok (.invokestatic 53, 3) := by decide +kernel
theorem dX10_cylinder_16 : decode cX10_cylinder 16 = .ok (.ireturn, 1) := by decide +kernel
theorem dX10_distance_0 : decode cX10_distance 0 = .ok (.aload_n 0, 1) := by decide +kernel
theorem dX10_distance_1 : decode cX10_distance 1 = .ok (.iload_n 1, 1) := by decide +kernel
theorem dX10_distance_2 : decode cX10_distance 2 = .ok (.invokevirtual 143, 3) := by decide +kernel
theorem dX10_distance_5 : decode cX10_distance 5 = .ok (.aload_n 0, 1) := by decide +kernel
theorem dX10_distance_6 : decode cX10_distance 6 = .ok (.getfield 7, 3) := by decide +kernel
theorem dX10_distance_9 : decode cX10_distance 9 = .ok (.bipush 9, 2) := by decide +kernel
theorem dX10_distance_11 : decode cX10_distance 11 = .ok (.iaload, 1) := by decide +kernel
theorem dX10_distance_12 : decode cX10_distance 12 = .ok (.isub, 1) := by decide +kernel
theorem dX10_distance_13 : decode cX10_distance 13 = .ok (.istore_n 2, 1) := by decide +kernel
theorem dX10_distance_14 : decode cX10_distance 14 = .ok (.iload_n 2, 1) := by decide +kernel
theorem dX10_distance_15 : decode cX10_distance 15 = .ok (.ifCond .ge 8, 3) := by decide +kernel
theorem dX10_distance_18 : decode cX10_distance 18 = .ok (.iload_n 2, 1) := by decide +kernel
theorem dX10_distance_19 : decode cX10_distance 19 = .ok (.ineg, 1) := by decide +kernel
theorem dX10_distance_20 : decode cX10_distance 20 = .ok (.goto 4, 3) := by decide +kernel
theorem dX10_distance_23 : decode cX10_distance 23 = .ok (.iload_n 2, 1) := by decide +kernel
theorem dX10_distance_24 : decode cX10_distance 24 = .ok (.ireturn, 1) := by decide +kernel
theorem dX10_isAhead_0 : decode cX10_isAhead 0 = .ok (.aload_n 0, 1) := by decide +kernel
theorem dX10_isAhead_1 : decode cX10_isAhead 1 = .ok (.getfield 7, 3) := by decide +kernel
theorem dX10_isAhead_4 : decode cX10_isAhead 4 = .ok (.bipush 10, 2) := by decide +kernel
theorem dX10_isAhead_6 : decode cX10_isAhead 6 = .ok (.iaload, 1) := by decide +kernel
theorem dX10_isAhead_7 : decode cX10_isAhead 7 = .ok (.iconst 1, 1) := by decide +kernel
theorem dX10_isAhead_8 : decode cX10_isAhead 8 = .ok (.if_icmp .ne 26, 3) := by decide +kernel
theorem dX10_isAhead_11 : decode cX10_isAhead 11 = .ok (.aload_n 0, 1) := by decide +kernel
theorem dX10_isAhead_12 : decode cX10_isAhead 12 = .ok (.iload_n 1, 1) := by decide +kernel
theorem dX10_isAhead_13 : decode cX10_isAhead 13 = .ok (.invokevirtual 143, 3) := by decide +kernel
theorem dX10_isAhead_16 : decode cX10_isAhead 16 = .ok (.aload_n 0, 1) := by decide +kernel
theorem dX10_isAhead_17 : decode cX10_isAhead 17 = .ok (.getfield 7, 3) := by decide +kernel
theorem dX10_isAhead_20 : decode cX10_isAhead 20 = .ok (.bipush 9, 2) := by decide +kernel
theorem dX10_isAhead_22 : decode cX10_isAhead 22 = .ok (.iaload, 1) := by decide +kernel
theorem dX10_isAhead_23 : decode cX10_isAhead 23 = .ok (.if_icmp .lt 7, 3) := by decide +kernel
theorem dX10_isAhead_26 : decode cX10_isAhead 26 = .ok (.iconst 1, 1) := by decide +kernel
theorem dX10_isAhead_27 : decode cX10_isAhead 27 = .ok (.goto 27, 3) := by decide +kernel
theorem dX10_isAhead_30 : decode cX10_isAhead 30 = .ok (.iconst 0, 1) := by decide +kernel
theorem dX10_isAhead_31 : decode cX10_isAhead 31 = .ok (.goto 23, 3) := by decide +kernel
theorem dX10_isAhead_34 : decode cX10_isAhead 34 = .ok (.aload_n 0, 1) := by decide +kernel
theorem dX10_isAhead_35 : decode cX10_isAhead 35 = .ok (.iload_n 1, 1) := by decide +kernel
theorem dX10_isAhead_36 : decode cX10_isAhead 36 = .ok (.invokevirtual 143, 3) := by decide +kernel
theorem dX10_isAhead_39 : decode cX10_isAhead 39 = .ok (.aload_n 0, 1) := by decide +kernel
theorem dX10_isAhead_40 : decode cX10_isAhead 40 = .ok (.getfield 7, 3) := by decide +kernel
theorem dX10_isAhead_43 : decode cX10_isAhead 43 = .ok (.bipush 9, 2) := by decide +kernel
theorem dX10_isAhead_45 : decode cX10_isAhead 45 = .ok (.iaload, 1) := by decide +kernel
theorem dX10_isAhead_46 : decode cX10_isAhead 46 = .ok (.if_icmp .gt 7, 3) := by decide +kernel
theorem dX10_isAhead_49 : decode cX10_isAhead 49 = .ok (.iconst 1, 1) := by decide +kernel
theorem dX10_isAhead_50 : decode cX10_isAhead 50 = .ok (.goto 4, 3) := by decide +kernel
theorem dX10_isAhead_53 : decode cX10_isAhead 53 = .ok (.iconst 0, 1) := by decide +kernel
theorem dX10_isAhead_54 : decode cX10_isAhead 54 = .ok (.ireturn, 1) := by decide +kernel
theorem dX10_bucketOf_0 : decode cX10_bucketOf 0 = .ok (.iconst 3, 1) := by decide +kernel
theorem dX10_bucketOf_1 : decode cX10_bucketOf 1 = .ok (.istore_n 2, 1) := by decide +kernel
theorem dX10_bucketOf_2 : decode cX10_bucketOf 2 = .ok (.aload_n 0, 1) := by decide +kernel
theorem dX10_bucketOf_3 : decode cX10_bucketOf 3 = .ok (.getfield 7, 3) := by decide +kernel
theorem dX10_bucketOf_6 : decode cX10_bucketOf 6 = .ok (.sipush 270, 3) := by decide +kernel
theorem dX10_bucketOf_9 : decode cX10_bucketOf 9 = .ok (.iload_n 1, 1) := by decide +kernel
theorem dX10_bucketOf_10 : decode cX10_bucketOf 10 = .ok (.iadd, 1) := by decide +kernel
theorem dX10_bucketOf_11 : decode cX10_bucketOf 11 = .ok (.iaload, 1) := by decide +kernel
theorem dX10_bucketOf_12 : decode cX10_bucketOf 12 = .ok (.ifCond .lt 50, 3) := by decide +kernel
theorem dX10_bucketOf_15 : decode cX10_bucketOf 15 = .ok (.aload_n 0, 1) := by decide +kernel
theorem dX10_bucketOf_16 : decode cX10_bucketOf 16 = .ok (.getfield 7, 3) := by decide +kernel
theorem dX10_bucketOf_19 : decode cX10_bucketOf 19 = .ok (.sipush 270, 3) := by decide +kernel
theorem dX10_bucketOf_22 : decode cX10_bucketOf 22 = .ok (.iload_n 1, 1) := by decide +kernel
theorem dX10_bucketOf_23 : decode cX10_bucketOf 23 = .ok (.iadd, 1) := by decide +kernel
theorem dX10_bucketOf_24 : decode cX10_bucketOf 24 = .ok (.iaload, 1) := by decide +kernel
theorem dX10_bucketOf_25 : decode cX10_bucketOf 25 = .ok (.aload_n 0, 1) := by decide +kernel
theorem dX10_bucketOf_26 : decode cX10_bucketOf 26 = .ok (.getfield 7, 3) := by decide +kernel
theorem dX10_bucketOf_29 : decode cX10_bucketOf 29 = .ok (.bipush 8, 2) := by decide +kernel
theorem dX10_bucketOf_31 : decode cX10_bucketOf 31 = .ok (.iaload, 1) := by decide +kernel
theorem dX10_bucketOf_32 : decode cX10_bucketOf 32 = .ok (.isub, 1) := by decide +kernel
theorem dX10_bucketOf_33 : decode cX10_bucketOf 33 = .ok (.istore_n 3, 1) := by decide +kernel
theorem dX10_bucketOf_34 : decode cX10_bucketOf 34 = .ok (.iload_n 3, 1) := by decide +kernel
theorem dX10_bucketOf_35 : decode cX10_bucketOf 35 = .ok (.ifCond .ge 7, 3) := by decide +kernel
theorem dX10_bucketOf_38 : decode cX10_bucketOf 38 = .ok (.iconst 0, 1) := by decide +kernel
theorem dX10_bucketOf_39 : decode cX10_bucketOf 39 = .ok (.goto 11, 3) := by decide +kernel
theorem dX10_bucketOf_42 : decode cX10_bucketOf 42 = .ok (.iload_n 3, 1) := by decide +kernel
theorem dX10_bucketOf_43 : decode cX10_bucketOf 43 = .ok (.aload_n 0, 1) := by decide +kernel
theorem dX10_bucketOf_44 : decode cX10_bucketOf 44 = .ok (.getfield 7, 3) := by decide +kernel
theorem dX10_bucketOf_47 : decode cX10_bucketOf 47 = .ok (.iconst 5, 1) := by decide +kernel
theorem dX10_bucketOf_48 : decode cX10_bucketOf 48 = .ok (.iaload, 1) := by decide +kernel
theorem dX10_bucketOf_49 : decode cX10_bucketOf 49 = .ok (.idiv, 1) := by decide +kernel
theorem dX10_bucketOf_50 : decode cX10_bucketOf 50 = .ok (.istore_n 2, 1) := by decide +kernel
theorem dX10_bucketOf_51 : decode cX10_bucketOf 51 = .ok (.iload_n 2, 1) := by decide +kernel
theorem dX10_bucketOf_52 : decode cX10_bucketOf 52 = .ok (.iconst 3, 1) := by decide +kernel
theorem dX10_bucketOf_53 : decode cX10_bucketOf 53 = .ok (.if_icmp .le 7, 3) := by decide +kernel
theorem dX10_bucketOf_56 : decode cX10_bucketOf 56 = .ok (.iconst 3, 1) := by decide +kernel
theorem dX10_bucketOf_57 : decode cX10_bucketOf 57 = .ok (.goto 4, 3) := by decide +kernel
theorem dX10_bucketOf_60 : decode cX10_bucketOf 60 = .ok (.iload_n 2, 1) := by decide +kernel
theorem dX10_bucketOf_61 : decode cX10_bucketOf 61 = .ok (.istore_n 2, 1) := by decide +kernel
theorem dX10_bucketOf_62 : decode cX10_bucketOf 62 = .ok (.iload_n 2, 1) := by decide +kernel
theorem dX10_bucketOf_63 : decode cX10_bucketOf 63 = .ok (.aload_n 0, 1) := by decide +kernel
theorem dX10_bucketOf_64 : decode cX10_bucketOf 64 = .ok (.getfield 7, 3) := by decide +kernel
theorem dX10_bucketOf_67 : decode cX10_bucketOf 67 = .ok (.bipush 8, 2) := by decide +kernel
theorem dX10_bucketOf_69 : decode cX10_bucketOf 69 = .ok (.iaload, 1) := by decide +kernel
theorem dX10_bucketOf_70 : decode cX10_bucketOf 70 = .ok (.aload_n 0, 1) := by decide +kernel
theorem dX10_bucketOf_71 : decode cX10_bucketOf 71 = .ok (.getfield 7, 3) := by decide +kernel
theorem dX10_bucketOf_74 : decode cX10_bucketOf 74 = .ok (.sipush 190, 3) := by decide +kernel
theorem dX10_bucketOf_77 : decode cX10_bucketOf 77 = .ok (.iload_n 1, 1) := by decide +kernel
theorem dX10_bucketOf_78 : decode cX10_bucketOf 78 = .ok (.iadd, 1) := by decide +kernel
theorem dX10_bucketOf_79 : decode cX10_bucketOf 79 = .ok (.iaload, 1) := by decide +kernel
theorem dX10_bucketOf_80 : decode cX10_bucketOf 80 = .ok (.isub, 1) := by decide +kernel
theorem dX10_bucketOf_81 : decode cX10_bucketOf 81 = .ok (.aload_n 0, 1) := by decide +kernel
theorem dX10_bucketOf_82 : decode cX10_bucketOf 82 = .ok (.getfield 7, 3) := by decide +kernel
theorem dX10_bucketOf_85 : decode cX10_bucketOf 85 = .ok (.bipush 6, 2) := by decide +kernel
theorem dX10_bucketOf_87 : decode cX10_bucketOf 87 = .ok (.iaload, 1) := by decide +kernel
theorem dX10_bucketOf_88 : decode cX10_bucketOf 88 = .ok (.idiv, 1) := by decide +kernel
theorem dX10_bucketOf_89 : decode cX10_bucketOf 89 = .ok (.isub, 1) := by decide +kernel
theorem dX10_bucketOf_90 : decode cX10_bucketOf 90 = .ok (.istore_n 2, 1) := by decide +kernel
theorem dX10_bucketOf_91 : decode cX10_bucketOf 91 = .ok (.iload_n 2, 1) := by decide +kernel
theorem dX10_bucketOf_92 : decode cX10_bucketOf 92 = .ok (.ifCond .ge 7, 3) := by decide +kernel
theorem dX10_bucketOf_95 : decode cX10_bucketOf 95 = .ok (.iconst 0, 1) := by decide +kernel
theorem dX10_bucketOf_96 : decode cX10_bucketOf 96 = .ok (.goto 4, 3) := by decide +kernel
theorem dX10_bucketOf_99 : decode cX10_bucketOf 99 = .ok (.iload_n 2, 1) := by decide +kernel
theorem dX10_bucketOf_100 : decode cX10_bucketOf 100 = .ok (.ireturn, 1) := by decide +kernel
theorem dX10_keyOf_0 : decode cX10_keyOf 0 = .ok (.iload_n 2, 1) := by decide +kernel
theorem dX10_keyOf_1 : decode cX10_keyOf 1 = .ok (.tableswitch 116 0 4 #[35, 37, 43, 69, 102], 35) := by decide +kernel
theorem dX10_keyOf_36 : decode cX10_keyOf 36 = .ok (.iload_n 1, 1) := by decide +kernel
theorem dX10_keyOf_37 : decode cX10_keyOf 37 = .ok (.ireturn, 1) := by decide +kernel
theorem dX10_keyOf_38 : decode cX10_keyOf 38 = .ok (.aload_n 0, 1) := by decide +kernel
theorem dX10_keyOf_39 : decode cX10_keyOf 39 = .ok (.iload_n 1, 1) := by decide +kernel
theorem dX10_keyOf_40 : decode cX10_keyOf 40 = .ok (.invokevirtual 146, 3) := by decide +kernel
theorem dX10_keyOf_43 : decode cX10_keyOf 43 = .ok (.ireturn, 1) := by decide +kernel
theorem dX10_keyOf_44 : decode cX10_keyOf 44 = .ok (.aload_n 0, 1) := by decide +kernel
theorem dX10_keyOf_45 : decode cX10_keyOf 45 = .ok (.iload_n 1, 1) := by decide +kernel
theorem dX10_keyOf_46 : decode cX10_keyOf 46 = .ok (.invokevirtual 149, 3) := by decide +kernel
theorem dX10_keyOf_49 : decode cX10_keyOf 49 = .ok (.ifCond .eq 11, 3) := by decide +kernel
theorem dX10_keyOf_52 : decode cX10_keyOf 52 = .ok (.aload_n 0, 1) := by decide +kernel
theorem dX10_keyOf_53 : decode cX10_keyOf 53 = .ok (.iload_n 1, 1) := by decide +kernel
theorem dX10_keyOf_54 : decode cX10_keyOf 54 = .ok (.invokevirtual 146, 3) := by decide +kernel
theorem dX10_keyOf_57 : decode cX10_keyOf 57 = .ok (.goto 12, 3) := by decide +kernel
theorem dX10_keyOf_60 : decode cX10_keyOf 60 = .ok (.sipush 1000, 3) := by decide +kernel
theorem dX10_keyOf_63 : decode cX10_keyOf 63 = .ok (.aload_n 0, 1) := by decide +kernel
theorem dX10_keyOf_64 : decode cX10_keyOf 64 = .ok (.iload_n 1, 1) := by decide +kernel
theorem dX10_keyOf_65 : decode cX10_keyOf 65 = .ok (.invokevirtual 146, 3) := by decide +kernel
theorem dX10_keyOf_68 : decode cX10_keyOf 68 = .ok (.iadd, 1) := by decide +kernel
theorem dX10_keyOf_69 : decode cX10_keyOf 69 = .ok (.ireturn, 1) := by decide +kernel
theorem dX10_keyOf_70 : decode cX10_keyOf 70 = .ok (.aload_n 0, 1) := by decide +kernel
theorem dX10_keyOf_71 : decode cX10_keyOf 71 = .ok (.iload_n 1, 1) := by decide +kernel
theorem dX10_keyOf_72 : decode cX10_keyOf 72 = .ok (.invokevirtual 143, 3) := by decide +kernel
theorem dX10_keyOf_75 : decode cX10_keyOf 75 = .ok (.aload_n 0, 1) := by decide +kernel
theorem dX10_keyOf_76 : decode cX10_keyOf 76 = .ok (.getfield 7, 3) := by decide +kernel
theorem dX10_keyOf_79 : decode cX10_keyOf 79 = .ok (.bipush 9, 2) := by decide +kernel
theorem dX10_keyOf_81 : decode cX10_keyOf 81 = .ok (.iaload, 1) := by decide +kernel
theorem dX10_keyOf_82 : decode cX10_keyOf 82 = .ok (.if_icmp .lt 11, 3) := by decide +kernel
theorem dX10_keyOf_85 : decode cX10_keyOf 85 = .ok (.aload_n 0, 1) := by decide +kernel
theorem dX10_keyOf_86 : decode cX10_keyOf 86 = .ok (.iload_n 1, 1) := by decide +kernel
theorem dX10_keyOf_87 : decode cX10_keyOf 87 = .ok (.invokevirtual 146, 3) := by decide +kernel
theorem dX10_keyOf_90 : decode cX10_keyOf 90 = .ok (.goto 12, 3) := by decide +kernel
theorem dX10_keyOf_93 : decode cX10_keyOf 93 = .ok (.sipush 1000, 3) := by decide +kernel
theorem dX10_keyOf_96 : decode cX10_keyOf 96 = .ok (.aload_n 0, 1) := by decide +kernel
theorem dX10_keyOf_97 : decode cX10_keyOf 97 = .ok (.iload_n 1, 1) := by decide +kernel
theorem dX10_keyOf_98 : decode cX10_keyOf 98 = .ok (.invokevirtual 143, 3) := by decide +kernel
theorem dX10_keyOf_101 : decode cX10_keyOf 101 = .ok (.iadd, 1) := by decide +kernel
theorem dX10_keyOf_102 : decode cX10_keyOf 102 = .ok (.ireturn, 1) := by decide +kernel
theorem dX10_keyOf_103 : decode cX10_keyOf 103 = .ok (.aload_n 0, 1) := by decide +kernel
theorem dX10_keyOf_104 : decode cX10_keyOf 104 = .ok (.aload_n 0, 1) := by decide +kernel
theorem dX10_keyOf_105 : decode cX10_keyOf 105 = .ok (.getfield 7, 3) := by decide +kernel
theorem dX10_keyOf_108 : decode cX10_keyOf 108 = .ok (.bipush 110, 2) := by decide +kernel
theorem dX10_keyOf_110 : decode cX10_keyOf 110 = .ok (.iload_n 1, 1) := by decide +kernel
theorem dX10_keyOf_111 : decode cX10_keyOf 111 = .ok (.iadd, 1) := by decide +kernel
theorem dX10_keyOf_112 : decode cX10_keyOf 112 = .ok (.iaload, 1) := by decide +kernel
theorem dX10_keyOf_113 : decode cX10_keyOf 113 = .ok (.invokevirtual 96, 3) := by decide +kernel
theorem dX10_keyOf_116 : decode cX10_keyOf 116 = .ok (.ireturn, 1) := by decide +kernel
theorem dX10_keyOf_117 : decode cX10_keyOf 117 = .ok (.ldc 99, 2) := by decide +kernel
theorem dX10_keyOf_119 : decode cX10_keyOf 119 = .ok (.aload_n 0, 1) := by decide +kernel
theorem dX10_keyOf_120 : decode cX10_keyOf 120 = .ok (.iload_n 1, 1) := by decide +kernel
theorem dX10_keyOf_121 : decode cX10_keyOf 121 = .ok (.invokevirtual 152, 3) := by decide +kernel
theorem dX10_keyOf_124 : decode cX10_keyOf 124 = .ok (.imul, 1) := by decide +kernel
theorem dX10_keyOf_125 : decode cX10_keyOf 125 = .ok (.aload_n 0, 1) := by decide +kernel
theorem dX10_keyOf_126 : decode cX10_keyOf 126 = .ok (.aload_n 0, 1) := by decide +kernel
theorem dX10_keyOf_127 : decode cX10_keyOf 127 = .ok (.getfield 7, 3) := by decide +kernel
theorem dX10_keyOf_130 : decode cX10_keyOf 130 = .ok (.bipush 110, 2) := by decide +kernel
theorem dX10_keyOf_132 : decode cX10_keyOf 132 = .ok (.iload_n 1, 1) := by decide +kernel
theorem dX10_keyOf_133 : decode cX10_keyOf 133 = .ok (.iadd, 1) := by decide +kernel
theorem dX10_keyOf_134 : decode cX10_keyOf 134 = .ok (.iaload, 1) := by decide +kernel
theorem dX10_keyOf_135 : decode cX10_keyOf 135 = .ok (.invokevirtual 96, 3) := by decide +kernel
theorem dX10_keyOf_138 : decode cX10_keyOf 138 = .ok (.iadd, 1) := by decide +kernel
theorem dX10_keyOf_139 : decode cX10_keyOf 139 = .ok (.ireturn, 1) := by decide +kernel
theorem dX10_least_0 : decode cX10_least 0 = .ok (.iconst (-1), 1) := by decide +kernel
theorem dX10_least_1 : decode cX10_least 1 = .ok (.istore_n 2, 1) := by decide +kernel
theorem dX10_least_2 : decode cX10_least 2 = .ok (.iconst 0, 1) := by decide +kernel
theorem dX10_least_3 : decode cX10_least 3 = .ok (.istore_n 3, 1) := by decide +kernel
theorem dX10_least_4 : decode cX10_least 4 = .ok (.iload_n 3, 1) := by decide +kernel
theorem dX10_least_5 : decode cX10_least 5 = .ok (.aload_n 0, 1) := by decide +kernel
theorem dX10_least_6 : decode cX10_least 6 = .ok (.getfield 7, 3) := by decide +kernel
theorem dX10_least_9 : decode cX10_least 9 = .ok (.bipush 12, 2) := by decide +kernel
theorem dX10_least_11 : decode cX10_least 11 = .ok (.iaload, 1) := by decide +kernel
theorem dX10_least_12 : decode cX10_least 12 = .ok (.if_icmp .ge 38, 3) := by decide +kernel
theorem dX10_least_15 : decode cX10_least 15 = .ok (.aload_n 0, 1) := by decide +kernel
theorem dX10_least_16 : decode cX10_least 16 = .ok (.iload_n 3, 1) := by decide +kernel
theorem dX10_least_17 : decode cX10_least 17 = .ok (.invokevirtual 100, 3) := by decide +kernel
theorem dX10_least_20 : decode cX10_least 20 = .ok (.ifCond .eq 24, 3) := by decide +kernel
theorem dX10_least_23 : decode cX10_least 23 = .ok (.iload_n 2, 1) := by decide +kernel
theorem dX10_least_24 : decode cX10_least 24 = .ok (.ifCond .lt 18, 3) := by decide +kernel
theorem dX10_least_27 : decode cX10_least 27 = .ok (.aload_n 0, 1) := by decide +kernel
theorem dX10_least_28 : decode cX10_least 28 = .ok (.iload_n 3, 1) := by decide +kernel
theorem dX10_least_29 : decode cX10_least 29 = .ok (.iload_n 1, 1) := by decide +kernel
theorem dX10_least_30 : decode cX10_least 30 = .ok (.invokevirtual 155, 3) := by decide +kernel
theorem dX10_least_33 : decode cX10_least 33 = .ok (.aload_n 0, 1) := by decide +kernel
theorem dX10_least_34 : decode cX10_least 34 = .ok (.iload_n 2, 1) := by decide +kernel
theorem dX10_least_35 : decode cX10_least 35 = .ok (.iload_n 1, 1) := by decide +kernel
theorem dX10_least_36 : decode cX10_least 36 = .ok (.invokevirtual 155, 3) := by decide +kernel
theorem dX10_least_39 : decode cX10_least 39 = .ok (.if_icmp .ge 5, 3) := by decide +kernel
theorem dX10_least_42 : decode cX10_least 42 = .ok (.iload_n 3, 1) := by decide +kernel
theorem dX10_least_43 : decode cX10_least 43 = .ok (.istore_n 2, 1) := by decide +kernel
theorem dX10_least_44 : decode cX10_least 44 = .ok (.iinc 3 1, 3) := by decide +kernel
theorem dX10_least_47 : decode cX10_least 47 = .ok (.goto (-43), 3) := by decide +kernel
theorem dX10_least_50 : decode cX10_least 50 = .ok (.iload_n 2, 1) := by decide +kernel
theorem dX10_least_51 : decode cX10_least 51 = .ok (.ireturn, 1) := by decide +kernel
theorem dX10_goes_0 : decode cX10_goes 0 = .ok (.iload_n 1, 1) := by decide +kernel
theorem dX10_goes_1 : decode cX10_goes 1 = .ok (.aload_n 0, 1) := by decide +kernel
theorem dX10_goes_2 : decode cX10_goes 2 = .ok (.getfield 158, 3) := by decide +kernel
theorem dX10_goes_5 : decode cX10_goes 5 = .ok (.if_icmp .ne 56, 3) := by decide +kernel
theorem dX10_goes_8 : decode cX10_goes 8 = .ok (.aload_n 0, 1) := by decide +kernel
theorem dX10_goes_9 : decode cX10_goes 9 = .ok (.getfield 161, 3) := by decide +kernel
theorem dX10_goes_12 : decode cX10_goes 12 = .ok (.ifCond .lt 11, 3) := by decide +kernel
theorem dX10_goes_15 : decode cX10_goes 15 = .ok (.iload_n 2, 1) := by decide +kernel
theorem dX10_goes_16 : decode cX10_goes 16 = .ok (.aload_n 0, 1) := by decide +kernel
theorem dX10_goes_17 : decode cX10_goes 17 = .ok (.getfield 161, 3) := by decide +kernel
theorem dX10_goes_20 : decode cX10_goes 20 = .ok (.if_icmp .ge 40, 3) := by decide +kernel
theorem dX10_goes_23 : decode cX10_goes 23 = .ok (.aload_n 0, 1) := by decide +kernel
theorem dX10_goes_24 : decode cX10_goes 24 = .ok (.iload_n 2, 1) := by decide +kernel
theorem dX10_goes_25 : decode cX10_goes 25 = .ok (.putfield 161, 3) := by decide +kernel
theorem dX10_goes_28 : decode cX10_goes 28 = .ok (.iconst 0, 1) := by decide +kernel
theorem dX10_goes_29 : decode cX10_goes 29 = .ok (.istore 4, 2) := by decide +kernel
theorem dX10_goes_31 : decode cX10_goes 31 = .ok (.iload 4, 2) := by decide +kernel
theorem dX10_goes_33 : decode cX10_goes 33 = .ok (.aload_n 0, 1) := by decide +kernel
theorem dX10_goes_34 : decode cX10_goes 34 = .ok (.getfield 158, 3) := by decide +kernel
theorem dX10_goes_37 : decode cX10_goes 37 = .ok (.if_icmp .ge 23, 3) := by decide +kernel
theorem dX10_goes_40 : decode cX10_goes 40 = .ok (.aload_n 0, 1) := by decide +kernel
theorem dX10_goes_41 : decode cX10_goes 41 = .ok (.getfield 32, 3) := by decide +kernel
theorem dX10_goes_44 : decode cX10_goes 44 = .ok (.iload 4, 2) := by decide +kernel
theorem dX10_goes_46 : decode cX10_goes 46 = .ok (.aload_n 0, 1) := by decide +kernel
theorem dX10_goes_47 : decode cX10_goes 47 = .ok (.getfield 29, 3) := by decide +kernel
theorem dX10_goes_50 : decode cX10_goes 50 = .ok (.iload 4, 2) := by decide +kernel
theorem dX10_goes_52 : decode cX10_goes 52 = .ok (.iaload, 1) := by decide +kernel
theorem dX10_goes_53 : decode cX10_goes 53 = .ok (.iastore, 1) := by decide +kernel
theorem dX10_goes_54 : decode cX10_goes 54 = .ok (.iinc 4 1, 3) := by decide +kernel
theorem dX10_goes_57 : decode cX10_goes 57 = .ok (.goto (-26), 3) := by decide +kernel
theorem dX10_goes_60 : decode cX10_goes 60 = .ok (.return_, 1) := by decide +kernel
theorem dX10_goes_61 : decode cX10_goes 61 = .ok (.iconst 0, 1) := by decide +kernel
theorem dX10_goes_62 : decode cX10_goes 62 = .ok (.istore 4, 2) := by decide +kernel
theorem dX10_goes_64 : decode cX10_goes 64 = .ok (.iload 4, 2) := by decide +kernel
theorem dX10_goes_66 : decode cX10_goes 66 = .ok (.aload_n 0, 1) := by decide +kernel
theorem dX10_goes_67 : decode cX10_goes 67 = .ok (.getfield 158, 3) := by decide +kernel
theorem dX10_goes_70 : decode cX10_goes 70 = .ok (.if_icmp .ge 132, 3) := by decide +kernel
theorem dX10_goes_73 : decode cX10_goes 73 = .ok (.aload_n 0, 1) := by decide +kernel
theorem dX10_goes_74 : decode cX10_goes 74 = .ok (.getfield 26, 3) := by decide +kernel
theorem dX10_goes_77 : decode cX10_goes 77 = .ok (.iload 4, 2) := by decide +kernel
theorem dX10_goes_79 : decode cX10_goes 79 = .ok (.iaload, 1) := by decide +kernel
theorem dX10_goes_80 : decode cX10_goes 80 = .ok (.istore 5, 2) := by decide +kernel
theorem dX10_goes_82 : decode cX10_goes 82 = .ok (.aload_n 0, 1) := by decide +kernel
theorem dX10_goes_83 : decode cX10_goes 83 = .ok (.getfield 35, 3) := by decide +kernel
theorem dX10_goes_86 : decode cX10_goes 86 = .ok (.iload 4, 2) := by decide +kernel
theorem dX10_goes_88 : decode cX10_goes 88 = .ok (.baload, 1) := by decide +kernel
theorem dX10_goes_89 : decode cX10_goes 89 = .ok (.ifCond .eq 6, 3) := by decide +kernel
theorem dX10_goes_92 : decode cX10_goes 92 = .ok (.goto 104, 3) := by decide +kernel
theorem dX10_goes_95 : decode cX10_goes 95 = .ok (.aload_n 0, 1) := by decide +kernel
theorem dX10_goes_96 : decode cX10_goes 96 = .ok (.iload_n 2, 1) := by decide +kernel
theorem dX10_goes_97 : decode cX10_goes 97 = .ok (.iload_n 3, 1) := by decide +kernel
theorem dX10_goes_98 : decode cX10_goes 98 = .ok (.aload_n 0, 1) := by decide +kernel
theorem dX10_goes_99 : decode cX10_goes 99 = .ok (.aload_n 0, 1) := by decide +kernel
theorem dX10_goes_100 : decode cX10_goes 100 = .ok (.getfield 7, 3) := by decide +kernel
theorem dX10_goes_103 : decode cX10_goes 103 = .ok (.bipush 110, 2) := by decide +kernel
theorem dX10_goes_105 : decode cX10_goes 105 = .ok (.iload 5, 2) := by decide +kernel
theorem dX10_goes_107 : decode cX10_goes 107 = .ok (.iadd, 1) := by decide +kernel
theorem dX10_goes_108 : decode cX10_goes 108 = .ok (.iaload, 1) := by decide +kernel
theorem dX10_goes_109 : decode cX10_goes 109 = .ok (.invokevirtual 89, 3) := by decide +kernel
theorem dX10_goes_112 : decode cX10_goes 112 = .ok (.invokevirtual 92, 3) := by decide +kernel
theorem dX10_goes_115 : decode cX10_goes 115 = .ok (.istore 6, 2) := by decide +kernel
theorem dX10_goes_117 : decode cX10_goes 117 = .ok (.aload_n 0, 1) := by decide +kernel
theorem dX10_goes_118 : decode cX10_goes 118 = .ok (.getfield 164, 3) := by decide +kernel
theorem dX10_goes_121 : decode cX10_goes 121 = .ok (.ifCond .eq 36, 3) := by decide +kernel
theorem dX10_goes_124 : decode cX10_goes 124 = .ok (.aload_n 0, 1) := by decide +kernel
theorem dX10_goes_125 : decode cX10_goes 125 = .ok (.getfield 7, 3) := by decide +kernel
theorem dX10_goes_128 : decode cX10_goes 128 = .ok (.sipush 270, 3) := by decide +kernel
theorem dX10_goes_131 : decode cX10_goes 131 = .ok (.iload 5, 2) := by decide +kernel
theorem dX10_goes_133 : decode cX10_goes 133 = .ok (.iadd, 1) := by decide +kernel
theorem dX10_goes_134 : decode cX10_goes 134 = .ok (.iaload, 1) := by decide +kernel
theorem dX10_goes_135 : decode cX10_goes 135 = .ok (.ifCond .lt 22, 3) := by decide +kernel
theorem dX10_goes_138 : decode cX10_goes 138 = .ok (.iload 6, 2) := by decide +kernel
theorem dX10_goes_140 : decode cX10_goes 140 = .ok (.aload_n 0, 1) := by decide +kernel
theorem dX10_goes_141 : decode cX10_goes 141 = .ok (.getfield 7, 3) := by decide +kernel
theorem dX10_goes_144 : decode cX10_goes 144 = .ok (.sipush 270, 3) := by decide +kernel
theorem dX10_goes_147 : decode cX10_goes 147 = .ok (.iload 5, 2) := by decide +kernel
theorem dX10_goes_149 : decode cX10_goes 149 = .ok (.iadd, 1) := by decide +kernel
theorem dX10_goes_150 : decode cX10_goes 150 = .ok (.iaload, 1) := by decide +kernel
theorem dX10_goes_151 : decode cX10_goes 151 = .ok (.if_icmp .le 6, 3) := by decide +kernel
theorem dX10_goes_154 : decode cX10_goes 154 = .ok (.goto 42, 3) := by decide +kernel
theorem dX10_goes_157 : decode cX10_goes 157 = .ok (.aload_n 0, 1) := by decide +kernel
theorem dX10_goes_158 : decode cX10_goes 158 = .ok (.getfield 35, 3) := by decide +kernel
theorem dX10_goes_161 : decode cX10_goes 161 = .ok (.iload 4, 2) := by decide +kernel
theorem dX10_goes_163 : decode cX10_goes 163 = .ok (.iconst 1, 1) := by decide +kernel
theorem dX10_goes_164 : decode cX10_goes 164 = .ok (.bastore, 1) := by decide +kernel
theorem dX10_goes_165 : decode cX10_goes 165 = .ok (.aload_n 0, 1) := by decide +kernel
theorem dX10_goes_166 : decode cX10_goes 166 = .ok (.getfield 29, 3) := by decide +kernel
theorem dX10_goes_169 : decode cX10_goes 169 = .ok (.iload_n 1, 1) := by decide +kernel
theorem dX10_goes_170 : decode cX10_goes 170 = .ok (.iload 5, 2) := by decide +kernel
theorem dX10_goes_172 : decode cX10_goes 172 = .ok (.iastore, 1) := by decide +kernel
theorem dX10_goes_173 : decode cX10_goes 173 = .ok (.aload_n 0, 1) := by decide +kernel
theorem dX10_goes_174 : decode cX10_goes 174 = .ok (.iload_n 1, 1) := by decide +kernel
theorem dX10_goes_175 : decode cX10_goes 175 = .ok (.iconst 1, 1) := by decide +kernel
theorem dX10_goes_176 : decode cX10_goes 176 = .ok (.iadd, 1) := by decide +kernel
theorem dX10_goes_177 : decode cX10_goes 177 = .ok (.iload 6, 2) := by decide +kernel
theorem dX10_goes_179 : decode cX10_goes 179 = .ok (.aload_n 0, 1) := by decide +kernel
theorem dX10_goes_180 : decode cX10_goes 180 = .ok (.iload 5, 2) := by decide +kernel
theorem dX10_goes_182 : decode cX10_goes 182 = .ok (.invokevirtual 143, 3) := by decide +kernel
theorem dX10_goes_185 : decode cX10_goes 185 = .ok (.invokevirtual 168, 3) := by decide +kernel
theorem dX10_goes_188 : decode cX10_goes 188 = .ok (.aload_n 0, 1) := by decide +kernel
theorem dX10_goes_189 : decode cX10_goes 189 = .ok (.getfield 35, 3) := by decide +kernel
theorem dX10_goes_192 : decode cX10_goes 192 = .ok (.iload 4, 2) := by decide +kernel
theorem dX10_goes_194 : decode cX10_goes 194 = .ok (.iconst 0, 1) := by decide +kernel
theorem dX10_goes_195 : decode cX10_goes 195 = .ok (.bastore, 1) := by decide +kernel
theorem dX10_goes_196 : decode cX10_goes 196 = .ok (.iinc 4 1, 3) := by decide +kernel
theorem dX10_goes_199 : decode cX10_goes 199 = .ok (.goto (-135), 3) := by decide +kernel
theorem dX10_goes_202 : decode cX10_goes 202 = .ok (.return_, 1) := by decide +kernel
theorem dX10_searches_0 : decode cX10_searches 0 = .ok (.aload_n 0, 1) := by decide +kernel
theorem dX10_searches_1 : decode cX10_searches 1 = .ok (.iconst 0, 1) := by decide +kernel
theorem dX10_searches_2 : decode cX10_searches 2 = .ok (.putfield 158, 3) := by decide +kernel
theorem dX10_searches_5 : decode cX10_searches 5 = .ok (.iconst 0, 1) := by decide +kernel
theorem dX10_searches_6 : decode cX10_searches 6 = .ok (.istore 4, 2) := by decide +kernel
theorem dX10_searches_8 : decode cX10_searches 8 = .ok (.iload 4, 2) := by decide +kernel
theorem dX10_searches_10 : decode cX10_searches 10 = .ok (.aload_n 0, 1) := by decide +kernel
theorem dX10_searches_11 : decode cX10_searches 11 = .ok (.getfield 7, 3) := by decide +kernel
theorem dX10_searches_14 : decode cX10_searches 14 = .ok (.bipush 12, 2) := by decide +kernel
theorem dX10_searches_16 : decode cX10_searches 16 = .ok (.iaload, 1) := by decide +kernel
theorem dX10_searches_17 : decode cX10_searches 17 = .ok (.if_icmp .ge 75, 3) := by decide +kernel
theorem dX10_searches_20 : decode cX10_searches 20 = .ok (.aload_n 0, 1) := by decide +kernel
theorem dX10_searches_21 : decode cX10_searches 21 = .ok (.getfield 158, 3) := by decide +kernel
theorem dX10_searches_24 : decode cX10_searches 24 = .ok (.iload_n 3, 1) := by decide +kernel
theorem dX10_searches_25 : decode cX10_searches 25 = .ok (.if_icmp .ge 67, 3) := by decide +kernel
theorem dX10_searches_28 : decode cX10_searches 28 = .ok (.aload_n 0, 1) := by decide +kernel
theorem dX10_searches_29 : decode cX10_searches 29 = .ok (.iload 4, 2) := by decide +kernel
theorem dX10_searches_31 : decode cX10_searches 31 = .ok (.invokevirtual 100, 3) := by decide +kernel
theorem dX10_searches_34 : decode cX10_searches 34 = .ok (.ifCond .eq 52, 3) := by decide +kernel
theorem dX10_searches_37 : decode cX10_searches 37 = .ok (.iload_n 1, 1) := by decide +kernel
theorem dX10_searches_38 : decode cX10_searches 38 = .ok (.ifCond .eq 17, 3) := by decide +kernel
theorem dX10_searches_41 : decode cX10_searches 41 = .ok (.aload_n 0, 1) := by decide +kernel
theorem dX10_searches_42 : decode cX10_searches 42 = .ok (.getfield 7, 3) := by decide +kernel
theorem dX10_searches_45 : decode cX10_searches 45 = .ok (.sipush 270, 3) := by decide +kernel
theorem dX10_searches_48 : decode cX10_searches 48 = .ok (.iload 4, 2) := by decide +kernel
theorem dX10_searches_50 : decode cX10_searches 50 = .ok (.iadd, 1) := by decide +kernel
theorem dX10_searches_51 : decode cX10_searches 51 = .ok (.iaload, 1) := by decide +kernel
theorem dX10_searches_52 : decode cX10_searches 52 = .ok (.ifCond .lt 34, 3) := by decide +kernel
theorem dX10_searches_55 : decode cX10_searches 55 = .ok (.aload_n 0, 1) := by decide +kernel
theorem dX10_searches_56 : decode cX10_searches 56 = .ok (.getfield 26, 3) := by decide +kernel
theorem dX10_searches_59 : decode cX10_searches 59 = .ok (.aload_n 0, 1) := by decide +kernel
theorem dX10_searches_60 : decode cX10_searches 60 = .ok (.getfield 158, 3) := by decide +kernel
theorem dX10_searches_63 : decode cX10_searches 63 = .ok (.iload 4, 2) := by decide +kernel
theorem dX10_searches_65 : decode cX10_searches 65 = .ok (.iastore, 1) := by decide +kernel
theorem dX10_searches_66 : decode cX10_searches 66 = .ok (.aload_n 0, 1) := by decide +kernel
theorem dX10_searches_67 : decode cX10_searches 67 = .ok (.getfield 35, 3) := by decide +kernel
theorem dX10_searches_70 : decode cX10_searches 70 = .ok (.aload_n 0, 1) := by decide +kernel
theorem dX10_searches_71 : decode cX10_searches 71 = .ok (.getfield 158, 3) := by decide +kernel
theorem dX10_searches_74 : decode cX10_searches 74 = .ok (.iconst 0, 1) := by decide +kernel
theorem dX10_searches_75 : decode cX10_searches 75 = .ok (.bastore, 1) := by decide +kernel
theorem dX10_searches_76 : decode cX10_searches 76 = .ok (.aload_n 0, 1) := by decide +kernel
theorem dX10_searches_77 : decode cX10_searches 77 = .ok (.dup, 1) := by decide +kernel
theorem dX10_searches_78 : decode cX10_searches 78 = .ok (.getfield 158, 3) := by decide +kernel
theorem dX10_searches_81 : decode cX10_searches 81 = .ok (.iconst 1, 1) := by decide +kernel
theorem dX10_searches_82 : decode cX10_searches 82 = .ok (.iadd, 1) := by decide +kernel
theorem dX10_searches_83 : decode cX10_searches 83 = .ok (.putfield 158, 3) := by decide +kernel
theorem dX10_searches_86 : decode cX10_searches 86 = .ok (.iinc 4 1, 3) := by decide +kernel
theorem dX10_searches_89 : decode cX10_searches 89 = .ok (.goto (-81), 3) := by decide +kernel
theorem dX10_searches_92 : decode cX10_searches 92 = .ok (.aload_n 0, 1) := by decide +kernel
theorem dX10_searches_93 : decode cX10_searches 93 = .ok (.iload_n 2, 1) := by decide +kernel
theorem dX10_searches_94 : decode cX10_searches 94 = .ok (.putfield 164, 3) := by decide +kernel
theorem dX10_searches_97 : decode cX10_searches 97 = .ok (.aload_n 0, 1) := by decide +kernel
theorem dX10_searches_98 : decode cX10_searches 98 = .ok (.iconst (-1), 1) := by decide +kernel
theorem dX10_searches_99 : decode cX10_searches 99 = .ok (.putfield 161, 3) := by decide +kernel
theorem dX10_searches_102 : decode cX10_searches 102 = .ok (.aload_n 0, 1) := by decide +kernel
theorem dX10_searches_103 : decode cX10_searches 103 = .ok (.iconst 0, 1) := by decide +kernel
theorem dX10_searches_104 : decode cX10_searches 104 = .ok (.aload_n 0, 1) := by decide +kernel
theorem dX10_searches_105 : decode cX10_searches 105 = .ok (.getfield 7, 3) := by decide +kernel
theorem dX10_searches_108 : decode cX10_searches 108 = .ok (.bipush 8, 2) := by decide +kernel
theorem dX10_searches_110 : decode cX10_searches 110 = .ok (.iaload, 1) := by decide +kernel
theorem dX10_searches_111 : decode cX10_searches 111 = .ok (.aload_n 0, 1) := by decide +kernel
theorem dX10_searches_112 : decode cX10_searches 112 = .ok (.getfield 7, 3) := by decide +kernel
theorem dX10_searches_115 : decode cX10_searches 115 = .ok (.bipush 9, 2) := by decide +kernel
theorem dX10_searches_117 : decode cX10_searches 117 = .ok (.iaload, 1) := by decide +kernel
theorem dX10_searches_118 : decode cX10_searches 118 = .ok (.invokevirtual 168, 3) := by decide +kernel
theorem dX10_searches_121 : decode cX10_searches 121 = .ok (.return_, 1) := by decide +kernel
theorem dX10_chosen_0 : decode cX10_chosen 0 = .ok (.aload_n 0, 1) := by decide +kernel
theorem dX10_chosen_1 : decode cX10_chosen 1 = .ok (.getfield 7, 3) := by decide +kernel
theorem dX10_chosen_4 : decode cX10_chosen 4 = .ok (.iconst 4, 1) := by decide +kernel
theorem dX10_chosen_5 : decode cX10_chosen 5 = .ok (.iaload, 1) := by decide +kernel
theorem dX10_chosen_6 : decode cX10_chosen 6 = .ok (.bipush 6, 2) := by decide +kernel
theorem dX10_chosen_8 : decode cX10_chosen 8 = .ok (.if_icmp .ge 14, 3) := by decide +kernel
theorem dX10_chosen_11 : decode cX10_chosen 11 = .ok (.aload_n 0, 1) := by decide +kernel
theorem dX10_chosen_12 : decode cX10_chosen 12 = .ok (.aload_n 0, 1) := by decide +kernel
theorem dX10_chosen_13 : decode cX10_chosen 13 = .ok (.getfield 7, 3) := by decide +kernel
theorem dX10_chosen_16 : decode cX10_chosen 16 = .ok (.iconst 4, 1) := by decide +kernel
theorem dX10_chosen_17 : decode cX10_chosen 17 = .ok (.iaload, 1) := by decide +kernel
theorem dX10_chosen_18 : decode cX10_chosen 18 = .ok (.invokevirtual 172, 3) := by decide +kernel
theorem dX10_chosen_21 : decode cX10_chosen 21 = .ok (.ireturn, 1) := by decide +kernel
theorem dX10_chosen_22 : decode cX10_chosen 22 = .ok (.aload_n 0, 1) := by decide +kernel
theorem dX10_chosen_23 : decode cX10_chosen 23 = .ok (.iconst 1, 1) := by decide +kernel
theorem dX10_chosen_24 : decode cX10_chosen 24 = .ok (.iconst 1, 1) := by decide +kernel
theorem dX10_chosen_25 : decode cX10_chosen 25 = .ok (.bipush 6, 2) := by decide +kernel
theorem dX10_chosen_27 : decode cX10_chosen 27 = .ok (.invokevirtual 175, 3) := by decide +kernel
theorem dX10_chosen_30 : decode cX10_chosen 30 = .ok (.aload_n 0, 1) := by decide +kernel
theorem dX10_chosen_31 : decode cX10_chosen 31 = .ok (.getfield 158, 3) := by decide +kernel
theorem dX10_chosen_34 : decode cX10_chosen 34 = .ok (.ifCond .le 19, 3) := by decide +kernel
theorem dX10_chosen_37 : decode cX10_chosen 37 = .ok (.aload_n 0, 1) := by decide +kernel
theorem dX10_chosen_38 : decode cX10_chosen 38 = .ok (.getfield 161, 3) := by decide +kernel
theorem dX10_chosen_41 : decode cX10_chosen 41 = .ok (.ifCond .lt 12, 3) := by decide +kernel
theorem dX10_chosen_44 : decode cX10_chosen 44 = .ok (.aload_n 0, 1) := by decide +kernel
theorem dX10_chosen_45 : decode cX10_chosen 45 = .ok (.getfield 32, 3) := by decide +kernel
theorem dX10_chosen_48 : decode cX10_chosen 48 = .ok (.iconst 0, 1) := by decide +kernel
theorem dX10_chosen_49 : decode cX10_chosen 49 = .ok (.iaload, 1) := by decide +kernel
theorem dX10_chosen_50 : decode cX10_chosen 50 = .ok (.goto 8, 3) := by decide +kernel
theorem dX10_chosen_53 : decode cX10_chosen 53 = .ok (.aload_n 0, 1) := by decide +kernel
theorem dX10_chosen_54 : decode cX10_chosen 54 = .ok (.iconst 4, 1) := by decide +kernel
theorem dX10_chosen_55 : decode cX10_chosen 55 = .ok (.invokevirtual 172, 3) := by decide +kernel
theorem dX10_chosen_58 : decode cX10_chosen 58 = .ok (.ireturn, 1) := by decide +kernel
theorem dX10_next_0 : decode cX10_next 0 = .ok (.aload_n 0, 1) := by decide +kernel
theorem dX10_next_1 : decode cX10_next 1 = .ok (.iconst 0, 1) := by decide +kernel
theorem dX10_next_2 : decode cX10_next 2 = .ok (.putfield 39, 3) := by decide +kernel
theorem dX10_next_5 : decode cX10_next 5 = .ok (.aload_n 0, 1) := by decide +kernel
theorem dX10_next_6 : decode cX10_next 6 = .ok (.invokevirtual 103, 3) := by decide +kernel
theorem dX10_next_9 : decode cX10_next 9 = .ok (.ifCond .ne 11, 3) := by decide +kernel
theorem dX10_next_12 : decode cX10_next 12 = .ok (.aload_n 0, 1) := by decide +kernel
theorem dX10_next_13 : decode cX10_next 13 = .ok (.iconst 1, 1) := by decide +kernel
theorem dX10_next_14 : decode cX10_next 14 = .ok (.invokevirtual 78, 3) := by decide +kernel
theorem dX10_next_17 : decode cX10_next 17 = .ok (.goto 7, 3) := by decide +kernel
theorem dX10_next_20 : decode cX10_next 20 = .ok (.aload_n 0, 1) := by decide +kernel
theorem dX10_next_21 : decode cX10_next 21 = .ok (.invokevirtual 179, 3) := by decide +kernel
theorem dX10_next_24 : decode cX10_next 24 = .ok (.ireturn, 1) := by decide +kernel
theorem dX10_serves_0 : decode cX10_serves 0 = .ok (.aload_n 0, 1) := by decide +kernel
theorem dX10_serves_1 : decode cX10_serves 1 = .ok (.invokevirtual 179, 3) := by decide +kernel
theorem dX10_serves_4 : decode cX10_serves 4 = .ok (.istore_n 1, 1) := by decide +kernel
theorem dX10_serves_5 : decode cX10_serves 5 = .ok (.aload_n 0, 1) := by decide +kernel
theorem dX10_serves_6 : decode cX10_serves 6 = .ok (.getfield 7, 3) := by decide +kernel
theorem dX10_serves_9 : decode cX10_serves 9 = .ok (.iconst 4, 1) := by decide +kernel
theorem dX10_serves_10 : decode cX10_serves 10 = .ok (.iaload, 1) := by decide +kernel
theorem dX10_serves_11 : decode cX10_serves 11 = .ok (.iconst 2, 1) := by decide +kernel
theorem dX10_serves_12 : decode cX10_serves 12 = .ok (.if_icmp .ne 27, 3) := by decide +kernel
theorem dX10_serves_15 : decode cX10_serves 15 = .ok (.aload_n 0, 1) := by decide +kernel
theorem dX10_serves_16 : decode cX10_serves 16 = .ok (.iload_n 1, 1) := by decide +kernel
theorem dX10_serves_17 : decode cX10_serves 17 = .ok (.invokevirtual 149, 3) := by decide +kernel
theorem dX10_serves_20 : decode cX10_serves 20 = .ok (.ifCond .ne 19, 3) := by decide +kernel
theorem dX10_serves_23 : decode cX10_serves 23 = .ok (.aload_n 0, 1) := by decide +kernel
theorem dX10_serves_24 : decode cX10_serves 24 = .ok (.getfield 7, 3) := by decide +kernel
theorem dX10_serves_27 : decode cX10_serves 27 = .ok (.bipush 10, 2) := by decide +kernel
theorem dX10_serves_29 : decode cX10_serves 29 = .ok (.iconst 1, 1) := by decide +kernel
theorem dX10_serves_30 : decode cX10_serves 30 = .ok (.aload_n 0, 1) := by decide +kernel
theorem dX10_serves_31 : decode cX10_serves 31 = .ok (.getfield 7, 3) := by decide +kernel
theorem dX10_serves_34 : decode cX10_serves 34 = .ok (.bipush 10, 2) := by decide +kernel
theorem dX10_serves_36 : decode cX10_serves 36 = .ok (.iaload, 1) := by decide +kernel
theorem dX10_serves_37 : decode cX10_serves 37 = .ok (.isub, 1) := by decide +kernel
theorem dX10_serves_38 : decode cX10_serves 38 = .ok (.iastore, 1) := by decide +kernel
theorem dX10_serves_39 : decode cX10_serves 39 = .ok (.aload_n 0, 1) := by decide +kernel
theorem dX10_serves_40 : decode cX10_serves 40 = .ok (.aload_n 0, 1) := by decide +kernel
theorem dX10_serves_41 : decode cX10_serves 41 = .ok (.aload_n 0, 1) := by decide +kernel
theorem dX10_serves_42 : decode cX10_serves 42 = .ok (.getfield 7, 3) := by decide +kernel
theorem dX10_serves_45 : decode cX10_serves 45 = .ok (.bipush 110, 2) := by decide +kernel
theorem dX10_serves_47 : decode cX10_serves 47 = .ok (.iload_n 1, 1) := by decide +kernel
theorem dX10_serves_48 : decode cX10_serves 48 = .ok (.iadd, 1) := by decide +kernel
theorem dX10_serves_49 : decode cX10_serves 49 = .ok (.iaload, 1) := by decide +kernel
theorem dX10_serves_50 : decode cX10_serves 50 = .ok (.invokevirtual 89, 3) := by decide +kernel
theorem dX10_serves_53 : decode cX10_serves 53 = .ok (.invokevirtual 182, 3) := by decide +kernel
theorem dX10_serves_56 : decode cX10_serves 56 = .ok (.aload_n 0, 1) := by decide +kernel
theorem dX10_serves_57 : decode cX10_serves 57 = .ok (.getfield 7, 3) := by decide +kernel
theorem dX10_serves_60 : decode cX10_serves 60 = .ok (.sipush 350, 3) := by decide +kernel
theorem dX10_serves_63 : decode cX10_serves 63 = .ok (.iload_n 1, 1) := by decide +kernel
theorem dX10_serves_64 : decode cX10_serves 64 = .ok (.iadd, 1) := by decide +kernel
theorem dX10_serves_65 : decode cX10_serves 65 = .ok (.iconst 1, 1) := by decide +kernel
theorem dX10_serves_66 : decode cX10_serves 66 = .ok (.iastore, 1) := by decide +kernel
theorem dX10_serves_67 : decode cX10_serves 67 = .ok (.aload_n 0, 1) := by decide +kernel
theorem dX10_serves_68 : decode cX10_serves 68 = .ok (.getfield 7, 3) := by decide +kernel
theorem dX10_serves_71 : decode cX10_serves 71 = .ok (.sipush 430, 3) := by decide +kernel
theorem dX10_serves_74 : decode cX10_serves 74 = .ok (.iload_n 1, 1) := by decide +kernel
theorem dX10_serves_75 : decode cX10_serves 75 = .ok (.iadd, 1) := by decide +kernel
theorem dX10_serves_76 : decode cX10_serves 76 = .ok (.aload_n 0, 1) := by decide +kernel
theorem dX10_serves_77 : decode cX10_serves 77 = .ok (.getfield 7, 3) := by decide +kernel
theorem dX10_serves_80 : decode cX10_serves 80 = .ok (.bipush 8, 2) := by decide +kernel
theorem dX10_serves_82 : decode cX10_serves 82 = .ok (.iaload, 1) := by decide +kernel
theorem dX10_serves_83 : decode cX10_serves 83 = .ok (.iastore, 1) := by decide +kernel
theorem dX10_serves_84 : decode cX10_serves 84 = .ok (.iload_n 1, 1) := by decide +kernel
theorem dX10_serves_85 : decode cX10_serves 85 = .ok (.ireturn, 1) := by decide +kernel
theorem dX10_serve_0 : decode cX10_serve 0 = .ok (.aload_n 0, 1) := by decide +kernel
theorem dX10_serve_1 : decode cX10_serve 1 = .ok (.iconst 0, 1) := by decide +kernel
theorem dX10_serve_2 : decode cX10_serve 2 = .ok (.putfield 39, 3) := by decide +kernel
theorem dX10_serve_5 : decode cX10_serve 5 = .ok (.aload_n 0, 1) := by decide +kernel
theorem dX10_serve_6 : decode cX10_serve 6 = .ok (.invokevirtual 103, 3) := by decide +kernel
theorem dX10_serve_9 : decode cX10_serve 9 = .ok (.ifCond .ne 9, 3) := by decide +kernel
theorem dX10_serve_12 : decode cX10_serve 12 = .ok (.aload_n 0, 1) := by decide +kernel
theorem dX10_serve_13 : decode cX10_serve 13 = .ok (.iconst 1, 1) := by decide +kernel
theorem dX10_serve_14 : decode cX10_serve 14 = .ok (.invokevirtual 78, 3) := by decide +kernel
theorem dX10_serve_17 : decode cX10_serve 17 = .ok (.ireturn, 1) := by decide +kernel
theorem dX10_serve_18 : decode cX10_serve 18 = .ok (.aload_n 0, 1) := by decide +kernel
theorem dX10_serve_19 : decode cX10_serve 19 = .ok (.getfield 7, 3) := by decide +kernel
theorem dX10_serve_22 : decode cX10_serve 22 = .ok (.bipush 8, 2) := by decide +kernel
theorem dX10_serve_24 : decode cX10_serve 24 = .ok (.iaload, 1) := by decide +kernel
theorem dX10_serve_25 : decode cX10_serve 25 = .ok (.ldc 99, 2) := by decide +kernel
theorem dX10_serve_27 : decode cX10_serve 27 = .ok (.if_icmp .le 11, 3) := by decide +kernel
theorem dX10_serve_30 : decode cX10_serve 30 = .ok (.aload_n 0, 1) := by decide +kernel
theorem dX10_serve_31 : decode cX10_serve 31 = .ok (.iconst 2, 1) := by decide +kernel
theorem dX10_serve_32 : decode cX10_serve 32 = .ok (.invokevirtual 78, 3) := by decide +kernel
theorem dX10_serve_35 : decode cX10_serve 35 = .ok (.goto 7, 3) := by decide +kernel
theorem dX10_serve_38 : decode cX10_serve 38 = .ok (.aload_n 0, 1) := by decide +kernel
theorem dX10_serve_39 : decode cX10_serve 39 = .ok (.invokevirtual 186, 3) := by decide +kernel
theorem dX10_serve_42 : decode cX10_serve 42 = .ok (.ireturn, 1) := by decide +kernel
theorem dX10_serveFor_0 : decode cX10_serveFor 0 = .ok (.aload_n 0, 1) := by decide +kernel
theorem dX10_serveFor_1 : decode cX10_serveFor 1 = .ok (.iconst 0, 1) := by decide +kernel
theorem dX10_serveFor_2 : decode cX10_serveFor 2 = .ok (.putfield 39, 3) := by decide +kernel
theorem dX10_serveFor_5 : decode cX10_serveFor 5 = .ok (.iload_n 1, 1) := by decide +kernel
theorem dX10_serveFor_6 : decode cX10_serveFor 6 = .ok (.iconst 1, 1) := by decide +kernel
theorem dX10_serveFor_7 : decode cX10_serveFor 7 = .ok (.sipush 9999, 3) := by decide +kernel
theorem dX10_serveFor_10 : decode cX10_serveFor 10 = .ok (.invokestatic 42, 3) := by decide +kernel
theorem dX10_serveFor_13 : decode cX10_serveFor 13 = .ok (.ifCond .ne 9, 3) := by decide +kernel
theorem dX10_serveFor_16 : decode cX10_serveFor 16 = .ok (.aload_n 0, 1) := by decide +kernel
theorem dX10_serveFor_17 : decode cX10_serveFor 17 = .ok (.iconst 1, 1) := by decide +kernel
theorem dX10_serveFor_18 : decode cX10_serveFor 18 = .ok (.invokevirtual 78, 3) := by decide +kernel
theorem dX10_serveFor_21 : decode cX10_serveFor 21 = .ok (.ireturn, 1) := by decide +kernel
theorem dX10_serveFor_22 : decode cX10_serveFor 22 = .ok (.aload_n 0, 1) := by decide +kernel
theorem dX10_serveFor_23 : decode cX10_serveFor 23 = .ok (.getfield 7, 3) := by decide +kernel
theorem dX10_serveFor_26 : decode cX10_serveFor 26 = .ok (.bipush 8, 2) := by decide +kernel
theorem dX10_serveFor_28 : decode cX10_serveFor 28 = .ok (.iaload, 1) := by decide +kernel
theorem dX10_serveFor_29 : decode cX10_serveFor 29 = .ok (.ldc 99, 2) := by decide +kernel
theorem dX10_serveFor_31 : decode cX10_serveFor 31 = .ok (.if_icmp .le 9, 3) := by decide +kernel
theorem dX10_serveFor_34 : decode cX10_serveFor 34 = .ok (.aload_n 0, 1) := by decide +kernel
theorem dX10_serveFor_35 : decode cX10_serveFor 35 = .ok (.iconst 2, 1) := by decide +kernel
theorem dX10_serveFor_36 : decode cX10_serveFor 36 = .ok (.invokevirtual 78, 3) := by decide +kernel
theorem dX10_serveFor_39 : decode cX10_serveFor 39 = .ok (.ireturn, 1) := by decide +kernel
theorem dX10_serveFor_40 : decode cX10_serveFor 40 = .ok (.aload_n 0, 1) := by decide +kernel
theorem dX10_serveFor_41 : decode cX10_serveFor 41 = .ok (.getfield 7, 3) := by decide +kernel
theorem dX10_serveFor_44 : decode cX10_serveFor 44 = .ok (.bipush 8, 2) := by decide +kernel
theorem dX10_serveFor_46 : decode cX10_serveFor 46 = .ok (.iaload, 1) := by decide +kernel
theorem dX10_serveFor_47 : decode cX10_serveFor 47 = .ok (.iload_n 1, 1) := by decide +kernel
theorem dX10_serveFor_48 : decode cX10_serveFor 48 = .ok (.iadd, 1) := by decide +kernel
theorem dX10_serveFor_49 : decode cX10_serveFor 49 = .ok (.istore_n 2, 1) := by decide +kernel
theorem dX10_serveFor_50 : decode cX10_serveFor 50 = .ok (.iconst 0, 1) := by decide +kernel
theorem dX10_serveFor_51 : decode cX10_serveFor 51 = .ok (.istore_n 3, 1) := by decide +kernel
theorem dX10_serveFor_52 : decode cX10_serveFor 52 = .ok (.aload_n 0, 1) := by decide +kernel
theorem dX10_serveFor_53 : decode cX10_serveFor 53 = .ok (.invokevirtual 103, 3) := by decide +kernel
theorem dX10_serveFor_56 : decode cX10_serveFor 56 = .ok (.ifCond .le 25, 3) := by decide +kernel
theorem dX10_serveFor_59 : decode cX10_serveFor 59 = .ok (.aload_n 0, 1) := by decide +kernel
theorem dX10_serveFor_60 : decode cX10_serveFor 60 = .ok (.getfield 7, 3) := by decide +kernel
theorem dX10_serveFor_63 : decode cX10_serveFor 63 = .ok (.bipush 8, 2) := by decide +kernel
theorem dX10_serveFor_65 : decode cX10_serveFor 65 = .ok (.iaload, 1) := by decide +kernel
theorem dX10_serveFor_66 : decode cX10_serveFor 66 = .ok (.iload_n 2, 1) := by decide +kernel
theorem dX10_serveFor_67 : decode cX10_serveFor 67 = .ok (.if_icmp .ge 14, 3) := by decide +kernel
theorem dX10_serveFor_70 : decode cX10_serveFor 70 = .ok (.aload_n 0, 1) := by decide +kernel
theorem dX10_serveFor_71 : decode cX10_serveFor 71 = .ok (.invokevirtual 186, 3) := by decide +kernel
theorem dX10_serveFor_74 : decode cX10_serveFor 74 = .ok (.pop, 1) := by decide +kernel
theorem dX10_serveFor_75 : decode cX10_serveFor 75 = .ok (.iinc 3 1, 3) := by decide +kernel
theorem dX10_serveFor_78 : decode cX10_serveFor 78 = .ok (.goto (-26), 3) := by decide +kernel
theorem dX10_serveFor_81 : decode cX10_serveFor 81 = .ok (.iload_n 3, 1) := by decide +kernel
theorem dX10_serveFor_82 : decode cX10_serveFor 82 = .ok (.ireturn, 1) := by decide +kernel
theorem dX10_dirtyFrom_0 : decode cX10_dirtyFrom 0 = .ok (.iconst (-1), 1) := by decide +kernel
theorem dX10_dirtyFrom_1 : decode cX10_dirtyFrom 1 = .ok (.istore_n 3, 1) := by decide +kernel
theorem dX10_dirtyFrom_2 : decode cX10_dirtyFrom 2 = .ok (.iconst 0, 1) := by decide +kernel
theorem dX10_dirtyFrom_3 : decode cX10_dirtyFrom 3 = .ok (.istore 4, 2) := by decide +kernel
theorem dX10_dirtyFrom_5 : decode cX10_dirtyFrom 5 = .ok (.iload 4, 2) := by decide +kernel
theorem dX10_dirtyFrom_7 : decode cX10_dirtyFrom 7 = .ok (.sipush 572, 3) := by decide +kernel
theorem dX10_dirtyFrom_10 : decode cX10_dirtyFrom 10 = .ok (.if_icmp .ge 61, 3) := by decide +kernel
theorem dX10_dirtyFrom_13 : decode cX10_dirtyFrom 13 = .ok (.aload_n 0, 1) := by decide +kernel
theorem dX10_dirtyFrom_14 : decode cX10_dirtyFrom 14 = .ok (.getfield 7, 3) := by decide +kernel
theorem dX10_dirtyFrom_17 : decode cX10_dirtyFrom 17 = .ok (.sipush 510, 3) := by decide +kernel
theorem dX10_dirtyFrom_20 : decode cX10_dirtyFrom 20 = .ok (.iload 4, 2) := by decide +kernel
theorem dX10_dirtyFrom_22 : decode cX10_dirtyFrom 22 = .ok (.iadd, 1) := by decide +kernel
theorem dX10_dirtyFrom_23 : decode cX10_dirtyFrom 23 = .ok (.iaload, 1) := by decide +kernel
theorem dX10_dirtyFrom_24 : decode cX10_dirtyFrom 24 = .ok (.iconst 1, 1) := by decide +kernel
theorem dX10_dirtyFrom_25 : decode cX10_dirtyFrom 25 = .ok (.if_icmp .ne 40, 3) := by decide +kernel
theorem dX10_dirtyFrom_28 : decode cX10_dirtyFrom 28 = .ok (.aload_n 0, 1) := by decide +kernel
theorem dX10_dirtyFrom_29 : decode cX10_dirtyFrom 29 = .ok (.iload 4, 2) := by decide +kernel
theorem dX10_dirtyFrom_31 : decode cX10_dirtyFrom 31 = .ok (.invokevirtual 89, 3) := by decide +kernel
theorem dX10_dirtyFrom_34 : decode cX10_dirtyFrom 34 = .ok (.iload_n 1, 1) := by decide +kernel
theorem dX10_dirtyFrom_35 : decode cX10_dirtyFrom 35 = .ok (.iload_n 2, 1) := by decide +kernel
theorem dX10_dirtyFrom_36 : decode cX10_dirtyFrom 36 = .ok (.iconst 1, 1) := by decide +kernel
theorem dX10_dirtyFrom_37 : decode cX10_dirtyFrom 37 = .ok (.isub, 1) := by decide +kernel
theorem dX10_dirtyFrom_38 : decode cX10_dirtyFrom 38 = .ok (.invokestatic 42, 3) := by decide +kernel
theorem dX10_dirtyFrom_41 : decode cX10_dirtyFrom 41 = .ok (.ifCond .eq 24, 3) := by decide +kernel
theorem dX10_dirtyFrom_44 : decode cX10_dirtyFrom 44 = .ok (.iload_n 3, 1) := by decide +kernel
theorem dX10_dirtyFrom_45 : decode cX10_dirtyFrom 45 = .ok (.ifCond .lt 17, 3) := by decide +kernel
theorem dX10_dirtyFrom_48 : decode cX10_dirtyFrom 48 = .ok (.aload_n 0, 1) := by decide +kernel
theorem dX10_dirtyFrom_49 : decode cX10_dirtyFrom 49 = .ok (.iload 4, 2) := by decide +kernel
theorem dX10_dirtyFrom_51 : decode cX10_dirtyFrom 51 = .ok (.invokevirtual 89, 3) := by decide +kernel
theorem dX10_dirtyFrom_54 : decode cX10_dirtyFrom 54 = .ok (.aload_n 0, 1) := by decide +kernel
theorem dX10_dirtyFrom_55 : decode cX10_dirtyFrom 55 = .ok (.iload_n 3, 1) := by decide +kernel
theorem dX10_dirtyFrom_56 : decode cX10_dirtyFrom 56 = .ok (.invokevirtual 89, 3) := by decide +kernel
theorem dX10_dirtyFrom_59 : decode cX10_dirtyFrom 59 = .ok (.if_icmp .ge 6, 3) := by decide +kernel
theorem dX10_dirtyFrom_62 : decode cX10_dirtyFrom 62 = .ok (.iload 4, 2) := by decide +kernel
theorem dX10_dirtyFrom_64 : decode cX10_dirtyFrom 64 = .ok (.istore_n 3, 1) := by decide +kernel
theorem dX10_dirtyFrom_65 : decode cX10_dirtyFrom 65 = .ok (.iinc 4 1, 3) := by decide +kernel
theorem dX10_dirtyFrom_68 : decode cX10_dirtyFrom 68 = .ok (.goto (-63), 3) := by decide +kernel
theorem dX10_dirtyFrom_71 : decode cX10_dirtyFrom 71 = .ok (.iload_n 3, 1) := by decide +kernel
theorem dX10_dirtyFrom_72 : decode cX10_dirtyFrom 72 = .ok (.ireturn, 1) := by decide +kernel
theorem dX10_flush_0 : decode cX10_flush 0 = .ok (.aload_n 0, 1) := by decide +kernel
theorem dX10_flush_1 : decode cX10_flush 1 = .ok (.iconst 0, 1) := by decide +kernel
theorem dX10_flush_2 : decode cX10_flush 2 = .ok (.putfield 39, 3) := by decide +kernel
theorem dX10_flush_5 : decode cX10_flush 5 = .ok (.aload_n 0, 1) := by decide +kernel
theorem dX10_flush_6 : decode cX10_flush 6 = .ok (.getfield 7, 3) := by decide +kernel
theorem dX10_flush_9 : decode cX10_flush 9 = .ok (.bipush 8, 2) := by decide +kernel
theorem dX10_flush_11 : decode cX10_flush 11 = .ok (.iaload, 1) := by decide +kernel
theorem dX10_flush_12 : decode cX10_flush 12 = .ok (.ldc 99, 2) := by decide +kernel
theorem dX10_flush_14 : decode cX10_flush 14 = .ok (.if_icmp .le 9, 3) := by decide +kernel
theorem dX10_flush_17 : decode cX10_flush 17 = .ok (.aload_n 0, 1) := by decide +kernel
theorem dX10_flush_18 : decode cX10_flush 18 = .ok (.iconst 1, 1) := by decide +kernel
theorem dX10_flush_19 : decode cX10_flush 19 = .ok (.invokevirtual 78, 3) := by decide +kernel
theorem dX10_flush_22 : decode cX10_flush 22 = .ok (.ireturn, 1) := by decide +kernel
theorem dX10_flush_23 : decode cX10_flush 23 = .ok (.aload_n 0, 1) := by decide +kernel
theorem dX10_flush_24 : decode cX10_flush 24 = .ok (.getfield 7, 3) := by decide +kernel
theorem dX10_flush_27 : decode cX10_flush 27 = .ok (.bipush 8, 2) := by decide +kernel
theorem dX10_flush_29 : decode cX10_flush 29 = .ok (.iaload, 1) := by decide +kernel
theorem dX10_flush_30 : decode cX10_flush 30 = .ok (.istore_n 1, 1) := by decide +kernel
theorem dX10_flush_31 : decode cX10_flush 31 = .ok (.aload_n 0, 1) := by decide +kernel
theorem dX10_flush_32 : decode cX10_flush 32 = .ok (.getfield 7, 3) := by decide +kernel
theorem dX10_flush_35 : decode cX10_flush 35 = .ok (.bipush 9, 2) := by decide +kernel
theorem dX10_flush_37 : decode cX10_flush 37 = .ok (.iaload, 1) := by decide +kernel
theorem dX10_flush_38 : decode cX10_flush 38 = .ok (.invokestatic 56, 3) := by decide +kernel
theorem dX10_flush_41 : decode cX10_flush 41 = .ok (.istore_n 2, 1) := by decide +kernel
theorem dX10_flush_42 : decode cX10_flush 42 = .ok (.aload_n 0, 1) := by decide +kernel
theorem dX10_flush_43 : decode cX10_flush 43 = .ok (.iload_n 2, 1) := by decide +kernel
theorem dX10_flush_44 : decode cX10_flush 44 = .ok (.sipush 576, 3) := by decide +kernel
theorem dX10_flush_47 : decode cX10_flush 47 = .ok (.invokevirtual 189, 3) := by decide +kernel
theorem dX10_flush_50 : decode cX10_flush 50 = .ok (.istore_n 3, 1) := by decide +kernel
theorem dX10_flush_51 : decode cX10_flush 51 = .ok (.iload_n 3, 1) := by decide +kernel
theorem dX10_flush_52 : decode cX10_flush 52 = .ok (.ifCond .lt 35, 3) := by decide +kernel
theorem dX10_flush_55 : decode cX10_flush 55 = .ok (.aload_n 0, 1) := by decide +kernel
theorem dX10_flush_56 : decode cX10_flush 56 = .ok (.aload_n 0, 1) := by decide +kernel
theorem dX10_flush_57 : decode cX10_flush 57 = .ok (.iload_n 3, 1) := by decide +kernel
theorem dX10_flush_58 : decode cX10_flush 58 = .ok (.invokevirtual 89, 3) := by decide +kernel
theorem dX10_flush_61 : decode cX10_flush 61 = .ok (.invokevirtual 182, 3) := by decide +kernel
theorem dX10_flush_64 : decode cX10_flush 64 = .ok (.aload_n 0, 1) := by decide +kernel
theorem dX10_flush_65 : decode cX10_flush 65 = .ok (.getfield 7, 3) := by decide +kernel
theorem dX10_flush_68 : decode cX10_flush 68 = .ok (.sipush 510, 3) := by decide +kernel
theorem dX10_flush_71 : decode cX10_flush 71 = .ok (.iload_n 3, 1) := by decide +kernel
theorem dX10_flush_72 : decode cX10_flush 72 = .ok (.iadd, 1) := by decide +kernel
theorem dX10_flush_73 : decode cX10_flush 73 = .ok (.iconst 0, 1) := by decide +kernel
theorem dX10_flush_74 : decode cX10_flush 74 = .ok (.iastore, 1) := by decide +kernel
theorem dX10_flush_75 : decode cX10_flush 75 = .ok (.aload_n 0, 1) := by decide +kernel
theorem dX10_flush_76 : decode cX10_flush 76 = .ok (.iload_n 2, 1) := by decide +kernel
theorem dX10_flush_77 : decode cX10_flush 77 = .ok (.sipush 576, 3) := by decide +kernel
theorem dX10_flush_80 : decode cX10_flush 80 = .ok (.invokevirtual 189, 3) := by decide +kernel
theorem dX10_flush_83 : decode cX10_flush 83 = .ok (.istore_n 3, 1) := by decide +kernel
theorem dX10_flush_84 : decode cX10_flush 84 = .ok (.goto (-33), 3) := by decide +kernel
theorem dX10_flush_87 : decode cX10_flush 87 = .ok (.aload_n 0, 1) := by decide +kernel
theorem dX10_flush_88 : decode cX10_flush 88 = .ok (.iconst 0, 1) := by decide +kernel
theorem dX10_flush_89 : decode cX10_flush 89 = .ok (.iload_n 2, 1) := by decide +kernel
theorem dX10_flush_90 : decode cX10_flush 90 = .ok (.invokevirtual 189, 3) := by decide +kernel
theorem dX10_flush_93 : decode cX10_flush 93 = .ok (.istore_n 3, 1) := by decide +kernel
theorem dX10_flush_94 : decode cX10_flush 94 = .ok (.iload_n 3, 1) := by decide +kernel
theorem dX10_flush_95 : decode cX10_flush 95 = .ok (.ifCond .lt 33, 3) := by decide +kernel
theorem dX10_flush_98 : decode cX10_flush 98 = .ok (.aload_n 0, 1) := by decide +kernel
theorem dX10_flush_99 : decode cX10_flush 99 = .ok (.aload_n 0, 1) := by decide +kernel
theorem dX10_flush_100 : decode cX10_flush 100 = .ok (.iload_n 3, 1) := by decide +kernel
theorem dX10_flush_101 : decode cX10_flush 101 = .ok (.invokevirtual 89, 3) := by decide +kernel
theorem dX10_flush_104 : decode cX10_flush 104 = .ok (.invokevirtual 182, 3) := by decide +kernel
theorem dX10_flush_107 : decode cX10_flush 107 = .ok (.aload_n 0, 1) := by decide +kernel
theorem dX10_flush_108 : decode cX10_flush 108 = .ok (.getfield 7, 3) := by decide +kernel
theorem dX10_flush_111 : decode cX10_flush 111 = .ok (.sipush 510, 3) := by decide +kernel
theorem dX10_flush_114 : decode cX10_flush 114 = .ok (.iload_n 3, 1) := by decide +kernel
theorem dX10_flush_115 : decode cX10_flush 115 = .ok (.iadd, 1) := by decide +kernel
theorem dX10_flush_116 : decode cX10_flush 116 = .ok (.iconst 0, 1) := by decide +kernel
theorem dX10_flush_117 : decode cX10_flush 117 = .ok (.iastore, 1) := by decide +kernel
theorem dX10_flush_118 : decode cX10_flush 118 = .ok (.aload_n 0, 1) := by decide +kernel
theorem dX10_flush_119 : decode cX10_flush 119 = .ok (.iconst 0, 1) := by decide +kernel
theorem dX10_flush_120 : decode cX10_flush 120 = .ok (.iload_n 2, 1) := by decide +kernel
theorem dX10_flush_121 : decode cX10_flush 121 = .ok (.invokevirtual 189, 3) := by decide +kernel
theorem dX10_flush_124 : decode cX10_flush 124 = .ok (.istore_n 3, 1) := by decide +kernel
theorem dX10_flush_125 : decode cX10_flush 125 = .ok (.goto (-31), 3) := by decide +kernel
theorem dX10_flush_128 : decode cX10_flush 128 = .ok (.aload_n 0, 1) := by decide +kernel
theorem dX10_flush_129 : decode cX10_flush 129 = .ok (.getfield 7, 3) := by decide +kernel
theorem dX10_flush_132 : decode cX10_flush 132 = .ok (.bipush 8, 2) := by decide +kernel
theorem dX10_flush_134 : decode cX10_flush 134 = .ok (.iaload, 1) := by decide +kernel
theorem dX10_flush_135 : decode cX10_flush 135 = .ok (.iload_n 1, 1) := by decide +kernel
theorem dX10_flush_136 : decode cX10_flush 136 = .ok (.isub, 1) := by decide +kernel
theorem dX10_flush_137 : decode cX10_flush 137 = .ok (.ireturn, 1) := by decide +kernel
theorem dX10_dirtyBlocks_0 : decode cX10_dirtyBlocks 0 = .ok (.aload_n 0, 1) := by decide +kernel
theorem dX10_dirtyBlocks_1 : decode cX10_dirtyBlocks 1 = .ok (.iconst 0, 1) := by decide +kernel
theorem dX10_dirtyBlocks_2 : decode cX10_dirtyBlocks 2 = .ok (.putfield 39, 3) := by decide +kernel
theorem dX10_dirtyBlocks_5 : decode cX10_dirtyBlocks 5 = .ok (.aload_n 0, 1) := by decide +kernel
theorem dX10_dirtyBlocks_6 : decode cX10_dirtyBlocks 6 = .ok (.invokevirtual 81, 3) := by decide +kernel
theorem dX10_dirtyBlocks_9 : decode cX10_dirtyBlocks 9 = .ok (.ireturn, 1) := by decide +kernel
theorem dX10_pendingRequests_0 : decode cX10_pendingRequests 0 = .ok (.aload_n 0, 1) := by decide +kernel
theorem dX10_pendingRequests_1 : decode cX10_pendingRequests 1 = .ok (.iconst 0, 1) := by decide +kernel
theorem dX10_pendingRequests_2 : decode cX10_pendingRequests 2 = .ok (.putfield 39, 3) := by decide +kernel
theorem dX10_pendingRequests_5 : decode cX10_pendingRequests 5 = .ok (.aload_n 0, 1) := by decide +kernel
theorem dX10_pendingRequests_6 : decode cX10_pendingRequests 6 = .ok (.invokevirtual 103, 3) := by decide +kernel
theorem dX10_pendingRequests_9 : decode cX10_pendingRequests 9 = .ok (.ireturn, 1) := by decide +kernel
theorem dX10_state_0 : decode cX10_state 0 = .ok (.aload_n 0, 1) := by decide +kernel
theorem dX10_state_1 : decode cX10_state 1 = .ok (.iconst 0, 1) := by decide +kernel
theorem dX10_state_2 : decode cX10_state 2 = .ok (.putfield 39, 3) := by decide +kernel
theorem dX10_state_5 : decode cX10_state 5 = .ok (.aload_n 0, 1) := by decide +kernel
theorem dX10_state_6 : decode cX10_state 6 = .ok (.iload_n 1, 1) := by decide +kernel
theorem dX10_state_7 : decode cX10_state 7 = .ok (.invokevirtual 140, 3) := by decide +kernel
theorem dX10_state_10 : decode cX10_state 10 = .ok (.ifCond .eq 16, 3) := by decide +kernel
theorem dX10_state_13 : decode cX10_state 13 = .ok (.aload_n 0, 1) := by decide +kernel
theorem dX10_state_14 : decode cX10_state 14 = .ok (.getfield 7, 3) := by decide +kernel
theorem dX10_state_17 : decode cX10_state 17 = .ok (.sipush 350, 3) := by decide +kernel
theorem dX10_state_20 : decode cX10_state 20 = .ok (.iload_n 1, 1) := by decide +kernel
theorem dX10_state_21 : decode cX10_state 21 = .ok (.iadd, 1) := by decide +kernel
theorem dX10_state_22 : decode cX10_state 22 = .ok (.iaload, 1) := by decide +kernel
theorem dX10_state_23 : decode cX10_state 23 = .ok (.goto 8, 3) := by decide +kernel
theorem dX10_state_26 : decode cX10_state 26 = .ok (.aload_n 0, 1) := by decide +kernel
theorem dX10_state_27 : decode cX10_state 27 = .ok (.iconst 1, 1) := by decide +kernel
theorem dX10_state_28 : decode cX10_state 28 = .ok (.invokevirtual 78, 3) := by decide +kernel
theorem dX10_state_31 : decode cX10_state 31 = .ok (.ireturn, 1) := by decide +kernel
theorem dX10_bucket_0 : decode cX10_bucket 0 = .ok (.aload_n 0, 1) := by decide +kernel
theorem dX10_bucket_1 : decode cX10_bucket 1 = .ok (.iconst 0, 1) := by decide +kernel
theorem dX10_bucket_2 : decode cX10_bucket 2 = .ok (.putfield 39, 3) := by decide +kernel
theorem dX10_bucket_5 : decode cX10_bucket 5 = .ok (.aload_n 0, 1) := by decide +kernel
theorem dX10_bucket_6 : decode cX10_bucket 6 = .ok (.iload_n 1, 1) := by decide +kernel
theorem dX10_bucket_7 : decode cX10_bucket 7 = .ok (.invokevirtual 140, 3) := by decide +kernel
theorem dX10_bucket_10 : decode cX10_bucket 10 = .ok (.ifCond .ne 9, 3) := by decide +kernel
theorem dX10_bucket_13 : decode cX10_bucket 13 = .ok (.aload_n 0, 1) := by decide +kernel
theorem dX10_bucket_14 : decode cX10_bucket 14 = .ok (.iconst 1, 1) := by decide +kernel
theorem dX10_bucket_15 : decode cX10_bucket 15 = .ok (.invokevirtual 78, 3) := by decide +kernel
theorem dX10_bucket_18 : decode cX10_bucket 18 = .ok (.ireturn, 1) := by decide +kernel
theorem dX10_bucket_19 : decode cX10_bucket 19 = .ok (.aload_n 0, 1) := by decide +kernel
theorem dX10_bucket_20 : decode cX10_bucket 20 = .ok (.iload_n 1, 1) := by decide +kernel
theorem dX10_bucket_21 : decode cX10_bucket 21 = .ok (.invokevirtual 100, 3) := by decide +kernel
theorem dX10_bucket_24 : decode cX10_bucket 24 = .ok (.ifCond .eq 11, 3) := by decide +kernel
theorem dX10_bucket_27 : decode cX10_bucket 27 = .ok (.aload_n 0, 1) := by decide +kernel
theorem dX10_bucket_28 : decode cX10_bucket 28 = .ok (.iload_n 1, 1) := by decide +kernel
theorem dX10_bucket_29 : decode cX10_bucket 29 = .ok (.invokevirtual 152, 3) := by decide +kernel
theorem dX10_bucket_32 : decode cX10_bucket 32 = .ok (.goto 8, 3) := by decide +kernel
theorem dX10_bucket_35 : decode cX10_bucket 35 = .ok (.aload_n 0, 1) := by decide +kernel
theorem dX10_bucket_36 : decode cX10_bucket 36 = .ok (.iconst 2, 1) := by decide +kernel
theorem dX10_bucket_37 : decode cX10_bucket 37 = .ok (.invokevirtual 78, 3) := by decide +kernel
theorem dX10_bucket_40 : decode cX10_bucket 40 = .ok (.ireturn, 1) := by decide +kernel
theorem dX10_finish_0 : decode cX10_finish 0 = .ok (.aload_n 0, 1) := by decide +kernel
theorem dX10_finish_1 : decode cX10_finish 1 = .ok (.iconst 0, 1) := by decide +kernel
theorem dX10_finish_2 : decode cX10_finish 2 = .ok (.putfield 39, 3) := by decide +kernel
theorem dX10_finish_5 : decode cX10_finish 5 = .ok (.aload_n 0, 1) := by decide +kernel
theorem dX10_finish_6 : decode cX10_finish 6 = .ok (.iload_n 1, 1) := by decide +kernel
theorem dX10_finish_7 : decode cX10_finish 7 = .ok (.invokevirtual 140, 3) := by decide +kernel
theorem dX10_finish_10 : decode cX10_finish 10 = .ok (.ifCond .ne 9, 3) := by decide +kernel
theorem dX10_finish_13 : decode cX10_finish 13 = .ok (.aload_n 0, 1) := by decide +kernel
theorem dX10_finish_14 : decode cX10_finish 14 = .ok (.iconst 1, 1) := by decide +kernel
theorem dX10_finish_15 : decode cX10_finish 15 = .ok (.invokevirtual 78, 3) := by decide +kernel
theorem dX10_finish_18 : decode cX10_finish 18 = .ok (.ireturn, 1) := by decide +kernel
theorem dX10_finish_19 : decode cX10_finish 19 = .ok (.aload_n 0, 1) := by decide +kernel
theorem dX10_finish_20 : decode cX10_finish 20 = .ok (.getfield 7, 3) := by decide +kernel
theorem dX10_finish_23 : decode cX10_finish 23 = .ok (.sipush 350, 3) := by decide +kernel
theorem dX10_finish_26 : decode cX10_finish 26 = .ok (.iload_n 1, 1) := by decide +kernel
theorem dX10_finish_27 : decode cX10_finish 27 = .ok (.iadd, 1) := by decide +kernel
theorem dX10_finish_28 : decode cX10_finish 28 = .ok (.iaload, 1) := by decide +kernel
theorem dX10_finish_29 : decode cX10_finish 29 = .ok (.iconst 1, 1) := by decide +kernel
theorem dX10_finish_30 : decode cX10_finish 30 = .ok (.if_icmp .ne 16, 3) := by decide +kernel
theorem dX10_finish_33 : decode cX10_finish 33 = .ok (.aload_n 0, 1) := by decide +kernel
theorem dX10_finish_34 : decode cX10_finish 34 = .ok (.getfield 7, 3) := by decide +kernel
theorem dX10_finish_37 : decode cX10_finish 37 = .ok (.sipush 430, 3) := by decide +kernel
theorem dX10_finish_40 : decode cX10_finish 40 = .ok (.iload_n 1, 1) := by decide +kernel
theorem dX10_finish_41 : decode cX10_finish 41 = .ok (.iadd, 1) := by decide +kernel
theorem dX10_finish_42 : decode cX10_finish 42 = .ok (.iaload, 1) := by decide +kernel
theorem dX10_finish_43 : decode cX10_finish 43 = .ok (.goto 8, 3) := by decide +kernel
theorem dX10_finish_46 : decode cX10_finish 46 = .ok (.aload_n 0, 1) := by decide +kernel
theorem dX10_finish_47 : decode cX10_finish 47 = .ok (.iconst 2, 1) := by decide +kernel
theorem dX10_finish_48 : decode cX10_finish 48 = .ok (.invokevirtual 78, 3) := by decide +kernel
theorem dX10_finish_51 : decode cX10_finish 51 = .ok (.ireturn, 1) := by decide +kernel
theorem dX10_isBehind_0 : decode cX10_isBehind 0 = .ok (.aload_n 0, 1) := by decide +kernel
theorem dX10_isBehind_1 : decode cX10_isBehind 1 = .ok (.getfield 7, 3) := by decide +kernel
theorem dX10_isBehind_4 : decode cX10_isBehind 4 = .ok (.sipush 270, 3) := by decide +kernel
theorem dX10_isBehind_7 : decode cX10_isBehind 7 = .ok (.iload_n 1, 1) := by decide +kernel
theorem dX10_isBehind_8 : decode cX10_isBehind 8 = .ok (.iadd, 1) := by decide +kernel
theorem dX10_isBehind_9 : decode cX10_isBehind 9 = .ok (.iaload, 1) := by decide +kernel
theorem dX10_isBehind_10 : decode cX10_isBehind 10 = .ok (.ifCond .lt 30, 3) := by decide +kernel
theorem dX10_isBehind_13 : decode cX10_isBehind 13 = .ok (.aload_n 0, 1) := by decide +kernel
theorem dX10_isBehind_14 : decode cX10_isBehind 14 = .ok (.getfield 7, 3) := by decide +kernel
theorem dX10_isBehind_17 : decode cX10_isBehind 17 = .ok (.sipush 430, 3) := by decide +kernel
theorem dX10_isBehind_20 : decode cX10_isBehind 20 = .ok (.iload_n 1, 1) := by decide +kernel
theorem dX10_isBehind_21 : decode cX10_isBehind 21 = .ok (.iadd, 1) := by decide +kernel
theorem dX10_isBehind_22 : decode cX10_isBehind 22 = .ok (.iaload, 1) := by decide +kernel
theorem dX10_isBehind_23 : decode cX10_isBehind 23 = .ok (.aload_n 0, 1) := by decide +kernel
theorem dX10_isBehind_24 : decode cX10_isBehind 24 = .ok (.getfield 7, 3) := by decide +kernel
theorem dX10_isBehind_27 : decode cX10_isBehind 27 = .ok (.sipush 270, 3) := by decide +kernel
theorem dX10_isBehind_30 : decode cX10_isBehind 30 = .ok (.iload_n 1, 1) := by decide +kernel
theorem dX10_isBehind_31 : decode cX10_isBehind 31 = .ok (.iadd, 1) := by decide +kernel
theorem dX10_isBehind_32 : decode cX10_isBehind 32 = .ok (.iaload, 1) := by decide +kernel
theorem dX10_isBehind_33 : decode cX10_isBehind 33 = .ok (.if_icmp .le 7, 3) := by decide +kernel
theorem dX10_isBehind_36 : decode cX10_isBehind 36 = .ok (.iconst 1, 1) := by decide +kernel
theorem dX10_isBehind_37 : decode cX10_isBehind 37 = .ok (.goto 4, 3) := by decide +kernel
theorem dX10_isBehind_40 : decode cX10_isBehind 40 = .ok (.iconst 0, 1) := by decide +kernel
theorem dX10_isBehind_41 : decode cX10_isBehind 41 = .ok (.ireturn, 1) := by decide +kernel
theorem dX10_isLate_0 : decode cX10_isLate 0 = .ok (.aload_n 0, 1) := by decide +kernel
theorem dX10_isLate_1 : decode cX10_isLate 1 = .ok (.aload_n 0, 1) := by decide +kernel
theorem dX10_isLate_2 : decode cX10_isLate 2 = .ok (.iload_n 1, 1) := by decide +kernel
theorem dX10_isLate_3 : decode cX10_isLate 3 = .ok (.invokevirtual 140, 3) := by decide +kernel
theorem dX10_isLate_6 : decode cX10_isLate 6 = .ok (.ifCond .ne 7, 3) := by decide +kernel
theorem dX10_isLate_9 : decode cX10_isLate 9 = .ok (.iconst 1, 1) := by decide +kernel
theorem dX10_isLate_10 : decode cX10_isLate 10 = .ok (.goto 39, 3) := by decide +kernel
theorem dX10_isLate_13 : decode cX10_isLate 13 = .ok (.aload_n 0, 1) := by decide +kernel
theorem dX10_isLate_14 : decode cX10_isLate 14 = .ok (.getfield 7, 3) := by decide +kernel
theorem dX10_isLate_17 : decode cX10_isLate 17 = .ok (.sipush 350, 3) := by decide +kernel
theorem dX10_isLate_20 : decode cX10_isLate 20 = .ok (.iload_n 1, 1) := by decide +kernel
theorem dX10_isLate_21 : decode cX10_isLate 21 = .ok (.iadd, 1) := by decide +kernel
theorem dX10_isLate_22 : decode cX10_isLate 22 = .ok (.iaload, 1) := by decide +kernel
theorem dX10_isLate_23 : decode cX10_isLate 23 = .ok (.iconst 1, 1) := by decide +kernel
theorem dX10_isLate_24 : decode cX10_isLate 24 = .ok (.if_icmp .eq 7, 3) := by decide +kernel
theorem dX10_isLate_27 : decode cX10_isLate 27 = .ok (.iconst 2, 1) := by decide +kernel
theorem dX10_isLate_28 : decode cX10_isLate 28 = .ok (.goto 21, 3) := by decide +kernel
theorem dX10_isLate_31 : decode cX10_isLate 31 = .ok (.aload_n 0, 1) := by decide +kernel
theorem dX10_isLate_32 : decode cX10_isLate 32 = .ok (.getfield 7, 3) := by decide +kernel
theorem dX10_isLate_35 : decode cX10_isLate 35 = .ok (.sipush 270, 3) := by decide +kernel
theorem dX10_isLate_38 : decode cX10_isLate 38 = .ok (.iload_n 1, 1) := by decide +kernel
theorem dX10_isLate_39 : decode cX10_isLate 39 = .ok (.iadd, 1) := by decide +kernel
theorem dX10_isLate_40 : decode cX10_isLate 40 = .ok (.iaload, 1) := by decide +kernel
theorem dX10_isLate_41 : decode cX10_isLate 41 = .ok (.ifCond .ge 7, 3) := by decide +kernel
theorem dX10_isLate_44 : decode cX10_isLate 44 = .ok (.iconst 3, 1) := by decide +kernel
theorem dX10_isLate_45 : decode cX10_isLate 45 = .ok (.goto 4, 3) := by decide +kernel
theorem dX10_isLate_48 : decode cX10_isLate 48 = .ok (.iconst 0, 1) := by decide +kernel
theorem dX10_isLate_49 : decode cX10_isLate 49 = .ok (.putfield 39, 3) := by decide +kernel
theorem dX10_isLate_52 : decode cX10_isLate 52 = .ok (.aload_n 0, 1) := by decide +kernel
theorem dX10_isLate_53 : decode cX10_isLate 53 = .ok (.getfield 39, 3) := by decide +kernel
theorem dX10_isLate_56 : decode cX10_isLate 56 = .ok (.ifCond .ne 15, 3) := by decide +kernel
theorem dX10_isLate_59 : decode cX10_isLate 59 = .ok (.aload_n 0, 1) := by decide +kernel
theorem dX10_isLate_60 : decode cX10_isLate 60 = .ok (.iload_n 1, 1) := by decide +kernel
theorem dX10_isLate_61 : decode cX10_isLate 61 = .ok (.invokevirtual 192, 3) := by decide +kernel
theorem dX10_isLate_64 : decode cX10_isLate 64 = .ok (.ifCond .eq 7, 3) := by decide +kernel
theorem dX10_isLate_67 : decode cX10_isLate 67 = .ok (.iconst 1, 1) := by decide +kernel
theorem dX10_isLate_68 : decode cX10_isLate 68 = .ok (.goto 4, 3) := by decide +kernel
theorem dX10_isLate_71 : decode cX10_isLate 71 = .ok (.iconst 0, 1) := by decide +kernel
theorem dX10_isLate_72 : decode cX10_isLate 72 = .ok (.ireturn, 1) := by decide +kernel
theorem dX10_bestFinish_0 : decode cX10_bestFinish 0 = .ok (.aload_n 0, 1) := by decide +kernel
theorem dX10_bestFinish_1 : decode cX10_bestFinish 1 = .ok (.iconst 0, 1) := by decide +kernel
theorem dX10_bestFinish_2 : decode cX10_bestFinish 2 = .ok (.putfield 39, 3) := by decide +kernel
theorem dX10_bestFinish_5 : decode cX10_bestFinish 5 = .ok (.aload_n 0, 1) := by decide +kernel
theorem dX10_bestFinish_6 : decode cX10_bestFinish 6 = .ok (.invokevirtual 103, 3) := by decide +kernel
theorem dX10_bestFinish_9 : decode cX10_bestFinish 9 = .ok (.bipush 6, 2) := by decide +kernel
theorem dX10_bestFinish_11 : decode cX10_bestFinish 11 = .ok (.if_icmp .le 9, 3) := by decide +kernel
theorem dX10_bestFinish_14 : decode cX10_bestFinish 14 = .ok (.aload_n 0, 1) := by decide +kernel
theorem dX10_bestFinish_15 : decode cX10_bestFinish 15 = .ok (.iconst 1, 1) := by decide +kernel
theorem dX10_bestFinish_16 : decode cX10_bestFinish 16 = .ok (.invokevirtual 78, 3) := by decide +kernel
theorem dX10_bestFinish_19 : decode cX10_bestFinish 19 = .ok (.ireturn, 1) := by decide +kernel
theorem dX10_bestFinish_20 : decode cX10_bestFinish 20 = .ok (.aload_n 0, 1) := by decide +kernel
theorem dX10_bestFinish_21 : decode cX10_bestFinish 21 = .ok (.iconst 0, 1) := by decide +kernel
theorem dX10_bestFinish_22 : decode cX10_bestFinish 22 = .ok (.iconst 0, 1) := by decide +kernel
theorem dX10_bestFinish_23 : decode cX10_bestFinish 23 = .ok (.bipush 6, 2) := by decide +kernel
theorem dX10_bestFinish_25 : decode cX10_bestFinish 25 = .ok (.invokevirtual 175, 3) := by decide +kernel
theorem dX10_bestFinish_28 : decode cX10_bestFinish 28 = .ok (.aload_n 0, 1) := by decide +kernel
theorem dX10_bestFinish_29 : decode cX10_bestFinish 29 = .ok (.getfield 161, 3) := by decide +kernel
theorem dX10_bestFinish_32 : decode cX10_bestFinish 32 = .ok (.ireturn, 1) := by decide +kernel
theorem dX10_bestRequest_0 : decode cX10_bestRequest 0 = .ok (.aload_n 0, 1) := by decide +kernel
theorem dX10_bestRequest_1 : decode cX10_bestRequest 1 = .ok (.iconst 0, 1) := by decide +kernel
theorem dX10_bestRequest_2 : decode cX10_bestRequest 2 = .ok (.putfield 39, 3) := by decide +kernel
theorem dX10_bestRequest_5 : decode cX10_bestRequest 5 = .ok (.aload_n 0, 1) := by decide +kernel
theorem dX10_bestRequest_6 : decode cX10_bestRequest 6 = .ok (.invokevirtual 103, 3) := by decide +kernel
theorem dX10_bestRequest_9 : decode cX10_bestRequest 9 = .ok (.bipush 6, 2) := by decide +kernel
theorem dX10_bestRequest_11 : decode cX10_bestRequest 11 = .ok (.if_icmp .le 9, 3) := by decide +kernel
theorem dX10_bestRequest_14 : decode cX10_bestRequest 14 = .ok (.aload_n 0, 1) := by decide +kernel
theorem dX10_bestRequest_15 : decode cX10_bestRequest 15 = .ok (.iconst 1, 1) := by decide +kernel
theorem dX10_bestRequest_16 : decode cX10_bestRequest 16 = .ok (.invokevirtual 78, 3) := by decide +kernel
theorem dX10_bestRequest_19 : decode cX10_bestRequest 19 = .ok (.ireturn, 1) := by decide +kernel
theorem dX10_bestRequest_20 : decode cX10_bestRequest 20 = .ok (.aload_n 0, 1) := by decide +kernel
theorem dX10_bestRequest_21 : decode cX10_bestRequest 21 = .ok (.iconst 0, 1) := by decide +kernel
theorem dX10_bestRequest_22 : decode cX10_bestRequest 22 = .ok (.iconst 0, 1) := by decide +kernel
theorem dX10_bestRequest_23 : decode cX10_bestRequest 23 = .ok (.bipush 6, 2) := by decide +kernel
theorem dX10_bestRequest_25 : decode cX10_bestRequest 25 = .ok (.invokevirtual 175, 3) := by decide +kernel
theorem dX10_bestRequest_28 : decode cX10_bestRequest 28 = .ok (.iload_n 1, 1) := by decide +kernel
theorem dX10_bestRequest_29 : decode cX10_bestRequest 29 = .ok (.iconst 0, 1) := by decide +kernel
theorem dX10_bestRequest_30 : decode cX10_bestRequest 30 = .ok (.aload_n 0, 1) := by decide +kernel
theorem dX10_bestRequest_31 : decode cX10_bestRequest 31 = .ok (.getfield 158, 3) := by decide +kernel
theorem dX10_bestRequest_34 : decode cX10_bestRequest 34 = .ok (.iconst 1, 1) := by decide +kernel
theorem dX10_bestRequest_35 : decode cX10_bestRequest 35 = .ok (.isub, 1) := by decide +kernel
theorem dX10_bestRequest_36 : decode cX10_bestRequest 36 = .ok (.invokestatic 42, 3) := by decide +kernel
theorem dX10_bestRequest_39 : decode cX10_bestRequest 39 = .ok (.ifCond .eq 12, 3) := by decide +kernel
theorem dX10_bestRequest_42 : decode cX10_bestRequest 42 = .ok (.aload_n 0, 1) := by decide +kernel
theorem dX10_bestRequest_43 : decode cX10_bestRequest 43 = .ok (.getfield 32, 3) := by decide +kernel
theorem dX10_bestRequest_46 : decode cX10_bestRequest 46 = .ok (.iload_n 1, 1) := by decide +kernel
theorem dX10_bestRequest_47 : decode cX10_bestRequest 47 = .ok (.iaload, 1) := by decide +kernel
theorem dX10_bestRequest_48 : decode cX10_bestRequest 48 = .ok (.goto 8, 3) := by decide +kernel
theorem dX10_bestRequest_51 : decode cX10_bestRequest 51 = .ok (.aload_n 0, 1) := by decide +kernel
theorem dX10_bestRequest_52 : decode cX10_bestRequest 52 = .ok (.iconst 2, 1) := by decide +kernel
theorem dX10_bestRequest_53 : decode cX10_bestRequest 53 = .ok (.invokevirtual 78, 3) := by decide +kernel
theorem dX10_bestRequest_56 : decode cX10_bestRequest 56 = .ok (.ireturn, 1) := by decide +kernel
theorem dX10_canMeetDeadlines_0 : decode cX10_canMeetDeadlines 0 = .ok (.aload_n 0, 1) := by decide +kernel
theorem dX10_canMeetDeadlines_1 : decode cX10_canMeetDeadlines 1 = .ok (.iconst 0, 1) := by decide +kernel
theorem dX10_canMeetDeadlines_2 : decode cX10_canMeetDeadlines 2 = .ok (.putfield 39, 3) := by decide +kernel
theorem dX10_canMeetDeadlines_5 : decode cX10_canMeetDeadlines 5 = .ok (.aload_n 0, 1) := by decide +kernel
theorem dX10_canMeetDeadlines_6 : decode cX10_canMeetDeadlines 6 = .ok (.invokevirtual 103, 3) := by decide +kernel
theorem dX10_canMeetDeadlines_9 : decode cX10_canMeetDeadlines 9 = .ok (.bipush 6, 2) := by decide +kernel
theorem dX10_canMeetDeadlines_11 : decode cX10_canMeetDeadlines 11 = .ok (.if_icmp .le 10, 3) := by decide +kernel
theorem dX10_canMeetDeadlines_14 : decode cX10_canMeetDeadlines 14 = .ok (.aload_n 0, 1) := by decide +kernel
theorem dX10_canMeetDeadlines_15 : decode cX10_canMeetDeadlines 15 = .ok (.iconst 1, 1) := by decide +kernel
theorem dX10_canMeetDeadlines_16 : decode cX10_canMeetDeadlines 16 = .ok (.putfield 39, 3) := by decide +kernel
theorem dX10_canMeetDeadlines_19 : decode cX10_canMeetDeadlines 19 = .ok (.iconst 0, 1) := by decide +kernel
theorem dX10_canMeetDeadlines_20 : decode cX10_canMeetDeadlines 20 = .ok (.ireturn, 1) := by decide +kernel
theorem dX10_canMeetDeadlines_21 : decode cX10_canMeetDeadlines 21 = .ok (.aload_n 0, 1) := by decide +kernel
theorem dX10_canMeetDeadlines_22 : decode cX10_canMeetDeadlines 22 = .ok (.iconst 0, 1) := by decide +kernel
theorem dX10_canMeetDeadlines_23 : decode cX10_canMeetDeadlines 23 = .ok (.iconst 1, 1) := by decide +kernel
theorem dX10_canMeetDeadlines_24 : decode cX10_canMeetDeadlines 24 = .ok (.bipush 6, 2) := by decide +kernel
theorem dX10_canMeetDeadlines_26 : decode cX10_canMeetDeadlines 26 = .ok (.invokevirtual 175, 3) := by decide +kernel
theorem dX10_canMeetDeadlines_29 : decode cX10_canMeetDeadlines 29 = .ok (.aload_n 0, 1) := by decide +kernel
theorem dX10_canMeetDeadlines_30 : decode cX10_canMeetDeadlines 30 = .ok (.getfield 161, 3) := by decide +kernel
theorem dX10_canMeetDeadlines_33 : decode cX10_canMeetDeadlines 33 = .ok (.ifCond .lt 7, 3) := by decide +kernel
theorem dX10_canMeetDeadlines_36 : decode cX10_canMeetDeadlines 36 = .ok (.iconst 1, 1) := by decide +kernel
theorem dX10_canMeetDeadlines_37 : decode cX10_canMeetDeadlines 37 = .ok (.goto 4, 3) := by decide +kernel
theorem dX10_canMeetDeadlines_40 : decode cX10_canMeetDeadlines 40 = .ok (.iconst 0, 1) := by decide +kernel
theorem dX10_canMeetDeadlines_41 : decode cX10_canMeetDeadlines 41 = .ok (.ireturn, 1) := by decide +kernel
theorem dX10_total_0 : decode cX10_total 0 = .ok (.aload_n 0, 1) := by decide +kernel
theorem dX10_total_1 : decode cX10_total 1 = .ok (.iconst 0, 1) := by decide +kernel
theorem dX10_total_2 : decode cX10_total 2 = .ok (.putfield 39, 3) := by decide +kernel
theorem dX10_total_5 : decode cX10_total 5 = .ok (.iload_n 1, 1) := by decide +kernel
theorem dX10_total_6 : decode cX10_total 6 = .ok (.iconst 0, 1) := by decide +kernel
theorem dX10_total_7 : decode cX10_total 7 = .ok (.iconst 3, 1) := by decide +kernel
theorem dX10_total_8 : decode cX10_total 8 = .ok (.invokestatic 42, 3) := by decide +kernel
theorem dX10_total_11 : decode cX10_total 11 = .ok (.ifCond .eq 15, 3) := by decide +kernel
theorem dX10_total_14 : decode cX10_total 14 = .ok (.aload_n 0, 1) := by decide +kernel
theorem dX10_total_15 : decode cX10_total 15 = .ok (.getfield 7, 3) := by decide +kernel
theorem dX10_total_18 : decode cX10_total 18 = .ok (.bipush 13, 2) := by decide +kernel
theorem dX10_total_20 : decode cX10_total 20 = .ok (.iload_n 1, 1) := by decide +kernel
theorem dX10_total_21 : decode cX10_total 21 = .ok (.iadd, 1) := by decide +kernel
theorem dX10_total_22 : decode cX10_total 22 = .ok (.iaload, 1) := by decide +kernel
theorem dX10_total_23 : decode cX10_total 23 = .ok (.goto 8, 3) := by decide +kernel
theorem dX10_total_26 : decode cX10_total 26 = .ok (.aload_n 0, 1) := by decide +kernel
theorem dX10_total_27 : decode cX10_total 27 = .ok (.iconst 1, 1) := by decide +kernel
theorem dX10_total_28 : decode cX10_total 28 = .ok (.invokevirtual 78, 3) := by decide +kernel
theorem dX10_total_31 : decode cX10_total 31 = .ok (.ireturn, 1) := by decide +kernel
theorem dX10_utilization_0 : decode cX10_utilization 0 = .ok (.aload_n 0, 1) := by decide +kernel
theorem dX10_utilization_1 : decode cX10_utilization 1 = .ok (.aload_n 0, 1) := by decide +kernel
theorem dX10_utilization_2 : decode cX10_utilization 2 = .ok (.getfield 7, 3) := by decide +kernel
theorem dX10_utilization_5 : decode cX10_utilization 5 = .ok (.bipush 8, 2) := by decide +kernel
theorem dX10_utilization_7 : decode cX10_utilization 7 = .ok (.iaload, 1) := by decide +kernel
theorem dX10_utilization_8 : decode cX10_utilization 8 = .ok (.ifCond .ne 7, 3) := by decide +kernel
theorem dX10_utilization_11 : decode cX10_utilization 11 = .ok (.iconst 1, 1) := by decide +kernel
theorem dX10_utilization_12 : decode cX10_utilization 12 = .ok (.goto 4, 3) := by decide +kernel
theorem dX10_utilization_15 : decode cX10_utilization 15 = .ok (.iconst 0, 1) := by decide +kernel
theorem dX10_utilization_16 : decode cX10_utilization 16 = .ok (.putfield 39, 3) := by decide +kernel
theorem dX10_utilization_19 : decode cX10_utilization 19 = .ok (.aload_n 0, 1) := by decide +kernel
theorem dX10_utilization_20 : decode cX10_utilization 20 = .ok (.getfield 39, 3) := by decide +kernel
theorem dX10_utilization_23 : decode cX10_utilization 23 = .ok (.ifCond .le 7, 3) := by decide +kernel
theorem dX10_utilization_26 : decode cX10_utilization 26 = .ok (.dconst 0, 1) := by decide +kernel
theorem dX10_utilization_27 : decode cX10_utilization 27 = .ok (.goto 36, 3) := by decide +kernel
theorem dX10_utilization_30 : decode cX10_utilization 30 = .ok (.aload_n 0, 1) := by decide +kernel
theorem dX10_utilization_31 : decode cX10_utilization 31 = .ok (.getfield 7, 3) := by decide +kernel
theorem dX10_utilization_34 : decode cX10_utilization 34 = .ok (.bipush 13, 2) := by decide +kernel
theorem dX10_utilization_36 : decode cX10_utilization 36 = .ok (.iaload, 1) := by decide +kernel
theorem dX10_utilization_37 : decode cX10_utilization 37 = .ok (.aload_n 0, 1) := by decide +kernel
theorem dX10_utilization_38 : decode cX10_utilization 38 = .ok (.getfield 7, 3) := by decide +kernel
theorem dX10_utilization_41 : decode cX10_utilization 41 = .ok (.bipush 14, 2) := by decide +kernel
theorem dX10_utilization_43 : decode cX10_utilization 43 = .ok (.iaload, 1) := by decide +kernel
theorem dX10_utilization_44 : decode cX10_utilization 44 = .ok (.iadd, 1) := by decide +kernel
theorem dX10_utilization_45 : decode cX10_utilization 45 = .ok (.aload_n 0, 1) := by decide +kernel
theorem dX10_utilization_46 : decode cX10_utilization 46 = .ok (.getfield 7, 3) := by decide +kernel
theorem dX10_utilization_49 : decode cX10_utilization 49 = .ok (.bipush 15, 2) := by decide +kernel
theorem dX10_utilization_51 : decode cX10_utilization 51 = .ok (.iaload, 1) := by decide +kernel
theorem dX10_utilization_52 : decode cX10_utilization 52 = .ok (.iadd, 1) := by decide +kernel
theorem dX10_utilization_53 : decode cX10_utilization 53 = .ok (.i2d, 1) := by decide +kernel
theorem dX10_utilization_54 : decode cX10_utilization 54 = .ok (.aload_n 0, 1) := by decide +kernel
theorem dX10_utilization_55 : decode cX10_utilization 55 = .ok (.getfield 7, 3) := by decide +kernel
theorem dX10_utilization_58 : decode cX10_utilization 58 = .ok (.bipush 8, 2) := by decide +kernel
theorem dX10_utilization_60 : decode cX10_utilization 60 = .ok (.iaload, 1) := by decide +kernel
theorem dX10_utilization_61 : decode cX10_utilization 61 = .ok (.i2d, 1) := by decide +kernel
theorem dX10_utilization_62 : decode cX10_utilization 62 = .ok (.ddiv, 1) := by decide +kernel
theorem dX10_utilization_63 : decode cX10_utilization 63 = .ok (.dreturn, 1) := by decide +kernel
theorem dX10_averageResponse_0 : decode cX10_averageResponse 0 = .ok (.iconst 0, 1) := by decide +kernel
theorem dX10_averageResponse_1 : decode cX10_averageResponse 1 = .ok (.istore_n 1, 1) := by decide +kernel
theorem dX10_averageResponse_2 : decode cX10_averageResponse 2 = .ok (.iconst 0, 1) := by decide +kernel
theorem dX10_averageResponse_3 : decode cX10_averageResponse 3 = .ok (.istore_n 2, 1) := by decide +kernel
theorem dX10_averageResponse_4 : decode cX10_averageResponse 4 = .ok (.iconst 0, 1) := by decide +kernel
theorem dX10_averageResponse_5 : decode cX10_averageResponse 5 = .ok (.istore_n 3, 1) := by decide +kernel
theorem dX10_averageResponse_6 : decode cX10_averageResponse 6 = .ok (.iload_n 3, 1) := by decide +kernel
theorem dX10_averageResponse_7 : decode cX10_averageResponse 7 = .ok (.aload_n 0, 1) := by decide +kernel
theorem dX10_averageResponse_8 : decode cX10_averageResponse 8 = .ok (.getfield 7, 3) := by decide +kernel
theorem dX10_averageResponse_11 : decode cX10_averageResponse 11 = .ok (.bipush 12, 2) := by decide +kernel
theorem dX10_averageResponse_13 : decode cX10_averageResponse 13 = .ok (.iaload, 1) := by decide +kernel
theorem dX10_averageResponse_14 : decode cX10_averageResponse 14 = .ok (.if_icmp .ge 50, 3) := by decide +kernel
theorem dX10_averageResponse_17 : decode cX10_averageResponse 17 = .ok (.aload_n 0, 1) := by decide +kernel
theorem dX10_averageResponse_18 : decode cX10_averageResponse 18 = .ok (.getfield 7, 3) := by decide +kernel
theorem dX10_averageResponse_21 : decode cX10_averageResponse 21 = .ok (.sipush 350, 3) := by decide +kernel
theorem dX10_averageResponse_24 : decode cX10_averageResponse 24 = .ok (.iload_n 3, 1) := by decide +kernel
theorem dX10_averageResponse_25 : decode cX10_averageResponse 25 = .ok (.iadd, 1) := by decide +kernel
theorem dX10_averageResponse_26 : decode cX10_averageResponse 26 = .ok (.iaload, 1) := by decide +kernel
theorem dX10_averageResponse_27 : decode cX10_averageResponse 27 = .ok (.iconst 1, 1) := by decide +kernel
theorem dX10_averageResponse_28 : decode cX10_averageResponse 28 = .ok (.if_icmp .ne 30, 3) := by decide +kernel
theorem dX10_averageResponse_31 : decode cX10_averageResponse 31 = .ok (.iinc 1 1, 3) := by decide +kernel
theorem dX10_averageResponse_34 : decode cX10_averageResponse 34 = .ok (.iload_n 2, 1) := by decide +kernel
theorem dX10_averageResponse_35 : decode cX10_averageResponse 35 = .ok (.aload_n 0, 1) := by decide +kernel
theorem dX10_averageResponse_36 : decode cX10_averageResponse 36 = .ok (.getfield 7, 3) := by decide +kernel
theorem dX10_averageResponse_39 : decode cX10_averageResponse 39 = .ok (.sipush 430, 3) := by decide +kernel
theorem dX10_averageResponse_42 : decode cX10_averageResponse 42 = .ok (.iload_n 3, 1) := by decide +kernel
theorem dX10_averageResponse_43 : decode cX10_averageResponse 43 = .ok (.iadd, 1) := by decide +kernel
theorem dX10_averageResponse_44 : decode cX10_averageResponse 44 = .ok (.iaload, 1) := by decide +kernel
theorem dX10_averageResponse_45 : decode cX10_averageResponse 45 = .ok (.aload_n 0, 1) := by decide +kernel
theorem dX10_averageResponse_46 : decode cX10_averageResponse 46 = .ok (.getfield 7, 3) := by decide +kernel
theorem dX10_averageResponse_49 : decode cX10_averageResponse 49 = .ok (.sipush 190, 3) := by decide +kernel
theorem dX10_averageResponse_52 : decode cX10_averageResponse 52 = .ok (.iload_n 3, 1) := by decide +kernel
theorem dX10_averageResponse_53 : decode cX10_averageResponse 53 = .ok (.iadd, 1) := by decide +kernel
theorem dX10_averageResponse_54 : decode cX10_averageResponse 54 = .ok (.iaload, 1) := by decide +kernel
theorem dX10_averageResponse_55 : decode cX10_averageResponse 55 = .ok (.isub, 1) := by decide +kernel
theorem dX10_averageResponse_56 : decode cX10_averageResponse 56 = .ok (.iadd, 1) := by decide +kernel
theorem dX10_averageResponse_57 : decode cX10_averageResponse 57 = .ok (.istore_n 2, 1) := by decide +kernel
theorem dX10_averageResponse_58 : decode cX10_averageResponse 58 = .ok (.iinc 3 1, 3) := by decide +kernel
theorem dX10_averageResponse_61 : decode cX10_averageResponse 61 = .ok (.goto (-55), 3) := by decide +kernel
theorem dX10_averageResponse_64 : decode cX10_averageResponse 64 = .ok (.aload_n 0, 1) := by decide +kernel
theorem dX10_averageResponse_65 : decode cX10_averageResponse 65 = .ok (.iload_n 1, 1) := by decide +kernel
theorem dX10_averageResponse_66 : decode cX10_averageResponse 66 = .ok (.ifCond .ne 7, 3) := by decide +kernel
theorem dX10_averageResponse_69 : decode cX10_averageResponse 69 = .ok (.iconst 1, 1) := by decide +kernel
theorem dX10_averageResponse_70 : decode cX10_averageResponse 70 = .ok (.goto 4, 3) := by decide +kernel
theorem dX10_averageResponse_73 : decode cX10_averageResponse 73 = .ok (.iconst 0, 1) := by decide +kernel
theorem dX10_averageResponse_74 : decode cX10_averageResponse 74 = .ok (.putfield 39, 3) := by decide +kernel
theorem dX10_averageResponse_77 : decode cX10_averageResponse 77 = .ok (.iload_n 1, 1) := by decide +kernel
theorem dX10_averageResponse_78 : decode cX10_averageResponse 78 = .ok (.ifCond .ne 7, 3) := by decide +kernel
theorem dX10_averageResponse_81 : decode cX10_averageResponse 81 = .ok (.dconst 0, 1) := by decide +kernel
theorem dX10_averageResponse_82 : decode cX10_averageResponse 82 = .ok (.goto 8, 3) := by decide +kernel
theorem dX10_averageResponse_85 : decode cX10_averageResponse 85 = .ok (.iload_n 2, 1) := by decide +kernel
theorem dX10_averageResponse_86 : decode cX10_averageResponse 86 = .ok (.i2d, 1) := by decide +kernel
theorem dX10_averageResponse_87 : decode cX10_averageResponse 87 = .ok (.iload_n 1, 1) := by decide +kernel
theorem dX10_averageResponse_88 : decode cX10_averageResponse 88 = .ok (.i2d, 1) := by decide +kernel
theorem dX10_averageResponse_89 : decode cX10_averageResponse 89 = .ok (.ddiv, 1) := by decide +kernel
theorem dX10_averageResponse_90 : decode cX10_averageResponse 90 = .ok (.dreturn, 1) := by decide +kernel
theorem dX10_lateShare_0 : decode cX10_lateShare 0 = .ok (.iconst 0, 1) := by decide +kernel
theorem dX10_lateShare_1 : decode cX10_lateShare 1 = .ok (.istore_n 1, 1) := by decide +kernel
theorem dX10_lateShare_2 : decode cX10_lateShare 2 = .ok (.iconst 0, 1) := by decide +kernel
theorem dX10_lateShare_3 : decode cX10_lateShare 3 = .ok (.istore_n 2, 1) := by decide +kernel
theorem dX10_lateShare_4 : decode cX10_lateShare 4 = .ok (.iconst 0, 1) := by decide +kernel
theorem dX10_lateShare_5 : decode cX10_lateShare 5 = .ok (.istore_n 3, 1) := by decide +kernel
theorem dX10_lateShare_6 : decode cX10_lateShare 6 = .ok (.iload_n 3, 1) := by decide +kernel
theorem dX10_lateShare_7 : decode cX10_lateShare 7 = .ok (.aload_n 0, 1) := by decide +kernel
theorem dX10_lateShare_8 : decode cX10_lateShare 8 = .ok (.getfield 7, 3) := by decide +kernel
theorem dX10_lateShare_11 : decode cX10_lateShare 11 = .ok (.bipush 12, 2) := by decide +kernel
theorem dX10_lateShare_13 : decode cX10_lateShare 13 = .ok (.iaload, 1) := by decide +kernel
theorem dX10_lateShare_14 : decode cX10_lateShare 14 = .ok (.if_icmp .ge 55, 3) := by decide +kernel
theorem dX10_lateShare_17 : decode cX10_lateShare 17 = .ok (.aload_n 0, 1) := by decide +kernel
theorem dX10_lateShare_18 : decode cX10_lateShare 18 = .ok (.getfield 7, 3) := by decide +kernel
theorem dX10_lateShare_21 : decode cX10_lateShare 21 = .ok (.sipush 350, 3) := by decide +kernel
theorem dX10_lateShare_24 : decode cX10_lateShare 24 = .ok (.iload_n 3, 1) := by decide +kernel
theorem dX10_lateShare_25 : decode cX10_lateShare 25 = .ok (.iadd, 1) := by decide +kernel
theorem dX10_lateShare_26 : decode cX10_lateShare 26 = .ok (.iaload, 1) := by decide +kernel
theorem dX10_lateShare_27 : decode cX10_lateShare 27 = .ok (.iconst 1, 1) := by decide +kernel
theorem dX10_lateShare_28 : decode cX10_lateShare 28 = .ok (.if_icmp .ne 35, 3) := by decide +kernel
theorem dX10_lateShare_31 : decode cX10_lateShare 31 = .ok (.aload_n 0, 1) := by decide +kernel
theorem dX10_lateShare_32 : decode cX10_lateShare 32 = .ok (.getfield 7, 3) := by decide +kernel
theorem dX10_lateShare_35 : decode cX10_lateShare 35 = .ok (.sipush 270, 3) := by decide +kernel
theorem dX10_lateShare_38 : decode cX10_lateShare 38 = .ok (.iload_n 3, 1) := by decide +kernel
theorem dX10_lateShare_39 : decode cX10_lateShare 39 = .ok (.iadd, 1) := by decide +kernel
theorem dX10_lateShare_40 : decode cX10_lateShare 40 = .ok (.iaload, 1) := by decide +kernel
theorem dX10_lateShare_41 : decode cX10_lateShare 41 = .ok (.ifCond .lt 22, 3) := by decide +kernel
theorem dX10_lateShare_44 : decode cX10_lateShare 44 = .ok (.iinc 1 1, 3) := by decide +kernel
theorem dX10_lateShare_47 : decode cX10_lateShare 47 = .ok (.iload_n 2, 1) := by decide +kernel
theorem dX10_lateShare_48 : decode cX10_lateShare 48 = .ok (.aload_n 0, 1) := by decide +kernel
theorem dX10_lateShare_49 : decode cX10_lateShare 49 = .ok (.iload_n 3, 1) := by decide +kernel
theorem dX10_lateShare_50 : decode cX10_lateShare 50 = .ok (.invokevirtual 192, 3) := by decide +kernel
theorem dX10_lateShare_53 : decode cX10_lateShare 53 = .ok (.ifCond .eq 7, 3) := by decide +kernel
theorem dX10_lateShare_56 : decode cX10_lateShare 56 = .ok (.iconst 1, 1) := by decide +kernel
theorem dX10_lateShare_57 : decode cX10_lateShare 57 = .ok (.goto 4, 3) := by decide +kernel
theorem dX10_lateShare_60 : decode cX10_lateShare 60 = .ok (.iconst 0, 1) := by decide +kernel
theorem dX10_lateShare_61 : decode cX10_lateShare 61 = .ok (.iadd, 1) := by decide +kernel
theorem dX10_lateShare_62 : decode cX10_lateShare 62 = .ok (.istore_n 2, 1) := by decide +kernel
theorem dX10_lateShare_63 : decode cX10_lateShare 63 = .ok (.iinc 3 1, 3) := by decide +kernel
theorem dX10_lateShare_66 : decode cX10_lateShare 66 = .ok (.goto (-60), 3) := by decide +kernel
theorem dX10_lateShare_69 : decode cX10_lateShare 69 = .ok (.aload_n 0, 1) := by decide +kernel
theorem dX10_lateShare_70 : decode cX10_lateShare 70 = .ok (.iload_n 1, 1) := by decide +kernel
theorem dX10_lateShare_71 : decode cX10_lateShare 71 = .ok (.ifCond .ne 7, 3) := by decide +kernel
theorem dX10_lateShare_74 : decode cX10_lateShare 74 = .ok (.iconst 1, 1) := by decide +kernel
theorem dX10_lateShare_75 : decode cX10_lateShare 75 = .ok (.goto 4, 3) := by decide +kernel
theorem dX10_lateShare_78 : decode cX10_lateShare 78 = .ok (.iconst 0, 1) := by decide +kernel
theorem dX10_lateShare_79 : decode cX10_lateShare 79 = .ok (.putfield 39, 3) := by decide +kernel
theorem dX10_lateShare_82 : decode cX10_lateShare 82 = .ok (.iload_n 1, 1) := by decide +kernel
theorem dX10_lateShare_83 : decode cX10_lateShare 83 = .ok (.ifCond .ne 7, 3) := by decide +kernel
theorem dX10_lateShare_86 : decode cX10_lateShare 86 = .ok (.fconst 0, 1) := by decide +kernel
theorem dX10_lateShare_87 : decode cX10_lateShare 87 = .ok (.goto 8, 3) := by decide +kernel
theorem dX10_lateShare_90 : decode cX10_lateShare 90 = .ok (.iload_n 2, 1) := by decide +kernel
theorem dX10_lateShare_91 : decode cX10_lateShare 91 = .ok (.i2f, 1) := by decide +kernel
theorem dX10_lateShare_92 : decode cX10_lateShare 92 = .ok (.iload_n 1, 1) := by decide +kernel
theorem dX10_lateShare_93 : decode cX10_lateShare 93 = .ok (.i2f, 1) := by decide +kernel
theorem dX10_lateShare_94 : decode cX10_lateShare 94 = .ok (.fdiv, 1) := by decide +kernel
theorem dX10_lateShare_95 : decode cX10_lateShare 95 = .ok (.freturn, 1) := by decide +kernel
theorem dX10_save_0 : decode cX10_save 0 = .ok (.aload_n 0, 1) := by decide +kernel
theorem dX10_save_1 : decode cX10_save 1 = .ok (.iconst 0, 1) := by decide +kernel
theorem dX10_save_2 : decode cX10_save 2 = .ok (.putfield 39, 3) := by decide +kernel
theorem dX10_save_5 : decode cX10_save 5 = .ok (.aload_n 0, 1) := by decide +kernel
theorem dX10_save_6 : decode cX10_save 6 = .ok (.iconst 1, 1) := by decide +kernel
theorem dX10_save_7 : decode cX10_save 7 = .ok (.putfield 195, 3) := by decide +kernel
theorem dX10_save_10 : decode cX10_save 10 = .ok (.iconst 0, 1) := by decide +kernel
theorem dX10_save_11 : decode cX10_save 11 = .ok (.istore_n 1, 1) := by decide +kernel
theorem dX10_save_12 : decode cX10_save 12 = .ok (.iload_n 1, 1) := by decide +kernel
theorem dX10_save_13 : decode cX10_save 13 = .ok (.sipush 1700, 3) := by decide +kernel
theorem dX10_save_16 : decode cX10_save 16 = .ok (.if_icmp .ge 21, 3) := by decide +kernel
theorem dX10_save_19 : decode cX10_save 19 = .ok (.aload_n 0, 1) := by decide +kernel
theorem dX10_save_20 : decode cX10_save 20 = .ok (.getfield 13, 3) := by decide +kernel
theorem dX10_save_23 : decode cX10_save 23 = .ok (.iload_n 1, 1) := by decide +kernel
theorem dX10_save_24 : decode cX10_save 24 = .ok (.aload_n 0, 1) := by decide +kernel
theorem dX10_save_25 : decode cX10_save 25 = .ok (.getfield 7, 3) := by decide +kernel
theorem dX10_save_28 : decode cX10_save 28 = .ok (.iload_n 1, 1) := by decide +kernel
theorem dX10_save_29 : decode cX10_save 29 = .ok (.iaload, 1) := by decide +kernel
theorem dX10_save_30 : decode cX10_save 30 = .ok (.iastore, 1) := by decide +kernel
theorem dX10_save_31 : decode cX10_save 31 = .ok (.iinc 1 1, 3) := by decide +kernel
theorem dX10_save_34 : decode cX10_save 34 = .ok (.goto (-22), 3) := by decide +kernel
theorem dX10_save_37 : decode cX10_save 37 = .ok (.return_, 1) := by decide +kernel
theorem dX10_restore_0 : decode cX10_restore 0 = .ok (.aload_n 0, 1) := by decide +kernel
theorem dX10_restore_1 : decode cX10_restore 1 = .ok (.iconst 0, 1) := by decide +kernel
theorem dX10_restore_2 : decode cX10_restore 2 = .ok (.putfield 39, 3) := by decide +kernel
theorem dX10_restore_5 : decode cX10_restore 5 = .ok (.aload_n 0, 1) := by decide +kernel
theorem dX10_restore_6 : decode cX10_restore 6 = .ok (.getfield 195, 3) := by decide +kernel
theorem dX10_restore_9 : decode cX10_restore 9 = .ok (.ifCond .ne 9, 3) := by decide +kernel
theorem dX10_restore_12 : decode cX10_restore 12 = .ok (.aload_n 0, 1) := by decide +kernel
theorem dX10_restore_13 : decode cX10_restore 13 = .ok (.iconst 1, 1) := by decide +kernel
theorem dX10_restore_14 : decode cX10_restore 14 = .ok (.invokevirtual 78, 3) := by decide +kernel
theorem dX10_restore_17 : decode cX10_restore 17 = .ok (.ireturn, 1) := by decide +kernel
theorem dX10_restore_18 : decode cX10_restore 18 = .ok (.iconst 0, 1) := by decide +kernel
theorem dX10_restore_19 : decode cX10_restore 19 = .ok (.istore_n 1, 1) := by decide +kernel
theorem dX10_restore_20 : decode cX10_restore 20 = .ok (.iload_n 1, 1) := by decide +kernel
theorem dX10_restore_21 : decode cX10_restore 21 = .ok (.sipush 1700, 3) := by decide +kernel
theorem dX10_restore_24 : decode cX10_restore 24 = .ok (.if_icmp .ge 21, 3) := by decide +kernel
theorem dX10_restore_27 : decode cX10_restore 27 = .ok (.aload_n 0, 1) := by decide +kernel
theorem dX10_restore_28 : decode cX10_restore 28 = .ok (.getfield 7, 3) := by decide +kernel
theorem dX10_restore_31 : decode cX10_restore 31 = .ok (.iload_n 1, 1) := by decide +kernel
theorem dX10_restore_32 : decode cX10_restore 32 = .ok (.aload_n 0, 1) := by decide +kernel
theorem dX10_restore_33 : decode cX10_restore 33 = .ok (.getfield 13, 3) := by decide +kernel
theorem dX10_restore_36 : decode cX10_restore 36 = .ok (.iload_n 1, 1) := by decide +kernel
theorem dX10_restore_37 : decode cX10_restore 37 = .ok (.iaload, 1) := by decide +kernel
theorem dX10_restore_38 : decode cX10_restore 38 = .ok (.iastore, 1) := by decide +kernel
theorem dX10_restore_39 : decode cX10_restore 39 = .ok (.iinc 1 1, 3) := by decide +kernel
theorem dX10_restore_42 : decode cX10_restore 42 = .ok (.goto (-22), 3) := by decide +kernel
theorem dX10_restore_45 : decode cX10_restore 45 = .ok (.aload_n 0, 1) := by decide +kernel
theorem dX10_restore_46 : decode cX10_restore 46 = .ok (.getfield 7, 3) := by decide +kernel
theorem dX10_restore_49 : decode cX10_restore 49 = .ok (.bipush 8, 2) := by decide +kernel
theorem dX10_restore_51 : decode cX10_restore 51 = .ok (.iaload, 1) := by decide +kernel
theorem dX10_restore_52 : decode cX10_restore 52 = .ok (.ireturn, 1) := by decide +kernel
theorem dJ9_floorMod_7cf53_0 : decode cJ9_floorMod_7cf53 0 = .ok (.iload_n 0, 1) := by decide +kernel
theorem dJ9_floorMod_7cf53_1 : decode cJ9_floorMod_7cf53 1 = .ok (.iload_n 1, 1) := by decide +kernel
theorem dJ9_floorMod_7cf53_2 : decode cJ9_floorMod_7cf53 2 = .ok (.irem, 1) := by decide +kernel
theorem dJ9_floorMod_7cf53_3 : decode cJ9_floorMod_7cf53 3 = .ok (.istore_n 2, 1) := by decide +kernel
theorem dJ9_floorMod_7cf53_4 : decode cJ9_floorMod_7cf53 4 = .ok (.iload_n 0, 1) := by decide +kernel
theorem dJ9_floorMod_7cf53_5 : decode cJ9_floorMod_7cf53 5 = .ok (.iload_n 1, 1) := by decide +kernel
theorem dJ9_floorMod_7cf53_6 : decode cJ9_floorMod_7cf53 6 = .ok (.ixor, 1) := by decide +kernel
theorem dJ9_floorMod_7cf53_7 : decode cJ9_floorMod_7cf53 7 = .ok (.ifCond .ge 11, 3) := by decide +kernel
theorem dJ9_floorMod_7cf53_10 : decode cJ9_floorMod_7cf53 10 = .ok (.iload_n 2, 1) := by decide +kernel
theorem dJ9_floorMod_7cf53_11 : decode cJ9_floorMod_7cf53 11 = .ok (.ifCond .eq 7, 3) := by decide +kernel
theorem dJ9_floorMod_7cf53_14 : decode cJ9_floorMod_7cf53 14 = .ok (.iload_n 2, 1) := by decide +kernel
theorem dJ9_floorMod_7cf53_15 : decode cJ9_floorMod_7cf53 15 = .ok (.iload_n 1, 1) := by decide +kernel
theorem dJ9_floorMod_7cf53_16 : decode cJ9_floorMod_7cf53 16 = .ok (.iadd, 1) := by decide +kernel
theorem dJ9_floorMod_7cf53_17 : decode cJ9_floorMod_7cf53 17 = .ok (.ireturn, 1) := by decide +kernel
theorem dJ9_floorMod_7cf53_18 : decode cJ9_floorMod_7cf53 18 = .ok (.iload_n 2, 1) := by decide +kernel
theorem dJ9_floorMod_7cf53_19 : decode cJ9_floorMod_7cf53 19 = .ok (.ireturn, 1) := by decide +kernel
theorem dJ9_abs_0f7a4_0 : decode cJ9_abs_0f7a4 0 = .ok (.iload_n 0, 1) := by decide +kernel
theorem dJ9_abs_0f7a4_1 : decode cJ9_abs_0f7a4 1 = .ok (.ifCond .ge 8, 3) := by decide +kernel
theorem dJ9_abs_0f7a4_4 : decode cJ9_abs_0f7a4 4 = .ok (.iload_n 0, 1) := by decide +kernel
theorem dJ9_abs_0f7a4_5 : decode cJ9_abs_0f7a4 5 = .ok (.ineg, 1) := by decide +kernel
theorem dJ9_abs_0f7a4_6 : decode cJ9_abs_0f7a4 6 = .ok (.goto 4, 3) := by decide +kernel
theorem dJ9_abs_0f7a4_9 : decode cJ9_abs_0f7a4 9 = .ok (.iload_n 0, 1) := by decide +kernel
theorem dJ9_abs_0f7a4_10 : decode cJ9_abs_0f7a4 10 = .ok (.ireturn, 1) := by decide +kernel
theorem dJ9_max_7cf53_0 : decode cJ9_max_7cf53 0 = .ok (.iload_n 0, 1) := by decide +kernel
theorem dJ9_max_7cf53_1 : decode cJ9_max_7cf53 1 = .ok (.iload_n 1, 1) := by decide +kernel
theorem dJ9_max_7cf53_2 : decode cJ9_max_7cf53 2 = .ok (.if_icmp .lt 7, 3) := by decide +kernel
theorem dJ9_max_7cf53_5 : decode cJ9_max_7cf53 5 = .ok (.iload_n 0, 1) := by decide +kernel
theorem dJ9_max_7cf53_6 : decode cJ9_max_7cf53 6 = .ok (.goto 4, 3) := by decide +kernel
theorem dJ9_max_7cf53_9 : decode cJ9_max_7cf53 9 = .ok (.iload_n 1, 1) := by decide +kernel
theorem dJ9_max_7cf53_10 : decode cJ9_max_7cf53 10 = .ok (.ireturn, 1) := by decide +kernel
theorem dJ9_min_7cf53_0 : decode cJ9_min_7cf53 0 = .ok (.iload_n 0, 1) := by decide +kernel
theorem dJ9_min_7cf53_1 : decode cJ9_min_7cf53 1 = .ok (.iload_n 1, 1) := by decide +kernel
theorem dJ9_min_7cf53_2 : decode cJ9_min_7cf53 2 = .ok (.if_icmp .gt 7, 3) := by decide +kernel
theorem dJ9_min_7cf53_5 : decode cJ9_min_7cf53 5 = .ok (.iload_n 0, 1) := by decide +kernel
theorem dJ9_min_7cf53_6 : decode cJ9_min_7cf53 6 = .ok (.goto 4, 3) := by decide +kernel
theorem dJ9_min_7cf53_9 : decode cJ9_min_7cf53 9 = .ok (.iload_n 1, 1) := by decide +kernel
theorem dJ9_min_7cf53_10 : decode cJ9_min_7cf53 10 = .ok (.ireturn, 1) := by decide +kernel
theorem dL_setCurve_0 : decode cL_setCurve 0 = .ok (.aload_n 0, 1) := by decide +kernel
theorem dL_setCurve_1 : decode cL_setCurve 1 = .ok (.iload_n 1, 1) := by decide +kernel
theorem dL_setCurve_2 : decode cL_setCurve 2 = .ok (.iload_n 2, 1) := by decide +kernel
theorem dL_setCurve_3 : decode cL_setCurve 3 = .ok (.iload_n 3, 1) := by decide +kernel
theorem dL_setCurve_4 : decode cL_setCurve 4 = .ok (.invokevirtual 7, 3) := by decide +kernel
theorem dL_setCurve_7 : decode cL_setCurve 7 = .ok (.goto 7, 3) := by decide +kernel
theorem dL_setCurve_10 : decode cL_setCurve 10 = .ok (.astore 4, 2) := by decide +kernel
theorem dL_setCurve_12 : decode cL_setCurve 12 = .ok (.iconst 1, 1) := by decide +kernel
theorem dL_setCurve_13 : decode cL_setCurve 13 = .ok (.ireturn, 1) := by decide +kernel
theorem dL_setCurve_14 : decode cL_setCurve 14 = .ok (.iconst 0, 1) := by decide +kernel
theorem dL_setCurve_15 : decode cL_setCurve 15 = .ok (.ireturn, 1) := by decide +kernel
theorem dL_setSkew_0 : decode cL_setSkew 0 = .ok (.aload_n 2, 1) := by decide +kernel
theorem dL_setSkew_1 : decode cL_setSkew 1 = .ok (.iconst 0, 1) := by decide +kernel
theorem dL_setSkew_2 : decode cL_setSkew 2 = .ok (.aload_n 0, 1) := by decide +kernel
theorem dL_setSkew_3 : decode cL_setSkew 3 = .ok (.iload_n 1, 1) := by decide +kernel
theorem dL_setSkew_4 : decode cL_setSkew 4 = .ok (.invokevirtual 15, 3) := by decide +kernel
theorem dL_setSkew_7 : decode cL_setSkew 7 = .ok (.i2l, 1) := by decide +kernel
theorem dL_setSkew_8 : decode cL_setSkew 8 = .ok (.lastore, 1) := by decide +kernel
theorem dL_setSkew_9 : decode cL_setSkew 9 = .ok (.goto 6, 3) := by decide +kernel
theorem dL_setSkew_12 : decode cL_setSkew 12 = .ok (.astore_n 3, 1) := by decide +kernel
theorem dL_setSkew_13 : decode cL_setSkew 13 = .ok (.iconst 1, 1) := by decide +kernel
theorem dL_setSkew_14 : decode cL_setSkew 14 = .ok (.ireturn, 1) := by decide +kernel
theorem dL_setSkew_15 : decode cL_setSkew 15 = .ok (.iconst 0, 1) := by decide +kernel
theorem dL_setSkew_16 : decode cL_setSkew 16 = .ok (.ireturn, 1) := by decide +kernel
theorem dL_setPolicy_0 : decode cL_setPolicy 0 = .ok (.aload_n 2, 1) := by decide +kernel
theorem dL_setPolicy_1 : decode cL_setPolicy 1 = .ok (.iconst 0, 1) := by decide +kernel
theorem dL_setPolicy_2 : decode cL_setPolicy 2 = .ok (.aload_n 0, 1) := by decide +kernel
theorem dL_setPolicy_3 : decode cL_setPolicy 3 = .ok (.iload_n 1, 1) := by decide +kernel
theorem dL_setPolicy_4 : decode cL_setPolicy 4 = .ok (.invokevirtual 19, 3) := by decide +kernel
theorem dL_setPolicy_7 : decode cL_setPolicy 7 = .ok (.i2l, 1) := by decide +kernel
theorem dL_setPolicy_8 : decode cL_setPolicy 8 = .ok (.lastore, 1) := by decide +kernel
theorem dL_setPolicy_9 : decode cL_setPolicy 9 = .ok (.goto 6, 3) := by decide +kernel
theorem dL_setPolicy_12 : decode cL_setPolicy 12 = .ok (.astore_n 3, 1) := by decide +kernel
theorem dL_setPolicy_13 : decode cL_setPolicy 13 = .ok (.iconst 1, 1) := by decide +kernel
theorem dL_setPolicy_14 : decode cL_setPolicy 14 = .ok (.ireturn, 1) := by decide +kernel
theorem dL_setPolicy_15 : decode cL_setPolicy 15 = .ok (.iconst 0, 1) := by decide +kernel
theorem dL_setPolicy_16 : decode cL_setPolicy 16 = .ok (.ireturn, 1) := by decide +kernel
theorem dL_setBuckets_0 : decode cL_setBuckets 0 = .ok (.aload_n 0, 1) := by decide +kernel
theorem dL_setBuckets_1 : decode cL_setBuckets 1 = .ok (.iload_n 1, 1) := by decide +kernel
theorem dL_setBuckets_2 : decode cL_setBuckets 2 = .ok (.iload_n 2, 1) := by decide +kernel
theorem dL_setBuckets_3 : decode cL_setBuckets 3 = .ok (.invokevirtual 22, 3) := by decide +kernel
theorem dL_setBuckets_6 : decode cL_setBuckets 6 = .ok (.goto 6, 3) := by decide +kernel
theorem dL_setBuckets_9 : decode cL_setBuckets 9 = .ok (.astore_n 3, 1) := by decide +kernel
theorem dL_setBuckets_10 : decode cL_setBuckets 10 = .ok (.iconst 1, 1) := by decide +kernel
theorem dL_setBuckets_11 : decode cL_setBuckets 11 = .ok (.ireturn, 1) := by decide +kernel
theorem dL_setBuckets_12 : decode cL_setBuckets 12 = .ok (.iconst 0, 1) := by decide +kernel
theorem dL_setBuckets_13 : decode cL_setBuckets 13 = .ok (.ireturn, 1) := by decide +kernel
theorem dL_setWriteBack_0 : decode cL_setWriteBack 0 = .ok (.aload_n 2, 1) := by decide +kernel
theorem dL_setWriteBack_1 : decode cL_setWriteBack 1 = .ok (.iconst 0, 1) := by decide +kernel
theorem dL_setWriteBack_2 : decode cL_setWriteBack 2 = .ok (.aload_n 0, 1) := by decide +kernel
theorem dL_setWriteBack_3 : decode cL_setWriteBack 3 = .ok (.iload_n 1, 1) := by decide +kernel
theorem dL_setWriteBack_4 : decode cL_setWriteBack 4 = .ok (.invokevirtual 26, 3) := by decide +kernel
theorem dL_setWriteBack_7 : decode cL_setWriteBack 7 = .ok (.ifCond .eq 7, 3) := by decide +kernel
theorem dL_setWriteBack_10 : decode cL_setWriteBack 10 = .ok (.lconst 1, 1) := by decide +kernel
theorem dL_setWriteBack_11 : decode cL_setWriteBack 11 = .ok (.goto 4, 3) := by decide +kernel
theorem dL_setWriteBack_14 : decode cL_setWriteBack 14 = .ok (.lconst 0, 1) := by decide +kernel
theorem dL_setWriteBack_15 : decode cL_setWriteBack 15 = .ok (.lastore, 1) := by decide +kernel
theorem dL_setWriteBack_16 : decode cL_setWriteBack 16 = .ok (.goto 6, 3) := by decide +kernel
theorem dL_setWriteBack_19 : decode cL_setWriteBack 19 = .ok (.astore_n 3, 1) := by decide +kernel
theorem dL_setWriteBack_20 : decode cL_setWriteBack 20 = .ok (.iconst 1, 1) := by decide +kernel
theorem dL_setWriteBack_21 : decode cL_setWriteBack 21 = .ok (.ireturn, 1) := by decide +kernel
theorem dL_setWriteBack_22 : decode cL_setWriteBack 22 = .ok (.iconst 0, 1) := by decide +kernel
theorem dL_setWriteBack_23 : decode cL_setWriteBack 23 = .ok (.ireturn, 1) := by decide +kernel
theorem dL_seekTime_0 : decode cL_seekTime 0 = .ok (.aload_n 3, 1) := by decide +kernel
theorem dL_seekTime_1 : decode cL_seekTime 1 = .ok (.iconst 0, 1) := by decide +kernel
theorem dL_seekTime_2 : decode cL_seekTime 2 = .ok (.aload_n 0, 1) := by decide +kernel
theorem dL_seekTime_3 : decode cL_seekTime 3 = .ok (.iload_n 1, 1) := by decide +kernel
theorem dL_seekTime_4 : decode cL_seekTime 4 = .ok (.iload_n 2, 1) := by decide +kernel
theorem dL_seekTime_5 : decode cL_seekTime 5 = .ok (.invokevirtual 32, 3) := by decide +kernel
theorem dL_seekTime_8 : decode cL_seekTime 8 = .ok (.i2l, 1) := by decide +kernel
theorem dL_seekTime_9 : decode cL_seekTime 9 = .ok (.lastore, 1) := by decide +kernel
theorem dL_seekTime_10 : decode cL_seekTime 10 = .ok (.goto 7, 3) := by decide +kernel
theorem dL_seekTime_13 : decode cL_seekTime 13 = .ok (.astore 4, 2) := by decide +kernel
theorem dL_seekTime_15 : decode cL_seekTime 15 = .ok (.iconst 1, 1) := by decide +kernel
theorem dL_seekTime_16 : decode cL_seekTime 16 = .ok (.ireturn, 1) := by decide +kernel
theorem dL_seekTime_17 : decode cL_seekTime 17 = .ok (.iconst 0, 1) := by decide +kernel
theorem dL_seekTime_18 : decode cL_seekTime 18 = .ok (.ireturn, 1) := by decide +kernel
theorem dL_placeOf_0 : decode cL_placeOf 0 = .ok (.aload_n 2, 1) := by decide +kernel
theorem dL_placeOf_1 : decode cL_placeOf 1 = .ok (.iconst 0, 1) := by decide +kernel
theorem dL_placeOf_2 : decode cL_placeOf 2 = .ok (.aload_n 0, 1) := by decide +kernel
theorem dL_placeOf_3 : decode cL_placeOf 3 = .ok (.iload_n 1, 1) := by decide +kernel
theorem dL_placeOf_4 : decode cL_placeOf 4 = .ok (.invokevirtual 38, 3) := by decide +kernel
theorem dL_placeOf_7 : decode cL_placeOf 7 = .ok (.i2l, 1) := by decide +kernel
theorem dL_placeOf_8 : decode cL_placeOf 8 = .ok (.lastore, 1) := by decide +kernel
theorem dL_placeOf_9 : decode cL_placeOf 9 = .ok (.goto 6, 3) := by decide +kernel
theorem dL_placeOf_12 : decode cL_placeOf 12 = .ok (.astore_n 3, 1) := by decide +kernel
theorem dL_placeOf_13 : decode cL_placeOf 13 = .ok (.iconst 1, 1) := by decide +kernel
theorem dL_placeOf_14 : decode cL_placeOf 14 = .ok (.ireturn, 1) := by decide +kernel
theorem dL_placeOf_15 : decode cL_placeOf 15 = .ok (.iconst 0, 1) := by decide +kernel
theorem dL_placeOf_16 : decode cL_placeOf 16 = .ok (.ireturn, 1) := by decide +kernel
theorem dL_cylinderOf_0 : decode cL_cylinderOf 0 = .ok (.aload_n 2, 1) := by decide +kernel
theorem dL_cylinderOf_1 : decode cL_cylinderOf 1 = .ok (.iconst 0, 1) := by decide +kernel
theorem dL_cylinderOf_2 : decode cL_cylinderOf 2 = .ok (.aload_n 0, 1) := by decide +kernel
theorem dL_cylinderOf_3 : decode cL_cylinderOf 3 = .ok (.iload_n 1, 1) := by decide +kernel
theorem dL_cylinderOf_4 : decode cL_cylinderOf 4 = .ok (.invokevirtual 41, 3) := by decide +kernel
theorem dL_cylinderOf_7 : decode cL_cylinderOf 7 = .ok (.i2l, 1) := by decide +kernel
theorem dL_cylinderOf_8 : decode cL_cylinderOf 8 = .ok (.lastore, 1) := by decide +kernel
theorem dL_cylinderOf_9 : decode cL_cylinderOf 9 = .ok (.goto 6, 3) := by decide +kernel
theorem dL_cylinderOf_12 : decode cL_cylinderOf 12 = .ok (.astore_n 3, 1) := by decide +kernel
theorem dL_cylinderOf_13 : decode cL_cylinderOf 13 = .ok (.iconst 1, 1) := by decide +kernel
theorem dL_cylinderOf_14 : decode cL_cylinderOf 14 = .ok (.ireturn, 1) := by decide +kernel
theorem dL_cylinderOf_15 : decode cL_cylinderOf 15 = .ok (.iconst 0, 1) := by decide +kernel
theorem dL_cylinderOf_16 : decode cL_cylinderOf 16 = .ok (.ireturn, 1) := by decide +kernel
theorem dL_sectorOf_0 : decode cL_sectorOf 0 = .ok (.aload_n 2, 1) := by decide +kernel
theorem dL_sectorOf_1 : decode cL_sectorOf 1 = .ok (.iconst 0, 1) := by decide +kernel
theorem dL_sectorOf_2 : decode cL_sectorOf 2 = .ok (.aload_n 0, 1) := by decide +kernel
theorem dL_sectorOf_3 : decode cL_sectorOf 3 = .ok (.iload_n 1, 1) := by decide +kernel
theorem dL_sectorOf_4 : decode cL_sectorOf 4 = .ok (.invokevirtual 44, 3) := by decide +kernel
theorem dL_sectorOf_7 : decode cL_sectorOf 7 = .ok (.i2l, 1) := by decide +kernel
theorem dL_sectorOf_8 : decode cL_sectorOf 8 = .ok (.lastore, 1) := by decide +kernel
theorem dL_sectorOf_9 : decode cL_sectorOf 9 = .ok (.goto 6, 3) := by decide +kernel
theorem dL_sectorOf_12 : decode cL_sectorOf 12 = .ok (.astore_n 3, 1) := by decide +kernel
theorem dL_sectorOf_13 : decode cL_sectorOf 13 = .ok (.iconst 1, 1) := by decide +kernel
theorem dL_sectorOf_14 : decode cL_sectorOf 14 = .ok (.ireturn, 1) := by decide +kernel
theorem dL_sectorOf_15 : decode cL_sectorOf 15 = .ok (.iconst 0, 1) := by decide +kernel
theorem dL_sectorOf_16 : decode cL_sectorOf 16 = .ok (.ireturn, 1) := by decide +kernel
theorem dL_startAngle_0 : decode cL_startAngle 0 = .ok (.aload_n 2, 1) := by decide +kernel
theorem dL_startAngle_1 : decode cL_startAngle 1 = .ok (.iconst 0, 1) := by decide +kernel
theorem dL_startAngle_2 : decode cL_startAngle 2 = .ok (.aload_n 0, 1) := by decide +kernel
theorem dL_startAngle_3 : decode cL_startAngle 3 = .ok (.iload_n 1, 1) := by decide +kernel
theorem dL_startAngle_4 : decode cL_startAngle 4 = .ok (.invokevirtual 47, 3) := by decide +kernel
theorem dL_startAngle_7 : decode cL_startAngle 7 = .ok (.i2l, 1) := by decide +kernel
theorem dL_startAngle_8 : decode cL_startAngle 8 = .ok (.lastore, 1) := by decide +kernel
theorem dL_startAngle_9 : decode cL_startAngle 9 = .ok (.goto 6, 3) := by decide +kernel
theorem dL_startAngle_12 : decode cL_startAngle 12 = .ok (.astore_n 3, 1) := by decide +kernel
theorem dL_startAngle_13 : decode cL_startAngle 13 = .ok (.iconst 1, 1) := by decide +kernel
theorem dL_startAngle_14 : decode cL_startAngle 14 = .ok (.ireturn, 1) := by decide +kernel
theorem dL_startAngle_15 : decode cL_startAngle 15 = .ok (.iconst 0, 1) := by decide +kernel
theorem dL_startAngle_16 : decode cL_startAngle 16 = .ok (.ireturn, 1) := by decide +kernel
theorem dL_accessTime_0 : decode cL_accessTime 0 = .ok (.aload_n 2, 1) := by decide +kernel
theorem dL_accessTime_1 : decode cL_accessTime 1 = .ok (.iconst 0, 1) := by decide +kernel
theorem dL_accessTime_2 : decode cL_accessTime 2 = .ok (.aload_n 0, 1) := by decide +kernel
theorem dL_accessTime_3 : decode cL_accessTime 3 = .ok (.iload_n 1, 1) := by decide +kernel
theorem dL_accessTime_4 : decode cL_accessTime 4 = .ok (.invokevirtual 50, 3) := by decide +kernel
theorem dL_accessTime_7 : decode cL_accessTime 7 = .ok (.i2l, 1) := by decide +kernel
theorem dL_accessTime_8 : decode cL_accessTime 8 = .ok (.lastore, 1) := by decide +kernel
theorem dL_accessTime_9 : decode cL_accessTime 9 = .ok (.goto 6, 3) := by decide +kernel
theorem dL_accessTime_12 : decode cL_accessTime 12 = .ok (.astore_n 3, 1) := by decide +kernel
theorem dL_accessTime_13 : decode cL_accessTime 13 = .ok (.iconst 1, 1) := by decide +kernel
theorem dL_accessTime_14 : decode cL_accessTime 14 = .ok (.ireturn, 1) := by decide +kernel
theorem dL_accessTime_15 : decode cL_accessTime 15 = .ok (.iconst 0, 1) := by decide +kernel
theorem dL_accessTime_16 : decode cL_accessTime 16 = .ok (.ireturn, 1) := by decide +kernel
theorem dL_moveToSpare_0 : decode cL_moveToSpare 0 = .ok (.aload_n 2, 1) := by decide +kernel
theorem dL_moveToSpare_1 : decode cL_moveToSpare 1 = .ok (.iconst 0, 1) := by decide +kernel
theorem dL_moveToSpare_2 : decode cL_moveToSpare 2 = .ok (.aload_n 0, 1) := by decide +kernel
theorem dL_moveToSpare_3 : decode cL_moveToSpare 3 = .ok (.iload_n 1, 1) := by decide +kernel
theorem dL_moveToSpare_4 : decode cL_moveToSpare 4 = .ok (.invokevirtual 53, 3) := by decide +kernel
theorem dL_moveToSpare_7 : decode cL_moveToSpare 7 = .ok (.i2l, 1) := by decide +kernel
theorem dL_moveToSpare_8 : decode cL_moveToSpare 8 = .ok (.lastore, 1) := by decide +kernel
theorem dL_moveToSpare_9 : decode cL_moveToSpare 9 = .ok (.goto 12, 3) := by decide +kernel
theorem dL_moveToSpare_12 : decode cL_moveToSpare 12 = .ok (.astore_n 3, 1) := by decide +kernel
theorem dL_moveToSpare_13 : decode cL_moveToSpare 13 = .ok (.iconst 1, 1) := by decide +kernel
theorem dL_moveToSpare_14 : decode cL_moveToSpare 14 = .ok (.ireturn, 1) := by decide +kernel
theorem dL_moveToSpare_15 : decode cL_moveToSpare 15 = .ok (.astore_n 3, 1) := by decide +kernel
theorem dL_moveToSpare_16 : decode cL_moveToSpare 16 = .ok (.iconst 2, 1) := by decide +kernel
theorem dL_moveToSpare_17 : decode cL_moveToSpare 17 = .ok (.ireturn, 1) := by decide +kernel
theorem dL_moveToSpare_18 : decode cL_moveToSpare 18 = .ok (.astore_n 3, 1) := by decide +kernel
theorem dL_moveToSpare_19 : decode cL_moveToSpare 19 = .ok (.iconst 3, 1) := by decide +kernel
theorem dL_moveToSpare_20 : decode cL_moveToSpare 20 = .ok (.ireturn, 1) := by decide +kernel
theorem dL_moveToSpare_21 : decode cL_moveToSpare 21 = .ok (.iconst 0, 1) := by decide +kernel
theorem dL_moveToSpare_22 : decode cL_moveToSpare 22 = .ok (.ireturn, 1) := by decide +kernel
theorem dL_accessesOf_0 : decode cL_accessesOf 0 = .ok (.aload_n 2, 1) := by decide +kernel
theorem dL_accessesOf_1 : decode cL_accessesOf 1 = .ok (.iconst 0, 1) := by decide +kernel
theorem dL_accessesOf_2 : decode cL_accessesOf 2 = .ok (.aload_n 0, 1) := by decide +kernel
theorem dL_accessesOf_3 : decode cL_accessesOf 3 = .ok (.iload_n 1, 1) := by decide +kernel
theorem dL_accessesOf_4 : decode cL_accessesOf 4 = .ok (.invokevirtual 58, 3) := by decide +kernel
theorem dL_accessesOf_7 : decode cL_accessesOf 7 = .ok (.i2l, 1) := by decide +kernel
theorem dL_accessesOf_8 : decode cL_accessesOf 8 = .ok (.lastore, 1) := by decide +kernel
theorem dL_accessesOf_9 : decode cL_accessesOf 9 = .ok (.goto 6, 3) := by decide +kernel
theorem dL_accessesOf_12 : decode cL_accessesOf 12 = .ok (.astore_n 3, 1) := by decide +kernel
theorem dL_accessesOf_13 : decode cL_accessesOf 13 = .ok (.iconst 1, 1) := by decide +kernel
theorem dL_accessesOf_14 : decode cL_accessesOf 14 = .ok (.ireturn, 1) := by decide +kernel
theorem dL_accessesOf_15 : decode cL_accessesOf 15 = .ok (.iconst 0, 1) := by decide +kernel
theorem dL_accessesOf_16 : decode cL_accessesOf 16 = .ok (.ireturn, 1) := by decide +kernel
theorem dL_idle_0 : decode cL_idle 0 = .ok (.aload_n 2, 1) := by decide +kernel
theorem dL_idle_1 : decode cL_idle 1 = .ok (.iconst 0, 1) := by decide +kernel
theorem dL_idle_2 : decode cL_idle 2 = .ok (.aload_n 0, 1) := by decide +kernel
theorem dL_idle_3 : decode cL_idle 3 = .ok (.iload_n 1, 1) := by decide +kernel
theorem dL_idle_4 : decode cL_idle 4 = .ok (.invokevirtual 61, 3) := by decide +kernel
theorem dL_idle_7 : decode cL_idle 7 = .ok (.i2l, 1) := by decide +kernel
theorem dL_idle_8 : decode cL_idle 8 = .ok (.lastore, 1) := by decide +kernel
theorem dL_idle_9 : decode cL_idle 9 = .ok (.goto 9, 3) := by decide +kernel
theorem dL_idle_12 : decode cL_idle 12 = .ok (.astore_n 3, 1) := by decide +kernel
theorem dL_idle_13 : decode cL_idle 13 = .ok (.iconst 1, 1) := by decide +kernel
theorem dL_idle_14 : decode cL_idle 14 = .ok (.ireturn, 1) := by decide +kernel
theorem dL_idle_15 : decode cL_idle 15 = .ok (.astore_n 3, 1) := by decide +kernel
theorem dL_idle_16 : decode cL_idle 16 = .ok (.iconst 2, 1) := by decide +kernel
theorem dL_idle_17 : decode cL_idle 17 = .ok (.ireturn, 1) := by decide +kernel
theorem dL_idle_18 : decode cL_idle 18 = .ok (.iconst 0, 1) := by decide +kernel
theorem dL_idle_19 : decode cL_idle 19 = .ok (.ireturn, 1) := by decide +kernel
theorem dL_submit_0 : decode cL_submit 0 = .ok (.aload 4, 2) := by decide +kernel
theorem dL_submit_2 : decode cL_submit 2 = .ok (.iconst 0, 1) := by decide +kernel
theorem dL_submit_3 : decode cL_submit 3 = .ok (.aload_n 0, 1) := by decide +kernel
theorem dL_submit_4 : decode cL_submit 4 = .ok (.iload_n 1, 1) := by decide +kernel
theorem dL_submit_5 : decode cL_submit 5 = .ok (.iload_n 2, 1) := by decide +kernel
theorem dL_submit_6 : decode cL_submit 6 = .ok (.iload_n 3, 1) := by decide +kernel
theorem dL_submit_7 : decode cL_submit 7 = .ok (.invokevirtual 64, 3) := by decide +kernel
theorem dL_submit_10 : decode cL_submit 10 = .ok (.i2l, 1) := by decide +kernel
theorem dL_submit_11 : decode cL_submit 11 = .ok (.lastore, 1) := by decide +kernel
theorem dL_submit_12 : decode cL_submit 12 = .ok (.goto 15, 3) := by decide +kernel
theorem dL_submit_15 : decode cL_submit 15 = .ok (.astore 5, 2) := by decide +kernel
theorem dL_submit_17 : decode cL_submit 17 = .ok (.iconst 1, 1) := by decide +kernel
theorem dL_submit_18 : decode cL_submit 18 = .ok (.ireturn, 1) := by decide +kernel
theorem dL_submit_19 : decode cL_submit 19 = .ok (.astore 5, 2) := by decide +kernel
theorem dL_submit_21 : decode cL_submit 21 = .ok (.iconst 2, 1) := by decide +kernel
theorem dL_submit_22 : decode cL_submit 22 = .ok (.ireturn, 1) := by decide +kernel
theorem dL_submit_23 : decode cL_submit 23 = .ok (.astore 5, 2) := by decide +kernel
theorem dL_submit_25 : decode cL_submit 25 = .ok (.iconst 3, 1) := by decide +kernel
theorem dL_submit_26 : decode cL_submit 26 = .ok (.ireturn, 1) := by decide +kernel
theorem dL_submit_27 : decode cL_submit 27 = .ok (.iconst 0, 1) := by decide +kernel
theorem dL_submit_28 : decode cL_submit 28 = .ok (.ireturn, 1) := by decide +kernel
theorem dL_appendCharacter_0 : decode cL_appendCharacter 0 = .ok (.aload_n 2, 1) := by decide +kernel
theorem dL_appendCharacter_1 : decode cL_appendCharacter 1 = .ok (.iconst 0, 1) := by decide +kernel
theorem dL_appendCharacter_2 : decode cL_appendCharacter 2 = .ok (.aload_n 0, 1) := by decide +kernel
theorem dL_appendCharacter_3 : decode cL_appendCharacter 3 = .ok (.iload_n 1, 1) := by decide +kernel
theorem dL_appendCharacter_4 : decode cL_appendCharacter 4 = .ok (.invokevirtual 68, 3) := by decide +kernel
theorem dL_appendCharacter_7 : decode cL_appendCharacter 7 = .ok (.i2l, 1) := by decide +kernel
theorem dL_appendCharacter_8 : decode cL_appendCharacter 8 = .ok (.lastore, 1) := by decide +kernel
theorem dL_appendCharacter_9 : decode cL_appendCharacter 9 = .ok (.goto 9, 3) := by decide +kernel
theorem dL_appendCharacter_12 : decode cL_appendCharacter 12 = .ok (.astore_n 3, 1) := by decide +kernel
theorem dL_appendCharacter_13 : decode cL_appendCharacter 13 = .ok (.iconst 1, 1) := by decide +kernel
theorem dL_appendCharacter_14 : decode cL_appendCharacter 14 = .ok (.ireturn, 1) := by decide +kernel
theorem dL_appendCharacter_15 : decode cL_appendCharacter 15 = .ok (.astore_n 3, 1) := by decide +kernel
theorem dL_appendCharacter_16 : decode cL_appendCharacter 16 = .ok (.iconst 2, 1) := by decide +kernel
theorem dL_appendCharacter_17 : decode cL_appendCharacter 17 = .ok (.ireturn, 1) := by decide +kernel
theorem dL_appendCharacter_18 : decode cL_appendCharacter 18 = .ok (.iconst 0, 1) := by decide +kernel
theorem dL_appendCharacter_19 : decode cL_appendCharacter 19 = .ok (.ireturn, 1) := by decide +kernel
theorem dL_submitText_0 : decode cL_submitText 0 = .ok (.aload_n 1, 1) := by decide +kernel
theorem dL_submitText_1 : decode cL_submitText 1 = .ok (.iconst 0, 1) := by decide +kernel
theorem dL_submitText_2 : decode cL_submitText 2 = .ok (.aload_n 0, 1) := by decide +kernel
theorem dL_submitText_3 : decode cL_submitText 3 = .ok (.invokevirtual 71, 3) := by decide +kernel
theorem dL_submitText_6 : decode cL_submitText 6 = .ok (.i2l, 1) := by decide +kernel
theorem dL_submitText_7 : decode cL_submitText 7 = .ok (.lastore, 1) := by decide +kernel
theorem dL_submitText_8 : decode cL_submitText 8 = .ok (.goto 6, 3) := by decide +kernel
theorem dL_submitText_11 : decode cL_submitText 11 = .ok (.astore_n 2, 1) := by decide +kernel
theorem dL_submitText_12 : decode cL_submitText 12 = .ok (.iconst 1, 1) := by decide +kernel
theorem dL_submitText_13 : decode cL_submitText 13 = .ok (.ireturn, 1) := by decide +kernel
theorem dL_submitText_14 : decode cL_submitText 14 = .ok (.iconst 0, 1) := by decide +kernel
theorem dL_submitText_15 : decode cL_submitText 15 = .ok (.ireturn, 1) := by decide +kernel
theorem dL_cancel_0 : decode cL_cancel 0 = .ok (.aload_n 0, 1) := by decide +kernel
theorem dL_cancel_1 : decode cL_cancel 1 = .ok (.iload_n 1, 1) := by decide +kernel
theorem dL_cancel_2 : decode cL_cancel 2 = .ok (.invokevirtual 75, 3) := by decide +kernel
theorem dL_cancel_5 : decode cL_cancel 5 = .ok (.goto 9, 3) := by decide +kernel
theorem dL_cancel_8 : decode cL_cancel 8 = .ok (.astore_n 2, 1) := by decide +kernel
theorem dL_cancel_9 : decode cL_cancel 9 = .ok (.iconst 1, 1) := by decide +kernel
theorem dL_cancel_10 : decode cL_cancel 10 = .ok (.ireturn, 1) := by decide +kernel
theorem dL_cancel_11 : decode cL_cancel 11 = .ok (.astore_n 2, 1) := by decide +kernel
theorem dL_cancel_12 : decode cL_cancel 12 = .ok (.iconst 2, 1) := by decide +kernel
theorem dL_cancel_13 : decode cL_cancel 13 = .ok (.ireturn, 1) := by decide +kernel
theorem dL_cancel_14 : decode cL_cancel 14 = .ok (.iconst 0, 1) := by decide +kernel
theorem dL_cancel_15 : decode cL_cancel 15 = .ok (.ireturn, 1) := by decide +kernel
theorem dL_next_0 : decode cL_next 0 = .ok (.aload_n 1, 1) := by decide +kernel
theorem dL_next_1 : decode cL_next 1 = .ok (.iconst 0, 1) := by decide +kernel
theorem dL_next_2 : decode cL_next 2 = .ok (.aload_n 0, 1) := by decide +kernel
theorem dL_next_3 : decode cL_next 3 = .ok (.invokevirtual 79, 3) := by decide +kernel
theorem dL_next_6 : decode cL_next 6 = .ok (.i2l, 1) := by decide +kernel
theorem dL_next_7 : decode cL_next 7 = .ok (.lastore, 1) := by decide +kernel
theorem dL_next_8 : decode cL_next 8 = .ok (.goto 6, 3) := by decide +kernel
theorem dL_next_11 : decode cL_next 11 = .ok (.astore_n 2, 1) := by decide +kernel
theorem dL_next_12 : decode cL_next 12 = .ok (.iconst 1, 1) := by decide +kernel
theorem dL_next_13 : decode cL_next 13 = .ok (.ireturn, 1) := by decide +kernel
theorem dL_next_14 : decode cL_next 14 = .ok (.iconst 0, 1) := by decide +kernel
theorem dL_next_15 : decode cL_next 15 = .ok (.ireturn, 1) := by decide +kernel
theorem dL_serve_0 : decode cL_serve 0 = .ok (.aload_n 1, 1) := by decide +kernel
theorem dL_serve_1 : decode cL_serve 1 = .ok (.iconst 0, 1) := by decide +kernel
theorem dL_serve_2 : decode cL_serve 2 = .ok (.aload_n 0, 1) := by decide +kernel
theorem dL_serve_3 : decode cL_serve 3 = .ok (.invokevirtual 84, 3) := by decide +kernel
theorem dL_serve_6 : decode cL_serve 6 = .ok (.i2l, 1) := by decide +kernel
theorem dL_serve_7 : decode cL_serve 7 = .ok (.lastore, 1) := by decide +kernel
theorem dL_serve_8 : decode cL_serve 8 = .ok (.goto 9, 3) := by decide +kernel
theorem dL_serve_11 : decode cL_serve 11 = .ok (.astore_n 2, 1) := by decide +kernel
theorem dL_serve_12 : decode cL_serve 12 = .ok (.iconst 1, 1) := by decide +kernel
theorem dL_serve_13 : decode cL_serve 13 = .ok (.ireturn, 1) := by decide +kernel
theorem dL_serve_14 : decode cL_serve 14 = .ok (.astore_n 2, 1) := by decide +kernel
theorem dL_serve_15 : decode cL_serve 15 = .ok (.iconst 2, 1) := by decide +kernel
theorem dL_serve_16 : decode cL_serve 16 = .ok (.ireturn, 1) := by decide +kernel
theorem dL_serve_17 : decode cL_serve 17 = .ok (.iconst 0, 1) := by decide +kernel
theorem dL_serve_18 : decode cL_serve 18 = .ok (.ireturn, 1) := by decide +kernel
theorem dL_serveFor_0 : decode cL_serveFor 0 = .ok (.aload_n 2, 1) := by decide +kernel
theorem dL_serveFor_1 : decode cL_serveFor 1 = .ok (.iconst 0, 1) := by decide +kernel
theorem dL_serveFor_2 : decode cL_serveFor 2 = .ok (.aload_n 0, 1) := by decide +kernel
theorem dL_serveFor_3 : decode cL_serveFor 3 = .ok (.iload_n 1, 1) := by decide +kernel
theorem dL_serveFor_4 : decode cL_serveFor 4 = .ok (.invokevirtual 87, 3) := by decide +kernel
theorem dL_serveFor_7 : decode cL_serveFor 7 = .ok (.i2l, 1) := by decide +kernel
theorem dL_serveFor_8 : decode cL_serveFor 8 = .ok (.lastore, 1) := by decide +kernel
theorem dL_serveFor_9 : decode cL_serveFor 9 = .ok (.goto 9, 3) := by decide +kernel
theorem dL_serveFor_12 : decode cL_serveFor 12 = .ok (.astore_n 3, 1) := by decide +kernel
theorem dL_serveFor_13 : decode cL_serveFor 13 = .ok (.iconst 1, 1) := by decide +kernel
theorem dL_serveFor_14 : decode cL_serveFor 14 = .ok (.ireturn, 1) := by decide +kernel
theorem dL_serveFor_15 : decode cL_serveFor 15 = .ok (.astore_n 3, 1) := by decide +kernel
theorem dL_serveFor_16 : decode cL_serveFor 16 = .ok (.iconst 2, 1) := by decide +kernel
theorem dL_serveFor_17 : decode cL_serveFor 17 = .ok (.ireturn, 1) := by decide +kernel
theorem dL_serveFor_18 : decode cL_serveFor 18 = .ok (.iconst 0, 1) := by decide +kernel
theorem dL_serveFor_19 : decode cL_serveFor 19 = .ok (.ireturn, 1) := by decide +kernel
theorem dL_flush_0 : decode cL_flush 0 = .ok (.aload_n 1, 1) := by decide +kernel
theorem dL_flush_1 : decode cL_flush 1 = .ok (.iconst 0, 1) := by decide +kernel
theorem dL_flush_2 : decode cL_flush 2 = .ok (.aload_n 0, 1) := by decide +kernel
theorem dL_flush_3 : decode cL_flush 3 = .ok (.invokevirtual 90, 3) := by decide +kernel
theorem dL_flush_6 : decode cL_flush 6 = .ok (.i2l, 1) := by decide +kernel
theorem dL_flush_7 : decode cL_flush 7 = .ok (.lastore, 1) := by decide +kernel
theorem dL_flush_8 : decode cL_flush 8 = .ok (.goto 6, 3) := by decide +kernel
theorem dL_flush_11 : decode cL_flush 11 = .ok (.astore_n 2, 1) := by decide +kernel
theorem dL_flush_12 : decode cL_flush 12 = .ok (.iconst 1, 1) := by decide +kernel
theorem dL_flush_13 : decode cL_flush 13 = .ok (.ireturn, 1) := by decide +kernel
theorem dL_flush_14 : decode cL_flush 14 = .ok (.iconst 0, 1) := by decide +kernel
theorem dL_flush_15 : decode cL_flush 15 = .ok (.ireturn, 1) := by decide +kernel
theorem dL_state_0 : decode cL_state 0 = .ok (.aload_n 2, 1) := by decide +kernel
theorem dL_state_1 : decode cL_state 1 = .ok (.iconst 0, 1) := by decide +kernel
theorem dL_state_2 : decode cL_state 2 = .ok (.aload_n 0, 1) := by decide +kernel
theorem dL_state_3 : decode cL_state 3 = .ok (.iload_n 1, 1) := by decide +kernel
theorem dL_state_4 : decode cL_state 4 = .ok (.invokevirtual 93, 3) := by decide +kernel
theorem dL_state_7 : decode cL_state 7 = .ok (.i2l, 1) := by decide +kernel
theorem dL_state_8 : decode cL_state 8 = .ok (.lastore, 1) := by decide +kernel
theorem dL_state_9 : decode cL_state 9 = .ok (.goto 6, 3) := by decide +kernel
theorem dL_state_12 : decode cL_state 12 = .ok (.astore_n 3, 1) := by decide +kernel
theorem dL_state_13 : decode cL_state 13 = .ok (.iconst 1, 1) := by decide +kernel
theorem dL_state_14 : decode cL_state 14 = .ok (.ireturn, 1) := by decide +kernel
theorem dL_state_15 : decode cL_state 15 = .ok (.iconst 0, 1) := by decide +kernel
theorem dL_state_16 : decode cL_state 16 = .ok (.ireturn, 1) := by decide +kernel
theorem dL_bucket_0 : decode cL_bucket 0 = .ok (.aload_n 2, 1) := by decide +kernel
theorem dL_bucket_1 : decode cL_bucket 1 = .ok (.iconst 0, 1) := by decide +kernel
theorem dL_bucket_2 : decode cL_bucket 2 = .ok (.aload_n 0, 1) := by decide +kernel
theorem dL_bucket_3 : decode cL_bucket 3 = .ok (.iload_n 1, 1) := by decide +kernel
theorem dL_bucket_4 : decode cL_bucket 4 = .ok (.invokevirtual 96, 3) := by decide +kernel
theorem dL_bucket_7 : decode cL_bucket 7 = .ok (.i2l, 1) := by decide +kernel
theorem dL_bucket_8 : decode cL_bucket 8 = .ok (.lastore, 1) := by decide +kernel
theorem dL_bucket_9 : decode cL_bucket 9 = .ok (.goto 9, 3) := by decide +kernel
theorem dL_bucket_12 : decode cL_bucket 12 = .ok (.astore_n 3, 1) := by decide +kernel
theorem dL_bucket_13 : decode cL_bucket 13 = .ok (.iconst 1, 1) := by decide +kernel
theorem dL_bucket_14 : decode cL_bucket 14 = .ok (.ireturn, 1) := by decide +kernel
theorem dL_bucket_15 : decode cL_bucket 15 = .ok (.astore_n 3, 1) := by decide +kernel
theorem dL_bucket_16 : decode cL_bucket 16 = .ok (.iconst 2, 1) := by decide +kernel
theorem dL_bucket_17 : decode cL_bucket 17 = .ok (.ireturn, 1) := by decide +kernel
theorem dL_bucket_18 : decode cL_bucket 18 = .ok (.iconst 0, 1) := by decide +kernel
theorem dL_bucket_19 : decode cL_bucket 19 = .ok (.ireturn, 1) := by decide +kernel
theorem dL_finish_0 : decode cL_finish 0 = .ok (.aload_n 2, 1) := by decide +kernel
theorem dL_finish_1 : decode cL_finish 1 = .ok (.iconst 0, 1) := by decide +kernel
theorem dL_finish_2 : decode cL_finish 2 = .ok (.aload_n 0, 1) := by decide +kernel
theorem dL_finish_3 : decode cL_finish 3 = .ok (.iload_n 1, 1) := by decide +kernel
theorem dL_finish_4 : decode cL_finish 4 = .ok (.invokevirtual 99, 3) := by decide +kernel
theorem dL_finish_7 : decode cL_finish 7 = .ok (.i2l, 1) := by decide +kernel
theorem dL_finish_8 : decode cL_finish 8 = .ok (.lastore, 1) := by decide +kernel
theorem dL_finish_9 : decode cL_finish 9 = .ok (.goto 9, 3) := by decide +kernel
theorem dL_finish_12 : decode cL_finish 12 = .ok (.astore_n 3, 1) := by decide +kernel
theorem dL_finish_13 : decode cL_finish 13 = .ok (.iconst 1, 1) := by decide +kernel
theorem dL_finish_14 : decode cL_finish 14 = .ok (.ireturn, 1) := by decide +kernel
theorem dL_finish_15 : decode cL_finish 15 = .ok (.astore_n 3, 1) := by decide +kernel
theorem dL_finish_16 : decode cL_finish 16 = .ok (.iconst 2, 1) := by decide +kernel
theorem dL_finish_17 : decode cL_finish 17 = .ok (.ireturn, 1) := by decide +kernel
theorem dL_finish_18 : decode cL_finish 18 = .ok (.iconst 0, 1) := by decide +kernel
theorem dL_finish_19 : decode cL_finish 19 = .ok (.ireturn, 1) := by decide +kernel
theorem dL_isLate_0 : decode cL_isLate 0 = .ok (.aload_n 2, 1) := by decide +kernel
theorem dL_isLate_1 : decode cL_isLate 1 = .ok (.iconst 0, 1) := by decide +kernel
theorem dL_isLate_2 : decode cL_isLate 2 = .ok (.aload_n 0, 1) := by decide +kernel
theorem dL_isLate_3 : decode cL_isLate 3 = .ok (.iload_n 1, 1) := by decide +kernel
theorem dL_isLate_4 : decode cL_isLate 4 = .ok (.invokevirtual 102, 3) := by decide +kernel
theorem dL_isLate_7 : decode cL_isLate 7 = .ok (.ifCond .eq 7, 3) := by decide +kernel
theorem dL_isLate_10 : decode cL_isLate 10 = .ok (.lconst 1, 1) := by decide +kernel
theorem dL_isLate_11 : decode cL_isLate 11 = .ok (.goto 4, 3) := by decide +kernel
theorem dL_isLate_14 : decode cL_isLate 14 = .ok (.lconst 0, 1) := by decide +kernel
theorem dL_isLate_15 : decode cL_isLate 15 = .ok (.lastore, 1) := by decide +kernel
theorem dL_isLate_16 : decode cL_isLate 16 = .ok (.goto 12, 3) := by decide +kernel
theorem dL_isLate_19 : decode cL_isLate 19 = .ok (.astore_n 3, 1) := by decide +kernel
theorem dL_isLate_20 : decode cL_isLate 20 = .ok (.iconst 1, 1) := by decide +kernel
theorem dL_isLate_21 : decode cL_isLate 21 = .ok (.ireturn, 1) := by decide +kernel
theorem dL_isLate_22 : decode cL_isLate 22 = .ok (.astore_n 3, 1) := by decide +kernel
theorem dL_isLate_23 : decode cL_isLate 23 = .ok (.iconst 2, 1) := by decide +kernel
theorem dL_isLate_24 : decode cL_isLate 24 = .ok (.ireturn, 1) := by decide +kernel
theorem dL_isLate_25 : decode cL_isLate 25 = .ok (.astore_n 3, 1) := by decide +kernel
theorem dL_isLate_26 : decode cL_isLate 26 = .ok (.iconst 3, 1) := by decide +kernel
theorem dL_isLate_27 : decode cL_isLate 27 = .ok (.ireturn, 1) := by decide +kernel
theorem dL_isLate_28 : decode cL_isLate 28 = .ok (.iconst 0, 1) := by decide +kernel
theorem dL_isLate_29 : decode cL_isLate 29 = .ok (.ireturn, 1) := by decide +kernel
theorem dL_bestFinish_0 : decode cL_bestFinish 0 = .ok (.aload_n 1, 1) := by decide +kernel
theorem dL_bestFinish_1 : decode cL_bestFinish 1 = .ok (.iconst 0, 1) := by decide +kernel
theorem dL_bestFinish_2 : decode cL_bestFinish 2 = .ok (.aload_n 0, 1) := by decide +kernel
theorem dL_bestFinish_3 : decode cL_bestFinish 3 = .ok (.invokevirtual 106, 3) := by decide +kernel
theorem dL_bestFinish_6 : decode cL_bestFinish 6 = .ok (.i2l, 1) := by decide +kernel
theorem dL_bestFinish_7 : decode cL_bestFinish 7 = .ok (.lastore, 1) := by decide +kernel
theorem dL_bestFinish_8 : decode cL_bestFinish 8 = .ok (.goto 6, 3) := by decide +kernel
theorem dL_bestFinish_11 : decode cL_bestFinish 11 = .ok (.astore_n 2, 1) := by decide +kernel
theorem dL_bestFinish_12 : decode cL_bestFinish 12 = .ok (.iconst 1, 1) := by decide +kernel
theorem dL_bestFinish_13 : decode cL_bestFinish 13 = .ok (.ireturn, 1) := by decide +kernel
theorem dL_bestFinish_14 : decode cL_bestFinish 14 = .ok (.iconst 0, 1) := by decide +kernel
theorem dL_bestFinish_15 : decode cL_bestFinish 15 = .ok (.ireturn, 1) := by decide +kernel
theorem dL_bestRequest_0 : decode cL_bestRequest 0 = .ok (.aload_n 2, 1) := by decide +kernel
theorem dL_bestRequest_1 : decode cL_bestRequest 1 = .ok (.iconst 0, 1) := by decide +kernel
theorem dL_bestRequest_2 : decode cL_bestRequest 2 = .ok (.aload_n 0, 1) := by decide +kernel
theorem dL_bestRequest_3 : decode cL_bestRequest 3 = .ok (.iload_n 1, 1) := by decide +kernel
theorem dL_bestRequest_4 : decode cL_bestRequest 4 = .ok (.invokevirtual 109, 3) := by decide +kernel
theorem dL_bestRequest_7 : decode cL_bestRequest 7 = .ok (.i2l, 1) := by decide +kernel
theorem dL_bestRequest_8 : decode cL_bestRequest 8 = .ok (.lastore, 1) := by decide +kernel
theorem dL_bestRequest_9 : decode cL_bestRequest 9 = .ok (.goto 9, 3) := by decide +kernel
theorem dL_bestRequest_12 : decode cL_bestRequest 12 = .ok (.astore_n 3, 1) := by decide +kernel
theorem dL_bestRequest_13 : decode cL_bestRequest 13 = .ok (.iconst 1, 1) := by decide +kernel
theorem dL_bestRequest_14 : decode cL_bestRequest 14 = .ok (.ireturn, 1) := by decide +kernel
theorem dL_bestRequest_15 : decode cL_bestRequest 15 = .ok (.astore_n 3, 1) := by decide +kernel
theorem dL_bestRequest_16 : decode cL_bestRequest 16 = .ok (.iconst 2, 1) := by decide +kernel
theorem dL_bestRequest_17 : decode cL_bestRequest 17 = .ok (.ireturn, 1) := by decide +kernel
theorem dL_bestRequest_18 : decode cL_bestRequest 18 = .ok (.iconst 0, 1) := by decide +kernel
theorem dL_bestRequest_19 : decode cL_bestRequest 19 = .ok (.ireturn, 1) := by decide +kernel
theorem dL_canMeetDeadlines_0 : decode cL_canMeetDeadlines 0 = .ok (.aload_n 1, 1) := by decide +kernel
theorem dL_canMeetDeadlines_1 : decode cL_canMeetDeadlines 1 = .ok (.iconst 0, 1) := by decide +kernel
theorem dL_canMeetDeadlines_2 : decode cL_canMeetDeadlines 2 = .ok (.aload_n 0, 1) := by decide +kernel
theorem dL_canMeetDeadlines_3 : decode cL_canMeetDeadlines 3 = .ok (.invokevirtual 112, 3) := by decide +kernel
theorem dL_canMeetDeadlines_6 : decode cL_canMeetDeadlines 6 = .ok (.ifCond .eq 7, 3) := by decide +kernel
theorem dL_canMeetDeadlines_9 : decode cL_canMeetDeadlines 9 = .ok (.lconst 1, 1) := by decide +kernel
theorem dL_canMeetDeadlines_10 : decode cL_canMeetDeadlines 10 = .ok (.goto 4, 3) := by decide +kernel
theorem dL_canMeetDeadlines_13 : decode cL_canMeetDeadlines 13 = .ok (.lconst 0, 1) := by decide +kernel
theorem dL_canMeetDeadlines_14 : decode cL_canMeetDeadlines 14 = .ok (.lastore, 1) := by decide +kernel
theorem dL_canMeetDeadlines_15 : decode cL_canMeetDeadlines 15 = .ok (.goto 6, 3) := by decide +kernel
theorem dL_canMeetDeadlines_18 : decode cL_canMeetDeadlines 18 = .ok (.astore_n 2, 1) := by decide +kernel
theorem dL_canMeetDeadlines_19 : decode cL_canMeetDeadlines 19 = .ok (.iconst 1, 1) := by decide +kernel
theorem dL_canMeetDeadlines_20 : decode cL_canMeetDeadlines 20 = .ok (.ireturn, 1) := by decide +kernel
theorem dL_canMeetDeadlines_21 : decode cL_canMeetDeadlines 21 = .ok (.iconst 0, 1) := by decide +kernel
theorem dL_canMeetDeadlines_22 : decode cL_canMeetDeadlines 22 = .ok (.ireturn, 1) := by decide +kernel
theorem dL_total_0 : decode cL_total 0 = .ok (.aload_n 2, 1) := by decide +kernel
theorem dL_total_1 : decode cL_total 1 = .ok (.iconst 0, 1) := by decide +kernel
theorem dL_total_2 : decode cL_total 2 = .ok (.aload_n 0, 1) := by decide +kernel
theorem dL_total_3 : decode cL_total 3 = .ok (.iload_n 1, 1) := by decide +kernel
theorem dL_total_4 : decode cL_total 4 = .ok (.invokevirtual 116, 3) := by decide +kernel
theorem dL_total_7 : decode cL_total 7 = .ok (.i2l, 1) := by decide +kernel
theorem dL_total_8 : decode cL_total 8 = .ok (.lastore, 1) := by decide +kernel
theorem dL_total_9 : decode cL_total 9 = .ok (.goto 6, 3) := by decide +kernel
theorem dL_total_12 : decode cL_total 12 = .ok (.astore_n 3, 1) := by decide +kernel
theorem dL_total_13 : decode cL_total 13 = .ok (.iconst 1, 1) := by decide +kernel
theorem dL_total_14 : decode cL_total 14 = .ok (.ireturn, 1) := by decide +kernel
theorem dL_total_15 : decode cL_total 15 = .ok (.iconst 0, 1) := by decide +kernel
theorem dL_total_16 : decode cL_total 16 = .ok (.ireturn, 1) := by decide +kernel
theorem dL_utilization_0 : decode cL_utilization 0 = .ok (.aload_n 1, 1) := by decide +kernel
theorem dL_utilization_1 : decode cL_utilization 1 = .ok (.iconst 0, 1) := by decide +kernel
theorem dL_utilization_2 : decode cL_utilization 2 = .ok (.aload_n 0, 1) := by decide +kernel
theorem dL_utilization_3 : decode cL_utilization 3 = .ok (.invokevirtual 119, 3) := by decide +kernel
theorem dL_utilization_6 : decode cL_utilization 6 = .ok (.dastore, 1) := by decide +kernel
theorem dL_utilization_7 : decode cL_utilization 7 = .ok (.goto 6, 3) := by decide +kernel
theorem dL_utilization_10 : decode cL_utilization 10 = .ok (.astore_n 2, 1) := by decide +kernel
theorem dL_utilization_11 : decode cL_utilization 11 = .ok (.iconst 1, 1) := by decide +kernel
theorem dL_utilization_12 : decode cL_utilization 12 = .ok (.ireturn, 1) := by decide +kernel
theorem dL_utilization_13 : decode cL_utilization 13 = .ok (.iconst 0, 1) := by decide +kernel
theorem dL_utilization_14 : decode cL_utilization 14 = .ok (.ireturn, 1) := by decide +kernel
theorem dL_averageResponse_0 : decode cL_averageResponse 0 = .ok (.aload_n 1, 1) := by decide +kernel
theorem dL_averageResponse_1 : decode cL_averageResponse 1 = .ok (.iconst 0, 1) := by decide +kernel
theorem dL_averageResponse_2 : decode cL_averageResponse 2 = .ok (.aload_n 0, 1) := by decide +kernel
theorem dL_averageResponse_3 : decode cL_averageResponse 3 = .ok (.invokevirtual 125, 3) := by decide +kernel
theorem dL_averageResponse_6 : decode cL_averageResponse 6 = .ok (.dastore, 1) := by decide +kernel
theorem dL_averageResponse_7 : decode cL_averageResponse 7 = .ok (.goto 6, 3) := by decide +kernel
theorem dL_averageResponse_10 : decode cL_averageResponse 10 = .ok (.astore_n 2, 1) := by decide +kernel
theorem dL_averageResponse_11 : decode cL_averageResponse 11 = .ok (.iconst 1, 1) := by decide +kernel
theorem dL_averageResponse_12 : decode cL_averageResponse 12 = .ok (.ireturn, 1) := by decide +kernel
theorem dL_averageResponse_13 : decode cL_averageResponse 13 = .ok (.iconst 0, 1) := by decide +kernel
theorem dL_averageResponse_14 : decode cL_averageResponse 14 = .ok (.ireturn, 1) := by decide +kernel
theorem dL_lateShare_0 : decode cL_lateShare 0 = .ok (.aload_n 1, 1) := by decide +kernel
theorem dL_lateShare_1 : decode cL_lateShare 1 = .ok (.iconst 0, 1) := by decide +kernel
theorem dL_lateShare_2 : decode cL_lateShare 2 = .ok (.aload_n 0, 1) := by decide +kernel
theorem dL_lateShare_3 : decode cL_lateShare 3 = .ok (.invokevirtual 128, 3) := by decide +kernel
theorem dL_lateShare_6 : decode cL_lateShare 6 = .ok (.f2d, 1) := by decide +kernel
theorem dL_lateShare_7 : decode cL_lateShare 7 = .ok (.dastore, 1) := by decide +kernel
theorem dL_lateShare_8 : decode cL_lateShare 8 = .ok (.goto 6, 3) := by decide +kernel
theorem dL_lateShare_11 : decode cL_lateShare 11 = .ok (.astore_n 2, 1) := by decide +kernel
theorem dL_lateShare_12 : decode cL_lateShare 12 = .ok (.iconst 1, 1) := by decide +kernel
theorem dL_lateShare_13 : decode cL_lateShare 13 = .ok (.ireturn, 1) := by decide +kernel
theorem dL_lateShare_14 : decode cL_lateShare 14 = .ok (.iconst 0, 1) := by decide +kernel
theorem dL_lateShare_15 : decode cL_lateShare 15 = .ok (.ireturn, 1) := by decide +kernel
theorem dL_restore_0 : decode cL_restore 0 = .ok (.aload_n 1, 1) := by decide +kernel
theorem dL_restore_1 : decode cL_restore 1 = .ok (.iconst 0, 1) := by decide +kernel
theorem dL_restore_2 : decode cL_restore 2 = .ok (.aload_n 0, 1) := by decide +kernel
theorem dL_restore_3 : decode cL_restore 3 = .ok (.invokevirtual 132, 3) := by decide +kernel
theorem dL_restore_6 : decode cL_restore 6 = .ok (.i2l, 1) := by decide +kernel
theorem dL_restore_7 : decode cL_restore 7 = .ok (.lastore, 1) := by decide +kernel
theorem dL_restore_8 : decode cL_restore 8 = .ok (.goto 6, 3) := by decide +kernel
theorem dL_restore_11 : decode cL_restore 11 = .ok (.astore_n 2, 1) := by decide +kernel
theorem dL_restore_12 : decode cL_restore 12 = .ok (.iconst 1, 1) := by decide +kernel
theorem dL_restore_13 : decode cL_restore 13 = .ok (.ireturn, 1) := by decide +kernel
theorem dL_restore_14 : decode cL_restore 14 = .ok (.iconst 0, 1) := by decide +kernel
theorem dL_restore_15 : decode cL_restore 15 = .ok (.ireturn, 1) := by decide +kernel
theorem dL_law_0 : decode cL_law 0 = .ok (.new 8, 3) := by decide +kernel
theorem dL_law_3 : decode cL_law 3 = .ok (.dup, 1) := by decide +kernel
theorem dL_law_4 : decode cL_law 4 = .ok (.invokespecial 135, 3) := by decide +kernel
theorem dL_law_7 : decode cL_law 7 = .ok (.astore_n 1, 1) := by decide +kernel
theorem dL_law_8 : decode cL_law 8 = .ok (.new 136, 3) := by decide +kernel
theorem dL_law_11 : decode cL_law 11 = .ok (.dup, 1) := by decide +kernel
theorem dL_law_12 : decode cL_law 12 = .ok (.invokespecial 138, 3) := by decide +kernel
theorem dL_law_15 : decode cL_law 15 = .ok (.astore_n 2, 1) := by decide +kernel
theorem dL_law_16 : decode cL_law 16 = .ok (.iconst 1, 1) := by decide +kernel
theorem dL_law_17 : decode cL_law 17 = .ok (.newarray .long, 2) := by decide +kernel
theorem dL_law_19 : decode cL_law 19 = .ok (.astore_n 3, 1) := by decide +kernel
theorem dL_law_20 : decode cL_law 20 = .ok (.iconst 1, 1) := by decide +kernel
theorem dL_law_21 : decode cL_law 21 = .ok (.newarray .double, 2) := by decide +kernel
theorem dL_law_23 : decode cL_law 23 = .ok (.astore 4, 2) := by decide +kernel
theorem dL_law_25 : decode cL_law 25 = .ok (.iconst 0, 1) := by decide +kernel
theorem dL_law_26 : decode cL_law 26 = .ok (.istore 5, 2) := by decide +kernel
theorem dL_law_28 : decode cL_law 28 = .ok (.iload 5, 2) := by decide +kernel
theorem dL_law_30 : decode cL_law 30 = .ok (.aload_n 0, 1) := by decide +kernel
theorem dL_law_31 : decode cL_law 31 = .ok (.arraylength, 1) := by decide +kernel
theorem dL_law_32 : decode cL_law 32 = .ok (.iconst 4, 1) := by decide +kernel
theorem dL_law_33 : decode cL_law 33 = .ok (.isub, 1) := by decide +kernel
theorem dL_law_34 : decode cL_law 34 = .ok (.if_icmp .gt 2182, 3) := by decide +kernel
theorem dL_law_37 : decode cL_law 37 = .ok (.aload_n 0, 1) := by decide +kernel
theorem dL_law_38 : decode cL_law 38 = .ok (.iload 5, 2) := by decide +kernel
theorem dL_law_40 : decode cL_law 40 = .ok (.iaload, 1) := by decide +kernel
theorem dL_law_41 : decode cL_law 41 = .ok (.bipush 63, 2) := by decide +kernel
theorem dL_law_43 : decode cL_law 43 = .ok (.iand, 1) := by decide +kernel
theorem dL_law_44 : decode cL_law 44 = .ok (.tableswitch 2166 0 40 #[180, 240, 296, 352, 400, 479, 547, 603, 659, 715, 771, 827, 883, 939, 952, 965, 978, 1034, 1114, 1170, 1214, 1227, 1263, 1307, 1351, 1407, 1451, 1464, 1477, 1533, 1589, 1645, 1708, 1752, 1808, 1859, 1915, 1980, 2045, 2111, 2122], 180) := by decide +kernel
theorem dL_law_224 : decode cL_law 224 = .ok (.aload_n 1, 1) := by decide +kernel
theorem dL_law_225 : decode cL_law 225 = .ok (.aload_n 0, 1) := by decide +kernel
theorem dL_law_226 : decode cL_law 226 = .ok (.iload 5, 2) := by decide +kernel
theorem dL_law_228 : decode cL_law 228 = .ok (.iconst 1, 1) := by decide +kernel
theorem dL_law_229 : decode cL_law 229 = .ok (.iadd, 1) := by decide +kernel
theorem dL_law_230 : decode cL_law 230 = .ok (.iaload, 1) := by decide +kernel
theorem dL_law_231 : decode cL_law 231 = .ok (.aload_n 0, 1) := by decide +kernel
theorem dL_law_232 : decode cL_law 232 = .ok (.iload 5, 2) := by decide +kernel
theorem dL_law_234 : decode cL_law 234 = .ok (.iconst 2, 1) := by decide +kernel
theorem dL_law_235 : decode cL_law 235 = .ok (.iadd, 1) := by decide +kernel
theorem dL_law_236 : decode cL_law 236 = .ok (.iaload, 1) := by decide +kernel
theorem dL_law_237 : decode cL_law 237 = .ok (.aload_n 0, 1) := by decide +kernel
theorem dL_law_238 : decode cL_law 238 = .ok (.iload 5, 2) := by decide +kernel
theorem dL_law_240 : decode cL_law 240 = .ok (.iconst 3, 1) := by decide +kernel
theorem dL_law_241 : decode cL_law 241 = .ok (.iadd, 1) := by decide +kernel
theorem dL_law_242 : decode cL_law 242 = .ok (.iaload, 1) := by decide +kernel
theorem dL_law_243 : decode cL_law 243 = .ok (.invokestatic 139, 3) := by decide +kernel
theorem dL_law_246 : decode cL_law 246 = .ok (.istore 6, 2) := by decide +kernel
theorem dL_law_248 : decode cL_law 248 = .ok (.aload_n 2, 1) := by decide +kernel
theorem dL_law_249 : decode cL_law 249 = .ok (.aload_n 0, 1) := by decide +kernel
theorem dL_law_250 : decode cL_law 250 = .ok (.iload 5, 2) := by decide +kernel
theorem dL_law_252 : decode cL_law 252 = .ok (.iconst 1, 1) := by decide +kernel
theorem dL_law_253 : decode cL_law 253 = .ok (.iadd, 1) := by decide +kernel
theorem dL_law_254 : decode cL_law 254 = .ok (.iaload, 1) := by decide +kernel
theorem dL_law_255 : decode cL_law 255 = .ok (.aload_n 0, 1) := by decide +kernel
theorem dL_law_256 : decode cL_law 256 = .ok (.iload 5, 2) := by decide +kernel
theorem dL_law_258 : decode cL_law 258 = .ok (.iconst 2, 1) := by decide +kernel
theorem dL_law_259 : decode cL_law 259 = .ok (.iadd, 1) := by decide +kernel
theorem dL_law_260 : decode cL_law 260 = .ok (.iaload, 1) := by decide +kernel
theorem dL_law_261 : decode cL_law 261 = .ok (.aload_n 0, 1) := by decide +kernel
theorem dL_law_262 : decode cL_law 262 = .ok (.iload 5, 2) := by decide +kernel
theorem dL_law_264 : decode cL_law 264 = .ok (.iconst 3, 1) := by decide +kernel
theorem dL_law_265 : decode cL_law 265 = .ok (.iadd, 1) := by decide +kernel
theorem dL_law_266 : decode cL_law 266 = .ok (.iaload, 1) := by decide +kernel
theorem dL_law_267 : decode cL_law 267 = .ok (.invokevirtual 144, 3) := by decide +kernel
theorem dL_law_270 : decode cL_law 270 = .ok (.aload_n 2, 1) := by decide +kernel
theorem dL_law_271 : decode cL_law 271 = .ok (.invokevirtual 145, 3) := by decide +kernel
theorem dL_law_274 : decode cL_law 274 = .ok (.iload 6, 2) := by decide +kernel
theorem dL_law_276 : decode cL_law 276 = .ok (.if_icmp .eq 5, 3) := by decide +kernel
theorem dL_law_279 : decode cL_law 279 = .ok (.iconst 0, 1) := by decide +kernel
theorem dL_law_280 : decode cL_law 280 = .ok (.ireturn, 1) := by decide +kernel
theorem dL_law_281 : decode cL_law 281 = .ok (.goto 1929, 3) := by decide +kernel
theorem dL_law_284 : decode cL_law 284 = .ok (.aload_n 1, 1) := by decide +kernel
theorem dL_law_285 : decode cL_law 285 = .ok (.aload_n 0, 1) := by decide +kernel
theorem dL_law_286 : decode cL_law 286 = .ok (.iload 5, 2) := by decide +kernel
theorem dL_law_288 : decode cL_law 288 = .ok (.iconst 1, 1) := by decide +kernel
theorem dL_law_289 : decode cL_law 289 = .ok (.iadd, 1) := by decide +kernel
theorem dL_law_290 : decode cL_law 290 = .ok (.iaload, 1) := by decide +kernel
theorem dL_law_291 : decode cL_law 291 = .ok (.aload_n 3, 1) := by decide +kernel
theorem dL_law_292 : decode cL_law 292 = .ok (.invokestatic 148, 3) := by decide +kernel
theorem dL_law_295 : decode cL_law 295 = .ok (.istore 6, 2) := by decide +kernel
theorem dL_law_297 : decode cL_law 297 = .ok (.aload_n 2, 1) := by decide +kernel
theorem dL_law_298 : decode cL_law 298 = .ok (.aload_n 0, 1) := by decide +kernel
theorem dL_law_299 : decode cL_law 299 = .ok (.iload 5, 2) := by decide +kernel
theorem dL_law_301 : decode cL_law 301 = .ok (.iconst 1, 1) := by decide +kernel
theorem dL_law_302 : decode cL_law 302 = .ok (.iadd, 1) := by decide +kernel
theorem dL_law_303 : decode cL_law 303 = .ok (.iaload, 1) := by decide +kernel
theorem dL_law_304 : decode cL_law 304 = .ok (.invokevirtual 151, 3) := by decide +kernel
theorem dL_law_307 : decode cL_law 307 = .ok (.istore 7, 2) := by decide +kernel
theorem dL_law_309 : decode cL_law 309 = .ok (.aload_n 2, 1) := by decide +kernel
theorem dL_law_310 : decode cL_law 310 = .ok (.invokevirtual 145, 3) := by decide +kernel
theorem dL_law_313 : decode cL_law 313 = .ok (.iload 6, 2) := by decide +kernel
theorem dL_law_315 : decode cL_law 315 = .ok (.if_icmp .eq 5, 3) := by decide +kernel
theorem dL_law_318 : decode cL_law 318 = .ok (.iconst 0, 1) := by decide +kernel
theorem dL_law_319 : decode cL_law 319 = .ok (.ireturn, 1) := by decide +kernel
theorem dL_law_320 : decode cL_law 320 = .ok (.iload 6, 2) := by decide +kernel
theorem dL_law_322 : decode cL_law 322 = .ok (.ifCond .ne 15, 3) := by decide +kernel
theorem dL_law_325 : decode cL_law 325 = .ok (.aload_n 3, 1) := by decide +kernel
theorem dL_law_326 : decode cL_law 326 = .ok (.iconst 0, 1) := by decide +kernel
theorem dL_law_327 : decode cL_law 327 = .ok (.laload, 1) := by decide +kernel
theorem dL_law_328 : decode cL_law 328 = .ok (.iload 7, 2) := by decide +kernel
theorem dL_law_330 : decode cL_law 330 = .ok (.i2l, 1) := by decide +kernel
theorem dL_law_331 : decode cL_law 331 = .ok (.lcmp, 1) := by decide +kernel
theorem dL_law_332 : decode cL_law 332 = .ok (.ifCond .eq 5, 3) := by decide +kernel
theorem dL_law_335 : decode cL_law 335 = .ok (.iconst 0, 1) := by decide +kernel
theorem dL_law_336 : decode cL_law 336 = .ok (.ireturn, 1) := by decide +kernel
theorem dL_law_337 : decode cL_law 337 = .ok (.goto 1873, 3) := by decide +kernel
theorem dL_law_340 : decode cL_law 340 = .ok (.aload_n 1, 1) := by decide +kernel
theorem dL_law_341 : decode cL_law 341 = .ok (.aload_n 0, 1) := by decide +kernel
theorem dL_law_342 : decode cL_law 342 = .ok (.iload 5, 2) := by decide +kernel
theorem dL_law_344 : decode cL_law 344 = .ok (.iconst 1, 1) := by decide +kernel
theorem dL_law_345 : decode cL_law 345 = .ok (.iadd, 1) := by decide +kernel
theorem dL_law_346 : decode cL_law 346 = .ok (.iaload, 1) := by decide +kernel
theorem dL_law_347 : decode cL_law 347 = .ok (.aload_n 3, 1) := by decide +kernel
theorem dL_law_348 : decode cL_law 348 = .ok (.invokestatic 152, 3) := by decide +kernel
theorem dL_law_351 : decode cL_law 351 = .ok (.istore 6, 2) := by decide +kernel
theorem dL_law_353 : decode cL_law 353 = .ok (.aload_n 2, 1) := by decide +kernel
theorem dL_law_354 : decode cL_law 354 = .ok (.aload_n 0, 1) := by decide +kernel
theorem dL_law_355 : decode cL_law 355 = .ok (.iload 5, 2) := by decide +kernel
theorem dL_law_357 : decode cL_law 357 = .ok (.iconst 1, 1) := by decide +kernel
theorem dL_law_358 : decode cL_law 358 = .ok (.iadd, 1) := by decide +kernel
theorem dL_law_359 : decode cL_law 359 = .ok (.iaload, 1) := by decide +kernel
theorem dL_law_360 : decode cL_law 360 = .ok (.invokevirtual 154, 3) := by decide +kernel
theorem dL_law_363 : decode cL_law 363 = .ok (.istore 7, 2) := by decide +kernel
theorem dL_law_365 : decode cL_law 365 = .ok (.aload_n 2, 1) := by decide +kernel
theorem dL_law_366 : decode cL_law 366 = .ok (.invokevirtual 145, 3) := by decide +kernel
theorem dL_law_369 : decode cL_law 369 = .ok (.iload 6, 2) := by decide +kernel
theorem dL_law_371 : decode cL_law 371 = .ok (.if_icmp .eq 5, 3) := by decide +kernel
theorem dL_law_374 : decode cL_law 374 = .ok (.iconst 0, 1) := by decide +kernel
theorem dL_law_375 : decode cL_law 375 = .ok (.ireturn, 1) := by decide +kernel
theorem dL_law_376 : decode cL_law 376 = .ok (.iload 6, 2) := by decide +kernel
theorem dL_law_378 : decode cL_law 378 = .ok (.ifCond .ne 15, 3) := by decide +kernel
theorem dL_law_381 : decode cL_law 381 = .ok (.aload_n 3, 1) := by decide +kernel
theorem dL_law_382 : decode cL_law 382 = .ok (.iconst 0, 1) := by decide +kernel
theorem dL_law_383 : decode cL_law 383 = .ok (.laload, 1) := by decide +kernel
theorem dL_law_384 : decode cL_law 384 = .ok (.iload 7, 2) := by decide +kernel
theorem dL_law_386 : decode cL_law 386 = .ok (.i2l, 1) := by decide +kernel
theorem dL_law_387 : decode cL_law 387 = .ok (.lcmp, 1) := by decide +kernel
theorem dL_law_388 : decode cL_law 388 = .ok (.ifCond .eq 5, 3) := by decide +kernel
theorem dL_law_391 : decode cL_law 391 = .ok (.iconst 0, 1) := by decide +kernel
theorem dL_law_392 : decode cL_law 392 = .ok (.ireturn, 1) := by decide +kernel
theorem dL_law_393 : decode cL_law 393 = .ok (.goto 1817, 3) := by decide +kernel
theorem dL_law_396 : decode cL_law 396 = .ok (.aload_n 1, 1) := by decide +kernel
theorem dL_law_397 : decode cL_law 397 = .ok (.aload_n 0, 1) := by decide +kernel
theorem dL_law_398 : decode cL_law 398 = .ok (.iload 5, 2) := by decide +kernel
theorem dL_law_400 : decode cL_law 400 = .ok (.iconst 1, 1) := by decide +kernel
theorem dL_law_401 : decode cL_law 401 = .ok (.iadd, 1) := by decide +kernel
theorem dL_law_402 : decode cL_law 402 = .ok (.iaload, 1) := by decide +kernel
theorem dL_law_403 : decode cL_law 403 = .ok (.aload_n 0, 1) := by decide +kernel
theorem dL_law_404 : decode cL_law 404 = .ok (.iload 5, 2) := by decide +kernel
theorem dL_law_406 : decode cL_law 406 = .ok (.iconst 2, 1) := by decide +kernel
theorem dL_law_407 : decode cL_law 407 = .ok (.iadd, 1) := by decide +kernel
theorem dL_law_408 : decode cL_law 408 = .ok (.iaload, 1) := by decide +kernel
theorem dL_law_409 : decode cL_law 409 = .ok (.invokestatic 155, 3) := by decide +kernel
theorem dL_law_412 : decode cL_law 412 = .ok (.istore 6, 2) := by decide +kernel
theorem dL_law_414 : decode cL_law 414 = .ok (.aload_n 2, 1) := by decide +kernel
theorem dL_law_415 : decode cL_law 415 = .ok (.aload_n 0, 1) := by decide +kernel
theorem dL_law_416 : decode cL_law 416 = .ok (.iload 5, 2) := by decide +kernel
theorem dL_law_418 : decode cL_law 418 = .ok (.iconst 1, 1) := by decide +kernel
theorem dL_law_419 : decode cL_law 419 = .ok (.iadd, 1) := by decide +kernel
theorem dL_law_420 : decode cL_law 420 = .ok (.iaload, 1) := by decide +kernel
theorem dL_law_421 : decode cL_law 421 = .ok (.aload_n 0, 1) := by decide +kernel
theorem dL_law_422 : decode cL_law 422 = .ok (.iload 5, 2) := by decide +kernel
theorem dL_law_424 : decode cL_law 424 = .ok (.iconst 2, 1) := by decide +kernel
theorem dL_law_425 : decode cL_law 425 = .ok (.iadd, 1) := by decide +kernel
theorem dL_law_426 : decode cL_law 426 = .ok (.iaload, 1) := by decide +kernel
theorem dL_law_427 : decode cL_law 427 = .ok (.invokevirtual 158, 3) := by decide +kernel
theorem dL_law_430 : decode cL_law 430 = .ok (.aload_n 2, 1) := by decide +kernel
theorem dL_law_431 : decode cL_law 431 = .ok (.invokevirtual 145, 3) := by decide +kernel
theorem dL_law_434 : decode cL_law 434 = .ok (.iload 6, 2) := by decide +kernel
theorem dL_law_436 : decode cL_law 436 = .ok (.if_icmp .eq 5, 3) := by decide +kernel
theorem dL_law_439 : decode cL_law 439 = .ok (.iconst 0, 1) := by decide +kernel
theorem dL_law_440 : decode cL_law 440 = .ok (.ireturn, 1) := by decide +kernel
theorem dL_law_441 : decode cL_law 441 = .ok (.goto 1769, 3) := by decide +kernel
theorem dL_law_444 : decode cL_law 444 = .ok (.aload_n 1, 1) := by decide +kernel
theorem dL_law_445 : decode cL_law 445 = .ok (.aload_n 0, 1) := by decide +kernel
theorem dL_law_446 : decode cL_law 446 = .ok (.iload 5, 2) := by decide +kernel
theorem dL_law_448 : decode cL_law 448 = .ok (.iconst 1, 1) := by decide +kernel
theorem dL_law_449 : decode cL_law 449 = .ok (.iadd, 1) := by decide +kernel
theorem dL_law_450 : decode cL_law 450 = .ok (.iaload, 1) := by decide +kernel
theorem dL_law_451 : decode cL_law 451 = .ok (.ifCond .eq 7, 3) := by decide +kernel
theorem dL_law_454 : decode cL_law 454 = .ok (.iconst 1, 1) := by decide +kernel
theorem dL_law_455 : decode cL_law 455 = .ok (.goto 4, 3) := by decide +kernel
theorem dL_law_458 : decode cL_law 458 = .ok (.iconst 0, 1) := by decide +kernel
theorem dL_law_459 : decode cL_law 459 = .ok (.aload_n 3, 1) := by decide +kernel
theorem dL_law_460 : decode cL_law 460 = .ok (.invokestatic 159, 3) := by decide +kernel
theorem dL_law_463 : decode cL_law 463 = .ok (.istore 6, 2) := by decide +kernel
theorem dL_law_465 : decode cL_law 465 = .ok (.aload_n 2, 1) := by decide +kernel
theorem dL_law_466 : decode cL_law 466 = .ok (.aload_n 0, 1) := by decide +kernel
theorem dL_law_467 : decode cL_law 467 = .ok (.iload 5, 2) := by decide +kernel
theorem dL_law_469 : decode cL_law 469 = .ok (.iconst 1, 1) := by decide +kernel
theorem dL_law_470 : decode cL_law 470 = .ok (.iadd, 1) := by decide +kernel
theorem dL_law_471 : decode cL_law 471 = .ok (.iaload, 1) := by decide +kernel
theorem dL_law_472 : decode cL_law 472 = .ok (.ifCond .eq 7, 3) := by decide +kernel
theorem dL_law_475 : decode cL_law 475 = .ok (.iconst 1, 1) := by decide +kernel
theorem dL_law_476 : decode cL_law 476 = .ok (.goto 4, 3) := by decide +kernel
theorem dL_law_479 : decode cL_law 479 = .ok (.iconst 0, 1) := by decide +kernel
theorem dL_law_480 : decode cL_law 480 = .ok (.invokevirtual 162, 3) := by decide +kernel
theorem dL_law_483 : decode cL_law 483 = .ok (.istore 7, 2) := by decide +kernel
theorem dL_law_485 : decode cL_law 485 = .ok (.aload_n 2, 1) := by decide +kernel
theorem dL_law_486 : decode cL_law 486 = .ok (.invokevirtual 145, 3) := by decide +kernel
theorem dL_law_489 : decode cL_law 489 = .ok (.iload 6, 2) := by decide +kernel
theorem dL_law_491 : decode cL_law 491 = .ok (.if_icmp .eq 5, 3) := by decide +kernel
theorem dL_law_494 : decode cL_law 494 = .ok (.iconst 0, 1) := by decide +kernel
theorem dL_law_495 : decode cL_law 495 = .ok (.ireturn, 1) := by decide +kernel
theorem dL_law_496 : decode cL_law 496 = .ok (.iload 6, 2) := by decide +kernel
theorem dL_law_498 : decode cL_law 498 = .ok (.ifCond .ne 22, 3) := by decide +kernel
theorem dL_law_501 : decode cL_law 501 = .ok (.aload_n 3, 1) := by decide +kernel
theorem dL_law_502 : decode cL_law 502 = .ok (.iconst 0, 1) := by decide +kernel
theorem dL_law_503 : decode cL_law 503 = .ok (.laload, 1) := by decide +kernel
theorem dL_law_504 : decode cL_law 504 = .ok (.iload 7, 2) := by decide +kernel
theorem dL_law_506 : decode cL_law 506 = .ok (.ifCond .eq 7, 3) := by decide +kernel
theorem dL_law_509 : decode cL_law 509 = .ok (.lconst 1, 1) := by decide +kernel
theorem dL_law_510 : decode cL_law 510 = .ok (.goto 4, 3) := by decide +kernel
theorem dL_law_513 : decode cL_law 513 = .ok (.lconst 0, 1) := by decide +kernel
theorem dL_law_514 : decode cL_law 514 = .ok (.lcmp, 1) := by decide +kernel
theorem dL_law_515 : decode cL_law 515 = .ok (.ifCond .eq 5, 3) := by decide +kernel
theorem dL_law_518 : decode cL_law 518 = .ok (.iconst 0, 1) := by decide +kernel
theorem dL_law_519 : decode cL_law 519 = .ok (.ireturn, 1) := by decide +kernel
theorem dL_law_520 : decode cL_law 520 = .ok (.goto 1690, 3) := by decide +kernel
theorem dL_law_523 : decode cL_law 523 = .ok (.aload_n 1, 1) := by decide +kernel
theorem dL_law_524 : decode cL_law 524 = .ok (.aload_n 0, 1) := by decide +kernel
theorem dL_law_525 : decode cL_law 525 = .ok (.iload 5, 2) := by decide +kernel
theorem dL_law_527 : decode cL_law 527 = .ok (.iconst 1, 1) := by decide +kernel
theorem dL_law_528 : decode cL_law 528 = .ok (.iadd, 1) := by decide +kernel
theorem dL_law_529 : decode cL_law 529 = .ok (.iaload, 1) := by decide +kernel
theorem dL_law_530 : decode cL_law 530 = .ok (.aload_n 0, 1) := by decide +kernel
theorem dL_law_531 : decode cL_law 531 = .ok (.iload 5, 2) := by decide +kernel
theorem dL_law_533 : decode cL_law 533 = .ok (.iconst 2, 1) := by decide +kernel
theorem dL_law_534 : decode cL_law 534 = .ok (.iadd, 1) := by decide +kernel
theorem dL_law_535 : decode cL_law 535 = .ok (.iaload, 1) := by decide +kernel
theorem dL_law_536 : decode cL_law 536 = .ok (.aload_n 3, 1) := by decide +kernel
theorem dL_law_537 : decode cL_law 537 = .ok (.invokestatic 163, 3) := by decide +kernel
theorem dL_law_540 : decode cL_law 540 = .ok (.istore 6, 2) := by decide +kernel
theorem dL_law_542 : decode cL_law 542 = .ok (.aload_n 2, 1) := by decide +kernel
theorem dL_law_543 : decode cL_law 543 = .ok (.aload_n 0, 1) := by decide +kernel
theorem dL_law_544 : decode cL_law 544 = .ok (.iload 5, 2) := by decide +kernel
theorem dL_law_546 : decode cL_law 546 = .ok (.iconst 1, 1) := by decide +kernel
theorem dL_law_547 : decode cL_law 547 = .ok (.iadd, 1) := by decide +kernel
theorem dL_law_548 : decode cL_law 548 = .ok (.iaload, 1) := by decide +kernel
theorem dL_law_549 : decode cL_law 549 = .ok (.aload_n 0, 1) := by decide +kernel
theorem dL_law_550 : decode cL_law 550 = .ok (.iload 5, 2) := by decide +kernel
theorem dL_law_552 : decode cL_law 552 = .ok (.iconst 2, 1) := by decide +kernel
theorem dL_law_553 : decode cL_law 553 = .ok (.iadd, 1) := by decide +kernel
theorem dL_law_554 : decode cL_law 554 = .ok (.iaload, 1) := by decide +kernel
theorem dL_law_555 : decode cL_law 555 = .ok (.invokevirtual 166, 3) := by decide +kernel
theorem dL_law_558 : decode cL_law 558 = .ok (.istore 7, 2) := by decide +kernel
theorem dL_law_560 : decode cL_law 560 = .ok (.aload_n 2, 1) := by decide +kernel
theorem dL_law_561 : decode cL_law 561 = .ok (.invokevirtual 145, 3) := by decide +kernel
theorem dL_law_564 : decode cL_law 564 = .ok (.iload 6, 2) := by decide +kernel
theorem dL_law_566 : decode cL_law 566 = .ok (.if_icmp .eq 5, 3) := by decide +kernel
theorem dL_law_569 : decode cL_law 569 = .ok (.iconst 0, 1) := by decide +kernel
theorem dL_law_570 : decode cL_law 570 = .ok (.ireturn, 1) := by decide +kernel
theorem dL_law_571 : decode cL_law 571 = .ok (.iload 6, 2) := by decide +kernel
theorem dL_law_573 : decode cL_law 573 = .ok (.ifCond .ne 15, 3) := by decide +kernel
theorem dL_law_576 : decode cL_law 576 = .ok (.aload_n 3, 1) := by decide +kernel
theorem dL_law_577 : decode cL_law 577 = .ok (.iconst 0, 1) := by decide +kernel
theorem dL_law_578 : decode cL_law 578 = .ok (.laload, 1) := by decide +kernel
theorem dL_law_579 : decode cL_law 579 = .ok (.iload 7, 2) := by decide +kernel
theorem dL_law_581 : decode cL_law 581 = .ok (.i2l, 1) := by decide +kernel
theorem dL_law_582 : decode cL_law 582 = .ok (.lcmp, 1) := by decide +kernel
theorem dL_law_583 : decode cL_law 583 = .ok (.ifCond .eq 5, 3) := by decide +kernel
theorem dL_law_586 : decode cL_law 586 = .ok (.iconst 0, 1) := by decide +kernel
theorem dL_law_587 : decode cL_law 587 = .ok (.ireturn, 1) := by decide +kernel
theorem dL_law_588 : decode cL_law 588 = .ok (.goto 1622, 3) := by decide +kernel
theorem dL_law_591 : decode cL_law 591 = .ok (.aload_n 1, 1) := by decide +kernel
theorem dL_law_592 : decode cL_law 592 = .ok (.aload_n 0, 1) := by decide +kernel
theorem dL_law_593 : decode cL_law 593 = .ok (.iload 5, 2) := by decide +kernel
theorem dL_law_595 : decode cL_law 595 = .ok (.iconst 1, 1) := by decide +kernel
theorem dL_law_596 : decode cL_law 596 = .ok (.iadd, 1) := by decide +kernel
theorem dL_law_597 : decode cL_law 597 = .ok (.iaload, 1) := by decide +kernel
theorem dL_law_598 : decode cL_law 598 = .ok (.aload_n 3, 1) := by decide +kernel
theorem dL_law_599 : decode cL_law 599 = .ok (.invokestatic 167, 3) := by decide +kernel
theorem dL_law_602 : decode cL_law 602 = .ok (.istore 6, 2) := by decide +kernel
theorem dL_law_604 : decode cL_law 604 = .ok (.aload_n 2, 1) := by decide +kernel
theorem dL_law_605 : decode cL_law 605 = .ok (.aload_n 0, 1) := by decide +kernel
theorem dL_law_606 : decode cL_law 606 = .ok (.iload 5, 2) := by decide +kernel
theorem dL_law_608 : decode cL_law 608 = .ok (.iconst 1, 1) := by decide +kernel
theorem dL_law_609 : decode cL_law 609 = .ok (.iadd, 1) := by decide +kernel
theorem dL_law_610 : decode cL_law 610 = .ok (.iaload, 1) := by decide +kernel
theorem dL_law_611 : decode cL_law 611 = .ok (.invokevirtual 169, 3) := by decide +kernel
theorem dL_law_614 : decode cL_law 614 = .ok (.istore 7, 2) := by decide +kernel
theorem dL_law_616 : decode cL_law 616 = .ok (.aload_n 2, 1) := by decide +kernel
theorem dL_law_617 : decode cL_law 617 = .ok (.invokevirtual 145, 3) := by decide +kernel
theorem dL_law_620 : decode cL_law 620 = .ok (.iload 6, 2) := by decide +kernel
theorem dL_law_622 : decode cL_law 622 = .ok (.if_icmp .eq 5, 3) := by decide +kernel
theorem dL_law_625 : decode cL_law 625 = .ok (.iconst 0, 1) := by decide +kernel
theorem dL_law_626 : decode cL_law 626 = .ok (.ireturn, 1) := by decide +kernel
theorem dL_law_627 : decode cL_law 627 = .ok (.iload 6, 2) := by decide +kernel
theorem dL_law_629 : decode cL_law 629 = .ok (.ifCond .ne 15, 3) := by decide +kernel
theorem dL_law_632 : decode cL_law 632 = .ok (.aload_n 3, 1) := by decide +kernel
theorem dL_law_633 : decode cL_law 633 = .ok (.iconst 0, 1) := by decide +kernel
theorem dL_law_634 : decode cL_law 634 = .ok (.laload, 1) := by decide +kernel
theorem dL_law_635 : decode cL_law 635 = .ok (.iload 7, 2) := by decide +kernel
theorem dL_law_637 : decode cL_law 637 = .ok (.i2l, 1) := by decide +kernel
theorem dL_law_638 : decode cL_law 638 = .ok (.lcmp, 1) := by decide +kernel
theorem dL_law_639 : decode cL_law 639 = .ok (.ifCond .eq 5, 3) := by decide +kernel
theorem dL_law_642 : decode cL_law 642 = .ok (.iconst 0, 1) := by decide +kernel
theorem dL_law_643 : decode cL_law 643 = .ok (.ireturn, 1) := by decide +kernel
theorem dL_law_644 : decode cL_law 644 = .ok (.goto 1566, 3) := by decide +kernel
theorem dL_law_647 : decode cL_law 647 = .ok (.aload_n 1, 1) := by decide +kernel
theorem dL_law_648 : decode cL_law 648 = .ok (.aload_n 0, 1) := by decide +kernel
theorem dL_law_649 : decode cL_law 649 = .ok (.iload 5, 2) := by decide +kernel
theorem dL_law_651 : decode cL_law 651 = .ok (.iconst 1, 1) := by decide +kernel
theorem dL_law_652 : decode cL_law 652 = .ok (.iadd, 1) := by decide +kernel
theorem dL_law_653 : decode cL_law 653 = .ok (.iaload, 1) := by decide +kernel
theorem dL_law_654 : decode cL_law 654 = .ok (.aload_n 3, 1) := by decide +kernel
theorem dL_law_655 : decode cL_law 655 = .ok (.invokestatic 170, 3) := by decide +kernel
theorem dL_law_658 : decode cL_law 658 = .ok (.istore 6, 2) := by decide +kernel
theorem dL_law_660 : decode cL_law 660 = .ok (.aload_n 2, 1) := by decide +kernel
theorem dL_law_661 : decode cL_law 661 = .ok (.aload_n 0, 1) := by decide +kernel
theorem dL_law_662 : decode cL_law 662 = .ok (.iload 5, 2) := by decide +kernel
theorem dL_law_664 : decode cL_law 664 = .ok (.iconst 1, 1) := by decide +kernel
theorem dL_law_665 : decode cL_law 665 = .ok (.iadd, 1) := by decide +kernel
theorem dL_law_666 : decode cL_law 666 = .ok (.iaload, 1) := by decide +kernel
theorem dL_law_667 : decode cL_law 667 = .ok (.invokevirtual 172, 3) := by decide +kernel
theorem dL_law_670 : decode cL_law 670 = .ok (.istore 7, 2) := by decide +kernel
theorem dL_law_672 : decode cL_law 672 = .ok (.aload_n 2, 1) := by decide +kernel
theorem dL_law_673 : decode cL_law 673 = .ok (.invokevirtual 145, 3) := by decide +kernel
theorem dL_law_676 : decode cL_law 676 = .ok (.iload 6, 2) := by decide +kernel
theorem dL_law_678 : decode cL_law 678 = .ok (.if_icmp .eq 5, 3) := by decide +kernel
theorem dL_law_681 : decode cL_law 681 = .ok (.iconst 0, 1) := by decide +kernel
theorem dL_law_682 : decode cL_law 682 = .ok (.ireturn, 1) := by decide +kernel
theorem dL_law_683 : decode cL_law 683 = .ok (.iload 6, 2) := by decide +kernel
theorem dL_law_685 : decode cL_law 685 = .ok (.ifCond .ne 15, 3) := by decide +kernel
theorem dL_law_688 : decode cL_law 688 = .ok (.aload_n 3, 1) := by decide +kernel
theorem dL_law_689 : decode cL_law 689 = .ok (.iconst 0, 1) := by decide +kernel
theorem dL_law_690 : decode cL_law 690 = .ok (.laload, 1) := by decide +kernel
theorem dL_law_691 : decode cL_law 691 = .ok (.iload 7, 2) := by decide +kernel
theorem dL_law_693 : decode cL_law 693 = .ok (.i2l, 1) := by decide +kernel
theorem dL_law_694 : decode cL_law 694 = .ok (.lcmp, 1) := by decide +kernel
theorem dL_law_695 : decode cL_law 695 = .ok (.ifCond .eq 5, 3) := by decide +kernel
theorem dL_law_698 : decode cL_law 698 = .ok (.iconst 0, 1) := by decide +kernel
theorem dL_law_699 : decode cL_law 699 = .ok (.ireturn, 1) := by decide +kernel
theorem dL_law_700 : decode cL_law 700 = .ok (.goto 1510, 3) := by decide +kernel
theorem dL_law_703 : decode cL_law 703 = .ok (.aload_n 1, 1) := by decide +kernel
theorem dL_law_704 : decode cL_law 704 = .ok (.aload_n 0, 1) := by decide +kernel
theorem dL_law_705 : decode cL_law 705 = .ok (.iload 5, 2) := by decide +kernel
theorem dL_law_707 : decode cL_law 707 = .ok (.iconst 1, 1) := by decide +kernel
theorem dL_law_708 : decode cL_law 708 = .ok (.iadd, 1) := by decide +kernel
theorem dL_law_709 : decode cL_law 709 = .ok (.iaload, 1) := by decide +kernel
theorem dL_law_710 : decode cL_law 710 = .ok (.aload_n 3, 1) := by decide +kernel
theorem dL_law_711 : decode cL_law 711 = .ok (.invokestatic 173, 3) := by decide +kernel
theorem dL_law_714 : decode cL_law 714 = .ok (.istore 6, 2) := by decide +kernel
theorem dL_law_716 : decode cL_law 716 = .ok (.aload_n 2, 1) := by decide +kernel
theorem dL_law_717 : decode cL_law 717 = .ok (.aload_n 0, 1) := by decide +kernel
theorem dL_law_718 : decode cL_law 718 = .ok (.iload 5, 2) := by decide +kernel
theorem dL_law_720 : decode cL_law 720 = .ok (.iconst 1, 1) := by decide +kernel
theorem dL_law_721 : decode cL_law 721 = .ok (.iadd, 1) := by decide +kernel
theorem dL_law_722 : decode cL_law 722 = .ok (.iaload, 1) := by decide +kernel
theorem dL_law_723 : decode cL_law 723 = .ok (.invokevirtual 175, 3) := by decide +kernel
theorem dL_law_726 : decode cL_law 726 = .ok (.istore 7, 2) := by decide +kernel
theorem dL_law_728 : decode cL_law 728 = .ok (.aload_n 2, 1) := by decide +kernel
theorem dL_law_729 : decode cL_law 729 = .ok (.invokevirtual 145, 3) := by decide +kernel
theorem dL_law_732 : decode cL_law 732 = .ok (.iload 6, 2) := by decide +kernel
theorem dL_law_734 : decode cL_law 734 = .ok (.if_icmp .eq 5, 3) := by decide +kernel
theorem dL_law_737 : decode cL_law 737 = .ok (.iconst 0, 1) := by decide +kernel
theorem dL_law_738 : decode cL_law 738 = .ok (.ireturn, 1) := by decide +kernel
theorem dL_law_739 : decode cL_law 739 = .ok (.iload 6, 2) := by decide +kernel
theorem dL_law_741 : decode cL_law 741 = .ok (.ifCond .ne 15, 3) := by decide +kernel
theorem dL_law_744 : decode cL_law 744 = .ok (.aload_n 3, 1) := by decide +kernel
theorem dL_law_745 : decode cL_law 745 = .ok (.iconst 0, 1) := by decide +kernel
theorem dL_law_746 : decode cL_law 746 = .ok (.laload, 1) := by decide +kernel
theorem dL_law_747 : decode cL_law 747 = .ok (.iload 7, 2) := by decide +kernel
theorem dL_law_749 : decode cL_law 749 = .ok (.i2l, 1) := by decide +kernel
theorem dL_law_750 : decode cL_law 750 = .ok (.lcmp, 1) := by decide +kernel
theorem dL_law_751 : decode cL_law 751 = .ok (.ifCond .eq 5, 3) := by decide +kernel
theorem dL_law_754 : decode cL_law 754 = .ok (.iconst 0, 1) := by decide +kernel
theorem dL_law_755 : decode cL_law 755 = .ok (.ireturn, 1) := by decide +kernel
theorem dL_law_756 : decode cL_law 756 = .ok (.goto 1454, 3) := by decide +kernel
theorem dL_law_759 : decode cL_law 759 = .ok (.aload_n 1, 1) := by decide +kernel
theorem dL_law_760 : decode cL_law 760 = .ok (.aload_n 0, 1) := by decide +kernel
theorem dL_law_761 : decode cL_law 761 = .ok (.iload 5, 2) := by decide +kernel
theorem dL_law_763 : decode cL_law 763 = .ok (.iconst 1, 1) := by decide +kernel
theorem dL_law_764 : decode cL_law 764 = .ok (.iadd, 1) := by decide +kernel
theorem dL_law_765 : decode cL_law 765 = .ok (.iaload, 1) := by decide +kernel
theorem dL_law_766 : decode cL_law 766 = .ok (.aload_n 3, 1) := by decide +kernel
theorem dL_law_767 : decode cL_law 767 = .ok (.invokestatic 176, 3) := by decide +kernel
theorem dL_law_770 : decode cL_law 770 = .ok (.istore 6, 2) := by decide +kernel
theorem dL_law_772 : decode cL_law 772 = .ok (.aload_n 2, 1) := by decide +kernel
theorem dL_law_773 : decode cL_law 773 = .ok (.aload_n 0, 1) := by decide +kernel
theorem dL_law_774 : decode cL_law 774 = .ok (.iload 5, 2) := by decide +kernel
theorem dL_law_776 : decode cL_law 776 = .ok (.iconst 1, 1) := by decide +kernel
theorem dL_law_777 : decode cL_law 777 = .ok (.iadd, 1) := by decide +kernel
theorem dL_law_778 : decode cL_law 778 = .ok (.iaload, 1) := by decide +kernel
theorem dL_law_779 : decode cL_law 779 = .ok (.invokevirtual 178, 3) := by decide +kernel
theorem dL_law_782 : decode cL_law 782 = .ok (.istore 7, 2) := by decide +kernel
theorem dL_law_784 : decode cL_law 784 = .ok (.aload_n 2, 1) := by decide +kernel
theorem dL_law_785 : decode cL_law 785 = .ok (.invokevirtual 145, 3) := by decide +kernel
theorem dL_law_788 : decode cL_law 788 = .ok (.iload 6, 2) := by decide +kernel
theorem dL_law_790 : decode cL_law 790 = .ok (.if_icmp .eq 5, 3) := by decide +kernel
theorem dL_law_793 : decode cL_law 793 = .ok (.iconst 0, 1) := by decide +kernel
theorem dL_law_794 : decode cL_law 794 = .ok (.ireturn, 1) := by decide +kernel
theorem dL_law_795 : decode cL_law 795 = .ok (.iload 6, 2) := by decide +kernel
theorem dL_law_797 : decode cL_law 797 = .ok (.ifCond .ne 15, 3) := by decide +kernel
theorem dL_law_800 : decode cL_law 800 = .ok (.aload_n 3, 1) := by decide +kernel
theorem dL_law_801 : decode cL_law 801 = .ok (.iconst 0, 1) := by decide +kernel
theorem dL_law_802 : decode cL_law 802 = .ok (.laload, 1) := by decide +kernel
theorem dL_law_803 : decode cL_law 803 = .ok (.iload 7, 2) := by decide +kernel
theorem dL_law_805 : decode cL_law 805 = .ok (.i2l, 1) := by decide +kernel
theorem dL_law_806 : decode cL_law 806 = .ok (.lcmp, 1) := by decide +kernel
theorem dL_law_807 : decode cL_law 807 = .ok (.ifCond .eq 5, 3) := by decide +kernel
theorem dL_law_810 : decode cL_law 810 = .ok (.iconst 0, 1) := by decide +kernel
theorem dL_law_811 : decode cL_law 811 = .ok (.ireturn, 1) := by decide +kernel
theorem dL_law_812 : decode cL_law 812 = .ok (.goto 1398, 3) := by decide +kernel
theorem dL_law_815 : decode cL_law 815 = .ok (.aload_n 1, 1) := by decide +kernel
theorem dL_law_816 : decode cL_law 816 = .ok (.aload_n 0, 1) := by decide +kernel
theorem dL_law_817 : decode cL_law 817 = .ok (.iload 5, 2) := by decide +kernel
theorem dL_law_819 : decode cL_law 819 = .ok (.iconst 1, 1) := by decide +kernel
theorem dL_law_820 : decode cL_law 820 = .ok (.iadd, 1) := by decide +kernel
theorem dL_law_821 : decode cL_law 821 = .ok (.iaload, 1) := by decide +kernel
theorem dL_law_822 : decode cL_law 822 = .ok (.aload_n 3, 1) := by decide +kernel
theorem dL_law_823 : decode cL_law 823 = .ok (.invokestatic 179, 3) := by decide +kernel
theorem dL_law_826 : decode cL_law 826 = .ok (.istore 6, 2) := by decide +kernel
theorem dL_law_828 : decode cL_law 828 = .ok (.aload_n 2, 1) := by decide +kernel
theorem dL_law_829 : decode cL_law 829 = .ok (.aload_n 0, 1) := by decide +kernel
theorem dL_law_830 : decode cL_law 830 = .ok (.iload 5, 2) := by decide +kernel
theorem dL_law_832 : decode cL_law 832 = .ok (.iconst 1, 1) := by decide +kernel
theorem dL_law_833 : decode cL_law 833 = .ok (.iadd, 1) := by decide +kernel
theorem dL_law_834 : decode cL_law 834 = .ok (.iaload, 1) := by decide +kernel
theorem dL_law_835 : decode cL_law 835 = .ok (.invokevirtual 181, 3) := by decide +kernel
theorem dL_law_838 : decode cL_law 838 = .ok (.istore 7, 2) := by decide +kernel
theorem dL_law_840 : decode cL_law 840 = .ok (.aload_n 2, 1) := by decide +kernel
theorem dL_law_841 : decode cL_law 841 = .ok (.invokevirtual 145, 3) := by decide +kernel
theorem dL_law_844 : decode cL_law 844 = .ok (.iload 6, 2) := by decide +kernel
theorem dL_law_846 : decode cL_law 846 = .ok (.if_icmp .eq 5, 3) := by decide +kernel
theorem dL_law_849 : decode cL_law 849 = .ok (.iconst 0, 1) := by decide +kernel
theorem dL_law_850 : decode cL_law 850 = .ok (.ireturn, 1) := by decide +kernel
theorem dL_law_851 : decode cL_law 851 = .ok (.iload 6, 2) := by decide +kernel
theorem dL_law_853 : decode cL_law 853 = .ok (.ifCond .ne 15, 3) := by decide +kernel
theorem dL_law_856 : decode cL_law 856 = .ok (.aload_n 3, 1) := by decide +kernel
theorem dL_law_857 : decode cL_law 857 = .ok (.iconst 0, 1) := by decide +kernel
theorem dL_law_858 : decode cL_law 858 = .ok (.laload, 1) := by decide +kernel
theorem dL_law_859 : decode cL_law 859 = .ok (.iload 7, 2) := by decide +kernel
theorem dL_law_861 : decode cL_law 861 = .ok (.i2l, 1) := by decide +kernel
theorem dL_law_862 : decode cL_law 862 = .ok (.lcmp, 1) := by decide +kernel
theorem dL_law_863 : decode cL_law 863 = .ok (.ifCond .eq 5, 3) := by decide +kernel
theorem dL_law_866 : decode cL_law 866 = .ok (.iconst 0, 1) := by decide +kernel
theorem dL_law_867 : decode cL_law 867 = .ok (.ireturn, 1) := by decide +kernel
theorem dL_law_868 : decode cL_law 868 = .ok (.goto 1342, 3) := by decide +kernel
theorem dL_law_871 : decode cL_law 871 = .ok (.aload_n 1, 1) := by decide +kernel
theorem dL_law_872 : decode cL_law 872 = .ok (.aload_n 0, 1) := by decide +kernel
theorem dL_law_873 : decode cL_law 873 = .ok (.iload 5, 2) := by decide +kernel
theorem dL_law_875 : decode cL_law 875 = .ok (.iconst 1, 1) := by decide +kernel
theorem dL_law_876 : decode cL_law 876 = .ok (.iadd, 1) := by decide +kernel
theorem dL_law_877 : decode cL_law 877 = .ok (.iaload, 1) := by decide +kernel
theorem dL_law_878 : decode cL_law 878 = .ok (.aload_n 3, 1) := by decide +kernel
theorem dL_law_879 : decode cL_law 879 = .ok (.invokestatic 182, 3) := by decide +kernel
theorem dL_law_882 : decode cL_law 882 = .ok (.istore 6, 2) := by decide +kernel
theorem dL_law_884 : decode cL_law 884 = .ok (.aload_n 2, 1) := by decide +kernel
theorem dL_law_885 : decode cL_law 885 = .ok (.aload_n 0, 1) := by decide +kernel
theorem dL_law_886 : decode cL_law 886 = .ok (.iload 5, 2) := by decide +kernel
theorem dL_law_888 : decode cL_law 888 = .ok (.iconst 1, 1) := by decide +kernel
theorem dL_law_889 : decode cL_law 889 = .ok (.iadd, 1) := by decide +kernel
theorem dL_law_890 : decode cL_law 890 = .ok (.iaload, 1) := by decide +kernel
theorem dL_law_891 : decode cL_law 891 = .ok (.invokevirtual 184, 3) := by decide +kernel
theorem dL_law_894 : decode cL_law 894 = .ok (.istore 7, 2) := by decide +kernel
theorem dL_law_896 : decode cL_law 896 = .ok (.aload_n 2, 1) := by decide +kernel
theorem dL_law_897 : decode cL_law 897 = .ok (.invokevirtual 145, 3) := by decide +kernel
theorem dL_law_900 : decode cL_law 900 = .ok (.iload 6, 2) := by decide +kernel
theorem dL_law_902 : decode cL_law 902 = .ok (.if_icmp .eq 5, 3) := by decide +kernel
theorem dL_law_905 : decode cL_law 905 = .ok (.iconst 0, 1) := by decide +kernel
theorem dL_law_906 : decode cL_law 906 = .ok (.ireturn, 1) := by decide +kernel
theorem dL_law_907 : decode cL_law 907 = .ok (.iload 6, 2) := by decide +kernel
theorem dL_law_909 : decode cL_law 909 = .ok (.ifCond .ne 15, 3) := by decide +kernel
theorem dL_law_912 : decode cL_law 912 = .ok (.aload_n 3, 1) := by decide +kernel
theorem dL_law_913 : decode cL_law 913 = .ok (.iconst 0, 1) := by decide +kernel
theorem dL_law_914 : decode cL_law 914 = .ok (.laload, 1) := by decide +kernel
theorem dL_law_915 : decode cL_law 915 = .ok (.iload 7, 2) := by decide +kernel
theorem dL_law_917 : decode cL_law 917 = .ok (.i2l, 1) := by decide +kernel
theorem dL_law_918 : decode cL_law 918 = .ok (.lcmp, 1) := by decide +kernel
theorem dL_law_919 : decode cL_law 919 = .ok (.ifCond .eq 5, 3) := by decide +kernel
theorem dL_law_922 : decode cL_law 922 = .ok (.iconst 0, 1) := by decide +kernel
theorem dL_law_923 : decode cL_law 923 = .ok (.ireturn, 1) := by decide +kernel
theorem dL_law_924 : decode cL_law 924 = .ok (.goto 1286, 3) := by decide +kernel
theorem dL_law_927 : decode cL_law 927 = .ok (.aload_n 1, 1) := by decide +kernel
theorem dL_law_928 : decode cL_law 928 = .ok (.aload_n 0, 1) := by decide +kernel
theorem dL_law_929 : decode cL_law 929 = .ok (.iload 5, 2) := by decide +kernel
theorem dL_law_931 : decode cL_law 931 = .ok (.iconst 1, 1) := by decide +kernel
theorem dL_law_932 : decode cL_law 932 = .ok (.iadd, 1) := by decide +kernel
theorem dL_law_933 : decode cL_law 933 = .ok (.iaload, 1) := by decide +kernel
theorem dL_law_934 : decode cL_law 934 = .ok (.aload_n 3, 1) := by decide +kernel
theorem dL_law_935 : decode cL_law 935 = .ok (.invokestatic 185, 3) := by decide +kernel
theorem dL_law_938 : decode cL_law 938 = .ok (.istore 6, 2) := by decide +kernel
theorem dL_law_940 : decode cL_law 940 = .ok (.aload_n 2, 1) := by decide +kernel
theorem dL_law_941 : decode cL_law 941 = .ok (.aload_n 0, 1) := by decide +kernel
theorem dL_law_942 : decode cL_law 942 = .ok (.iload 5, 2) := by decide +kernel
theorem dL_law_944 : decode cL_law 944 = .ok (.iconst 1, 1) := by decide +kernel
theorem dL_law_945 : decode cL_law 945 = .ok (.iadd, 1) := by decide +kernel
theorem dL_law_946 : decode cL_law 946 = .ok (.iaload, 1) := by decide +kernel
theorem dL_law_947 : decode cL_law 947 = .ok (.invokevirtual 187, 3) := by decide +kernel
theorem dL_law_950 : decode cL_law 950 = .ok (.istore 7, 2) := by decide +kernel
theorem dL_law_952 : decode cL_law 952 = .ok (.aload_n 2, 1) := by decide +kernel
theorem dL_law_953 : decode cL_law 953 = .ok (.invokevirtual 145, 3) := by decide +kernel
theorem dL_law_956 : decode cL_law 956 = .ok (.iload 6, 2) := by decide +kernel
theorem dL_law_958 : decode cL_law 958 = .ok (.if_icmp .eq 5, 3) := by decide +kernel
theorem dL_law_961 : decode cL_law 961 = .ok (.iconst 0, 1) := by decide +kernel
theorem dL_law_962 : decode cL_law 962 = .ok (.ireturn, 1) := by decide +kernel
theorem dL_law_963 : decode cL_law 963 = .ok (.iload 6, 2) := by decide +kernel
theorem dL_law_965 : decode cL_law 965 = .ok (.ifCond .ne 15, 3) := by decide +kernel
theorem dL_law_968 : decode cL_law 968 = .ok (.aload_n 3, 1) := by decide +kernel
theorem dL_law_969 : decode cL_law 969 = .ok (.iconst 0, 1) := by decide +kernel
theorem dL_law_970 : decode cL_law 970 = .ok (.laload, 1) := by decide +kernel
theorem dL_law_971 : decode cL_law 971 = .ok (.iload 7, 2) := by decide +kernel
theorem dL_law_973 : decode cL_law 973 = .ok (.i2l, 1) := by decide +kernel
theorem dL_law_974 : decode cL_law 974 = .ok (.lcmp, 1) := by decide +kernel
theorem dL_law_975 : decode cL_law 975 = .ok (.ifCond .eq 5, 3) := by decide +kernel
theorem dL_law_978 : decode cL_law 978 = .ok (.iconst 0, 1) := by decide +kernel
theorem dL_law_979 : decode cL_law 979 = .ok (.ireturn, 1) := by decide +kernel
theorem dL_law_980 : decode cL_law 980 = .ok (.goto 1230, 3) := by decide +kernel
theorem dL_law_983 : decode cL_law 983 = .ok (.aload_n 1, 1) := by decide +kernel
theorem dL_law_984 : decode cL_law 984 = .ok (.invokevirtual 188, 3) := by decide +kernel
theorem dL_law_987 : decode cL_law 987 = .ok (.aload_n 2, 1) := by decide +kernel
theorem dL_law_988 : decode cL_law 988 = .ok (.invokevirtual 191, 3) := by decide +kernel
theorem dL_law_991 : decode cL_law 991 = .ok (.if_icmp .eq 1219, 3) := by decide +kernel
theorem dL_law_994 : decode cL_law 994 = .ok (.iconst 0, 1) := by decide +kernel
theorem dL_law_995 : decode cL_law 995 = .ok (.ireturn, 1) := by decide +kernel
theorem dL_law_996 : decode cL_law 996 = .ok (.aload_n 1, 1) := by decide +kernel
theorem dL_law_997 : decode cL_law 997 = .ok (.invokevirtual 192, 3) := by decide +kernel
theorem dL_law_1000 : decode cL_law 1000 = .ok (.aload_n 2, 1) := by decide +kernel
theorem dL_law_1001 : decode cL_law 1001 = .ok (.invokevirtual 195, 3) := by decide +kernel
theorem dL_law_1004 : decode cL_law 1004 = .ok (.if_icmp .eq 1206, 3) := by decide +kernel
theorem dL_law_1007 : decode cL_law 1007 = .ok (.iconst 0, 1) := by decide +kernel
theorem dL_law_1008 : decode cL_law 1008 = .ok (.ireturn, 1) := by decide +kernel
theorem dL_law_1009 : decode cL_law 1009 = .ok (.aload_n 1, 1) := by decide +kernel
theorem dL_law_1010 : decode cL_law 1010 = .ok (.invokevirtual 196, 3) := by decide +kernel
theorem dL_law_1013 : decode cL_law 1013 = .ok (.aload_n 2, 1) := by decide +kernel
theorem dL_law_1014 : decode cL_law 1014 = .ok (.invokevirtual 199, 3) := by decide +kernel
theorem dL_law_1017 : decode cL_law 1017 = .ok (.if_icmp .eq 1193, 3) := by decide +kernel
theorem dL_law_1020 : decode cL_law 1020 = .ok (.iconst 0, 1) := by decide +kernel
theorem dL_law_1021 : decode cL_law 1021 = .ok (.ireturn, 1) := by decide +kernel
theorem dL_law_1022 : decode cL_law 1022 = .ok (.aload_n 1, 1) := by decide +kernel
theorem dL_law_1023 : decode cL_law 1023 = .ok (.aload_n 0, 1) := by decide +kernel
theorem dL_law_1024 : decode cL_law 1024 = .ok (.iload 5, 2) := by decide +kernel
theorem dL_law_1026 : decode cL_law 1026 = .ok (.iconst 1, 1) := by decide +kernel
theorem dL_law_1027 : decode cL_law 1027 = .ok (.iadd, 1) := by decide +kernel
theorem dL_law_1028 : decode cL_law 1028 = .ok (.iaload, 1) := by decide +kernel
theorem dL_law_1029 : decode cL_law 1029 = .ok (.aload_n 3, 1) := by decide +kernel
theorem dL_law_1030 : decode cL_law 1030 = .ok (.invokestatic 200, 3) := by decide +kernel
theorem dL_law_1033 : decode cL_law 1033 = .ok (.istore 6, 2) := by decide +kernel
theorem dL_law_1035 : decode cL_law 1035 = .ok (.aload_n 2, 1) := by decide +kernel
theorem dL_law_1036 : decode cL_law 1036 = .ok (.aload_n 0, 1) := by decide +kernel
theorem dL_law_1037 : decode cL_law 1037 = .ok (.iload 5, 2) := by decide +kernel
theorem dL_law_1039 : decode cL_law 1039 = .ok (.iconst 1, 1) := by decide +kernel
theorem dL_law_1040 : decode cL_law 1040 = .ok (.iadd, 1) := by decide +kernel
theorem dL_law_1041 : decode cL_law 1041 = .ok (.iaload, 1) := by decide +kernel
theorem dL_law_1042 : decode cL_law 1042 = .ok (.invokevirtual 202, 3) := by decide +kernel
theorem dL_law_1045 : decode cL_law 1045 = .ok (.istore 7, 2) := by decide +kernel
theorem dL_law_1047 : decode cL_law 1047 = .ok (.aload_n 2, 1) := by decide +kernel
theorem dL_law_1048 : decode cL_law 1048 = .ok (.invokevirtual 145, 3) := by decide +kernel
theorem dL_law_1051 : decode cL_law 1051 = .ok (.iload 6, 2) := by decide +kernel
theorem dL_law_1053 : decode cL_law 1053 = .ok (.if_icmp .eq 5, 3) := by decide +kernel
theorem dL_law_1056 : decode cL_law 1056 = .ok (.iconst 0, 1) := by decide +kernel
theorem dL_law_1057 : decode cL_law 1057 = .ok (.ireturn, 1) := by decide +kernel
theorem dL_law_1058 : decode cL_law 1058 = .ok (.iload 6, 2) := by decide +kernel
theorem dL_law_1060 : decode cL_law 1060 = .ok (.ifCond .ne 15, 3) := by decide +kernel
theorem dL_law_1063 : decode cL_law 1063 = .ok (.aload_n 3, 1) := by decide +kernel
theorem dL_law_1064 : decode cL_law 1064 = .ok (.iconst 0, 1) := by decide +kernel
theorem dL_law_1065 : decode cL_law 1065 = .ok (.laload, 1) := by decide +kernel
theorem dL_law_1066 : decode cL_law 1066 = .ok (.iload 7, 2) := by decide +kernel
theorem dL_law_1068 : decode cL_law 1068 = .ok (.i2l, 1) := by decide +kernel
theorem dL_law_1069 : decode cL_law 1069 = .ok (.lcmp, 1) := by decide +kernel
theorem dL_law_1070 : decode cL_law 1070 = .ok (.ifCond .eq 5, 3) := by decide +kernel
theorem dL_law_1073 : decode cL_law 1073 = .ok (.iconst 0, 1) := by decide +kernel
theorem dL_law_1074 : decode cL_law 1074 = .ok (.ireturn, 1) := by decide +kernel
theorem dL_law_1075 : decode cL_law 1075 = .ok (.goto 1135, 3) := by decide +kernel
theorem dL_law_1078 : decode cL_law 1078 = .ok (.aload_n 1, 1) := by decide +kernel
theorem dL_law_1079 : decode cL_law 1079 = .ok (.aload_n 0, 1) := by decide +kernel
theorem dL_law_1080 : decode cL_law 1080 = .ok (.iload 5, 2) := by decide +kernel
theorem dL_law_1082 : decode cL_law 1082 = .ok (.iconst 1, 1) := by decide +kernel
theorem dL_law_1083 : decode cL_law 1083 = .ok (.iadd, 1) := by decide +kernel
theorem dL_law_1084 : decode cL_law 1084 = .ok (.iaload, 1) := by decide +kernel
theorem dL_law_1085 : decode cL_law 1085 = .ok (.aload_n 0, 1) := by decide +kernel
theorem dL_law_1086 : decode cL_law 1086 = .ok (.iload 5, 2) := by decide +kernel
theorem dL_law_1088 : decode cL_law 1088 = .ok (.iconst 2, 1) := by decide +kernel
theorem dL_law_1089 : decode cL_law 1089 = .ok (.iadd, 1) := by decide +kernel
theorem dL_law_1090 : decode cL_law 1090 = .ok (.iaload, 1) := by decide +kernel
theorem dL_law_1091 : decode cL_law 1091 = .ok (.aload_n 0, 1) := by decide +kernel
theorem dL_law_1092 : decode cL_law 1092 = .ok (.iload 5, 2) := by decide +kernel
theorem dL_law_1094 : decode cL_law 1094 = .ok (.iconst 3, 1) := by decide +kernel
theorem dL_law_1095 : decode cL_law 1095 = .ok (.iadd, 1) := by decide +kernel
theorem dL_law_1096 : decode cL_law 1096 = .ok (.iaload, 1) := by decide +kernel
theorem dL_law_1097 : decode cL_law 1097 = .ok (.aload_n 3, 1) := by decide +kernel
theorem dL_law_1098 : decode cL_law 1098 = .ok (.invokestatic 203, 3) := by decide +kernel
theorem dL_law_1101 : decode cL_law 1101 = .ok (.istore 6, 2) := by decide +kernel
theorem dL_law_1103 : decode cL_law 1103 = .ok (.aload_n 2, 1) := by decide +kernel
theorem dL_law_1104 : decode cL_law 1104 = .ok (.aload_n 0, 1) := by decide +kernel
theorem dL_law_1105 : decode cL_law 1105 = .ok (.iload 5, 2) := by decide +kernel
theorem dL_law_1107 : decode cL_law 1107 = .ok (.iconst 1, 1) := by decide +kernel
theorem dL_law_1108 : decode cL_law 1108 = .ok (.iadd, 1) := by decide +kernel
theorem dL_law_1109 : decode cL_law 1109 = .ok (.iaload, 1) := by decide +kernel
theorem dL_law_1110 : decode cL_law 1110 = .ok (.aload_n 0, 1) := by decide +kernel
theorem dL_law_1111 : decode cL_law 1111 = .ok (.iload 5, 2) := by decide +kernel
theorem dL_law_1113 : decode cL_law 1113 = .ok (.iconst 2, 1) := by decide +kernel
theorem dL_law_1114 : decode cL_law 1114 = .ok (.iadd, 1) := by decide +kernel
theorem dL_law_1115 : decode cL_law 1115 = .ok (.iaload, 1) := by decide +kernel
theorem dL_law_1116 : decode cL_law 1116 = .ok (.aload_n 0, 1) := by decide +kernel
theorem dL_law_1117 : decode cL_law 1117 = .ok (.iload 5, 2) := by decide +kernel
theorem dL_law_1119 : decode cL_law 1119 = .ok (.iconst 3, 1) := by decide +kernel
theorem dL_law_1120 : decode cL_law 1120 = .ok (.iadd, 1) := by decide +kernel
theorem dL_law_1121 : decode cL_law 1121 = .ok (.iaload, 1) := by decide +kernel
theorem dL_law_1122 : decode cL_law 1122 = .ok (.invokevirtual 206, 3) := by decide +kernel
theorem dL_law_1125 : decode cL_law 1125 = .ok (.istore 7, 2) := by decide +kernel
theorem dL_law_1127 : decode cL_law 1127 = .ok (.aload_n 2, 1) := by decide +kernel
theorem dL_law_1128 : decode cL_law 1128 = .ok (.invokevirtual 145, 3) := by decide +kernel
theorem dL_law_1131 : decode cL_law 1131 = .ok (.iload 6, 2) := by decide +kernel
theorem dL_law_1133 : decode cL_law 1133 = .ok (.if_icmp .eq 5, 3) := by decide +kernel
theorem dL_law_1136 : decode cL_law 1136 = .ok (.iconst 0, 1) := by decide +kernel
theorem dL_law_1137 : decode cL_law 1137 = .ok (.ireturn, 1) := by decide +kernel
theorem dL_law_1138 : decode cL_law 1138 = .ok (.iload 6, 2) := by decide +kernel
theorem dL_law_1140 : decode cL_law 1140 = .ok (.ifCond .ne 15, 3) := by decide +kernel
theorem dL_law_1143 : decode cL_law 1143 = .ok (.aload_n 3, 1) := by decide +kernel
theorem dL_law_1144 : decode cL_law 1144 = .ok (.iconst 0, 1) := by decide +kernel
theorem dL_law_1145 : decode cL_law 1145 = .ok (.laload, 1) := by decide +kernel
theorem dL_law_1146 : decode cL_law 1146 = .ok (.iload 7, 2) := by decide +kernel
theorem dL_law_1148 : decode cL_law 1148 = .ok (.i2l, 1) := by decide +kernel
theorem dL_law_1149 : decode cL_law 1149 = .ok (.lcmp, 1) := by decide +kernel
theorem dL_law_1150 : decode cL_law 1150 = .ok (.ifCond .eq 5, 3) := by decide +kernel
theorem dL_law_1153 : decode cL_law 1153 = .ok (.iconst 0, 1) := by decide +kernel
theorem dL_law_1154 : decode cL_law 1154 = .ok (.ireturn, 1) := by decide +kernel
theorem dL_law_1155 : decode cL_law 1155 = .ok (.goto 1055, 3) := by decide +kernel
theorem dL_law_1158 : decode cL_law 1158 = .ok (.aload_n 1, 1) := by decide +kernel
theorem dL_law_1159 : decode cL_law 1159 = .ok (.aload_n 0, 1) := by decide +kernel
theorem dL_law_1160 : decode cL_law 1160 = .ok (.iload 5, 2) := by decide +kernel
theorem dL_law_1162 : decode cL_law 1162 = .ok (.iconst 1, 1) := by decide +kernel
theorem dL_law_1163 : decode cL_law 1163 = .ok (.iadd, 1) := by decide +kernel
theorem dL_law_1164 : decode cL_law 1164 = .ok (.iaload, 1) := by decide +kernel
theorem dL_law_1165 : decode cL_law 1165 = .ok (.aload_n 3, 1) := by decide +kernel
theorem dL_law_1166 : decode cL_law 1166 = .ok (.invokestatic 207, 3) := by decide +kernel
theorem dL_law_1169 : decode cL_law 1169 = .ok (.istore 6, 2) := by decide +kernel
theorem dL_law_1171 : decode cL_law 1171 = .ok (.aload_n 2, 1) := by decide +kernel
theorem dL_law_1172 : decode cL_law 1172 = .ok (.aload_n 0, 1) := by decide +kernel
theorem dL_law_1173 : decode cL_law 1173 = .ok (.iload 5, 2) := by decide +kernel
theorem dL_law_1175 : decode cL_law 1175 = .ok (.iconst 1, 1) := by decide +kernel
theorem dL_law_1176 : decode cL_law 1176 = .ok (.iadd, 1) := by decide +kernel
theorem dL_law_1177 : decode cL_law 1177 = .ok (.iaload, 1) := by decide +kernel
theorem dL_law_1178 : decode cL_law 1178 = .ok (.invokevirtual 209, 3) := by decide +kernel
theorem dL_law_1181 : decode cL_law 1181 = .ok (.istore 7, 2) := by decide +kernel
theorem dL_law_1183 : decode cL_law 1183 = .ok (.aload_n 2, 1) := by decide +kernel
theorem dL_law_1184 : decode cL_law 1184 = .ok (.invokevirtual 145, 3) := by decide +kernel
theorem dL_law_1187 : decode cL_law 1187 = .ok (.iload 6, 2) := by decide +kernel
theorem dL_law_1189 : decode cL_law 1189 = .ok (.if_icmp .eq 5, 3) := by decide +kernel
theorem dL_law_1192 : decode cL_law 1192 = .ok (.iconst 0, 1) := by decide +kernel
theorem dL_law_1193 : decode cL_law 1193 = .ok (.ireturn, 1) := by decide +kernel
theorem dL_law_1194 : decode cL_law 1194 = .ok (.iload 6, 2) := by decide +kernel
theorem dL_law_1196 : decode cL_law 1196 = .ok (.ifCond .ne 15, 3) := by decide +kernel
theorem dL_law_1199 : decode cL_law 1199 = .ok (.aload_n 3, 1) := by decide +kernel
theorem dL_law_1200 : decode cL_law 1200 = .ok (.iconst 0, 1) := by decide +kernel
theorem dL_law_1201 : decode cL_law 1201 = .ok (.laload, 1) := by decide +kernel
theorem dL_law_1202 : decode cL_law 1202 = .ok (.iload 7, 2) := by decide +kernel
theorem dL_law_1204 : decode cL_law 1204 = .ok (.i2l, 1) := by decide +kernel
theorem dL_law_1205 : decode cL_law 1205 = .ok (.lcmp, 1) := by decide +kernel
theorem dL_law_1206 : decode cL_law 1206 = .ok (.ifCond .eq 5, 3) := by decide +kernel
theorem dL_law_1209 : decode cL_law 1209 = .ok (.iconst 0, 1) := by decide +kernel
theorem dL_law_1210 : decode cL_law 1210 = .ok (.ireturn, 1) := by decide +kernel
theorem dL_law_1211 : decode cL_law 1211 = .ok (.goto 999, 3) := by decide +kernel
theorem dL_law_1214 : decode cL_law 1214 = .ok (.aload_n 1, 1) := by decide +kernel
theorem dL_law_1215 : decode cL_law 1215 = .ok (.aload_n 3, 1) := by decide +kernel
theorem dL_law_1216 : decode cL_law 1216 = .ok (.invokestatic 210, 3) := by decide +kernel
theorem dL_law_1219 : decode cL_law 1219 = .ok (.istore 6, 2) := by decide +kernel
theorem dL_law_1221 : decode cL_law 1221 = .ok (.aload_n 2, 1) := by decide +kernel
theorem dL_law_1222 : decode cL_law 1222 = .ok (.invokevirtual 213, 3) := by decide +kernel
theorem dL_law_1225 : decode cL_law 1225 = .ok (.istore 7, 2) := by decide +kernel
theorem dL_law_1227 : decode cL_law 1227 = .ok (.aload_n 2, 1) := by decide +kernel
theorem dL_law_1228 : decode cL_law 1228 = .ok (.invokevirtual 145, 3) := by decide +kernel
theorem dL_law_1231 : decode cL_law 1231 = .ok (.iload 6, 2) := by decide +kernel
theorem dL_law_1233 : decode cL_law 1233 = .ok (.if_icmp .eq 5, 3) := by decide +kernel
theorem dL_law_1236 : decode cL_law 1236 = .ok (.iconst 0, 1) := by decide +kernel
theorem dL_law_1237 : decode cL_law 1237 = .ok (.ireturn, 1) := by decide +kernel
theorem dL_law_1238 : decode cL_law 1238 = .ok (.iload 6, 2) := by decide +kernel
theorem dL_law_1240 : decode cL_law 1240 = .ok (.ifCond .ne 15, 3) := by decide +kernel
theorem dL_law_1243 : decode cL_law 1243 = .ok (.aload_n 3, 1) := by decide +kernel
theorem dL_law_1244 : decode cL_law 1244 = .ok (.iconst 0, 1) := by decide +kernel
theorem dL_law_1245 : decode cL_law 1245 = .ok (.laload, 1) := by decide +kernel
theorem dL_law_1246 : decode cL_law 1246 = .ok (.iload 7, 2) := by decide +kernel
theorem dL_law_1248 : decode cL_law 1248 = .ok (.i2l, 1) := by decide +kernel
theorem dL_law_1249 : decode cL_law 1249 = .ok (.lcmp, 1) := by decide +kernel
theorem dL_law_1250 : decode cL_law 1250 = .ok (.ifCond .eq 5, 3) := by decide +kernel
theorem dL_law_1253 : decode cL_law 1253 = .ok (.iconst 0, 1) := by decide +kernel
theorem dL_law_1254 : decode cL_law 1254 = .ok (.ireturn, 1) := by decide +kernel
theorem dL_law_1255 : decode cL_law 1255 = .ok (.goto 955, 3) := by decide +kernel
theorem dL_law_1258 : decode cL_law 1258 = .ok (.aload_n 1, 1) := by decide +kernel
theorem dL_law_1259 : decode cL_law 1259 = .ok (.invokevirtual 214, 3) := by decide +kernel
theorem dL_law_1262 : decode cL_law 1262 = .ok (.aload_n 2, 1) := by decide +kernel
theorem dL_law_1263 : decode cL_law 1263 = .ok (.invokevirtual 217, 3) := by decide +kernel
theorem dL_law_1266 : decode cL_law 1266 = .ok (.if_icmp .eq 944, 3) := by decide +kernel
theorem dL_law_1269 : decode cL_law 1269 = .ok (.iconst 0, 1) := by decide +kernel
theorem dL_law_1270 : decode cL_law 1270 = .ok (.ireturn, 1) := by decide +kernel
theorem dL_law_1271 : decode cL_law 1271 = .ok (.aload_n 1, 1) := by decide +kernel
theorem dL_law_1272 : decode cL_law 1272 = .ok (.aload_n 0, 1) := by decide +kernel
theorem dL_law_1273 : decode cL_law 1273 = .ok (.iload 5, 2) := by decide +kernel
theorem dL_law_1275 : decode cL_law 1275 = .ok (.iconst 1, 1) := by decide +kernel
theorem dL_law_1276 : decode cL_law 1276 = .ok (.iadd, 1) := by decide +kernel
theorem dL_law_1277 : decode cL_law 1277 = .ok (.iaload, 1) := by decide +kernel
theorem dL_law_1278 : decode cL_law 1278 = .ok (.invokestatic 218, 3) := by decide +kernel
theorem dL_law_1281 : decode cL_law 1281 = .ok (.istore 6, 2) := by decide +kernel
theorem dL_law_1283 : decode cL_law 1283 = .ok (.aload_n 2, 1) := by decide +kernel
theorem dL_law_1284 : decode cL_law 1284 = .ok (.aload_n 0, 1) := by decide +kernel
theorem dL_law_1285 : decode cL_law 1285 = .ok (.iload 5, 2) := by decide +kernel
theorem dL_law_1287 : decode cL_law 1287 = .ok (.iconst 1, 1) := by decide +kernel
theorem dL_law_1288 : decode cL_law 1288 = .ok (.iadd, 1) := by decide +kernel
theorem dL_law_1289 : decode cL_law 1289 = .ok (.iaload, 1) := by decide +kernel
theorem dL_law_1290 : decode cL_law 1290 = .ok (.invokevirtual 221, 3) := by decide +kernel
theorem dL_law_1293 : decode cL_law 1293 = .ok (.aload_n 2, 1) := by decide +kernel
theorem dL_law_1294 : decode cL_law 1294 = .ok (.invokevirtual 145, 3) := by decide +kernel
theorem dL_law_1297 : decode cL_law 1297 = .ok (.iload 6, 2) := by decide +kernel
theorem dL_law_1299 : decode cL_law 1299 = .ok (.if_icmp .eq 5, 3) := by decide +kernel
theorem dL_law_1302 : decode cL_law 1302 = .ok (.iconst 0, 1) := by decide +kernel
theorem dL_law_1303 : decode cL_law 1303 = .ok (.ireturn, 1) := by decide +kernel
theorem dL_law_1304 : decode cL_law 1304 = .ok (.goto 906, 3) := by decide +kernel
theorem dL_law_1307 : decode cL_law 1307 = .ok (.aload_n 1, 1) := by decide +kernel
theorem dL_law_1308 : decode cL_law 1308 = .ok (.aload_n 3, 1) := by decide +kernel
theorem dL_law_1309 : decode cL_law 1309 = .ok (.invokestatic 222, 3) := by decide +kernel
theorem dL_law_1312 : decode cL_law 1312 = .ok (.istore 6, 2) := by decide +kernel
theorem dL_law_1314 : decode cL_law 1314 = .ok (.aload_n 2, 1) := by decide +kernel
theorem dL_law_1315 : decode cL_law 1315 = .ok (.invokevirtual 224, 3) := by decide +kernel
theorem dL_law_1318 : decode cL_law 1318 = .ok (.istore 7, 2) := by decide +kernel
theorem dL_law_1320 : decode cL_law 1320 = .ok (.aload_n 2, 1) := by decide +kernel
theorem dL_law_1321 : decode cL_law 1321 = .ok (.invokevirtual 145, 3) := by decide +kernel
theorem dL_law_1324 : decode cL_law 1324 = .ok (.iload 6, 2) := by decide +kernel
theorem dL_law_1326 : decode cL_law 1326 = .ok (.if_icmp .eq 5, 3) := by decide +kernel
theorem dL_law_1329 : decode cL_law 1329 = .ok (.iconst 0, 1) := by decide +kernel
theorem dL_law_1330 : decode cL_law 1330 = .ok (.ireturn, 1) := by decide +kernel
theorem dL_law_1331 : decode cL_law 1331 = .ok (.iload 6, 2) := by decide +kernel
theorem dL_law_1333 : decode cL_law 1333 = .ok (.ifCond .ne 15, 3) := by decide +kernel
theorem dL_law_1336 : decode cL_law 1336 = .ok (.aload_n 3, 1) := by decide +kernel
theorem dL_law_1337 : decode cL_law 1337 = .ok (.iconst 0, 1) := by decide +kernel
theorem dL_law_1338 : decode cL_law 1338 = .ok (.laload, 1) := by decide +kernel
theorem dL_law_1339 : decode cL_law 1339 = .ok (.iload 7, 2) := by decide +kernel
theorem dL_law_1341 : decode cL_law 1341 = .ok (.i2l, 1) := by decide +kernel
theorem dL_law_1342 : decode cL_law 1342 = .ok (.lcmp, 1) := by decide +kernel
theorem dL_law_1343 : decode cL_law 1343 = .ok (.ifCond .eq 5, 3) := by decide +kernel
theorem dL_law_1346 : decode cL_law 1346 = .ok (.iconst 0, 1) := by decide +kernel
theorem dL_law_1347 : decode cL_law 1347 = .ok (.ireturn, 1) := by decide +kernel
theorem dL_law_1348 : decode cL_law 1348 = .ok (.goto 862, 3) := by decide +kernel
theorem dL_law_1351 : decode cL_law 1351 = .ok (.aload_n 1, 1) := by decide +kernel
theorem dL_law_1352 : decode cL_law 1352 = .ok (.aload_n 3, 1) := by decide +kernel
theorem dL_law_1353 : decode cL_law 1353 = .ok (.invokestatic 225, 3) := by decide +kernel
theorem dL_law_1356 : decode cL_law 1356 = .ok (.istore 6, 2) := by decide +kernel
theorem dL_law_1358 : decode cL_law 1358 = .ok (.aload_n 2, 1) := by decide +kernel
theorem dL_law_1359 : decode cL_law 1359 = .ok (.invokevirtual 227, 3) := by decide +kernel
theorem dL_law_1362 : decode cL_law 1362 = .ok (.istore 7, 2) := by decide +kernel
theorem dL_law_1364 : decode cL_law 1364 = .ok (.aload_n 2, 1) := by decide +kernel
theorem dL_law_1365 : decode cL_law 1365 = .ok (.invokevirtual 145, 3) := by decide +kernel
theorem dL_law_1368 : decode cL_law 1368 = .ok (.iload 6, 2) := by decide +kernel
theorem dL_law_1370 : decode cL_law 1370 = .ok (.if_icmp .eq 5, 3) := by decide +kernel
theorem dL_law_1373 : decode cL_law 1373 = .ok (.iconst 0, 1) := by decide +kernel
theorem dL_law_1374 : decode cL_law 1374 = .ok (.ireturn, 1) := by decide +kernel
theorem dL_law_1375 : decode cL_law 1375 = .ok (.iload 6, 2) := by decide +kernel
theorem dL_law_1377 : decode cL_law 1377 = .ok (.ifCond .ne 15, 3) := by decide +kernel
theorem dL_law_1380 : decode cL_law 1380 = .ok (.aload_n 3, 1) := by decide +kernel
theorem dL_law_1381 : decode cL_law 1381 = .ok (.iconst 0, 1) := by decide +kernel
theorem dL_law_1382 : decode cL_law 1382 = .ok (.laload, 1) := by decide +kernel
theorem dL_law_1383 : decode cL_law 1383 = .ok (.iload 7, 2) := by decide +kernel
theorem dL_law_1385 : decode cL_law 1385 = .ok (.i2l, 1) := by decide +kernel
theorem dL_law_1386 : decode cL_law 1386 = .ok (.lcmp, 1) := by decide +kernel
theorem dL_law_1387 : decode cL_law 1387 = .ok (.ifCond .eq 5, 3) := by decide +kernel
theorem dL_law_1390 : decode cL_law 1390 = .ok (.iconst 0, 1) := by decide +kernel
theorem dL_law_1391 : decode cL_law 1391 = .ok (.ireturn, 1) := by decide +kernel
theorem dL_law_1392 : decode cL_law 1392 = .ok (.goto 818, 3) := by decide +kernel
theorem dL_law_1395 : decode cL_law 1395 = .ok (.aload_n 1, 1) := by decide +kernel
theorem dL_law_1396 : decode cL_law 1396 = .ok (.aload_n 0, 1) := by decide +kernel
theorem dL_law_1397 : decode cL_law 1397 = .ok (.iload 5, 2) := by decide +kernel
theorem dL_law_1399 : decode cL_law 1399 = .ok (.iconst 1, 1) := by decide +kernel
theorem dL_law_1400 : decode cL_law 1400 = .ok (.iadd, 1) := by decide +kernel
theorem dL_law_1401 : decode cL_law 1401 = .ok (.iaload, 1) := by decide +kernel
theorem dL_law_1402 : decode cL_law 1402 = .ok (.aload_n 3, 1) := by decide +kernel
theorem dL_law_1403 : decode cL_law 1403 = .ok (.invokestatic 228, 3) := by decide +kernel
theorem dL_law_1406 : decode cL_law 1406 = .ok (.istore 6, 2) := by decide +kernel
theorem dL_law_1408 : decode cL_law 1408 = .ok (.aload_n 2, 1) := by decide +kernel
theorem dL_law_1409 : decode cL_law 1409 = .ok (.aload_n 0, 1) := by decide +kernel
theorem dL_law_1410 : decode cL_law 1410 = .ok (.iload 5, 2) := by decide +kernel
theorem dL_law_1412 : decode cL_law 1412 = .ok (.iconst 1, 1) := by decide +kernel
theorem dL_law_1413 : decode cL_law 1413 = .ok (.iadd, 1) := by decide +kernel
theorem dL_law_1414 : decode cL_law 1414 = .ok (.iaload, 1) := by decide +kernel
theorem dL_law_1415 : decode cL_law 1415 = .ok (.invokevirtual 230, 3) := by decide +kernel
theorem dL_law_1418 : decode cL_law 1418 = .ok (.istore 7, 2) := by decide +kernel
theorem dL_law_1420 : decode cL_law 1420 = .ok (.aload_n 2, 1) := by decide +kernel
theorem dL_law_1421 : decode cL_law 1421 = .ok (.invokevirtual 145, 3) := by decide +kernel
theorem dL_law_1424 : decode cL_law 1424 = .ok (.iload 6, 2) := by decide +kernel
theorem dL_law_1426 : decode cL_law 1426 = .ok (.if_icmp .eq 5, 3) := by decide +kernel
theorem dL_law_1429 : decode cL_law 1429 = .ok (.iconst 0, 1) := by decide +kernel
theorem dL_law_1430 : decode cL_law 1430 = .ok (.ireturn, 1) := by decide +kernel
theorem dL_law_1431 : decode cL_law 1431 = .ok (.iload 6, 2) := by decide +kernel
theorem dL_law_1433 : decode cL_law 1433 = .ok (.ifCond .ne 15, 3) := by decide +kernel
theorem dL_law_1436 : decode cL_law 1436 = .ok (.aload_n 3, 1) := by decide +kernel
theorem dL_law_1437 : decode cL_law 1437 = .ok (.iconst 0, 1) := by decide +kernel
theorem dL_law_1438 : decode cL_law 1438 = .ok (.laload, 1) := by decide +kernel
theorem dL_law_1439 : decode cL_law 1439 = .ok (.iload 7, 2) := by decide +kernel
theorem dL_law_1441 : decode cL_law 1441 = .ok (.i2l, 1) := by decide +kernel
theorem dL_law_1442 : decode cL_law 1442 = .ok (.lcmp, 1) := by decide +kernel
theorem dL_law_1443 : decode cL_law 1443 = .ok (.ifCond .eq 5, 3) := by decide +kernel
theorem dL_law_1446 : decode cL_law 1446 = .ok (.iconst 0, 1) := by decide +kernel
theorem dL_law_1447 : decode cL_law 1447 = .ok (.ireturn, 1) := by decide +kernel
theorem dL_law_1448 : decode cL_law 1448 = .ok (.goto 762, 3) := by decide +kernel
theorem dL_law_1451 : decode cL_law 1451 = .ok (.aload_n 1, 1) := by decide +kernel
theorem dL_law_1452 : decode cL_law 1452 = .ok (.aload_n 3, 1) := by decide +kernel
theorem dL_law_1453 : decode cL_law 1453 = .ok (.invokestatic 231, 3) := by decide +kernel
theorem dL_law_1456 : decode cL_law 1456 = .ok (.istore 6, 2) := by decide +kernel
theorem dL_law_1458 : decode cL_law 1458 = .ok (.aload_n 2, 1) := by decide +kernel
theorem dL_law_1459 : decode cL_law 1459 = .ok (.invokevirtual 233, 3) := by decide +kernel
theorem dL_law_1462 : decode cL_law 1462 = .ok (.istore 7, 2) := by decide +kernel
theorem dL_law_1464 : decode cL_law 1464 = .ok (.aload_n 2, 1) := by decide +kernel
theorem dL_law_1465 : decode cL_law 1465 = .ok (.invokevirtual 145, 3) := by decide +kernel
theorem dL_law_1468 : decode cL_law 1468 = .ok (.iload 6, 2) := by decide +kernel
theorem dL_law_1470 : decode cL_law 1470 = .ok (.if_icmp .eq 5, 3) := by decide +kernel
theorem dL_law_1473 : decode cL_law 1473 = .ok (.iconst 0, 1) := by decide +kernel
theorem dL_law_1474 : decode cL_law 1474 = .ok (.ireturn, 1) := by decide +kernel
theorem dL_law_1475 : decode cL_law 1475 = .ok (.iload 6, 2) := by decide +kernel
theorem dL_law_1477 : decode cL_law 1477 = .ok (.ifCond .ne 15, 3) := by decide +kernel
theorem dL_law_1480 : decode cL_law 1480 = .ok (.aload_n 3, 1) := by decide +kernel
theorem dL_law_1481 : decode cL_law 1481 = .ok (.iconst 0, 1) := by decide +kernel
theorem dL_law_1482 : decode cL_law 1482 = .ok (.laload, 1) := by decide +kernel
theorem dL_law_1483 : decode cL_law 1483 = .ok (.iload 7, 2) := by decide +kernel
theorem dL_law_1485 : decode cL_law 1485 = .ok (.i2l, 1) := by decide +kernel
theorem dL_law_1486 : decode cL_law 1486 = .ok (.lcmp, 1) := by decide +kernel
theorem dL_law_1487 : decode cL_law 1487 = .ok (.ifCond .eq 5, 3) := by decide +kernel
theorem dL_law_1490 : decode cL_law 1490 = .ok (.iconst 0, 1) := by decide +kernel
theorem dL_law_1491 : decode cL_law 1491 = .ok (.ireturn, 1) := by decide +kernel
theorem dL_law_1492 : decode cL_law 1492 = .ok (.goto 718, 3) := by decide +kernel
theorem dL_law_1495 : decode cL_law 1495 = .ok (.aload_n 1, 1) := by decide +kernel
theorem dL_law_1496 : decode cL_law 1496 = .ok (.invokevirtual 234, 3) := by decide +kernel
theorem dL_law_1499 : decode cL_law 1499 = .ok (.aload_n 2, 1) := by decide +kernel
theorem dL_law_1500 : decode cL_law 1500 = .ok (.invokevirtual 237, 3) := by decide +kernel
theorem dL_law_1503 : decode cL_law 1503 = .ok (.if_icmp .eq 707, 3) := by decide +kernel
theorem dL_law_1506 : decode cL_law 1506 = .ok (.iconst 0, 1) := by decide +kernel
theorem dL_law_1507 : decode cL_law 1507 = .ok (.ireturn, 1) := by decide +kernel
theorem dL_law_1508 : decode cL_law 1508 = .ok (.aload_n 1, 1) := by decide +kernel
theorem dL_law_1509 : decode cL_law 1509 = .ok (.invokevirtual 238, 3) := by decide +kernel
theorem dL_law_1512 : decode cL_law 1512 = .ok (.aload_n 2, 1) := by decide +kernel
theorem dL_law_1513 : decode cL_law 1513 = .ok (.invokevirtual 241, 3) := by decide +kernel
theorem dL_law_1516 : decode cL_law 1516 = .ok (.if_icmp .eq 694, 3) := by decide +kernel
theorem dL_law_1519 : decode cL_law 1519 = .ok (.iconst 0, 1) := by decide +kernel
theorem dL_law_1520 : decode cL_law 1520 = .ok (.ireturn, 1) := by decide +kernel
theorem dL_law_1521 : decode cL_law 1521 = .ok (.aload_n 1, 1) := by decide +kernel
theorem dL_law_1522 : decode cL_law 1522 = .ok (.aload_n 0, 1) := by decide +kernel
theorem dL_law_1523 : decode cL_law 1523 = .ok (.iload 5, 2) := by decide +kernel
theorem dL_law_1525 : decode cL_law 1525 = .ok (.iconst 1, 1) := by decide +kernel
theorem dL_law_1526 : decode cL_law 1526 = .ok (.iadd, 1) := by decide +kernel
theorem dL_law_1527 : decode cL_law 1527 = .ok (.iaload, 1) := by decide +kernel
theorem dL_law_1528 : decode cL_law 1528 = .ok (.aload_n 3, 1) := by decide +kernel
theorem dL_law_1529 : decode cL_law 1529 = .ok (.invokestatic 242, 3) := by decide +kernel
theorem dL_law_1532 : decode cL_law 1532 = .ok (.istore 6, 2) := by decide +kernel
theorem dL_law_1534 : decode cL_law 1534 = .ok (.aload_n 2, 1) := by decide +kernel
theorem dL_law_1535 : decode cL_law 1535 = .ok (.aload_n 0, 1) := by decide +kernel
theorem dL_law_1536 : decode cL_law 1536 = .ok (.iload 5, 2) := by decide +kernel
theorem dL_law_1538 : decode cL_law 1538 = .ok (.iconst 1, 1) := by decide +kernel
theorem dL_law_1539 : decode cL_law 1539 = .ok (.iadd, 1) := by decide +kernel
theorem dL_law_1540 : decode cL_law 1540 = .ok (.iaload, 1) := by decide +kernel
theorem dL_law_1541 : decode cL_law 1541 = .ok (.invokevirtual 244, 3) := by decide +kernel
theorem dL_law_1544 : decode cL_law 1544 = .ok (.istore 7, 2) := by decide +kernel
theorem dL_law_1546 : decode cL_law 1546 = .ok (.aload_n 2, 1) := by decide +kernel
theorem dL_law_1547 : decode cL_law 1547 = .ok (.invokevirtual 145, 3) := by decide +kernel
theorem dL_law_1550 : decode cL_law 1550 = .ok (.iload 6, 2) := by decide +kernel
theorem dL_law_1552 : decode cL_law 1552 = .ok (.if_icmp .eq 5, 3) := by decide +kernel
theorem dL_law_1555 : decode cL_law 1555 = .ok (.iconst 0, 1) := by decide +kernel
theorem dL_law_1556 : decode cL_law 1556 = .ok (.ireturn, 1) := by decide +kernel
theorem dL_law_1557 : decode cL_law 1557 = .ok (.iload 6, 2) := by decide +kernel
theorem dL_law_1559 : decode cL_law 1559 = .ok (.ifCond .ne 15, 3) := by decide +kernel
theorem dL_law_1562 : decode cL_law 1562 = .ok (.aload_n 3, 1) := by decide +kernel
theorem dL_law_1563 : decode cL_law 1563 = .ok (.iconst 0, 1) := by decide +kernel
theorem dL_law_1564 : decode cL_law 1564 = .ok (.laload, 1) := by decide +kernel
theorem dL_law_1565 : decode cL_law 1565 = .ok (.iload 7, 2) := by decide +kernel
theorem dL_law_1567 : decode cL_law 1567 = .ok (.i2l, 1) := by decide +kernel
theorem dL_law_1568 : decode cL_law 1568 = .ok (.lcmp, 1) := by decide +kernel
theorem dL_law_1569 : decode cL_law 1569 = .ok (.ifCond .eq 5, 3) := by decide +kernel
theorem dL_law_1572 : decode cL_law 1572 = .ok (.iconst 0, 1) := by decide +kernel
theorem dL_law_1573 : decode cL_law 1573 = .ok (.ireturn, 1) := by decide +kernel
theorem dL_law_1574 : decode cL_law 1574 = .ok (.goto 636, 3) := by decide +kernel
theorem dL_law_1577 : decode cL_law 1577 = .ok (.aload_n 1, 1) := by decide +kernel
theorem dL_law_1578 : decode cL_law 1578 = .ok (.aload_n 0, 1) := by decide +kernel
theorem dL_law_1579 : decode cL_law 1579 = .ok (.iload 5, 2) := by decide +kernel
theorem dL_law_1581 : decode cL_law 1581 = .ok (.iconst 1, 1) := by decide +kernel
theorem dL_law_1582 : decode cL_law 1582 = .ok (.iadd, 1) := by decide +kernel
theorem dL_law_1583 : decode cL_law 1583 = .ok (.iaload, 1) := by decide +kernel
theorem dL_law_1584 : decode cL_law 1584 = .ok (.aload_n 3, 1) := by decide +kernel
theorem dL_law_1585 : decode cL_law 1585 = .ok (.invokestatic 245, 3) := by decide +kernel
theorem dL_law_1588 : decode cL_law 1588 = .ok (.istore 6, 2) := by decide +kernel
theorem dL_law_1590 : decode cL_law 1590 = .ok (.aload_n 2, 1) := by decide +kernel
theorem dL_law_1591 : decode cL_law 1591 = .ok (.aload_n 0, 1) := by decide +kernel
theorem dL_law_1592 : decode cL_law 1592 = .ok (.iload 5, 2) := by decide +kernel
theorem dL_law_1594 : decode cL_law 1594 = .ok (.iconst 1, 1) := by decide +kernel
theorem dL_law_1595 : decode cL_law 1595 = .ok (.iadd, 1) := by decide +kernel
theorem dL_law_1596 : decode cL_law 1596 = .ok (.iaload, 1) := by decide +kernel
theorem dL_law_1597 : decode cL_law 1597 = .ok (.invokevirtual 247, 3) := by decide +kernel
theorem dL_law_1600 : decode cL_law 1600 = .ok (.istore 7, 2) := by decide +kernel
theorem dL_law_1602 : decode cL_law 1602 = .ok (.aload_n 2, 1) := by decide +kernel
theorem dL_law_1603 : decode cL_law 1603 = .ok (.invokevirtual 145, 3) := by decide +kernel
theorem dL_law_1606 : decode cL_law 1606 = .ok (.iload 6, 2) := by decide +kernel
theorem dL_law_1608 : decode cL_law 1608 = .ok (.if_icmp .eq 5, 3) := by decide +kernel
theorem dL_law_1611 : decode cL_law 1611 = .ok (.iconst 0, 1) := by decide +kernel
theorem dL_law_1612 : decode cL_law 1612 = .ok (.ireturn, 1) := by decide +kernel
theorem dL_law_1613 : decode cL_law 1613 = .ok (.iload 6, 2) := by decide +kernel
theorem dL_law_1615 : decode cL_law 1615 = .ok (.ifCond .ne 15, 3) := by decide +kernel
theorem dL_law_1618 : decode cL_law 1618 = .ok (.aload_n 3, 1) := by decide +kernel
theorem dL_law_1619 : decode cL_law 1619 = .ok (.iconst 0, 1) := by decide +kernel
theorem dL_law_1620 : decode cL_law 1620 = .ok (.laload, 1) := by decide +kernel
theorem dL_law_1621 : decode cL_law 1621 = .ok (.iload 7, 2) := by decide +kernel
theorem dL_law_1623 : decode cL_law 1623 = .ok (.i2l, 1) := by decide +kernel
theorem dL_law_1624 : decode cL_law 1624 = .ok (.lcmp, 1) := by decide +kernel
theorem dL_law_1625 : decode cL_law 1625 = .ok (.ifCond .eq 5, 3) := by decide +kernel
theorem dL_law_1628 : decode cL_law 1628 = .ok (.iconst 0, 1) := by decide +kernel
theorem dL_law_1629 : decode cL_law 1629 = .ok (.ireturn, 1) := by decide +kernel
theorem dL_law_1630 : decode cL_law 1630 = .ok (.goto 580, 3) := by decide +kernel
theorem dL_law_1633 : decode cL_law 1633 = .ok (.aload_n 1, 1) := by decide +kernel
theorem dL_law_1634 : decode cL_law 1634 = .ok (.aload_n 0, 1) := by decide +kernel
theorem dL_law_1635 : decode cL_law 1635 = .ok (.iload 5, 2) := by decide +kernel
theorem dL_law_1637 : decode cL_law 1637 = .ok (.iconst 1, 1) := by decide +kernel
theorem dL_law_1638 : decode cL_law 1638 = .ok (.iadd, 1) := by decide +kernel
theorem dL_law_1639 : decode cL_law 1639 = .ok (.iaload, 1) := by decide +kernel
theorem dL_law_1640 : decode cL_law 1640 = .ok (.aload_n 3, 1) := by decide +kernel
theorem dL_law_1641 : decode cL_law 1641 = .ok (.invokestatic 248, 3) := by decide +kernel
theorem dL_law_1644 : decode cL_law 1644 = .ok (.istore 6, 2) := by decide +kernel
theorem dL_law_1646 : decode cL_law 1646 = .ok (.aload_n 2, 1) := by decide +kernel
theorem dL_law_1647 : decode cL_law 1647 = .ok (.aload_n 0, 1) := by decide +kernel
theorem dL_law_1648 : decode cL_law 1648 = .ok (.iload 5, 2) := by decide +kernel
theorem dL_law_1650 : decode cL_law 1650 = .ok (.iconst 1, 1) := by decide +kernel
theorem dL_law_1651 : decode cL_law 1651 = .ok (.iadd, 1) := by decide +kernel
theorem dL_law_1652 : decode cL_law 1652 = .ok (.iaload, 1) := by decide +kernel
theorem dL_law_1653 : decode cL_law 1653 = .ok (.invokevirtual 250, 3) := by decide +kernel
theorem dL_law_1656 : decode cL_law 1656 = .ok (.istore 7, 2) := by decide +kernel
theorem dL_law_1658 : decode cL_law 1658 = .ok (.aload_n 2, 1) := by decide +kernel
theorem dL_law_1659 : decode cL_law 1659 = .ok (.invokevirtual 145, 3) := by decide +kernel
theorem dL_law_1662 : decode cL_law 1662 = .ok (.iload 6, 2) := by decide +kernel
theorem dL_law_1664 : decode cL_law 1664 = .ok (.if_icmp .eq 5, 3) := by decide +kernel
theorem dL_law_1667 : decode cL_law 1667 = .ok (.iconst 0, 1) := by decide +kernel
theorem dL_law_1668 : decode cL_law 1668 = .ok (.ireturn, 1) := by decide +kernel
theorem dL_law_1669 : decode cL_law 1669 = .ok (.iload 6, 2) := by decide +kernel
theorem dL_law_1671 : decode cL_law 1671 = .ok (.ifCond .ne 15, 3) := by decide +kernel
theorem dL_law_1674 : decode cL_law 1674 = .ok (.aload_n 3, 1) := by decide +kernel
theorem dL_law_1675 : decode cL_law 1675 = .ok (.iconst 0, 1) := by decide +kernel
theorem dL_law_1676 : decode cL_law 1676 = .ok (.laload, 1) := by decide +kernel
theorem dL_law_1677 : decode cL_law 1677 = .ok (.iload 7, 2) := by decide +kernel
theorem dL_law_1679 : decode cL_law 1679 = .ok (.i2l, 1) := by decide +kernel
theorem dL_law_1680 : decode cL_law 1680 = .ok (.lcmp, 1) := by decide +kernel
theorem dL_law_1681 : decode cL_law 1681 = .ok (.ifCond .eq 5, 3) := by decide +kernel
theorem dL_law_1684 : decode cL_law 1684 = .ok (.iconst 0, 1) := by decide +kernel
theorem dL_law_1685 : decode cL_law 1685 = .ok (.ireturn, 1) := by decide +kernel
theorem dL_law_1686 : decode cL_law 1686 = .ok (.goto 524, 3) := by decide +kernel
theorem dL_law_1689 : decode cL_law 1689 = .ok (.aload_n 1, 1) := by decide +kernel
theorem dL_law_1690 : decode cL_law 1690 = .ok (.aload_n 0, 1) := by decide +kernel
theorem dL_law_1691 : decode cL_law 1691 = .ok (.iload 5, 2) := by decide +kernel
theorem dL_law_1693 : decode cL_law 1693 = .ok (.iconst 1, 1) := by decide +kernel
theorem dL_law_1694 : decode cL_law 1694 = .ok (.iadd, 1) := by decide +kernel
theorem dL_law_1695 : decode cL_law 1695 = .ok (.iaload, 1) := by decide +kernel
theorem dL_law_1696 : decode cL_law 1696 = .ok (.aload_n 3, 1) := by decide +kernel
theorem dL_law_1697 : decode cL_law 1697 = .ok (.invokestatic 251, 3) := by decide +kernel
theorem dL_law_1700 : decode cL_law 1700 = .ok (.istore 6, 2) := by decide +kernel
theorem dL_law_1702 : decode cL_law 1702 = .ok (.aload_n 2, 1) := by decide +kernel
theorem dL_law_1703 : decode cL_law 1703 = .ok (.aload_n 0, 1) := by decide +kernel
theorem dL_law_1704 : decode cL_law 1704 = .ok (.iload 5, 2) := by decide +kernel
theorem dL_law_1706 : decode cL_law 1706 = .ok (.iconst 1, 1) := by decide +kernel
theorem dL_law_1707 : decode cL_law 1707 = .ok (.iadd, 1) := by decide +kernel
theorem dL_law_1708 : decode cL_law 1708 = .ok (.iaload, 1) := by decide +kernel
theorem dL_law_1709 : decode cL_law 1709 = .ok (.invokevirtual 253, 3) := by decide +kernel
theorem dL_law_1712 : decode cL_law 1712 = .ok (.istore 7, 2) := by decide +kernel
theorem dL_law_1714 : decode cL_law 1714 = .ok (.aload_n 2, 1) := by decide +kernel
theorem dL_law_1715 : decode cL_law 1715 = .ok (.invokevirtual 145, 3) := by decide +kernel
theorem dL_law_1718 : decode cL_law 1718 = .ok (.iload 6, 2) := by decide +kernel
theorem dL_law_1720 : decode cL_law 1720 = .ok (.if_icmp .eq 5, 3) := by decide +kernel
theorem dL_law_1723 : decode cL_law 1723 = .ok (.iconst 0, 1) := by decide +kernel
theorem dL_law_1724 : decode cL_law 1724 = .ok (.ireturn, 1) := by decide +kernel
theorem dL_law_1725 : decode cL_law 1725 = .ok (.iload 6, 2) := by decide +kernel
theorem dL_law_1727 : decode cL_law 1727 = .ok (.ifCond .ne 22, 3) := by decide +kernel
theorem dL_law_1730 : decode cL_law 1730 = .ok (.aload_n 3, 1) := by decide +kernel
theorem dL_law_1731 : decode cL_law 1731 = .ok (.iconst 0, 1) := by decide +kernel
theorem dL_law_1732 : decode cL_law 1732 = .ok (.laload, 1) := by decide +kernel
theorem dL_law_1733 : decode cL_law 1733 = .ok (.iload 7, 2) := by decide +kernel
theorem dL_law_1735 : decode cL_law 1735 = .ok (.ifCond .eq 7, 3) := by decide +kernel
theorem dL_law_1738 : decode cL_law 1738 = .ok (.lconst 1, 1) := by decide +kernel
theorem dL_law_1739 : decode cL_law 1739 = .ok (.goto 4, 3) := by decide +kernel
theorem dL_law_1742 : decode cL_law 1742 = .ok (.lconst 0, 1) := by decide +kernel
theorem dL_law_1743 : decode cL_law 1743 = .ok (.lcmp, 1) := by decide +kernel
theorem dL_law_1744 : decode cL_law 1744 = .ok (.ifCond .eq 5, 3) := by decide +kernel
theorem dL_law_1747 : decode cL_law 1747 = .ok (.iconst 0, 1) := by decide +kernel
theorem dL_law_1748 : decode cL_law 1748 = .ok (.ireturn, 1) := by decide +kernel
theorem dL_law_1749 : decode cL_law 1749 = .ok (.goto 461, 3) := by decide +kernel
theorem dL_law_1752 : decode cL_law 1752 = .ok (.aload_n 1, 1) := by decide +kernel
theorem dL_law_1753 : decode cL_law 1753 = .ok (.aload_n 3, 1) := by decide +kernel
theorem dL_law_1754 : decode cL_law 1754 = .ok (.invokestatic 254, 3) := by decide +kernel
theorem dL_law_1757 : decode cL_law 1757 = .ok (.istore 6, 2) := by decide +kernel
theorem dL_law_1759 : decode cL_law 1759 = .ok (.aload_n 2, 1) := by decide +kernel
theorem dL_law_1760 : decode cL_law 1760 = .ok (.invokevirtual 256, 3) := by decide +kernel
theorem dL_law_1763 : decode cL_law 1763 = .ok (.istore 7, 2) := by decide +kernel
theorem dL_law_1765 : decode cL_law 1765 = .ok (.aload_n 2, 1) := by decide +kernel
theorem dL_law_1766 : decode cL_law 1766 = .ok (.invokevirtual 145, 3) := by decide +kernel
theorem dL_law_1769 : decode cL_law 1769 = .ok (.iload 6, 2) := by decide +kernel
theorem dL_law_1771 : decode cL_law 1771 = .ok (.if_icmp .eq 5, 3) := by decide +kernel
theorem dL_law_1774 : decode cL_law 1774 = .ok (.iconst 0, 1) := by decide +kernel
theorem dL_law_1775 : decode cL_law 1775 = .ok (.ireturn, 1) := by decide +kernel
theorem dL_law_1776 : decode cL_law 1776 = .ok (.iload 6, 2) := by decide +kernel
theorem dL_law_1778 : decode cL_law 1778 = .ok (.ifCond .ne 15, 3) := by decide +kernel
theorem dL_law_1781 : decode cL_law 1781 = .ok (.aload_n 3, 1) := by decide +kernel
theorem dL_law_1782 : decode cL_law 1782 = .ok (.iconst 0, 1) := by decide +kernel
theorem dL_law_1783 : decode cL_law 1783 = .ok (.laload, 1) := by decide +kernel
theorem dL_law_1784 : decode cL_law 1784 = .ok (.iload 7, 2) := by decide +kernel
theorem dL_law_1786 : decode cL_law 1786 = .ok (.i2l, 1) := by decide +kernel
theorem dL_law_1787 : decode cL_law 1787 = .ok (.lcmp, 1) := by decide +kernel
theorem dL_law_1788 : decode cL_law 1788 = .ok (.ifCond .eq 5, 3) := by decide +kernel
theorem dL_law_1791 : decode cL_law 1791 = .ok (.iconst 0, 1) := by decide +kernel
theorem dL_law_1792 : decode cL_law 1792 = .ok (.ireturn, 1) := by decide +kernel
theorem dL_law_1793 : decode cL_law 1793 = .ok (.goto 417, 3) := by decide +kernel
theorem dL_law_1796 : decode cL_law 1796 = .ok (.aload_n 1, 1) := by decide +kernel
theorem dL_law_1797 : decode cL_law 1797 = .ok (.aload_n 0, 1) := by decide +kernel
theorem dL_law_1798 : decode cL_law 1798 = .ok (.iload 5, 2) := by decide +kernel
theorem dL_law_1800 : decode cL_law 1800 = .ok (.iconst 1, 1) := by decide +kernel
theorem dL_law_1801 : decode cL_law 1801 = .ok (.iadd, 1) := by decide +kernel
theorem dL_law_1802 : decode cL_law 1802 = .ok (.iaload, 1) := by decide +kernel
theorem dL_law_1803 : decode cL_law 1803 = .ok (.aload_n 3, 1) := by decide +kernel
theorem dL_law_1804 : decode cL_law 1804 = .ok (.invokestatic 257, 3) := by decide +kernel
theorem dL_law_1807 : decode cL_law 1807 = .ok (.istore 6, 2) := by decide +kernel
theorem dL_law_1809 : decode cL_law 1809 = .ok (.aload_n 2, 1) := by decide +kernel
theorem dL_law_1810 : decode cL_law 1810 = .ok (.aload_n 0, 1) := by decide +kernel
theorem dL_law_1811 : decode cL_law 1811 = .ok (.iload 5, 2) := by decide +kernel
theorem dL_law_1813 : decode cL_law 1813 = .ok (.iconst 1, 1) := by decide +kernel
theorem dL_law_1814 : decode cL_law 1814 = .ok (.iadd, 1) := by decide +kernel
theorem dL_law_1815 : decode cL_law 1815 = .ok (.iaload, 1) := by decide +kernel
theorem dL_law_1816 : decode cL_law 1816 = .ok (.invokevirtual 259, 3) := by decide +kernel
theorem dL_law_1819 : decode cL_law 1819 = .ok (.istore 7, 2) := by decide +kernel
theorem dL_law_1821 : decode cL_law 1821 = .ok (.aload_n 2, 1) := by decide +kernel
theorem dL_law_1822 : decode cL_law 1822 = .ok (.invokevirtual 145, 3) := by decide +kernel
theorem dL_law_1825 : decode cL_law 1825 = .ok (.iload 6, 2) := by decide +kernel
theorem dL_law_1827 : decode cL_law 1827 = .ok (.if_icmp .eq 5, 3) := by decide +kernel
theorem dL_law_1830 : decode cL_law 1830 = .ok (.iconst 0, 1) := by decide +kernel
theorem dL_law_1831 : decode cL_law 1831 = .ok (.ireturn, 1) := by decide +kernel
theorem dL_law_1832 : decode cL_law 1832 = .ok (.iload 6, 2) := by decide +kernel
theorem dL_law_1834 : decode cL_law 1834 = .ok (.ifCond .ne 15, 3) := by decide +kernel
theorem dL_law_1837 : decode cL_law 1837 = .ok (.aload_n 3, 1) := by decide +kernel
theorem dL_law_1838 : decode cL_law 1838 = .ok (.iconst 0, 1) := by decide +kernel
theorem dL_law_1839 : decode cL_law 1839 = .ok (.laload, 1) := by decide +kernel
theorem dL_law_1840 : decode cL_law 1840 = .ok (.iload 7, 2) := by decide +kernel
theorem dL_law_1842 : decode cL_law 1842 = .ok (.i2l, 1) := by decide +kernel
theorem dL_law_1843 : decode cL_law 1843 = .ok (.lcmp, 1) := by decide +kernel
theorem dL_law_1844 : decode cL_law 1844 = .ok (.ifCond .eq 5, 3) := by decide +kernel
theorem dL_law_1847 : decode cL_law 1847 = .ok (.iconst 0, 1) := by decide +kernel
theorem dL_law_1848 : decode cL_law 1848 = .ok (.ireturn, 1) := by decide +kernel
theorem dL_law_1849 : decode cL_law 1849 = .ok (.goto 361, 3) := by decide +kernel
theorem dL_law_1852 : decode cL_law 1852 = .ok (.aload_n 1, 1) := by decide +kernel
theorem dL_law_1853 : decode cL_law 1853 = .ok (.aload_n 3, 1) := by decide +kernel
theorem dL_law_1854 : decode cL_law 1854 = .ok (.invokestatic 260, 3) := by decide +kernel
theorem dL_law_1857 : decode cL_law 1857 = .ok (.istore 6, 2) := by decide +kernel
theorem dL_law_1859 : decode cL_law 1859 = .ok (.aload_n 2, 1) := by decide +kernel
theorem dL_law_1860 : decode cL_law 1860 = .ok (.invokevirtual 262, 3) := by decide +kernel
theorem dL_law_1863 : decode cL_law 1863 = .ok (.istore 7, 2) := by decide +kernel
theorem dL_law_1865 : decode cL_law 1865 = .ok (.aload_n 2, 1) := by decide +kernel
theorem dL_law_1866 : decode cL_law 1866 = .ok (.invokevirtual 145, 3) := by decide +kernel
theorem dL_law_1869 : decode cL_law 1869 = .ok (.iload 6, 2) := by decide +kernel
theorem dL_law_1871 : decode cL_law 1871 = .ok (.if_icmp .eq 5, 3) := by decide +kernel
theorem dL_law_1874 : decode cL_law 1874 = .ok (.iconst 0, 1) := by decide +kernel
theorem dL_law_1875 : decode cL_law 1875 = .ok (.ireturn, 1) := by decide +kernel
theorem dL_law_1876 : decode cL_law 1876 = .ok (.iload 6, 2) := by decide +kernel
theorem dL_law_1878 : decode cL_law 1878 = .ok (.ifCond .ne 22, 3) := by decide +kernel
theorem dL_law_1881 : decode cL_law 1881 = .ok (.aload_n 3, 1) := by decide +kernel
theorem dL_law_1882 : decode cL_law 1882 = .ok (.iconst 0, 1) := by decide +kernel
theorem dL_law_1883 : decode cL_law 1883 = .ok (.laload, 1) := by decide +kernel
theorem dL_law_1884 : decode cL_law 1884 = .ok (.iload 7, 2) := by decide +kernel
theorem dL_law_1886 : decode cL_law 1886 = .ok (.ifCond .eq 7, 3) := by decide +kernel
theorem dL_law_1889 : decode cL_law 1889 = .ok (.lconst 1, 1) := by decide +kernel
theorem dL_law_1890 : decode cL_law 1890 = .ok (.goto 4, 3) := by decide +kernel
theorem dL_law_1893 : decode cL_law 1893 = .ok (.lconst 0, 1) := by decide +kernel
theorem dL_law_1894 : decode cL_law 1894 = .ok (.lcmp, 1) := by decide +kernel
theorem dL_law_1895 : decode cL_law 1895 = .ok (.ifCond .eq 5, 3) := by decide +kernel
theorem dL_law_1898 : decode cL_law 1898 = .ok (.iconst 0, 1) := by decide +kernel
theorem dL_law_1899 : decode cL_law 1899 = .ok (.ireturn, 1) := by decide +kernel
theorem dL_law_1900 : decode cL_law 1900 = .ok (.goto 310, 3) := by decide +kernel
theorem dL_law_1903 : decode cL_law 1903 = .ok (.aload_n 1, 1) := by decide +kernel
theorem dL_law_1904 : decode cL_law 1904 = .ok (.aload_n 0, 1) := by decide +kernel
theorem dL_law_1905 : decode cL_law 1905 = .ok (.iload 5, 2) := by decide +kernel
theorem dL_law_1907 : decode cL_law 1907 = .ok (.iconst 1, 1) := by decide +kernel
theorem dL_law_1908 : decode cL_law 1908 = .ok (.iadd, 1) := by decide +kernel
theorem dL_law_1909 : decode cL_law 1909 = .ok (.iaload, 1) := by decide +kernel
theorem dL_law_1910 : decode cL_law 1910 = .ok (.aload_n 3, 1) := by decide +kernel
theorem dL_law_1911 : decode cL_law 1911 = .ok (.invokestatic 263, 3) := by decide +kernel
theorem dL_law_1914 : decode cL_law 1914 = .ok (.istore 6, 2) := by decide +kernel
theorem dL_law_1916 : decode cL_law 1916 = .ok (.aload_n 2, 1) := by decide +kernel
theorem dL_law_1917 : decode cL_law 1917 = .ok (.aload_n 0, 1) := by decide +kernel
theorem dL_law_1918 : decode cL_law 1918 = .ok (.iload 5, 2) := by decide +kernel
theorem dL_law_1920 : decode cL_law 1920 = .ok (.iconst 1, 1) := by decide +kernel
theorem dL_law_1921 : decode cL_law 1921 = .ok (.iadd, 1) := by decide +kernel
theorem dL_law_1922 : decode cL_law 1922 = .ok (.iaload, 1) := by decide +kernel
theorem dL_law_1923 : decode cL_law 1923 = .ok (.invokevirtual 265, 3) := by decide +kernel
theorem dL_law_1926 : decode cL_law 1926 = .ok (.istore 7, 2) := by decide +kernel
theorem dL_law_1928 : decode cL_law 1928 = .ok (.aload_n 2, 1) := by decide +kernel
theorem dL_law_1929 : decode cL_law 1929 = .ok (.invokevirtual 145, 3) := by decide +kernel
theorem dL_law_1932 : decode cL_law 1932 = .ok (.iload 6, 2) := by decide +kernel
theorem dL_law_1934 : decode cL_law 1934 = .ok (.if_icmp .eq 5, 3) := by decide +kernel
theorem dL_law_1937 : decode cL_law 1937 = .ok (.iconst 0, 1) := by decide +kernel
theorem dL_law_1938 : decode cL_law 1938 = .ok (.ireturn, 1) := by decide +kernel
theorem dL_law_1939 : decode cL_law 1939 = .ok (.iload 6, 2) := by decide +kernel
theorem dL_law_1941 : decode cL_law 1941 = .ok (.ifCond .ne 15, 3) := by decide +kernel
theorem dL_law_1944 : decode cL_law 1944 = .ok (.aload_n 3, 1) := by decide +kernel
theorem dL_law_1945 : decode cL_law 1945 = .ok (.iconst 0, 1) := by decide +kernel
theorem dL_law_1946 : decode cL_law 1946 = .ok (.laload, 1) := by decide +kernel
theorem dL_law_1947 : decode cL_law 1947 = .ok (.iload 7, 2) := by decide +kernel
theorem dL_law_1949 : decode cL_law 1949 = .ok (.i2l, 1) := by decide +kernel
theorem dL_law_1950 : decode cL_law 1950 = .ok (.lcmp, 1) := by decide +kernel
theorem dL_law_1951 : decode cL_law 1951 = .ok (.ifCond .eq 5, 3) := by decide +kernel
theorem dL_law_1954 : decode cL_law 1954 = .ok (.iconst 0, 1) := by decide +kernel
theorem dL_law_1955 : decode cL_law 1955 = .ok (.ireturn, 1) := by decide +kernel
theorem dL_law_1956 : decode cL_law 1956 = .ok (.goto 254, 3) := by decide +kernel
theorem dL_law_1959 : decode cL_law 1959 = .ok (.aload_n 1, 1) := by decide +kernel
theorem dL_law_1960 : decode cL_law 1960 = .ok (.aload 4, 2) := by decide +kernel
theorem dL_law_1962 : decode cL_law 1962 = .ok (.invokestatic 266, 3) := by decide +kernel
theorem dL_law_1965 : decode cL_law 1965 = .ok (.istore 6, 2) := by decide +kernel
theorem dL_law_1967 : decode cL_law 1967 = .ok (.aload_n 2, 1) := by decide +kernel
theorem dL_law_1968 : decode cL_law 1968 = .ok (.invokevirtual 269, 3) := by decide +kernel
theorem dL_law_1971 : decode cL_law 1971 = .ok (.dstore 7, 2) := by decide +kernel
theorem dL_law_1973 : decode cL_law 1973 = .ok (.aload_n 2, 1) := by decide +kernel
theorem dL_law_1974 : decode cL_law 1974 = .ok (.invokevirtual 145, 3) := by decide +kernel
theorem dL_law_1977 : decode cL_law 1977 = .ok (.iload 6, 2) := by decide +kernel
theorem dL_law_1979 : decode cL_law 1979 = .ok (.if_icmp .eq 5, 3) := by decide +kernel
theorem dL_law_1982 : decode cL_law 1982 = .ok (.iconst 0, 1) := by decide +kernel
theorem dL_law_1983 : decode cL_law 1983 = .ok (.ireturn, 1) := by decide +kernel
theorem dL_law_1984 : decode cL_law 1984 = .ok (.iload 6, 2) := by decide +kernel
theorem dL_law_1986 : decode cL_law 1986 = .ok (.ifCond .ne 35, 3) := by decide +kernel
theorem dL_law_1989 : decode cL_law 1989 = .ok (.aload 4, 2) := by decide +kernel
theorem dL_law_1991 : decode cL_law 1991 = .ok (.iconst 0, 1) := by decide +kernel
theorem dL_law_1992 : decode cL_law 1992 = .ok (.daload, 1) := by decide +kernel
theorem dL_law_1993 : decode cL_law 1993 = .ok (.dload 7, 2) := by decide +kernel
theorem dL_law_1995 : decode cL_law 1995 = .ok (.dcmp .l, 1) := by decide +kernel
theorem dL_law_1996 : decode cL_law 1996 = .ok (.ifCond .eq 25, 3) := by decide +kernel
theorem dL_law_1999 : decode cL_law 1999 = .ok (.aload 4, 2) := by decide +kernel
theorem dL_law_2001 : decode cL_law 2001 = .ok (.iconst 0, 1) := by decide +kernel
theorem dL_law_2002 : decode cL_law 2002 = .ok (.daload, 1) := by decide +kernel
theorem dL_law_2003 : decode cL_law 2003 = .ok (.aload 4, 2) := by decide +kernel
theorem dL_law_2005 : decode cL_law 2005 = .ok (.iconst 0, 1) := by decide +kernel
theorem dL_law_2006 : decode cL_law 2006 = .ok (.daload, 1) := by decide +kernel
theorem dL_law_2007 : decode cL_law 2007 = .ok (.dcmp .l, 1) := by decide +kernel
theorem dL_law_2008 : decode cL_law 2008 = .ok (.ifCond .eq 11, 3) := by decide +kernel
theorem dL_law_2011 : decode cL_law 2011 = .ok (.dload 7, 2) := by decide +kernel
theorem dL_law_2013 : decode cL_law 2013 = .ok (.dload 7, 2) := by decide +kernel
theorem dL_law_2015 : decode cL_law 2015 = .ok (.dcmp .l, 1) := by decide +kernel
theorem dL_law_2016 : decode cL_law 2016 = .ok (.ifCond .ne 5, 3) := by decide +kernel
theorem dL_law_2019 : decode cL_law 2019 = .ok (.iconst 0, 1) := by decide +kernel
theorem dL_law_2020 : decode cL_law 2020 = .ok (.ireturn, 1) := by decide +kernel
theorem dL_law_2021 : decode cL_law 2021 = .ok (.goto 189, 3) := by decide +kernel
theorem dL_law_2024 : decode cL_law 2024 = .ok (.aload_n 1, 1) := by decide +kernel
theorem dL_law_2025 : decode cL_law 2025 = .ok (.aload 4, 2) := by decide +kernel
theorem dL_law_2027 : decode cL_law 2027 = .ok (.invokestatic 270, 3) := by decide +kernel
theorem dL_law_2030 : decode cL_law 2030 = .ok (.istore 6, 2) := by decide +kernel
theorem dL_law_2032 : decode cL_law 2032 = .ok (.aload_n 2, 1) := by decide +kernel
theorem dL_law_2033 : decode cL_law 2033 = .ok (.invokevirtual 272, 3) := by decide +kernel
theorem dL_law_2036 : decode cL_law 2036 = .ok (.dstore 7, 2) := by decide +kernel
theorem dL_law_2038 : decode cL_law 2038 = .ok (.aload_n 2, 1) := by decide +kernel
theorem dL_law_2039 : decode cL_law 2039 = .ok (.invokevirtual 145, 3) := by decide +kernel
theorem dL_law_2042 : decode cL_law 2042 = .ok (.iload 6, 2) := by decide +kernel
theorem dL_law_2044 : decode cL_law 2044 = .ok (.if_icmp .eq 5, 3) := by decide +kernel
theorem dL_law_2047 : decode cL_law 2047 = .ok (.iconst 0, 1) := by decide +kernel
theorem dL_law_2048 : decode cL_law 2048 = .ok (.ireturn, 1) := by decide +kernel
theorem dL_law_2049 : decode cL_law 2049 = .ok (.iload 6, 2) := by decide +kernel
theorem dL_law_2051 : decode cL_law 2051 = .ok (.ifCond .ne 35, 3) := by decide +kernel
theorem dL_law_2054 : decode cL_law 2054 = .ok (.aload 4, 2) := by decide +kernel
theorem dL_law_2056 : decode cL_law 2056 = .ok (.iconst 0, 1) := by decide +kernel
theorem dL_law_2057 : decode cL_law 2057 = .ok (.daload, 1) := by decide +kernel
theorem dL_law_2058 : decode cL_law 2058 = .ok (.dload 7, 2) := by decide +kernel
theorem dL_law_2060 : decode cL_law 2060 = .ok (.dcmp .l, 1) := by decide +kernel
theorem dL_law_2061 : decode cL_law 2061 = .ok (.ifCond .eq 25, 3) := by decide +kernel
theorem dL_law_2064 : decode cL_law 2064 = .ok (.aload 4, 2) := by decide +kernel
theorem dL_law_2066 : decode cL_law 2066 = .ok (.iconst 0, 1) := by decide +kernel
theorem dL_law_2067 : decode cL_law 2067 = .ok (.daload, 1) := by decide +kernel
theorem dL_law_2068 : decode cL_law 2068 = .ok (.aload 4, 2) := by decide +kernel
theorem dL_law_2070 : decode cL_law 2070 = .ok (.iconst 0, 1) := by decide +kernel
theorem dL_law_2071 : decode cL_law 2071 = .ok (.daload, 1) := by decide +kernel
theorem dL_law_2072 : decode cL_law 2072 = .ok (.dcmp .l, 1) := by decide +kernel
theorem dL_law_2073 : decode cL_law 2073 = .ok (.ifCond .eq 11, 3) := by decide +kernel
theorem dL_law_2076 : decode cL_law 2076 = .ok (.dload 7, 2) := by decide +kernel
theorem dL_law_2078 : decode cL_law 2078 = .ok (.dload 7, 2) := by decide +kernel
theorem dL_law_2080 : decode cL_law 2080 = .ok (.dcmp .l, 1) := by decide +kernel
theorem dL_law_2081 : decode cL_law 2081 = .ok (.ifCond .ne 5, 3) := by decide +kernel
theorem dL_law_2084 : decode cL_law 2084 = .ok (.iconst 0, 1) := by decide +kernel
theorem dL_law_2085 : decode cL_law 2085 = .ok (.ireturn, 1) := by decide +kernel
theorem dL_law_2086 : decode cL_law 2086 = .ok (.goto 124, 3) := by decide +kernel
theorem dL_law_2089 : decode cL_law 2089 = .ok (.aload_n 1, 1) := by decide +kernel
theorem dL_law_2090 : decode cL_law 2090 = .ok (.aload 4, 2) := by decide +kernel
theorem dL_law_2092 : decode cL_law 2092 = .ok (.invokestatic 273, 3) := by decide +kernel
theorem dL_law_2095 : decode cL_law 2095 = .ok (.istore 6, 2) := by decide +kernel
theorem dL_law_2097 : decode cL_law 2097 = .ok (.aload_n 2, 1) := by decide +kernel
theorem dL_law_2098 : decode cL_law 2098 = .ok (.invokevirtual 275, 3) := by decide +kernel
theorem dL_law_2101 : decode cL_law 2101 = .ok (.fstore 7, 2) := by decide +kernel
theorem dL_law_2103 : decode cL_law 2103 = .ok (.aload_n 2, 1) := by decide +kernel
theorem dL_law_2104 : decode cL_law 2104 = .ok (.invokevirtual 145, 3) := by decide +kernel
theorem dL_law_2107 : decode cL_law 2107 = .ok (.iload 6, 2) := by decide +kernel
theorem dL_law_2109 : decode cL_law 2109 = .ok (.if_icmp .eq 5, 3) := by decide +kernel
theorem dL_law_2112 : decode cL_law 2112 = .ok (.iconst 0, 1) := by decide +kernel
theorem dL_law_2113 : decode cL_law 2113 = .ok (.ireturn, 1) := by decide +kernel
theorem dL_law_2114 : decode cL_law 2114 = .ok (.iload 6, 2) := by decide +kernel
theorem dL_law_2116 : decode cL_law 2116 = .ok (.ifCond .ne 36, 3) := by decide +kernel
theorem dL_law_2119 : decode cL_law 2119 = .ok (.aload 4, 2) := by decide +kernel
theorem dL_law_2121 : decode cL_law 2121 = .ok (.iconst 0, 1) := by decide +kernel
theorem dL_law_2122 : decode cL_law 2122 = .ok (.daload, 1) := by decide +kernel
theorem dL_law_2123 : decode cL_law 2123 = .ok (.fload 7, 2) := by decide +kernel
theorem dL_law_2125 : decode cL_law 2125 = .ok (.f2d, 1) := by decide +kernel
theorem dL_law_2126 : decode cL_law 2126 = .ok (.dcmp .l, 1) := by decide +kernel
theorem dL_law_2127 : decode cL_law 2127 = .ok (.ifCond .eq 25, 3) := by decide +kernel
theorem dL_law_2130 : decode cL_law 2130 = .ok (.aload 4, 2) := by decide +kernel
theorem dL_law_2132 : decode cL_law 2132 = .ok (.iconst 0, 1) := by decide +kernel
theorem dL_law_2133 : decode cL_law 2133 = .ok (.daload, 1) := by decide +kernel
theorem dL_law_2134 : decode cL_law 2134 = .ok (.aload 4, 2) := by decide +kernel
theorem dL_law_2136 : decode cL_law 2136 = .ok (.iconst 0, 1) := by decide +kernel
theorem dL_law_2137 : decode cL_law 2137 = .ok (.daload, 1) := by decide +kernel
theorem dL_law_2138 : decode cL_law 2138 = .ok (.dcmp .l, 1) := by decide +kernel
theorem dL_law_2139 : decode cL_law 2139 = .ok (.ifCond .eq 11, 3) := by decide +kernel
theorem dL_law_2142 : decode cL_law 2142 = .ok (.fload 7, 2) := by decide +kernel
theorem dL_law_2144 : decode cL_law 2144 = .ok (.fload 7, 2) := by decide +kernel
theorem dL_law_2146 : decode cL_law 2146 = .ok (.fcmp .l, 1) := by decide +kernel
theorem dL_law_2147 : decode cL_law 2147 = .ok (.ifCond .ne 5, 3) := by decide +kernel
theorem dL_law_2150 : decode cL_law 2150 = .ok (.iconst 0, 1) := by decide +kernel
theorem dL_law_2151 : decode cL_law 2151 = .ok (.ireturn, 1) := by decide +kernel
theorem dL_law_2152 : decode cL_law 2152 = .ok (.goto 58, 3) := by decide +kernel
theorem dL_law_2155 : decode cL_law 2155 = .ok (.aload_n 1, 1) := by decide +kernel
theorem dL_law_2156 : decode cL_law 2156 = .ok (.invokevirtual 276, 3) := by decide +kernel
theorem dL_law_2159 : decode cL_law 2159 = .ok (.aload_n 2, 1) := by decide +kernel
theorem dL_law_2160 : decode cL_law 2160 = .ok (.invokevirtual 279, 3) := by decide +kernel
theorem dL_law_2163 : decode cL_law 2163 = .ok (.goto 47, 3) := by decide +kernel
theorem dL_law_2166 : decode cL_law 2166 = .ok (.aload_n 1, 1) := by decide +kernel
theorem dL_law_2167 : decode cL_law 2167 = .ok (.aload_n 3, 1) := by decide +kernel
theorem dL_law_2168 : decode cL_law 2168 = .ok (.invokestatic 280, 3) := by decide +kernel
theorem dL_law_2171 : decode cL_law 2171 = .ok (.istore 6, 2) := by decide +kernel
theorem dL_law_2173 : decode cL_law 2173 = .ok (.aload_n 2, 1) := by decide +kernel
theorem dL_law_2174 : decode cL_law 2174 = .ok (.invokevirtual 282, 3) := by decide +kernel
theorem dL_law_2177 : decode cL_law 2177 = .ok (.istore 7, 2) := by decide +kernel
theorem dL_law_2179 : decode cL_law 2179 = .ok (.aload_n 2, 1) := by decide +kernel
theorem dL_law_2180 : decode cL_law 2180 = .ok (.invokevirtual 145, 3) := by decide +kernel
theorem dL_law_2183 : decode cL_law 2183 = .ok (.iload 6, 2) := by decide +kernel
theorem dL_law_2185 : decode cL_law 2185 = .ok (.if_icmp .eq 5, 3) := by decide +kernel
theorem dL_law_2188 : decode cL_law 2188 = .ok (.iconst 0, 1) := by decide +kernel
theorem dL_law_2189 : decode cL_law 2189 = .ok (.ireturn, 1) := by decide +kernel
theorem dL_law_2190 : decode cL_law 2190 = .ok (.iload 6, 2) := by decide +kernel
theorem dL_law_2192 : decode cL_law 2192 = .ok (.ifCond .ne 15, 3) := by decide +kernel
theorem dL_law_2195 : decode cL_law 2195 = .ok (.aload_n 3, 1) := by decide +kernel
theorem dL_law_2196 : decode cL_law 2196 = .ok (.iconst 0, 1) := by decide +kernel
theorem dL_law_2197 : decode cL_law 2197 = .ok (.laload, 1) := by decide +kernel
theorem dL_law_2198 : decode cL_law 2198 = .ok (.iload 7, 2) := by decide +kernel
theorem dL_law_2200 : decode cL_law 2200 = .ok (.i2l, 1) := by decide +kernel
theorem dL_law_2201 : decode cL_law 2201 = .ok (.lcmp, 1) := by decide +kernel
theorem dL_law_2202 : decode cL_law 2202 = .ok (.ifCond .eq 5, 3) := by decide +kernel
theorem dL_law_2205 : decode cL_law 2205 = .ok (.iconst 0, 1) := by decide +kernel
theorem dL_law_2206 : decode cL_law 2206 = .ok (.ireturn, 1) := by decide +kernel
theorem dL_law_2207 : decode cL_law 2207 = .ok (.goto 3, 3) := by decide +kernel
theorem dL_law_2210 : decode cL_law 2210 = .ok (.iinc 5 4, 3) := by decide +kernel
theorem dL_law_2213 : decode cL_law 2213 = .ok (.goto (-2185), 3) := by decide +kernel
theorem dL_law_2216 : decode cL_law 2216 = .ok (.iconst 1, 1) := by decide +kernel
theorem dL_law_2217 : decode cL_law 2217 = .ok (.ireturn, 1) := by decide +kernel
