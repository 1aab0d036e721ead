theorem dX12_init_0 : decode cX12_init 0 = .ok (.aload_n 0, 1) := by decide +kernel
theorem dX12_init_1 : decode cX12_init 1 = .ok (.invokespecial 3, 3) := by decide +kernel
theorem dX12_init_4 : decode cX12_init 4 = .ok (.aload_n 0, 1) := by decide +kernel
theorem dX12_init_5 : decode cX12_init 5 = .ok (.sipush 158, 3) := by decide +kernel
theorem dX12_init_8 : decode cX12_init 8 = .ok (.newarray .int, 2) := by decide +kernel
theorem dX12_init_10 : decode cX12_init 10 = .ok (.putfield 9, 3) := by decide +kernel
theorem dX12_init_13 : decode cX12_init 13 = .ok (.aload_n 0, 1) := by decide +kernel
theorem dX12_init_14 : decode cX12_init 14 = .ok (.sipush 158, 3) := by decide +kernel
theorem dX12_init_17 : decode cX12_init 17 = .ok (.newarray .int, 2) := by decide +kernel
theorem dX12_init_19 : decode cX12_init 19 = .ok (.putfield 13, 3) := by decide +kernel
theorem dX12_init_22 : decode cX12_init 22 = .ok (.aload_n 0, 1) := by decide +kernel
theorem dX12_init_23 : decode cX12_init 23 = .ok (.sipush 158, 3) := by decide +kernel
theorem dX12_init_26 : decode cX12_init 26 = .ok (.newarray .int, 2) := by decide +kernel
theorem dX12_init_28 : decode cX12_init 28 = .ok (.putfield 16, 3) := by decide +kernel
theorem dX12_init_31 : decode cX12_init 31 = .ok (.aload_n 0, 1) := by decide +kernel
theorem dX12_init_32 : decode cX12_init 32 = .ok (.sipush 948, 3) := by decide +kernel
theorem dX12_init_35 : decode cX12_init 35 = .ok (.newarray .int, 2) := by decide +kernel
theorem dX12_init_37 : decode cX12_init 37 = .ok (.putfield 19, 3) := by decide +kernel
theorem dX12_init_40 : decode cX12_init 40 = .ok (.aload_n 0, 1) := by decide +kernel
theorem dX12_init_41 : decode cX12_init 41 = .ok (.bipush 6, 2) := by decide +kernel
theorem dX12_init_43 : decode cX12_init 43 = .ok (.newarray .int, 2) := by decide +kernel
theorem dX12_init_45 : decode cX12_init 45 = .ok (.putfield 22, 3) := by decide +kernel
theorem dX12_init_48 : decode cX12_init 48 = .ok (.aload_n 0, 1) := by decide +kernel
theorem dX12_init_49 : decode cX12_init 49 = .ok (.bipush 64, 2) := by decide +kernel
theorem dX12_init_51 : decode cX12_init 51 = .ok (.newarray .boolean, 2) := by decide +kernel
theorem dX12_init_53 : decode cX12_init 53 = .ok (.putfield 25, 3) := by decide +kernel
theorem dX12_init_56 : decode cX12_init 56 = .ok (.aload_n 0, 1) := by decide +kernel
theorem dX12_init_57 : decode cX12_init 57 = .ok (.bipush 40, 2) := by decide +kernel
theorem dX12_init_59 : decode cX12_init 59 = .ok (.newarray .char, 2) := by decide +kernel
theorem dX12_init_61 : decode cX12_init 61 = .ok (.putfield 29, 3) := by decide +kernel
theorem dX12_init_64 : decode cX12_init 64 = .ok (.aload_n 0, 1) := by decide +kernel
theorem dX12_init_65 : decode cX12_init 65 = .ok (.bipush 60, 2) := by decide +kernel
theorem dX12_init_67 : decode cX12_init 67 = .ok (.newarray .char, 2) := by decide +kernel
theorem dX12_init_69 : decode cX12_init 69 = .ok (.putfield 33, 3) := by decide +kernel
theorem dX12_init_72 : decode cX12_init 72 = .ok (.aload_n 0, 1) := by decide +kernel
theorem dX12_init_73 : decode cX12_init 73 = .ok (.iconst (-1), 1) := by decide +kernel
theorem dX12_init_74 : decode cX12_init 74 = .ok (.putfield 36, 3) := by decide +kernel
theorem dX12_init_77 : decode cX12_init 77 = .ok (.aload_n 0, 1) := by decide +kernel
theorem dX12_init_78 : decode cX12_init 78 = .ok (.sipush 300, 3) := by decide +kernel
theorem dX12_init_81 : decode cX12_init 81 = .ok (.newarray .int, 2) := by decide +kernel
theorem dX12_init_83 : decode cX12_init 83 = .ok (.putfield 40, 3) := by decide +kernel
theorem dX12_init_86 : decode cX12_init 86 = .ok (.aload_n 0, 1) := by decide +kernel
theorem dX12_init_87 : decode cX12_init 87 = .ok (.getfield 9, 3) := by decide +kernel
theorem dX12_init_90 : decode cX12_init 90 = .ok (.iconst 2, 1) := by decide +kernel
theorem dX12_init_91 : decode cX12_init 91 = .ok (.iconst 1, 1) := by decide +kernel
theorem dX12_init_92 : decode cX12_init 92 = .ok (.iastore, 1) := by decide +kernel
theorem dX12_init_93 : decode cX12_init 93 = .ok (.iconst 0, 1) := by decide +kernel
theorem dX12_init_94 : decode cX12_init 94 = .ok (.istore_n 1, 1) := by decide +kernel
theorem dX12_init_95 : decode cX12_init 95 = .ok (.iload_n 1, 1) := by decide +kernel
theorem dX12_init_96 : decode cX12_init 96 = .ok (.iconst 4, 1) := by decide +kernel
theorem dX12_init_97 : decode cX12_init 97 = .ok (.if_icmp .ge 22, 3) := by decide +kernel
theorem dX12_init_100 : decode cX12_init 100 = .ok (.aload_n 0, 1) := by decide +kernel
theorem dX12_init_101 : decode cX12_init 101 = .ok (.getfield 9, 3) := by decide +kernel
theorem dX12_init_104 : decode cX12_init 104 = .ok (.bipush 7, 2) := by decide +kernel
theorem dX12_init_106 : decode cX12_init 106 = .ok (.iconst 3, 1) := by decide +kernel
theorem dX12_init_107 : decode cX12_init 107 = .ok (.iload_n 1, 1) := by decide +kernel
theorem dX12_init_108 : decode cX12_init 108 = .ok (.imul, 1) := by decide +kernel
theorem dX12_init_109 : decode cX12_init 109 = .ok (.iadd, 1) := by decide +kernel
theorem dX12_init_110 : decode cX12_init 110 = .ok (.bipush 100, 2) := by decide +kernel
theorem dX12_init_112 : decode cX12_init 112 = .ok (.iastore, 1) := by decide +kernel
theorem dX12_init_113 : decode cX12_init 113 = .ok (.iinc 1 1, 3) := by decide +kernel
theorem dX12_init_116 : decode cX12_init 116 = .ok (.goto (-21), 3) := by decide +kernel
theorem dX12_init_119 : decode cX12_init 119 = .ok (.iconst 0, 1) := by decide +kernel
theorem dX12_init_120 : decode cX12_init 120 = .ok (.istore_n 1, 1) := by decide +kernel
theorem dX12_init_121 : decode cX12_init 121 = .ok (.iload_n 1, 1) := by decide +kernel
theorem dX12_init_122 : decode cX12_init 122 = .ok (.bipush 64, 2) := by decide +kernel
theorem dX12_init_124 : decode cX12_init 124 = .ok (.if_icmp .ge 19, 3) := by decide +kernel
theorem dX12_init_127 : decode cX12_init 127 = .ok (.aload_n 0, 1) := by decide +kernel
theorem dX12_init_128 : decode cX12_init 128 = .ok (.getfield 9, 3) := by decide +kernel
theorem dX12_init_131 : decode cX12_init 131 = .ok (.bipush 19, 2) := by decide +kernel
theorem dX12_init_133 : decode cX12_init 133 = .ok (.iload_n 1, 1) := by decide +kernel
theorem dX12_init_134 : decode cX12_init 134 = .ok (.iadd, 1) := by decide +kernel
theorem dX12_init_135 : decode cX12_init 135 = .ok (.iconst (-1), 1) := by decide +kernel
theorem dX12_init_136 : decode cX12_init 136 = .ok (.iastore, 1) := by decide +kernel
theorem dX12_init_137 : decode cX12_init 137 = .ok (.iinc 1 1, 3) := by decide +kernel
theorem dX12_init_140 : decode cX12_init 140 = .ok (.goto (-19), 3) := by decide +kernel
theorem dX12_init_143 : decode cX12_init 143 = .ok (.return_, 1) := by decide +kernel
theorem dX12_thrown_0 : decode cX12_thrown 0 = .ok (.aload_n 0, 1) := by decide +kernel
theorem dX12_thrown_1 : decode cX12_thrown 1 = .ok (.getfield 43, 3) := by decide +kernel
theorem dX12_thrown_4 : decode cX12_thrown 4 = .ok (.ireturn, 1) := by decide +kernel
theorem dX12_in_0 : decode cX12_in 0 = .ok (.iload_n 0, 1) := by decide +kernel
theorem dX12_in_1 : decode cX12_in 1 = .ok (.iload_n 1, 1) := by decide +kernel
theorem dX12_in_2 : decode cX12_in 2 = .ok (.if_icmp .lt 12, 3) := by decide +kernel
theorem dX12_in_5 : decode cX12_in 5 = .ok (.iload_n 0, 1) := by decide +kernel
theorem dX12_in_6 : decode cX12_in 6 = .ok (.iload_n 2, 1) := by decide +kernel
theorem dX12_in_7 : decode cX12_in 7 = .ok (.if_icmp .gt 7, 3) := by decide +kernel
theorem dX12_in_10 : decode cX12_in 10 = .ok (.iconst 1, 1) := by decide +kernel
theorem dX12_in_11 : decode cX12_in 11 = .ok (.goto 4, 3) := by decide +kernel
theorem dX12_in_14 : decode cX12_in 14 = .ok (.iconst 0, 1) := by decide +kernel
theorem dX12_in_15 : decode cX12_in 15 = .ok (.ireturn, 1) := by decide +kernel
theorem dX12_keep_0 : decode cX12_keep 0 = .ok (.aload_n 0, 1) := by decide +kernel
theorem dX12_keep_1 : decode cX12_keep 1 = .ok (.iconst 0, 1) := by decide +kernel
theorem dX12_keep_2 : decode cX12_keep 2 = .ok (.putfield 43, 3) := by decide +kernel
theorem dX12_keep_5 : decode cX12_keep 5 = .ok (.aload_n 0, 1) := by decide +kernel
theorem dX12_keep_6 : decode cX12_keep 6 = .ok (.getfield 9, 3) := by decide +kernel
theorem dX12_keep_9 : decode cX12_keep 9 = .ok (.iconst 0, 1) := by decide +kernel
theorem dX12_keep_10 : decode cX12_keep 10 = .ok (.aload_n 0, 1) := by decide +kernel
theorem dX12_keep_11 : decode cX12_keep 11 = .ok (.getfield 13, 3) := by decide +kernel
theorem dX12_keep_14 : decode cX12_keep 14 = .ok (.iconst 0, 1) := by decide +kernel
theorem dX12_keep_15 : decode cX12_keep 15 = .ok (.sipush 158, 3) := by decide +kernel
theorem dX12_keep_18 : decode cX12_keep 18 = .ok (.invokestatic 46, 3) := by decide +kernel
theorem dX12_keep_21 : decode cX12_keep 21 = .ok (.return_, 1) := by decide +kernel
theorem dX12_ends_0 : decode cX12_ends 0 = .ok (.aload_n 0, 1) := by decide +kernel
theorem dX12_ends_1 : decode cX12_ends 1 = .ok (.getfield 43, 3) := by decide +kernel
theorem dX12_ends_4 : decode cX12_ends 4 = .ok (.ifCond .le 21, 3) := by decide +kernel
theorem dX12_ends_7 : decode cX12_ends 7 = .ok (.aload_n 0, 1) := by decide +kernel
theorem dX12_ends_8 : decode cX12_ends 8 = .ok (.getfield 13, 3) := by decide +kernel
theorem dX12_ends_11 : decode cX12_ends 11 = .ok (.iconst 0, 1) := by decide +kernel
theorem dX12_ends_12 : decode cX12_ends 12 = .ok (.aload_n 0, 1) := by decide +kernel
theorem dX12_ends_13 : decode cX12_ends 13 = .ok (.getfield 9, 3) := by decide +kernel
theorem dX12_ends_16 : decode cX12_ends 16 = .ok (.iconst 0, 1) := by decide +kernel
theorem dX12_ends_17 : decode cX12_ends 17 = .ok (.sipush 158, 3) := by decide +kernel
theorem dX12_ends_20 : decode cX12_ends 20 = .ok (.invokestatic 46, 3) := by decide +kernel
theorem dX12_ends_23 : decode cX12_ends 23 = .ok (.iconst 0, 1) := by decide +kernel
theorem dX12_ends_24 : decode cX12_ends 24 = .ok (.ireturn, 1) := by decide +kernel
theorem dX12_ends_25 : decode cX12_ends 25 = .ok (.aload_n 0, 1) := by decide +kernel
theorem dX12_ends_26 : decode cX12_ends 26 = .ok (.getfield 52, 3) := by decide +kernel
theorem dX12_ends_29 : decode cX12_ends 29 = .ok (.bipush 6, 2) := by decide +kernel
theorem dX12_ends_31 : decode cX12_ends 31 = .ok (.if_icmp .ne 31, 3) := by decide +kernel
theorem dX12_ends_34 : decode cX12_ends 34 = .ok (.aload_n 0, 1) := by decide +kernel
theorem dX12_ends_35 : decode cX12_ends 35 = .ok (.getfield 19, 3) := by decide +kernel
theorem dX12_ends_38 : decode cX12_ends 38 = .ok (.sipush 158, 3) := by decide +kernel
theorem dX12_ends_41 : decode cX12_ends 41 = .ok (.aload_n 0, 1) := by decide +kernel
theorem dX12_ends_42 : decode cX12_ends 42 = .ok (.getfield 19, 3) := by decide +kernel
theorem dX12_ends_45 : decode cX12_ends 45 = .ok (.iconst 0, 1) := by decide +kernel
theorem dX12_ends_46 : decode cX12_ends 46 = .ok (.sipush 790, 3) := by decide +kernel
theorem dX12_ends_49 : decode cX12_ends 49 = .ok (.invokestatic 46, 3) := by decide +kernel
theorem dX12_ends_52 : decode cX12_ends 52 = .ok (.aload_n 0, 1) := by decide +kernel
theorem dX12_ends_53 : decode cX12_ends 53 = .ok (.dup, 1) := by decide +kernel
theorem dX12_ends_54 : decode cX12_ends 54 = .ok (.getfield 52, 3) := by decide +kernel
theorem dX12_ends_57 : decode cX12_ends 57 = .ok (.iconst 1, 1) := by decide +kernel
theorem dX12_ends_58 : decode cX12_ends 58 = .ok (.isub, 1) := by decide +kernel
theorem dX12_ends_59 : decode cX12_ends 59 = .ok (.putfield 52, 3) := by decide +kernel
theorem dX12_ends_62 : decode cX12_ends 62 = .ok (.aload_n 0, 1) := by decide +kernel
theorem dX12_ends_63 : decode cX12_ends 63 = .ok (.getfield 13, 3) := by decide +kernel
theorem dX12_ends_66 : decode cX12_ends 66 = .ok (.iconst 0, 1) := by decide +kernel
theorem dX12_ends_67 : decode cX12_ends 67 = .ok (.aload_n 0, 1) := by decide +kernel
theorem dX12_ends_68 : decode cX12_ends 68 = .ok (.getfield 19, 3) := by decide +kernel
theorem dX12_ends_71 : decode cX12_ends 71 = .ok (.sipush 158, 3) := by decide +kernel
theorem dX12_ends_74 : decode cX12_ends 74 = .ok (.aload_n 0, 1) := by decide +kernel
theorem dX12_ends_75 : decode cX12_ends 75 = .ok (.getfield 52, 3) := by decide +kernel
theorem dX12_ends_78 : decode cX12_ends 78 = .ok (.imul, 1) := by decide +kernel
theorem dX12_ends_79 : decode cX12_ends 79 = .ok (.sipush 158, 3) := by decide +kernel
theorem dX12_ends_82 : decode cX12_ends 82 = .ok (.invokestatic 46, 3) := by decide +kernel
theorem dX12_ends_85 : decode cX12_ends 85 = .ok (.aload_n 0, 1) := by decide +kernel
theorem dX12_ends_86 : decode cX12_ends 86 = .ok (.dup, 1) := by decide +kernel
theorem dX12_ends_87 : decode cX12_ends 87 = .ok (.getfield 52, 3) := by decide +kernel
theorem dX12_ends_90 : decode cX12_ends 90 = .ok (.iconst 1, 1) := by decide +kernel
theorem dX12_ends_91 : decode cX12_ends 91 = .ok (.iadd, 1) := by decide +kernel
theorem dX12_ends_92 : decode cX12_ends 92 = .ok (.putfield 52, 3) := by decide +kernel
theorem dX12_ends_95 : decode cX12_ends 95 = .ok (.iload_n 1, 1) := by decide +kernel
theorem dX12_ends_96 : decode cX12_ends 96 = .ok (.ireturn, 1) := by decide +kernel
theorem dX12_fails_0 : decode cX12_fails 0 = .ok (.aload_n 0, 1) := by decide +kernel
theorem dX12_fails_1 : decode cX12_fails 1 = .ok (.iload_n 1, 1) := by decide +kernel
theorem dX12_fails_2 : decode cX12_fails 2 = .ok (.putfield 43, 3) := by decide +kernel
theorem dX12_fails_5 : decode cX12_fails 5 = .ok (.iconst 0, 1) := by decide +kernel
theorem dX12_fails_6 : decode cX12_fails 6 = .ok (.ireturn, 1) := by decide +kernel
theorem dX12_refuse_0 : decode cX12_refuse 0 = .ok (.aload_n 0, 1) := by decide +kernel
theorem dX12_refuse_1 : decode cX12_refuse 1 = .ok (.iload_n 1, 1) := by decide +kernel
theorem dX12_refuse_2 : decode cX12_refuse 2 = .ok (.iload_n 2, 1) := by decide +kernel
theorem dX12_refuse_3 : decode cX12_refuse 3 = .ok (.iload_n 3, 1) := by decide +kernel
theorem dX12_refuse_4 : decode cX12_refuse 4 = .ok (.iconst 0, 1) := by decide +kernel
theorem dX12_refuse_5 : decode cX12_refuse 5 = .ok (.iconst 0, 1) := by decide +kernel
theorem dX12_refuse_6 : decode cX12_refuse 6 = .ok (.invokevirtual 55, 3) := by decide +kernel
theorem dX12_refuse_9 : decode cX12_refuse 9 = .ok (.ireturn, 1) := by decide +kernel
theorem dX12_refuseFor_0 : decode cX12_refuseFor 0 = .ok (.aload_n 0, 1) := by decide +kernel
theorem dX12_refuseFor_1 : decode cX12_refuseFor 1 = .ok (.iload_n 1, 1) := by decide +kernel
theorem dX12_refuseFor_2 : decode cX12_refuseFor 2 = .ok (.putfield 43, 3) := by decide +kernel
theorem dX12_refuseFor_5 : decode cX12_refuseFor 5 = .ok (.aload_n 0, 1) := by decide +kernel
theorem dX12_refuseFor_6 : decode cX12_refuseFor 6 = .ok (.iconst 1, 1) := by decide +kernel
theorem dX12_refuseFor_7 : decode cX12_refuseFor 7 = .ok (.putfield 59, 3) := by decide +kernel
theorem dX12_refuseFor_10 : decode cX12_refuseFor 10 = .ok (.aload_n 0, 1) := by decide +kernel
theorem dX12_refuseFor_11 : decode cX12_refuseFor 11 = .ok (.getfield 22, 3) := by decide +kernel
theorem dX12_refuseFor_14 : decode cX12_refuseFor 14 = .ok (.iconst 0, 1) := by decide +kernel
theorem dX12_refuseFor_15 : decode cX12_refuseFor 15 = .ok (.iload_n 2, 1) := by decide +kernel
theorem dX12_refuseFor_16 : decode cX12_refuseFor 16 = .ok (.iastore, 1) := by decide +kernel
theorem dX12_refuseFor_17 : decode cX12_refuseFor 17 = .ok (.aload_n 0, 1) := by decide +kernel
theorem dX12_refuseFor_18 : decode cX12_refuseFor 18 = .ok (.getfield 22, 3) := by decide +kernel
theorem dX12_refuseFor_21 : decode cX12_refuseFor 21 = .ok (.iconst 1, 1) := by decide +kernel
theorem dX12_refuseFor_22 : decode cX12_refuseFor 22 = .ok (.iload_n 3, 1) := by decide +kernel
theorem dX12_refuseFor_23 : decode cX12_refuseFor 23 = .ok (.iastore, 1) := by decide +kernel
theorem dX12_refuseFor_24 : decode cX12_refuseFor 24 = .ok (.aload_n 0, 1) := by decide +kernel
theorem dX12_refuseFor_25 : decode cX12_refuseFor 25 = .ok (.getfield 22, 3) := by decide +kernel
theorem dX12_refuseFor_28 : decode cX12_refuseFor 28 = .ok (.iconst 2, 1) := by decide +kernel
theorem dX12_refuseFor_29 : decode cX12_refuseFor 29 = .ok (.iload 4, 2) := by decide +kernel
theorem dX12_refuseFor_31 : decode cX12_refuseFor 31 = .ok (.iastore, 1) := by decide +kernel
theorem dX12_refuseFor_32 : decode cX12_refuseFor 32 = .ok (.aload_n 0, 1) := by decide +kernel
theorem dX12_refuseFor_33 : decode cX12_refuseFor 33 = .ok (.getfield 22, 3) := by decide +kernel
theorem dX12_refuseFor_36 : decode cX12_refuseFor 36 = .ok (.iconst 3, 1) := by decide +kernel
theorem dX12_refuseFor_37 : decode cX12_refuseFor 37 = .ok (.iload 5, 2) := by decide +kernel
theorem dX12_refuseFor_39 : decode cX12_refuseFor 39 = .ok (.iastore, 1) := by decide +kernel
theorem dX12_refuseFor_40 : decode cX12_refuseFor 40 = .ok (.aload_n 0, 1) := by decide +kernel
theorem dX12_refuseFor_41 : decode cX12_refuseFor 41 = .ok (.getfield 22, 3) := by decide +kernel
theorem dX12_refuseFor_44 : decode cX12_refuseFor 44 = .ok (.iconst 4, 1) := by decide +kernel
theorem dX12_refuseFor_45 : decode cX12_refuseFor 45 = .ok (.iconst 0, 1) := by decide +kernel
theorem dX12_refuseFor_46 : decode cX12_refuseFor 46 = .ok (.iastore, 1) := by decide +kernel
theorem dX12_refuseFor_47 : decode cX12_refuseFor 47 = .ok (.aload_n 0, 1) := by decide +kernel
theorem dX12_refuseFor_48 : decode cX12_refuseFor 48 = .ok (.getfield 22, 3) := by decide +kernel
theorem dX12_refuseFor_51 : decode cX12_refuseFor 51 = .ok (.iconst 5, 1) := by decide +kernel
theorem dX12_refuseFor_52 : decode cX12_refuseFor 52 = .ok (.iconst 0, 1) := by decide +kernel
theorem dX12_refuseFor_53 : decode cX12_refuseFor 53 = .ok (.iastore, 1) := by decide +kernel
theorem dX12_refuseFor_54 : decode cX12_refuseFor 54 = .ok (.iconst 0, 1) := by decide +kernel
theorem dX12_refuseFor_55 : decode cX12_refuseFor 55 = .ok (.ireturn, 1) := by decide +kernel
theorem dX12_reason_0 : decode cX12_reason 0 = .ok (.aload_n 0, 1) := by decide +kernel
theorem dX12_reason_1 : decode cX12_reason 1 = .ok (.iload_n 1, 1) := by decide +kernel
theorem dX12_reason_2 : decode cX12_reason 2 = .ok (.iconst 0, 1) := by decide +kernel
theorem dX12_reason_3 : decode cX12_reason 3 = .ok (.iconst 2, 1) := by decide +kernel
theorem dX12_reason_4 : decode cX12_reason 4 = .ok (.invokestatic 63, 3) := by decide +kernel
theorem dX12_reason_7 : decode cX12_reason 7 = .ok (.ifCond .ne 7, 3) := by decide +kernel
theorem dX12_reason_10 : decode cX12_reason 10 = .ok (.iconst 1, 1) := by decide +kernel
theorem dX12_reason_11 : decode cX12_reason 11 = .ok (.goto 4, 3) := by decide +kernel
theorem dX12_reason_14 : decode cX12_reason 14 = .ok (.iconst 0, 1) := by decide +kernel
theorem dX12_reason_15 : decode cX12_reason 15 = .ok (.putfield 43, 3) := by decide +kernel
theorem dX12_reason_18 : decode cX12_reason 18 = .ok (.aload_n 0, 1) := by decide +kernel
theorem dX12_reason_19 : decode cX12_reason 19 = .ok (.aload_n 0, 1) := by decide +kernel
theorem dX12_reason_20 : decode cX12_reason 20 = .ok (.getfield 43, 3) := by decide +kernel
theorem dX12_reason_23 : decode cX12_reason 23 = .ok (.ifCond .ne 18, 3) := by decide +kernel
theorem dX12_reason_26 : decode cX12_reason 26 = .ok (.aload_n 0, 1) := by decide +kernel
theorem dX12_reason_27 : decode cX12_reason 27 = .ok (.getfield 22, 3) := by decide +kernel
theorem dX12_reason_30 : decode cX12_reason 30 = .ok (.iconst 2, 1) := by decide +kernel
theorem dX12_reason_31 : decode cX12_reason 31 = .ok (.iload_n 1, 1) := by decide +kernel
theorem dX12_reason_32 : decode cX12_reason 32 = .ok (.imul, 1) := by decide +kernel
theorem dX12_reason_33 : decode cX12_reason 33 = .ok (.iaload, 1) := by decide +kernel
theorem dX12_reason_34 : decode cX12_reason 34 = .ok (.ifCond .ne 7, 3) := by decide +kernel
theorem dX12_reason_37 : decode cX12_reason 37 = .ok (.iconst 2, 1) := by decide +kernel
theorem dX12_reason_38 : decode cX12_reason 38 = .ok (.goto 7, 3) := by decide +kernel
theorem dX12_reason_41 : decode cX12_reason 41 = .ok (.aload_n 0, 1) := by decide +kernel
theorem dX12_reason_42 : decode cX12_reason 42 = .ok (.getfield 43, 3) := by decide +kernel
theorem dX12_reason_45 : decode cX12_reason 45 = .ok (.putfield 43, 3) := by decide +kernel
theorem dX12_reason_48 : decode cX12_reason 48 = .ok (.aload_n 0, 1) := by decide +kernel
theorem dX12_reason_49 : decode cX12_reason 49 = .ok (.getfield 43, 3) := by decide +kernel
theorem dX12_reason_52 : decode cX12_reason 52 = .ok (.ifCond .le 7, 3) := by decide +kernel
theorem dX12_reason_55 : decode cX12_reason 55 = .ok (.iconst 0, 1) := by decide +kernel
theorem dX12_reason_56 : decode cX12_reason 56 = .ok (.goto 21, 3) := by decide +kernel
theorem dX12_reason_59 : decode cX12_reason 59 = .ok (.aload_n 0, 1) := by decide +kernel
theorem dX12_reason_60 : decode cX12_reason 60 = .ok (.getfield 22, 3) := by decide +kernel
theorem dX12_reason_63 : decode cX12_reason 63 = .ok (.iconst 2, 1) := by decide +kernel
theorem dX12_reason_64 : decode cX12_reason 64 = .ok (.iload_n 1, 1) := by decide +kernel
theorem dX12_reason_65 : decode cX12_reason 65 = .ok (.imul, 1) := by decide +kernel
theorem dX12_reason_66 : decode cX12_reason 66 = .ok (.iload_n 2, 1) := by decide +kernel
theorem dX12_reason_67 : decode cX12_reason 67 = .ok (.ifCond .eq 7, 3) := by decide +kernel
theorem dX12_reason_70 : decode cX12_reason 70 = .ok (.iconst 1, 1) := by decide +kernel
theorem dX12_reason_71 : decode cX12_reason 71 = .ok (.goto 4, 3) := by decide +kernel
theorem dX12_reason_74 : decode cX12_reason 74 = .ok (.iconst 0, 1) := by decide +kernel
theorem dX12_reason_75 : decode cX12_reason 75 = .ok (.iadd, 1) := by decide +kernel
theorem dX12_reason_76 : decode cX12_reason 76 = .ok (.iaload, 1) := by decide +kernel
theorem dX12_reason_77 : decode cX12_reason 77 = .ok (.ireturn, 1) := by decide +kernel
theorem dX12_isCell_0 : decode cX12_isCell 0 = .ok (.iload_n 0, 1) := by decide +kernel
theorem dX12_isCell_1 : decode cX12_isCell 1 = .ok (.iconst 0, 1) := by decide +kernel
theorem dX12_isCell_2 : decode cX12_isCell 2 = .ok (.bipush 63, 2) := by decide +kernel
theorem dX12_isCell_4 : decode cX12_isCell 4 = .ok (.invokestatic 63, 3) := by decide +kernel
theorem dX12_isCell_7 : decode cX12_isCell 7 = .ok (.ireturn, 1) := by decide +kernel
theorem dX12_isRealm_0 : decode cX12_isRealm 0 = .ok (.iload_n 0, 1) := by decide +kernel
theorem dX12_isRealm_1 : decode cX12_isRealm 1 = .ok (.iconst 0, 1) := by decide +kernel
theorem dX12_isRealm_2 : decode cX12_isRealm 2 = .ok (.iconst 3, 1) := by decide +kernel
theorem dX12_isRealm_3 : decode cX12_isRealm 3 = .ok (.invokestatic 63, 3) := by decide +kernel
theorem dX12_isRealm_6 : decode cX12_isRealm 6 = .ok (.ireturn, 1) := by decide +kernel
theorem dX12_at_0 : decode cX12_at 0 = .ok (.aload_n 0, 1) := by decide +kernel
theorem dX12_at_1 : decode cX12_at 1 = .ok (.getfield 9, 3) := by decide +kernel
theorem dX12_at_4 : decode cX12_at 4 = .ok (.bipush 19, 2) := by decide +kernel
theorem dX12_at_6 : decode cX12_at 6 = .ok (.iload_n 1, 1) := by decide +kernel
theorem dX12_at_7 : decode cX12_at 7 = .ok (.iadd, 1) := by decide +kernel
theorem dX12_at_8 : decode cX12_at 8 = .ok (.iaload, 1) := by decide +kernel
theorem dX12_at_9 : decode cX12_at 9 = .ok (.ireturn, 1) := by decide +kernel
theorem dX12_beside_0 : decode cX12_beside 0 = .ok (.iload_n 0, 1) := by decide +kernel
theorem dX12_beside_1 : decode cX12_beside 1 = .ok (.bipush 8, 2) := by decide +kernel
theorem dX12_beside_3 : decode cX12_beside 3 = .ok (.irem, 1) := by decide +kernel
theorem dX12_beside_4 : decode cX12_beside 4 = .ok (.iload_n 1, 1) := by decide +kernel
theorem dX12_beside_5 : decode cX12_beside 5 = .ok (.iconst 1, 1) := by decide +kernel
theorem dX12_beside_6 : decode cX12_beside 6 = .ok (.if_icmp .ne 7, 3) := by decide +kernel
theorem dX12_beside_9 : decode cX12_beside 9 = .ok (.iconst 1, 1) := by decide +kernel
theorem dX12_beside_10 : decode cX12_beside 10 = .ok (.goto 13, 3) := by decide +kernel
theorem dX12_beside_13 : decode cX12_beside 13 = .ok (.iload_n 1, 1) := by decide +kernel
theorem dX12_beside_14 : decode cX12_beside 14 = .ok (.iconst 3, 1) := by decide +kernel
theorem dX12_beside_15 : decode cX12_beside 15 = .ok (.if_icmp .ne 7, 3) := by decide +kernel
theorem dX12_beside_18 : decode cX12_beside 18 = .ok (.iconst (-1), 1) := by decide +kernel
theorem dX12_beside_19 : decode cX12_beside 19 = .ok (.goto 4, 3) := by decide +kernel
theorem dX12_beside_22 : decode cX12_beside 22 = .ok (.iconst 0, 1) := by decide +kernel
theorem dX12_beside_23 : decode cX12_beside 23 = .ok (.iadd, 1) := by decide +kernel
theorem dX12_beside_24 : decode cX12_beside 24 = .ok (.istore_n 2, 1) := by decide +kernel
theorem dX12_beside_25 : decode cX12_beside 25 = .ok (.iload_n 0, 1) := by decide +kernel
theorem dX12_beside_26 : decode cX12_beside 26 = .ok (.bipush 8, 2) := by decide +kernel
theorem dX12_beside_28 : decode cX12_beside 28 = .ok (.idiv, 1) := by decide +kernel
theorem dX12_beside_29 : decode cX12_beside 29 = .ok (.iload_n 1, 1) := by decide +kernel
theorem dX12_beside_30 : decode cX12_beside 30 = .ok (.iconst 2, 1) := by decide +kernel
theorem dX12_beside_31 : decode cX12_beside 31 = .ok (.if_icmp .ne 7, 3) := by decide +kernel
theorem dX12_beside_34 : decode cX12_beside 34 = .ok (.iconst 1, 1) := by decide +kernel
theorem dX12_beside_35 : decode cX12_beside 35 = .ok (.goto 12, 3) := by decide +kernel
theorem dX12_beside_38 : decode cX12_beside 38 = .ok (.iload_n 1, 1) := by decide +kernel
theorem dX12_beside_39 : decode cX12_beside 39 = .ok (.ifCond .ne 7, 3) := by decide +kernel
theorem dX12_beside_42 : decode cX12_beside 42 = .ok (.iconst (-1), 1) := by decide +kernel
theorem dX12_beside_43 : decode cX12_beside 43 = .ok (.goto 4, 3) := by decide +kernel
theorem dX12_beside_46 : decode cX12_beside 46 = .ok (.iconst 0, 1) := by decide +kernel
theorem dX12_beside_47 : decode cX12_beside 47 = .ok (.iadd, 1) := by decide +kernel
theorem dX12_beside_48 : decode cX12_beside 48 = .ok (.istore_n 3, 1) := by decide +kernel
theorem dX12_beside_49 : decode cX12_beside 49 = .ok (.iload_n 2, 1) := by decide +kernel
theorem dX12_beside_50 : decode cX12_beside 50 = .ok (.iconst 0, 1) := by decide +kernel
theorem dX12_beside_51 : decode cX12_beside 51 = .ok (.bipush 7, 2) := by decide +kernel
theorem dX12_beside_53 : decode cX12_beside 53 = .ok (.invokestatic 63, 3) := by decide +kernel
theorem dX12_beside_56 : decode cX12_beside 56 = .ok (.ifCond .eq 22, 3) := by decide +kernel
theorem dX12_beside_59 : decode cX12_beside 59 = .ok (.iload_n 3, 1) := by decide +kernel
theorem dX12_beside_60 : decode cX12_beside 60 = .ok (.iconst 0, 1) := by decide +kernel
theorem dX12_beside_61 : decode cX12_beside 61 = .ok (.bipush 7, 2) := by decide +kernel
theorem dX12_beside_63 : decode cX12_beside 63 = .ok (.invokestatic 63, 3) := by decide +kernel
theorem dX12_beside_66 : decode cX12_beside 66 = .ok (.ifCond .eq 12, 3) := by decide +kernel
theorem dX12_beside_69 : decode cX12_beside 69 = .ok (.bipush 8, 2) := by decide +kernel
theorem dX12_beside_71 : decode cX12_beside 71 = .ok (.iload_n 3, 1) := by decide +kernel
theorem dX12_beside_72 : decode cX12_beside 72 = .ok (.imul, 1) := by decide +kernel
theorem dX12_beside_73 : decode cX12_beside 73 = .ok (.iload_n 2, 1) := by decide +kernel
theorem dX12_beside_74 : decode cX12_beside 74 = .ok (.iadd, 1) := by decide +kernel
theorem dX12_beside_75 : decode cX12_beside 75 = .ok (.goto 4, 3) := by decide +kernel
theorem dX12_beside_78 : decode cX12_beside 78 = .ok (.iconst (-1), 1) := by decide +kernel
theorem dX12_beside_79 : decode cX12_beside 79 = .ok (.ireturn, 1) := by decide +kernel
theorem dX12_cellsOf_0 : decode cX12_cellsOf 0 = .ok (.iconst 0, 1) := by decide +kernel
theorem dX12_cellsOf_1 : decode cX12_cellsOf 1 = .ok (.istore_n 2, 1) := by decide +kernel
theorem dX12_cellsOf_2 : decode cX12_cellsOf 2 = .ok (.iconst 0, 1) := by decide +kernel
theorem dX12_cellsOf_3 : decode cX12_cellsOf 3 = .ok (.istore_n 3, 1) := by decide +kernel
theorem dX12_cellsOf_4 : decode cX12_cellsOf 4 = .ok (.iload_n 3, 1) := by decide +kernel
theorem dX12_cellsOf_5 : decode cX12_cellsOf 5 = .ok (.bipush 64, 2) := by decide +kernel
theorem dX12_cellsOf_7 : decode cX12_cellsOf 7 = .ok (.if_icmp .ge 26, 3) := by decide +kernel
theorem dX12_cellsOf_10 : decode cX12_cellsOf 10 = .ok (.iload_n 2, 1) := by decide +kernel
theorem dX12_cellsOf_11 : decode cX12_cellsOf 11 = .ok (.aload_n 0, 1) := by decide +kernel
theorem dX12_cellsOf_12 : decode cX12_cellsOf 12 = .ok (.iload_n 3, 1) := by decide +kernel
theorem dX12_cellsOf_13 : decode cX12_cellsOf 13 = .ok (.invokevirtual 67, 3) := by decide +kernel
theorem dX12_cellsOf_16 : decode cX12_cellsOf 16 = .ok (.iload_n 1, 1) := by decide +kernel
theorem dX12_cellsOf_17 : decode cX12_cellsOf 17 = .ok (.if_icmp .ne 7, 3) := by decide +kernel
theorem dX12_cellsOf_20 : decode cX12_cellsOf 20 = .ok (.iconst 1, 1) := by decide +kernel
theorem dX12_cellsOf_21 : decode cX12_cellsOf 21 = .ok (.goto 4, 3) := by decide +kernel
theorem dX12_cellsOf_24 : decode cX12_cellsOf 24 = .ok (.iconst 0, 1) := by decide +kernel
theorem dX12_cellsOf_25 : decode cX12_cellsOf 25 = .ok (.iadd, 1) := by decide +kernel
theorem dX12_cellsOf_26 : decode cX12_cellsOf 26 = .ok (.istore_n 2, 1) := by decide +kernel
theorem dX12_cellsOf_27 : decode cX12_cellsOf 27 = .ok (.iinc 3 1, 3) := by decide +kernel
theorem dX12_cellsOf_30 : decode cX12_cellsOf 30 = .ok (.goto (-26), 3) := by decide +kernel
theorem dX12_cellsOf_33 : decode cX12_cellsOf 33 = .ok (.iload_n 2, 1) := by decide +kernel
theorem dX12_cellsOf_34 : decode cX12_cellsOf 34 = .ok (.ireturn, 1) := by decide +kernel
theorem dX12_dragonOn_0 : decode cX12_dragonOn 0 = .ok (.iconst (-1), 1) := by decide +kernel
theorem dX12_dragonOn_1 : decode cX12_dragonOn 1 = .ok (.istore_n 2, 1) := by decide +kernel
theorem dX12_dragonOn_2 : decode cX12_dragonOn 2 = .ok (.iconst 0, 1) := by decide +kernel
theorem dX12_dragonOn_3 : decode cX12_dragonOn 3 = .ok (.istore_n 3, 1) := by decide +kernel
theorem dX12_dragonOn_4 : decode cX12_dragonOn 4 = .ok (.iload_n 3, 1) := by decide +kernel
theorem dX12_dragonOn_5 : decode cX12_dragonOn 5 = .ok (.aload_n 0, 1) := by decide +kernel
theorem dX12_dragonOn_6 : decode cX12_dragonOn 6 = .ok (.getfield 9, 3) := by decide +kernel
theorem dX12_dragonOn_9 : decode cX12_dragonOn 9 = .ok (.iconst 1, 1) := by decide +kernel
theorem dX12_dragonOn_10 : decode cX12_dragonOn 10 = .ok (.iaload, 1) := by decide +kernel
theorem dX12_dragonOn_11 : decode cX12_dragonOn 11 = .ok (.if_icmp .ge 31, 3) := by decide +kernel
theorem dX12_dragonOn_14 : decode cX12_dragonOn 14 = .ok (.aload_n 0, 1) := by decide +kernel
theorem dX12_dragonOn_15 : decode cX12_dragonOn 15 = .ok (.getfield 9, 3) := by decide +kernel
theorem dX12_dragonOn_18 : decode cX12_dragonOn 18 = .ok (.sipush 143, 3) := by decide +kernel
theorem dX12_dragonOn_21 : decode cX12_dragonOn 21 = .ok (.iconst 3, 1) := by decide +kernel
theorem dX12_dragonOn_22 : decode cX12_dragonOn 22 = .ok (.iload_n 3, 1) := by decide +kernel
theorem dX12_dragonOn_23 : decode cX12_dragonOn 23 = .ok (.imul, 1) := by decide +kernel
theorem dX12_dragonOn_24 : decode cX12_dragonOn 24 = .ok (.iadd, 1) := by decide +kernel
theorem dX12_dragonOn_25 : decode cX12_dragonOn 25 = .ok (.iaload, 1) := by decide +kernel
theorem dX12_dragonOn_26 : decode cX12_dragonOn 26 = .ok (.iload_n 1, 1) := by decide +kernel
theorem dX12_dragonOn_27 : decode cX12_dragonOn 27 = .ok (.if_icmp .ne 7, 3) := by decide +kernel
theorem dX12_dragonOn_30 : decode cX12_dragonOn 30 = .ok (.iload_n 3, 1) := by decide +kernel
theorem dX12_dragonOn_31 : decode cX12_dragonOn 31 = .ok (.goto 4, 3) := by decide +kernel
theorem dX12_dragonOn_34 : decode cX12_dragonOn 34 = .ok (.iload_n 2, 1) := by decide +kernel
theorem dX12_dragonOn_35 : decode cX12_dragonOn 35 = .ok (.istore_n 2, 1) := by decide +kernel
theorem dX12_dragonOn_36 : decode cX12_dragonOn 36 = .ok (.iinc 3 1, 3) := by decide +kernel
theorem dX12_dragonOn_39 : decode cX12_dragonOn 39 = .ok (.goto (-35), 3) := by decide +kernel
theorem dX12_dragonOn_42 : decode cX12_dragonOn 42 = .ok (.iload_n 2, 1) := by decide +kernel
theorem dX12_dragonOn_43 : decode cX12_dragonOn 43 = .ok (.ireturn, 1) := by decide +kernel
theorem dX12_takes_0 : decode cX12_takes 0 = .ok (.aload_n 0, 1) := by decide +kernel
theorem dX12_takes_1 : decode cX12_takes 1 = .ok (.getfield 9, 3) := by decide +kernel
theorem dX12_takes_4 : decode cX12_takes 4 = .ok (.iconst 1, 1) := by decide +kernel
theorem dX12_takes_5 : decode cX12_takes 5 = .ok (.iaload, 1) := by decide +kernel
theorem dX12_takes_6 : decode cX12_takes 6 = .ok (.iconst 1, 1) := by decide +kernel
theorem dX12_takes_7 : decode cX12_takes 7 = .ok (.isub, 1) := by decide +kernel
theorem dX12_takes_8 : decode cX12_takes 8 = .ok (.istore_n 2, 1) := by decide +kernel
theorem dX12_takes_9 : decode cX12_takes 9 = .ok (.sipush 143, 3) := by decide +kernel
theorem dX12_takes_12 : decode cX12_takes 12 = .ok (.iconst 3, 1) := by decide +kernel
theorem dX12_takes_13 : decode cX12_takes 13 = .ok (.iload_n 1, 1) := by decide +kernel
theorem dX12_takes_14 : decode cX12_takes 14 = .ok (.imul, 1) := by decide +kernel
theorem dX12_takes_15 : decode cX12_takes 15 = .ok (.iadd, 1) := by decide +kernel
theorem dX12_takes_16 : decode cX12_takes 16 = .ok (.istore_n 3, 1) := by decide +kernel
theorem dX12_takes_17 : decode cX12_takes 17 = .ok (.aload_n 0, 1) := by decide +kernel
theorem dX12_takes_18 : decode cX12_takes 18 = .ok (.getfield 9, 3) := by decide +kernel
theorem dX12_takes_21 : decode cX12_takes 21 = .ok (.iload_n 3, 1) := by decide +kernel
theorem dX12_takes_22 : decode cX12_takes 22 = .ok (.iconst 3, 1) := by decide +kernel
theorem dX12_takes_23 : decode cX12_takes 23 = .ok (.iadd, 1) := by decide +kernel
theorem dX12_takes_24 : decode cX12_takes 24 = .ok (.aload_n 0, 1) := by decide +kernel
theorem dX12_takes_25 : decode cX12_takes 25 = .ok (.getfield 9, 3) := by decide +kernel
theorem dX12_takes_28 : decode cX12_takes 28 = .ok (.iload_n 3, 1) := by decide +kernel
theorem dX12_takes_29 : decode cX12_takes 29 = .ok (.iconst 3, 1) := by decide +kernel
theorem dX12_takes_30 : decode cX12_takes 30 = .ok (.iload_n 2, 1) := by decide +kernel
theorem dX12_takes_31 : decode cX12_takes 31 = .ok (.iload_n 1, 1) := by decide +kernel
theorem dX12_takes_32 : decode cX12_takes 32 = .ok (.isub, 1) := by decide +kernel
theorem dX12_takes_33 : decode cX12_takes 33 = .ok (.imul, 1) := by decide +kernel
theorem dX12_takes_34 : decode cX12_takes 34 = .ok (.invokestatic 46, 3) := by decide +kernel
theorem dX12_takes_37 : decode cX12_takes 37 = .ok (.aload_n 0, 1) := by decide +kernel
theorem dX12_takes_38 : decode cX12_takes 38 = .ok (.getfield 9, 3) := by decide +kernel
theorem dX12_takes_41 : decode cX12_takes 41 = .ok (.iconst 1, 1) := by decide +kernel
theorem dX12_takes_42 : decode cX12_takes 42 = .ok (.iload_n 2, 1) := by decide +kernel
theorem dX12_takes_43 : decode cX12_takes 43 = .ok (.iastore, 1) := by decide +kernel
theorem dX12_takes_44 : decode cX12_takes 44 = .ok (.return_, 1) := by decide +kernel
theorem dX12_gives_0 : decode cX12_gives 0 = .ok (.aload_n 0, 1) := by decide +kernel
theorem dX12_gives_1 : decode cX12_gives 1 = .ok (.getfield 9, 3) := by decide +kernel
theorem dX12_gives_4 : decode cX12_gives 4 = .ok (.bipush 19, 2) := by decide +kernel
theorem dX12_gives_6 : decode cX12_gives 6 = .ok (.iload_n 1, 1) := by decide +kernel
theorem dX12_gives_7 : decode cX12_gives 7 = .ok (.iadd, 1) := by decide +kernel
theorem dX12_gives_8 : decode cX12_gives 8 = .ok (.iload_n 2, 1) := by decide +kernel
theorem dX12_gives_9 : decode cX12_gives 9 = .ok (.iastore, 1) := by decide +kernel
theorem dX12_gives_10 : decode cX12_gives 10 = .ok (.aload_n 0, 1) := by decide +kernel
theorem dX12_gives_11 : decode cX12_gives 11 = .ok (.iload_n 1, 1) := by decide +kernel
theorem dX12_gives_12 : decode cX12_gives 12 = .ok (.invokevirtual 71, 3) := by decide +kernel
theorem dX12_gives_15 : decode cX12_gives 15 = .ok (.istore_n 3, 1) := by decide +kernel
theorem dX12_gives_16 : decode cX12_gives 16 = .ok (.iload_n 3, 1) := by decide +kernel
theorem dX12_gives_17 : decode cX12_gives 17 = .ok (.ifCond .lt 58, 3) := by decide +kernel
theorem dX12_gives_20 : decode cX12_gives 20 = .ok (.sipush 143, 3) := by decide +kernel
theorem dX12_gives_23 : decode cX12_gives 23 = .ok (.iconst 3, 1) := by decide +kernel
theorem dX12_gives_24 : decode cX12_gives 24 = .ok (.iload_n 3, 1) := by decide +kernel
theorem dX12_gives_25 : decode cX12_gives 25 = .ok (.imul, 1) := by decide +kernel
theorem dX12_gives_26 : decode cX12_gives 26 = .ok (.iadd, 1) := by decide +kernel
theorem dX12_gives_27 : decode cX12_gives 27 = .ok (.istore 4, 2) := by decide +kernel
theorem dX12_gives_29 : decode cX12_gives 29 = .ok (.aload_n 0, 1) := by decide +kernel
theorem dX12_gives_30 : decode cX12_gives 30 = .ok (.getfield 9, 3) := by decide +kernel
theorem dX12_gives_33 : decode cX12_gives 33 = .ok (.bipush 7, 2) := by decide +kernel
theorem dX12_gives_35 : decode cX12_gives 35 = .ok (.iconst 3, 1) := by decide +kernel
theorem dX12_gives_36 : decode cX12_gives 36 = .ok (.aload_n 0, 1) := by decide +kernel
theorem dX12_gives_37 : decode cX12_gives 37 = .ok (.getfield 9, 3) := by decide +kernel
theorem dX12_gives_40 : decode cX12_gives 40 = .ok (.iload 4, 2) := by decide +kernel
theorem dX12_gives_42 : decode cX12_gives 42 = .ok (.iconst 2, 1) := by decide +kernel
theorem dX12_gives_43 : decode cX12_gives 43 = .ok (.iadd, 1) := by decide +kernel
theorem dX12_gives_44 : decode cX12_gives 44 = .ok (.iaload, 1) := by decide +kernel
theorem dX12_gives_45 : decode cX12_gives 45 = .ok (.imul, 1) := by decide +kernel
theorem dX12_gives_46 : decode cX12_gives 46 = .ok (.iadd, 1) := by decide +kernel
theorem dX12_gives_47 : decode cX12_gives 47 = .ok (.dup2, 1) := by decide +kernel
theorem dX12_gives_48 : decode cX12_gives 48 = .ok (.iaload, 1) := by decide +kernel
theorem dX12_gives_49 : decode cX12_gives 49 = .ok (.aload_n 0, 1) := by decide +kernel
theorem dX12_gives_50 : decode cX12_gives 50 = .ok (.getfield 9, 3) := by decide +kernel
theorem dX12_gives_53 : decode cX12_gives 53 = .ok (.iload 4, 2) := by decide +kernel
theorem dX12_gives_55 : decode cX12_gives 55 = .ok (.iconst 1, 1) := by decide +kernel
theorem dX12_gives_56 : decode cX12_gives 56 = .ok (.iadd, 1) := by decide +kernel
theorem dX12_gives_57 : decode cX12_gives 57 = .ok (.iaload, 1) := by decide +kernel
theorem dX12_gives_58 : decode cX12_gives 58 = .ok (.iadd, 1) := by decide +kernel
theorem dX12_gives_59 : decode cX12_gives 59 = .ok (.iastore, 1) := by decide +kernel
theorem dX12_gives_60 : decode cX12_gives 60 = .ok (.aload_n 0, 1) := by decide +kernel
theorem dX12_gives_61 : decode cX12_gives 61 = .ok (.getfield 9, 3) := by decide +kernel
theorem dX12_gives_64 : decode cX12_gives 64 = .ok (.iconst 4, 1) := by decide +kernel
theorem dX12_gives_65 : decode cX12_gives 65 = .ok (.dup2, 1) := by decide +kernel
theorem dX12_gives_66 : decode cX12_gives 66 = .ok (.iaload, 1) := by decide +kernel
theorem dX12_gives_67 : decode cX12_gives 67 = .ok (.iconst 1, 1) := by decide +kernel
theorem dX12_gives_68 : decode cX12_gives 68 = .ok (.iadd, 1) := by decide +kernel
theorem dX12_gives_69 : decode cX12_gives 69 = .ok (.iastore, 1) := by decide +kernel
theorem dX12_gives_70 : decode cX12_gives 70 = .ok (.aload_n 0, 1) := by decide +kernel
theorem dX12_gives_71 : decode cX12_gives 71 = .ok (.iload_n 3, 1) := by decide +kernel
theorem dX12_gives_72 : decode cX12_gives 72 = .ok (.invokevirtual 74, 3) := by decide +kernel
theorem dX12_gives_75 : decode cX12_gives 75 = .ok (.return_, 1) := by decide +kernel
theorem dX12_doPaint_0 : decode cX12_doPaint 0 = .ok (.iload_n 1, 1) := by decide +kernel
theorem dX12_doPaint_1 : decode cX12_doPaint 1 = .ok (.invokestatic 78, 3) := by decide +kernel
theorem dX12_doPaint_4 : decode cX12_doPaint 4 = .ok (.ifCond .ne 9, 3) := by decide +kernel
theorem dX12_doPaint_7 : decode cX12_doPaint 7 = .ok (.aload_n 0, 1) := by decide +kernel
theorem dX12_doPaint_8 : decode cX12_doPaint 8 = .ok (.iconst 1, 1) := by decide +kernel
theorem dX12_doPaint_9 : decode cX12_doPaint 9 = .ok (.invokevirtual 82, 3) := by decide +kernel
theorem dX12_doPaint_12 : decode cX12_doPaint 12 = .ok (.ireturn, 1) := by decide +kernel
theorem dX12_doPaint_13 : decode cX12_doPaint 13 = .ok (.iload_n 2, 1) := by decide +kernel
theorem dX12_doPaint_14 : decode cX12_doPaint 14 = .ok (.iconst (-1), 1) := by decide +kernel
theorem dX12_doPaint_15 : decode cX12_doPaint 15 = .ok (.iconst 3, 1) := by decide +kernel
theorem dX12_doPaint_16 : decode cX12_doPaint 16 = .ok (.invokestatic 63, 3) := by decide +kernel
theorem dX12_doPaint_19 : decode cX12_doPaint 19 = .ok (.ifCond .ne 9, 3) := by decide +kernel
theorem dX12_doPaint_22 : decode cX12_doPaint 22 = .ok (.aload_n 0, 1) := by decide +kernel
theorem dX12_doPaint_23 : decode cX12_doPaint 23 = .ok (.iconst 2, 1) := by decide +kernel
theorem dX12_doPaint_24 : decode cX12_doPaint 24 = .ok (.invokevirtual 82, 3) := by decide +kernel
theorem dX12_doPaint_27 : decode cX12_doPaint 27 = .ok (.ireturn, 1) := by decide +kernel
theorem dX12_doPaint_28 : decode cX12_doPaint 28 = .ok (.aload_n 0, 1) := by decide +kernel
theorem dX12_doPaint_29 : decode cX12_doPaint 29 = .ok (.iload_n 1, 1) := by decide +kernel
theorem dX12_doPaint_30 : decode cX12_doPaint 30 = .ok (.invokevirtual 67, 3) := by decide +kernel
theorem dX12_doPaint_33 : decode cX12_doPaint 33 = .ok (.istore_n 3, 1) := by decide +kernel
theorem dX12_doPaint_34 : decode cX12_doPaint 34 = .ok (.iload_n 3, 1) := by decide +kernel
theorem dX12_doPaint_35 : decode cX12_doPaint 35 = .ok (.iload_n 2, 1) := by decide +kernel
theorem dX12_doPaint_36 : decode cX12_doPaint 36 = .ok (.if_icmp .ne 11, 3) := by decide +kernel
theorem dX12_doPaint_39 : decode cX12_doPaint 39 = .ok (.aload_n 0, 1) := by decide +kernel
theorem dX12_doPaint_40 : decode cX12_doPaint 40 = .ok (.iconst 3, 1) := by decide +kernel
theorem dX12_doPaint_41 : decode cX12_doPaint 41 = .ok (.iconst 1, 1) := by decide +kernel
theorem dX12_doPaint_42 : decode cX12_doPaint 42 = .ok (.iload_n 2, 1) := by decide +kernel
theorem dX12_doPaint_43 : decode cX12_doPaint 43 = .ok (.invokevirtual 85, 3) := by decide +kernel
theorem dX12_doPaint_46 : decode cX12_doPaint 46 = .ok (.ireturn, 1) := by decide +kernel
theorem dX12_doPaint_47 : decode cX12_doPaint 47 = .ok (.aload_n 0, 1) := by decide +kernel
theorem dX12_doPaint_48 : decode cX12_doPaint 48 = .ok (.iload_n 1, 1) := by decide +kernel
theorem dX12_doPaint_49 : decode cX12_doPaint 49 = .ok (.iload_n 2, 1) := by decide +kernel
theorem dX12_doPaint_50 : decode cX12_doPaint 50 = .ok (.invokevirtual 89, 3) := by decide +kernel
theorem dX12_doPaint_53 : decode cX12_doPaint 53 = .ok (.iload_n 3, 1) := by decide +kernel
theorem dX12_doPaint_54 : decode cX12_doPaint 54 = .ok (.ireturn, 1) := by decide +kernel
theorem dX12_paint_0 : decode cX12_paint 0 = .ok (.aload_n 0, 1) := by decide +kernel
theorem dX12_paint_1 : decode cX12_paint 1 = .ok (.invokevirtual 93, 3) := by decide +kernel
theorem dX12_paint_4 : decode cX12_paint 4 = .ok (.aload_n 0, 1) := by decide +kernel
theorem dX12_paint_5 : decode cX12_paint 5 = .ok (.aload_n 0, 1) := by decide +kernel
theorem dX12_paint_6 : decode cX12_paint 6 = .ok (.iload_n 1, 1) := by decide +kernel
theorem dX12_paint_7 : decode cX12_paint 7 = .ok (.iload_n 2, 1) := by decide +kernel
theorem dX12_paint_8 : decode cX12_paint 8 = .ok (.invokevirtual 96, 3) := by decide +kernel
theorem dX12_paint_11 : decode cX12_paint 11 = .ok (.invokevirtual 100, 3) := by decide +kernel
theorem dX12_paint_14 : decode cX12_paint 14 = .ok (.ireturn, 1) := by decide +kernel
theorem dX12_isBeside_0 : decode cX12_isBeside 0 = .ok (.iconst 0, 1) := by decide +kernel
theorem dX12_isBeside_1 : decode cX12_isBeside 1 = .ok (.istore_n 3, 1) := by decide +kernel
theorem dX12_isBeside_2 : decode cX12_isBeside 2 = .ok (.iconst 0, 1) := by decide +kernel
theorem dX12_isBeside_3 : decode cX12_isBeside 3 = .ok (.istore 4, 2) := by decide +kernel
theorem dX12_isBeside_5 : decode cX12_isBeside 5 = .ok (.iload 4, 2) := by decide +kernel
theorem dX12_isBeside_7 : decode cX12_isBeside 7 = .ok (.iconst 4, 1) := by decide +kernel
theorem dX12_isBeside_8 : decode cX12_isBeside 8 = .ok (.if_icmp .ge 42, 3) := by decide +kernel
theorem dX12_isBeside_11 : decode cX12_isBeside 11 = .ok (.iload_n 3, 1) := by decide +kernel
theorem dX12_isBeside_12 : decode cX12_isBeside 12 = .ok (.ifCond .ne 26, 3) := by decide +kernel
theorem dX12_isBeside_15 : decode cX12_isBeside 15 = .ok (.iload_n 1, 1) := by decide +kernel
theorem dX12_isBeside_16 : decode cX12_isBeside 16 = .ok (.iload 4, 2) := by decide +kernel
theorem dX12_isBeside_18 : decode cX12_isBeside 18 = .ok (.invokestatic 103, 3) := by decide +kernel
theorem dX12_isBeside_21 : decode cX12_isBeside 21 = .ok (.ifCond .lt 21, 3) := by decide +kernel
theorem dX12_isBeside_24 : decode cX12_isBeside 24 = .ok (.aload_n 0, 1) := by decide +kernel
theorem dX12_isBeside_25 : decode cX12_isBeside 25 = .ok (.iload_n 1, 1) := by decide +kernel
theorem dX12_isBeside_26 : decode cX12_isBeside 26 = .ok (.iload 4, 2) := by decide +kernel
theorem dX12_isBeside_28 : decode cX12_isBeside 28 = .ok (.invokestatic 103, 3) := by decide +kernel
theorem dX12_isBeside_31 : decode cX12_isBeside 31 = .ok (.invokevirtual 67, 3) := by decide +kernel
theorem dX12_isBeside_34 : decode cX12_isBeside 34 = .ok (.iload_n 2, 1) := by decide +kernel
theorem dX12_isBeside_35 : decode cX12_isBeside 35 = .ok (.if_icmp .ne 7, 3) := by decide +kernel
theorem dX12_isBeside_38 : decode cX12_isBeside 38 = .ok (.iconst 1, 1) := by decide +kernel
theorem dX12_isBeside_39 : decode cX12_isBeside 39 = .ok (.goto 4, 3) := by decide +kernel
theorem dX12_isBeside_42 : decode cX12_isBeside 42 = .ok (.iconst 0, 1) := by decide +kernel
theorem dX12_isBeside_43 : decode cX12_isBeside 43 = .ok (.istore_n 3, 1) := by decide +kernel
theorem dX12_isBeside_44 : decode cX12_isBeside 44 = .ok (.iinc 4 1, 3) := by decide +kernel
theorem dX12_isBeside_47 : decode cX12_isBeside 47 = .ok (.goto (-42), 3) := by decide +kernel
theorem dX12_isBeside_50 : decode cX12_isBeside 50 = .ok (.iload_n 3, 1) := by decide +kernel
theorem dX12_isBeside_51 : decode cX12_isBeside 51 = .ok (.ireturn, 1) := by decide +kernel
theorem dX12_hinders_0 : decode cX12_hinders 0 = .ok (.aload_n 0, 1) := by decide +kernel
theorem dX12_hinders_1 : decode cX12_hinders 1 = .ok (.iload_n 1, 1) := by decide +kernel
theorem dX12_hinders_2 : decode cX12_hinders 2 = .ok (.invokevirtual 67, 3) := by decide +kernel
theorem dX12_hinders_5 : decode cX12_hinders 5 = .ok (.ifCond .ge 7, 3) := by decide +kernel
theorem dX12_hinders_8 : decode cX12_hinders 8 = .ok (.iconst 3, 1) := by decide +kernel
theorem dX12_hinders_9 : decode cX12_hinders 9 = .ok (.goto 34, 3) := by decide +kernel
theorem dX12_hinders_12 : decode cX12_hinders 12 = .ok (.aload_n 0, 1) := by decide +kernel
theorem dX12_hinders_13 : decode cX12_hinders 13 = .ok (.iload_n 1, 1) := by decide +kernel
theorem dX12_hinders_14 : decode cX12_hinders 14 = .ok (.iload_n 2, 1) := by decide +kernel
theorem dX12_hinders_15 : decode cX12_hinders 15 = .ok (.invokevirtual 106, 3) := by decide +kernel
theorem dX12_hinders_18 : decode cX12_hinders 18 = .ok (.ifCond .ne 7, 3) := by decide +kernel
theorem dX12_hinders_21 : decode cX12_hinders 21 = .ok (.iconst 4, 1) := by decide +kernel
theorem dX12_hinders_22 : decode cX12_hinders 22 = .ok (.goto 21, 3) := by decide +kernel
theorem dX12_hinders_25 : decode cX12_hinders 25 = .ok (.aload_n 0, 1) := by decide +kernel
theorem dX12_hinders_26 : decode cX12_hinders 26 = .ok (.aload_n 0, 1) := by decide +kernel
theorem dX12_hinders_27 : decode cX12_hinders 27 = .ok (.iload_n 1, 1) := by decide +kernel
theorem dX12_hinders_28 : decode cX12_hinders 28 = .ok (.invokevirtual 67, 3) := by decide +kernel
theorem dX12_hinders_31 : decode cX12_hinders 31 = .ok (.invokevirtual 110, 3) := by decide +kernel
theorem dX12_hinders_34 : decode cX12_hinders 34 = .ok (.iconst 1, 1) := by decide +kernel
theorem dX12_hinders_35 : decode cX12_hinders 35 = .ok (.if_icmp .ne 7, 3) := by decide +kernel
theorem dX12_hinders_38 : decode cX12_hinders 38 = .ok (.iconst 5, 1) := by decide +kernel
theorem dX12_hinders_39 : decode cX12_hinders 39 = .ok (.goto 4, 3) := by decide +kernel
theorem dX12_hinders_42 : decode cX12_hinders 42 = .ok (.iconst 0, 1) := by decide +kernel
theorem dX12_hinders_43 : decode cX12_hinders 43 = .ok (.ireturn, 1) := by decide +kernel
theorem dX12_doShave_0 : decode cX12_doShave 0 = .ok (.iload_n 1, 1) := by decide +kernel
theorem dX12_doShave_1 : decode cX12_doShave 1 = .ok (.invokestatic 78, 3) := by decide +kernel
theorem dX12_doShave_4 : decode cX12_doShave 4 = .ok (.ifCond .eq 10, 3) := by decide +kernel
theorem dX12_doShave_7 : decode cX12_doShave 7 = .ok (.iload_n 2, 1) := by decide +kernel
theorem dX12_doShave_8 : decode cX12_doShave 8 = .ok (.invokestatic 113, 3) := by decide +kernel
theorem dX12_doShave_11 : decode cX12_doShave 11 = .ok (.ifCond .ne 9, 3) := by decide +kernel
theorem dX12_doShave_14 : decode cX12_doShave 14 = .ok (.aload_n 0, 1) := by decide +kernel
theorem dX12_doShave_15 : decode cX12_doShave 15 = .ok (.iconst 1, 1) := by decide +kernel
theorem dX12_doShave_16 : decode cX12_doShave 16 = .ok (.invokevirtual 82, 3) := by decide +kernel
theorem dX12_doShave_19 : decode cX12_doShave 19 = .ok (.ireturn, 1) := by decide +kernel
theorem dX12_doShave_20 : decode cX12_doShave 20 = .ok (.aload_n 0, 1) := by decide +kernel
theorem dX12_doShave_21 : decode cX12_doShave 21 = .ok (.iload_n 1, 1) := by decide +kernel
theorem dX12_doShave_22 : decode cX12_doShave 22 = .ok (.invokevirtual 67, 3) := by decide +kernel
theorem dX12_doShave_25 : decode cX12_doShave 25 = .ok (.istore_n 3, 1) := by decide +kernel
theorem dX12_doShave_26 : decode cX12_doShave 26 = .ok (.iload_n 3, 1) := by decide +kernel
theorem dX12_doShave_27 : decode cX12_doShave 27 = .ok (.iload_n 2, 1) := by decide +kernel
theorem dX12_doShave_28 : decode cX12_doShave 28 = .ok (.if_icmp .ne 11, 3) := by decide +kernel
theorem dX12_doShave_31 : decode cX12_doShave 31 = .ok (.aload_n 0, 1) := by decide +kernel
theorem dX12_doShave_32 : decode cX12_doShave 32 = .ok (.iconst 2, 1) := by decide +kernel
theorem dX12_doShave_33 : decode cX12_doShave 33 = .ok (.iconst 1, 1) := by decide +kernel
theorem dX12_doShave_34 : decode cX12_doShave 34 = .ok (.iload_n 2, 1) := by decide +kernel
theorem dX12_doShave_35 : decode cX12_doShave 35 = .ok (.invokevirtual 85, 3) := by decide +kernel
theorem dX12_doShave_38 : decode cX12_doShave 38 = .ok (.ireturn, 1) := by decide +kernel
theorem dX12_doShave_39 : decode cX12_doShave 39 = .ok (.aload_n 0, 1) := by decide +kernel
theorem dX12_doShave_40 : decode cX12_doShave 40 = .ok (.iload_n 1, 1) := by decide +kernel
theorem dX12_doShave_41 : decode cX12_doShave 41 = .ok (.iload_n 2, 1) := by decide +kernel
theorem dX12_doShave_42 : decode cX12_doShave 42 = .ok (.invokevirtual 116, 3) := by decide +kernel
theorem dX12_doShave_45 : decode cX12_doShave 45 = .ok (.istore 4, 2) := by decide +kernel
theorem dX12_doShave_47 : decode cX12_doShave 47 = .ok (.iload 4, 2) := by decide +kernel
theorem dX12_doShave_49 : decode cX12_doShave 49 = .ok (.ifCond .le 34, 3) := by decide +kernel
theorem dX12_doShave_52 : decode cX12_doShave 52 = .ok (.aload_n 0, 1) := by decide +kernel
theorem dX12_doShave_53 : decode cX12_doShave 53 = .ok (.iconst 2, 1) := by decide +kernel
theorem dX12_doShave_54 : decode cX12_doShave 54 = .ok (.iconst 2, 1) := by decide +kernel
theorem dX12_doShave_55 : decode cX12_doShave 55 = .ok (.iload_n 1, 1) := by decide +kernel
theorem dX12_doShave_56 : decode cX12_doShave 56 = .ok (.iload 4, 2) := by decide +kernel
theorem dX12_doShave_58 : decode cX12_doShave 58 = .ok (.iload 4, 2) := by decide +kernel
theorem dX12_doShave_60 : decode cX12_doShave 60 = .ok (.iconst 3, 1) := by decide +kernel
theorem dX12_doShave_61 : decode cX12_doShave 61 = .ok (.if_icmp .ne 7, 3) := by decide +kernel
theorem dX12_doShave_64 : decode cX12_doShave 64 = .ok (.iload_n 1, 1) := by decide +kernel
theorem dX12_doShave_65 : decode cX12_doShave 65 = .ok (.goto 14, 3) := by decide +kernel
theorem dX12_doShave_68 : decode cX12_doShave 68 = .ok (.iload 4, 2) := by decide +kernel
theorem dX12_doShave_70 : decode cX12_doShave 70 = .ok (.iconst 4, 1) := by decide +kernel
theorem dX12_doShave_71 : decode cX12_doShave 71 = .ok (.if_icmp .ne 7, 3) := by decide +kernel
theorem dX12_doShave_74 : decode cX12_doShave 74 = .ok (.iload_n 2, 1) := by decide +kernel
theorem dX12_doShave_75 : decode cX12_doShave 75 = .ok (.goto 4, 3) := by decide +kernel
theorem dX12_doShave_78 : decode cX12_doShave 78 = .ok (.iload_n 3, 1) := by decide +kernel
theorem dX12_doShave_79 : decode cX12_doShave 79 = .ok (.invokevirtual 55, 3) := by decide +kernel
theorem dX12_doShave_82 : decode cX12_doShave 82 = .ok (.ireturn, 1) := by decide +kernel
theorem dX12_doShave_83 : decode cX12_doShave 83 = .ok (.aload_n 0, 1) := by decide +kernel
theorem dX12_doShave_84 : decode cX12_doShave 84 = .ok (.iload_n 1, 1) := by decide +kernel
theorem dX12_doShave_85 : decode cX12_doShave 85 = .ok (.iload_n 2, 1) := by decide +kernel
theorem dX12_doShave_86 : decode cX12_doShave 86 = .ok (.invokevirtual 89, 3) := by decide +kernel
theorem dX12_doShave_89 : decode cX12_doShave 89 = .ok (.aload_n 0, 1) := by decide +kernel
theorem dX12_doShave_90 : decode cX12_doShave 90 = .ok (.getfield 9, 3) := by decide +kernel
theorem dX12_doShave_93 : decode cX12_doShave 93 = .ok (.bipush 7, 2) := by decide +kernel
theorem dX12_doShave_95 : decode cX12_doShave 95 = .ok (.iconst 3, 1) := by decide +kernel
theorem dX12_doShave_96 : decode cX12_doShave 96 = .ok (.iload_n 2, 1) := by decide +kernel
theorem dX12_doShave_97 : decode cX12_doShave 97 = .ok (.imul, 1) := by decide +kernel
theorem dX12_doShave_98 : decode cX12_doShave 98 = .ok (.iadd, 1) := by decide +kernel
theorem dX12_doShave_99 : decode cX12_doShave 99 = .ok (.iconst 1, 1) := by decide +kernel
theorem dX12_doShave_100 : decode cX12_doShave 100 = .ok (.iadd, 1) := by decide +kernel
theorem dX12_doShave_101 : decode cX12_doShave 101 = .ok (.dup2, 1) := by decide +kernel
theorem dX12_doShave_102 : decode cX12_doShave 102 = .ok (.iaload, 1) := by decide +kernel
theorem dX12_doShave_103 : decode cX12_doShave 103 = .ok (.iconst 1, 1) := by decide +kernel
theorem dX12_doShave_104 : decode cX12_doShave 104 = .ok (.iadd, 1) := by decide +kernel
theorem dX12_doShave_105 : decode cX12_doShave 105 = .ok (.iastore, 1) := by decide +kernel
theorem dX12_doShave_106 : decode cX12_doShave 106 = .ok (.aload_n 0, 1) := by decide +kernel
theorem dX12_doShave_107 : decode cX12_doShave 107 = .ok (.getfield 9, 3) := by decide +kernel
theorem dX12_doShave_110 : decode cX12_doShave 110 = .ok (.bipush 7, 2) := by decide +kernel
theorem dX12_doShave_112 : decode cX12_doShave 112 = .ok (.iconst 3, 1) := by decide +kernel
theorem dX12_doShave_113 : decode cX12_doShave 113 = .ok (.iload_n 3, 1) := by decide +kernel
theorem dX12_doShave_114 : decode cX12_doShave 114 = .ok (.imul, 1) := by decide +kernel
theorem dX12_doShave_115 : decode cX12_doShave 115 = .ok (.iadd, 1) := by decide +kernel
theorem dX12_doShave_116 : decode cX12_doShave 116 = .ok (.iconst 2, 1) := by decide +kernel
theorem dX12_doShave_117 : decode cX12_doShave 117 = .ok (.iadd, 1) := by decide +kernel
theorem dX12_doShave_118 : decode cX12_doShave 118 = .ok (.dup2, 1) := by decide +kernel
theorem dX12_doShave_119 : decode cX12_doShave 119 = .ok (.iaload, 1) := by decide +kernel
theorem dX12_doShave_120 : decode cX12_doShave 120 = .ok (.iconst 1, 1) := by decide +kernel
theorem dX12_doShave_121 : decode cX12_doShave 121 = .ok (.iadd, 1) := by decide +kernel
theorem dX12_doShave_122 : decode cX12_doShave 122 = .ok (.iastore, 1) := by decide +kernel
theorem dX12_doShave_123 : decode cX12_doShave 123 = .ok (.aload_n 0, 1) := by decide +kernel
theorem dX12_doShave_124 : decode cX12_doShave 124 = .ok (.getfield 9, 3) := by decide +kernel
theorem dX12_doShave_127 : decode cX12_doShave 127 = .ok (.iconst 3, 1) := by decide +kernel
theorem dX12_doShave_128 : decode cX12_doShave 128 = .ok (.dup2, 1) := by decide +kernel
theorem dX12_doShave_129 : decode cX12_doShave 129 = .ok (.iaload, 1) := by decide +kernel
theorem dX12_doShave_130 : decode cX12_doShave 130 = .ok (.iconst 1, 1) := by decide +kernel
theorem dX12_doShave_131 : decode cX12_doShave 131 = .ok (.iadd, 1) := by decide +kernel
theorem dX12_doShave_132 : decode cX12_doShave 132 = .ok (.iastore, 1) := by decide +kernel
theorem dX12_doShave_133 : decode cX12_doShave 133 = .ok (.iload_n 3, 1) := by decide +kernel
theorem dX12_doShave_134 : decode cX12_doShave 134 = .ok (.ireturn, 1) := by decide +kernel
theorem dX12_shave_0 : decode cX12_shave 0 = .ok (.aload_n 0, 1) := by decide +kernel
theorem dX12_shave_1 : decode cX12_shave 1 = .ok (.invokevirtual 93, 3) := by decide +kernel
theorem dX12_shave_4 : decode cX12_shave 4 = .ok (.aload_n 0, 1) := by decide +kernel
theorem dX12_shave_5 : decode cX12_shave 5 = .ok (.aload_n 0, 1) := by decide +kernel
theorem dX12_shave_6 : decode cX12_shave 6 = .ok (.iload_n 1, 1) := by decide +kernel
theorem dX12_shave_7 : decode cX12_shave 7 = .ok (.iload_n 2, 1) := by decide +kernel
theorem dX12_shave_8 : decode cX12_shave 8 = .ok (.invokevirtual 119, 3) := by decide +kernel
theorem dX12_shave_11 : decode cX12_shave 11 = .ok (.invokevirtual 100, 3) := by decide +kernel
theorem dX12_shave_14 : decode cX12_shave 14 = .ok (.ireturn, 1) := by decide +kernel
theorem dX12_doScale_0 : decode cX12_doScale 0 = .ok (.aload_n 0, 1) := by decide +kernel
theorem dX12_doScale_1 : decode cX12_doScale 1 = .ok (.getfield 9, 3) := by decide +kernel
theorem dX12_doScale_4 : decode cX12_doScale 4 = .ok (.iconst 2, 1) := by decide +kernel
theorem dX12_doScale_5 : decode cX12_doScale 5 = .ok (.iaload, 1) := by decide +kernel
theorem dX12_doScale_6 : decode cX12_doScale 6 = .ok (.istore_n 2, 1) := by decide +kernel
theorem dX12_doScale_7 : decode cX12_doScale 7 = .ok (.iload_n 1, 1) := by decide +kernel
theorem dX12_doScale_8 : decode cX12_doScale 8 = .ok (.iconst 1, 1) := by decide +kernel
theorem dX12_doScale_9 : decode cX12_doScale 9 = .ok (.bipush 9, 2) := by decide +kernel
theorem dX12_doScale_11 : decode cX12_doScale 11 = .ok (.invokestatic 63, 3) := by decide +kernel
theorem dX12_doScale_14 : decode cX12_doScale 14 = .ok (.ifCond .ne 9, 3) := by decide +kernel
theorem dX12_doScale_17 : decode cX12_doScale 17 = .ok (.aload_n 0, 1) := by decide +kernel
theorem dX12_doScale_18 : decode cX12_doScale 18 = .ok (.iconst 1, 1) := by decide +kernel
theorem dX12_doScale_19 : decode cX12_doScale 19 = .ok (.invokevirtual 82, 3) := by decide +kernel
theorem dX12_doScale_22 : decode cX12_doScale 22 = .ok (.ireturn, 1) := by decide +kernel
theorem dX12_doScale_23 : decode cX12_doScale 23 = .ok (.iload_n 1, 1) := by decide +kernel
theorem dX12_doScale_24 : decode cX12_doScale 24 = .ok (.iload_n 2, 1) := by decide +kernel
theorem dX12_doScale_25 : decode cX12_doScale 25 = .ok (.if_icmp .ne 11, 3) := by decide +kernel
theorem dX12_doScale_28 : decode cX12_doScale 28 = .ok (.aload_n 0, 1) := by decide +kernel
theorem dX12_doScale_29 : decode cX12_doScale 29 = .ok (.iconst 2, 1) := by decide +kernel
theorem dX12_doScale_30 : decode cX12_doScale 30 = .ok (.iconst 1, 1) := by decide +kernel
theorem dX12_doScale_31 : decode cX12_doScale 31 = .ok (.iload_n 1, 1) := by decide +kernel
theorem dX12_doScale_32 : decode cX12_doScale 32 = .ok (.invokevirtual 85, 3) := by decide +kernel
theorem dX12_doScale_35 : decode cX12_doScale 35 = .ok (.ireturn, 1) := by decide +kernel
theorem dX12_doScale_36 : decode cX12_doScale 36 = .ok (.aload_n 0, 1) := by decide +kernel
theorem dX12_doScale_37 : decode cX12_doScale 37 = .ok (.getfield 9, 3) := by decide +kernel
theorem dX12_doScale_40 : decode cX12_doScale 40 = .ok (.iconst 2, 1) := by decide +kernel
theorem dX12_doScale_41 : decode cX12_doScale 41 = .ok (.iload_n 1, 1) := by decide +kernel
theorem dX12_doScale_42 : decode cX12_doScale 42 = .ok (.iastore, 1) := by decide +kernel
theorem dX12_doScale_43 : decode cX12_doScale 43 = .ok (.iload_n 2, 1) := by decide +kernel
theorem dX12_doScale_44 : decode cX12_doScale 44 = .ok (.ireturn, 1) := by decide +kernel
theorem dX12_scale_0 : decode cX12_scale 0 = .ok (.aload_n 0, 1) := by decide +kernel
theorem dX12_scale_1 : decode cX12_scale 1 = .ok (.invokevirtual 93, 3) := by decide +kernel
theorem dX12_scale_4 : decode cX12_scale 4 = .ok (.aload_n 0, 1) := by decide +kernel
theorem dX12_scale_5 : decode cX12_scale 5 = .ok (.aload_n 0, 1) := by decide +kernel
theorem dX12_scale_6 : decode cX12_scale 6 = .ok (.iload_n 1, 1) := by decide +kernel
theorem dX12_scale_7 : decode cX12_scale 7 = .ok (.invokevirtual 122, 3) := by decide +kernel
theorem dX12_scale_10 : decode cX12_scale 10 = .ok (.invokevirtual 100, 3) := by decide +kernel
theorem dX12_scale_13 : decode cX12_scale 13 = .ok (.ireturn, 1) := by decide +kernel
theorem dX12_isRiver_0 : decode cX12_isRiver 0 = .ok (.iload_n 1, 1) := by decide +kernel
theorem dX12_isRiver_1 : decode cX12_isRiver 1 = .ok (.iconst 0, 1) := by decide +kernel
theorem dX12_isRiver_2 : decode cX12_isRiver 2 = .ok (.aload_n 0, 1) := by decide +kernel
theorem dX12_isRiver_3 : decode cX12_isRiver 3 = .ok (.getfield 9, 3) := by decide +kernel
theorem dX12_isRiver_6 : decode cX12_isRiver 6 = .ok (.iconst 0, 1) := by decide +kernel
theorem dX12_isRiver_7 : decode cX12_isRiver 7 = .ok (.iaload, 1) := by decide +kernel
theorem dX12_isRiver_8 : decode cX12_isRiver 8 = .ok (.iconst 1, 1) := by decide +kernel
theorem dX12_isRiver_9 : decode cX12_isRiver 9 = .ok (.isub, 1) := by decide +kernel
theorem dX12_isRiver_10 : decode cX12_isRiver 10 = .ok (.invokestatic 63, 3) := by decide +kernel
theorem dX12_isRiver_13 : decode cX12_isRiver 13 = .ok (.ireturn, 1) := by decide +kernel
theorem dX12_draws_0 : decode cX12_draws 0 = .ok (.aload_n 0, 1) := by decide +kernel
theorem dX12_draws_1 : decode cX12_draws 1 = .ok (.getfield 9, 3) := by decide +kernel
theorem dX12_draws_4 : decode cX12_draws 4 = .ok (.iconst 0, 1) := by decide +kernel
theorem dX12_draws_5 : decode cX12_draws 5 = .ok (.iaload, 1) := by decide +kernel
theorem dX12_draws_6 : decode cX12_draws 6 = .ok (.istore 6, 2) := by decide +kernel
theorem dX12_draws_8 : decode cX12_draws 8 = .ok (.iload 6, 2) := by decide +kernel
theorem dX12_draws_10 : decode cX12_draws 10 = .ok (.iconst 4, 1) := by decide +kernel
theorem dX12_draws_11 : decode cX12_draws 11 = .ok (.if_icmp .ne 13, 3) := by decide +kernel
theorem dX12_draws_14 : decode cX12_draws 14 = .ok (.aload_n 0, 1) := by decide +kernel
theorem dX12_draws_15 : decode cX12_draws 15 = .ok (.iload 5, 2) := by decide +kernel
theorem dX12_draws_17 : decode cX12_draws 17 = .ok (.bipush 6, 2) := by decide +kernel
theorem dX12_draws_19 : decode cX12_draws 19 = .ok (.iconst 4, 1) := by decide +kernel
theorem dX12_draws_20 : decode cX12_draws 20 = .ok (.invokevirtual 85, 3) := by decide +kernel
theorem dX12_draws_23 : decode cX12_draws 23 = .ok (.ireturn, 1) := by decide +kernel
theorem dX12_draws_24 : decode cX12_draws 24 = .ok (.bipush 83, 2) := by decide +kernel
theorem dX12_draws_26 : decode cX12_draws 26 = .ok (.bipush 15, 2) := by decide +kernel
theorem dX12_draws_28 : decode cX12_draws 28 = .ok (.iload 6, 2) := by decide +kernel
theorem dX12_draws_30 : decode cX12_draws 30 = .ok (.imul, 1) := by decide +kernel
theorem dX12_draws_31 : decode cX12_draws 31 = .ok (.iadd, 1) := by decide +kernel
theorem dX12_draws_32 : decode cX12_draws 32 = .ok (.istore 7, 2) := by decide +kernel
theorem dX12_draws_34 : decode cX12_draws 34 = .ok (.iload_n 1, 1) := by decide +kernel
theorem dX12_draws_35 : decode cX12_draws 35 = .ok (.istore 8, 2) := by decide +kernel
theorem dX12_draws_37 : decode cX12_draws 37 = .ok (.iconst 0, 1) := by decide +kernel
theorem dX12_draws_38 : decode cX12_draws 38 = .ok (.istore 9, 2) := by decide +kernel
theorem dX12_draws_40 : decode cX12_draws 40 = .ok (.iload 9, 2) := by decide +kernel
theorem dX12_draws_42 : decode cX12_draws 42 = .ok (.iload 4, 2) := by decide +kernel
theorem dX12_draws_44 : decode cX12_draws 44 = .ok (.if_icmp .ge 64, 3) := by decide +kernel
theorem dX12_draws_47 : decode cX12_draws 47 = .ok (.ldc 125, 2) := by decide +kernel
theorem dX12_draws_49 : decode cX12_draws 49 = .ok (.aload_n 0, 1) := by decide +kernel
theorem dX12_draws_50 : decode cX12_draws 50 = .ok (.getfield 33, 3) := by decide +kernel
theorem dX12_draws_53 : decode cX12_draws 53 = .ok (.iload_n 3, 1) := by decide +kernel
theorem dX12_draws_54 : decode cX12_draws 54 = .ok (.iload 9, 2) := by decide +kernel
theorem dX12_draws_56 : decode cX12_draws 56 = .ok (.iadd, 1) := by decide +kernel
theorem dX12_draws_57 : decode cX12_draws 57 = .ok (.caload, 1) := by decide +kernel
theorem dX12_draws_58 : decode cX12_draws 58 = .ok (.invokevirtual 127, 3) := by decide +kernel
theorem dX12_draws_61 : decode cX12_draws 61 = .ok (.istore 10, 2) := by decide +kernel
theorem dX12_draws_63 : decode cX12_draws 63 = .ok (.iload 8, 2) := by decide +kernel
theorem dX12_draws_65 : decode cX12_draws 65 = .ok (.iload 10, 2) := by decide +kernel
theorem dX12_draws_67 : decode cX12_draws 67 = .ok (.invokestatic 103, 3) := by decide +kernel
theorem dX12_draws_70 : decode cX12_draws 70 = .ok (.istore 8, 2) := by decide +kernel
theorem dX12_draws_72 : decode cX12_draws 72 = .ok (.iload 8, 2) := by decide +kernel
theorem dX12_draws_74 : decode cX12_draws 74 = .ok (.ifCond .ge 14, 3) := by decide +kernel
theorem dX12_draws_77 : decode cX12_draws 77 = .ok (.aload_n 0, 1) := by decide +kernel
theorem dX12_draws_78 : decode cX12_draws 78 = .ok (.iload 5, 2) := by decide +kernel
theorem dX12_draws_80 : decode cX12_draws 80 = .ok (.bipush 7, 2) := by decide +kernel
theorem dX12_draws_82 : decode cX12_draws 82 = .ok (.iload 9, 2) := by decide +kernel
theorem dX12_draws_84 : decode cX12_draws 84 = .ok (.invokevirtual 85, 3) := by decide +kernel
theorem dX12_draws_87 : decode cX12_draws 87 = .ok (.ireturn, 1) := by decide +kernel
theorem dX12_draws_88 : decode cX12_draws 88 = .ok (.aload_n 0, 1) := by decide +kernel
theorem dX12_draws_89 : decode cX12_draws 89 = .ok (.getfield 9, 3) := by decide +kernel
theorem dX12_draws_92 : decode cX12_draws 92 = .ok (.iload 7, 2) := by decide +kernel
theorem dX12_draws_94 : decode cX12_draws 94 = .ok (.iconst 3, 1) := by decide +kernel
theorem dX12_draws_95 : decode cX12_draws 95 = .ok (.iadd, 1) := by decide +kernel
theorem dX12_draws_96 : decode cX12_draws 96 = .ok (.iload 9, 2) := by decide +kernel
theorem dX12_draws_98 : decode cX12_draws 98 = .ok (.iadd, 1) := by decide +kernel
theorem dX12_draws_99 : decode cX12_draws 99 = .ok (.iload 10, 2) := by decide +kernel
theorem dX12_draws_101 : decode cX12_draws 101 = .ok (.iastore, 1) := by decide +kernel
theorem dX12_draws_102 : decode cX12_draws 102 = .ok (.iinc 9 1, 3) := by decide +kernel
theorem dX12_draws_105 : decode cX12_draws 105 = .ok (.goto (-65), 3) := by decide +kernel
theorem dX12_draws_108 : decode cX12_draws 108 = .ok (.aload_n 0, 1) := by decide +kernel
theorem dX12_draws_109 : decode cX12_draws 109 = .ok (.getfield 9, 3) := by decide +kernel
theorem dX12_draws_112 : decode cX12_draws 112 = .ok (.iload 7, 2) := by decide +kernel
theorem dX12_draws_114 : decode cX12_draws 114 = .ok (.iload_n 1, 1) := by decide +kernel
theorem dX12_draws_115 : decode cX12_draws 115 = .ok (.iastore, 1) := by decide +kernel
theorem dX12_draws_116 : decode cX12_draws 116 = .ok (.aload_n 0, 1) := by decide +kernel
theorem dX12_draws_117 : decode cX12_draws 117 = .ok (.getfield 9, 3) := by decide +kernel
theorem dX12_draws_120 : decode cX12_draws 120 = .ok (.iload 7, 2) := by decide +kernel
theorem dX12_draws_122 : decode cX12_draws 122 = .ok (.iconst 1, 1) := by decide +kernel
theorem dX12_draws_123 : decode cX12_draws 123 = .ok (.iadd, 1) := by decide +kernel
theorem dX12_draws_124 : decode cX12_draws 124 = .ok (.iload_n 2, 1) := by decide +kernel
theorem dX12_draws_125 : decode cX12_draws 125 = .ok (.iastore, 1) := by decide +kernel
theorem dX12_draws_126 : decode cX12_draws 126 = .ok (.aload_n 0, 1) := by decide +kernel
theorem dX12_draws_127 : decode cX12_draws 127 = .ok (.getfield 9, 3) := by decide +kernel
theorem dX12_draws_130 : decode cX12_draws 130 = .ok (.iload 7, 2) := by decide +kernel
theorem dX12_draws_132 : decode cX12_draws 132 = .ok (.iconst 2, 1) := by decide +kernel
theorem dX12_draws_133 : decode cX12_draws 133 = .ok (.iadd, 1) := by decide +kernel
theorem dX12_draws_134 : decode cX12_draws 134 = .ok (.iload 4, 2) := by decide +kernel
theorem dX12_draws_136 : decode cX12_draws 136 = .ok (.iastore, 1) := by decide +kernel
theorem dX12_draws_137 : decode cX12_draws 137 = .ok (.aload_n 0, 1) := by decide +kernel
theorem dX12_draws_138 : decode cX12_draws 138 = .ok (.getfield 9, 3) := by decide +kernel
theorem dX12_draws_141 : decode cX12_draws 141 = .ok (.iconst 0, 1) := by decide +kernel
theorem dX12_draws_142 : decode cX12_draws 142 = .ok (.dup2, 1) := by decide +kernel
theorem dX12_draws_143 : decode cX12_draws 143 = .ok (.iaload, 1) := by decide +kernel
theorem dX12_draws_144 : decode cX12_draws 144 = .ok (.iconst 1, 1) := by decide +kernel
theorem dX12_draws_145 : decode cX12_draws 145 = .ok (.iadd, 1) := by decide +kernel
theorem dX12_draws_146 : decode cX12_draws 146 = .ok (.iastore, 1) := by decide +kernel
theorem dX12_draws_147 : decode cX12_draws 147 = .ok (.iload 6, 2) := by decide +kernel
theorem dX12_draws_149 : decode cX12_draws 149 = .ok (.ireturn, 1) := by decide +kernel
theorem dX12_doRiver_0 : decode cX12_doRiver 0 = .ok (.iload_n 1, 1) := by decide +kernel
theorem dX12_doRiver_1 : decode cX12_doRiver 1 = .ok (.invokestatic 78, 3) := by decide +kernel
theorem dX12_doRiver_4 : decode cX12_doRiver 4 = .ok (.ifCond .ne 9, 3) := by decide +kernel
theorem dX12_doRiver_7 : decode cX12_doRiver 7 = .ok (.aload_n 0, 1) := by decide +kernel
theorem dX12_doRiver_8 : decode cX12_doRiver 8 = .ok (.iconst 1, 1) := by decide +kernel
theorem dX12_doRiver_9 : decode cX12_doRiver 9 = .ok (.invokevirtual 82, 3) := by decide +kernel
theorem dX12_doRiver_12 : decode cX12_doRiver 12 = .ok (.ireturn, 1) := by decide +kernel
theorem dX12_doRiver_13 : decode cX12_doRiver 13 = .ok (.iload_n 2, 1) := by decide +kernel
theorem dX12_doRiver_14 : decode cX12_doRiver 14 = .ok (.iconst 0, 1) := by decide +kernel
theorem dX12_doRiver_15 : decode cX12_doRiver 15 = .ok (.bipush 99, 2) := by decide +kernel
theorem dX12_doRiver_17 : decode cX12_doRiver 17 = .ok (.invokestatic 63, 3) := by decide +kernel
theorem dX12_doRiver_20 : decode cX12_doRiver 20 = .ok (.ifCond .ne 9, 3) := by decide +kernel
theorem dX12_doRiver_23 : decode cX12_doRiver 23 = .ok (.aload_n 0, 1) := by decide +kernel
theorem dX12_doRiver_24 : decode cX12_doRiver 24 = .ok (.iconst 2, 1) := by decide +kernel
theorem dX12_doRiver_25 : decode cX12_doRiver 25 = .ok (.invokevirtual 82, 3) := by decide +kernel
theorem dX12_doRiver_28 : decode cX12_doRiver 28 = .ok (.ireturn, 1) := by decide +kernel
theorem dX12_doRiver_29 : decode cX12_doRiver 29 = .ok (.iload_n 3, 1) := by decide +kernel
theorem dX12_doRiver_30 : decode cX12_doRiver 30 = .ok (.iconst 1, 1) := by decide +kernel
theorem dX12_doRiver_31 : decode cX12_doRiver 31 = .ok (.bipush 12, 2) := by decide +kernel
theorem dX12_doRiver_33 : decode cX12_doRiver 33 = .ok (.invokestatic 63, 3) := by decide +kernel
theorem dX12_doRiver_36 : decode cX12_doRiver 36 = .ok (.istore 4, 2) := by decide +kernel
theorem dX12_doRiver_38 : decode cX12_doRiver 38 = .ok (.iconst 0, 1) := by decide +kernel
theorem dX12_doRiver_39 : decode cX12_doRiver 39 = .ok (.istore 5, 2) := by decide +kernel
theorem dX12_doRiver_41 : decode cX12_doRiver 41 = .ok (.iload 5, 2) := by decide +kernel
theorem dX12_doRiver_43 : decode cX12_doRiver 43 = .ok (.iload_n 3, 1) := by decide +kernel
theorem dX12_doRiver_44 : decode cX12_doRiver 44 = .ok (.if_icmp .ge 36, 3) := by decide +kernel
theorem dX12_doRiver_47 : decode cX12_doRiver 47 = .ok (.iload 4, 2) := by decide +kernel
theorem dX12_doRiver_49 : decode cX12_doRiver 49 = .ok (.ifCond .eq 22, 3) := by decide +kernel
theorem dX12_doRiver_52 : decode cX12_doRiver 52 = .ok (.ldc 125, 2) := by decide +kernel
theorem dX12_doRiver_54 : decode cX12_doRiver 54 = .ok (.aload_n 0, 1) := by decide +kernel
theorem dX12_doRiver_55 : decode cX12_doRiver 55 = .ok (.getfield 33, 3) := by decide +kernel
theorem dX12_doRiver_58 : decode cX12_doRiver 58 = .ok (.iload 5, 2) := by decide +kernel
theorem dX12_doRiver_60 : decode cX12_doRiver 60 = .ok (.caload, 1) := by decide +kernel
theorem dX12_doRiver_61 : decode cX12_doRiver 61 = .ok (.invokevirtual 127, 3) := by decide +kernel
theorem dX12_doRiver_64 : decode cX12_doRiver 64 = .ok (.ifCond .lt 7, 3) := by decide +kernel
theorem dX12_doRiver_67 : decode cX12_doRiver 67 = .ok (.iconst 1, 1) := by decide +kernel
theorem dX12_doRiver_68 : decode cX12_doRiver 68 = .ok (.goto 4, 3) := by decide +kernel
theorem dX12_doRiver_71 : decode cX12_doRiver 71 = .ok (.iconst 0, 1) := by decide +kernel
theorem dX12_doRiver_72 : decode cX12_doRiver 72 = .ok (.istore 4, 2) := by decide +kernel
theorem dX12_doRiver_74 : decode cX12_doRiver 74 = .ok (.iinc 5 1, 3) := by decide +kernel
theorem dX12_doRiver_77 : decode cX12_doRiver 77 = .ok (.goto (-36), 3) := by decide +kernel
theorem dX12_doRiver_80 : decode cX12_doRiver 80 = .ok (.iload 4, 2) := by decide +kernel
theorem dX12_doRiver_82 : decode cX12_doRiver 82 = .ok (.ifCond .eq 15, 3) := by decide +kernel
theorem dX12_doRiver_85 : decode cX12_doRiver 85 = .ok (.aload_n 0, 1) := by decide +kernel
theorem dX12_doRiver_86 : decode cX12_doRiver 86 = .ok (.iload_n 1, 1) := by decide +kernel
theorem dX12_doRiver_87 : decode cX12_doRiver 87 = .ok (.iload_n 2, 1) := by decide +kernel
theorem dX12_doRiver_88 : decode cX12_doRiver 88 = .ok (.iconst 0, 1) := by decide +kernel
theorem dX12_doRiver_89 : decode cX12_doRiver 89 = .ok (.iload_n 3, 1) := by decide +kernel
theorem dX12_doRiver_90 : decode cX12_doRiver 90 = .ok (.iconst 4, 1) := by decide +kernel
theorem dX12_doRiver_91 : decode cX12_doRiver 91 = .ok (.invokevirtual 132, 3) := by decide +kernel
theorem dX12_doRiver_94 : decode cX12_doRiver 94 = .ok (.goto 8, 3) := by decide +kernel
theorem dX12_doRiver_97 : decode cX12_doRiver 97 = .ok (.aload_n 0, 1) := by decide +kernel
theorem dX12_doRiver_98 : decode cX12_doRiver 98 = .ok (.iconst 3, 1) := by decide +kernel
theorem dX12_doRiver_99 : decode cX12_doRiver 99 = .ok (.invokevirtual 82, 3) := by decide +kernel
theorem dX12_doRiver_102 : decode cX12_doRiver 102 = .ok (.ireturn, 1) := by decide +kernel
theorem dX12_river_0 : decode cX12_river 0 = .ok (.aload_n 0, 1) := by decide +kernel
theorem dX12_river_1 : decode cX12_river 1 = .ok (.getfield 135, 3) := by decide +kernel
theorem dX12_river_4 : decode cX12_river 4 = .ok (.istore_n 3, 1) := by decide +kernel
theorem dX12_river_5 : decode cX12_river 5 = .ok (.aload_n 0, 1) := by decide +kernel
theorem dX12_river_6 : decode cX12_river 6 = .ok (.invokevirtual 93, 3) := by decide +kernel
theorem dX12_river_9 : decode cX12_river 9 = .ok (.aload_n 0, 1) := by decide +kernel
theorem dX12_river_10 : decode cX12_river 10 = .ok (.iconst 0, 1) := by decide +kernel
theorem dX12_river_11 : decode cX12_river 11 = .ok (.putfield 135, 3) := by decide +kernel
theorem dX12_river_14 : decode cX12_river 14 = .ok (.aload_n 0, 1) := by decide +kernel
theorem dX12_river_15 : decode cX12_river 15 = .ok (.aload_n 0, 1) := by decide +kernel
theorem dX12_river_16 : decode cX12_river 16 = .ok (.iload_n 1, 1) := by decide +kernel
theorem dX12_river_17 : decode cX12_river 17 = .ok (.iload_n 2, 1) := by decide +kernel
theorem dX12_river_18 : decode cX12_river 18 = .ok (.iload_n 3, 1) := by decide +kernel
theorem dX12_river_19 : decode cX12_river 19 = .ok (.invokevirtual 138, 3) := by decide +kernel
theorem dX12_river_22 : decode cX12_river 22 = .ok (.invokevirtual 100, 3) := by decide +kernel
theorem dX12_river_25 : decode cX12_river 25 = .ok (.ireturn, 1) := by decide +kernel
theorem dX12_doDrop_0 : decode cX12_doDrop 0 = .ok (.aload_n 0, 1) := by decide +kernel
theorem dX12_doDrop_1 : decode cX12_doDrop 1 = .ok (.iload_n 1, 1) := by decide +kernel
theorem dX12_doDrop_2 : decode cX12_doDrop 2 = .ok (.invokevirtual 141, 3) := by decide +kernel
theorem dX12_doDrop_5 : decode cX12_doDrop 5 = .ok (.ifCond .ne 9, 3) := by decide +kernel
theorem dX12_doDrop_8 : decode cX12_doDrop 8 = .ok (.aload_n 0, 1) := by decide +kernel
theorem dX12_doDrop_9 : decode cX12_doDrop 9 = .ok (.iconst 1, 1) := by decide +kernel
theorem dX12_doDrop_10 : decode cX12_doDrop 10 = .ok (.invokevirtual 82, 3) := by decide +kernel
theorem dX12_doDrop_13 : decode cX12_doDrop 13 = .ok (.ireturn, 1) := by decide +kernel
theorem dX12_doDrop_14 : decode cX12_doDrop 14 = .ok (.aload_n 0, 1) := by decide +kernel
theorem dX12_doDrop_15 : decode cX12_doDrop 15 = .ok (.getfield 9, 3) := by decide +kernel
theorem dX12_doDrop_18 : decode cX12_doDrop 18 = .ok (.iconst 0, 1) := by decide +kernel
theorem dX12_doDrop_19 : decode cX12_doDrop 19 = .ok (.iaload, 1) := by decide +kernel
theorem dX12_doDrop_20 : decode cX12_doDrop 20 = .ok (.iconst 1, 1) := by decide +kernel
theorem dX12_doDrop_21 : decode cX12_doDrop 21 = .ok (.isub, 1) := by decide +kernel
theorem dX12_doDrop_22 : decode cX12_doDrop 22 = .ok (.istore_n 2, 1) := by decide +kernel
theorem dX12_doDrop_23 : decode cX12_doDrop 23 = .ok (.bipush 83, 2) := by decide +kernel
theorem dX12_doDrop_25 : decode cX12_doDrop 25 = .ok (.bipush 15, 2) := by decide +kernel
theorem dX12_doDrop_27 : decode cX12_doDrop 27 = .ok (.iload_n 1, 1) := by decide +kernel
theorem dX12_doDrop_28 : decode cX12_doDrop 28 = .ok (.imul, 1) := by decide +kernel
theorem dX12_doDrop_29 : decode cX12_doDrop 29 = .ok (.iadd, 1) := by decide +kernel
theorem dX12_doDrop_30 : decode cX12_doDrop 30 = .ok (.istore_n 3, 1) := by decide +kernel
theorem dX12_doDrop_31 : decode cX12_doDrop 31 = .ok (.aload_n 0, 1) := by decide +kernel
theorem dX12_doDrop_32 : decode cX12_doDrop 32 = .ok (.getfield 9, 3) := by decide +kernel
theorem dX12_doDrop_35 : decode cX12_doDrop 35 = .ok (.iload_n 3, 1) := by decide +kernel
theorem dX12_doDrop_36 : decode cX12_doDrop 36 = .ok (.bipush 15, 2) := by decide +kernel
theorem dX12_doDrop_38 : decode cX12_doDrop 38 = .ok (.iadd, 1) := by decide +kernel
theorem dX12_doDrop_39 : decode cX12_doDrop 39 = .ok (.aload_n 0, 1) := by decide +kernel
theorem dX12_doDrop_40 : decode cX12_doDrop 40 = .ok (.getfield 9, 3) := by decide +kernel
theorem dX12_doDrop_43 : decode cX12_doDrop 43 = .ok (.iload_n 3, 1) := by decide +kernel
theorem dX12_doDrop_44 : decode cX12_doDrop 44 = .ok (.bipush 15, 2) := by decide +kernel
theorem dX12_doDrop_46 : decode cX12_doDrop 46 = .ok (.iload_n 2, 1) := by decide +kernel
theorem dX12_doDrop_47 : decode cX12_doDrop 47 = .ok (.iload_n 1, 1) := by decide +kernel
theorem dX12_doDrop_48 : decode cX12_doDrop 48 = .ok (.isub, 1) := by decide +kernel
theorem dX12_doDrop_49 : decode cX12_doDrop 49 = .ok (.imul, 1) := by decide +kernel
theorem dX12_doDrop_50 : decode cX12_doDrop 50 = .ok (.invokestatic 46, 3) := by decide +kernel
theorem dX12_doDrop_53 : decode cX12_doDrop 53 = .ok (.aload_n 0, 1) := by decide +kernel
theorem dX12_doDrop_54 : decode cX12_doDrop 54 = .ok (.getfield 9, 3) := by decide +kernel
theorem dX12_doDrop_57 : decode cX12_doDrop 57 = .ok (.iconst 0, 1) := by decide +kernel
theorem dX12_doDrop_58 : decode cX12_doDrop 58 = .ok (.iload_n 2, 1) := by decide +kernel
theorem dX12_doDrop_59 : decode cX12_doDrop 59 = .ok (.iastore, 1) := by decide +kernel
theorem dX12_doDrop_60 : decode cX12_doDrop 60 = .ok (.iload_n 2, 1) := by decide +kernel
theorem dX12_doDrop_61 : decode cX12_doDrop 61 = .ok (.ireturn, 1) := by decide +kernel
theorem dX12_drop_0 : decode cX12_drop 0 = .ok (.aload_n 0, 1) := by decide +kernel
theorem dX12_drop_1 : decode cX12_drop 1 = .ok (.invokevirtual 93, 3) := by decide +kernel
theorem dX12_drop_4 : decode cX12_drop 4 = .ok (.aload_n 0, 1) := by decide +kernel
theorem dX12_drop_5 : decode cX12_drop 5 = .ok (.aload_n 0, 1) := by decide +kernel
theorem dX12_drop_6 : decode cX12_drop 6 = .ok (.iload_n 1, 1) := by decide +kernel
theorem dX12_drop_7 : decode cX12_drop 7 = .ok (.invokevirtual 144, 3) := by decide +kernel
theorem dX12_drop_10 : decode cX12_drop 10 = .ok (.invokevirtual 100, 3) := by decide +kernel
theorem dX12_drop_13 : decode cX12_drop 13 = .ok (.ireturn, 1) := by decide +kernel
theorem dX12_doDragon_0 : decode cX12_doDragon 0 = .ok (.aload_n 0, 1) := by decide +kernel
theorem dX12_doDragon_1 : decode cX12_doDragon 1 = .ok (.getfield 9, 3) := by decide +kernel
theorem dX12_doDragon_4 : decode cX12_doDragon 4 = .ok (.iconst 1, 1) := by decide +kernel
theorem dX12_doDragon_5 : decode cX12_doDragon 5 = .ok (.iaload, 1) := by decide +kernel
theorem dX12_doDragon_6 : decode cX12_doDragon 6 = .ok (.istore_n 3, 1) := by decide +kernel
theorem dX12_doDragon_7 : decode cX12_doDragon 7 = .ok (.iload_n 1, 1) := by decide +kernel
theorem dX12_doDragon_8 : decode cX12_doDragon 8 = .ok (.invokestatic 78, 3) := by decide +kernel
theorem dX12_doDragon_11 : decode cX12_doDragon 11 = .ok (.ifCond .ne 9, 3) := by decide +kernel
theorem dX12_doDragon_14 : decode cX12_doDragon 14 = .ok (.aload_n 0, 1) := by decide +kernel
theorem dX12_doDragon_15 : decode cX12_doDragon 15 = .ok (.iconst 1, 1) := by decide +kernel
theorem dX12_doDragon_16 : decode cX12_doDragon 16 = .ok (.invokevirtual 82, 3) := by decide +kernel
theorem dX12_doDragon_19 : decode cX12_doDragon 19 = .ok (.ireturn, 1) := by decide +kernel
theorem dX12_doDragon_20 : decode cX12_doDragon 20 = .ok (.iload_n 2, 1) := by decide +kernel
theorem dX12_doDragon_21 : decode cX12_doDragon 21 = .ok (.iconst 1, 1) := by decide +kernel
theorem dX12_doDragon_22 : decode cX12_doDragon 22 = .ok (.bipush 50, 2) := by decide +kernel
theorem dX12_doDragon_24 : decode cX12_doDragon 24 = .ok (.invokestatic 63, 3) := by decide +kernel
theorem dX12_doDragon_27 : decode cX12_doDragon 27 = .ok (.ifCond .ne 9, 3) := by decide +kernel
theorem dX12_doDragon_30 : decode cX12_doDragon 30 = .ok (.aload_n 0, 1) := by decide +kernel
theorem dX12_doDragon_31 : decode cX12_doDragon 31 = .ok (.iconst 2, 1) := by decide +kernel
theorem dX12_doDragon_32 : decode cX12_doDragon 32 = .ok (.invokevirtual 82, 3) := by decide +kernel
theorem dX12_doDragon_35 : decode cX12_doDragon 35 = .ok (.ireturn, 1) := by decide +kernel
theorem dX12_doDragon_36 : decode cX12_doDragon 36 = .ok (.aload_n 0, 1) := by decide +kernel
theorem dX12_doDragon_37 : decode cX12_doDragon 37 = .ok (.iload_n 1, 1) := by decide +kernel
theorem dX12_doDragon_38 : decode cX12_doDragon 38 = .ok (.invokevirtual 67, 3) := by decide +kernel
theorem dX12_doDragon_41 : decode cX12_doDragon 41 = .ok (.istore 4, 2) := by decide +kernel
theorem dX12_doDragon_43 : decode cX12_doDragon 43 = .ok (.iload 4, 2) := by decide +kernel
theorem dX12_doDragon_45 : decode cX12_doDragon 45 = .ok (.ifCond .ge 11, 3) := by decide +kernel
theorem dX12_doDragon_48 : decode cX12_doDragon 48 = .ok (.aload_n 0, 1) := by decide +kernel
theorem dX12_doDragon_49 : decode cX12_doDragon 49 = .ok (.iconst 3, 1) := by decide +kernel
theorem dX12_doDragon_50 : decode cX12_doDragon 50 = .ok (.iconst 3, 1) := by decide +kernel
theorem dX12_doDragon_51 : decode cX12_doDragon 51 = .ok (.iload_n 1, 1) := by decide +kernel
theorem dX12_doDragon_52 : decode cX12_doDragon 52 = .ok (.invokevirtual 85, 3) := by decide +kernel
theorem dX12_doDragon_55 : decode cX12_doDragon 55 = .ok (.ireturn, 1) := by decide +kernel
theorem dX12_doDragon_56 : decode cX12_doDragon 56 = .ok (.aload_n 0, 1) := by decide +kernel
theorem dX12_doDragon_57 : decode cX12_doDragon 57 = .ok (.iload_n 1, 1) := by decide +kernel
theorem dX12_doDragon_58 : decode cX12_doDragon 58 = .ok (.invokevirtual 71, 3) := by decide +kernel
theorem dX12_doDragon_61 : decode cX12_doDragon 61 = .ok (.ifCond .lt 16, 3) := by decide +kernel
theorem dX12_doDragon_64 : decode cX12_doDragon 64 = .ok (.aload_n 0, 1) := by decide +kernel
theorem dX12_doDragon_65 : decode cX12_doDragon 65 = .ok (.iconst 3, 1) := by decide +kernel
theorem dX12_doDragon_66 : decode cX12_doDragon 66 = .ok (.bipush 8, 2) := by decide +kernel
theorem dX12_doDragon_68 : decode cX12_doDragon 68 = .ok (.aload_n 0, 1) := by decide +kernel
theorem dX12_doDragon_69 : decode cX12_doDragon 69 = .ok (.iload_n 1, 1) := by decide +kernel
theorem dX12_doDragon_70 : decode cX12_doDragon 70 = .ok (.invokevirtual 71, 3) := by decide +kernel
theorem dX12_doDragon_73 : decode cX12_doDragon 73 = .ok (.invokevirtual 85, 3) := by decide +kernel
theorem dX12_doDragon_76 : decode cX12_doDragon 76 = .ok (.ireturn, 1) := by decide +kernel
theorem dX12_doDragon_77 : decode cX12_doDragon 77 = .ok (.iload_n 3, 1) := by decide +kernel
theorem dX12_doDragon_78 : decode cX12_doDragon 78 = .ok (.iconst 5, 1) := by decide +kernel
theorem dX12_doDragon_79 : decode cX12_doDragon 79 = .ok (.if_icmp .ne 12, 3) := by decide +kernel
theorem dX12_doDragon_82 : decode cX12_doDragon 82 = .ok (.aload_n 0, 1) := by decide +kernel
theorem dX12_doDragon_83 : decode cX12_doDragon 83 = .ok (.iconst 3, 1) := by decide +kernel
theorem dX12_doDragon_84 : decode cX12_doDragon 84 = .ok (.bipush 6, 2) := by decide +kernel
theorem dX12_doDragon_86 : decode cX12_doDragon 86 = .ok (.iconst 5, 1) := by decide +kernel
theorem dX12_doDragon_87 : decode cX12_doDragon 87 = .ok (.invokevirtual 85, 3) := by decide +kernel
theorem dX12_doDragon_90 : decode cX12_doDragon 90 = .ok (.ireturn, 1) := by decide +kernel
theorem dX12_doDragon_91 : decode cX12_doDragon 91 = .ok (.aload_n 0, 1) := by decide +kernel
theorem dX12_doDragon_92 : decode cX12_doDragon 92 = .ok (.getfield 9, 3) := by decide +kernel
theorem dX12_doDragon_95 : decode cX12_doDragon 95 = .ok (.bipush 7, 2) := by decide +kernel
theorem dX12_doDragon_97 : decode cX12_doDragon 97 = .ok (.iconst 3, 1) := by decide +kernel
theorem dX12_doDragon_98 : decode cX12_doDragon 98 = .ok (.iload 4, 2) := by decide +kernel
theorem dX12_doDragon_100 : decode cX12_doDragon 100 = .ok (.imul, 1) := by decide +kernel
theorem dX12_doDragon_101 : decode cX12_doDragon 101 = .ok (.iadd, 1) := by decide +kernel
theorem dX12_doDragon_102 : decode cX12_doDragon 102 = .ok (.iaload, 1) := by decide +kernel
theorem dX12_doDragon_103 : decode cX12_doDragon 103 = .ok (.istore 5, 2) := by decide +kernel
theorem dX12_doDragon_105 : decode cX12_doDragon 105 = .ok (.iload_n 2, 1) := by decide +kernel
theorem dX12_doDragon_106 : decode cX12_doDragon 106 = .ok (.iload 5, 2) := by decide +kernel
theorem dX12_doDragon_108 : decode cX12_doDragon 108 = .ok (.if_icmp .le 13, 3) := by decide +kernel
theorem dX12_doDragon_111 : decode cX12_doDragon 111 = .ok (.aload_n 0, 1) := by decide +kernel
theorem dX12_doDragon_112 : decode cX12_doDragon 112 = .ok (.iconst 3, 1) := by decide +kernel
theorem dX12_doDragon_113 : decode cX12_doDragon 113 = .ok (.bipush 9, 2) := by decide +kernel
theorem dX12_doDragon_115 : decode cX12_doDragon 115 = .ok (.iload 5, 2) := by decide +kernel
theorem dX12_doDragon_117 : decode cX12_doDragon 117 = .ok (.invokevirtual 85, 3) := by decide +kernel
theorem dX12_doDragon_120 : decode cX12_doDragon 120 = .ok (.ireturn, 1) := by decide +kernel
theorem dX12_doDragon_121 : decode cX12_doDragon 121 = .ok (.aload_n 0, 1) := by decide +kernel
theorem dX12_doDragon_122 : decode cX12_doDragon 122 = .ok (.getfield 9, 3) := by decide +kernel
theorem dX12_doDragon_125 : decode cX12_doDragon 125 = .ok (.bipush 7, 2) := by decide +kernel
theorem dX12_doDragon_127 : decode cX12_doDragon 127 = .ok (.iconst 3, 1) := by decide +kernel
theorem dX12_doDragon_128 : decode cX12_doDragon 128 = .ok (.iload 4, 2) := by decide +kernel
theorem dX12_doDragon_130 : decode cX12_doDragon 130 = .ok (.imul, 1) := by decide +kernel
theorem dX12_doDragon_131 : decode cX12_doDragon 131 = .ok (.iadd, 1) := by decide +kernel
theorem dX12_doDragon_132 : decode cX12_doDragon 132 = .ok (.iload 5, 2) := by decide +kernel
theorem dX12_doDragon_134 : decode cX12_doDragon 134 = .ok (.iload_n 2, 1) := by decide +kernel
theorem dX12_doDragon_135 : decode cX12_doDragon 135 = .ok (.isub, 1) := by decide +kernel
theorem dX12_doDragon_136 : decode cX12_doDragon 136 = .ok (.iastore, 1) := by decide +kernel
theorem dX12_doDragon_137 : decode cX12_doDragon 137 = .ok (.aload_n 0, 1) := by decide +kernel
theorem dX12_doDragon_138 : decode cX12_doDragon 138 = .ok (.getfield 9, 3) := by decide +kernel
theorem dX12_doDragon_141 : decode cX12_doDragon 141 = .ok (.sipush 143, 3) := by decide +kernel
theorem dX12_doDragon_144 : decode cX12_doDragon 144 = .ok (.iconst 3, 1) := by decide +kernel
theorem dX12_doDragon_145 : decode cX12_doDragon 145 = .ok (.iload_n 3, 1) := by decide +kernel
theorem dX12_doDragon_146 : decode cX12_doDragon 146 = .ok (.imul, 1) := by decide +kernel
theorem dX12_doDragon_147 : decode cX12_doDragon 147 = .ok (.iadd, 1) := by decide +kernel
theorem dX12_doDragon_148 : decode cX12_doDragon 148 = .ok (.iload_n 1, 1) := by decide +kernel
theorem dX12_doDragon_149 : decode cX12_doDragon 149 = .ok (.iastore, 1) := by decide +kernel
theorem dX12_doDragon_150 : decode cX12_doDragon 150 = .ok (.aload_n 0, 1) := by decide +kernel
theorem dX12_doDragon_151 : decode cX12_doDragon 151 = .ok (.getfield 9, 3) := by decide +kernel
theorem dX12_doDragon_154 : decode cX12_doDragon 154 = .ok (.sipush 143, 3) := by decide +kernel
theorem dX12_doDragon_157 : decode cX12_doDragon 157 = .ok (.iconst 3, 1) := by decide +kernel
theorem dX12_doDragon_158 : decode cX12_doDragon 158 = .ok (.iload_n 3, 1) := by decide +kernel
theorem dX12_doDragon_159 : decode cX12_doDragon 159 = .ok (.imul, 1) := by decide +kernel
theorem dX12_doDragon_160 : decode cX12_doDragon 160 = .ok (.iadd, 1) := by decide +kernel
theorem dX12_doDragon_161 : decode cX12_doDragon 161 = .ok (.iconst 1, 1) := by decide +kernel
theorem dX12_doDragon_162 : decode cX12_doDragon 162 = .ok (.iadd, 1) := by decide +kernel
theorem dX12_doDragon_163 : decode cX12_doDragon 163 = .ok (.iload_n 2, 1) := by decide +kernel
theorem dX12_doDragon_164 : decode cX12_doDragon 164 = .ok (.iastore, 1) := by decide +kernel
theorem dX12_doDragon_165 : decode cX12_doDragon 165 = .ok (.aload_n 0, 1) := by decide +kernel
theorem dX12_doDragon_166 : decode cX12_doDragon 166 = .ok (.getfield 9, 3) := by decide +kernel
theorem dX12_doDragon_169 : decode cX12_doDragon 169 = .ok (.sipush 143, 3) := by decide +kernel
theorem dX12_doDragon_172 : decode cX12_doDragon 172 = .ok (.iconst 3, 1) := by decide +kernel
theorem dX12_doDragon_173 : decode cX12_doDragon 173 = .ok (.iload_n 3, 1) := by decide +kernel
theorem dX12_doDragon_174 : decode cX12_doDragon 174 = .ok (.imul, 1) := by decide +kernel
theorem dX12_doDragon_175 : decode cX12_doDragon 175 = .ok (.iadd, 1) := by decide +kernel
theorem dX12_doDragon_176 : decode cX12_doDragon 176 = .ok (.iconst 2, 1) := by decide +kernel
theorem dX12_doDragon_177 : decode cX12_doDragon 177 = .ok (.iadd, 1) := by decide +kernel
theorem dX12_doDragon_178 : decode cX12_doDragon 178 = .ok (.iload 4, 2) := by decide +kernel
theorem dX12_doDragon_180 : decode cX12_doDragon 180 = .ok (.iastore, 1) := by decide +kernel
theorem dX12_doDragon_181 : decode cX12_doDragon 181 = .ok (.aload_n 0, 1) := by decide +kernel
theorem dX12_doDragon_182 : decode cX12_doDragon 182 = .ok (.getfield 9, 3) := by decide +kernel
theorem dX12_doDragon_185 : decode cX12_doDragon 185 = .ok (.iconst 1, 1) := by decide +kernel
theorem dX12_doDragon_186 : decode cX12_doDragon 186 = .ok (.dup2, 1) := by decide +kernel
theorem dX12_doDragon_187 : decode cX12_doDragon 187 = .ok (.iaload, 1) := by decide +kernel
theorem dX12_doDragon_188 : decode cX12_doDragon 188 = .ok (.iconst 1, 1) := by decide +kernel
theorem dX12_doDragon_189 : decode cX12_doDragon 189 = .ok (.iadd, 1) := by decide +kernel
theorem dX12_doDragon_190 : decode cX12_doDragon 190 = .ok (.iastore, 1) := by decide +kernel
theorem dX12_doDragon_191 : decode cX12_doDragon 191 = .ok (.iload_n 3, 1) := by decide +kernel
theorem dX12_doDragon_192 : decode cX12_doDragon 192 = .ok (.ireturn, 1) := by decide +kernel
theorem dX12_dragon_0 : decode cX12_dragon 0 = .ok (.aload_n 0, 1) := by decide +kernel
theorem dX12_dragon_1 : decode cX12_dragon 1 = .ok (.invokevirtual 93, 3) := by decide +kernel
theorem dX12_dragon_4 : decode cX12_dragon 4 = .ok (.aload_n 0, 1) := by decide +kernel
theorem dX12_dragon_5 : decode cX12_dragon 5 = .ok (.aload_n 0, 1) := by decide +kernel
theorem dX12_dragon_6 : decode cX12_dragon 6 = .ok (.iload_n 1, 1) := by decide +kernel
theorem dX12_dragon_7 : decode cX12_dragon 7 = .ok (.iload_n 2, 1) := by decide +kernel
theorem dX12_dragon_8 : decode cX12_dragon 8 = .ok (.invokevirtual 147, 3) := by decide +kernel
theorem dX12_dragon_11 : decode cX12_dragon 11 = .ok (.invokevirtual 100, 3) := by decide +kernel
theorem dX12_dragon_14 : decode cX12_dragon 14 = .ok (.ireturn, 1) := by decide +kernel
theorem dX12_isDragon_0 : decode cX12_isDragon 0 = .ok (.iload_n 1, 1) := by decide +kernel
theorem dX12_isDragon_1 : decode cX12_isDragon 1 = .ok (.iconst 0, 1) := by decide +kernel
theorem dX12_isDragon_2 : decode cX12_isDragon 2 = .ok (.aload_n 0, 1) := by decide +kernel
theorem dX12_isDragon_3 : decode cX12_isDragon 3 = .ok (.getfield 9, 3) := by decide +kernel
theorem dX12_isDragon_6 : decode cX12_isDragon 6 = .ok (.iconst 1, 1) := by decide +kernel
theorem dX12_isDragon_7 : decode cX12_isDragon 7 = .ok (.iaload, 1) := by decide +kernel
theorem dX12_isDragon_8 : decode cX12_isDragon 8 = .ok (.iconst 1, 1) := by decide +kernel
theorem dX12_isDragon_9 : decode cX12_isDragon 9 = .ok (.isub, 1) := by decide +kernel
theorem dX12_isDragon_10 : decode cX12_isDragon 10 = .ok (.invokestatic 63, 3) := by decide +kernel
theorem dX12_isDragon_13 : decode cX12_isDragon 13 = .ok (.ireturn, 1) := by decide +kernel
theorem dX12_doScare_0 : decode cX12_doScare 0 = .ok (.aload_n 0, 1) := by decide +kernel
theorem dX12_doScare_1 : decode cX12_doScare 1 = .ok (.iload_n 1, 1) := by decide +kernel
theorem dX12_doScare_2 : decode cX12_doScare 2 = .ok (.invokevirtual 150, 3) := by decide +kernel
theorem dX12_doScare_5 : decode cX12_doScare 5 = .ok (.ifCond .ne 9, 3) := by decide +kernel
theorem dX12_doScare_8 : decode cX12_doScare 8 = .ok (.aload_n 0, 1) := by decide +kernel
theorem dX12_doScare_9 : decode cX12_doScare 9 = .ok (.iconst 1, 1) := by decide +kernel
theorem dX12_doScare_10 : decode cX12_doScare 10 = .ok (.invokevirtual 82, 3) := by decide +kernel
theorem dX12_doScare_13 : decode cX12_doScare 13 = .ok (.ireturn, 1) := by decide +kernel
theorem dX12_doScare_14 : decode cX12_doScare 14 = .ok (.aload_n 0, 1) := by decide +kernel
theorem dX12_doScare_15 : decode cX12_doScare 15 = .ok (.getfield 9, 3) := by decide +kernel
theorem dX12_doScare_18 : decode cX12_doScare 18 = .ok (.sipush 143, 3) := by decide +kernel
theorem dX12_doScare_21 : decode cX12_doScare 21 = .ok (.iconst 3, 1) := by decide +kernel
theorem dX12_doScare_22 : decode cX12_doScare 22 = .ok (.iload_n 1, 1) := by decide +kernel
theorem dX12_doScare_23 : decode cX12_doScare 23 = .ok (.imul, 1) := by decide +kernel
theorem dX12_doScare_24 : decode cX12_doScare 24 = .ok (.iadd, 1) := by decide +kernel
theorem dX12_doScare_25 : decode cX12_doScare 25 = .ok (.iconst 1, 1) := by decide +kernel
theorem dX12_doScare_26 : decode cX12_doScare 26 = .ok (.iadd, 1) := by decide +kernel
theorem dX12_doScare_27 : decode cX12_doScare 27 = .ok (.iaload, 1) := by decide +kernel
theorem dX12_doScare_28 : decode cX12_doScare 28 = .ok (.istore_n 2, 1) := by decide +kernel
theorem dX12_doScare_29 : decode cX12_doScare 29 = .ok (.aload_n 0, 1) := by decide +kernel
theorem dX12_doScare_30 : decode cX12_doScare 30 = .ok (.iload_n 1, 1) := by decide +kernel
theorem dX12_doScare_31 : decode cX12_doScare 31 = .ok (.invokevirtual 74, 3) := by decide +kernel
theorem dX12_doScare_34 : decode cX12_doScare 34 = .ok (.aload_n 0, 1) := by decide +kernel
theorem dX12_doScare_35 : decode cX12_doScare 35 = .ok (.getfield 9, 3) := by decide +kernel
theorem dX12_doScare_38 : decode cX12_doScare 38 = .ok (.iconst 5, 1) := by decide +kernel
theorem dX12_doScare_39 : decode cX12_doScare 39 = .ok (.dup2, 1) := by decide +kernel
theorem dX12_doScare_40 : decode cX12_doScare 40 = .ok (.iaload, 1) := by decide +kernel
theorem dX12_doScare_41 : decode cX12_doScare 41 = .ok (.iconst 1, 1) := by decide +kernel
theorem dX12_doScare_42 : decode cX12_doScare 42 = .ok (.iadd, 1) := by decide +kernel
theorem dX12_doScare_43 : decode cX12_doScare 43 = .ok (.iastore, 1) := by decide +kernel
theorem dX12_doScare_44 : decode cX12_doScare 44 = .ok (.aload_n 0, 1) := by decide +kernel
theorem dX12_doScare_45 : decode cX12_doScare 45 = .ok (.getfield 9, 3) := by decide +kernel
theorem dX12_doScare_48 : decode cX12_doScare 48 = .ok (.bipush 6, 2) := by decide +kernel
theorem dX12_doScare_50 : decode cX12_doScare 50 = .ok (.dup2, 1) := by decide +kernel
theorem dX12_doScare_51 : decode cX12_doScare 51 = .ok (.iaload, 1) := by decide +kernel
theorem dX12_doScare_52 : decode cX12_doScare 52 = .ok (.iload_n 2, 1) := by decide +kernel
theorem dX12_doScare_53 : decode cX12_doScare 53 = .ok (.iadd, 1) := by decide +kernel
theorem dX12_doScare_54 : decode cX12_doScare 54 = .ok (.iastore, 1) := by decide +kernel
theorem dX12_doScare_55 : decode cX12_doScare 55 = .ok (.iload_n 2, 1) := by decide +kernel
theorem dX12_doScare_56 : decode cX12_doScare 56 = .ok (.ireturn, 1) := by decide +kernel
theorem dX12_scare_0 : decode cX12_scare 0 = .ok (.aload_n 0, 1) := by decide +kernel
theorem dX12_scare_1 : decode cX12_scare 1 = .ok (.invokevirtual 93, 3) := by decide +kernel
theorem dX12_scare_4 : decode cX12_scare 4 = .ok (.aload_n 0, 1) := by decide +kernel
theorem dX12_scare_5 : decode cX12_scare 5 = .ok (.aload_n 0, 1) := by decide +kernel
theorem dX12_scare_6 : decode cX12_scare 6 = .ok (.iload_n 1, 1) := by decide +kernel
theorem dX12_scare_7 : decode cX12_scare 7 = .ok (.invokevirtual 153, 3) := by decide +kernel
theorem dX12_scare_10 : decode cX12_scare 10 = .ok (.invokevirtual 100, 3) := by decide +kernel
theorem dX12_scare_13 : decode cX12_scare 13 = .ok (.ireturn, 1) := by decide +kernel
theorem dX12_realmAt_0 : decode cX12_realmAt 0 = .ok (.aload_n 0, 1) := by decide +kernel
theorem dX12_realmAt_1 : decode cX12_realmAt 1 = .ok (.iload_n 1, 1) := by decide +kernel
theorem dX12_realmAt_2 : decode cX12_realmAt 2 = .ok (.invokestatic 78, 3) := by decide +kernel
theorem dX12_realmAt_5 : decode cX12_realmAt 5 = .ok (.ifCond .eq 7, 3) := by decide +kernel
theorem dX12_realmAt_8 : decode cX12_realmAt 8 = .ok (.iconst 0, 1) := by decide +kernel
theorem dX12_realmAt_9 : decode cX12_realmAt 9 = .ok (.goto 4, 3) := by decide +kernel
theorem dX12_realmAt_12 : decode cX12_realmAt 12 = .ok (.iconst 1, 1) := by decide +kernel
theorem dX12_realmAt_13 : decode cX12_realmAt 13 = .ok (.putfield 43, 3) := by decide +kernel
theorem dX12_realmAt_16 : decode cX12_realmAt 16 = .ok (.aload_n 0, 1) := by decide +kernel
theorem dX12_realmAt_17 : decode cX12_realmAt 17 = .ok (.getfield 43, 3) := by decide +kernel
theorem dX12_realmAt_20 : decode cX12_realmAt 20 = .ok (.ifCond .le 7, 3) := by decide +kernel
theorem dX12_realmAt_23 : decode cX12_realmAt 23 = .ok (.iconst 0, 1) := by decide +kernel
theorem dX12_realmAt_24 : decode cX12_realmAt 24 = .ok (.goto 8, 3) := by decide +kernel
theorem dX12_realmAt_27 : decode cX12_realmAt 27 = .ok (.aload_n 0, 1) := by decide +kernel
theorem dX12_realmAt_28 : decode cX12_realmAt 28 = .ok (.iload_n 1, 1) := by decide +kernel
theorem dX12_realmAt_29 : decode cX12_realmAt 29 = .ok (.invokevirtual 67, 3) := by decide +kernel
theorem dX12_realmAt_32 : decode cX12_realmAt 32 = .ok (.ireturn, 1) := by decide +kernel
theorem dX12_dragonsOf_0 : decode cX12_dragonsOf 0 = .ok (.iconst 0, 1) := by decide +kernel
theorem dX12_dragonsOf_1 : decode cX12_dragonsOf 1 = .ok (.istore_n 2, 1) := by decide +kernel
theorem dX12_dragonsOf_2 : decode cX12_dragonsOf 2 = .ok (.iconst 0, 1) := by decide +kernel
theorem dX12_dragonsOf_3 : decode cX12_dragonsOf 3 = .ok (.istore_n 3, 1) := by decide +kernel
theorem dX12_dragonsOf_4 : decode cX12_dragonsOf 4 = .ok (.iload_n 3, 1) := by decide +kernel
theorem dX12_dragonsOf_5 : decode cX12_dragonsOf 5 = .ok (.aload_n 0, 1) := by decide +kernel
theorem dX12_dragonsOf_6 : decode cX12_dragonsOf 6 = .ok (.getfield 9, 3) := by decide +kernel
theorem dX12_dragonsOf_9 : decode cX12_dragonsOf 9 = .ok (.iconst 1, 1) := by decide +kernel
theorem dX12_dragonsOf_10 : decode cX12_dragonsOf 10 = .ok (.iaload, 1) := by decide +kernel
theorem dX12_dragonsOf_11 : decode cX12_dragonsOf 11 = .ok (.if_icmp .ge 37, 3) := by decide +kernel
theorem dX12_dragonsOf_14 : decode cX12_dragonsOf 14 = .ok (.iload_n 2, 1) := by decide +kernel
theorem dX12_dragonsOf_15 : decode cX12_dragonsOf 15 = .ok (.aload_n 0, 1) := by decide +kernel
theorem dX12_dragonsOf_16 : decode cX12_dragonsOf 16 = .ok (.aload_n 0, 1) := by decide +kernel
theorem dX12_dragonsOf_17 : decode cX12_dragonsOf 17 = .ok (.getfield 9, 3) := by decide +kernel
theorem dX12_dragonsOf_20 : decode cX12_dragonsOf 20 = .ok (.sipush 143, 3) := by decide +kernel
theorem dX12_dragonsOf_23 : decode cX12_dragonsOf 23 = .ok (.iconst 3, 1) := by decide +kernel
theorem dX12_dragonsOf_24 : decode cX12_dragonsOf 24 = .ok (.iload_n 3, 1) := by decide +kernel
theorem dX12_dragonsOf_25 : decode cX12_dragonsOf 25 = .ok (.imul, 1) := by decide +kernel
theorem dX12_dragonsOf_26 : decode cX12_dragonsOf 26 = .ok (.iadd, 1) := by decide +kernel
theorem dX12_dragonsOf_27 : decode cX12_dragonsOf 27 = .ok (.iaload, 1) := by decide +kernel
theorem dX12_dragonsOf_28 : decode cX12_dragonsOf 28 = .ok (.invokevirtual 67, 3) := by decide +kernel
theorem dX12_dragonsOf_31 : decode cX12_dragonsOf 31 = .ok (.iload_n 1, 1) := by decide +kernel
theorem dX12_dragonsOf_32 : decode cX12_dragonsOf 32 = .ok (.if_icmp .ne 7, 3) := by decide +kernel
theorem dX12_dragonsOf_35 : decode cX12_dragonsOf 35 = .ok (.iconst 1, 1) := by decide +kernel
theorem dX12_dragonsOf_36 : decode cX12_dragonsOf 36 = .ok (.goto 4, 3) := by decide +kernel
theorem dX12_dragonsOf_39 : decode cX12_dragonsOf 39 = .ok (.iconst 0, 1) := by decide +kernel
theorem dX12_dragonsOf_40 : decode cX12_dragonsOf 40 = .ok (.iadd, 1) := by decide +kernel
theorem dX12_dragonsOf_41 : decode cX12_dragonsOf 41 = .ok (.istore_n 2, 1) := by decide +kernel
theorem dX12_dragonsOf_42 : decode cX12_dragonsOf 42 = .ok (.iinc 3 1, 3) := by decide +kernel
theorem dX12_dragonsOf_45 : decode cX12_dragonsOf 45 = .ok (.goto (-41), 3) := by decide +kernel
theorem dX12_dragonsOf_48 : decode cX12_dragonsOf 48 = .ok (.iload_n 2, 1) := by decide +kernel
theorem dX12_dragonsOf_49 : decode cX12_dragonsOf 49 = .ok (.ireturn, 1) := by decide +kernel
theorem dX12_riverMany_0 : decode cX12_riverMany 0 = .ok (.iconst 0, 1) := by decide +kernel
theorem dX12_riverMany_1 : decode cX12_riverMany 1 = .ok (.istore_n 2, 1) := by decide +kernel
theorem dX12_riverMany_2 : decode cX12_riverMany 2 = .ok (.iconst 0, 1) := by decide +kernel
theorem dX12_riverMany_3 : decode cX12_riverMany 3 = .ok (.istore_n 3, 1) := by decide +kernel
theorem dX12_riverMany_4 : decode cX12_riverMany 4 = .ok (.iload_n 3, 1) := by decide +kernel
theorem dX12_riverMany_5 : decode cX12_riverMany 5 = .ok (.aload_n 0, 1) := by decide +kernel
theorem dX12_riverMany_6 : decode cX12_riverMany 6 = .ok (.getfield 9, 3) := by decide +kernel
theorem dX12_riverMany_9 : decode cX12_riverMany 9 = .ok (.iconst 0, 1) := by decide +kernel
theorem dX12_riverMany_10 : decode cX12_riverMany 10 = .ok (.iaload, 1) := by decide +kernel
theorem dX12_riverMany_11 : decode cX12_riverMany 11 = .ok (.if_icmp .ge 71, 3) := by decide +kernel
theorem dX12_riverMany_14 : decode cX12_riverMany 14 = .ok (.iconst 0, 1) := by decide +kernel
theorem dX12_riverMany_15 : decode cX12_riverMany 15 = .ok (.istore 4, 2) := by decide +kernel
theorem dX12_riverMany_17 : decode cX12_riverMany 17 = .ok (.iconst 0, 1) := by decide +kernel
theorem dX12_riverMany_18 : decode cX12_riverMany 18 = .ok (.istore 5, 2) := by decide +kernel
theorem dX12_riverMany_20 : decode cX12_riverMany 20 = .ok (.iload 5, 2) := by decide +kernel
theorem dX12_riverMany_22 : decode cX12_riverMany 22 = .ok (.aload_n 0, 1) := by decide +kernel
theorem dX12_riverMany_23 : decode cX12_riverMany 23 = .ok (.iload_n 3, 1) := by decide +kernel
theorem dX12_riverMany_24 : decode cX12_riverMany 24 = .ok (.invokevirtual 156, 3) := by decide +kernel
theorem dX12_riverMany_27 : decode cX12_riverMany 27 = .ok (.if_icmp .gt 36, 3) := by decide +kernel
theorem dX12_riverMany_30 : decode cX12_riverMany 30 = .ok (.iload 4, 2) := by decide +kernel
theorem dX12_riverMany_32 : decode cX12_riverMany 32 = .ok (.ifCond .ne 18, 3) := by decide +kernel
theorem dX12_riverMany_35 : decode cX12_riverMany 35 = .ok (.aload_n 0, 1) := by decide +kernel
theorem dX12_riverMany_36 : decode cX12_riverMany 36 = .ok (.aload_n 0, 1) := by decide +kernel
theorem dX12_riverMany_37 : decode cX12_riverMany 37 = .ok (.iload_n 3, 1) := by decide +kernel
theorem dX12_riverMany_38 : decode cX12_riverMany 38 = .ok (.iload 5, 2) := by decide +kernel
theorem dX12_riverMany_40 : decode cX12_riverMany 40 = .ok (.invokevirtual 159, 3) := by decide +kernel
theorem dX12_riverMany_43 : decode cX12_riverMany 43 = .ok (.invokevirtual 67, 3) := by decide +kernel
theorem dX12_riverMany_46 : decode cX12_riverMany 46 = .ok (.iload_n 1, 1) := by decide +kernel
theorem dX12_riverMany_47 : decode cX12_riverMany 47 = .ok (.if_icmp .ne 7, 3) := by decide +kernel
theorem dX12_riverMany_50 : decode cX12_riverMany 50 = .ok (.iconst 1, 1) := by decide +kernel
theorem dX12_riverMany_51 : decode cX12_riverMany 51 = .ok (.goto 4, 3) := by decide +kernel
theorem dX12_riverMany_54 : decode cX12_riverMany 54 = .ok (.iconst 0, 1) := by decide +kernel
theorem dX12_riverMany_55 : decode cX12_riverMany 55 = .ok (.istore 4, 2) := by decide +kernel
theorem dX12_riverMany_57 : decode cX12_riverMany 57 = .ok (.iinc 5 1, 3) := by decide +kernel
theorem dX12_riverMany_60 : decode cX12_riverMany 60 = .ok (.goto (-40), 3) := by decide +kernel
theorem dX12_riverMany_63 : decode cX12_riverMany 63 = .ok (.iload_n 2, 1) := by decide +kernel
theorem dX12_riverMany_64 : decode cX12_riverMany 64 = .ok (.iload 4, 2) := by decide +kernel
theorem dX12_riverMany_66 : decode cX12_riverMany 66 = .ok (.ifCond .eq 7, 3) := by decide +kernel
theorem dX12_riverMany_69 : decode cX12_riverMany 69 = .ok (.iconst 1, 1) := by decide +kernel
theorem dX12_riverMany_70 : decode cX12_riverMany 70 = .ok (.goto 4, 3) := by decide +kernel
theorem dX12_riverMany_73 : decode cX12_riverMany 73 = .ok (.iconst 0, 1) := by decide +kernel
theorem dX12_riverMany_74 : decode cX12_riverMany 74 = .ok (.iadd, 1) := by decide +kernel
theorem dX12_riverMany_75 : decode cX12_riverMany 75 = .ok (.istore_n 2, 1) := by decide +kernel
theorem dX12_riverMany_76 : decode cX12_riverMany 76 = .ok (.iinc 3 1, 3) := by decide +kernel
theorem dX12_riverMany_79 : decode cX12_riverMany 79 = .ok (.goto (-75), 3) := by decide +kernel
theorem dX12_riverMany_82 : decode cX12_riverMany 82 = .ok (.iload_n 2, 1) := by decide +kernel
theorem dX12_riverMany_83 : decode cX12_riverMany 83 = .ok (.ireturn, 1) := by decide +kernel
theorem dX12_realmOf_0 : decode cX12_realmOf 0 = .ok (.aload_n 0, 1) := by decide +kernel
theorem dX12_realmOf_1 : decode cX12_realmOf 1 = .ok (.iload_n 1, 1) := by decide +kernel
theorem dX12_realmOf_2 : decode cX12_realmOf 2 = .ok (.invokestatic 113, 3) := by decide +kernel
theorem dX12_realmOf_5 : decode cX12_realmOf 5 = .ok (.ifCond .ne 7, 3) := by decide +kernel
theorem dX12_realmOf_8 : decode cX12_realmOf 8 = .ok (.iconst 1, 1) := by decide +kernel
theorem dX12_realmOf_9 : decode cX12_realmOf 9 = .ok (.goto 17, 3) := by decide +kernel
theorem dX12_realmOf_12 : decode cX12_realmOf 12 = .ok (.iload_n 2, 1) := by decide +kernel
theorem dX12_realmOf_13 : decode cX12_realmOf 13 = .ok (.iconst 0, 1) := by decide +kernel
theorem dX12_realmOf_14 : decode cX12_realmOf 14 = .ok (.iconst 5, 1) := by decide +kernel
theorem dX12_realmOf_15 : decode cX12_realmOf 15 = .ok (.invokestatic 63, 3) := by decide +kernel
theorem dX12_realmOf_18 : decode cX12_realmOf 18 = .ok (.ifCond .ne 7, 3) := by decide +kernel
theorem dX12_realmOf_21 : decode cX12_realmOf 21 = .ok (.iconst 2, 1) := by decide +kernel
theorem dX12_realmOf_22 : decode cX12_realmOf 22 = .ok (.goto 4, 3) := by decide +kernel
theorem dX12_realmOf_25 : decode cX12_realmOf 25 = .ok (.iconst 0, 1) := by decide +kernel
theorem dX12_realmOf_26 : decode cX12_realmOf 26 = .ok (.putfield 43, 3) := by decide +kernel
theorem dX12_realmOf_29 : decode cX12_realmOf 29 = .ok (.aload_n 0, 1) := by decide +kernel
theorem dX12_realmOf_30 : decode cX12_realmOf 30 = .ok (.getfield 43, 3) := by decide +kernel
theorem dX12_realmOf_33 : decode cX12_realmOf 33 = .ok (.ifCond .le 5, 3) := by decide +kernel
theorem dX12_realmOf_36 : decode cX12_realmOf 36 = .ok (.iconst 0, 1) := by decide +kernel
theorem dX12_realmOf_37 : decode cX12_realmOf 37 = .ok (.ireturn, 1) := by decide +kernel
theorem dX12_realmOf_38 : decode cX12_realmOf 38 = .ok (.bipush 7, 2) := by decide +kernel
theorem dX12_realmOf_40 : decode cX12_realmOf 40 = .ok (.iconst 3, 1) := by decide +kernel
theorem dX12_realmOf_41 : decode cX12_realmOf 41 = .ok (.iload_n 1, 1) := by decide +kernel
theorem dX12_realmOf_42 : decode cX12_realmOf 42 = .ok (.imul, 1) := by decide +kernel
theorem dX12_realmOf_43 : decode cX12_realmOf 43 = .ok (.iadd, 1) := by decide +kernel
theorem dX12_realmOf_44 : decode cX12_realmOf 44 = .ok (.istore_n 3, 1) := by decide +kernel
theorem dX12_realmOf_45 : decode cX12_realmOf 45 = .ok (.iload_n 2, 1) := by decide +kernel
theorem dX12_realmOf_46 : decode cX12_realmOf 46 = .ok (.tableswitch 63 0 5 #[38, 44, 51, 63, 63, 57], 38) := by decide +kernel
theorem dX12_realmOf_84 : decode cX12_realmOf 84 = .ok (.aload_n 0, 1) := by decide +kernel
theorem dX12_realmOf_85 : decode cX12_realmOf 85 = .ok (.iload_n 1, 1) := by decide +kernel
theorem dX12_realmOf_86 : decode cX12_realmOf 86 = .ok (.invokevirtual 110, 3) := by decide +kernel
theorem dX12_realmOf_89 : decode cX12_realmOf 89 = .ok (.ireturn, 1) := by decide +kernel
theorem dX12_realmOf_90 : decode cX12_realmOf 90 = .ok (.aload_n 0, 1) := by decide +kernel
theorem dX12_realmOf_91 : decode cX12_realmOf 91 = .ok (.getfield 9, 3) := by decide +kernel
theorem dX12_realmOf_94 : decode cX12_realmOf 94 = .ok (.iload_n 3, 1) := by decide +kernel
theorem dX12_realmOf_95 : decode cX12_realmOf 95 = .ok (.iaload, 1) := by decide +kernel
theorem dX12_realmOf_96 : decode cX12_realmOf 96 = .ok (.ireturn, 1) := by decide +kernel
theorem dX12_realmOf_97 : decode cX12_realmOf 97 = .ok (.aload_n 0, 1) := by decide +kernel
theorem dX12_realmOf_98 : decode cX12_realmOf 98 = .ok (.iload_n 1, 1) := by decide +kernel
theorem dX12_realmOf_99 : decode cX12_realmOf 99 = .ok (.invokevirtual 162, 3) := by decide +kernel
theorem dX12_realmOf_102 : decode cX12_realmOf 102 = .ok (.ireturn, 1) := by decide +kernel
theorem dX12_realmOf_103 : decode cX12_realmOf 103 = .ok (.aload_n 0, 1) := by decide +kernel
theorem dX12_realmOf_104 : decode cX12_realmOf 104 = .ok (.iload_n 1, 1) := by decide +kernel
theorem dX12_realmOf_105 : decode cX12_realmOf 105 = .ok (.invokevirtual 165, 3) := by decide +kernel
theorem dX12_realmOf_108 : decode cX12_realmOf 108 = .ok (.ireturn, 1) := by decide +kernel
theorem dX12_realmOf_109 : decode cX12_realmOf 109 = .ok (.aload_n 0, 1) := by decide +kernel
theorem dX12_realmOf_110 : decode cX12_realmOf 110 = .ok (.getfield 9, 3) := by decide +kernel
theorem dX12_realmOf_113 : decode cX12_realmOf 113 = .ok (.iload_n 3, 1) := by decide +kernel
theorem dX12_realmOf_114 : decode cX12_realmOf 114 = .ok (.iload_n 2, 1) := by decide +kernel
theorem dX12_realmOf_115 : decode cX12_realmOf 115 = .ok (.iadd, 1) := by decide +kernel
theorem dX12_realmOf_116 : decode cX12_realmOf 116 = .ok (.iconst 2, 1) := by decide +kernel
theorem dX12_realmOf_117 : decode cX12_realmOf 117 = .ok (.isub, 1) := by decide +kernel
theorem dX12_realmOf_118 : decode cX12_realmOf 118 = .ok (.iaload, 1) := by decide +kernel
theorem dX12_realmOf_119 : decode cX12_realmOf 119 = .ok (.ireturn, 1) := by decide +kernel
theorem dX12_steps_0 : decode cX12_steps 0 = .ok (.aload_n 0, 1) := by decide +kernel
theorem dX12_steps_1 : decode cX12_steps 1 = .ok (.getfield 9, 3) := by decide +kernel
theorem dX12_steps_4 : decode cX12_steps 4 = .ok (.bipush 83, 2) := by decide +kernel
theorem dX12_steps_6 : decode cX12_steps 6 = .ok (.bipush 15, 2) := by decide +kernel
theorem dX12_steps_8 : decode cX12_steps 8 = .ok (.iload_n 1, 1) := by decide +kernel
theorem dX12_steps_9 : decode cX12_steps 9 = .ok (.imul, 1) := by decide +kernel
theorem dX12_steps_10 : decode cX12_steps 10 = .ok (.iadd, 1) := by decide +kernel
theorem dX12_steps_11 : decode cX12_steps 11 = .ok (.iconst 2, 1) := by decide +kernel
theorem dX12_steps_12 : decode cX12_steps 12 = .ok (.iadd, 1) := by decide +kernel
theorem dX12_steps_13 : decode cX12_steps 13 = .ok (.iaload, 1) := by decide +kernel
theorem dX12_steps_14 : decode cX12_steps 14 = .ok (.ireturn, 1) := by decide +kernel
theorem dX12_cellOf_0 : decode cX12_cellOf 0 = .ok (.bipush 83, 2) := by decide +kernel
theorem dX12_cellOf_2 : decode cX12_cellOf 2 = .ok (.bipush 15, 2) := by decide +kernel
theorem dX12_cellOf_4 : decode cX12_cellOf 4 = .ok (.iload_n 1, 1) := by decide +kernel
theorem dX12_cellOf_5 : decode cX12_cellOf 5 = .ok (.imul, 1) := by decide +kernel
theorem dX12_cellOf_6 : decode cX12_cellOf 6 = .ok (.iadd, 1) := by decide +kernel
theorem dX12_cellOf_7 : decode cX12_cellOf 7 = .ok (.istore_n 3, 1) := by decide +kernel
theorem dX12_cellOf_8 : decode cX12_cellOf 8 = .ok (.aload_n 0, 1) := by decide +kernel
theorem dX12_cellOf_9 : decode cX12_cellOf 9 = .ok (.getfield 9, 3) := by decide +kernel
theorem dX12_cellOf_12 : decode cX12_cellOf 12 = .ok (.iload_n 3, 1) := by decide +kernel
theorem dX12_cellOf_13 : decode cX12_cellOf 13 = .ok (.iaload, 1) := by decide +kernel
theorem dX12_cellOf_14 : decode cX12_cellOf 14 = .ok (.istore 4, 2) := by decide +kernel
theorem dX12_cellOf_16 : decode cX12_cellOf 16 = .ok (.iconst 0, 1) := by decide +kernel
theorem dX12_cellOf_17 : decode cX12_cellOf 17 = .ok (.istore 5, 2) := by decide +kernel
theorem dX12_cellOf_19 : decode cX12_cellOf 19 = .ok (.iload 5, 2) := by decide +kernel
theorem dX12_cellOf_21 : decode cX12_cellOf 21 = .ok (.iload_n 2, 1) := by decide +kernel
theorem dX12_cellOf_22 : decode cX12_cellOf 22 = .ok (.if_icmp .ge 27, 3) := by decide +kernel
theorem dX12_cellOf_25 : decode cX12_cellOf 25 = .ok (.iload 4, 2) := by decide +kernel
theorem dX12_cellOf_27 : decode cX12_cellOf 27 = .ok (.aload_n 0, 1) := by decide +kernel
theorem dX12_cellOf_28 : decode cX12_cellOf 28 = .ok (.getfield 9, 3) := by decide +kernel
theorem dX12_cellOf_31 : decode cX12_cellOf 31 = .ok (.iload_n 3, 1) := by decide +kernel
theorem dX12_cellOf_32 : decode cX12_cellOf 32 = .ok (.iconst 3, 1) := by decide +kernel
theorem dX12_cellOf_33 : decode cX12_cellOf 33 = .ok (.iadd, 1) := by decide +kernel
theorem dX12_cellOf_34 : decode cX12_cellOf 34 = .ok (.iload 5, 2) := by decide +kernel
theorem dX12_cellOf_36 : decode cX12_cellOf 36 = .ok (.iadd, 1) := by decide +kernel
theorem dX12_cellOf_37 : decode cX12_cellOf 37 = .ok (.iaload, 1) := by decide +kernel
theorem dX12_cellOf_38 : decode cX12_cellOf 38 = .ok (.invokestatic 103, 3) := by decide +kernel
theorem dX12_cellOf_41 : decode cX12_cellOf 41 = .ok (.istore 4, 2) := by decide +kernel
theorem dX12_cellOf_43 : decode cX12_cellOf 43 = .ok (.iinc 5 1, 3) := by decide +kernel
theorem dX12_cellOf_46 : decode cX12_cellOf 46 = .ok (.goto (-27), 3) := by decide +kernel
theorem dX12_cellOf_49 : decode cX12_cellOf 49 = .ok (.iload 4, 2) := by decide +kernel
theorem dX12_cellOf_51 : decode cX12_cellOf 51 = .ok (.ireturn, 1) := by decide +kernel
theorem dX12_crossings_0 : decode cX12_crossings 0 = .ok (.iconst 0, 1) := by decide +kernel
theorem dX12_crossings_1 : decode cX12_crossings 1 = .ok (.istore_n 2, 1) := by decide +kernel
theorem dX12_crossings_2 : decode cX12_crossings 2 = .ok (.iconst 1, 1) := by decide +kernel
theorem dX12_crossings_3 : decode cX12_crossings 3 = .ok (.istore_n 3, 1) := by decide +kernel
theorem dX12_crossings_4 : decode cX12_crossings 4 = .ok (.iload_n 3, 1) := by decide +kernel
theorem dX12_crossings_5 : decode cX12_crossings 5 = .ok (.aload_n 0, 1) := by decide +kernel
theorem dX12_crossings_6 : decode cX12_crossings 6 = .ok (.iload_n 1, 1) := by decide +kernel
theorem dX12_crossings_7 : decode cX12_crossings 7 = .ok (.invokevirtual 156, 3) := by decide +kernel
theorem dX12_crossings_10 : decode cX12_crossings 10 = .ok (.if_icmp .gt 42, 3) := by decide +kernel
theorem dX12_crossings_13 : decode cX12_crossings 13 = .ok (.iload_n 2, 1) := by decide +kernel
theorem dX12_crossings_14 : decode cX12_crossings 14 = .ok (.aload_n 0, 1) := by decide +kernel
theorem dX12_crossings_15 : decode cX12_crossings 15 = .ok (.aload_n 0, 1) := by decide +kernel
theorem dX12_crossings_16 : decode cX12_crossings 16 = .ok (.iload_n 1, 1) := by decide +kernel
theorem dX12_crossings_17 : decode cX12_crossings 17 = .ok (.iload_n 3, 1) := by decide +kernel
theorem dX12_crossings_18 : decode cX12_crossings 18 = .ok (.invokevirtual 159, 3) := by decide +kernel
theorem dX12_crossings_21 : decode cX12_crossings 21 = .ok (.invokevirtual 67, 3) := by decide +kernel
theorem dX12_crossings_24 : decode cX12_crossings 24 = .ok (.aload_n 0, 1) := by decide +kernel
theorem dX12_crossings_25 : decode cX12_crossings 25 = .ok (.aload_n 0, 1) := by decide +kernel
theorem dX12_crossings_26 : decode cX12_crossings 26 = .ok (.iload_n 1, 1) := by decide +kernel
theorem dX12_crossings_27 : decode cX12_crossings 27 = .ok (.iload_n 3, 1) := by decide +kernel
theorem dX12_crossings_28 : decode cX12_crossings 28 = .ok (.iconst 1, 1) := by decide +kernel
theorem dX12_crossings_29 : decode cX12_crossings 29 = .ok (.isub, 1) := by decide +kernel
theorem dX12_crossings_30 : decode cX12_crossings 30 = .ok (.invokevirtual 159, 3) := by decide +kernel
theorem dX12_crossings_33 : decode cX12_crossings 33 = .ok (.invokevirtual 67, 3) := by decide +kernel
theorem dX12_crossings_36 : decode cX12_crossings 36 = .ok (.if_icmp .eq 7, 3) := by decide +kernel
theorem dX12_crossings_39 : decode cX12_crossings 39 = .ok (.iconst 1, 1) := by decide +kernel
theorem dX12_crossings_40 : decode cX12_crossings 40 = .ok (.goto 4, 3) := by decide +kernel
theorem dX12_crossings_43 : decode cX12_crossings 43 = .ok (.iconst 0, 1) := by decide +kernel
theorem dX12_crossings_44 : decode cX12_crossings 44 = .ok (.iadd, 1) := by decide +kernel
theorem dX12_crossings_45 : decode cX12_crossings 45 = .ok (.istore_n 2, 1) := by decide +kernel
theorem dX12_crossings_46 : decode cX12_crossings 46 = .ok (.iinc 3 1, 3) := by decide +kernel
theorem dX12_crossings_49 : decode cX12_crossings 49 = .ok (.goto (-45), 3) := by decide +kernel
theorem dX12_crossings_52 : decode cX12_crossings 52 = .ok (.iload_n 2, 1) := by decide +kernel
theorem dX12_crossings_53 : decode cX12_crossings 53 = .ok (.ireturn, 1) := by decide +kernel
theorem dX12_riverOf_0 : decode cX12_riverOf 0 = .ok (.aload_n 0, 1) := by decide +kernel
theorem dX12_riverOf_1 : decode cX12_riverOf 1 = .ok (.aload_n 0, 1) := by decide +kernel
theorem dX12_riverOf_2 : decode cX12_riverOf 2 = .ok (.iload_n 1, 1) := by decide +kernel
theorem dX12_riverOf_3 : decode cX12_riverOf 3 = .ok (.invokevirtual 141, 3) := by decide +kernel
theorem dX12_riverOf_6 : decode cX12_riverOf 6 = .ok (.ifCond .ne 7, 3) := by decide +kernel
theorem dX12_riverOf_9 : decode cX12_riverOf 9 = .ok (.iconst 1, 1) := by decide +kernel
theorem dX12_riverOf_10 : decode cX12_riverOf 10 = .ok (.goto 17, 3) := by decide +kernel
theorem dX12_riverOf_13 : decode cX12_riverOf 13 = .ok (.iload_n 2, 1) := by decide +kernel
theorem dX12_riverOf_14 : decode cX12_riverOf 14 = .ok (.iconst 0, 1) := by decide +kernel
theorem dX12_riverOf_15 : decode cX12_riverOf 15 = .ok (.iconst 5, 1) := by decide +kernel
theorem dX12_riverOf_16 : decode cX12_riverOf 16 = .ok (.invokestatic 63, 3) := by decide +kernel
theorem dX12_riverOf_19 : decode cX12_riverOf 19 = .ok (.ifCond .ne 7, 3) := by decide +kernel
theorem dX12_riverOf_22 : decode cX12_riverOf 22 = .ok (.iconst 2, 1) := by decide +kernel
theorem dX12_riverOf_23 : decode cX12_riverOf 23 = .ok (.goto 4, 3) := by decide +kernel
theorem dX12_riverOf_26 : decode cX12_riverOf 26 = .ok (.iconst 0, 1) := by decide +kernel
theorem dX12_riverOf_27 : decode cX12_riverOf 27 = .ok (.putfield 43, 3) := by decide +kernel
theorem dX12_riverOf_30 : decode cX12_riverOf 30 = .ok (.aload_n 0, 1) := by decide +kernel
theorem dX12_riverOf_31 : decode cX12_riverOf 31 = .ok (.getfield 43, 3) := by decide +kernel
theorem dX12_riverOf_34 : decode cX12_riverOf 34 = .ok (.ifCond .le 5, 3) := by decide +kernel
theorem dX12_riverOf_37 : decode cX12_riverOf 37 = .ok (.iconst 0, 1) := by decide +kernel
theorem dX12_riverOf_38 : decode cX12_riverOf 38 = .ok (.ireturn, 1) := by decide +kernel
theorem dX12_riverOf_39 : decode cX12_riverOf 39 = .ok (.iload_n 2, 1) := by decide +kernel
theorem dX12_riverOf_40 : decode cX12_riverOf 40 = .ok (.tableswitch 88 0 4 #[36, 43, 49, 60, 75], 36) := by decide +kernel
theorem dX12_riverOf_76 : decode cX12_riverOf 76 = .ok (.aload_n 0, 1) := by decide +kernel
theorem dX12_riverOf_77 : decode cX12_riverOf 77 = .ok (.iload_n 1, 1) := by decide +kernel
theorem dX12_riverOf_78 : decode cX12_riverOf 78 = .ok (.iconst 0, 1) := by decide +kernel
theorem dX12_riverOf_79 : decode cX12_riverOf 79 = .ok (.invokevirtual 159, 3) := by decide +kernel
theorem dX12_riverOf_82 : decode cX12_riverOf 82 = .ok (.ireturn, 1) := by decide +kernel
theorem dX12_riverOf_83 : decode cX12_riverOf 83 = .ok (.aload_n 0, 1) := by decide +kernel
theorem dX12_riverOf_84 : decode cX12_riverOf 84 = .ok (.iload_n 1, 1) := by decide +kernel
theorem dX12_riverOf_85 : decode cX12_riverOf 85 = .ok (.invokevirtual 156, 3) := by decide +kernel
theorem dX12_riverOf_88 : decode cX12_riverOf 88 = .ok (.ireturn, 1) := by decide +kernel
theorem dX12_riverOf_89 : decode cX12_riverOf 89 = .ok (.aload_n 0, 1) := by decide +kernel
theorem dX12_riverOf_90 : decode cX12_riverOf 90 = .ok (.iload_n 1, 1) := by decide +kernel
theorem dX12_riverOf_91 : decode cX12_riverOf 91 = .ok (.aload_n 0, 1) := by decide +kernel
theorem dX12_riverOf_92 : decode cX12_riverOf 92 = .ok (.iload_n 1, 1) := by decide +kernel
theorem dX12_riverOf_93 : decode cX12_riverOf 93 = .ok (.invokevirtual 156, 3) := by decide +kernel
theorem dX12_riverOf_96 : decode cX12_riverOf 96 = .ok (.invokevirtual 159, 3) := by decide +kernel
theorem dX12_riverOf_99 : decode cX12_riverOf 99 = .ok (.ireturn, 1) := by decide +kernel
theorem dX12_riverOf_100 : decode cX12_riverOf 100 = .ok (.aload_n 0, 1) := by decide +kernel
theorem dX12_riverOf_101 : decode cX12_riverOf 101 = .ok (.getfield 9, 3) := by decide +kernel
theorem dX12_riverOf_104 : decode cX12_riverOf 104 = .ok (.bipush 83, 2) := by decide +kernel
theorem dX12_riverOf_106 : decode cX12_riverOf 106 = .ok (.bipush 15, 2) := by decide +kernel
theorem dX12_riverOf_108 : decode cX12_riverOf 108 = .ok (.iload_n 1, 1) := by decide +kernel
theorem dX12_riverOf_109 : decode cX12_riverOf 109 = .ok (.imul, 1) := by decide +kernel
theorem dX12_riverOf_110 : decode cX12_riverOf 110 = .ok (.iadd, 1) := by decide +kernel
theorem dX12_riverOf_111 : decode cX12_riverOf 111 = .ok (.iconst 1, 1) := by decide +kernel
theorem dX12_riverOf_112 : decode cX12_riverOf 112 = .ok (.iadd, 1) := by decide +kernel
theorem dX12_riverOf_113 : decode cX12_riverOf 113 = .ok (.iaload, 1) := by decide +kernel
theorem dX12_riverOf_114 : decode cX12_riverOf 114 = .ok (.ireturn, 1) := by decide +kernel
theorem dX12_riverOf_115 : decode cX12_riverOf 115 = .ok (.aload_n 0, 1) := by decide +kernel
theorem dX12_riverOf_116 : decode cX12_riverOf 116 = .ok (.iload_n 1, 1) := by decide +kernel
theorem dX12_riverOf_117 : decode cX12_riverOf 117 = .ok (.invokevirtual 156, 3) := by decide +kernel
theorem dX12_riverOf_120 : decode cX12_riverOf 120 = .ok (.aload_n 0, 1) := by decide +kernel
theorem dX12_riverOf_121 : decode cX12_riverOf 121 = .ok (.getfield 9, 3) := by decide +kernel
theorem dX12_riverOf_124 : decode cX12_riverOf 124 = .ok (.iconst 2, 1) := by decide +kernel
theorem dX12_riverOf_125 : decode cX12_riverOf 125 = .ok (.iaload, 1) := by decide +kernel
theorem dX12_riverOf_126 : decode cX12_riverOf 126 = .ok (.imul, 1) := by decide +kernel
theorem dX12_riverOf_127 : decode cX12_riverOf 127 = .ok (.ireturn, 1) := by decide +kernel
theorem dX12_riverOf_128 : decode cX12_riverOf 128 = .ok (.aload_n 0, 1) := by decide +kernel
theorem dX12_riverOf_129 : decode cX12_riverOf 129 = .ok (.iload_n 1, 1) := by decide +kernel
theorem dX12_riverOf_130 : decode cX12_riverOf 130 = .ok (.invokevirtual 168, 3) := by decide +kernel
theorem dX12_riverOf_133 : decode cX12_riverOf 133 = .ok (.ireturn, 1) := by decide +kernel
theorem dX12_riverAt_0 : decode cX12_riverAt 0 = .ok (.aload_n 0, 1) := by decide +kernel
theorem dX12_riverAt_1 : decode cX12_riverAt 1 = .ok (.aload_n 0, 1) := by decide +kernel
theorem dX12_riverAt_2 : decode cX12_riverAt 2 = .ok (.iload_n 1, 1) := by decide +kernel
theorem dX12_riverAt_3 : decode cX12_riverAt 3 = .ok (.invokevirtual 141, 3) := by decide +kernel
theorem dX12_riverAt_6 : decode cX12_riverAt 6 = .ok (.ifCond .ne 7, 3) := by decide +kernel
theorem dX12_riverAt_9 : decode cX12_riverAt 9 = .ok (.iconst 1, 1) := by decide +kernel
theorem dX12_riverAt_10 : decode cX12_riverAt 10 = .ok (.goto 21, 3) := by decide +kernel
theorem dX12_riverAt_13 : decode cX12_riverAt 13 = .ok (.iload_n 2, 1) := by decide +kernel
theorem dX12_riverAt_14 : decode cX12_riverAt 14 = .ok (.iconst 0, 1) := by decide +kernel
theorem dX12_riverAt_15 : decode cX12_riverAt 15 = .ok (.aload_n 0, 1) := by decide +kernel
theorem dX12_riverAt_16 : decode cX12_riverAt 16 = .ok (.iload_n 1, 1) := by decide +kernel
theorem dX12_riverAt_17 : decode cX12_riverAt 17 = .ok (.invokevirtual 156, 3) := by decide +kernel
theorem dX12_riverAt_20 : decode cX12_riverAt 20 = .ok (.invokestatic 63, 3) := by decide +kernel
theorem dX12_riverAt_23 : decode cX12_riverAt 23 = .ok (.ifCond .ne 7, 3) := by decide +kernel
theorem dX12_riverAt_26 : decode cX12_riverAt 26 = .ok (.iconst 2, 1) := by decide +kernel
theorem dX12_riverAt_27 : decode cX12_riverAt 27 = .ok (.goto 4, 3) := by decide +kernel
theorem dX12_riverAt_30 : decode cX12_riverAt 30 = .ok (.iconst 0, 1) := by decide +kernel
theorem dX12_riverAt_31 : decode cX12_riverAt 31 = .ok (.putfield 43, 3) := by decide +kernel
theorem dX12_riverAt_34 : decode cX12_riverAt 34 = .ok (.aload_n 0, 1) := by decide +kernel
theorem dX12_riverAt_35 : decode cX12_riverAt 35 = .ok (.getfield 43, 3) := by decide +kernel
theorem dX12_riverAt_38 : decode cX12_riverAt 38 = .ok (.ifCond .le 7, 3) := by decide +kernel
theorem dX12_riverAt_41 : decode cX12_riverAt 41 = .ok (.iconst 0, 1) := by decide +kernel
theorem dX12_riverAt_42 : decode cX12_riverAt 42 = .ok (.goto 9, 3) := by decide +kernel
theorem dX12_riverAt_45 : decode cX12_riverAt 45 = .ok (.aload_n 0, 1) := by decide +kernel
theorem dX12_riverAt_46 : decode cX12_riverAt 46 = .ok (.iload_n 1, 1) := by decide +kernel
theorem dX12_riverAt_47 : decode cX12_riverAt 47 = .ok (.iload_n 2, 1) := by decide +kernel
theorem dX12_riverAt_48 : decode cX12_riverAt 48 = .ok (.invokevirtual 159, 3) := by decide +kernel
theorem dX12_riverAt_51 : decode cX12_riverAt 51 = .ok (.ireturn, 1) := by decide +kernel
theorem dX12_dragonOf_0 : decode cX12_dragonOf 0 = .ok (.aload_n 0, 1) := by decide +kernel
theorem dX12_dragonOf_1 : decode cX12_dragonOf 1 = .ok (.aload_n 0, 1) := by decide +kernel
theorem dX12_dragonOf_2 : decode cX12_dragonOf 2 = .ok (.iload_n 1, 1) := by decide +kernel
theorem dX12_dragonOf_3 : decode cX12_dragonOf 3 = .ok (.invokevirtual 150, 3) := by decide +kernel
theorem dX12_dragonOf_6 : decode cX12_dragonOf 6 = .ok (.ifCond .ne 7, 3) := by decide +kernel
theorem dX12_dragonOf_9 : decode cX12_dragonOf 9 = .ok (.iconst 1, 1) := by decide +kernel
theorem dX12_dragonOf_10 : decode cX12_dragonOf 10 = .ok (.goto 17, 3) := by decide +kernel
theorem dX12_dragonOf_13 : decode cX12_dragonOf 13 = .ok (.iload_n 2, 1) := by decide +kernel
theorem dX12_dragonOf_14 : decode cX12_dragonOf 14 = .ok (.iconst 0, 1) := by decide +kernel
theorem dX12_dragonOf_15 : decode cX12_dragonOf 15 = .ok (.iconst 2, 1) := by decide +kernel
theorem dX12_dragonOf_16 : decode cX12_dragonOf 16 = .ok (.invokestatic 63, 3) := by decide +kernel
theorem dX12_dragonOf_19 : decode cX12_dragonOf 19 = .ok (.ifCond .ne 7, 3) := by decide +kernel
theorem dX12_dragonOf_22 : decode cX12_dragonOf 22 = .ok (.iconst 2, 1) := by decide +kernel
theorem dX12_dragonOf_23 : decode cX12_dragonOf 23 = .ok (.goto 4, 3) := by decide +kernel
theorem dX12_dragonOf_26 : decode cX12_dragonOf 26 = .ok (.iconst 0, 1) := by decide +kernel
theorem dX12_dragonOf_27 : decode cX12_dragonOf 27 = .ok (.putfield 43, 3) := by decide +kernel
theorem dX12_dragonOf_30 : decode cX12_dragonOf 30 = .ok (.aload_n 0, 1) := by decide +kernel
theorem dX12_dragonOf_31 : decode cX12_dragonOf 31 = .ok (.getfield 43, 3) := by decide +kernel
theorem dX12_dragonOf_34 : decode cX12_dragonOf 34 = .ok (.ifCond .le 7, 3) := by decide +kernel
theorem dX12_dragonOf_37 : decode cX12_dragonOf 37 = .ok (.iconst 0, 1) := by decide +kernel
theorem dX12_dragonOf_38 : decode cX12_dragonOf 38 = .ok (.goto 17, 3) := by decide +kernel
theorem dX12_dragonOf_41 : decode cX12_dragonOf 41 = .ok (.aload_n 0, 1) := by decide +kernel
theorem dX12_dragonOf_42 : decode cX12_dragonOf 42 = .ok (.getfield 9, 3) := by decide +kernel
theorem dX12_dragonOf_45 : decode cX12_dragonOf 45 = .ok (.sipush 143, 3) := by decide +kernel
theorem dX12_dragonOf_48 : decode cX12_dragonOf 48 = .ok (.iconst 3, 1) := by decide +kernel
theorem dX12_dragonOf_49 : decode cX12_dragonOf 49 = .ok (.iload_n 1, 1) := by decide +kernel
theorem dX12_dragonOf_50 : decode cX12_dragonOf 50 = .ok (.imul, 1) := by decide +kernel
theorem dX12_dragonOf_51 : decode cX12_dragonOf 51 = .ok (.iadd, 1) := by decide +kernel
theorem dX12_dragonOf_52 : decode cX12_dragonOf 52 = .ok (.iload_n 2, 1) := by decide +kernel
theorem dX12_dragonOf_53 : decode cX12_dragonOf 53 = .ok (.iadd, 1) := by decide +kernel
theorem dX12_dragonOf_54 : decode cX12_dragonOf 54 = .ok (.iaload, 1) := by decide +kernel
theorem dX12_dragonOf_55 : decode cX12_dragonOf 55 = .ok (.ireturn, 1) := by decide +kernel
theorem dX12_weighs_0 : decode cX12_weighs 0 = .ok (.iconst 3, 1) := by decide +kernel
theorem dX12_weighs_1 : decode cX12_weighs 1 = .ok (.aload_n 0, 1) := by decide +kernel
theorem dX12_weighs_2 : decode cX12_weighs 2 = .ok (.iload_n 1, 1) := by decide +kernel
theorem dX12_weighs_3 : decode cX12_weighs 3 = .ok (.invokevirtual 168, 3) := by decide +kernel
theorem dX12_weighs_6 : decode cX12_weighs 6 = .ok (.imul, 1) := by decide +kernel
theorem dX12_weighs_7 : decode cX12_weighs 7 = .ok (.istore_n 2, 1) := by decide +kernel
theorem dX12_weighs_8 : decode cX12_weighs 8 = .ok (.iconst 0, 1) := by decide +kernel
theorem dX12_weighs_9 : decode cX12_weighs 9 = .ok (.istore_n 3, 1) := by decide +kernel
theorem dX12_weighs_10 : decode cX12_weighs 10 = .ok (.iload_n 3, 1) := by decide +kernel
theorem dX12_weighs_11 : decode cX12_weighs 11 = .ok (.aload_n 0, 1) := by decide +kernel
theorem dX12_weighs_12 : decode cX12_weighs 12 = .ok (.iload_n 1, 1) := by decide +kernel
theorem dX12_weighs_13 : decode cX12_weighs 13 = .ok (.invokevirtual 156, 3) := by decide +kernel
theorem dX12_weighs_16 : decode cX12_weighs 16 = .ok (.if_icmp .gt 30, 3) := by decide +kernel
theorem dX12_weighs_19 : decode cX12_weighs 19 = .ok (.iload_n 2, 1) := by decide +kernel
theorem dX12_weighs_20 : decode cX12_weighs 20 = .ok (.aload_n 0, 1) := by decide +kernel
theorem dX12_weighs_21 : decode cX12_weighs 21 = .ok (.aload_n 0, 1) := by decide +kernel
theorem dX12_weighs_22 : decode cX12_weighs 22 = .ok (.iload_n 1, 1) := by decide +kernel
theorem dX12_weighs_23 : decode cX12_weighs 23 = .ok (.iload_n 3, 1) := by decide +kernel
theorem dX12_weighs_24 : decode cX12_weighs 24 = .ok (.invokevirtual 159, 3) := by decide +kernel
theorem dX12_weighs_27 : decode cX12_weighs 27 = .ok (.invokevirtual 67, 3) := by decide +kernel
theorem dX12_weighs_30 : decode cX12_weighs 30 = .ok (.ifCond .ge 7, 3) := by decide +kernel
theorem dX12_weighs_33 : decode cX12_weighs 33 = .ok (.iconst 1, 1) := by decide +kernel
theorem dX12_weighs_34 : decode cX12_weighs 34 = .ok (.goto 4, 3) := by decide +kernel
theorem dX12_weighs_37 : decode cX12_weighs 37 = .ok (.iconst 2, 1) := by decide +kernel
theorem dX12_weighs_38 : decode cX12_weighs 38 = .ok (.iadd, 1) := by decide +kernel
theorem dX12_weighs_39 : decode cX12_weighs 39 = .ok (.istore_n 2, 1) := by decide +kernel
theorem dX12_weighs_40 : decode cX12_weighs 40 = .ok (.iinc 3 1, 3) := by decide +kernel
theorem dX12_weighs_43 : decode cX12_weighs 43 = .ok (.goto (-33), 3) := by decide +kernel
theorem dX12_weighs_46 : decode cX12_weighs 46 = .ok (.iload_n 2, 1) := by decide +kernel
theorem dX12_weighs_47 : decode cX12_weighs 47 = .ok (.ireturn, 1) := by decide +kernel
theorem dX12_weight_0 : decode cX12_weight 0 = .ok (.aload_n 0, 1) := by decide +kernel
theorem dX12_weight_1 : decode cX12_weight 1 = .ok (.aload_n 0, 1) := by decide +kernel
theorem dX12_weight_2 : decode cX12_weight 2 = .ok (.iload_n 1, 1) := by decide +kernel
theorem dX12_weight_3 : decode cX12_weight 3 = .ok (.invokevirtual 141, 3) := by decide +kernel
theorem dX12_weight_6 : decode cX12_weight 6 = .ok (.ifCond .eq 7, 3) := by decide +kernel
theorem dX12_weight_9 : decode cX12_weight 9 = .ok (.iconst 0, 1) := by decide +kernel
theorem dX12_weight_10 : decode cX12_weight 10 = .ok (.goto 4, 3) := by decide +kernel
theorem dX12_weight_13 : decode cX12_weight 13 = .ok (.iconst 1, 1) := by decide +kernel
theorem dX12_weight_14 : decode cX12_weight 14 = .ok (.putfield 43, 3) := by decide +kernel
theorem dX12_weight_17 : decode cX12_weight 17 = .ok (.aload_n 0, 1) := by decide +kernel
theorem dX12_weight_18 : decode cX12_weight 18 = .ok (.getfield 43, 3) := by decide +kernel
theorem dX12_weight_21 : decode cX12_weight 21 = .ok (.ifCond .le 7, 3) := by decide +kernel
theorem dX12_weight_24 : decode cX12_weight 24 = .ok (.iconst 0, 1) := by decide +kernel
theorem dX12_weight_25 : decode cX12_weight 25 = .ok (.goto 8, 3) := by decide +kernel
theorem dX12_weight_28 : decode cX12_weight 28 = .ok (.aload_n 0, 1) := by decide +kernel
theorem dX12_weight_29 : decode cX12_weight 29 = .ok (.iload_n 1, 1) := by decide +kernel
theorem dX12_weight_30 : decode cX12_weight 30 = .ok (.invokevirtual 171, 3) := by decide +kernel
theorem dX12_weight_33 : decode cX12_weight 33 = .ok (.ireturn, 1) := by decide +kernel
theorem dX12_weightAgain_0 : decode cX12_weightAgain 0 = .ok (.aload_n 0, 1) := by decide +kernel
theorem dX12_weightAgain_1 : decode cX12_weightAgain 1 = .ok (.iload_n 1, 1) := by decide +kernel
theorem dX12_weightAgain_2 : decode cX12_weightAgain 2 = .ok (.invokevirtual 174, 3) := by decide +kernel
theorem dX12_weightAgain_5 : decode cX12_weightAgain 5 = .ok (.ireturn, 1) := by decide +kernel
theorem dX12_pairs_0 : decode cX12_pairs 0 = .ok (.iconst 0, 1) := by decide +kernel
theorem dX12_pairs_1 : decode cX12_pairs 1 = .ok (.istore_n 3, 1) := by decide +kernel
theorem dX12_pairs_2 : decode cX12_pairs 2 = .ok (.iconst 0, 1) := by decide +kernel
theorem dX12_pairs_3 : decode cX12_pairs 3 = .ok (.istore 4, 2) := by decide +kernel
theorem dX12_pairs_5 : decode cX12_pairs 5 = .ok (.iload 4, 2) := by decide +kernel
theorem dX12_pairs_7 : decode cX12_pairs 7 = .ok (.bipush 64, 2) := by decide +kernel
theorem dX12_pairs_9 : decode cX12_pairs 9 = .ok (.if_icmp .ge 67, 3) := by decide +kernel
theorem dX12_pairs_12 : decode cX12_pairs 12 = .ok (.iconst 0, 1) := by decide +kernel
theorem dX12_pairs_13 : decode cX12_pairs 13 = .ok (.istore 5, 2) := by decide +kernel
theorem dX12_pairs_15 : decode cX12_pairs 15 = .ok (.iload 5, 2) := by decide +kernel
theorem dX12_pairs_17 : decode cX12_pairs 17 = .ok (.iconst 4, 1) := by decide +kernel
theorem dX12_pairs_18 : decode cX12_pairs 18 = .ok (.if_icmp .ge 52, 3) := by decide +kernel
theorem dX12_pairs_21 : decode cX12_pairs 21 = .ok (.aload_n 0, 1) := by decide +kernel
theorem dX12_pairs_22 : decode cX12_pairs 22 = .ok (.iload 4, 2) := by decide +kernel
theorem dX12_pairs_24 : decode cX12_pairs 24 = .ok (.invokevirtual 67, 3) := by decide +kernel
theorem dX12_pairs_27 : decode cX12_pairs 27 = .ok (.iload_n 1, 1) := by decide +kernel
theorem dX12_pairs_28 : decode cX12_pairs 28 = .ok (.if_icmp .ne 42, 3) := by decide +kernel
theorem dX12_pairs_31 : decode cX12_pairs 31 = .ok (.iload_n 3, 1) := by decide +kernel
theorem dX12_pairs_32 : decode cX12_pairs 32 = .ok (.iload 4, 2) := by decide +kernel
theorem dX12_pairs_34 : decode cX12_pairs 34 = .ok (.iload 5, 2) := by decide +kernel
theorem dX12_pairs_36 : decode cX12_pairs 36 = .ok (.invokestatic 103, 3) := by decide +kernel
theorem dX12_pairs_39 : decode cX12_pairs 39 = .ok (.ifCond .lt 22, 3) := by decide +kernel
theorem dX12_pairs_42 : decode cX12_pairs 42 = .ok (.aload_n 0, 1) := by decide +kernel
theorem dX12_pairs_43 : decode cX12_pairs 43 = .ok (.iload 4, 2) := by decide +kernel
theorem dX12_pairs_45 : decode cX12_pairs 45 = .ok (.iload 5, 2) := by decide +kernel
theorem dX12_pairs_47 : decode cX12_pairs 47 = .ok (.invokestatic 103, 3) := by decide +kernel
theorem dX12_pairs_50 : decode cX12_pairs 50 = .ok (.invokevirtual 67, 3) := by decide +kernel
theorem dX12_pairs_53 : decode cX12_pairs 53 = .ok (.iload_n 2, 1) := by decide +kernel
theorem dX12_pairs_54 : decode cX12_pairs 54 = .ok (.if_icmp .ne 7, 3) := by decide +kernel
theorem dX12_pairs_57 : decode cX12_pairs 57 = .ok (.iconst 1, 1) := by decide +kernel
theorem dX12_pairs_58 : decode cX12_pairs 58 = .ok (.goto 4, 3) := by decide +kernel
theorem dX12_pairs_61 : decode cX12_pairs 61 = .ok (.iconst 0, 1) := by decide +kernel
theorem dX12_pairs_62 : decode cX12_pairs 62 = .ok (.iadd, 1) := by decide +kernel
theorem dX12_pairs_63 : decode cX12_pairs 63 = .ok (.istore_n 3, 1) := by decide +kernel
theorem dX12_pairs_64 : decode cX12_pairs 64 = .ok (.iinc 5 1, 3) := by decide +kernel
theorem dX12_pairs_67 : decode cX12_pairs 67 = .ok (.goto (-52), 3) := by decide +kernel
theorem dX12_pairs_70 : decode cX12_pairs 70 = .ok (.iinc 4 1, 3) := by decide +kernel
theorem dX12_pairs_73 : decode cX12_pairs 73 = .ok (.goto (-68), 3) := by decide +kernel
theorem dX12_pairs_76 : decode cX12_pairs 76 = .ok (.iload_n 3, 1) := by decide +kernel
theorem dX12_pairs_77 : decode cX12_pairs 77 = .ok (.ireturn, 1) := by decide +kernel
theorem dX12_border_0 : decode cX12_border 0 = .ok (.aload_n 0, 1) := by decide +kernel
theorem dX12_border_1 : decode cX12_border 1 = .ok (.iload_n 1, 1) := by decide +kernel
theorem dX12_border_2 : decode cX12_border 2 = .ok (.invokestatic 113, 3) := by decide +kernel
theorem dX12_border_5 : decode cX12_border 5 = .ok (.ifCond .eq 14, 3) := by decide +kernel
theorem dX12_border_8 : decode cX12_border 8 = .ok (.iload_n 2, 1) := by decide +kernel
theorem dX12_border_9 : decode cX12_border 9 = .ok (.invokestatic 113, 3) := by decide +kernel
theorem dX12_border_12 : decode cX12_border 12 = .ok (.ifCond .eq 7, 3) := by decide +kernel
theorem dX12_border_15 : decode cX12_border 15 = .ok (.iconst 0, 1) := by decide +kernel
theorem dX12_border_16 : decode cX12_border 16 = .ok (.goto 4, 3) := by decide +kernel
theorem dX12_border_19 : decode cX12_border 19 = .ok (.iconst 1, 1) := by decide +kernel
theorem dX12_border_20 : decode cX12_border 20 = .ok (.putfield 43, 3) := by decide +kernel
theorem dX12_border_23 : decode cX12_border 23 = .ok (.aload_n 0, 1) := by decide +kernel
theorem dX12_border_24 : decode cX12_border 24 = .ok (.getfield 43, 3) := by decide +kernel
theorem dX12_border_27 : decode cX12_border 27 = .ok (.ifCond .gt 8, 3) := by decide +kernel
theorem dX12_border_30 : decode cX12_border 30 = .ok (.iload_n 1, 1) := by decide +kernel
theorem dX12_border_31 : decode cX12_border 31 = .ok (.iload_n 2, 1) := by decide +kernel
theorem dX12_border_32 : decode cX12_border 32 = .ok (.if_icmp .ne 7, 3) := by decide +kernel
theorem dX12_border_35 : decode cX12_border 35 = .ok (.iconst 0, 1) := by decide +kernel
theorem dX12_border_36 : decode cX12_border 36 = .ok (.goto 9, 3) := by decide +kernel
theorem dX12_border_39 : decode cX12_border 39 = .ok (.aload_n 0, 1) := by decide +kernel
theorem dX12_border_40 : decode cX12_border 40 = .ok (.iload_n 1, 1) := by decide +kernel
theorem dX12_border_41 : decode cX12_border 41 = .ok (.iload_n 2, 1) := by decide +kernel
theorem dX12_border_42 : decode cX12_border 42 = .ok (.invokevirtual 177, 3) := by decide +kernel
theorem dX12_border_45 : decode cX12_border 45 = .ok (.ireturn, 1) := by decide +kernel
theorem dX12_around_0 : decode cX12_around 0 = .ok (.aload_n 0, 1) := by decide +kernel
theorem dX12_around_1 : decode cX12_around 1 = .ok (.iload_n 1, 1) := by decide +kernel
theorem dX12_around_2 : decode cX12_around 2 = .ok (.invokestatic 113, 3) := by decide +kernel
theorem dX12_around_5 : decode cX12_around 5 = .ok (.ifCond .eq 7, 3) := by decide +kernel
theorem dX12_around_8 : decode cX12_around 8 = .ok (.iconst 0, 1) := by decide +kernel
theorem dX12_around_9 : decode cX12_around 9 = .ok (.goto 4, 3) := by decide +kernel
theorem dX12_around_12 : decode cX12_around 12 = .ok (.iconst 1, 1) := by decide +kernel
theorem dX12_around_13 : decode cX12_around 13 = .ok (.putfield 43, 3) := by decide +kernel
theorem dX12_around_16 : decode cX12_around 16 = .ok (.aload_n 0, 1) := by decide +kernel
theorem dX12_around_17 : decode cX12_around 17 = .ok (.getfield 43, 3) := by decide +kernel
theorem dX12_around_20 : decode cX12_around 20 = .ok (.ifCond .le 7, 3) := by decide +kernel
theorem dX12_around_23 : decode cX12_around 23 = .ok (.iconst 0, 1) := by decide +kernel
theorem dX12_around_24 : decode cX12_around 24 = .ok (.goto 17, 3) := by decide +kernel
theorem dX12_around_27 : decode cX12_around 27 = .ok (.iconst 4, 1) := by decide +kernel
theorem dX12_around_28 : decode cX12_around 28 = .ok (.aload_n 0, 1) := by decide +kernel
theorem dX12_around_29 : decode cX12_around 29 = .ok (.iload_n 1, 1) := by decide +kernel
theorem dX12_around_30 : decode cX12_around 30 = .ok (.invokevirtual 110, 3) := by decide +kernel
theorem dX12_around_33 : decode cX12_around 33 = .ok (.imul, 1) := by decide +kernel
theorem dX12_around_34 : decode cX12_around 34 = .ok (.aload_n 0, 1) := by decide +kernel
theorem dX12_around_35 : decode cX12_around 35 = .ok (.iload_n 1, 1) := by decide +kernel
theorem dX12_around_36 : decode cX12_around 36 = .ok (.iload_n 1, 1) := by decide +kernel
theorem dX12_around_37 : decode cX12_around 37 = .ok (.invokevirtual 177, 3) := by decide +kernel
theorem dX12_around_40 : decode cX12_around 40 = .ok (.isub, 1) := by decide +kernel
theorem dX12_around_41 : decode cX12_around 41 = .ok (.ireturn, 1) := by decide +kernel
theorem dX12_aroundAgain_0 : decode cX12_aroundAgain 0 = .ok (.aload_n 0, 1) := by decide +kernel
theorem dX12_aroundAgain_1 : decode cX12_aroundAgain 1 = .ok (.iload_n 1, 1) := by decide +kernel
theorem dX12_aroundAgain_2 : decode cX12_aroundAgain 2 = .ok (.invokevirtual 180, 3) := by decide +kernel
theorem dX12_aroundAgain_5 : decode cX12_aroundAgain 5 = .ok (.ireturn, 1) := by decide +kernel
theorem dX12_goes_0 : decode cX12_goes 0 = .ok (.aload_n 0, 1) := by decide +kernel
theorem dX12_goes_1 : decode cX12_goes 1 = .ok (.getfield 25, 3) := by decide +kernel
theorem dX12_goes_4 : decode cX12_goes 4 = .ok (.iload_n 1, 1) := by decide +kernel
theorem dX12_goes_5 : decode cX12_goes 5 = .ok (.iconst 1, 1) := by decide +kernel
theorem dX12_goes_6 : decode cX12_goes 6 = .ok (.bastore, 1) := by decide +kernel
theorem dX12_goes_7 : decode cX12_goes 7 = .ok (.iconst 0, 1) := by decide +kernel
theorem dX12_goes_8 : decode cX12_goes 8 = .ok (.istore_n 2, 1) := by decide +kernel
theorem dX12_goes_9 : decode cX12_goes 9 = .ok (.iload_n 2, 1) := by decide +kernel
theorem dX12_goes_10 : decode cX12_goes 10 = .ok (.iconst 4, 1) := by decide +kernel
theorem dX12_goes_11 : decode cX12_goes 11 = .ok (.if_icmp .ge 46, 3) := by decide +kernel
theorem dX12_goes_14 : decode cX12_goes 14 = .ok (.iload_n 1, 1) := by decide +kernel
theorem dX12_goes_15 : decode cX12_goes 15 = .ok (.iload_n 2, 1) := by decide +kernel
theorem dX12_goes_16 : decode cX12_goes 16 = .ok (.invokestatic 103, 3) := by decide +kernel
theorem dX12_goes_19 : decode cX12_goes 19 = .ok (.istore_n 3, 1) := by decide +kernel
theorem dX12_goes_20 : decode cX12_goes 20 = .ok (.iload_n 3, 1) := by decide +kernel
theorem dX12_goes_21 : decode cX12_goes 21 = .ok (.ifCond .lt 30, 3) := by decide +kernel
theorem dX12_goes_24 : decode cX12_goes 24 = .ok (.aload_n 0, 1) := by decide +kernel
theorem dX12_goes_25 : decode cX12_goes 25 = .ok (.getfield 25, 3) := by decide +kernel
theorem dX12_goes_28 : decode cX12_goes 28 = .ok (.iload_n 3, 1) := by decide +kernel
theorem dX12_goes_29 : decode cX12_goes 29 = .ok (.baload, 1) := by decide +kernel
theorem dX12_goes_30 : decode cX12_goes 30 = .ok (.ifCond .ne 21, 3) := by decide +kernel
theorem dX12_goes_33 : decode cX12_goes 33 = .ok (.aload_n 0, 1) := by decide +kernel
theorem dX12_goes_34 : decode cX12_goes 34 = .ok (.iload_n 3, 1) := by decide +kernel
theorem dX12_goes_35 : decode cX12_goes 35 = .ok (.invokevirtual 67, 3) := by decide +kernel
theorem dX12_goes_38 : decode cX12_goes 38 = .ok (.aload_n 0, 1) := by decide +kernel
theorem dX12_goes_39 : decode cX12_goes 39 = .ok (.iload_n 1, 1) := by decide +kernel
theorem dX12_goes_40 : decode cX12_goes 40 = .ok (.invokevirtual 67, 3) := by decide +kernel
theorem dX12_goes_43 : decode cX12_goes 43 = .ok (.if_icmp .ne 8, 3) := by decide +kernel
theorem dX12_goes_46 : decode cX12_goes 46 = .ok (.aload_n 0, 1) := by decide +kernel
theorem dX12_goes_47 : decode cX12_goes 47 = .ok (.iload_n 3, 1) := by decide +kernel
theorem dX12_goes_48 : decode cX12_goes 48 = .ok (.invokevirtual 183, 3) := by decide +kernel
theorem dX12_goes_51 : decode cX12_goes 51 = .ok (.iinc 2 1, 3) := by decide +kernel
theorem dX12_goes_54 : decode cX12_goes 54 = .ok (.goto (-45), 3) := by decide +kernel
theorem dX12_goes_57 : decode cX12_goes 57 = .ok (.return_, 1) := by decide +kernel
theorem dX12_parts_0 : decode cX12_parts 0 = .ok (.aload_n 0, 1) := by decide +kernel
theorem dX12_parts_1 : decode cX12_parts 1 = .ok (.iload_n 1, 1) := by decide +kernel
theorem dX12_parts_2 : decode cX12_parts 2 = .ok (.invokestatic 113, 3) := by decide +kernel
theorem dX12_parts_5 : decode cX12_parts 5 = .ok (.ifCond .eq 7, 3) := by decide +kernel
theorem dX12_parts_8 : decode cX12_parts 8 = .ok (.iconst 0, 1) := by decide +kernel
theorem dX12_parts_9 : decode cX12_parts 9 = .ok (.goto 4, 3) := by decide +kernel
theorem dX12_parts_12 : decode cX12_parts 12 = .ok (.iconst 1, 1) := by decide +kernel
theorem dX12_parts_13 : decode cX12_parts 13 = .ok (.putfield 43, 3) := by decide +kernel
theorem dX12_parts_16 : decode cX12_parts 16 = .ok (.iconst 0, 1) := by decide +kernel
theorem dX12_parts_17 : decode cX12_parts 17 = .ok (.istore_n 2, 1) := by decide +kernel
theorem dX12_parts_18 : decode cX12_parts 18 = .ok (.iconst 0, 1) := by decide +kernel
theorem dX12_parts_19 : decode cX12_parts 19 = .ok (.istore_n 3, 1) := by decide +kernel
theorem dX12_parts_20 : decode cX12_parts 20 = .ok (.iload_n 3, 1) := by decide +kernel
theorem dX12_parts_21 : decode cX12_parts 21 = .ok (.bipush 64, 2) := by decide +kernel
theorem dX12_parts_23 : decode cX12_parts 23 = .ok (.if_icmp .ge 16, 3) := by decide +kernel
theorem dX12_parts_26 : decode cX12_parts 26 = .ok (.aload_n 0, 1) := by decide +kernel
theorem dX12_parts_27 : decode cX12_parts 27 = .ok (.getfield 25, 3) := by decide +kernel
theorem dX12_parts_30 : decode cX12_parts 30 = .ok (.iload_n 3, 1) := by decide +kernel
theorem dX12_parts_31 : decode cX12_parts 31 = .ok (.iconst 0, 1) := by decide +kernel
theorem dX12_parts_32 : decode cX12_parts 32 = .ok (.bastore, 1) := by decide +kernel
theorem dX12_parts_33 : decode cX12_parts 33 = .ok (.iinc 3 1, 3) := by decide +kernel
theorem dX12_parts_36 : decode cX12_parts 36 = .ok (.goto (-16), 3) := by decide +kernel
theorem dX12_parts_39 : decode cX12_parts 39 = .ok (.iconst 0, 1) := by decide +kernel
theorem dX12_parts_40 : decode cX12_parts 40 = .ok (.istore_n 3, 1) := by decide +kernel
theorem dX12_parts_41 : decode cX12_parts 41 = .ok (.iload_n 3, 1) := by decide +kernel
theorem dX12_parts_42 : decode cX12_parts 42 = .ok (.bipush 64, 2) := by decide +kernel
theorem dX12_parts_44 : decode cX12_parts 44 = .ok (.if_icmp .ge 42, 3) := by decide +kernel
theorem dX12_parts_47 : decode cX12_parts 47 = .ok (.aload_n 0, 1) := by decide +kernel
theorem dX12_parts_48 : decode cX12_parts 48 = .ok (.getfield 43, 3) := by decide +kernel
theorem dX12_parts_51 : decode cX12_parts 51 = .ok (.ifCond .ne 35, 3) := by decide +kernel
theorem dX12_parts_54 : decode cX12_parts 54 = .ok (.aload_n 0, 1) := by decide +kernel
theorem dX12_parts_55 : decode cX12_parts 55 = .ok (.iload_n 3, 1) := by decide +kernel
theorem dX12_parts_56 : decode cX12_parts 56 = .ok (.invokevirtual 67, 3) := by decide +kernel
theorem dX12_parts_59 : decode cX12_parts 59 = .ok (.iload_n 1, 1) := by decide +kernel
theorem dX12_parts_60 : decode cX12_parts 60 = .ok (.if_icmp .ne 20, 3) := by decide +kernel
theorem dX12_parts_63 : decode cX12_parts 63 = .ok (.aload_n 0, 1) := by decide +kernel
theorem dX12_parts_64 : decode cX12_parts 64 = .ok (.getfield 25, 3) := by decide +kernel
theorem dX12_parts_67 : decode cX12_parts 67 = .ok (.iload_n 3, 1) := by decide +kernel
theorem dX12_parts_68 : decode cX12_parts 68 = .ok (.baload, 1) := by decide +kernel
theorem dX12_parts_69 : decode cX12_parts 69 = .ok (.ifCond .ne 11, 3) := by decide +kernel
theorem dX12_parts_72 : decode cX12_parts 72 = .ok (.aload_n 0, 1) := by decide +kernel
theorem dX12_parts_73 : decode cX12_parts 73 = .ok (.iload_n 3, 1) := by decide +kernel
theorem dX12_parts_74 : decode cX12_parts 74 = .ok (.invokevirtual 183, 3) := by decide +kernel
theorem dX12_parts_77 : decode cX12_parts 77 = .ok (.iinc 2 1, 3) := by decide +kernel
theorem dX12_parts_80 : decode cX12_parts 80 = .ok (.iinc 3 1, 3) := by decide +kernel
theorem dX12_parts_83 : decode cX12_parts 83 = .ok (.goto (-42), 3) := by decide +kernel
theorem dX12_parts_86 : decode cX12_parts 86 = .ok (.iload_n 2, 1) := by decide +kernel
theorem dX12_parts_87 : decode cX12_parts 87 = .ok (.ireturn, 1) := by decide +kernel
theorem dX12_partsAgain_0 : decode cX12_partsAgain 0 = .ok (.aload_n 0, 1) := by decide +kernel
theorem dX12_partsAgain_1 : decode cX12_partsAgain 1 = .ok (.iload_n 1, 1) := by decide +kernel
theorem dX12_partsAgain_2 : decode cX12_partsAgain 2 = .ok (.invokevirtual 186, 3) := by decide +kernel
theorem dX12_partsAgain_5 : decode cX12_partsAgain 5 = .ok (.ireturn, 1) := by decide +kernel
theorem dX12_can_0 : decode cX12_can 0 = .ok (.aload_n 0, 1) := by decide +kernel
theorem dX12_can_1 : decode cX12_can 1 = .ok (.iload_n 1, 1) := by decide +kernel
theorem dX12_can_2 : decode cX12_can 2 = .ok (.invokevirtual 67, 3) := by decide +kernel
theorem dX12_can_5 : decode cX12_can 5 = .ok (.iload_n 2, 1) := by decide +kernel
theorem dX12_can_6 : decode cX12_can 6 = .ok (.if_icmp .eq 16, 3) := by decide +kernel
theorem dX12_can_9 : decode cX12_can 9 = .ok (.aload_n 0, 1) := by decide +kernel
theorem dX12_can_10 : decode cX12_can 10 = .ok (.iload_n 1, 1) := by decide +kernel
theorem dX12_can_11 : decode cX12_can 11 = .ok (.iload_n 2, 1) := by decide +kernel
theorem dX12_can_12 : decode cX12_can 12 = .ok (.invokevirtual 116, 3) := by decide +kernel
theorem dX12_can_15 : decode cX12_can 15 = .ok (.ifCond .ne 7, 3) := by decide +kernel
theorem dX12_can_18 : decode cX12_can 18 = .ok (.iconst 1, 1) := by decide +kernel
theorem dX12_can_19 : decode cX12_can 19 = .ok (.goto 4, 3) := by decide +kernel
theorem dX12_can_22 : decode cX12_can 22 = .ok (.iconst 0, 1) := by decide +kernel
theorem dX12_can_23 : decode cX12_can 23 = .ok (.ireturn, 1) := by decide +kernel
theorem dX12_couldShave_0 : decode cX12_couldShave 0 = .ok (.aload_n 0, 1) := by decide +kernel
theorem dX12_couldShave_1 : decode cX12_couldShave 1 = .ok (.iload_n 1, 1) := by decide +kernel
theorem dX12_couldShave_2 : decode cX12_couldShave 2 = .ok (.invokestatic 78, 3) := by decide +kernel
theorem dX12_couldShave_5 : decode cX12_couldShave 5 = .ok (.ifCond .eq 14, 3) := by decide +kernel
theorem dX12_couldShave_8 : decode cX12_couldShave 8 = .ok (.iload_n 2, 1) := by decide +kernel
theorem dX12_couldShave_9 : decode cX12_couldShave 9 = .ok (.invokestatic 113, 3) := by decide +kernel
theorem dX12_couldShave_12 : decode cX12_couldShave 12 = .ok (.ifCond .eq 7, 3) := by decide +kernel
theorem dX12_couldShave_15 : decode cX12_couldShave 15 = .ok (.iconst 0, 1) := by decide +kernel
theorem dX12_couldShave_16 : decode cX12_couldShave 16 = .ok (.goto 4, 3) := by decide +kernel
theorem dX12_couldShave_19 : decode cX12_couldShave 19 = .ok (.iconst 1, 1) := by decide +kernel
theorem dX12_couldShave_20 : decode cX12_couldShave 20 = .ok (.putfield 43, 3) := by decide +kernel
theorem dX12_couldShave_23 : decode cX12_couldShave 23 = .ok (.aload_n 0, 1) := by decide +kernel
theorem dX12_couldShave_24 : decode cX12_couldShave 24 = .ok (.getfield 43, 3) := by decide +kernel
theorem dX12_couldShave_27 : decode cX12_couldShave 27 = .ok (.ifCond .ne 16, 3) := by decide +kernel
theorem dX12_couldShave_30 : decode cX12_couldShave 30 = .ok (.aload_n 0, 1) := by decide +kernel
theorem dX12_couldShave_31 : decode cX12_couldShave 31 = .ok (.iload_n 1, 1) := by decide +kernel
theorem dX12_couldShave_32 : decode cX12_couldShave 32 = .ok (.iload_n 2, 1) := by decide +kernel
theorem dX12_couldShave_33 : decode cX12_couldShave 33 = .ok (.invokevirtual 189, 3) := by decide +kernel
theorem dX12_couldShave_36 : decode cX12_couldShave 36 = .ok (.ifCond .eq 7, 3) := by decide +kernel
theorem dX12_couldShave_39 : decode cX12_couldShave 39 = .ok (.iconst 1, 1) := by decide +kernel
theorem dX12_couldShave_40 : decode cX12_couldShave 40 = .ok (.goto 4, 3) := by decide +kernel
theorem dX12_couldShave_43 : decode cX12_couldShave 43 = .ok (.iconst 0, 1) := by decide +kernel
theorem dX12_couldShave_44 : decode cX12_couldShave 44 = .ok (.ireturn, 1) := by decide +kernel
theorem dX12_shavable_0 : decode cX12_shavable 0 = .ok (.aload_n 0, 1) := by decide +kernel
theorem dX12_shavable_1 : decode cX12_shavable 1 = .ok (.iload_n 1, 1) := by decide +kernel
theorem dX12_shavable_2 : decode cX12_shavable 2 = .ok (.invokestatic 113, 3) := by decide +kernel
theorem dX12_shavable_5 : decode cX12_shavable 5 = .ok (.ifCond .eq 7, 3) := by decide +kernel
theorem dX12_shavable_8 : decode cX12_shavable 8 = .ok (.iconst 0, 1) := by decide +kernel
theorem dX12_shavable_9 : decode cX12_shavable 9 = .ok (.goto 4, 3) := by decide +kernel
theorem dX12_shavable_12 : decode cX12_shavable 12 = .ok (.iconst 1, 1) := by decide +kernel
theorem dX12_shavable_13 : decode cX12_shavable 13 = .ok (.putfield 43, 3) := by decide +kernel
theorem dX12_shavable_16 : decode cX12_shavable 16 = .ok (.iconst 0, 1) := by decide +kernel
theorem dX12_shavable_17 : decode cX12_shavable 17 = .ok (.istore_n 2, 1) := by decide +kernel
theorem dX12_shavable_18 : decode cX12_shavable 18 = .ok (.iconst 0, 1) := by decide +kernel
theorem dX12_shavable_19 : decode cX12_shavable 19 = .ok (.istore_n 3, 1) := by decide +kernel
theorem dX12_shavable_20 : decode cX12_shavable 20 = .ok (.iload_n 3, 1) := by decide +kernel
theorem dX12_shavable_21 : decode cX12_shavable 21 = .ok (.bipush 64, 2) := by decide +kernel
theorem dX12_shavable_23 : decode cX12_shavable 23 = .ok (.if_icmp .ge 33, 3) := by decide +kernel
theorem dX12_shavable_26 : decode cX12_shavable 26 = .ok (.aload_n 0, 1) := by decide +kernel
theorem dX12_shavable_27 : decode cX12_shavable 27 = .ok (.getfield 43, 3) := by decide +kernel
theorem dX12_shavable_30 : decode cX12_shavable 30 = .ok (.ifCond .ne 26, 3) := by decide +kernel
theorem dX12_shavable_33 : decode cX12_shavable 33 = .ok (.iload_n 2, 1) := by decide +kernel
theorem dX12_shavable_34 : decode cX12_shavable 34 = .ok (.aload_n 0, 1) := by decide +kernel
theorem dX12_shavable_35 : decode cX12_shavable 35 = .ok (.iload_n 3, 1) := by decide +kernel
theorem dX12_shavable_36 : decode cX12_shavable 36 = .ok (.iload_n 1, 1) := by decide +kernel
theorem dX12_shavable_37 : decode cX12_shavable 37 = .ok (.invokevirtual 189, 3) := by decide +kernel
theorem dX12_shavable_40 : decode cX12_shavable 40 = .ok (.ifCond .eq 7, 3) := by decide +kernel
theorem dX12_shavable_43 : decode cX12_shavable 43 = .ok (.iconst 1, 1) := by decide +kernel
theorem dX12_shavable_44 : decode cX12_shavable 44 = .ok (.goto 4, 3) := by decide +kernel
theorem dX12_shavable_47 : decode cX12_shavable 47 = .ok (.iconst 0, 1) := by decide +kernel
theorem dX12_shavable_48 : decode cX12_shavable 48 = .ok (.iadd, 1) := by decide +kernel
theorem dX12_shavable_49 : decode cX12_shavable 49 = .ok (.istore_n 2, 1) := by decide +kernel
theorem dX12_shavable_50 : decode cX12_shavable 50 = .ok (.iinc 3 1, 3) := by decide +kernel
theorem dX12_shavable_53 : decode cX12_shavable 53 = .ok (.goto (-33), 3) := by decide +kernel
theorem dX12_shavable_56 : decode cX12_shavable 56 = .ok (.iload_n 2, 1) := by decide +kernel
theorem dX12_shavable_57 : decode cX12_shavable 57 = .ok (.ireturn, 1) := by decide +kernel
theorem dX12_lieMany_0 : decode cX12_lieMany 0 = .ok (.iconst 0, 1) := by decide +kernel
theorem dX12_lieMany_1 : decode cX12_lieMany 1 = .ok (.istore_n 3, 1) := by decide +kernel
theorem dX12_lieMany_2 : decode cX12_lieMany 2 = .ok (.iconst 0, 1) := by decide +kernel
theorem dX12_lieMany_3 : decode cX12_lieMany 3 = .ok (.istore 4, 2) := by decide +kernel
theorem dX12_lieMany_5 : decode cX12_lieMany 5 = .ok (.iload 4, 2) := by decide +kernel
theorem dX12_lieMany_7 : decode cX12_lieMany 7 = .ok (.bipush 64, 2) := by decide +kernel
theorem dX12_lieMany_9 : decode cX12_lieMany 9 = .ok (.if_icmp .ge 105, 3) := by decide +kernel
theorem dX12_lieMany_12 : decode cX12_lieMany 12 = .ok (.iload_n 1, 1) := by decide +kernel
theorem dX12_lieMany_13 : decode cX12_lieMany 13 = .ok (.ifCond .eq 11, 3) := by decide +kernel
theorem dX12_lieMany_16 : decode cX12_lieMany 16 = .ok (.iload 4, 2) := by decide +kernel
theorem dX12_lieMany_18 : decode cX12_lieMany 18 = .ok (.bipush 8, 2) := by decide +kernel
theorem dX12_lieMany_20 : decode cX12_lieMany 20 = .ok (.idiv, 1) := by decide +kernel
theorem dX12_lieMany_21 : decode cX12_lieMany 21 = .ok (.goto 8, 3) := by decide +kernel
theorem dX12_lieMany_24 : decode cX12_lieMany 24 = .ok (.iload 4, 2) := by decide +kernel
theorem dX12_lieMany_26 : decode cX12_lieMany 26 = .ok (.bipush 8, 2) := by decide +kernel
theorem dX12_lieMany_28 : decode cX12_lieMany 28 = .ok (.irem, 1) := by decide +kernel
theorem dX12_lieMany_29 : decode cX12_lieMany 29 = .ok (.istore 5, 2) := by decide +kernel
theorem dX12_lieMany_31 : decode cX12_lieMany 31 = .ok (.iconst 2, 1) := by decide +kernel
theorem dX12_lieMany_32 : decode cX12_lieMany 32 = .ok (.iload_n 2, 1) := by decide +kernel
theorem dX12_lieMany_33 : decode cX12_lieMany 33 = .ok (.imul, 1) := by decide +kernel
theorem dX12_lieMany_34 : decode cX12_lieMany 34 = .ok (.iconst 1, 1) := by decide +kernel
theorem dX12_lieMany_35 : decode cX12_lieMany 35 = .ok (.isub, 1) := by decide +kernel
theorem dX12_lieMany_36 : decode cX12_lieMany 36 = .ok (.iload 5, 2) := by decide +kernel
theorem dX12_lieMany_38 : decode cX12_lieMany 38 = .ok (.isub, 1) := by decide +kernel
theorem dX12_lieMany_39 : decode cX12_lieMany 39 = .ok (.istore 6, 2) := by decide +kernel
theorem dX12_lieMany_41 : decode cX12_lieMany 41 = .ok (.iload_n 1, 1) := by decide +kernel
theorem dX12_lieMany_42 : decode cX12_lieMany 42 = .ok (.ifCond .eq 17, 3) := by decide +kernel
theorem dX12_lieMany_45 : decode cX12_lieMany 45 = .ok (.bipush 8, 2) := by decide +kernel
theorem dX12_lieMany_47 : decode cX12_lieMany 47 = .ok (.iload 6, 2) := by decide +kernel
theorem dX12_lieMany_49 : decode cX12_lieMany 49 = .ok (.imul, 1) := by decide +kernel
theorem dX12_lieMany_50 : decode cX12_lieMany 50 = .ok (.iload 4, 2) := by decide +kernel
theorem dX12_lieMany_52 : decode cX12_lieMany 52 = .ok (.bipush 8, 2) := by decide +kernel
theorem dX12_lieMany_54 : decode cX12_lieMany 54 = .ok (.irem, 1) := by decide +kernel
theorem dX12_lieMany_55 : decode cX12_lieMany 55 = .ok (.iadd, 1) := by decide +kernel
theorem dX12_lieMany_56 : decode cX12_lieMany 56 = .ok (.goto 14, 3) := by decide +kernel
theorem dX12_lieMany_59 : decode cX12_lieMany 59 = .ok (.bipush 8, 2) := by decide +kernel
theorem dX12_lieMany_61 : decode cX12_lieMany 61 = .ok (.iload 4, 2) := by decide +kernel
theorem dX12_lieMany_63 : decode cX12_lieMany 63 = .ok (.bipush 8, 2) := by decide +kernel
theorem dX12_lieMany_65 : decode cX12_lieMany 65 = .ok (.idiv, 1) := by decide +kernel
theorem dX12_lieMany_66 : decode cX12_lieMany 66 = .ok (.imul, 1) := by decide +kernel
theorem dX12_lieMany_67 : decode cX12_lieMany 67 = .ok (.iload 6, 2) := by decide +kernel
theorem dX12_lieMany_69 : decode cX12_lieMany 69 = .ok (.iadd, 1) := by decide +kernel
theorem dX12_lieMany_70 : decode cX12_lieMany 70 = .ok (.istore 7, 2) := by decide +kernel
theorem dX12_lieMany_72 : decode cX12_lieMany 72 = .ok (.iload_n 3, 1) := by decide +kernel
theorem dX12_lieMany_73 : decode cX12_lieMany 73 = .ok (.iload 5, 2) := by decide +kernel
theorem dX12_lieMany_75 : decode cX12_lieMany 75 = .ok (.iload_n 2, 1) := by decide +kernel
theorem dX12_lieMany_76 : decode cX12_lieMany 76 = .ok (.if_icmp .ge 29, 3) := by decide +kernel
theorem dX12_lieMany_79 : decode cX12_lieMany 79 = .ok (.iload 6, 2) := by decide +kernel
theorem dX12_lieMany_81 : decode cX12_lieMany 81 = .ok (.bipush 8, 2) := by decide +kernel
theorem dX12_lieMany_83 : decode cX12_lieMany 83 = .ok (.if_icmp .ge 22, 3) := by decide +kernel
theorem dX12_lieMany_86 : decode cX12_lieMany 86 = .ok (.aload_n 0, 1) := by decide +kernel
theorem dX12_lieMany_87 : decode cX12_lieMany 87 = .ok (.iload 4, 2) := by decide +kernel
theorem dX12_lieMany_89 : decode cX12_lieMany 89 = .ok (.invokevirtual 67, 3) := by decide +kernel
theorem dX12_lieMany_92 : decode cX12_lieMany 92 = .ok (.aload_n 0, 1) := by decide +kernel
theorem dX12_lieMany_93 : decode cX12_lieMany 93 = .ok (.iload 7, 2) := by decide +kernel
theorem dX12_lieMany_95 : decode cX12_lieMany 95 = .ok (.invokevirtual 67, 3) := by decide +kernel
theorem dX12_lieMany_98 : decode cX12_lieMany 98 = .ok (.if_icmp .eq 7, 3) := by decide +kernel
theorem dX12_lieMany_101 : decode cX12_lieMany 101 = .ok (.iconst 1, 1) := by decide +kernel
theorem dX12_lieMany_102 : decode cX12_lieMany 102 = .ok (.goto 4, 3) := by decide +kernel
theorem dX12_lieMany_105 : decode cX12_lieMany 105 = .ok (.iconst 0, 1) := by decide +kernel
theorem dX12_lieMany_106 : decode cX12_lieMany 106 = .ok (.iadd, 1) := by decide +kernel
theorem dX12_lieMany_107 : decode cX12_lieMany 107 = .ok (.istore_n 3, 1) := by decide +kernel
theorem dX12_lieMany_108 : decode cX12_lieMany 108 = .ok (.iinc 4 1, 3) := by decide +kernel
theorem dX12_lieMany_111 : decode cX12_lieMany 111 = .ok (.goto (-106), 3) := by decide +kernel
theorem dX12_lieMany_114 : decode cX12_lieMany 114 = .ok (.iload_n 3, 1) := by decide +kernel
theorem dX12_lieMany_115 : decode cX12_lieMany 115 = .ok (.ireturn, 1) := by decide +kernel
theorem dX12_lies_0 : decode cX12_lies 0 = .ok (.aload_n 0, 1) := by decide +kernel
theorem dX12_lies_1 : decode cX12_lies 1 = .ok (.iload_n 2, 1) := by decide +kernel
theorem dX12_lies_2 : decode cX12_lies 2 = .ok (.iconst 1, 1) := by decide +kernel
theorem dX12_lies_3 : decode cX12_lies 3 = .ok (.bipush 7, 2) := by decide +kernel
theorem dX12_lies_5 : decode cX12_lies 5 = .ok (.invokestatic 63, 3) := by decide +kernel
theorem dX12_lies_8 : decode cX12_lies 8 = .ok (.ifCond .eq 7, 3) := by decide +kernel
theorem dX12_lies_11 : decode cX12_lies 11 = .ok (.iconst 0, 1) := by decide +kernel
theorem dX12_lies_12 : decode cX12_lies 12 = .ok (.goto 4, 3) := by decide +kernel
theorem dX12_lies_15 : decode cX12_lies 15 = .ok (.iconst 1, 1) := by decide +kernel
theorem dX12_lies_16 : decode cX12_lies 16 = .ok (.putfield 43, 3) := by decide +kernel
theorem dX12_lies_19 : decode cX12_lies 19 = .ok (.aload_n 0, 1) := by decide +kernel
theorem dX12_lies_20 : decode cX12_lies 20 = .ok (.getfield 43, 3) := by decide +kernel
theorem dX12_lies_23 : decode cX12_lies 23 = .ok (.ifCond .le 7, 3) := by decide +kernel
theorem dX12_lies_26 : decode cX12_lies 26 = .ok (.iconst 0, 1) := by decide +kernel
theorem dX12_lies_27 : decode cX12_lies 27 = .ok (.goto 9, 3) := by decide +kernel
theorem dX12_lies_30 : decode cX12_lies 30 = .ok (.aload_n 0, 1) := by decide +kernel
theorem dX12_lies_31 : decode cX12_lies 31 = .ok (.iload_n 1, 1) := by decide +kernel
theorem dX12_lies_32 : decode cX12_lies 32 = .ok (.iload_n 2, 1) := by decide +kernel
theorem dX12_lies_33 : decode cX12_lies 33 = .ok (.invokevirtual 192, 3) := by decide +kernel
theorem dX12_lies_36 : decode cX12_lies 36 = .ok (.ireturn, 1) := by decide +kernel
theorem dX12_liesAgain_0 : decode cX12_liesAgain 0 = .ok (.aload_n 0, 1) := by decide +kernel
theorem dX12_liesAgain_1 : decode cX12_liesAgain 1 = .ok (.iload_n 1, 1) := by decide +kernel
theorem dX12_liesAgain_2 : decode cX12_liesAgain 2 = .ok (.iload_n 2, 1) := by decide +kernel
theorem dX12_liesAgain_3 : decode cX12_liesAgain 3 = .ok (.invokevirtual 196, 3) := by decide +kernel
theorem dX12_liesAgain_6 : decode cX12_liesAgain 6 = .ok (.ireturn, 1) := by decide +kernel
theorem dX12_bestFold_0 : decode cX12_bestFold 0 = .ok (.aload_n 0, 1) := by decide +kernel
theorem dX12_bestFold_1 : decode cX12_bestFold 1 = .ok (.iconst 0, 1) := by decide +kernel
theorem dX12_bestFold_2 : decode cX12_bestFold 2 = .ok (.putfield 43, 3) := by decide +kernel
theorem dX12_bestFold_5 : decode cX12_bestFold 5 = .ok (.iconst 1, 1) := by decide +kernel
theorem dX12_bestFold_6 : decode cX12_bestFold 6 = .ok (.istore_n 2, 1) := by decide +kernel
theorem dX12_bestFold_7 : decode cX12_bestFold 7 = .ok (.iconst 2, 1) := by decide +kernel
theorem dX12_bestFold_8 : decode cX12_bestFold 8 = .ok (.istore_n 3, 1) := by decide +kernel
theorem dX12_bestFold_9 : decode cX12_bestFold 9 = .ok (.iload_n 3, 1) := by decide +kernel
theorem dX12_bestFold_10 : decode cX12_bestFold 10 = .ok (.bipush 8, 2) := by decide +kernel
theorem dX12_bestFold_12 : decode cX12_bestFold 12 = .ok (.if_icmp .ge 30, 3) := by decide +kernel
theorem dX12_bestFold_15 : decode cX12_bestFold 15 = .ok (.aload_n 0, 1) := by decide +kernel
theorem dX12_bestFold_16 : decode cX12_bestFold 16 = .ok (.iload_n 1, 1) := by decide +kernel
theorem dX12_bestFold_17 : decode cX12_bestFold 17 = .ok (.iload_n 3, 1) := by decide +kernel
theorem dX12_bestFold_18 : decode cX12_bestFold 18 = .ok (.invokevirtual 192, 3) := by decide +kernel
theorem dX12_bestFold_21 : decode cX12_bestFold 21 = .ok (.aload_n 0, 1) := by decide +kernel
theorem dX12_bestFold_22 : decode cX12_bestFold 22 = .ok (.iload_n 1, 1) := by decide +kernel
theorem dX12_bestFold_23 : decode cX12_bestFold 23 = .ok (.iload_n 2, 1) := by decide +kernel
theorem dX12_bestFold_24 : decode cX12_bestFold 24 = .ok (.invokevirtual 192, 3) := by decide +kernel
theorem dX12_bestFold_27 : decode cX12_bestFold 27 = .ok (.if_icmp .ge 7, 3) := by decide +kernel
theorem dX12_bestFold_30 : decode cX12_bestFold 30 = .ok (.iload_n 3, 1) := by decide +kernel
theorem dX12_bestFold_31 : decode cX12_bestFold 31 = .ok (.goto 4, 3) := by decide +kernel
theorem dX12_bestFold_34 : decode cX12_bestFold 34 = .ok (.iload_n 2, 1) := by decide +kernel
theorem dX12_bestFold_35 : decode cX12_bestFold 35 = .ok (.istore_n 2, 1) := by decide +kernel
theorem dX12_bestFold_36 : decode cX12_bestFold 36 = .ok (.iinc 3 1, 3) := by decide +kernel
theorem dX12_bestFold_39 : decode cX12_bestFold 39 = .ok (.goto (-30), 3) := by decide +kernel
theorem dX12_bestFold_42 : decode cX12_bestFold 42 = .ok (.iload_n 2, 1) := by decide +kernel
theorem dX12_bestFold_43 : decode cX12_bestFold 43 = .ok (.ireturn, 1) := by decide +kernel
theorem dX12_wrongBy_0 : decode cX12_wrongBy 0 = .ok (.iconst 0, 1) := by decide +kernel
theorem dX12_wrongBy_1 : decode cX12_wrongBy 1 = .ok (.istore_n 2, 1) := by decide +kernel
theorem dX12_wrongBy_2 : decode cX12_wrongBy 2 = .ok (.iconst 0, 1) := by decide +kernel
theorem dX12_wrongBy_3 : decode cX12_wrongBy 3 = .ok (.istore_n 3, 1) := by decide +kernel
theorem dX12_wrongBy_4 : decode cX12_wrongBy 4 = .ok (.iload_n 3, 1) := by decide +kernel
theorem dX12_wrongBy_5 : decode cX12_wrongBy 5 = .ok (.aload_n 0, 1) := by decide +kernel
theorem dX12_wrongBy_6 : decode cX12_wrongBy 6 = .ok (.getfield 9, 3) := by decide +kernel
theorem dX12_wrongBy_9 : decode cX12_wrongBy 9 = .ok (.iconst 0, 1) := by decide +kernel
theorem dX12_wrongBy_10 : decode cX12_wrongBy 10 = .ok (.iaload, 1) := by decide +kernel
theorem dX12_wrongBy_11 : decode cX12_wrongBy 11 = .ok (.if_icmp .ge 37, 3) := by decide +kernel
theorem dX12_wrongBy_14 : decode cX12_wrongBy 14 = .ok (.iload_n 2, 1) := by decide +kernel
theorem dX12_wrongBy_15 : decode cX12_wrongBy 15 = .ok (.aload_n 0, 1) := by decide +kernel
theorem dX12_wrongBy_16 : decode cX12_wrongBy 16 = .ok (.getfield 9, 3) := by decide +kernel
theorem dX12_wrongBy_19 : decode cX12_wrongBy 19 = .ok (.bipush 83, 2) := by decide +kernel
theorem dX12_wrongBy_21 : decode cX12_wrongBy 21 = .ok (.bipush 15, 2) := by decide +kernel
theorem dX12_wrongBy_23 : decode cX12_wrongBy 23 = .ok (.iload_n 3, 1) := by decide +kernel
theorem dX12_wrongBy_24 : decode cX12_wrongBy 24 = .ok (.imul, 1) := by decide +kernel
theorem dX12_wrongBy_25 : decode cX12_wrongBy 25 = .ok (.iadd, 1) := by decide +kernel
theorem dX12_wrongBy_26 : decode cX12_wrongBy 26 = .ok (.iconst 1, 1) := by decide +kernel
theorem dX12_wrongBy_27 : decode cX12_wrongBy 27 = .ok (.iadd, 1) := by decide +kernel
theorem dX12_wrongBy_28 : decode cX12_wrongBy 28 = .ok (.iaload, 1) := by decide +kernel
theorem dX12_wrongBy_29 : decode cX12_wrongBy 29 = .ok (.iload_n 1, 1) := by decide +kernel
theorem dX12_wrongBy_30 : decode cX12_wrongBy 30 = .ok (.aload_n 0, 1) := by decide +kernel
theorem dX12_wrongBy_31 : decode cX12_wrongBy 31 = .ok (.iload_n 3, 1) := by decide +kernel
theorem dX12_wrongBy_32 : decode cX12_wrongBy 32 = .ok (.invokevirtual 156, 3) := by decide +kernel
theorem dX12_wrongBy_35 : decode cX12_wrongBy 35 = .ok (.imul, 1) := by decide +kernel
theorem dX12_wrongBy_36 : decode cX12_wrongBy 36 = .ok (.isub, 1) := by decide +kernel
theorem dX12_wrongBy_37 : decode cX12_wrongBy 37 = .ok (.invokestatic 199, 3) := by decide +kernel
theorem dX12_wrongBy_40 : decode cX12_wrongBy 40 = .ok (.iadd, 1) := by decide +kernel
theorem dX12_wrongBy_41 : decode cX12_wrongBy 41 = .ok (.istore_n 2, 1) := by decide +kernel
theorem dX12_wrongBy_42 : decode cX12_wrongBy 42 = .ok (.iinc 3 1, 3) := by decide +kernel
theorem dX12_wrongBy_45 : decode cX12_wrongBy 45 = .ok (.goto (-41), 3) := by decide +kernel
theorem dX12_wrongBy_48 : decode cX12_wrongBy 48 = .ok (.iload_n 2, 1) := by decide +kernel
theorem dX12_wrongBy_49 : decode cX12_wrongBy 49 = .ok (.ireturn, 1) := by decide +kernel
theorem dX12_wrong_0 : decode cX12_wrong 0 = .ok (.aload_n 0, 1) := by decide +kernel
theorem dX12_wrong_1 : decode cX12_wrong 1 = .ok (.iconst 0, 1) := by decide +kernel
theorem dX12_wrong_2 : decode cX12_wrong 2 = .ok (.putfield 43, 3) := by decide +kernel
theorem dX12_wrong_5 : decode cX12_wrong 5 = .ok (.aload_n 0, 1) := by decide +kernel
theorem dX12_wrong_6 : decode cX12_wrong 6 = .ok (.aload_n 0, 1) := by decide +kernel
theorem dX12_wrong_7 : decode cX12_wrong 7 = .ok (.getfield 9, 3) := by decide +kernel
theorem dX12_wrong_10 : decode cX12_wrong 10 = .ok (.iconst 2, 1) := by decide +kernel
theorem dX12_wrong_11 : decode cX12_wrong 11 = .ok (.iaload, 1) := by decide +kernel
theorem dX12_wrong_12 : decode cX12_wrong 12 = .ok (.invokevirtual 204, 3) := by decide +kernel
theorem dX12_wrong_15 : decode cX12_wrong 15 = .ok (.ireturn, 1) := by decide +kernel
theorem dX12_bestScale_0 : decode cX12_bestScale 0 = .ok (.aload_n 0, 1) := by decide +kernel
theorem dX12_bestScale_1 : decode cX12_bestScale 1 = .ok (.aload_n 0, 1) := by decide +kernel
theorem dX12_bestScale_2 : decode cX12_bestScale 2 = .ok (.getfield 9, 3) := by decide +kernel
theorem dX12_bestScale_5 : decode cX12_bestScale 5 = .ok (.iconst 0, 1) := by decide +kernel
theorem dX12_bestScale_6 : decode cX12_bestScale 6 = .ok (.iaload, 1) := by decide +kernel
theorem dX12_bestScale_7 : decode cX12_bestScale 7 = .ok (.ifCond .ne 7, 3) := by decide +kernel
theorem dX12_bestScale_10 : decode cX12_bestScale 10 = .ok (.iconst 1, 1) := by decide +kernel
theorem dX12_bestScale_11 : decode cX12_bestScale 11 = .ok (.goto 4, 3) := by decide +kernel
theorem dX12_bestScale_14 : decode cX12_bestScale 14 = .ok (.iconst 0, 1) := by decide +kernel
theorem dX12_bestScale_15 : decode cX12_bestScale 15 = .ok (.putfield 43, 3) := by decide +kernel
theorem dX12_bestScale_18 : decode cX12_bestScale 18 = .ok (.iconst 1, 1) := by decide +kernel
theorem dX12_bestScale_19 : decode cX12_bestScale 19 = .ok (.istore_n 1, 1) := by decide +kernel
theorem dX12_bestScale_20 : decode cX12_bestScale 20 = .ok (.iconst 2, 1) := by decide +kernel
theorem dX12_bestScale_21 : decode cX12_bestScale 21 = .ok (.istore_n 2, 1) := by decide +kernel
theorem dX12_bestScale_22 : decode cX12_bestScale 22 = .ok (.iload_n 2, 1) := by decide +kernel
theorem dX12_bestScale_23 : decode cX12_bestScale 23 = .ok (.bipush 9, 2) := by decide +kernel
theorem dX12_bestScale_25 : decode cX12_bestScale 25 = .ok (.if_icmp .gt 28, 3) := by decide +kernel
theorem dX12_bestScale_28 : decode cX12_bestScale 28 = .ok (.aload_n 0, 1) := by decide +kernel
theorem dX12_bestScale_29 : decode cX12_bestScale 29 = .ok (.iload_n 2, 1) := by decide +kernel
theorem dX12_bestScale_30 : decode cX12_bestScale 30 = .ok (.invokevirtual 204, 3) := by decide +kernel
theorem dX12_bestScale_33 : decode cX12_bestScale 33 = .ok (.aload_n 0, 1) := by decide +kernel
theorem dX12_bestScale_34 : decode cX12_bestScale 34 = .ok (.iload_n 1, 1) := by decide +kernel
theorem dX12_bestScale_35 : decode cX12_bestScale 35 = .ok (.invokevirtual 204, 3) := by decide +kernel
theorem dX12_bestScale_38 : decode cX12_bestScale 38 = .ok (.if_icmp .ge 7, 3) := by decide +kernel
theorem dX12_bestScale_41 : decode cX12_bestScale 41 = .ok (.iload_n 2, 1) := by decide +kernel
theorem dX12_bestScale_42 : decode cX12_bestScale 42 = .ok (.goto 4, 3) := by decide +kernel
theorem dX12_bestScale_45 : decode cX12_bestScale 45 = .ok (.iload_n 1, 1) := by decide +kernel
theorem dX12_bestScale_46 : decode cX12_bestScale 46 = .ok (.istore_n 1, 1) := by decide +kernel
theorem dX12_bestScale_47 : decode cX12_bestScale 47 = .ok (.iinc 2 1, 3) := by decide +kernel
theorem dX12_bestScale_50 : decode cX12_bestScale 50 = .ok (.goto (-28), 3) := by decide +kernel
theorem dX12_bestScale_53 : decode cX12_bestScale 53 = .ok (.aload_n 0, 1) := by decide +kernel
theorem dX12_bestScale_54 : decode cX12_bestScale 54 = .ok (.getfield 43, 3) := by decide +kernel
theorem dX12_bestScale_57 : decode cX12_bestScale 57 = .ok (.ifCond .le 7, 3) := by decide +kernel
theorem dX12_bestScale_60 : decode cX12_bestScale 60 = .ok (.iconst 0, 1) := by decide +kernel
theorem dX12_bestScale_61 : decode cX12_bestScale 61 = .ok (.goto 4, 3) := by decide +kernel
theorem dX12_bestScale_64 : decode cX12_bestScale 64 = .ok (.iload_n 1, 1) := by decide +kernel
theorem dX12_bestScale_65 : decode cX12_bestScale 65 = .ok (.ireturn, 1) := by decide +kernel
theorem dX12_isAhead_0 : decode cX12_isAhead 0 = .ok (.iload_n 3, 1) := by decide +kernel
theorem dX12_isAhead_1 : decode cX12_isAhead 1 = .ok (.ifCond .eq 17, 3) := by decide +kernel
theorem dX12_isAhead_4 : decode cX12_isAhead 4 = .ok (.aload_n 0, 1) := by decide +kernel
theorem dX12_isAhead_5 : decode cX12_isAhead 5 = .ok (.iload_n 1, 1) := by decide +kernel
theorem dX12_isAhead_6 : decode cX12_isAhead 6 = .ok (.invokevirtual 171, 3) := by decide +kernel
theorem dX12_isAhead_9 : decode cX12_isAhead 9 = .ok (.aload_n 0, 1) := by decide +kernel
theorem dX12_isAhead_10 : decode cX12_isAhead 10 = .ok (.iload_n 2, 1) := by decide +kernel
theorem dX12_isAhead_11 : decode cX12_isAhead 11 = .ok (.invokevirtual 171, 3) := by decide +kernel
theorem dX12_isAhead_14 : decode cX12_isAhead 14 = .ok (.isub, 1) := by decide +kernel
theorem dX12_isAhead_15 : decode cX12_isAhead 15 = .ok (.goto 14, 3) := by decide +kernel
theorem dX12_isAhead_18 : decode cX12_isAhead 18 = .ok (.aload_n 0, 1) := by decide +kernel
theorem dX12_isAhead_19 : decode cX12_isAhead 19 = .ok (.iload_n 1, 1) := by decide +kernel
theorem dX12_isAhead_20 : decode cX12_isAhead 20 = .ok (.invokevirtual 110, 3) := by decide +kernel
theorem dX12_isAhead_23 : decode cX12_isAhead 23 = .ok (.aload_n 0, 1) := by decide +kernel
theorem dX12_isAhead_24 : decode cX12_isAhead 24 = .ok (.iload_n 2, 1) := by decide +kernel
theorem dX12_isAhead_25 : decode cX12_isAhead 25 = .ok (.invokevirtual 110, 3) := by decide +kernel
theorem dX12_isAhead_28 : decode cX12_isAhead 28 = .ok (.isub, 1) := by decide +kernel
theorem dX12_isAhead_29 : decode cX12_isAhead 29 = .ok (.istore 4, 2) := by decide +kernel
theorem dX12_isAhead_31 : decode cX12_isAhead 31 = .ok (.iload_n 3, 1) := by decide +kernel
theorem dX12_isAhead_32 : decode cX12_isAhead 32 = .ok (.ifCond .eq 17, 3) := by decide +kernel
theorem dX12_isAhead_35 : decode cX12_isAhead 35 = .ok (.aload_n 0, 1) := by decide +kernel
theorem dX12_isAhead_36 : decode cX12_isAhead 36 = .ok (.iload_n 1, 1) := by decide +kernel
theorem dX12_isAhead_37 : decode cX12_isAhead 37 = .ok (.invokevirtual 156, 3) := by decide +kernel
theorem dX12_isAhead_40 : decode cX12_isAhead 40 = .ok (.aload_n 0, 1) := by decide +kernel
theorem dX12_isAhead_41 : decode cX12_isAhead 41 = .ok (.iload_n 2, 1) := by decide +kernel
theorem dX12_isAhead_42 : decode cX12_isAhead 42 = .ok (.invokevirtual 156, 3) := by decide +kernel
theorem dX12_isAhead_45 : decode cX12_isAhead 45 = .ok (.isub, 1) := by decide +kernel
theorem dX12_isAhead_46 : decode cX12_isAhead 46 = .ok (.goto 26, 3) := by decide +kernel
theorem dX12_isAhead_49 : decode cX12_isAhead 49 = .ok (.aload_n 0, 1) := by decide +kernel
theorem dX12_isAhead_50 : decode cX12_isAhead 50 = .ok (.getfield 9, 3) := by decide +kernel
theorem dX12_isAhead_53 : decode cX12_isAhead 53 = .ok (.bipush 7, 2) := by decide +kernel
theorem dX12_isAhead_55 : decode cX12_isAhead 55 = .ok (.iconst 3, 1) := by decide +kernel
theorem dX12_isAhead_56 : decode cX12_isAhead 56 = .ok (.iload_n 1, 1) := by decide +kernel
theorem dX12_isAhead_57 : decode cX12_isAhead 57 = .ok (.imul, 1) := by decide +kernel
theorem dX12_isAhead_58 : decode cX12_isAhead 58 = .ok (.iadd, 1) := by decide +kernel
theorem dX12_isAhead_59 : decode cX12_isAhead 59 = .ok (.iaload, 1) := by decide +kernel
theorem dX12_isAhead_60 : decode cX12_isAhead 60 = .ok (.aload_n 0, 1) := by decide +kernel
theorem dX12_isAhead_61 : decode cX12_isAhead 61 = .ok (.getfield 9, 3) := by decide +kernel
theorem dX12_isAhead_64 : decode cX12_isAhead 64 = .ok (.bipush 7, 2) := by decide +kernel
theorem dX12_isAhead_66 : decode cX12_isAhead 66 = .ok (.iconst 3, 1) := by decide +kernel
theorem dX12_isAhead_67 : decode cX12_isAhead 67 = .ok (.iload_n 2, 1) := by decide +kernel
theorem dX12_isAhead_68 : decode cX12_isAhead 68 = .ok (.imul, 1) := by decide +kernel
theorem dX12_isAhead_69 : decode cX12_isAhead 69 = .ok (.iadd, 1) := by decide +kernel
theorem dX12_isAhead_70 : decode cX12_isAhead 70 = .ok (.iaload, 1) := by decide +kernel
theorem dX12_isAhead_71 : decode cX12_isAhead 71 = .ok (.isub, 1) := by decide +kernel
theorem dX12_isAhead_72 : decode cX12_isAhead 72 = .ok (.istore 5, 2) := by decide +kernel
theorem dX12_isAhead_74 : decode cX12_isAhead 74 = .ok (.iload 4, 2) := by decide +kernel
theorem dX12_isAhead_76 : decode cX12_isAhead 76 = .ok (.ifCond .eq 8, 3) := by decide +kernel
theorem dX12_isAhead_79 : decode cX12_isAhead 79 = .ok (.iload 4, 2) := by decide +kernel
theorem dX12_isAhead_81 : decode cX12_isAhead 81 = .ok (.goto 5, 3) := by decide +kernel
theorem dX12_isAhead_84 : decode cX12_isAhead 84 = .ok (.iload 5, 2) := by decide +kernel
theorem dX12_isAhead_86 : decode cX12_isAhead 86 = .ok (.istore 4, 2) := by decide +kernel
theorem dX12_isAhead_88 : decode cX12_isAhead 88 = .ok (.iload 4, 2) := by decide +kernel
theorem dX12_isAhead_90 : decode cX12_isAhead 90 = .ok (.ifCond .gt 13, 3) := by decide +kernel
theorem dX12_isAhead_93 : decode cX12_isAhead 93 = .ok (.iload 4, 2) := by decide +kernel
theorem dX12_isAhead_95 : decode cX12_isAhead 95 = .ok (.ifCond .ne 12, 3) := by decide +kernel
theorem dX12_isAhead_98 : decode cX12_isAhead 98 = .ok (.iload_n 1, 1) := by decide +kernel
theorem dX12_isAhead_99 : decode cX12_isAhead 99 = .ok (.iload_n 2, 1) := by decide +kernel
theorem dX12_isAhead_100 : decode cX12_isAhead 100 = .ok (.if_icmp .ge 7, 3) := by decide +kernel
theorem dX12_isAhead_103 : decode cX12_isAhead 103 = .ok (.iconst 1, 1) := by decide +kernel
theorem dX12_isAhead_104 : decode cX12_isAhead 104 = .ok (.goto 4, 3) := by decide +kernel
theorem dX12_isAhead_107 : decode cX12_isAhead 107 = .ok (.iconst 0, 1) := by decide +kernel
theorem dX12_isAhead_108 : decode cX12_isAhead 108 = .ok (.ireturn, 1) := by decide +kernel
theorem dX12_placed_0 : decode cX12_placed 0 = .ok (.iconst 0, 1) := by decide +kernel
theorem dX12_placed_1 : decode cX12_placed 1 = .ok (.istore 4, 2) := by decide +kernel
theorem dX12_placed_3 : decode cX12_placed 3 = .ok (.iconst 0, 1) := by decide +kernel
theorem dX12_placed_4 : decode cX12_placed 4 = .ok (.istore 5, 2) := by decide +kernel
theorem dX12_placed_6 : decode cX12_placed 6 = .ok (.iload 5, 2) := by decide +kernel
theorem dX12_placed_8 : decode cX12_placed 8 = .ok (.iload_n 2, 1) := by decide +kernel
theorem dX12_placed_9 : decode cX12_placed 9 = .ok (.if_icmp .ge 64, 3) := by decide +kernel
theorem dX12_placed_12 : decode cX12_placed 12 = .ok (.iconst 0, 1) := by decide +kernel
theorem dX12_placed_13 : decode cX12_placed 13 = .ok (.istore 6, 2) := by decide +kernel
theorem dX12_placed_15 : decode cX12_placed 15 = .ok (.iconst 0, 1) := by decide +kernel
theorem dX12_placed_16 : decode cX12_placed 16 = .ok (.istore 7, 2) := by decide +kernel
theorem dX12_placed_18 : decode cX12_placed 18 = .ok (.iload 7, 2) := by decide +kernel
theorem dX12_placed_20 : decode cX12_placed 20 = .ok (.iload_n 2, 1) := by decide +kernel
theorem dX12_placed_21 : decode cX12_placed 21 = .ok (.if_icmp .ge 31, 3) := by decide +kernel
theorem dX12_placed_24 : decode cX12_placed 24 = .ok (.iload 6, 2) := by decide +kernel
theorem dX12_placed_26 : decode cX12_placed 26 = .ok (.aload_n 0, 1) := by decide +kernel
theorem dX12_placed_27 : decode cX12_placed 27 = .ok (.iload 7, 2) := by decide +kernel
theorem dX12_placed_29 : decode cX12_placed 29 = .ok (.iload 5, 2) := by decide +kernel
theorem dX12_placed_31 : decode cX12_placed 31 = .ok (.iload_n 3, 1) := by decide +kernel
theorem dX12_placed_32 : decode cX12_placed 32 = .ok (.invokevirtual 207, 3) := by decide +kernel
theorem dX12_placed_35 : decode cX12_placed 35 = .ok (.ifCond .eq 7, 3) := by decide +kernel
theorem dX12_placed_38 : decode cX12_placed 38 = .ok (.iconst 1, 1) := by decide +kernel
theorem dX12_placed_39 : decode cX12_placed 39 = .ok (.goto 4, 3) := by decide +kernel
theorem dX12_placed_42 : decode cX12_placed 42 = .ok (.iconst 0, 1) := by decide +kernel
theorem dX12_placed_43 : decode cX12_placed 43 = .ok (.iadd, 1) := by decide +kernel
theorem dX12_placed_44 : decode cX12_placed 44 = .ok (.istore 6, 2) := by decide +kernel
theorem dX12_placed_46 : decode cX12_placed 46 = .ok (.iinc 7 1, 3) := by decide +kernel
theorem dX12_placed_49 : decode cX12_placed 49 = .ok (.goto (-31), 3) := by decide +kernel
theorem dX12_placed_52 : decode cX12_placed 52 = .ok (.iload 6, 2) := by decide +kernel
theorem dX12_placed_54 : decode cX12_placed 54 = .ok (.iload_n 1, 1) := by decide +kernel
theorem dX12_placed_55 : decode cX12_placed 55 = .ok (.if_icmp .ne 8, 3) := by decide +kernel
theorem dX12_placed_58 : decode cX12_placed 58 = .ok (.iload 5, 2) := by decide +kernel
theorem dX12_placed_60 : decode cX12_placed 60 = .ok (.goto 5, 3) := by decide +kernel
theorem dX12_placed_63 : decode cX12_placed 63 = .ok (.iload 4, 2) := by decide +kernel
theorem dX12_placed_65 : decode cX12_placed 65 = .ok (.istore 4, 2) := by decide +kernel
theorem dX12_placed_67 : decode cX12_placed 67 = .ok (.iinc 5 1, 3) := by decide +kernel
theorem dX12_placed_70 : decode cX12_placed 70 = .ok (.goto (-64), 3) := by decide +kernel
theorem dX12_placed_73 : decode cX12_placed 73 = .ok (.iload 4, 2) := by decide +kernel
theorem dX12_placed_75 : decode cX12_placed 75 = .ok (.ireturn, 1) := by decide +kernel
theorem dX12_ranked_0 : decode cX12_ranked 0 = .ok (.aload_n 0, 1) := by decide +kernel
theorem dX12_ranked_1 : decode cX12_ranked 1 = .ok (.iload_n 1, 1) := by decide +kernel
theorem dX12_ranked_2 : decode cX12_ranked 2 = .ok (.invokestatic 113, 3) := by decide +kernel
theorem dX12_ranked_5 : decode cX12_ranked 5 = .ok (.ifCond .eq 7, 3) := by decide +kernel
theorem dX12_ranked_8 : decode cX12_ranked 8 = .ok (.iconst 0, 1) := by decide +kernel
theorem dX12_ranked_9 : decode cX12_ranked 9 = .ok (.goto 4, 3) := by decide +kernel
theorem dX12_ranked_12 : decode cX12_ranked 12 = .ok (.iconst 1, 1) := by decide +kernel
theorem dX12_ranked_13 : decode cX12_ranked 13 = .ok (.putfield 43, 3) := by decide +kernel
theorem dX12_ranked_16 : decode cX12_ranked 16 = .ok (.aload_n 0, 1) := by decide +kernel
theorem dX12_ranked_17 : decode cX12_ranked 17 = .ok (.getfield 43, 3) := by decide +kernel
theorem dX12_ranked_20 : decode cX12_ranked 20 = .ok (.ifCond .le 7, 3) := by decide +kernel
theorem dX12_ranked_23 : decode cX12_ranked 23 = .ok (.iconst 0, 1) := by decide +kernel
theorem dX12_ranked_24 : decode cX12_ranked 24 = .ok (.goto 10, 3) := by decide +kernel
theorem dX12_ranked_27 : decode cX12_ranked 27 = .ok (.aload_n 0, 1) := by decide +kernel
theorem dX12_ranked_28 : decode cX12_ranked 28 = .ok (.iload_n 1, 1) := by decide +kernel
theorem dX12_ranked_29 : decode cX12_ranked 29 = .ok (.iconst 4, 1) := by decide +kernel
theorem dX12_ranked_30 : decode cX12_ranked 30 = .ok (.iconst 0, 1) := by decide +kernel
theorem dX12_ranked_31 : decode cX12_ranked 31 = .ok (.invokevirtual 211, 3) := by decide +kernel
theorem dX12_ranked_34 : decode cX12_ranked 34 = .ok (.ireturn, 1) := by decide +kernel
theorem dX12_heaviest_0 : decode cX12_heaviest 0 = .ok (.aload_n 0, 1) := by decide +kernel
theorem dX12_heaviest_1 : decode cX12_heaviest 1 = .ok (.aload_n 0, 1) := by decide +kernel
theorem dX12_heaviest_2 : decode cX12_heaviest 2 = .ok (.iload_n 1, 1) := by decide +kernel
theorem dX12_heaviest_3 : decode cX12_heaviest 3 = .ok (.invokevirtual 141, 3) := by decide +kernel
theorem dX12_heaviest_6 : decode cX12_heaviest 6 = .ok (.ifCond .eq 7, 3) := by decide +kernel
theorem dX12_heaviest_9 : decode cX12_heaviest 9 = .ok (.iconst 0, 1) := by decide +kernel
theorem dX12_heaviest_10 : decode cX12_heaviest 10 = .ok (.goto 4, 3) := by decide +kernel
theorem dX12_heaviest_13 : decode cX12_heaviest 13 = .ok (.iconst 1, 1) := by decide +kernel
theorem dX12_heaviest_14 : decode cX12_heaviest 14 = .ok (.putfield 43, 3) := by decide +kernel
theorem dX12_heaviest_17 : decode cX12_heaviest 17 = .ok (.aload_n 0, 1) := by decide +kernel
theorem dX12_heaviest_18 : decode cX12_heaviest 18 = .ok (.getfield 43, 3) := by decide +kernel
theorem dX12_heaviest_21 : decode cX12_heaviest 21 = .ok (.ifCond .le 7, 3) := by decide +kernel
theorem dX12_heaviest_24 : decode cX12_heaviest 24 = .ok (.iconst 0, 1) := by decide +kernel
theorem dX12_heaviest_25 : decode cX12_heaviest 25 = .ok (.goto 15, 3) := by decide +kernel
theorem dX12_heaviest_28 : decode cX12_heaviest 28 = .ok (.aload_n 0, 1) := by decide +kernel
theorem dX12_heaviest_29 : decode cX12_heaviest 29 = .ok (.iload_n 1, 1) := by decide +kernel
theorem dX12_heaviest_30 : decode cX12_heaviest 30 = .ok (.aload_n 0, 1) := by decide +kernel
theorem dX12_heaviest_31 : decode cX12_heaviest 31 = .ok (.getfield 9, 3) := by decide +kernel
theorem dX12_heaviest_34 : decode cX12_heaviest 34 = .ok (.iconst 0, 1) := by decide +kernel
theorem dX12_heaviest_35 : decode cX12_heaviest 35 = .ok (.iaload, 1) := by decide +kernel
theorem dX12_heaviest_36 : decode cX12_heaviest 36 = .ok (.iconst 1, 1) := by decide +kernel
theorem dX12_heaviest_37 : decode cX12_heaviest 37 = .ok (.invokevirtual 211, 3) := by decide +kernel
theorem dX12_heaviest_40 : decode cX12_heaviest 40 = .ok (.ireturn, 1) := by decide +kernel
theorem dX12_isTrue_0 : decode cX12_isTrue 0 = .ok (.aload_n 0, 1) := by decide +kernel
theorem dX12_isTrue_1 : decode cX12_isTrue 1 = .ok (.iconst 0, 1) := by decide +kernel
theorem dX12_isTrue_2 : decode cX12_isTrue 2 = .ok (.putfield 43, 3) := by decide +kernel
theorem dX12_isTrue_5 : decode cX12_isTrue 5 = .ok (.iconst 1, 1) := by decide +kernel
theorem dX12_isTrue_6 : decode cX12_isTrue 6 = .ok (.ireturn, 1) := by decide +kernel
theorem dX12_says_0 : decode cX12_says 0 = .ok (.aload_n 0, 1) := by decide +kernel
theorem dX12_says_1 : decode cX12_says 1 = .ok (.getfield 29, 3) := by decide +kernel
theorem dX12_says_4 : decode cX12_says 4 = .ok (.aload_n 0, 1) := by decide +kernel
theorem dX12_says_5 : decode cX12_says 5 = .ok (.getfield 215, 3) := by decide +kernel
theorem dX12_says_8 : decode cX12_says 8 = .ok (.iload_n 1, 1) := by decide +kernel
theorem dX12_says_9 : decode cX12_says 9 = .ok (.castore, 1) := by decide +kernel
theorem dX12_says_10 : decode cX12_says 10 = .ok (.aload_n 0, 1) := by decide +kernel
theorem dX12_says_11 : decode cX12_says 11 = .ok (.dup, 1) := by decide +kernel
theorem dX12_says_12 : decode cX12_says 12 = .ok (.getfield 215, 3) := by decide +kernel
theorem dX12_says_15 : decode cX12_says 15 = .ok (.iconst 1, 1) := by decide +kernel
theorem dX12_says_16 : decode cX12_says 16 = .ok (.iadd, 1) := by decide +kernel
theorem dX12_says_17 : decode cX12_says 17 = .ok (.putfield 215, 3) := by decide +kernel
theorem dX12_says_20 : decode cX12_says 20 = .ok (.return_, 1) := by decide +kernel
theorem dX12_saysNumber_0 : decode cX12_saysNumber 0 = .ok (.iload_n 1, 1) := by decide +kernel
theorem dX12_saysNumber_1 : decode cX12_saysNumber 1 = .ok (.bipush 9, 2) := by decide +kernel
theorem dX12_saysNumber_3 : decode cX12_saysNumber 3 = .ok (.if_icmp .le 11, 3) := by decide +kernel
theorem dX12_saysNumber_6 : decode cX12_saysNumber 6 = .ok (.aload_n 0, 1) := by decide +kernel
theorem dX12_saysNumber_7 : decode cX12_saysNumber 7 = .ok (.iload_n 1, 1) := by decide +kernel
theorem dX12_saysNumber_8 : decode cX12_saysNumber 8 = .ok (.bipush 10, 2) := by decide +kernel
theorem dX12_saysNumber_10 : decode cX12_saysNumber 10 = .ok (.idiv, 1) := by decide +kernel
theorem dX12_saysNumber_11 : decode cX12_saysNumber 11 = .ok (.invokevirtual 218, 3) := by decide +kernel
theorem dX12_saysNumber_14 : decode cX12_saysNumber 14 = .ok (.aload_n 0, 1) := by decide +kernel
theorem dX12_saysNumber_15 : decode cX12_saysNumber 15 = .ok (.bipush 48, 2) := by decide +kernel
theorem dX12_saysNumber_17 : decode cX12_saysNumber 17 = .ok (.iload_n 1, 1) := by decide +kernel
theorem dX12_saysNumber_18 : decode cX12_saysNumber 18 = .ok (.bipush 10, 2) := by decide +kernel
theorem dX12_saysNumber_20 : decode cX12_saysNumber 20 = .ok (.irem, 1) := by decide +kernel
theorem dX12_saysNumber_21 : decode cX12_saysNumber 21 = .ok (.iadd, 1) := by decide +kernel
theorem dX12_saysNumber_22 : decode cX12_saysNumber 22 = .ok (.i2c, 1) := by decide +kernel
theorem dX12_saysNumber_23 : decode cX12_saysNumber 23 = .ok (.invokevirtual 221, 3) := by decide +kernel
theorem dX12_saysNumber_26 : decode cX12_saysNumber 26 = .ok (.return_, 1) := by decide +kernel
theorem dX12_row_0 : decode cX12_row 0 = .ok (.aload_n 0, 1) := by decide +kernel
theorem dX12_row_1 : decode cX12_row 1 = .ok (.iload_n 1, 1) := by decide +kernel
theorem dX12_row_2 : decode cX12_row 2 = .ok (.iconst 0, 1) := by decide +kernel
theorem dX12_row_3 : decode cX12_row 3 = .ok (.bipush 7, 2) := by decide +kernel
theorem dX12_row_5 : decode cX12_row 5 = .ok (.invokestatic 63, 3) := by decide +kernel
theorem dX12_row_8 : decode cX12_row 8 = .ok (.ifCond .eq 7, 3) := by decide +kernel
theorem dX12_row_11 : decode cX12_row 11 = .ok (.iconst 0, 1) := by decide +kernel
theorem dX12_row_12 : decode cX12_row 12 = .ok (.goto 4, 3) := by decide +kernel
theorem dX12_row_15 : decode cX12_row 15 = .ok (.iconst 1, 1) := by decide +kernel
theorem dX12_row_16 : decode cX12_row 16 = .ok (.putfield 43, 3) := by decide +kernel
theorem dX12_row_19 : decode cX12_row 19 = .ok (.aload_n 0, 1) := by decide +kernel
theorem dX12_row_20 : decode cX12_row 20 = .ok (.getfield 43, 3) := by decide +kernel
theorem dX12_row_23 : decode cX12_row 23 = .ok (.ifCond .le 5, 3) := by decide +kernel
theorem dX12_row_26 : decode cX12_row 26 = .ok (.iconst 0, 1) := by decide +kernel
theorem dX12_row_27 : decode cX12_row 27 = .ok (.ireturn, 1) := by decide +kernel
theorem dX12_row_28 : decode cX12_row 28 = .ok (.aload_n 0, 1) := by decide +kernel
theorem dX12_row_29 : decode cX12_row 29 = .ok (.iconst 0, 1) := by decide +kernel
theorem dX12_row_30 : decode cX12_row 30 = .ok (.putfield 215, 3) := by decide +kernel
theorem dX12_row_33 : decode cX12_row 33 = .ok (.iconst 0, 1) := by decide +kernel
theorem dX12_row_34 : decode cX12_row 34 = .ok (.istore_n 2, 1) := by decide +kernel
theorem dX12_row_35 : decode cX12_row 35 = .ok (.iload_n 2, 1) := by decide +kernel
theorem dX12_row_36 : decode cX12_row 36 = .ok (.bipush 8, 2) := by decide +kernel
theorem dX12_row_38 : decode cX12_row 38 = .ok (.if_icmp .ge 55, 3) := by decide +kernel
theorem dX12_row_41 : decode cX12_row 41 = .ok (.bipush 8, 2) := by decide +kernel
theorem dX12_row_43 : decode cX12_row 43 = .ok (.iload_n 1, 1) := by decide +kernel
theorem dX12_row_44 : decode cX12_row 44 = .ok (.imul, 1) := by decide +kernel
theorem dX12_row_45 : decode cX12_row 45 = .ok (.iload_n 2, 1) := by decide +kernel
theorem dX12_row_46 : decode cX12_row 46 = .ok (.iadd, 1) := by decide +kernel
theorem dX12_row_47 : decode cX12_row 47 = .ok (.istore_n 3, 1) := by decide +kernel
theorem dX12_row_48 : decode cX12_row 48 = .ok (.aload_n 0, 1) := by decide +kernel
theorem dX12_row_49 : decode cX12_row 49 = .ok (.aload_n 0, 1) := by decide +kernel
theorem dX12_row_50 : decode cX12_row 50 = .ok (.iload_n 3, 1) := by decide +kernel
theorem dX12_row_51 : decode cX12_row 51 = .ok (.invokevirtual 67, 3) := by decide +kernel
theorem dX12_row_54 : decode cX12_row 54 = .ok (.ifCond .ge 8, 3) := by decide +kernel
theorem dX12_row_57 : decode cX12_row 57 = .ok (.bipush 46, 2) := by decide +kernel
theorem dX12_row_59 : decode cX12_row 59 = .ok (.goto 25, 3) := by decide +kernel
theorem dX12_row_62 : decode cX12_row 62 = .ok (.aload_n 0, 1) := by decide +kernel
theorem dX12_row_63 : decode cX12_row 63 = .ok (.iload_n 3, 1) := by decide +kernel
theorem dX12_row_64 : decode cX12_row 64 = .ok (.invokevirtual 71, 3) := by decide +kernel
theorem dX12_row_67 : decode cX12_row 67 = .ok (.ifCond .lt 8, 3) := by decide +kernel
theorem dX12_row_70 : decode cX12_row 70 = .ok (.bipush 65, 2) := by decide +kernel
theorem dX12_row_72 : decode cX12_row 72 = .ok (.goto 5, 3) := by decide +kernel
theorem dX12_row_75 : decode cX12_row 75 = .ok (.bipush 97, 2) := by decide +kernel
theorem dX12_row_77 : decode cX12_row 77 = .ok (.aload_n 0, 1) := by decide +kernel
theorem dX12_row_78 : decode cX12_row 78 = .ok (.iload_n 3, 1) := by decide +kernel
theorem dX12_row_79 : decode cX12_row 79 = .ok (.invokevirtual 67, 3) := by decide +kernel
theorem dX12_row_82 : decode cX12_row 82 = .ok (.iadd, 1) := by decide +kernel
theorem dX12_row_83 : decode cX12_row 83 = .ok (.i2c, 1) := by decide +kernel
theorem dX12_row_84 : decode cX12_row 84 = .ok (.invokevirtual 221, 3) := by decide +kernel
theorem dX12_row_87 : decode cX12_row 87 = .ok (.iinc 2 1, 3) := by decide +kernel
theorem dX12_row_90 : decode cX12_row 90 = .ok (.goto (-55), 3) := by decide +kernel
theorem dX12_row_93 : decode cX12_row 93 = .ok (.aload_n 0, 1) := by decide +kernel
theorem dX12_row_94 : decode cX12_row 94 = .ok (.getfield 215, 3) := by decide +kernel
theorem dX12_row_97 : decode cX12_row 97 = .ok (.ireturn, 1) := by decide +kernel
theorem dX12_tell_0 : decode cX12_tell 0 = .ok (.aload_n 0, 1) := by decide +kernel
theorem dX12_tell_1 : decode cX12_tell 1 = .ok (.aload_n 0, 1) := by decide +kernel
theorem dX12_tell_2 : decode cX12_tell 2 = .ok (.iload_n 1, 1) := by decide +kernel
theorem dX12_tell_3 : decode cX12_tell 3 = .ok (.invokevirtual 141, 3) := by decide +kernel
theorem dX12_tell_6 : decode cX12_tell 6 = .ok (.ifCond .eq 7, 3) := by decide +kernel
theorem dX12_tell_9 : decode cX12_tell 9 = .ok (.iconst 0, 1) := by decide +kernel
theorem dX12_tell_10 : decode cX12_tell 10 = .ok (.goto 4, 3) := by decide +kernel
theorem dX12_tell_13 : decode cX12_tell 13 = .ok (.iconst 1, 1) := by decide +kernel
theorem dX12_tell_14 : decode cX12_tell 14 = .ok (.putfield 43, 3) := by decide +kernel
theorem dX12_tell_17 : decode cX12_tell 17 = .ok (.aload_n 0, 1) := by decide +kernel
theorem dX12_tell_18 : decode cX12_tell 18 = .ok (.getfield 43, 3) := by decide +kernel
theorem dX12_tell_21 : decode cX12_tell 21 = .ok (.ifCond .le 5, 3) := by decide +kernel
theorem dX12_tell_24 : decode cX12_tell 24 = .ok (.iconst 0, 1) := by decide +kernel
theorem dX12_tell_25 : decode cX12_tell 25 = .ok (.ireturn, 1) := by decide +kernel
theorem dX12_tell_26 : decode cX12_tell 26 = .ok (.bipush 83, 2) := by decide +kernel
theorem dX12_tell_28 : decode cX12_tell 28 = .ok (.bipush 15, 2) := by decide +kernel
theorem dX12_tell_30 : decode cX12_tell 30 = .ok (.iload_n 1, 1) := by decide +kernel
theorem dX12_tell_31 : decode cX12_tell 31 = .ok (.imul, 1) := by decide +kernel
theorem dX12_tell_32 : decode cX12_tell 32 = .ok (.iadd, 1) := by decide +kernel
theorem dX12_tell_33 : decode cX12_tell 33 = .ok (.istore_n 2, 1) := by decide +kernel
theorem dX12_tell_34 : decode cX12_tell 34 = .ok (.aload_n 0, 1) := by decide +kernel
theorem dX12_tell_35 : decode cX12_tell 35 = .ok (.iconst 0, 1) := by decide +kernel
theorem dX12_tell_36 : decode cX12_tell 36 = .ok (.putfield 215, 3) := by decide +kernel
theorem dX12_tell_39 : decode cX12_tell 39 = .ok (.aload_n 0, 1) := by decide +kernel
theorem dX12_tell_40 : decode cX12_tell 40 = .ok (.aload_n 0, 1) := by decide +kernel
theorem dX12_tell_41 : decode cX12_tell 41 = .ok (.getfield 9, 3) := by decide +kernel
theorem dX12_tell_44 : decode cX12_tell 44 = .ok (.iload_n 2, 1) := by decide +kernel
theorem dX12_tell_45 : decode cX12_tell 45 = .ok (.iaload, 1) := by decide +kernel
theorem dX12_tell_46 : decode cX12_tell 46 = .ok (.invokevirtual 218, 3) := by decide +kernel
theorem dX12_tell_49 : decode cX12_tell 49 = .ok (.aload_n 0, 1) := by decide +kernel
theorem dX12_tell_50 : decode cX12_tell 50 = .ok (.bipush 58, 2) := by decide +kernel
theorem dX12_tell_52 : decode cX12_tell 52 = .ok (.invokevirtual 221, 3) := by decide +kernel
theorem dX12_tell_55 : decode cX12_tell 55 = .ok (.iconst 0, 1) := by decide +kernel
theorem dX12_tell_56 : decode cX12_tell 56 = .ok (.istore_n 3, 1) := by decide +kernel
theorem dX12_tell_57 : decode cX12_tell 57 = .ok (.iload_n 3, 1) := by decide +kernel
theorem dX12_tell_58 : decode cX12_tell 58 = .ok (.aload_n 0, 1) := by decide +kernel
theorem dX12_tell_59 : decode cX12_tell 59 = .ok (.iload_n 1, 1) := by decide +kernel
theorem dX12_tell_60 : decode cX12_tell 60 = .ok (.invokevirtual 156, 3) := by decide +kernel
theorem dX12_tell_63 : decode cX12_tell 63 = .ok (.if_icmp .ge 28, 3) := by decide +kernel
theorem dX12_tell_66 : decode cX12_tell 66 = .ok (.aload_n 0, 1) := by decide +kernel
theorem dX12_tell_67 : decode cX12_tell 67 = .ok (.ldc 125, 2) := by decide +kernel
theorem dX12_tell_69 : decode cX12_tell 69 = .ok (.aload_n 0, 1) := by decide +kernel
theorem dX12_tell_70 : decode cX12_tell 70 = .ok (.getfield 9, 3) := by decide +kernel
theorem dX12_tell_73 : decode cX12_tell 73 = .ok (.iload_n 2, 1) := by decide +kernel
theorem dX12_tell_74 : decode cX12_tell 74 = .ok (.iconst 3, 1) := by decide +kernel
theorem dX12_tell_75 : decode cX12_tell 75 = .ok (.iadd, 1) := by decide +kernel
theorem dX12_tell_76 : decode cX12_tell 76 = .ok (.iload_n 3, 1) := by decide +kernel
theorem dX12_tell_77 : decode cX12_tell 77 = .ok (.iadd, 1) := by decide +kernel
theorem dX12_tell_78 : decode cX12_tell 78 = .ok (.iaload, 1) := by decide +kernel
theorem dX12_tell_79 : decode cX12_tell 79 = .ok (.invokevirtual 225, 3) := by decide +kernel
theorem dX12_tell_82 : decode cX12_tell 82 = .ok (.invokevirtual 221, 3) := by decide +kernel
theorem dX12_tell_85 : decode cX12_tell 85 = .ok (.iinc 3 1, 3) := by decide +kernel
theorem dX12_tell_88 : decode cX12_tell 88 = .ok (.goto (-31), 3) := by decide +kernel
theorem dX12_tell_91 : decode cX12_tell 91 = .ok (.aload_n 0, 1) := by decide +kernel
theorem dX12_tell_92 : decode cX12_tell 92 = .ok (.bipush 61, 2) := by decide +kernel
theorem dX12_tell_94 : decode cX12_tell 94 = .ok (.invokevirtual 221, 3) := by decide +kernel
theorem dX12_tell_97 : decode cX12_tell 97 = .ok (.aload_n 0, 1) := by decide +kernel
theorem dX12_tell_98 : decode cX12_tell 98 = .ok (.aload_n 0, 1) := by decide +kernel
theorem dX12_tell_99 : decode cX12_tell 99 = .ok (.getfield 9, 3) := by decide +kernel
theorem dX12_tell_102 : decode cX12_tell 102 = .ok (.iload_n 2, 1) := by decide +kernel
theorem dX12_tell_103 : decode cX12_tell 103 = .ok (.iconst 1, 1) := by decide +kernel
theorem dX12_tell_104 : decode cX12_tell 104 = .ok (.iadd, 1) := by decide +kernel
theorem dX12_tell_105 : decode cX12_tell 105 = .ok (.iaload, 1) := by decide +kernel
theorem dX12_tell_106 : decode cX12_tell 106 = .ok (.invokevirtual 218, 3) := by decide +kernel
theorem dX12_tell_109 : decode cX12_tell 109 = .ok (.aload_n 0, 1) := by decide +kernel
theorem dX12_tell_110 : decode cX12_tell 110 = .ok (.getfield 9, 3) := by decide +kernel
theorem dX12_tell_113 : decode cX12_tell 113 = .ok (.iload_n 2, 1) := by decide +kernel
theorem dX12_tell_114 : decode cX12_tell 114 = .ok (.iconst 1, 1) := by decide +kernel
theorem dX12_tell_115 : decode cX12_tell 115 = .ok (.iadd, 1) := by decide +kernel
theorem dX12_tell_116 : decode cX12_tell 116 = .ok (.iaload, 1) := by decide +kernel
theorem dX12_tell_117 : decode cX12_tell 117 = .ok (.aload_n 0, 1) := by decide +kernel
theorem dX12_tell_118 : decode cX12_tell 118 = .ok (.iload_n 1, 1) := by decide +kernel
theorem dX12_tell_119 : decode cX12_tell 119 = .ok (.invokevirtual 156, 3) := by decide +kernel
theorem dX12_tell_122 : decode cX12_tell 122 = .ok (.aload_n 0, 1) := by decide +kernel
theorem dX12_tell_123 : decode cX12_tell 123 = .ok (.getfield 9, 3) := by decide +kernel
theorem dX12_tell_126 : decode cX12_tell 126 = .ok (.iconst 2, 1) := by decide +kernel
theorem dX12_tell_127 : decode cX12_tell 127 = .ok (.iaload, 1) := by decide +kernel
theorem dX12_tell_128 : decode cX12_tell 128 = .ok (.imul, 1) := by decide +kernel
theorem dX12_tell_129 : decode cX12_tell 129 = .ok (.if_icmp .eq 9, 3) := by decide +kernel
theorem dX12_tell_132 : decode cX12_tell 132 = .ok (.aload_n 0, 1) := by decide +kernel
theorem dX12_tell_133 : decode cX12_tell 133 = .ok (.bipush 63, 2) := by decide +kernel
theorem dX12_tell_135 : decode cX12_tell 135 = .ok (.invokevirtual 221, 3) := by decide +kernel
theorem dX12_tell_138 : decode cX12_tell 138 = .ok (.aload_n 0, 1) := by decide +kernel
theorem dX12_tell_139 : decode cX12_tell 139 = .ok (.getfield 215, 3) := by decide +kernel
theorem dX12_tell_142 : decode cX12_tell 142 = .ok (.ireturn, 1) := by decide +kernel
theorem dX12_character_0 : decode cX12_character 0 = .ok (.aload_n 0, 1) := by decide +kernel
theorem dX12_character_1 : decode cX12_character 1 = .ok (.iload_n 1, 1) := by decide +kernel
theorem dX12_character_2 : decode cX12_character 2 = .ok (.iconst 0, 1) := by decide +kernel
theorem dX12_character_3 : decode cX12_character 3 = .ok (.aload_n 0, 1) := by decide +kernel
theorem dX12_character_4 : decode cX12_character 4 = .ok (.getfield 215, 3) := by decide +kernel
theorem dX12_character_7 : decode cX12_character 7 = .ok (.iconst 1, 1) := by decide +kernel
theorem dX12_character_8 : decode cX12_character 8 = .ok (.isub, 1) := by decide +kernel
theorem dX12_character_9 : decode cX12_character 9 = .ok (.invokestatic 63, 3) := by decide +kernel
theorem dX12_character_12 : decode cX12_character 12 = .ok (.ifCond .eq 7, 3) := by decide +kernel
theorem dX12_character_15 : decode cX12_character 15 = .ok (.iconst 0, 1) := by decide +kernel
theorem dX12_character_16 : decode cX12_character 16 = .ok (.goto 4, 3) := by decide +kernel
theorem dX12_character_19 : decode cX12_character 19 = .ok (.iconst 1, 1) := by decide +kernel
theorem dX12_character_20 : decode cX12_character 20 = .ok (.putfield 43, 3) := by decide +kernel
theorem dX12_character_23 : decode cX12_character 23 = .ok (.aload_n 0, 1) := by decide +kernel
theorem dX12_character_24 : decode cX12_character 24 = .ok (.getfield 43, 3) := by decide +kernel
theorem dX12_character_27 : decode cX12_character 27 = .ok (.ifCond .le 8, 3) := by decide +kernel
theorem dX12_character_30 : decode cX12_character 30 = .ok (.bipush 32, 2) := by decide +kernel
theorem dX12_character_32 : decode cX12_character 32 = .ok (.goto 9, 3) := by decide +kernel
theorem dX12_character_35 : decode cX12_character 35 = .ok (.aload_n 0, 1) := by decide +kernel
theorem dX12_character_36 : decode cX12_character 36 = .ok (.getfield 29, 3) := by decide +kernel
theorem dX12_character_39 : decode cX12_character 39 = .ok (.iload_n 1, 1) := by decide +kernel
theorem dX12_character_40 : decode cX12_character 40 = .ok (.caload, 1) := by decide +kernel
theorem dX12_character_41 : decode cX12_character 41 = .ok (.ireturn, 1) := by decide +kernel
theorem dX12_meanWrong_0 : decode cX12_meanWrong 0 = .ok (.aload_n 0, 1) := by decide +kernel
theorem dX12_meanWrong_1 : decode cX12_meanWrong 1 = .ok (.getfield 9, 3) := by decide +kernel
theorem dX12_meanWrong_4 : decode cX12_meanWrong 4 = .ok (.iconst 0, 1) := by decide +kernel
theorem dX12_meanWrong_5 : decode cX12_meanWrong 5 = .ok (.iaload, 1) := by decide +kernel
theorem dX12_meanWrong_6 : decode cX12_meanWrong 6 = .ok (.istore_n 1, 1) := by decide +kernel
theorem dX12_meanWrong_7 : decode cX12_meanWrong 7 = .ok (.aload_n 0, 1) := by decide +kernel
theorem dX12_meanWrong_8 : decode cX12_meanWrong 8 = .ok (.iload_n 1, 1) := by decide +kernel
theorem dX12_meanWrong_9 : decode cX12_meanWrong 9 = .ok (.ifCond .ne 7, 3) := by decide +kernel
theorem dX12_meanWrong_12 : decode cX12_meanWrong 12 = .ok (.iconst 1, 1) := by decide +kernel
theorem dX12_meanWrong_13 : decode cX12_meanWrong 13 = .ok (.goto 4, 3) := by decide +kernel
theorem dX12_meanWrong_16 : decode cX12_meanWrong 16 = .ok (.iconst 0, 1) := by decide +kernel
theorem dX12_meanWrong_17 : decode cX12_meanWrong 17 = .ok (.putfield 43, 3) := by decide +kernel
theorem dX12_meanWrong_20 : decode cX12_meanWrong 20 = .ok (.aload_n 0, 1) := by decide +kernel
theorem dX12_meanWrong_21 : decode cX12_meanWrong 21 = .ok (.getfield 43, 3) := by decide +kernel
theorem dX12_meanWrong_24 : decode cX12_meanWrong 24 = .ok (.ifCond .le 7, 3) := by decide +kernel
theorem dX12_meanWrong_27 : decode cX12_meanWrong 27 = .ok (.dconst 0, 1) := by decide +kernel
theorem dX12_meanWrong_28 : decode cX12_meanWrong 28 = .ok (.goto 17, 3) := by decide +kernel
theorem dX12_meanWrong_31 : decode cX12_meanWrong 31 = .ok (.aload_n 0, 1) := by decide +kernel
theorem dX12_meanWrong_32 : decode cX12_meanWrong 32 = .ok (.aload_n 0, 1) := by decide +kernel
theorem dX12_meanWrong_33 : decode cX12_meanWrong 33 = .ok (.getfield 9, 3) := by decide +kernel
theorem dX12_meanWrong_36 : decode cX12_meanWrong 36 = .ok (.iconst 2, 1) := by decide +kernel
theorem dX12_meanWrong_37 : decode cX12_meanWrong 37 = .ok (.iaload, 1) := by decide +kernel
theorem dX12_meanWrong_38 : decode cX12_meanWrong 38 = .ok (.invokevirtual 204, 3) := by decide +kernel
theorem dX12_meanWrong_41 : decode cX12_meanWrong 41 = .ok (.i2d, 1) := by decide +kernel
theorem dX12_meanWrong_42 : decode cX12_meanWrong 42 = .ok (.iload_n 1, 1) := by decide +kernel
theorem dX12_meanWrong_43 : decode cX12_meanWrong 43 = .ok (.i2d, 1) := by decide +kernel
theorem dX12_meanWrong_44 : decode cX12_meanWrong 44 = .ok (.ddiv, 1) := by decide +kernel
theorem dX12_meanWrong_45 : decode cX12_meanWrong 45 = .ok (.dreturn, 1) := by decide +kernel
theorem dX12_ownedShare_0 : decode cX12_ownedShare 0 = .ok (.aload_n 0, 1) := by decide +kernel
theorem dX12_ownedShare_1 : decode cX12_ownedShare 1 = .ok (.iconst 0, 1) := by decide +kernel
theorem dX12_ownedShare_2 : decode cX12_ownedShare 2 = .ok (.putfield 43, 3) := by decide +kernel
theorem dX12_ownedShare_5 : decode cX12_ownedShare 5 = .ok (.bipush 64, 2) := by decide +kernel
theorem dX12_ownedShare_7 : decode cX12_ownedShare 7 = .ok (.aload_n 0, 1) := by decide +kernel
theorem dX12_ownedShare_8 : decode cX12_ownedShare 8 = .ok (.iconst (-1), 1) := by decide +kernel
theorem dX12_ownedShare_9 : decode cX12_ownedShare 9 = .ok (.invokevirtual 110, 3) := by decide +kernel
theorem dX12_ownedShare_12 : decode cX12_ownedShare 12 = .ok (.isub, 1) := by decide +kernel
theorem dX12_ownedShare_13 : decode cX12_ownedShare 13 = .ok (.i2f, 1) := by decide +kernel
theorem dX12_ownedShare_14 : decode cX12_ownedShare 14 = .ok (.ldc 229, 2) := by decide +kernel
theorem dX12_ownedShare_16 : decode cX12_ownedShare 16 = .ok (.fdiv, 1) := by decide +kernel
theorem dX12_ownedShare_17 : decode cX12_ownedShare 17 = .ok (.freturn, 1) := by decide +kernel
theorem dX12_account_0 : decode cX12_account 0 = .ok (.aload_n 0, 1) := by decide +kernel
theorem dX12_account_1 : decode cX12_account 1 = .ok (.iload_n 1, 1) := by decide +kernel
theorem dX12_account_2 : decode cX12_account 2 = .ok (.iconst 0, 1) := by decide +kernel
theorem dX12_account_3 : decode cX12_account 3 = .ok (.bipush 10, 2) := by decide +kernel
theorem dX12_account_5 : decode cX12_account 5 = .ok (.invokestatic 63, 3) := by decide +kernel
theorem dX12_account_8 : decode cX12_account 8 = .ok (.ifCond .eq 7, 3) := by decide +kernel
theorem dX12_account_11 : decode cX12_account 11 = .ok (.iconst 0, 1) := by decide +kernel
theorem dX12_account_12 : decode cX12_account 12 = .ok (.goto 4, 3) := by decide +kernel
theorem dX12_account_15 : decode cX12_account 15 = .ok (.iconst 1, 1) := by decide +kernel
theorem dX12_account_16 : decode cX12_account 16 = .ok (.putfield 43, 3) := by decide +kernel
theorem dX12_account_19 : decode cX12_account 19 = .ok (.aload_n 0, 1) := by decide +kernel
theorem dX12_account_20 : decode cX12_account 20 = .ok (.getfield 43, 3) := by decide +kernel
theorem dX12_account_23 : decode cX12_account 23 = .ok (.ifCond .le 5, 3) := by decide +kernel
theorem dX12_account_26 : decode cX12_account 26 = .ok (.iconst 0, 1) := by decide +kernel
theorem dX12_account_27 : decode cX12_account 27 = .ok (.ireturn, 1) := by decide +kernel
theorem dX12_account_28 : decode cX12_account 28 = .ok (.iload_n 1, 1) := by decide +kernel
theorem dX12_account_29 : decode cX12_account 29 = .ok (.tableswitch 131 0 10 #[59, 68, 75, 82, 114, 131, 131, 131, 131, 121, 126], 59) := by decide +kernel
theorem dX12_account_88 : decode cX12_account 88 = .ok (.bipush 64, 2) := by decide +kernel
theorem dX12_account_90 : decode cX12_account 90 = .ok (.aload_n 0, 1) := by decide +kernel
theorem dX12_account_91 : decode cX12_account 91 = .ok (.iconst (-1), 1) := by decide +kernel
theorem dX12_account_92 : decode cX12_account 92 = .ok (.invokevirtual 110, 3) := by decide +kernel
theorem dX12_account_95 : decode cX12_account 95 = .ok (.isub, 1) := by decide +kernel
theorem dX12_account_96 : decode cX12_account 96 = .ok (.ireturn, 1) := by decide +kernel
theorem dX12_account_97 : decode cX12_account 97 = .ok (.aload_n 0, 1) := by decide +kernel
theorem dX12_account_98 : decode cX12_account 98 = .ok (.getfield 9, 3) := by decide +kernel
theorem dX12_account_101 : decode cX12_account 101 = .ok (.iconst 0, 1) := by decide +kernel
theorem dX12_account_102 : decode cX12_account 102 = .ok (.iaload, 1) := by decide +kernel
theorem dX12_account_103 : decode cX12_account 103 = .ok (.ireturn, 1) := by decide +kernel
theorem dX12_account_104 : decode cX12_account 104 = .ok (.aload_n 0, 1) := by decide +kernel
theorem dX12_account_105 : decode cX12_account 105 = .ok (.getfield 9, 3) := by decide +kernel
theorem dX12_account_108 : decode cX12_account 108 = .ok (.iconst 1, 1) := by decide +kernel
theorem dX12_account_109 : decode cX12_account 109 = .ok (.iaload, 1) := by decide +kernel
theorem dX12_account_110 : decode cX12_account 110 = .ok (.ireturn, 1) := by decide +kernel
theorem dX12_account_111 : decode cX12_account 111 = .ok (.aload_n 0, 1) := by decide +kernel
theorem dX12_account_112 : decode cX12_account 112 = .ok (.getfield 9, 3) := by decide +kernel
theorem dX12_account_115 : decode cX12_account 115 = .ok (.bipush 7, 2) := by decide +kernel
theorem dX12_account_117 : decode cX12_account 117 = .ok (.iaload, 1) := by decide +kernel
theorem dX12_account_118 : decode cX12_account 118 = .ok (.aload_n 0, 1) := by decide +kernel
theorem dX12_account_119 : decode cX12_account 119 = .ok (.getfield 9, 3) := by decide +kernel
theorem dX12_account_122 : decode cX12_account 122 = .ok (.bipush 10, 2) := by decide +kernel
theorem dX12_account_124 : decode cX12_account 124 = .ok (.iaload, 1) := by decide +kernel
theorem dX12_account_125 : decode cX12_account 125 = .ok (.iadd, 1) := by decide +kernel
theorem dX12_account_126 : decode cX12_account 126 = .ok (.aload_n 0, 1) := by decide +kernel
theorem dX12_account_127 : decode cX12_account 127 = .ok (.getfield 9, 3) := by decide +kernel
theorem dX12_account_130 : decode cX12_account 130 = .ok (.bipush 13, 2) := by decide +kernel
theorem dX12_account_132 : decode cX12_account 132 = .ok (.iaload, 1) := by decide +kernel
theorem dX12_account_133 : decode cX12_account 133 = .ok (.iadd, 1) := by decide +kernel
theorem dX12_account_134 : decode cX12_account 134 = .ok (.aload_n 0, 1) := by decide +kernel
theorem dX12_account_135 : decode cX12_account 135 = .ok (.getfield 9, 3) := by decide +kernel
theorem dX12_account_138 : decode cX12_account 138 = .ok (.bipush 16, 2) := by decide +kernel
theorem dX12_account_140 : decode cX12_account 140 = .ok (.iaload, 1) := by decide +kernel
theorem dX12_account_141 : decode cX12_account 141 = .ok (.iadd, 1) := by decide +kernel
theorem dX12_account_142 : decode cX12_account 142 = .ok (.ireturn, 1) := by decide +kernel
theorem dX12_account_143 : decode cX12_account 143 = .ok (.aload_n 0, 1) := by decide +kernel
theorem dX12_account_144 : decode cX12_account 144 = .ok (.getfield 9, 3) := by decide +kernel
theorem dX12_account_147 : decode cX12_account 147 = .ok (.iconst 2, 1) := by decide +kernel
theorem dX12_account_148 : decode cX12_account 148 = .ok (.iaload, 1) := by decide +kernel
theorem dX12_account_149 : decode cX12_account 149 = .ok (.ireturn, 1) := by decide +kernel
theorem dX12_account_150 : decode cX12_account 150 = .ok (.aload_n 0, 1) := by decide +kernel
theorem dX12_account_151 : decode cX12_account 151 = .ok (.getfield 135, 3) := by decide +kernel
theorem dX12_account_154 : decode cX12_account 154 = .ok (.ireturn, 1) := by decide +kernel
theorem dX12_account_155 : decode cX12_account 155 = .ok (.aload_n 0, 1) := by decide +kernel
theorem dX12_account_156 : decode cX12_account 156 = .ok (.getfield 52, 3) := by decide +kernel
theorem dX12_account_159 : decode cX12_account 159 = .ok (.ireturn, 1) := by decide +kernel
theorem dX12_account_160 : decode cX12_account 160 = .ok (.aload_n 0, 1) := by decide +kernel
theorem dX12_account_161 : decode cX12_account 161 = .ok (.getfield 9, 3) := by decide +kernel
theorem dX12_account_164 : decode cX12_account 164 = .ok (.iconst 3, 1) := by decide +kernel
theorem dX12_account_165 : decode cX12_account 165 = .ok (.iload_n 1, 1) := by decide +kernel
theorem dX12_account_166 : decode cX12_account 166 = .ok (.iadd, 1) := by decide +kernel
theorem dX12_account_167 : decode cX12_account 167 = .ok (.iconst 5, 1) := by decide +kernel
theorem dX12_account_168 : decode cX12_account 168 = .ok (.isub, 1) := by decide +kernel
theorem dX12_account_169 : decode cX12_account 169 = .ok (.iaload, 1) := by decide +kernel
theorem dX12_account_170 : decode cX12_account 170 = .ok (.ireturn, 1) := by decide +kernel
theorem dX12_append_0 : decode cX12_append 0 = .ok (.aload_n 0, 1) := by decide +kernel
theorem dX12_append_1 : decode cX12_append 1 = .ok (.iload_n 1, 1) := by decide +kernel
theorem dX12_append_2 : decode cX12_append 2 = .ok (.bipush 32, 2) := by decide +kernel
theorem dX12_append_4 : decode cX12_append 4 = .ok (.bipush 126, 2) := by decide +kernel
theorem dX12_append_6 : decode cX12_append 6 = .ok (.invokestatic 63, 3) := by decide +kernel
theorem dX12_append_9 : decode cX12_append 9 = .ok (.ifCond .ne 7, 3) := by decide +kernel
theorem dX12_append_12 : decode cX12_append 12 = .ok (.iconst 1, 1) := by decide +kernel
theorem dX12_append_13 : decode cX12_append 13 = .ok (.goto 17, 3) := by decide +kernel
theorem dX12_append_16 : decode cX12_append 16 = .ok (.aload_n 0, 1) := by decide +kernel
theorem dX12_append_17 : decode cX12_append 17 = .ok (.getfield 135, 3) := by decide +kernel
theorem dX12_append_20 : decode cX12_append 20 = .ok (.bipush 60, 2) := by decide +kernel
theorem dX12_append_22 : decode cX12_append 22 = .ok (.if_icmp .ne 7, 3) := by decide +kernel
theorem dX12_append_25 : decode cX12_append 25 = .ok (.iconst 2, 1) := by decide +kernel
theorem dX12_append_26 : decode cX12_append 26 = .ok (.goto 4, 3) := by decide +kernel
theorem dX12_append_29 : decode cX12_append 29 = .ok (.iconst 0, 1) := by decide +kernel
theorem dX12_append_30 : decode cX12_append 30 = .ok (.putfield 43, 3) := by decide +kernel
theorem dX12_append_33 : decode cX12_append 33 = .ok (.aload_n 0, 1) := by decide +kernel
theorem dX12_append_34 : decode cX12_append 34 = .ok (.getfield 43, 3) := by decide +kernel
theorem dX12_append_37 : decode cX12_append 37 = .ok (.ifCond .le 5, 3) := by decide +kernel
theorem dX12_append_40 : decode cX12_append 40 = .ok (.iconst 0, 1) := by decide +kernel
theorem dX12_append_41 : decode cX12_append 41 = .ok (.ireturn, 1) := by decide +kernel
theorem dX12_append_42 : decode cX12_append 42 = .ok (.aload_n 0, 1) := by decide +kernel
theorem dX12_append_43 : decode cX12_append 43 = .ok (.getfield 33, 3) := by decide +kernel
theorem dX12_append_46 : decode cX12_append 46 = .ok (.aload_n 0, 1) := by decide +kernel
theorem dX12_append_47 : decode cX12_append 47 = .ok (.getfield 135, 3) := by decide +kernel
theorem dX12_append_50 : decode cX12_append 50 = .ok (.iload_n 1, 1) := by decide +kernel
theorem dX12_append_51 : decode cX12_append 51 = .ok (.castore, 1) := by decide +kernel
theorem dX12_append_52 : decode cX12_append 52 = .ok (.aload_n 0, 1) := by decide +kernel
theorem dX12_append_53 : decode cX12_append 53 = .ok (.dup, 1) := by decide +kernel
theorem dX12_append_54 : decode cX12_append 54 = .ok (.getfield 135, 3) := by decide +kernel
theorem dX12_append_57 : decode cX12_append 57 = .ok (.iconst 1, 1) := by decide +kernel
theorem dX12_append_58 : decode cX12_append 58 = .ok (.iadd, 1) := by decide +kernel
theorem dX12_append_59 : decode cX12_append 59 = .ok (.putfield 135, 3) := by decide +kernel
theorem dX12_append_62 : decode cX12_append 62 = .ok (.aload_n 0, 1) := by decide +kernel
theorem dX12_append_63 : decode cX12_append 63 = .ok (.getfield 135, 3) := by decide +kernel
theorem dX12_append_66 : decode cX12_append 66 = .ok (.ireturn, 1) := by decide +kernel
theorem dX12_isHere_0 : decode cX12_isHere 0 = .ok (.aload_n 0, 1) := by decide +kernel
theorem dX12_isHere_1 : decode cX12_isHere 1 = .ok (.getfield 230, 3) := by decide +kernel
theorem dX12_isHere_4 : decode cX12_isHere 4 = .ok (.ifCond .ne 35, 3) := by decide +kernel
theorem dX12_isHere_7 : decode cX12_isHere 7 = .ok (.aload_n 0, 1) := by decide +kernel
theorem dX12_isHere_8 : decode cX12_isHere 8 = .ok (.getfield 233, 3) := by decide +kernel
theorem dX12_isHere_11 : decode cX12_isHere 11 = .ok (.aload_n 0, 1) := by decide +kernel
theorem dX12_isHere_12 : decode cX12_isHere 12 = .ok (.getfield 135, 3) := by decide +kernel
theorem dX12_isHere_15 : decode cX12_isHere 15 = .ok (.if_icmp .ge 24, 3) := by decide +kernel
theorem dX12_isHere_18 : decode cX12_isHere 18 = .ok (.aload_n 0, 1) := by decide +kernel
theorem dX12_isHere_19 : decode cX12_isHere 19 = .ok (.getfield 33, 3) := by decide +kernel
theorem dX12_isHere_22 : decode cX12_isHere 22 = .ok (.aload_n 0, 1) := by decide +kernel
theorem dX12_isHere_23 : decode cX12_isHere 23 = .ok (.getfield 233, 3) := by decide +kernel
theorem dX12_isHere_26 : decode cX12_isHere 26 = .ok (.caload, 1) := by decide +kernel
theorem dX12_isHere_27 : decode cX12_isHere 27 = .ok (.iload_n 1, 1) := by decide +kernel
theorem dX12_isHere_28 : decode cX12_isHere 28 = .ok (.iload_n 2, 1) := by decide +kernel
theorem dX12_isHere_29 : decode cX12_isHere 29 = .ok (.invokestatic 63, 3) := by decide +kernel
theorem dX12_isHere_32 : decode cX12_isHere 32 = .ok (.ifCond .eq 7, 3) := by decide +kernel
theorem dX12_isHere_35 : decode cX12_isHere 35 = .ok (.iconst 1, 1) := by decide +kernel
theorem dX12_isHere_36 : decode cX12_isHere 36 = .ok (.goto 4, 3) := by decide +kernel
theorem dX12_isHere_39 : decode cX12_isHere 39 = .ok (.iconst 0, 1) := by decide +kernel
theorem dX12_isHere_40 : decode cX12_isHere 40 = .ok (.ireturn, 1) := by decide +kernel
theorem dX12_sign_0 : decode cX12_sign 0 = .ok (.aload_n 0, 1) := by decide +kernel
theorem dX12_sign_1 : decode cX12_sign 1 = .ok (.aload_n 0, 1) := by decide +kernel
theorem dX12_sign_2 : decode cX12_sign 2 = .ok (.getfield 230, 3) := by decide +kernel
theorem dX12_sign_5 : decode cX12_sign 5 = .ok (.ifCond .ne 12, 3) := by decide +kernel
theorem dX12_sign_8 : decode cX12_sign 8 = .ok (.aload_n 0, 1) := by decide +kernel
theorem dX12_sign_9 : decode cX12_sign 9 = .ok (.iload_n 1, 1) := by decide +kernel
theorem dX12_sign_10 : decode cX12_sign 10 = .ok (.iload_n 2, 1) := by decide +kernel
theorem dX12_sign_11 : decode cX12_sign 11 = .ok (.invokevirtual 236, 3) := by decide +kernel
theorem dX12_sign_14 : decode cX12_sign 14 = .ok (.ifCond .ne 7, 3) := by decide +kernel
theorem dX12_sign_17 : decode cX12_sign 17 = .ok (.iconst 1, 1) := by decide +kernel
theorem dX12_sign_18 : decode cX12_sign 18 = .ok (.goto 4, 3) := by decide +kernel
theorem dX12_sign_21 : decode cX12_sign 21 = .ok (.iconst 0, 1) := by decide +kernel
theorem dX12_sign_22 : decode cX12_sign 22 = .ok (.putfield 230, 3) := by decide +kernel
theorem dX12_sign_25 : decode cX12_sign 25 = .ok (.aload_n 0, 1) := by decide +kernel
theorem dX12_sign_26 : decode cX12_sign 26 = .ok (.getfield 230, 3) := by decide +kernel
theorem dX12_sign_29 : decode cX12_sign 29 = .ok (.ifCond .eq 5, 3) := by decide +kernel
theorem dX12_sign_32 : decode cX12_sign 32 = .ok (.iconst 0, 1) := by decide +kernel
theorem dX12_sign_33 : decode cX12_sign 33 = .ok (.ireturn, 1) := by decide +kernel
theorem dX12_sign_34 : decode cX12_sign 34 = .ok (.aload_n 0, 1) := by decide +kernel
theorem dX12_sign_35 : decode cX12_sign 35 = .ok (.dup, 1) := by decide +kernel
theorem dX12_sign_36 : decode cX12_sign 36 = .ok (.getfield 233, 3) := by decide +kernel
theorem dX12_sign_39 : decode cX12_sign 39 = .ok (.iconst 1, 1) := by decide +kernel
theorem dX12_sign_40 : decode cX12_sign 40 = .ok (.iadd, 1) := by decide +kernel
theorem dX12_sign_41 : decode cX12_sign 41 = .ok (.putfield 233, 3) := by decide +kernel
theorem dX12_sign_44 : decode cX12_sign 44 = .ok (.aload_n 0, 1) := by decide +kernel
theorem dX12_sign_45 : decode cX12_sign 45 = .ok (.getfield 33, 3) := by decide +kernel
theorem dX12_sign_48 : decode cX12_sign 48 = .ok (.aload_n 0, 1) := by decide +kernel
theorem dX12_sign_49 : decode cX12_sign 49 = .ok (.getfield 233, 3) := by decide +kernel
theorem dX12_sign_52 : decode cX12_sign 52 = .ok (.iconst 1, 1) := by decide +kernel
theorem dX12_sign_53 : decode cX12_sign 53 = .ok (.isub, 1) := by decide +kernel
theorem dX12_sign_54 : decode cX12_sign 54 = .ok (.caload, 1) := by decide +kernel
theorem dX12_sign_55 : decode cX12_sign 55 = .ok (.iload_n 1, 1) := by decide +kernel
theorem dX12_sign_56 : decode cX12_sign 56 = .ok (.isub, 1) := by decide +kernel
theorem dX12_sign_57 : decode cX12_sign 57 = .ok (.ireturn, 1) := by decide +kernel
theorem dX12_number_0 : decode cX12_number 0 = .ok (.aload_n 0, 1) := by decide +kernel
theorem dX12_number_1 : decode cX12_number 1 = .ok (.bipush 48, 2) := by decide +kernel
theorem dX12_number_3 : decode cX12_number 3 = .ok (.bipush 57, 2) := by decide +kernel
theorem dX12_number_5 : decode cX12_number 5 = .ok (.invokevirtual 240, 3) := by decide +kernel
theorem dX12_number_8 : decode cX12_number 8 = .ok (.istore_n 1, 1) := by decide +kernel
theorem dX12_number_9 : decode cX12_number 9 = .ok (.aload_n 0, 1) := by decide +kernel
theorem dX12_number_10 : decode cX12_number 10 = .ok (.bipush 48, 2) := by decide +kernel
theorem dX12_number_12 : decode cX12_number 12 = .ok (.bipush 57, 2) := by decide +kernel
theorem dX12_number_14 : decode cX12_number 14 = .ok (.invokevirtual 236, 3) := by decide +kernel
theorem dX12_number_17 : decode cX12_number 17 = .ok (.ifCond .eq 19, 3) := by decide +kernel
theorem dX12_number_20 : decode cX12_number 20 = .ok (.bipush 10, 2) := by decide +kernel
theorem dX12_number_22 : decode cX12_number 22 = .ok (.iload_n 1, 1) := by decide +kernel
theorem dX12_number_23 : decode cX12_number 23 = .ok (.imul, 1) := by decide +kernel
theorem dX12_number_24 : decode cX12_number 24 = .ok (.aload_n 0, 1) := by decide +kernel
theorem dX12_number_25 : decode cX12_number 25 = .ok (.bipush 48, 2) := by decide +kernel
theorem dX12_number_27 : decode cX12_number 27 = .ok (.bipush 57, 2) := by decide +kernel
theorem dX12_number_29 : decode cX12_number 29 = .ok (.invokevirtual 240, 3) := by decide +kernel
theorem dX12_number_32 : decode cX12_number 32 = .ok (.iadd, 1) := by decide +kernel
theorem dX12_number_33 : decode cX12_number 33 = .ok (.goto 4, 3) := by decide +kernel
theorem dX12_number_36 : decode cX12_number 36 = .ok (.iload_n 1, 1) := by decide +kernel
theorem dX12_number_37 : decode cX12_number 37 = .ok (.ireturn, 1) := by decide +kernel
theorem dX12_isStep_0 : decode cX12_isStep 0 = .ok (.aload_n 0, 1) := by decide +kernel
theorem dX12_isStep_1 : decode cX12_isStep 1 = .ok (.getfield 230, 3) := by decide +kernel
theorem dX12_isStep_4 : decode cX12_isStep 4 = .ok (.ifCond .ne 35, 3) := by decide +kernel
theorem dX12_isStep_7 : decode cX12_isStep 7 = .ok (.aload_n 0, 1) := by decide +kernel
theorem dX12_isStep_8 : decode cX12_isStep 8 = .ok (.getfield 233, 3) := by decide +kernel
theorem dX12_isStep_11 : decode cX12_isStep 11 = .ok (.aload_n 0, 1) := by decide +kernel
theorem dX12_isStep_12 : decode cX12_isStep 12 = .ok (.getfield 135, 3) := by decide +kernel
theorem dX12_isStep_15 : decode cX12_isStep 15 = .ok (.if_icmp .ge 24, 3) := by decide +kernel
theorem dX12_isStep_18 : decode cX12_isStep 18 = .ok (.ldc 125, 2) := by decide +kernel
theorem dX12_isStep_20 : decode cX12_isStep 20 = .ok (.aload_n 0, 1) := by decide +kernel
theorem dX12_isStep_21 : decode cX12_isStep 21 = .ok (.getfield 33, 3) := by decide +kernel
theorem dX12_isStep_24 : decode cX12_isStep 24 = .ok (.aload_n 0, 1) := by decide +kernel
theorem dX12_isStep_25 : decode cX12_isStep 25 = .ok (.getfield 233, 3) := by decide +kernel
theorem dX12_isStep_28 : decode cX12_isStep 28 = .ok (.caload, 1) := by decide +kernel
theorem dX12_isStep_29 : decode cX12_isStep 29 = .ok (.invokevirtual 127, 3) := by decide +kernel
theorem dX12_isStep_32 : decode cX12_isStep 32 = .ok (.ifCond .lt 7, 3) := by decide +kernel
theorem dX12_isStep_35 : decode cX12_isStep 35 = .ok (.iconst 1, 1) := by decide +kernel
theorem dX12_isStep_36 : decode cX12_isStep 36 = .ok (.goto 4, 3) := by decide +kernel
theorem dX12_isStep_39 : decode cX12_isStep 39 = .ok (.iconst 0, 1) := by decide +kernel
theorem dX12_isStep_40 : decode cX12_isStep 40 = .ok (.ireturn, 1) := by decide +kernel
theorem dX12_readRiver_0 : decode cX12_readRiver 0 = .ok (.aload_n 0, 1) := by decide +kernel
theorem dX12_readRiver_1 : decode cX12_readRiver 1 = .ok (.getfield 40, 3) := by decide +kernel
theorem dX12_readRiver_4 : decode cX12_readRiver 4 = .ok (.iload_n 1, 1) := by decide +kernel
theorem dX12_readRiver_5 : decode cX12_readRiver 5 = .ok (.iconst 1, 1) := by decide +kernel
theorem dX12_readRiver_6 : decode cX12_readRiver 6 = .ok (.iadd, 1) := by decide +kernel
theorem dX12_readRiver_7 : decode cX12_readRiver 7 = .ok (.aload_n 0, 1) := by decide +kernel
theorem dX12_readRiver_8 : decode cX12_readRiver 8 = .ok (.invokevirtual 244, 3) := by decide +kernel
theorem dX12_readRiver_11 : decode cX12_readRiver 11 = .ok (.iastore, 1) := by decide +kernel
theorem dX12_readRiver_12 : decode cX12_readRiver 12 = .ok (.aload_n 0, 1) := by decide +kernel
theorem dX12_readRiver_13 : decode cX12_readRiver 13 = .ok (.bipush 58, 2) := by decide +kernel
theorem dX12_readRiver_15 : decode cX12_readRiver 15 = .ok (.bipush 58, 2) := by decide +kernel
theorem dX12_readRiver_17 : decode cX12_readRiver 17 = .ok (.invokevirtual 240, 3) := by decide +kernel
theorem dX12_readRiver_20 : decode cX12_readRiver 20 = .ok (.istore_n 2, 1) := by decide +kernel
theorem dX12_readRiver_21 : decode cX12_readRiver 21 = .ok (.aload_n 0, 1) := by decide +kernel
theorem dX12_readRiver_22 : decode cX12_readRiver 22 = .ok (.getfield 40, 3) := by decide +kernel
theorem dX12_readRiver_25 : decode cX12_readRiver 25 = .ok (.iload_n 1, 1) := by decide +kernel
theorem dX12_readRiver_26 : decode cX12_readRiver 26 = .ok (.iconst 2, 1) := by decide +kernel
theorem dX12_readRiver_27 : decode cX12_readRiver 27 = .ok (.iadd, 1) := by decide +kernel
theorem dX12_readRiver_28 : decode cX12_readRiver 28 = .ok (.aload_n 0, 1) := by decide +kernel
theorem dX12_readRiver_29 : decode cX12_readRiver 29 = .ok (.getfield 233, 3) := by decide +kernel
theorem dX12_readRiver_32 : decode cX12_readRiver 32 = .ok (.iastore, 1) := by decide +kernel
theorem dX12_readRiver_33 : decode cX12_readRiver 33 = .ok (.aload_n 0, 1) := by decide +kernel
theorem dX12_readRiver_34 : decode cX12_readRiver 34 = .ok (.aload_n 0, 1) := by decide +kernel
theorem dX12_readRiver_35 : decode cX12_readRiver 35 = .ok (.getfield 230, 3) := by decide +kernel
theorem dX12_readRiver_38 : decode cX12_readRiver 38 = .ok (.ifCond .ne 10, 3) := by decide +kernel
theorem dX12_readRiver_41 : decode cX12_readRiver 41 = .ok (.aload_n 0, 1) := by decide +kernel
theorem dX12_readRiver_42 : decode cX12_readRiver 42 = .ok (.invokevirtual 248, 3) := by decide +kernel
theorem dX12_readRiver_45 : decode cX12_readRiver 45 = .ok (.ifCond .ne 7, 3) := by decide +kernel
theorem dX12_readRiver_48 : decode cX12_readRiver 48 = .ok (.iconst 1, 1) := by decide +kernel
theorem dX12_readRiver_49 : decode cX12_readRiver 49 = .ok (.goto 4, 3) := by decide +kernel
theorem dX12_readRiver_52 : decode cX12_readRiver 52 = .ok (.iconst 0, 1) := by decide +kernel
theorem dX12_readRiver_53 : decode cX12_readRiver 53 = .ok (.putfield 230, 3) := by decide +kernel
theorem dX12_readRiver_56 : decode cX12_readRiver 56 = .ok (.iconst 0, 1) := by decide +kernel
theorem dX12_readRiver_57 : decode cX12_readRiver 57 = .ok (.istore_n 3, 1) := by decide +kernel
theorem dX12_readRiver_58 : decode cX12_readRiver 58 = .ok (.iload_n 3, 1) := by decide +kernel
theorem dX12_readRiver_59 : decode cX12_readRiver 59 = .ok (.bipush 12, 2) := by decide +kernel
theorem dX12_readRiver_61 : decode cX12_readRiver 61 = .ok (.if_icmp .ge 26, 3) := by decide +kernel
theorem dX12_readRiver_64 : decode cX12_readRiver 64 = .ok (.aload_n 0, 1) := by decide +kernel
theorem dX12_readRiver_65 : decode cX12_readRiver 65 = .ok (.invokevirtual 248, 3) := by decide +kernel
theorem dX12_readRiver_68 : decode cX12_readRiver 68 = .ok (.ifCond .eq 19, 3) := by decide +kernel
theorem dX12_readRiver_71 : decode cX12_readRiver 71 = .ok (.aload_n 0, 1) := by decide +kernel
theorem dX12_readRiver_72 : decode cX12_readRiver 72 = .ok (.dup, 1) := by decide +kernel
theorem dX12_readRiver_73 : decode cX12_readRiver 73 = .ok (.getfield 233, 3) := by decide +kernel
theorem dX12_readRiver_76 : decode cX12_readRiver 76 = .ok (.iconst 1, 1) := by decide +kernel
theorem dX12_readRiver_77 : decode cX12_readRiver 77 = .ok (.iadd, 1) := by decide +kernel
theorem dX12_readRiver_78 : decode cX12_readRiver 78 = .ok (.putfield 233, 3) := by decide +kernel
theorem dX12_readRiver_81 : decode cX12_readRiver 81 = .ok (.iinc 3 1, 3) := by decide +kernel
theorem dX12_readRiver_84 : decode cX12_readRiver 84 = .ok (.goto (-26), 3) := by decide +kernel
theorem dX12_readRiver_87 : decode cX12_readRiver 87 = .ok (.aload_n 0, 1) := by decide +kernel
theorem dX12_readRiver_88 : decode cX12_readRiver 88 = .ok (.getfield 40, 3) := by decide +kernel
theorem dX12_readRiver_91 : decode cX12_readRiver 91 = .ok (.iload_n 1, 1) := by decide +kernel
theorem dX12_readRiver_92 : decode cX12_readRiver 92 = .ok (.iconst 3, 1) := by decide +kernel
theorem dX12_readRiver_93 : decode cX12_readRiver 93 = .ok (.iadd, 1) := by decide +kernel
theorem dX12_readRiver_94 : decode cX12_readRiver 94 = .ok (.iload_n 3, 1) := by decide +kernel
theorem dX12_readRiver_95 : decode cX12_readRiver 95 = .ok (.iastore, 1) := by decide +kernel
theorem dX12_readRiver_96 : decode cX12_readRiver 96 = .ok (.aload_n 0, 1) := by decide +kernel
theorem dX12_readRiver_97 : decode cX12_readRiver 97 = .ok (.bipush 61, 2) := by decide +kernel
theorem dX12_readRiver_99 : decode cX12_readRiver 99 = .ok (.bipush 61, 2) := by decide +kernel
theorem dX12_readRiver_101 : decode cX12_readRiver 101 = .ok (.invokevirtual 240, 3) := by decide +kernel
theorem dX12_readRiver_104 : decode cX12_readRiver 104 = .ok (.istore_n 2, 1) := by decide +kernel
theorem dX12_readRiver_105 : decode cX12_readRiver 105 = .ok (.aload_n 0, 1) := by decide +kernel
theorem dX12_readRiver_106 : decode cX12_readRiver 106 = .ok (.getfield 40, 3) := by decide +kernel
theorem dX12_readRiver_109 : decode cX12_readRiver 109 = .ok (.iload_n 1, 1) := by decide +kernel
theorem dX12_readRiver_110 : decode cX12_readRiver 110 = .ok (.iconst 4, 1) := by decide +kernel
theorem dX12_readRiver_111 : decode cX12_readRiver 111 = .ok (.iadd, 1) := by decide +kernel
theorem dX12_readRiver_112 : decode cX12_readRiver 112 = .ok (.aload_n 0, 1) := by decide +kernel
theorem dX12_readRiver_113 : decode cX12_readRiver 113 = .ok (.invokevirtual 244, 3) := by decide +kernel
theorem dX12_readRiver_116 : decode cX12_readRiver 116 = .ok (.iastore, 1) := by decide +kernel
theorem dX12_readRiver_117 : decode cX12_readRiver 117 = .ok (.return_, 1) := by decide +kernel
theorem dX12_readCommand_0 : decode cX12_readCommand 0 = .ok (.aload_n 0, 1) := by decide +kernel
theorem dX12_readCommand_1 : decode cX12_readCommand 1 = .ok (.getfield 230, 3) := by decide +kernel
theorem dX12_readCommand_4 : decode cX12_readCommand 4 = .ok (.ifCond .eq 4, 3) := by decide +kernel
theorem dX12_readCommand_7 : decode cX12_readCommand 7 = .ok (.return_, 1) := by decide +kernel
theorem dX12_readCommand_8 : decode cX12_readCommand 8 = .ok (.aload_n 0, 1) := by decide +kernel
theorem dX12_readCommand_9 : decode cX12_readCommand 9 = .ok (.getfield 233, 3) := by decide +kernel
theorem dX12_readCommand_12 : decode cX12_readCommand 12 = .ok (.aload_n 0, 1) := by decide +kernel
theorem dX12_readCommand_13 : decode cX12_readCommand 13 = .ok (.getfield 135, 3) := by decide +kernel
theorem dX12_readCommand_16 : decode cX12_readCommand 16 = .ok (.if_icmp .ge 15, 3) := by decide +kernel
theorem dX12_readCommand_19 : decode cX12_readCommand 19 = .ok (.aload_n 0, 1) := by decide +kernel
theorem dX12_readCommand_20 : decode cX12_readCommand 20 = .ok (.getfield 33, 3) := by decide +kernel
theorem dX12_readCommand_23 : decode cX12_readCommand 23 = .ok (.aload_n 0, 1) := by decide +kernel
theorem dX12_readCommand_24 : decode cX12_readCommand 24 = .ok (.getfield 233, 3) := by decide +kernel
theorem dX12_readCommand_27 : decode cX12_readCommand 27 = .ok (.caload, 1) := by decide +kernel
theorem dX12_readCommand_28 : decode cX12_readCommand 28 = .ok (.goto 4, 3) := by decide +kernel
theorem dX12_readCommand_31 : decode cX12_readCommand 31 = .ok (.iconst 0, 1) := by decide +kernel
theorem dX12_readCommand_32 : decode cX12_readCommand 32 = .ok (.istore_n 1, 1) := by decide +kernel
theorem dX12_readCommand_33 : decode cX12_readCommand 33 = .ok (.ldc 252, 2) := by decide +kernel
theorem dX12_readCommand_35 : decode cX12_readCommand 35 = .ok (.iload_n 1, 1) := by decide +kernel
theorem dX12_readCommand_36 : decode cX12_readCommand 36 = .ok (.invokevirtual 127, 3) := by decide +kernel
theorem dX12_readCommand_39 : decode cX12_readCommand 39 = .ok (.ifCond .ge 9, 3) := by decide +kernel
theorem dX12_readCommand_42 : decode cX12_readCommand 42 = .ok (.aload_n 0, 1) := by decide +kernel
theorem dX12_readCommand_43 : decode cX12_readCommand 43 = .ok (.iconst 1, 1) := by decide +kernel
theorem dX12_readCommand_44 : decode cX12_readCommand 44 = .ok (.putfield 230, 3) := by decide +kernel
theorem dX12_readCommand_47 : decode cX12_readCommand 47 = .ok (.return_, 1) := by decide +kernel
theorem dX12_readCommand_48 : decode cX12_readCommand 48 = .ok (.aload_n 0, 1) := by decide +kernel
theorem dX12_readCommand_49 : decode cX12_readCommand 49 = .ok (.dup, 1) := by decide +kernel
theorem dX12_readCommand_50 : decode cX12_readCommand 50 = .ok (.getfield 233, 3) := by decide +kernel
theorem dX12_readCommand_53 : decode cX12_readCommand 53 = .ok (.iconst 1, 1) := by decide +kernel
theorem dX12_readCommand_54 : decode cX12_readCommand 54 = .ok (.iadd, 1) := by decide +kernel
theorem dX12_readCommand_55 : decode cX12_readCommand 55 = .ok (.putfield 233, 3) := by decide +kernel
theorem dX12_readCommand_58 : decode cX12_readCommand 58 = .ok (.iconst 5, 1) := by decide +kernel
theorem dX12_readCommand_59 : decode cX12_readCommand 59 = .ok (.aload_n 0, 1) := by decide +kernel
theorem dX12_readCommand_60 : decode cX12_readCommand 60 = .ok (.getfield 254, 3) := by decide +kernel
theorem dX12_readCommand_63 : decode cX12_readCommand 63 = .ok (.imul, 1) := by decide +kernel
theorem dX12_readCommand_64 : decode cX12_readCommand 64 = .ok (.istore_n 2, 1) := by decide +kernel
theorem dX12_readCommand_65 : decode cX12_readCommand 65 = .ok (.aload_n 0, 1) := by decide +kernel
theorem dX12_readCommand_66 : decode cX12_readCommand 66 = .ok (.dup, 1) := by decide +kernel
theorem dX12_readCommand_67 : decode cX12_readCommand 67 = .ok (.getfield 254, 3) := by decide +kernel
theorem dX12_readCommand_70 : decode cX12_readCommand 70 = .ok (.iconst 1, 1) := by decide +kernel
theorem dX12_readCommand_71 : decode cX12_readCommand 71 = .ok (.iadd, 1) := by decide +kernel
theorem dX12_readCommand_72 : decode cX12_readCommand 72 = .ok (.putfield 254, 3) := by decide +kernel
theorem dX12_readCommand_75 : decode cX12_readCommand 75 = .ok (.aload_n 0, 1) := by decide +kernel
theorem dX12_readCommand_76 : decode cX12_readCommand 76 = .ok (.getfield 40, 3) := by decide +kernel
theorem dX12_readCommand_79 : decode cX12_readCommand 79 = .ok (.iload_n 2, 1) := by decide +kernel
theorem dX12_readCommand_80 : decode cX12_readCommand 80 = .ok (.iload_n 1, 1) := by decide +kernel
theorem dX12_readCommand_81 : decode cX12_readCommand 81 = .ok (.iastore, 1) := by decide +kernel
theorem dX12_readCommand_82 : decode cX12_readCommand 82 = .ok (.iload_n 1, 1) := by decide +kernel
theorem dX12_readCommand_83 : decode cX12_readCommand 83 = .ok (.lookupswitch 158 #[(100, 122), (112, 41), (114, 114), (115, 41)], 41) := by decide +kernel
theorem dX12_readCommand_124 : decode cX12_readCommand 124 = .ok (.aload_n 0, 1) := by decide +kernel
theorem dX12_readCommand_125 : decode cX12_readCommand 125 = .ok (.getfield 40, 3) := by decide +kernel
theorem dX12_readCommand_128 : decode cX12_readCommand 128 = .ok (.iload_n 2, 1) := by decide +kernel
theorem dX12_readCommand_129 : decode cX12_readCommand 129 = .ok (.iconst 1, 1) := by decide +kernel
theorem dX12_readCommand_130 : decode cX12_readCommand 130 = .ok (.iadd, 1) := by decide +kernel
theorem dX12_readCommand_131 : decode cX12_readCommand 131 = .ok (.aload_n 0, 1) := by decide +kernel
theorem dX12_readCommand_132 : decode cX12_readCommand 132 = .ok (.invokevirtual 244, 3) := by decide +kernel
theorem dX12_readCommand_135 : decode cX12_readCommand 135 = .ok (.iastore, 1) := by decide +kernel
theorem dX12_readCommand_136 : decode cX12_readCommand 136 = .ok (.iload_n 1, 1) := by decide +kernel
theorem dX12_readCommand_137 : decode cX12_readCommand 137 = .ok (.bipush 112, 2) := by decide +kernel
theorem dX12_readCommand_139 : decode cX12_readCommand 139 = .ok (.if_icmp .ne 18, 3) := by decide +kernel
theorem dX12_readCommand_142 : decode cX12_readCommand 142 = .ok (.aload_n 0, 1) := by decide +kernel
theorem dX12_readCommand_143 : decode cX12_readCommand 143 = .ok (.bipush 46, 2) := by decide +kernel
theorem dX12_readCommand_145 : decode cX12_readCommand 145 = .ok (.bipush 46, 2) := by decide +kernel
theorem dX12_readCommand_147 : decode cX12_readCommand 147 = .ok (.invokevirtual 236, 3) := by decide +kernel
theorem dX12_readCommand_150 : decode cX12_readCommand 150 = .ok (.ifCond .eq 7, 3) := by decide +kernel
theorem dX12_readCommand_153 : decode cX12_readCommand 153 = .ok (.iconst 1, 1) := by decide +kernel
theorem dX12_readCommand_154 : decode cX12_readCommand 154 = .ok (.goto 4, 3) := by decide +kernel
theorem dX12_readCommand_157 : decode cX12_readCommand 157 = .ok (.iconst 0, 1) := by decide +kernel
theorem dX12_readCommand_158 : decode cX12_readCommand 158 = .ok (.istore 4, 2) := by decide +kernel
theorem dX12_readCommand_160 : decode cX12_readCommand 160 = .ok (.aload_n 0, 1) := by decide +kernel
theorem dX12_readCommand_161 : decode cX12_readCommand 161 = .ok (.getfield 40, 3) := by decide +kernel
theorem dX12_readCommand_164 : decode cX12_readCommand 164 = .ok (.iload_n 2, 1) := by decide +kernel
theorem dX12_readCommand_165 : decode cX12_readCommand 165 = .ok (.iconst 2, 1) := by decide +kernel
theorem dX12_readCommand_166 : decode cX12_readCommand 166 = .ok (.iadd, 1) := by decide +kernel
theorem dX12_readCommand_167 : decode cX12_readCommand 167 = .ok (.iload 4, 2) := by decide +kernel
theorem dX12_readCommand_169 : decode cX12_readCommand 169 = .ok (.ifCond .eq 16, 3) := by decide +kernel
theorem dX12_readCommand_172 : decode cX12_readCommand 172 = .ok (.aload_n 0, 1) := by decide +kernel
theorem dX12_readCommand_173 : decode cX12_readCommand 173 = .ok (.bipush 46, 2) := by decide +kernel
theorem dX12_readCommand_175 : decode cX12_readCommand 175 = .ok (.bipush 46, 2) := by decide +kernel
theorem dX12_readCommand_177 : decode cX12_readCommand 177 = .ok (.invokevirtual 240, 3) := by decide +kernel
theorem dX12_readCommand_180 : decode cX12_readCommand 180 = .ok (.iconst 1, 1) := by decide +kernel
theorem dX12_readCommand_181 : decode cX12_readCommand 181 = .ok (.isub, 1) := by decide +kernel
theorem dX12_readCommand_182 : decode cX12_readCommand 182 = .ok (.goto 11, 3) := by decide +kernel
theorem dX12_readCommand_185 : decode cX12_readCommand 185 = .ok (.aload_n 0, 1) := by decide +kernel
theorem dX12_readCommand_186 : decode cX12_readCommand 186 = .ok (.bipush 97, 2) := by decide +kernel
theorem dX12_readCommand_188 : decode cX12_readCommand 188 = .ok (.bipush 100, 2) := by decide +kernel
theorem dX12_readCommand_190 : decode cX12_readCommand 190 = .ok (.invokevirtual 240, 3) := by decide +kernel
theorem dX12_readCommand_193 : decode cX12_readCommand 193 = .ok (.iastore, 1) := by decide +kernel
theorem dX12_readCommand_194 : decode cX12_readCommand 194 = .ok (.goto 63, 3) := by decide +kernel
theorem dX12_readCommand_197 : decode cX12_readCommand 197 = .ok (.aload_n 0, 1) := by decide +kernel
theorem dX12_readCommand_198 : decode cX12_readCommand 198 = .ok (.iload_n 2, 1) := by decide +kernel
theorem dX12_readCommand_199 : decode cX12_readCommand 199 = .ok (.invokevirtual 257, 3) := by decide +kernel
theorem dX12_readCommand_202 : decode cX12_readCommand 202 = .ok (.goto 55, 3) := by decide +kernel
theorem dX12_readCommand_205 : decode cX12_readCommand 205 = .ok (.aload_n 0, 1) := by decide +kernel
theorem dX12_readCommand_206 : decode cX12_readCommand 206 = .ok (.getfield 40, 3) := by decide +kernel
theorem dX12_readCommand_209 : decode cX12_readCommand 209 = .ok (.iload_n 2, 1) := by decide +kernel
theorem dX12_readCommand_210 : decode cX12_readCommand 210 = .ok (.iconst 1, 1) := by decide +kernel
theorem dX12_readCommand_211 : decode cX12_readCommand 211 = .ok (.iadd, 1) := by decide +kernel
theorem dX12_readCommand_212 : decode cX12_readCommand 212 = .ok (.aload_n 0, 1) := by decide +kernel
theorem dX12_readCommand_213 : decode cX12_readCommand 213 = .ok (.invokevirtual 244, 3) := by decide +kernel
theorem dX12_readCommand_216 : decode cX12_readCommand 216 = .ok (.iastore, 1) := by decide +kernel
theorem dX12_readCommand_217 : decode cX12_readCommand 217 = .ok (.aload_n 0, 1) := by decide +kernel
theorem dX12_readCommand_218 : decode cX12_readCommand 218 = .ok (.bipush 47, 2) := by decide +kernel
theorem dX12_readCommand_220 : decode cX12_readCommand 220 = .ok (.bipush 47, 2) := by decide +kernel
theorem dX12_readCommand_222 : decode cX12_readCommand 222 = .ok (.invokevirtual 240, 3) := by decide +kernel
theorem dX12_readCommand_225 : decode cX12_readCommand 225 = .ok (.istore_n 3, 1) := by decide +kernel
theorem dX12_readCommand_226 : decode cX12_readCommand 226 = .ok (.aload_n 0, 1) := by decide +kernel
theorem dX12_readCommand_227 : decode cX12_readCommand 227 = .ok (.getfield 40, 3) := by decide +kernel
theorem dX12_readCommand_230 : decode cX12_readCommand 230 = .ok (.iload_n 2, 1) := by decide +kernel
theorem dX12_readCommand_231 : decode cX12_readCommand 231 = .ok (.iconst 2, 1) := by decide +kernel
theorem dX12_readCommand_232 : decode cX12_readCommand 232 = .ok (.iadd, 1) := by decide +kernel
theorem dX12_readCommand_233 : decode cX12_readCommand 233 = .ok (.aload_n 0, 1) := by decide +kernel
theorem dX12_readCommand_234 : decode cX12_readCommand 234 = .ok (.invokevirtual 244, 3) := by decide +kernel
theorem dX12_readCommand_237 : decode cX12_readCommand 237 = .ok (.iastore, 1) := by decide +kernel
theorem dX12_readCommand_238 : decode cX12_readCommand 238 = .ok (.goto 19, 3) := by decide +kernel
theorem dX12_readCommand_241 : decode cX12_readCommand 241 = .ok (.aload_n 0, 1) := by decide +kernel
theorem dX12_readCommand_242 : decode cX12_readCommand 242 = .ok (.getfield 40, 3) := by decide +kernel
theorem dX12_readCommand_245 : decode cX12_readCommand 245 = .ok (.iload_n 2, 1) := by decide +kernel
theorem dX12_readCommand_246 : decode cX12_readCommand 246 = .ok (.iconst 1, 1) := by decide +kernel
theorem dX12_readCommand_247 : decode cX12_readCommand 247 = .ok (.iadd, 1) := by decide +kernel
theorem dX12_readCommand_248 : decode cX12_readCommand 248 = .ok (.aload_n 0, 1) := by decide +kernel
theorem dX12_readCommand_249 : decode cX12_readCommand 249 = .ok (.bipush 48, 2) := by decide +kernel
theorem dX12_readCommand_251 : decode cX12_readCommand 251 = .ok (.bipush 57, 2) := by decide +kernel
theorem dX12_readCommand_253 : decode cX12_readCommand 253 = .ok (.invokevirtual 240, 3) := by decide +kernel
theorem dX12_readCommand_256 : decode cX12_readCommand 256 = .ok (.iastore, 1) := by decide +kernel
theorem dX12_readCommand_257 : decode cX12_readCommand 257 = .ok (.return_, 1) := by decide +kernel
theorem dX12_does_0 : decode cX12_does 0 = .ok (.aload_n 0, 1) := by decide +kernel
theorem dX12_does_1 : decode cX12_does 1 = .ok (.getfield 40, 3) := by decide +kernel
theorem dX12_does_4 : decode cX12_does 4 = .ok (.iconst 5, 1) := by decide +kernel
theorem dX12_does_5 : decode cX12_does 5 = .ok (.iload_n 1, 1) := by decide +kernel
theorem dX12_does_6 : decode cX12_does 6 = .ok (.imul, 1) := by decide +kernel
theorem dX12_does_7 : decode cX12_does 7 = .ok (.iconst 1, 1) := by decide +kernel
theorem dX12_does_8 : decode cX12_does 8 = .ok (.iadd, 1) := by decide +kernel
theorem dX12_does_9 : decode cX12_does 9 = .ok (.iaload, 1) := by decide +kernel
theorem dX12_does_10 : decode cX12_does 10 = .ok (.istore_n 2, 1) := by decide +kernel
theorem dX12_does_11 : decode cX12_does 11 = .ok (.aload_n 0, 1) := by decide +kernel
theorem dX12_does_12 : decode cX12_does 12 = .ok (.getfield 40, 3) := by decide +kernel
theorem dX12_does_15 : decode cX12_does 15 = .ok (.iconst 5, 1) := by decide +kernel
theorem dX12_does_16 : decode cX12_does 16 = .ok (.iload_n 1, 1) := by decide +kernel
theorem dX12_does_17 : decode cX12_does 17 = .ok (.imul, 1) := by decide +kernel
theorem dX12_does_18 : decode cX12_does 18 = .ok (.iconst 2, 1) := by decide +kernel
theorem dX12_does_19 : decode cX12_does 19 = .ok (.iadd, 1) := by decide +kernel
theorem dX12_does_20 : decode cX12_does 20 = .ok (.iaload, 1) := by decide +kernel
theorem dX12_does_21 : decode cX12_does 21 = .ok (.istore_n 3, 1) := by decide +kernel
theorem dX12_does_22 : decode cX12_does 22 = .ok (.aload_n 0, 1) := by decide +kernel
theorem dX12_does_23 : decode cX12_does 23 = .ok (.getfield 40, 3) := by decide +kernel
theorem dX12_does_26 : decode cX12_does 26 = .ok (.iconst 5, 1) := by decide +kernel
theorem dX12_does_27 : decode cX12_does 27 = .ok (.iload_n 1, 1) := by decide +kernel
theorem dX12_does_28 : decode cX12_does 28 = .ok (.imul, 1) := by decide +kernel
theorem dX12_does_29 : decode cX12_does 29 = .ok (.iaload, 1) := by decide +kernel
theorem dX12_does_30 : decode cX12_does 30 = .ok (.tableswitch 178 100 115 #[167, 178, 178, 178, 178, 178, 178, 157, 178, 100, 178, 178, 78, 178, 110, 89], 78) := by decide +kernel
theorem dX12_does_108 : decode cX12_does 108 = .ok (.aload_n 0, 1) := by decide +kernel
theorem dX12_does_109 : decode cX12_does 109 = .ok (.iload_n 2, 1) := by decide +kernel
theorem dX12_does_110 : decode cX12_does 110 = .ok (.iload_n 3, 1) := by decide +kernel
theorem dX12_does_111 : decode cX12_does 111 = .ok (.invokevirtual 96, 3) := by decide +kernel
theorem dX12_does_114 : decode cX12_does 114 = .ok (.istore 4, 2) := by decide +kernel
theorem dX12_does_116 : decode cX12_does 116 = .ok (.goto 99, 3) := by decide +kernel
theorem dX12_does_119 : decode cX12_does 119 = .ok (.aload_n 0, 1) := by decide +kernel
theorem dX12_does_120 : decode cX12_does 120 = .ok (.iload_n 2, 1) := by decide +kernel
theorem dX12_does_121 : decode cX12_does 121 = .ok (.iload_n 3, 1) := by decide +kernel
theorem dX12_does_122 : decode cX12_does 122 = .ok (.invokevirtual 119, 3) := by decide +kernel
theorem dX12_does_125 : decode cX12_does 125 = .ok (.istore 4, 2) := by decide +kernel
theorem dX12_does_127 : decode cX12_does 127 = .ok (.goto 88, 3) := by decide +kernel
theorem dX12_does_130 : decode cX12_does 130 = .ok (.aload_n 0, 1) := by decide +kernel
theorem dX12_does_131 : decode cX12_does 131 = .ok (.iload_n 2, 1) := by decide +kernel
theorem dX12_does_132 : decode cX12_does 132 = .ok (.invokevirtual 122, 3) := by decide +kernel
theorem dX12_does_135 : decode cX12_does 135 = .ok (.istore 4, 2) := by decide +kernel
theorem dX12_does_137 : decode cX12_does 137 = .ok (.goto 78, 3) := by decide +kernel
theorem dX12_does_140 : decode cX12_does 140 = .ok (.iload_n 2, 1) := by decide +kernel
theorem dX12_does_141 : decode cX12_does 141 = .ok (.invokestatic 78, 3) := by decide +kernel
theorem dX12_does_144 : decode cX12_does 144 = .ok (.ifCond .eq 33, 3) := by decide +kernel
theorem dX12_does_147 : decode cX12_does 147 = .ok (.aload_n 0, 1) := by decide +kernel
theorem dX12_does_148 : decode cX12_does 148 = .ok (.iload_n 2, 1) := by decide +kernel
theorem dX12_does_149 : decode cX12_does 149 = .ok (.aload_n 0, 1) := by decide +kernel
theorem dX12_does_150 : decode cX12_does 150 = .ok (.getfield 40, 3) := by decide +kernel
theorem dX12_does_153 : decode cX12_does 153 = .ok (.iconst 5, 1) := by decide +kernel
theorem dX12_does_154 : decode cX12_does 154 = .ok (.iload_n 1, 1) := by decide +kernel
theorem dX12_does_155 : decode cX12_does 155 = .ok (.imul, 1) := by decide +kernel
theorem dX12_does_156 : decode cX12_does 156 = .ok (.iconst 4, 1) := by decide +kernel
theorem dX12_does_157 : decode cX12_does 157 = .ok (.iadd, 1) := by decide +kernel
theorem dX12_does_158 : decode cX12_does 158 = .ok (.iaload, 1) := by decide +kernel
theorem dX12_does_159 : decode cX12_does 159 = .ok (.iload_n 3, 1) := by decide +kernel
theorem dX12_does_160 : decode cX12_does 160 = .ok (.aload_n 0, 1) := by decide +kernel
theorem dX12_does_161 : decode cX12_does 161 = .ok (.getfield 40, 3) := by decide +kernel
theorem dX12_does_164 : decode cX12_does 164 = .ok (.iconst 5, 1) := by decide +kernel
theorem dX12_does_165 : decode cX12_does 165 = .ok (.iload_n 1, 1) := by decide +kernel
theorem dX12_does_166 : decode cX12_does 166 = .ok (.imul, 1) := by decide +kernel
theorem dX12_does_167 : decode cX12_does 167 = .ok (.iconst 3, 1) := by decide +kernel
theorem dX12_does_168 : decode cX12_does 168 = .ok (.iadd, 1) := by decide +kernel
theorem dX12_does_169 : decode cX12_does 169 = .ok (.iaload, 1) := by decide +kernel
theorem dX12_does_170 : decode cX12_does 170 = .ok (.iconst 4, 1) := by decide +kernel
theorem dX12_does_171 : decode cX12_does 171 = .ok (.invokevirtual 132, 3) := by decide +kernel
theorem dX12_does_174 : decode cX12_does 174 = .ok (.goto 8, 3) := by decide +kernel
theorem dX12_does_177 : decode cX12_does 177 = .ok (.aload_n 0, 1) := by decide +kernel
theorem dX12_does_178 : decode cX12_does 178 = .ok (.iconst 1, 1) := by decide +kernel
theorem dX12_does_179 : decode cX12_does 179 = .ok (.invokevirtual 82, 3) := by decide +kernel
theorem dX12_does_182 : decode cX12_does 182 = .ok (.istore 4, 2) := by decide +kernel
theorem dX12_does_184 : decode cX12_does 184 = .ok (.goto 31, 3) := by decide +kernel
theorem dX12_does_187 : decode cX12_does 187 = .ok (.aload_n 0, 1) := by decide +kernel
theorem dX12_does_188 : decode cX12_does 188 = .ok (.iload_n 2, 1) := by decide +kernel
theorem dX12_does_189 : decode cX12_does 189 = .ok (.invokevirtual 144, 3) := by decide +kernel
theorem dX12_does_192 : decode cX12_does 192 = .ok (.istore 4, 2) := by decide +kernel
theorem dX12_does_194 : decode cX12_does 194 = .ok (.goto 21, 3) := by decide +kernel
theorem dX12_does_197 : decode cX12_does 197 = .ok (.aload_n 0, 1) := by decide +kernel
theorem dX12_does_198 : decode cX12_does 198 = .ok (.iload_n 2, 1) := by decide +kernel
theorem dX12_does_199 : decode cX12_does 199 = .ok (.iload_n 3, 1) := by decide +kernel
theorem dX12_does_200 : decode cX12_does 200 = .ok (.invokevirtual 147, 3) := by decide +kernel
theorem dX12_does_203 : decode cX12_does 203 = .ok (.istore 4, 2) := by decide +kernel
theorem dX12_does_205 : decode cX12_does 205 = .ok (.goto 10, 3) := by decide +kernel
theorem dX12_does_208 : decode cX12_does 208 = .ok (.aload_n 0, 1) := by decide +kernel
theorem dX12_does_209 : decode cX12_does 209 = .ok (.iload_n 2, 1) := by decide +kernel
theorem dX12_does_210 : decode cX12_does 210 = .ok (.invokevirtual 153, 3) := by decide +kernel
theorem dX12_does_213 : decode cX12_does 213 = .ok (.istore 4, 2) := by decide +kernel
theorem dX12_does_215 : decode cX12_does 215 = .ok (.return_, 1) := by decide +kernel
theorem dX12_read_0 : decode cX12_read 0 = .ok (.aload_n 0, 1) := by decide +kernel
theorem dX12_read_1 : decode cX12_read 1 = .ok (.iconst 0, 1) := by decide +kernel
theorem dX12_read_2 : decode cX12_read 2 = .ok (.putfield 233, 3) := by decide +kernel
theorem dX12_read_5 : decode cX12_read 5 = .ok (.aload_n 0, 1) := by decide +kernel
theorem dX12_read_6 : decode cX12_read 6 = .ok (.iconst 0, 1) := by decide +kernel
theorem dX12_read_7 : decode cX12_read 7 = .ok (.putfield 230, 3) := by decide +kernel
theorem dX12_read_10 : decode cX12_read 10 = .ok (.aload_n 0, 1) := by decide +kernel
theorem dX12_read_11 : decode cX12_read 11 = .ok (.iconst 0, 1) := by decide +kernel
theorem dX12_read_12 : decode cX12_read 12 = .ok (.putfield 254, 3) := by decide +kernel
theorem dX12_read_15 : decode cX12_read 15 = .ok (.aload_n 0, 1) := by decide +kernel
theorem dX12_read_16 : decode cX12_read 16 = .ok (.invokevirtual 260, 3) := by decide +kernel
theorem dX12_read_19 : decode cX12_read 19 = .ok (.aload_n 0, 1) := by decide +kernel
theorem dX12_read_20 : decode cX12_read 20 = .ok (.bipush 59, 2) := by decide +kernel
theorem dX12_read_22 : decode cX12_read 22 = .ok (.bipush 59, 2) := by decide +kernel
theorem dX12_read_24 : decode cX12_read 24 = .ok (.invokevirtual 236, 3) := by decide +kernel
theorem dX12_read_27 : decode cX12_read 27 = .ok (.ifCond .eq 20, 3) := by decide +kernel
theorem dX12_read_30 : decode cX12_read 30 = .ok (.aload_n 0, 1) := by decide +kernel
theorem dX12_read_31 : decode cX12_read 31 = .ok (.dup, 1) := by decide +kernel
theorem dX12_read_32 : decode cX12_read 32 = .ok (.getfield 233, 3) := by decide +kernel
theorem dX12_read_35 : decode cX12_read 35 = .ok (.iconst 1, 1) := by decide +kernel
theorem dX12_read_36 : decode cX12_read 36 = .ok (.iadd, 1) := by decide +kernel
theorem dX12_read_37 : decode cX12_read 37 = .ok (.putfield 233, 3) := by decide +kernel
theorem dX12_read_40 : decode cX12_read 40 = .ok (.aload_n 0, 1) := by decide +kernel
theorem dX12_read_41 : decode cX12_read 41 = .ok (.invokevirtual 260, 3) := by decide +kernel
theorem dX12_read_44 : decode cX12_read 44 = .ok (.goto (-25), 3) := by decide +kernel
theorem dX12_read_47 : decode cX12_read 47 = .ok (.aload_n 0, 1) := by decide +kernel
theorem dX12_read_48 : decode cX12_read 48 = .ok (.aload_n 0, 1) := by decide +kernel
theorem dX12_read_49 : decode cX12_read 49 = .ok (.getfield 230, 3) := by decide +kernel
theorem dX12_read_52 : decode cX12_read 52 = .ok (.ifCond .ne 14, 3) := by decide +kernel
theorem dX12_read_55 : decode cX12_read 55 = .ok (.aload_n 0, 1) := by decide +kernel
theorem dX12_read_56 : decode cX12_read 56 = .ok (.getfield 233, 3) := by decide +kernel
theorem dX12_read_59 : decode cX12_read 59 = .ok (.aload_n 0, 1) := by decide +kernel
theorem dX12_read_60 : decode cX12_read 60 = .ok (.getfield 135, 3) := by decide +kernel
theorem dX12_read_63 : decode cX12_read 63 = .ok (.if_icmp .ge 7, 3) := by decide +kernel
theorem dX12_read_66 : decode cX12_read 66 = .ok (.iconst 1, 1) := by decide +kernel
theorem dX12_read_67 : decode cX12_read 67 = .ok (.goto 4, 3) := by decide +kernel
theorem dX12_read_70 : decode cX12_read 70 = .ok (.iconst 0, 1) := by decide +kernel
theorem dX12_read_71 : decode cX12_read 71 = .ok (.putfield 230, 3) := by decide +kernel
theorem dX12_read_74 : decode cX12_read 74 = .ok (.aload_n 0, 1) := by decide +kernel
theorem dX12_read_75 : decode cX12_read 75 = .ok (.aload_n 0, 1) := by decide +kernel
theorem dX12_read_76 : decode cX12_read 76 = .ok (.getfield 230, 3) := by decide +kernel
theorem dX12_read_79 : decode cX12_read 79 = .ok (.ifCond .eq 10, 3) := by decide +kernel
theorem dX12_read_82 : decode cX12_read 82 = .ok (.aload_n 0, 1) := by decide +kernel
theorem dX12_read_83 : decode cX12_read 83 = .ok (.getfield 233, 3) := by decide +kernel
theorem dX12_read_86 : decode cX12_read 86 = .ok (.goto 7, 3) := by decide +kernel
theorem dX12_read_89 : decode cX12_read 89 = .ok (.aload_n 0, 1) := by decide +kernel
theorem dX12_read_90 : decode cX12_read 90 = .ok (.getfield 36, 3) := by decide +kernel
theorem dX12_read_93 : decode cX12_read 93 = .ok (.putfield 36, 3) := by decide +kernel
theorem dX12_read_96 : decode cX12_read 96 = .ok (.aload_n 0, 1) := by decide +kernel
theorem dX12_read_97 : decode cX12_read 97 = .ok (.iconst 0, 1) := by decide +kernel
theorem dX12_read_98 : decode cX12_read 98 = .ok (.putfield 135, 3) := by decide +kernel
theorem dX12_read_101 : decode cX12_read 101 = .ok (.aload_n 0, 1) := by decide +kernel
theorem dX12_read_102 : decode cX12_read 102 = .ok (.getfield 230, 3) := by decide +kernel
theorem dX12_read_105 : decode cX12_read 105 = .ok (.ifCond .eq 9, 3) := by decide +kernel
theorem dX12_read_108 : decode cX12_read 108 = .ok (.aload_n 0, 1) := by decide +kernel
theorem dX12_read_109 : decode cX12_read 109 = .ok (.iconst 1, 1) := by decide +kernel
theorem dX12_read_110 : decode cX12_read 110 = .ok (.invokevirtual 82, 3) := by decide +kernel
theorem dX12_read_113 : decode cX12_read 113 = .ok (.ireturn, 1) := by decide +kernel
theorem dX12_read_114 : decode cX12_read 114 = .ok (.aload_n 0, 1) := by decide +kernel
theorem dX12_read_115 : decode cX12_read 115 = .ok (.invokevirtual 93, 3) := by decide +kernel
theorem dX12_read_118 : decode cX12_read 118 = .ok (.iconst 0, 1) := by decide +kernel
theorem dX12_read_119 : decode cX12_read 119 = .ok (.istore_n 1, 1) := by decide +kernel
theorem dX12_read_120 : decode cX12_read 120 = .ok (.iload_n 1, 1) := by decide +kernel
theorem dX12_read_121 : decode cX12_read 121 = .ok (.aload_n 0, 1) := by decide +kernel
theorem dX12_read_122 : decode cX12_read 122 = .ok (.getfield 254, 3) := by decide +kernel
theorem dX12_read_125 : decode cX12_read 125 = .ok (.if_icmp .ge 83, 3) := by decide +kernel
theorem dX12_read_128 : decode cX12_read 128 = .ok (.aload_n 0, 1) := by decide +kernel
theorem dX12_read_129 : decode cX12_read 129 = .ok (.iconst 0, 1) := by decide +kernel
theorem dX12_read_130 : decode cX12_read 130 = .ok (.putfield 59, 3) := by decide +kernel
theorem dX12_read_133 : decode cX12_read 133 = .ok (.aload_n 0, 1) := by decide +kernel
theorem dX12_read_134 : decode cX12_read 134 = .ok (.iload_n 1, 1) := by decide +kernel
theorem dX12_read_135 : decode cX12_read 135 = .ok (.invokevirtual 263, 3) := by decide +kernel
theorem dX12_read_138 : decode cX12_read 138 = .ok (.aload_n 0, 1) := by decide +kernel
theorem dX12_read_139 : decode cX12_read 139 = .ok (.getfield 43, 3) := by decide +kernel
theorem dX12_read_142 : decode cX12_read 142 = .ok (.ifCond .le 60, 3) := by decide +kernel
theorem dX12_read_145 : decode cX12_read 145 = .ok (.aload_n 0, 1) := by decide +kernel
theorem dX12_read_146 : decode cX12_read 146 = .ok (.getfield 59, 3) := by decide +kernel
theorem dX12_read_149 : decode cX12_read 149 = .ok (.ifCond .eq 32, 3) := by decide +kernel
theorem dX12_read_152 : decode cX12_read 152 = .ok (.aload_n 0, 1) := by decide +kernel
theorem dX12_read_153 : decode cX12_read 153 = .ok (.getfield 22, 3) := by decide +kernel
theorem dX12_read_156 : decode cX12_read 156 = .ok (.iconst 0, 1) := by decide +kernel
theorem dX12_read_157 : decode cX12_read 157 = .ok (.aload_n 0, 1) := by decide +kernel
theorem dX12_read_158 : decode cX12_read 158 = .ok (.getfield 22, 3) := by decide +kernel
theorem dX12_read_161 : decode cX12_read 161 = .ok (.iconst 2, 1) := by decide +kernel
theorem dX12_read_162 : decode cX12_read 162 = .ok (.iconst 4, 1) := by decide +kernel
theorem dX12_read_163 : decode cX12_read 163 = .ok (.invokestatic 46, 3) := by decide +kernel
theorem dX12_read_166 : decode cX12_read 166 = .ok (.aload_n 0, 1) := by decide +kernel
theorem dX12_read_167 : decode cX12_read 167 = .ok (.getfield 22, 3) := by decide +kernel
theorem dX12_read_170 : decode cX12_read 170 = .ok (.iconst 0, 1) := by decide +kernel
theorem dX12_read_171 : decode cX12_read 171 = .ok (.bipush 10, 2) := by decide +kernel
theorem dX12_read_173 : decode cX12_read 173 = .ok (.iastore, 1) := by decide +kernel
theorem dX12_read_174 : decode cX12_read 174 = .ok (.aload_n 0, 1) := by decide +kernel
theorem dX12_read_175 : decode cX12_read 175 = .ok (.getfield 22, 3) := by decide +kernel
theorem dX12_read_178 : decode cX12_read 178 = .ok (.iconst 1, 1) := by decide +kernel
theorem dX12_read_179 : decode cX12_read 179 = .ok (.iload_n 1, 1) := by decide +kernel
theorem dX12_read_180 : decode cX12_read 180 = .ok (.iastore, 1) := by decide +kernel
theorem dX12_read_181 : decode cX12_read 181 = .ok (.aload_n 0, 1) := by decide +kernel
theorem dX12_read_182 : decode cX12_read 182 = .ok (.aload_n 0, 1) := by decide +kernel
theorem dX12_read_183 : decode cX12_read 183 = .ok (.aload_n 0, 1) := by decide +kernel
theorem dX12_read_184 : decode cX12_read 184 = .ok (.getfield 59, 3) := by decide +kernel
theorem dX12_read_187 : decode cX12_read 187 = .ok (.ifCond .eq 7, 3) := by decide +kernel
theorem dX12_read_190 : decode cX12_read 190 = .ok (.iconst 3, 1) := by decide +kernel
theorem dX12_read_191 : decode cX12_read 191 = .ok (.goto 4, 3) := by decide +kernel
theorem dX12_read_194 : decode cX12_read 194 = .ok (.iconst 2, 1) := by decide +kernel
theorem dX12_read_195 : decode cX12_read 195 = .ok (.invokevirtual 82, 3) := by decide +kernel
theorem dX12_read_198 : decode cX12_read 198 = .ok (.invokevirtual 100, 3) := by decide +kernel
theorem dX12_read_201 : decode cX12_read 201 = .ok (.ireturn, 1) := by decide +kernel
theorem dX12_read_202 : decode cX12_read 202 = .ok (.iinc 1 1, 3) := by decide +kernel
theorem dX12_read_205 : decode cX12_read 205 = .ok (.goto (-85), 3) := by decide +kernel
theorem dX12_read_208 : decode cX12_read 208 = .ok (.aload_n 0, 1) := by decide +kernel
theorem dX12_read_209 : decode cX12_read 209 = .ok (.aload_n 0, 1) := by decide +kernel
theorem dX12_read_210 : decode cX12_read 210 = .ok (.getfield 254, 3) := by decide +kernel
theorem dX12_read_213 : decode cX12_read 213 = .ok (.invokevirtual 100, 3) := by decide +kernel
theorem dX12_read_216 : decode cX12_read 216 = .ok (.ireturn, 1) := by decide +kernel
theorem dX12_errorPosition_0 : decode cX12_errorPosition 0 = .ok (.aload_n 0, 1) := by decide +kernel
theorem dX12_errorPosition_1 : decode cX12_errorPosition 1 = .ok (.aload_n 0, 1) := by decide +kernel
theorem dX12_errorPosition_2 : decode cX12_errorPosition 2 = .ok (.getfield 36, 3) := by decide +kernel
theorem dX12_errorPosition_5 : decode cX12_errorPosition 5 = .ok (.ifCond .ge 7, 3) := by decide +kernel
theorem dX12_errorPosition_8 : decode cX12_errorPosition 8 = .ok (.iconst 1, 1) := by decide +kernel
theorem dX12_errorPosition_9 : decode cX12_errorPosition 9 = .ok (.goto 4, 3) := by decide +kernel
theorem dX12_errorPosition_12 : decode cX12_errorPosition 12 = .ok (.iconst 0, 1) := by decide +kernel
theorem dX12_errorPosition_13 : decode cX12_errorPosition 13 = .ok (.putfield 43, 3) := by decide +kernel
theorem dX12_errorPosition_16 : decode cX12_errorPosition 16 = .ok (.aload_n 0, 1) := by decide +kernel
theorem dX12_errorPosition_17 : decode cX12_errorPosition 17 = .ok (.getfield 43, 3) := by decide +kernel
theorem dX12_errorPosition_20 : decode cX12_errorPosition 20 = .ok (.ifCond .le 7, 3) := by decide +kernel
theorem dX12_errorPosition_23 : decode cX12_errorPosition 23 = .ok (.iconst 0, 1) := by decide +kernel
theorem dX12_errorPosition_24 : decode cX12_errorPosition 24 = .ok (.goto 7, 3) := by decide +kernel
theorem dX12_errorPosition_27 : decode cX12_errorPosition 27 = .ok (.aload_n 0, 1) := by decide +kernel
theorem dX12_errorPosition_28 : decode cX12_errorPosition 28 = .ok (.getfield 36, 3) := by decide +kernel
theorem dX12_errorPosition_31 : decode cX12_errorPosition 31 = .ok (.ireturn, 1) := by decide +kernel
theorem dX12_undo_0 : decode cX12_undo 0 = .ok (.aload_n 0, 1) := by decide +kernel
theorem dX12_undo_1 : decode cX12_undo 1 = .ok (.aload_n 0, 1) := by decide +kernel
theorem dX12_undo_2 : decode cX12_undo 2 = .ok (.getfield 52, 3) := by decide +kernel
theorem dX12_undo_5 : decode cX12_undo 5 = .ok (.ifCond .ne 7, 3) := by decide +kernel
theorem dX12_undo_8 : decode cX12_undo 8 = .ok (.iconst 1, 1) := by decide +kernel
theorem dX12_undo_9 : decode cX12_undo 9 = .ok (.goto 4, 3) := by decide +kernel
theorem dX12_undo_12 : decode cX12_undo 12 = .ok (.iconst 0, 1) := by decide +kernel
theorem dX12_undo_13 : decode cX12_undo 13 = .ok (.putfield 43, 3) := by decide +kernel
theorem dX12_undo_16 : decode cX12_undo 16 = .ok (.aload_n 0, 1) := by decide +kernel
theorem dX12_undo_17 : decode cX12_undo 17 = .ok (.getfield 43, 3) := by decide +kernel
theorem dX12_undo_20 : decode cX12_undo 20 = .ok (.ifCond .le 5, 3) := by decide +kernel
theorem dX12_undo_23 : decode cX12_undo 23 = .ok (.iconst 0, 1) := by decide +kernel
theorem dX12_undo_24 : decode cX12_undo 24 = .ok (.ireturn, 1) := by decide +kernel
theorem dX12_undo_25 : decode cX12_undo 25 = .ok (.aload_n 0, 1) := by decide +kernel
theorem dX12_undo_26 : decode cX12_undo 26 = .ok (.dup, 1) := by decide +kernel
theorem dX12_undo_27 : decode cX12_undo 27 = .ok (.getfield 52, 3) := by decide +kernel
theorem dX12_undo_30 : decode cX12_undo 30 = .ok (.iconst 1, 1) := by decide +kernel
theorem dX12_undo_31 : decode cX12_undo 31 = .ok (.isub, 1) := by decide +kernel
theorem dX12_undo_32 : decode cX12_undo 32 = .ok (.putfield 52, 3) := by decide +kernel
theorem dX12_undo_35 : decode cX12_undo 35 = .ok (.aload_n 0, 1) := by decide +kernel
theorem dX12_undo_36 : decode cX12_undo 36 = .ok (.getfield 19, 3) := by decide +kernel
theorem dX12_undo_39 : decode cX12_undo 39 = .ok (.sipush 158, 3) := by decide +kernel
theorem dX12_undo_42 : decode cX12_undo 42 = .ok (.aload_n 0, 1) := by decide +kernel
theorem dX12_undo_43 : decode cX12_undo 43 = .ok (.getfield 52, 3) := by decide +kernel
theorem dX12_undo_46 : decode cX12_undo 46 = .ok (.imul, 1) := by decide +kernel
theorem dX12_undo_47 : decode cX12_undo 47 = .ok (.aload_n 0, 1) := by decide +kernel
theorem dX12_undo_48 : decode cX12_undo 48 = .ok (.getfield 9, 3) := by decide +kernel
theorem dX12_undo_51 : decode cX12_undo 51 = .ok (.iconst 0, 1) := by decide +kernel
theorem dX12_undo_52 : decode cX12_undo 52 = .ok (.sipush 158, 3) := by decide +kernel
theorem dX12_undo_55 : decode cX12_undo 55 = .ok (.invokestatic 46, 3) := by decide +kernel
theorem dX12_undo_58 : decode cX12_undo 58 = .ok (.aload_n 0, 1) := by decide +kernel
theorem dX12_undo_59 : decode cX12_undo 59 = .ok (.getfield 52, 3) := by decide +kernel
theorem dX12_undo_62 : decode cX12_undo 62 = .ok (.ireturn, 1) := by decide +kernel
theorem dX12_save_0 : decode cX12_save 0 = .ok (.aload_n 0, 1) := by decide +kernel
theorem dX12_save_1 : decode cX12_save 1 = .ok (.iconst 0, 1) := by decide +kernel
theorem dX12_save_2 : decode cX12_save 2 = .ok (.putfield 43, 3) := by decide +kernel
theorem dX12_save_5 : decode cX12_save 5 = .ok (.aload_n 0, 1) := by decide +kernel
theorem dX12_save_6 : decode cX12_save 6 = .ok (.getfield 9, 3) := by decide +kernel
theorem dX12_save_9 : decode cX12_save 9 = .ok (.iconst 0, 1) := by decide +kernel
theorem dX12_save_10 : decode cX12_save 10 = .ok (.aload_n 0, 1) := by decide +kernel
theorem dX12_save_11 : decode cX12_save 11 = .ok (.getfield 16, 3) := by decide +kernel
theorem dX12_save_14 : decode cX12_save 14 = .ok (.iconst 0, 1) := by decide +kernel
theorem dX12_save_15 : decode cX12_save 15 = .ok (.sipush 158, 3) := by decide +kernel
theorem dX12_save_18 : decode cX12_save 18 = .ok (.invokestatic 46, 3) := by decide +kernel
theorem dX12_save_21 : decode cX12_save 21 = .ok (.aload_n 0, 1) := by decide +kernel
theorem dX12_save_22 : decode cX12_save 22 = .ok (.iconst 1, 1) := by decide +kernel
theorem dX12_save_23 : decode cX12_save 23 = .ok (.putfield 266, 3) := by decide +kernel
theorem dX12_save_26 : decode cX12_save 26 = .ok (.aload_n 0, 1) := by decide +kernel
theorem dX12_save_27 : decode cX12_save 27 = .ok (.getfield 9, 3) := by decide +kernel
theorem dX12_save_30 : decode cX12_save 30 = .ok (.iconst 0, 1) := by decide +kernel
theorem dX12_save_31 : decode cX12_save 31 = .ok (.iaload, 1) := by decide +kernel
theorem dX12_save_32 : decode cX12_save 32 = .ok (.ireturn, 1) := by decide +kernel
theorem dX12_restore_0 : decode cX12_restore 0 = .ok (.aload_n 0, 1) := by decide +kernel
theorem dX12_restore_1 : decode cX12_restore 1 = .ok (.aload_n 0, 1) := by decide +kernel
theorem dX12_restore_2 : decode cX12_restore 2 = .ok (.getfield 266, 3) := by decide +kernel
theorem dX12_restore_5 : decode cX12_restore 5 = .ok (.ifCond .eq 7, 3) := by decide +kernel
theorem dX12_restore_8 : decode cX12_restore 8 = .ok (.iconst 0, 1) := by decide +kernel
theorem dX12_restore_9 : decode cX12_restore 9 = .ok (.goto 4, 3) := by decide +kernel
theorem dX12_restore_12 : decode cX12_restore 12 = .ok (.iconst 1, 1) := by decide +kernel
theorem dX12_restore_13 : decode cX12_restore 13 = .ok (.putfield 43, 3) := by decide +kernel
theorem dX12_restore_16 : decode cX12_restore 16 = .ok (.aload_n 0, 1) := by decide +kernel
theorem dX12_restore_17 : decode cX12_restore 17 = .ok (.getfield 43, 3) := by decide +kernel
theorem dX12_restore_20 : decode cX12_restore 20 = .ok (.ifCond .le 5, 3) := by decide +kernel
theorem dX12_restore_23 : decode cX12_restore 23 = .ok (.iconst 0, 1) := by decide +kernel
theorem dX12_restore_24 : decode cX12_restore 24 = .ok (.ireturn, 1) := by decide +kernel
theorem dX12_restore_25 : decode cX12_restore 25 = .ok (.aload_n 0, 1) := by decide +kernel
theorem dX12_restore_26 : decode cX12_restore 26 = .ok (.getfield 16, 3) := by decide +kernel
theorem dX12_restore_29 : decode cX12_restore 29 = .ok (.iconst 0, 1) := by decide +kernel
theorem dX12_restore_30 : decode cX12_restore 30 = .ok (.aload_n 0, 1) := by decide +kernel
theorem dX12_restore_31 : decode cX12_restore 31 = .ok (.getfield 9, 3) := by decide +kernel
theorem dX12_restore_34 : decode cX12_restore 34 = .ok (.iconst 0, 1) := by decide +kernel
theorem dX12_restore_35 : decode cX12_restore 35 = .ok (.sipush 158, 3) := by decide +kernel
theorem dX12_restore_38 : decode cX12_restore 38 = .ok (.invokestatic 46, 3) := by decide +kernel
theorem dX12_restore_41 : decode cX12_restore 41 = .ok (.aload_n 0, 1) := by decide +kernel
theorem dX12_restore_42 : decode cX12_restore 42 = .ok (.iconst 0, 1) := by decide +kernel
theorem dX12_restore_43 : decode cX12_restore 43 = .ok (.putfield 52, 3) := by decide +kernel
theorem dX12_restore_46 : decode cX12_restore 46 = .ok (.aload_n 0, 1) := by decide +kernel
theorem dX12_restore_47 : decode cX12_restore 47 = .ok (.getfield 9, 3) := by decide +kernel
theorem dX12_restore_50 : decode cX12_restore 50 = .ok (.iconst 0, 1) := by decide +kernel
theorem dX12_restore_51 : decode cX12_restore 51 = .ok (.iaload, 1) := by decide +kernel
theorem dX12_restore_52 : decode cX12_restore 52 = .ok (.ireturn, 1) := by decide +kernel
