theorem dX0_between_0 : decode cX0_between 0 = .ok (.iload_n 1, 1) := by decide +kernel
theorem dX0_between_1 : decode cX0_between 1 = .ok (.iload_n 2, 1) := by decide +kernel
theorem dX0_between_2 : decode cX0_between 2 = .ok (.if_icmp .ne 5, 3) := by decide +kernel
theorem dX0_between_5 : decode cX0_between 5 = .ok (.iconst 0, 1) := by decide +kernel
theorem dX0_between_6 : decode cX0_between 6 = .ok (.ireturn, 1) := by decide +kernel
theorem dX0_between_7 : decode cX0_between 7 = .ok (.aload_n 0, 1) := by decide +kernel
theorem dX0_between_8 : decode cX0_between 8 = .ok (.iload_n 1, 1) := by decide +kernel
theorem dX0_between_9 : decode cX0_between 9 = .ok (.iload_n 2, 1) := by decide +kernel
theorem dX0_between_10 : decode cX0_between 10 = .ok (.invokestatic 9, 3) := by decide +kernel
theorem dX0_between_13 : decode cX0_between 13 = .ok (.aload_n 0, 1) := by decide +kernel
theorem dX0_between_14 : decode cX0_between 14 = .ok (.iload_n 2, 1) := by decide +kernel
theorem dX0_between_15 : decode cX0_between 15 = .ok (.iload_n 1, 1) := by decide +kernel
theorem dX0_between_16 : decode cX0_between 16 = .ok (.invokestatic 9, 3) := by decide +kernel
theorem dX0_between_19 : decode cX0_between 19 = .ok (.iadd, 1) := by decide +kernel
theorem dX0_between_20 : decode cX0_between 20 = .ok (.ireturn, 1) := by decide +kernel
theorem dX0_pairs_0 : decode cX0_pairs 0 = .ok (.iconst 0, 1) := by decide +kernel
theorem dX0_pairs_1 : decode cX0_pairs 1 = .ok (.istore_n 3, 1) := by decide +kernel
theorem dX0_pairs_2 : decode cX0_pairs 2 = .ok (.iconst 0, 1) := by decide +kernel
theorem dX0_pairs_3 : decode cX0_pairs 3 = .ok (.istore 4, 2) := by decide +kernel
theorem dX0_pairs_5 : decode cX0_pairs 5 = .ok (.iload 4, 2) := by decide +kernel
theorem dX0_pairs_7 : decode cX0_pairs 7 = .ok (.bipush 64, 2) := by decide +kernel
theorem dX0_pairs_9 : decode cX0_pairs 9 = .ok (.if_icmp .ge 56, 3) := by decide +kernel
theorem dX0_pairs_12 : decode cX0_pairs 12 = .ok (.aload_n 0, 1) := by decide +kernel
theorem dX0_pairs_13 : decode cX0_pairs 13 = .ok (.iload 4, 2) := by decide +kernel
theorem dX0_pairs_15 : decode cX0_pairs 15 = .ok (.invokevirtual 15, 3) := by decide +kernel
theorem dX0_pairs_18 : decode cX0_pairs 18 = .ok (.iload_n 1, 1) := by decide +kernel
theorem dX0_pairs_19 : decode cX0_pairs 19 = .ok (.if_icmp .eq 6, 3) := by decide +kernel
theorem dX0_pairs_22 : decode cX0_pairs 22 = .ok (.goto 37, 3) := by decide +kernel
theorem dX0_pairs_25 : decode cX0_pairs 25 = .ok (.aload_n 0, 1) := by decide +kernel
theorem dX0_pairs_26 : decode cX0_pairs 26 = .ok (.iload 4, 2) := by decide +kernel
theorem dX0_pairs_28 : decode cX0_pairs 28 = .ok (.iconst 1, 1) := by decide +kernel
theorem dX0_pairs_29 : decode cX0_pairs 29 = .ok (.invokestatic 21, 3) := by decide +kernel
theorem dX0_pairs_32 : decode cX0_pairs 32 = .ok (.invokevirtual 15, 3) := by decide +kernel
theorem dX0_pairs_35 : decode cX0_pairs 35 = .ok (.iload_n 2, 1) := by decide +kernel
theorem dX0_pairs_36 : decode cX0_pairs 36 = .ok (.if_icmp .ne 6, 3) := by decide +kernel
theorem dX0_pairs_39 : decode cX0_pairs 39 = .ok (.iinc 3 1, 3) := by decide +kernel
theorem dX0_pairs_42 : decode cX0_pairs 42 = .ok (.aload_n 0, 1) := by decide +kernel
theorem dX0_pairs_43 : decode cX0_pairs 43 = .ok (.iload 4, 2) := by decide +kernel
theorem dX0_pairs_45 : decode cX0_pairs 45 = .ok (.iconst 2, 1) := by decide +kernel
theorem dX0_pairs_46 : decode cX0_pairs 46 = .ok (.invokestatic 21, 3) := by decide +kernel
theorem dX0_pairs_49 : decode cX0_pairs 49 = .ok (.invokevirtual 15, 3) := by decide +kernel
theorem dX0_pairs_52 : decode cX0_pairs 52 = .ok (.iload_n 2, 1) := by decide +kernel
theorem dX0_pairs_53 : decode cX0_pairs 53 = .ok (.if_icmp .ne 6, 3) := by decide +kernel
theorem dX0_pairs_56 : decode cX0_pairs 56 = .ok (.iinc 3 1, 3) := by decide +kernel
theorem dX0_pairs_59 : decode cX0_pairs 59 = .ok (.iinc 4 1, 3) := by decide +kernel
theorem dX0_pairs_62 : decode cX0_pairs 62 = .ok (.goto (-57), 3) := by decide +kernel
theorem dX0_pairs_65 : decode cX0_pairs 65 = .ok (.iload_n 3, 1) := by decide +kernel
theorem dX0_pairs_66 : decode cX0_pairs 66 = .ok (.ireturn, 1) := by decide +kernel
theorem dX0_sideBySide_0 : decode cX0_sideBySide 0 = .ok (.iconst 0, 1) := by decide +kernel
theorem dX0_sideBySide_1 : decode cX0_sideBySide 1 = .ok (.istore_n 2, 1) := by decide +kernel
theorem dX0_sideBySide_2 : decode cX0_sideBySide 2 = .ok (.iconst 0, 1) := by decide +kernel
theorem dX0_sideBySide_3 : decode cX0_sideBySide 3 = .ok (.istore_n 3, 1) := by decide +kernel
theorem dX0_sideBySide_4 : decode cX0_sideBySide 4 = .ok (.iload_n 3, 1) := by decide +kernel
theorem dX0_sideBySide_5 : decode cX0_sideBySide 5 = .ok (.bipush 64, 2) := by decide +kernel
theorem dX0_sideBySide_7 : decode cX0_sideBySide 7 = .ok (.if_icmp .ge 53, 3) := by decide +kernel
theorem dX0_sideBySide_10 : decode cX0_sideBySide 10 = .ok (.aload_n 0, 1) := by decide +kernel
theorem dX0_sideBySide_11 : decode cX0_sideBySide 11 = .ok (.iload_n 3, 1) := by decide +kernel
theorem dX0_sideBySide_12 : decode cX0_sideBySide 12 = .ok (.invokevirtual 15, 3) := by decide +kernel
theorem dX0_sideBySide_15 : decode cX0_sideBySide 15 = .ok (.iload_n 1, 1) := by decide +kernel
theorem dX0_sideBySide_16 : decode cX0_sideBySide 16 = .ok (.if_icmp .eq 6, 3) := by decide +kernel
theorem dX0_sideBySide_19 : decode cX0_sideBySide 19 = .ok (.goto 35, 3) := by decide +kernel
theorem dX0_sideBySide_22 : decode cX0_sideBySide 22 = .ok (.iconst 0, 1) := by decide +kernel
theorem dX0_sideBySide_23 : decode cX0_sideBySide 23 = .ok (.istore 4, 2) := by decide +kernel
theorem dX0_sideBySide_25 : decode cX0_sideBySide 25 = .ok (.iload 4, 2) := by decide +kernel
theorem dX0_sideBySide_27 : decode cX0_sideBySide 27 = .ok (.iconst 4, 1) := by decide +kernel
theorem dX0_sideBySide_28 : decode cX0_sideBySide 28 = .ok (.if_icmp .ge 26, 3) := by decide +kernel
theorem dX0_sideBySide_31 : decode cX0_sideBySide 31 = .ok (.aload_n 0, 1) := by decide +kernel
theorem dX0_sideBySide_32 : decode cX0_sideBySide 32 = .ok (.iload_n 3, 1) := by decide +kernel
theorem dX0_sideBySide_33 : decode cX0_sideBySide 33 = .ok (.iload 4, 2) := by decide +kernel
theorem dX0_sideBySide_35 : decode cX0_sideBySide 35 = .ok (.invokestatic 21, 3) := by decide +kernel
theorem dX0_sideBySide_38 : decode cX0_sideBySide 38 = .ok (.invokevirtual 15, 3) := by decide +kernel
theorem dX0_sideBySide_41 : decode cX0_sideBySide 41 = .ok (.iload_n 1, 1) := by decide +kernel
theorem dX0_sideBySide_42 : decode cX0_sideBySide 42 = .ok (.if_icmp .eq 6, 3) := by decide +kernel
theorem dX0_sideBySide_45 : decode cX0_sideBySide 45 = .ok (.iinc 2 1, 3) := by decide +kernel
theorem dX0_sideBySide_48 : decode cX0_sideBySide 48 = .ok (.iinc 4 1, 3) := by decide +kernel
theorem dX0_sideBySide_51 : decode cX0_sideBySide 51 = .ok (.goto (-26), 3) := by decide +kernel
theorem dX0_sideBySide_54 : decode cX0_sideBySide 54 = .ok (.iinc 3 1, 3) := by decide +kernel
theorem dX0_sideBySide_57 : decode cX0_sideBySide 57 = .ok (.goto (-53), 3) := by decide +kernel
theorem dX0_sideBySide_60 : decode cX0_sideBySide 60 = .ok (.iload_n 2, 1) := by decide +kernel
theorem dX0_sideBySide_61 : decode cX0_sideBySide 61 = .ok (.ireturn, 1) := by decide +kernel
theorem dX0_lessPairs_0 : decode cX0_lessPairs 0 = .ok (.iconst 4, 1) := by decide +kernel
theorem dX0_lessPairs_1 : decode cX0_lessPairs 1 = .ok (.aload_n 0, 1) := by decide +kernel
theorem dX0_lessPairs_2 : decode cX0_lessPairs 2 = .ok (.iload_n 1, 1) := by decide +kernel
theorem dX0_lessPairs_3 : decode cX0_lessPairs 3 = .ok (.invokevirtual 25, 3) := by decide +kernel
theorem dX0_lessPairs_6 : decode cX0_lessPairs 6 = .ok (.imul, 1) := by decide +kernel
theorem dX0_lessPairs_7 : decode cX0_lessPairs 7 = .ok (.iconst 2, 1) := by decide +kernel
theorem dX0_lessPairs_8 : decode cX0_lessPairs 8 = .ok (.aload_n 0, 1) := by decide +kernel
theorem dX0_lessPairs_9 : decode cX0_lessPairs 9 = .ok (.iload_n 1, 1) := by decide +kernel
theorem dX0_lessPairs_10 : decode cX0_lessPairs 10 = .ok (.iload_n 1, 1) := by decide +kernel
theorem dX0_lessPairs_11 : decode cX0_lessPairs 11 = .ok (.invokestatic 9, 3) := by decide +kernel
theorem dX0_lessPairs_14 : decode cX0_lessPairs 14 = .ok (.imul, 1) := by decide +kernel
theorem dX0_lessPairs_15 : decode cX0_lessPairs 15 = .ok (.isub, 1) := by decide +kernel
theorem dX0_lessPairs_16 : decode cX0_lessPairs 16 = .ok (.ireturn, 1) := by decide +kernel
theorem dX1_init_0 : decode cX1_init 0 = .ok (.aload_n 0, 1) := by decide +kernel
theorem dX1_init_1 : decode cX1_init 1 = .ok (.invokespecial 3, 3) := by decide +kernel
theorem dX1_init_4 : decode cX1_init 4 = .ok (.aload_n 0, 1) := by decide +kernel
theorem dX1_init_5 : decode cX1_init 5 = .ok (.bipush 64, 2) := by decide +kernel
theorem dX1_init_7 : decode cX1_init 7 = .ok (.newarray .int, 2) := by decide +kernel
theorem dX1_init_9 : decode cX1_init 9 = .ok (.putfield 9, 3) := by decide +kernel
theorem dX1_init_12 : decode cX1_init 12 = .ok (.aload_n 0, 1) := by decide +kernel
theorem dX1_init_13 : decode cX1_init 13 = .ok (.iconst 4, 1) := by decide +kernel
theorem dX1_init_14 : decode cX1_init 14 = .ok (.newarray .int, 2) := by decide +kernel
theorem dX1_init_16 : decode cX1_init 16 = .ok (.putfield 15, 3) := by decide +kernel
theorem dX1_init_19 : decode cX1_init 19 = .ok (.aload_n 0, 1) := by decide +kernel
theorem dX1_init_20 : decode cX1_init 20 = .ok (.iconst 4, 1) := by decide +kernel
theorem dX1_init_21 : decode cX1_init 21 = .ok (.newarray .int, 2) := by decide +kernel
theorem dX1_init_23 : decode cX1_init 23 = .ok (.putfield 18, 3) := by decide +kernel
theorem dX1_init_26 : decode cX1_init 26 = .ok (.aload_n 0, 1) := by decide +kernel
theorem dX1_init_27 : decode cX1_init 27 = .ok (.iconst 4, 1) := by decide +kernel
theorem dX1_init_28 : decode cX1_init 28 = .ok (.newarray .int, 2) := by decide +kernel
theorem dX1_init_30 : decode cX1_init 30 = .ok (.putfield 21, 3) := by decide +kernel
theorem dX1_init_33 : decode cX1_init 33 = .ok (.aload_n 0, 1) := by decide +kernel
theorem dX1_init_34 : decode cX1_init 34 = .ok (.bipush 52, 2) := by decide +kernel
theorem dX1_init_36 : decode cX1_init 36 = .ok (.newarray .int, 2) := by decide +kernel
theorem dX1_init_38 : decode cX1_init 38 = .ok (.putfield 24, 3) := by decide +kernel
theorem dX1_init_41 : decode cX1_init 41 = .ok (.aload_n 0, 1) := by decide +kernel
theorem dX1_init_42 : decode cX1_init 42 = .ok (.iconst 4, 1) := by decide +kernel
theorem dX1_init_43 : decode cX1_init 43 = .ok (.newarray .int, 2) := by decide +kernel
theorem dX1_init_45 : decode cX1_init 45 = .ok (.putfield 27, 3) := by decide +kernel
theorem dX1_init_48 : decode cX1_init 48 = .ok (.aload_n 0, 1) := by decide +kernel
theorem dX1_init_49 : decode cX1_init 49 = .ok (.iconst 4, 1) := by decide +kernel
theorem dX1_init_50 : decode cX1_init 50 = .ok (.newarray .int, 2) := by decide +kernel
theorem dX1_init_52 : decode cX1_init 52 = .ok (.putfield 30, 3) := by decide +kernel
theorem dX1_init_55 : decode cX1_init 55 = .ok (.aload_n 0, 1) := by decide +kernel
theorem dX1_init_56 : decode cX1_init 56 = .ok (.iconst 5, 1) := by decide +kernel
theorem dX1_init_57 : decode cX1_init 57 = .ok (.newarray .int, 2) := by decide +kernel
theorem dX1_init_59 : decode cX1_init 59 = .ok (.putfield 33, 3) := by decide +kernel
theorem dX1_init_62 : decode cX1_init 62 = .ok (.aload_n 0, 1) := by decide +kernel
theorem dX1_init_63 : decode cX1_init 63 = .ok (.iconst 5, 1) := by decide +kernel
theorem dX1_init_64 : decode cX1_init 64 = .ok (.newarray .int, 2) := by decide +kernel
theorem dX1_init_66 : decode cX1_init 66 = .ok (.putfield 36, 3) := by decide +kernel
theorem dX1_init_69 : decode cX1_init 69 = .ok (.aload_n 0, 1) := by decide +kernel
theorem dX1_init_70 : decode cX1_init 70 = .ok (.iconst 5, 1) := by decide +kernel
theorem dX1_init_71 : decode cX1_init 71 = .ok (.newarray .int, 2) := by decide +kernel
theorem dX1_init_73 : decode cX1_init 73 = .ok (.putfield 39, 3) := by decide +kernel
theorem dX1_init_76 : decode cX1_init 76 = .ok (.aload_n 0, 1) := by decide +kernel
theorem dX1_init_77 : decode cX1_init 77 = .ok (.iconst 1, 1) := by decide +kernel
theorem dX1_init_78 : decode cX1_init 78 = .ok (.putfield 42, 3) := by decide +kernel
theorem dX1_init_81 : decode cX1_init 81 = .ok (.aload_n 0, 1) := by decide +kernel
theorem dX1_init_82 : decode cX1_init 82 = .ok (.getfield 9, 3) := by decide +kernel
theorem dX1_init_85 : decode cX1_init 85 = .ok (.iconst (-1), 1) := by decide +kernel
theorem dX1_init_86 : decode cX1_init 86 = .ok (.invokestatic 46, 3) := by decide +kernel
theorem dX1_init_89 : decode cX1_init 89 = .ok (.aload_n 0, 1) := by decide +kernel
theorem dX1_init_90 : decode cX1_init 90 = .ok (.getfield 15, 3) := by decide +kernel
theorem dX1_init_93 : decode cX1_init 93 = .ok (.bipush 100, 2) := by decide +kernel
theorem dX1_init_95 : decode cX1_init 95 = .ok (.invokestatic 46, 3) := by decide +kernel
theorem dX1_init_98 : decode cX1_init 98 = .ok (.return_, 1) := by decide +kernel
theorem dX1_copyFrom_0 : decode cX1_copyFrom 0 = .ok (.aload_n 1, 1) := by decide +kernel
theorem dX1_copyFrom_1 : decode cX1_copyFrom 1 = .ok (.getfield 9, 3) := by decide +kernel
theorem dX1_copyFrom_4 : decode cX1_copyFrom 4 = .ok (.iconst 0, 1) := by decide +kernel
theorem dX1_copyFrom_5 : decode cX1_copyFrom 5 = .ok (.aload_n 0, 1) := by decide +kernel
theorem dX1_copyFrom_6 : decode cX1_copyFrom 6 = .ok (.getfield 9, 3) := by decide +kernel
theorem dX1_copyFrom_9 : decode cX1_copyFrom 9 = .ok (.iconst 0, 1) := by decide +kernel
theorem dX1_copyFrom_10 : decode cX1_copyFrom 10 = .ok (.bipush 64, 2) := by decide +kernel
theorem dX1_copyFrom_12 : decode cX1_copyFrom 12 = .ok (.invokestatic 52, 3) := by decide +kernel
theorem dX1_copyFrom_15 : decode cX1_copyFrom 15 = .ok (.aload_n 1, 1) := by decide +kernel
theorem dX1_copyFrom_16 : decode cX1_copyFrom 16 = .ok (.getfield 15, 3) := by decide +kernel
theorem dX1_copyFrom_19 : decode cX1_copyFrom 19 = .ok (.iconst 0, 1) := by decide +kernel
theorem dX1_copyFrom_20 : decode cX1_copyFrom 20 = .ok (.aload_n 0, 1) := by decide +kernel
theorem dX1_copyFrom_21 : decode cX1_copyFrom 21 = .ok (.getfield 15, 3) := by decide +kernel
theorem dX1_copyFrom_24 : decode cX1_copyFrom 24 = .ok (.iconst 0, 1) := by decide +kernel
theorem dX1_copyFrom_25 : decode cX1_copyFrom 25 = .ok (.iconst 4, 1) := by decide +kernel
theorem dX1_copyFrom_26 : decode cX1_copyFrom 26 = .ok (.invokestatic 52, 3) := by decide +kernel
theorem dX1_copyFrom_29 : decode cX1_copyFrom 29 = .ok (.aload_n 1, 1) := by decide +kernel
theorem dX1_copyFrom_30 : decode cX1_copyFrom 30 = .ok (.getfield 18, 3) := by decide +kernel
theorem dX1_copyFrom_33 : decode cX1_copyFrom 33 = .ok (.iconst 0, 1) := by decide +kernel
theorem dX1_copyFrom_34 : decode cX1_copyFrom 34 = .ok (.aload_n 0, 1) := by decide +kernel
theorem dX1_copyFrom_35 : decode cX1_copyFrom 35 = .ok (.getfield 18, 3) := by decide +kernel
theorem dX1_copyFrom_38 : decode cX1_copyFrom 38 = .ok (.iconst 0, 1) := by decide +kernel
theorem dX1_copyFrom_39 : decode cX1_copyFrom 39 = .ok (.iconst 4, 1) := by decide +kernel
theorem dX1_copyFrom_40 : decode cX1_copyFrom 40 = .ok (.invokestatic 52, 3) := by decide +kernel
theorem dX1_copyFrom_43 : decode cX1_copyFrom 43 = .ok (.aload_n 1, 1) := by decide +kernel
theorem dX1_copyFrom_44 : decode cX1_copyFrom 44 = .ok (.getfield 21, 3) := by decide +kernel
theorem dX1_copyFrom_47 : decode cX1_copyFrom 47 = .ok (.iconst 0, 1) := by decide +kernel
theorem dX1_copyFrom_48 : decode cX1_copyFrom 48 = .ok (.aload_n 0, 1) := by decide +kernel
theorem dX1_copyFrom_49 : decode cX1_copyFrom 49 = .ok (.getfield 21, 3) := by decide +kernel
theorem dX1_copyFrom_52 : decode cX1_copyFrom 52 = .ok (.iconst 0, 1) := by decide +kernel
theorem dX1_copyFrom_53 : decode cX1_copyFrom 53 = .ok (.iconst 4, 1) := by decide +kernel
theorem dX1_copyFrom_54 : decode cX1_copyFrom 54 = .ok (.invokestatic 52, 3) := by decide +kernel
theorem dX1_copyFrom_57 : decode cX1_copyFrom 57 = .ok (.aload_n 1, 1) := by decide +kernel
theorem dX1_copyFrom_58 : decode cX1_copyFrom 58 = .ok (.getfield 24, 3) := by decide +kernel
theorem dX1_copyFrom_61 : decode cX1_copyFrom 61 = .ok (.iconst 0, 1) := by decide +kernel
theorem dX1_copyFrom_62 : decode cX1_copyFrom 62 = .ok (.aload_n 0, 1) := by decide +kernel
theorem dX1_copyFrom_63 : decode cX1_copyFrom 63 = .ok (.getfield 24, 3) := by decide +kernel
theorem dX1_copyFrom_66 : decode cX1_copyFrom 66 = .ok (.iconst 0, 1) := by decide +kernel
theorem dX1_copyFrom_67 : decode cX1_copyFrom 67 = .ok (.bipush 52, 2) := by decide +kernel
theorem dX1_copyFrom_69 : decode cX1_copyFrom 69 = .ok (.invokestatic 52, 3) := by decide +kernel
theorem dX1_copyFrom_72 : decode cX1_copyFrom 72 = .ok (.aload_n 1, 1) := by decide +kernel
theorem dX1_copyFrom_73 : decode cX1_copyFrom 73 = .ok (.getfield 27, 3) := by decide +kernel
theorem dX1_copyFrom_76 : decode cX1_copyFrom 76 = .ok (.iconst 0, 1) := by decide +kernel
theorem dX1_copyFrom_77 : decode cX1_copyFrom 77 = .ok (.aload_n 0, 1) := by decide +kernel
theorem dX1_copyFrom_78 : decode cX1_copyFrom 78 = .ok (.getfield 27, 3) := by decide +kernel
theorem dX1_copyFrom_81 : decode cX1_copyFrom 81 = .ok (.iconst 0, 1) := by decide +kernel
theorem dX1_copyFrom_82 : decode cX1_copyFrom 82 = .ok (.iconst 4, 1) := by decide +kernel
theorem dX1_copyFrom_83 : decode cX1_copyFrom 83 = .ok (.invokestatic 52, 3) := by decide +kernel
theorem dX1_copyFrom_86 : decode cX1_copyFrom 86 = .ok (.aload_n 1, 1) := by decide +kernel
theorem dX1_copyFrom_87 : decode cX1_copyFrom 87 = .ok (.getfield 30, 3) := by decide +kernel
theorem dX1_copyFrom_90 : decode cX1_copyFrom 90 = .ok (.iconst 0, 1) := by decide +kernel
theorem dX1_copyFrom_91 : decode cX1_copyFrom 91 = .ok (.aload_n 0, 1) := by decide +kernel
theorem dX1_copyFrom_92 : decode cX1_copyFrom 92 = .ok (.getfield 30, 3) := by decide +kernel
theorem dX1_copyFrom_95 : decode cX1_copyFrom 95 = .ok (.iconst 0, 1) := by decide +kernel
theorem dX1_copyFrom_96 : decode cX1_copyFrom 96 = .ok (.iconst 4, 1) := by decide +kernel
theorem dX1_copyFrom_97 : decode cX1_copyFrom 97 = .ok (.invokestatic 52, 3) := by decide +kernel
theorem dX1_copyFrom_100 : decode cX1_copyFrom 100 = .ok (.aload_n 1, 1) := by decide +kernel
theorem dX1_copyFrom_101 : decode cX1_copyFrom 101 = .ok (.getfield 33, 3) := by decide +kernel
theorem dX1_copyFrom_104 : decode cX1_copyFrom 104 = .ok (.iconst 0, 1) := by decide +kernel
theorem dX1_copyFrom_105 : decode cX1_copyFrom 105 = .ok (.aload_n 0, 1) := by decide +kernel
theorem dX1_copyFrom_106 : decode cX1_copyFrom 106 = .ok (.getfield 33, 3) := by decide +kernel
theorem dX1_copyFrom_109 : decode cX1_copyFrom 109 = .ok (.iconst 0, 1) := by decide +kernel
theorem dX1_copyFrom_110 : decode cX1_copyFrom 110 = .ok (.iconst 5, 1) := by decide +kernel
theorem dX1_copyFrom_111 : decode cX1_copyFrom 111 = .ok (.invokestatic 52, 3) := by decide +kernel
theorem dX1_copyFrom_114 : decode cX1_copyFrom 114 = .ok (.aload_n 1, 1) := by decide +kernel
theorem dX1_copyFrom_115 : decode cX1_copyFrom 115 = .ok (.getfield 36, 3) := by decide +kernel
theorem dX1_copyFrom_118 : decode cX1_copyFrom 118 = .ok (.iconst 0, 1) := by decide +kernel
theorem dX1_copyFrom_119 : decode cX1_copyFrom 119 = .ok (.aload_n 0, 1) := by decide +kernel
theorem dX1_copyFrom_120 : decode cX1_copyFrom 120 = .ok (.getfield 36, 3) := by decide +kernel
theorem dX1_copyFrom_123 : decode cX1_copyFrom 123 = .ok (.iconst 0, 1) := by decide +kernel
theorem dX1_copyFrom_124 : decode cX1_copyFrom 124 = .ok (.iconst 5, 1) := by decide +kernel
theorem dX1_copyFrom_125 : decode cX1_copyFrom 125 = .ok (.invokestatic 52, 3) := by decide +kernel
theorem dX1_copyFrom_128 : decode cX1_copyFrom 128 = .ok (.aload_n 1, 1) := by decide +kernel
theorem dX1_copyFrom_129 : decode cX1_copyFrom 129 = .ok (.getfield 39, 3) := by decide +kernel
theorem dX1_copyFrom_132 : decode cX1_copyFrom 132 = .ok (.iconst 0, 1) := by decide +kernel
theorem dX1_copyFrom_133 : decode cX1_copyFrom 133 = .ok (.aload_n 0, 1) := by decide +kernel
theorem dX1_copyFrom_134 : decode cX1_copyFrom 134 = .ok (.getfield 39, 3) := by decide +kernel
theorem dX1_copyFrom_137 : decode cX1_copyFrom 137 = .ok (.iconst 0, 1) := by decide +kernel
theorem dX1_copyFrom_138 : decode cX1_copyFrom 138 = .ok (.iconst 5, 1) := by decide +kernel
theorem dX1_copyFrom_139 : decode cX1_copyFrom 139 = .ok (.invokestatic 52, 3) := by decide +kernel
theorem dX1_copyFrom_142 : decode cX1_copyFrom 142 = .ok (.aload_n 0, 1) := by decide +kernel
theorem dX1_copyFrom_143 : decode cX1_copyFrom 143 = .ok (.aload_n 1, 1) := by decide +kernel
theorem dX1_copyFrom_144 : decode cX1_copyFrom 144 = .ok (.getfield 58, 3) := by decide +kernel
theorem dX1_copyFrom_147 : decode cX1_copyFrom 147 = .ok (.putfield 58, 3) := by decide +kernel
theorem dX1_copyFrom_150 : decode cX1_copyFrom 150 = .ok (.aload_n 0, 1) := by decide +kernel
theorem dX1_copyFrom_151 : decode cX1_copyFrom 151 = .ok (.aload_n 1, 1) := by decide +kernel
theorem dX1_copyFrom_152 : decode cX1_copyFrom 152 = .ok (.getfield 61, 3) := by decide +kernel
theorem dX1_copyFrom_155 : decode cX1_copyFrom 155 = .ok (.putfield 61, 3) := by decide +kernel
theorem dX1_copyFrom_158 : decode cX1_copyFrom 158 = .ok (.aload_n 0, 1) := by decide +kernel
theorem dX1_copyFrom_159 : decode cX1_copyFrom 159 = .ok (.aload_n 1, 1) := by decide +kernel
theorem dX1_copyFrom_160 : decode cX1_copyFrom 160 = .ok (.getfield 42, 3) := by decide +kernel
theorem dX1_copyFrom_163 : decode cX1_copyFrom 163 = .ok (.putfield 42, 3) := by decide +kernel
theorem dX1_copyFrom_166 : decode cX1_copyFrom 166 = .ok (.aload_n 0, 1) := by decide +kernel
theorem dX1_copyFrom_167 : decode cX1_copyFrom 167 = .ok (.aload_n 1, 1) := by decide +kernel
theorem dX1_copyFrom_168 : decode cX1_copyFrom 168 = .ok (.getfield 64, 3) := by decide +kernel
theorem dX1_copyFrom_171 : decode cX1_copyFrom 171 = .ok (.putfield 64, 3) := by decide +kernel
theorem dX1_copyFrom_174 : decode cX1_copyFrom 174 = .ok (.aload_n 0, 1) := by decide +kernel
theorem dX1_copyFrom_175 : decode cX1_copyFrom 175 = .ok (.aload_n 1, 1) := by decide +kernel
theorem dX1_copyFrom_176 : decode cX1_copyFrom 176 = .ok (.getfield 67, 3) := by decide +kernel
theorem dX1_copyFrom_179 : decode cX1_copyFrom 179 = .ok (.putfield 67, 3) := by decide +kernel
theorem dX1_copyFrom_182 : decode cX1_copyFrom 182 = .ok (.aload_n 0, 1) := by decide +kernel
theorem dX1_copyFrom_183 : decode cX1_copyFrom 183 = .ok (.aload_n 1, 1) := by decide +kernel
theorem dX1_copyFrom_184 : decode cX1_copyFrom 184 = .ok (.getfield 70, 3) := by decide +kernel
theorem dX1_copyFrom_187 : decode cX1_copyFrom 187 = .ok (.putfield 70, 3) := by decide +kernel
theorem dX1_copyFrom_190 : decode cX1_copyFrom 190 = .ok (.aload_n 0, 1) := by decide +kernel
theorem dX1_copyFrom_191 : decode cX1_copyFrom 191 = .ok (.aload_n 1, 1) := by decide +kernel
theorem dX1_copyFrom_192 : decode cX1_copyFrom 192 = .ok (.getfield 73, 3) := by decide +kernel
theorem dX1_copyFrom_195 : decode cX1_copyFrom 195 = .ok (.putfield 73, 3) := by decide +kernel
theorem dX1_copyFrom_198 : decode cX1_copyFrom 198 = .ok (.return_, 1) := by decide +kernel
theorem dX1_ownerAt_0 : decode cX1_ownerAt 0 = .ok (.iload_n 1, 1) := by decide +kernel
theorem dX1_ownerAt_1 : decode cX1_ownerAt 1 = .ok (.invokestatic 76, 3) := by decide +kernel
theorem dX1_ownerAt_4 : decode cX1_ownerAt 4 = .ok (.ifCond .eq 12, 3) := by decide +kernel
theorem dX1_ownerAt_7 : decode cX1_ownerAt 7 = .ok (.aload_n 0, 1) := by decide +kernel
theorem dX1_ownerAt_8 : decode cX1_ownerAt 8 = .ok (.getfield 9, 3) := by decide +kernel
theorem dX1_ownerAt_11 : decode cX1_ownerAt 11 = .ok (.iload_n 1, 1) := by decide +kernel
theorem dX1_ownerAt_12 : decode cX1_ownerAt 12 = .ok (.iaload, 1) := by decide +kernel
theorem dX1_ownerAt_13 : decode cX1_ownerAt 13 = .ok (.goto 4, 3) := by decide +kernel
theorem dX1_ownerAt_16 : decode cX1_ownerAt 16 = .ok (.iconst (-1), 1) := by decide +kernel
theorem dX1_ownerAt_17 : decode cX1_ownerAt 17 = .ok (.ireturn, 1) := by decide +kernel
theorem dX1_coinsOf_0 : decode cX1_coinsOf 0 = .ok (.iload_n 1, 1) := by decide +kernel
theorem dX1_coinsOf_1 : decode cX1_coinsOf 1 = .ok (.invokestatic 80, 3) := by decide +kernel
theorem dX1_coinsOf_4 : decode cX1_coinsOf 4 = .ok (.ifCond .eq 12, 3) := by decide +kernel
theorem dX1_coinsOf_7 : decode cX1_coinsOf 7 = .ok (.aload_n 0, 1) := by decide +kernel
theorem dX1_coinsOf_8 : decode cX1_coinsOf 8 = .ok (.getfield 15, 3) := by decide +kernel
theorem dX1_coinsOf_11 : decode cX1_coinsOf 11 = .ok (.iload_n 1, 1) := by decide +kernel
theorem dX1_coinsOf_12 : decode cX1_coinsOf 12 = .ok (.iaload, 1) := by decide +kernel
theorem dX1_coinsOf_13 : decode cX1_coinsOf 13 = .ok (.goto 4, 3) := by decide +kernel
theorem dX1_coinsOf_16 : decode cX1_coinsOf 16 = .ok (.iconst 0, 1) := by decide +kernel
theorem dX1_coinsOf_17 : decode cX1_coinsOf 17 = .ok (.ireturn, 1) := by decide +kernel
theorem dX1_allCoins_0 : decode cX1_allCoins 0 = .ok (.iconst 0, 1) := by decide +kernel
theorem dX1_allCoins_1 : decode cX1_allCoins 1 = .ok (.istore_n 1, 1) := by decide +kernel
theorem dX1_allCoins_2 : decode cX1_allCoins 2 = .ok (.iconst 0, 1) := by decide +kernel
theorem dX1_allCoins_3 : decode cX1_allCoins 3 = .ok (.istore_n 2, 1) := by decide +kernel
theorem dX1_allCoins_4 : decode cX1_allCoins 4 = .ok (.iload_n 2, 1) := by decide +kernel
theorem dX1_allCoins_5 : decode cX1_allCoins 5 = .ok (.iconst 4, 1) := by decide +kernel
theorem dX1_allCoins_6 : decode cX1_allCoins 6 = .ok (.if_icmp .ge 18, 3) := by decide +kernel
theorem dX1_allCoins_9 : decode cX1_allCoins 9 = .ok (.iload_n 1, 1) := by decide +kernel
theorem dX1_allCoins_10 : decode cX1_allCoins 10 = .ok (.aload_n 0, 1) := by decide +kernel
theorem dX1_allCoins_11 : decode cX1_allCoins 11 = .ok (.getfield 15, 3) := by decide +kernel
theorem dX1_allCoins_14 : decode cX1_allCoins 14 = .ok (.iload_n 2, 1) := by decide +kernel
theorem dX1_allCoins_15 : decode cX1_allCoins 15 = .ok (.iaload, 1) := by decide +kernel
theorem dX1_allCoins_16 : decode cX1_allCoins 16 = .ok (.iadd, 1) := by decide +kernel
theorem dX1_allCoins_17 : decode cX1_allCoins 17 = .ok (.istore_n 1, 1) := by decide +kernel
theorem dX1_allCoins_18 : decode cX1_allCoins 18 = .ok (.iinc 2 1, 3) := by decide +kernel
theorem dX1_allCoins_21 : decode cX1_allCoins 21 = .ok (.goto (-17), 3) := by decide +kernel
theorem dX1_allCoins_24 : decode cX1_allCoins 24 = .ok (.iload_n 1, 1) := by decide +kernel
theorem dX1_allCoins_25 : decode cX1_allCoins 25 = .ok (.ireturn, 1) := by decide +kernel
theorem dX1_cellsOf_0 : decode cX1_cellsOf 0 = .ok (.iconst 0, 1) := by decide +kernel
theorem dX1_cellsOf_1 : decode cX1_cellsOf 1 = .ok (.istore_n 2, 1) := by decide +kernel
theorem dX1_cellsOf_2 : decode cX1_cellsOf 2 = .ok (.iconst 0, 1) := by decide +kernel
theorem dX1_cellsOf_3 : decode cX1_cellsOf 3 = .ok (.istore_n 3, 1) := by decide +kernel
theorem dX1_cellsOf_4 : decode cX1_cellsOf 4 = .ok (.iload_n 3, 1) := by decide +kernel
theorem dX1_cellsOf_5 : decode cX1_cellsOf 5 = .ok (.bipush 64, 2) := by decide +kernel
theorem dX1_cellsOf_7 : decode cX1_cellsOf 7 = .ok (.if_icmp .ge 22, 3) := by decide +kernel
theorem dX1_cellsOf_10 : decode cX1_cellsOf 10 = .ok (.aload_n 0, 1) := by decide +kernel
theorem dX1_cellsOf_11 : decode cX1_cellsOf 11 = .ok (.getfield 9, 3) := by decide +kernel
theorem dX1_cellsOf_14 : decode cX1_cellsOf 14 = .ok (.iload_n 3, 1) := by decide +kernel
theorem dX1_cellsOf_15 : decode cX1_cellsOf 15 = .ok (.iaload, 1) := by decide +kernel
theorem dX1_cellsOf_16 : decode cX1_cellsOf 16 = .ok (.iload_n 1, 1) := by decide +kernel
theorem dX1_cellsOf_17 : decode cX1_cellsOf 17 = .ok (.if_icmp .ne 6, 3) := by decide +kernel
theorem dX1_cellsOf_20 : decode cX1_cellsOf 20 = .ok (.iinc 2 1, 3) := by decide +kernel
theorem dX1_cellsOf_23 : decode cX1_cellsOf 23 = .ok (.iinc 3 1, 3) := by decide +kernel
theorem dX1_cellsOf_26 : decode cX1_cellsOf 26 = .ok (.goto (-22), 3) := by decide +kernel
theorem dX1_cellsOf_29 : decode cX1_cellsOf 29 = .ok (.iload_n 2, 1) := by decide +kernel
theorem dX1_cellsOf_30 : decode cX1_cellsOf 30 = .ok (.ireturn, 1) := by decide +kernel
theorem dX1_ownedCells_0 : decode cX1_ownedCells 0 = .ok (.bipush 64, 2) := by decide +kernel
theorem dX1_ownedCells_2 : decode cX1_ownedCells 2 = .ok (.aload_n 0, 1) := by decide +kernel
theorem dX1_ownedCells_3 : decode cX1_ownedCells 3 = .ok (.iconst (-1), 1) := by decide +kernel
theorem dX1_ownedCells_4 : decode cX1_ownedCells 4 = .ok (.invokevirtual 83, 3) := by decide +kernel
theorem dX1_ownedCells_7 : decode cX1_ownedCells 7 = .ok (.isub, 1) := by decide +kernel
theorem dX1_ownedCells_8 : decode cX1_ownedCells 8 = .ok (.ireturn, 1) := by decide +kernel
theorem dX1_isRealmBeside_0 : decode cX1_isRealmBeside 0 = .ok (.iconst 0, 1) := by decide +kernel
theorem dX1_isRealmBeside_1 : decode cX1_isRealmBeside 1 = .ok (.istore_n 3, 1) := by decide +kernel
theorem dX1_isRealmBeside_2 : decode cX1_isRealmBeside 2 = .ok (.iload_n 3, 1) := by decide +kernel
theorem dX1_isRealmBeside_3 : decode cX1_isRealmBeside 3 = .ok (.iconst 4, 1) := by decide +kernel
theorem dX1_isRealmBeside_4 : decode cX1_isRealmBeside 4 = .ok (.if_icmp .ge 34, 3) := by decide +kernel
theorem dX1_isRealmBeside_7 : decode cX1_isRealmBeside 7 = .ok (.iload_n 1, 1) := by decide +kernel
theorem dX1_isRealmBeside_8 : decode cX1_isRealmBeside 8 = .ok (.iload_n 3, 1) := by decide +kernel
theorem dX1_isRealmBeside_9 : decode cX1_isRealmBeside 9 = .ok (.invokestatic 87, 3) := by decide +kernel
theorem dX1_isRealmBeside_12 : decode cX1_isRealmBeside 12 = .ok (.istore 4, 2) := by decide +kernel
theorem dX1_isRealmBeside_14 : decode cX1_isRealmBeside 14 = .ok (.iload 4, 2) := by decide +kernel
theorem dX1_isRealmBeside_16 : decode cX1_isRealmBeside 16 = .ok (.iconst (-1), 1) := by decide +kernel
theorem dX1_isRealmBeside_17 : decode cX1_isRealmBeside 17 = .ok (.if_icmp .eq 15, 3) := by decide +kernel
theorem dX1_isRealmBeside_20 : decode cX1_isRealmBeside 20 = .ok (.aload_n 0, 1) := by decide +kernel
theorem dX1_isRealmBeside_21 : decode cX1_isRealmBeside 21 = .ok (.iload 4, 2) := by decide +kernel
theorem dX1_isRealmBeside_23 : decode cX1_isRealmBeside 23 = .ok (.invokevirtual 91, 3) := by decide +kernel
theorem dX1_isRealmBeside_26 : decode cX1_isRealmBeside 26 = .ok (.iload_n 2, 1) := by decide +kernel
theorem dX1_isRealmBeside_27 : decode cX1_isRealmBeside 27 = .ok (.if_icmp .ne 5, 3) := by decide +kernel
theorem dX1_isRealmBeside_30 : decode cX1_isRealmBeside 30 = .ok (.iconst 1, 1) := by decide +kernel
theorem dX1_isRealmBeside_31 : decode cX1_isRealmBeside 31 = .ok (.ireturn, 1) := by decide +kernel
theorem dX1_isRealmBeside_32 : decode cX1_isRealmBeside 32 = .ok (.iinc 3 1, 3) := by decide +kernel
theorem dX1_isRealmBeside_35 : decode cX1_isRealmBeside 35 = .ok (.goto (-33), 3) := by decide +kernel
theorem dX1_isRealmBeside_38 : decode cX1_isRealmBeside 38 = .ok (.iconst 0, 1) := by decide +kernel
theorem dX1_isRealmBeside_39 : decode cX1_isRealmBeside 39 = .ok (.ireturn, 1) := by decide +kernel
theorem dX1_hasRiver_0 : decode cX1_hasRiver 0 = .ok (.iload_n 1, 1) := by decide +kernel
theorem dX1_hasRiver_1 : decode cX1_hasRiver 1 = .ok (.ifCond .lt 20, 3) := by decide +kernel
theorem dX1_hasRiver_4 : decode cX1_hasRiver 4 = .ok (.iload_n 1, 1) := by decide +kernel
theorem dX1_hasRiver_5 : decode cX1_hasRiver 5 = .ok (.aload_n 0, 1) := by decide +kernel
theorem dX1_hasRiver_6 : decode cX1_hasRiver 6 = .ok (.getfield 58, 3) := by decide +kernel
theorem dX1_hasRiver_9 : decode cX1_hasRiver 9 = .ok (.if_icmp .ge 12, 3) := by decide +kernel
theorem dX1_hasRiver_12 : decode cX1_hasRiver 12 = .ok (.iload_n 1, 1) := by decide +kernel
theorem dX1_hasRiver_13 : decode cX1_hasRiver 13 = .ok (.iconst 4, 1) := by decide +kernel
theorem dX1_hasRiver_14 : decode cX1_hasRiver 14 = .ok (.if_icmp .ge 7, 3) := by decide +kernel
theorem dX1_hasRiver_17 : decode cX1_hasRiver 17 = .ok (.iconst 1, 1) := by decide +kernel
theorem dX1_hasRiver_18 : decode cX1_hasRiver 18 = .ok (.goto 4, 3) := by decide +kernel
theorem dX1_hasRiver_21 : decode cX1_hasRiver 21 = .ok (.iconst 0, 1) := by decide +kernel
theorem dX1_hasRiver_22 : decode cX1_hasRiver 22 = .ok (.ireturn, 1) := by decide +kernel
theorem dX1_stepsOf_0 : decode cX1_stepsOf 0 = .ok (.aload_n 0, 1) := by decide +kernel
theorem dX1_stepsOf_1 : decode cX1_stepsOf 1 = .ok (.iload_n 1, 1) := by decide +kernel
theorem dX1_stepsOf_2 : decode cX1_stepsOf 2 = .ok (.invokevirtual 94, 3) := by decide +kernel
theorem dX1_stepsOf_5 : decode cX1_stepsOf 5 = .ok (.ifCond .eq 12, 3) := by decide +kernel
theorem dX1_stepsOf_8 : decode cX1_stepsOf 8 = .ok (.aload_n 0, 1) := by decide +kernel
theorem dX1_stepsOf_9 : decode cX1_stepsOf 9 = .ok (.getfield 27, 3) := by decide +kernel
theorem dX1_stepsOf_12 : decode cX1_stepsOf 12 = .ok (.iload_n 1, 1) := by decide +kernel
theorem dX1_stepsOf_13 : decode cX1_stepsOf 13 = .ok (.iaload, 1) := by decide +kernel
theorem dX1_stepsOf_14 : decode cX1_stepsOf 14 = .ok (.goto 4, 3) := by decide +kernel
theorem dX1_stepsOf_17 : decode cX1_stepsOf 17 = .ok (.iconst 0, 1) := by decide +kernel
theorem dX1_stepsOf_18 : decode cX1_stepsOf 18 = .ok (.ireturn, 1) := by decide +kernel
theorem dX1_toldOf_0 : decode cX1_toldOf 0 = .ok (.aload_n 0, 1) := by decide +kernel
theorem dX1_toldOf_1 : decode cX1_toldOf 1 = .ok (.iload_n 1, 1) := by decide +kernel
theorem dX1_toldOf_2 : decode cX1_toldOf 2 = .ok (.invokevirtual 94, 3) := by decide +kernel
theorem dX1_toldOf_5 : decode cX1_toldOf 5 = .ok (.ifCond .eq 12, 3) := by decide +kernel
theorem dX1_toldOf_8 : decode cX1_toldOf 8 = .ok (.aload_n 0, 1) := by decide +kernel
theorem dX1_toldOf_9 : decode cX1_toldOf 9 = .ok (.getfield 30, 3) := by decide +kernel
theorem dX1_toldOf_12 : decode cX1_toldOf 12 = .ok (.iload_n 1, 1) := by decide +kernel
theorem dX1_toldOf_13 : decode cX1_toldOf 13 = .ok (.iaload, 1) := by decide +kernel
theorem dX1_toldOf_14 : decode cX1_toldOf 14 = .ok (.goto 4, 3) := by decide +kernel
theorem dX1_toldOf_17 : decode cX1_toldOf 17 = .ok (.iconst 0, 1) := by decide +kernel
theorem dX1_toldOf_18 : decode cX1_toldOf 18 = .ok (.ireturn, 1) := by decide +kernel
theorem dX1_placeOf_0 : decode cX1_placeOf 0 = .ok (.aload_n 0, 1) := by decide +kernel
theorem dX1_placeOf_1 : decode cX1_placeOf 1 = .ok (.iload_n 1, 1) := by decide +kernel
theorem dX1_placeOf_2 : decode cX1_placeOf 2 = .ok (.invokevirtual 94, 3) := by decide +kernel
theorem dX1_placeOf_5 : decode cX1_placeOf 5 = .ok (.ifCond .eq 27, 3) := by decide +kernel
theorem dX1_placeOf_8 : decode cX1_placeOf 8 = .ok (.iload_n 2, 1) := by decide +kernel
theorem dX1_placeOf_9 : decode cX1_placeOf 9 = .ok (.ifCond .lt 23, 3) := by decide +kernel
theorem dX1_placeOf_12 : decode cX1_placeOf 12 = .ok (.iload_n 2, 1) := by decide +kernel
theorem dX1_placeOf_13 : decode cX1_placeOf 13 = .ok (.bipush 13, 2) := by decide +kernel
theorem dX1_placeOf_15 : decode cX1_placeOf 15 = .ok (.if_icmp .ge 17, 3) := by decide +kernel
theorem dX1_placeOf_18 : decode cX1_placeOf 18 = .ok (.aload_n 0, 1) := by decide +kernel
theorem dX1_placeOf_19 : decode cX1_placeOf 19 = .ok (.getfield 24, 3) := by decide +kernel
theorem dX1_placeOf_22 : decode cX1_placeOf 22 = .ok (.iload_n 1, 1) := by decide +kernel
theorem dX1_placeOf_23 : decode cX1_placeOf 23 = .ok (.bipush 13, 2) := by decide +kernel
theorem dX1_placeOf_25 : decode cX1_placeOf 25 = .ok (.imul, 1) := by decide +kernel
theorem dX1_placeOf_26 : decode cX1_placeOf 26 = .ok (.iload_n 2, 1) := by decide +kernel
theorem dX1_placeOf_27 : decode cX1_placeOf 27 = .ok (.iadd, 1) := by decide +kernel
theorem dX1_placeOf_28 : decode cX1_placeOf 28 = .ok (.iaload, 1) := by decide +kernel
theorem dX1_placeOf_29 : decode cX1_placeOf 29 = .ok (.goto 4, 3) := by decide +kernel
theorem dX1_placeOf_32 : decode cX1_placeOf 32 = .ok (.iconst (-1), 1) := by decide +kernel
theorem dX1_placeOf_33 : decode cX1_placeOf 33 = .ok (.ireturn, 1) := by decide +kernel
theorem dX1_hasDragon_0 : decode cX1_hasDragon 0 = .ok (.iload_n 1, 1) := by decide +kernel
theorem dX1_hasDragon_1 : decode cX1_hasDragon 1 = .ok (.ifCond .lt 20, 3) := by decide +kernel
theorem dX1_hasDragon_4 : decode cX1_hasDragon 4 = .ok (.iload_n 1, 1) := by decide +kernel
theorem dX1_hasDragon_5 : decode cX1_hasDragon 5 = .ok (.aload_n 0, 1) := by decide +kernel
theorem dX1_hasDragon_6 : decode cX1_hasDragon 6 = .ok (.getfield 61, 3) := by decide +kernel
theorem dX1_hasDragon_9 : decode cX1_hasDragon 9 = .ok (.if_icmp .ge 12, 3) := by decide +kernel
theorem dX1_hasDragon_12 : decode cX1_hasDragon 12 = .ok (.iload_n 1, 1) := by decide +kernel
theorem dX1_hasDragon_13 : decode cX1_hasDragon 13 = .ok (.iconst 5, 1) := by decide +kernel
theorem dX1_hasDragon_14 : decode cX1_hasDragon 14 = .ok (.if_icmp .ge 7, 3) := by decide +kernel
theorem dX1_hasDragon_17 : decode cX1_hasDragon 17 = .ok (.iconst 1, 1) := by decide +kernel
theorem dX1_hasDragon_18 : decode cX1_hasDragon 18 = .ok (.goto 4, 3) := by decide +kernel
theorem dX1_hasDragon_21 : decode cX1_hasDragon 21 = .ok (.iconst 0, 1) := by decide +kernel
theorem dX1_hasDragon_22 : decode cX1_hasDragon 22 = .ok (.ireturn, 1) := by decide +kernel
theorem dX1_dragonOn_0 : decode cX1_dragonOn 0 = .ok (.iconst 0, 1) := by decide +kernel
theorem dX1_dragonOn_1 : decode cX1_dragonOn 1 = .ok (.istore_n 2, 1) := by decide +kernel
theorem dX1_dragonOn_2 : decode cX1_dragonOn 2 = .ok (.iload_n 2, 1) := by decide +kernel
theorem dX1_dragonOn_3 : decode cX1_dragonOn 3 = .ok (.aload_n 0, 1) := by decide +kernel
theorem dX1_dragonOn_4 : decode cX1_dragonOn 4 = .ok (.getfield 61, 3) := by decide +kernel
theorem dX1_dragonOn_7 : decode cX1_dragonOn 7 = .ok (.if_icmp .ge 26, 3) := by decide +kernel
theorem dX1_dragonOn_10 : decode cX1_dragonOn 10 = .ok (.iload_n 2, 1) := by decide +kernel
theorem dX1_dragonOn_11 : decode cX1_dragonOn 11 = .ok (.iconst 5, 1) := by decide +kernel
theorem dX1_dragonOn_12 : decode cX1_dragonOn 12 = .ok (.if_icmp .ge 21, 3) := by decide +kernel
theorem dX1_dragonOn_15 : decode cX1_dragonOn 15 = .ok (.aload_n 0, 1) := by decide +kernel
theorem dX1_dragonOn_16 : decode cX1_dragonOn 16 = .ok (.getfield 33, 3) := by decide +kernel
theorem dX1_dragonOn_19 : decode cX1_dragonOn 19 = .ok (.iload_n 2, 1) := by decide +kernel
theorem dX1_dragonOn_20 : decode cX1_dragonOn 20 = .ok (.iaload, 1) := by decide +kernel
theorem dX1_dragonOn_21 : decode cX1_dragonOn 21 = .ok (.iload_n 1, 1) := by decide +kernel
theorem dX1_dragonOn_22 : decode cX1_dragonOn 22 = .ok (.if_icmp .ne 5, 3) := by decide +kernel
theorem dX1_dragonOn_25 : decode cX1_dragonOn 25 = .ok (.iload_n 2, 1) := by decide +kernel
theorem dX1_dragonOn_26 : decode cX1_dragonOn 26 = .ok (.ireturn, 1) := by decide +kernel
theorem dX1_dragonOn_27 : decode cX1_dragonOn 27 = .ok (.iinc 2 1, 3) := by decide +kernel
theorem dX1_dragonOn_30 : decode cX1_dragonOn 30 = .ok (.goto (-28), 3) := by decide +kernel
theorem dX1_dragonOn_33 : decode cX1_dragonOn 33 = .ok (.iconst (-1), 1) := by decide +kernel
theorem dX1_dragonOn_34 : decode cX1_dragonOn 34 = .ok (.ireturn, 1) := by decide +kernel
theorem dX1_dragonsOf_0 : decode cX1_dragonsOf 0 = .ok (.iconst 0, 1) := by decide +kernel
theorem dX1_dragonsOf_1 : decode cX1_dragonsOf 1 = .ok (.istore_n 2, 1) := by decide +kernel
theorem dX1_dragonsOf_2 : decode cX1_dragonsOf 2 = .ok (.iconst 0, 1) := by decide +kernel
theorem dX1_dragonsOf_3 : decode cX1_dragonsOf 3 = .ok (.istore_n 3, 1) := by decide +kernel
theorem dX1_dragonsOf_4 : decode cX1_dragonsOf 4 = .ok (.iload_n 3, 1) := by decide +kernel
theorem dX1_dragonsOf_5 : decode cX1_dragonsOf 5 = .ok (.aload_n 0, 1) := by decide +kernel
theorem dX1_dragonsOf_6 : decode cX1_dragonsOf 6 = .ok (.getfield 61, 3) := by decide +kernel
theorem dX1_dragonsOf_9 : decode cX1_dragonsOf 9 = .ok (.if_icmp .ge 31, 3) := by decide +kernel
theorem dX1_dragonsOf_12 : decode cX1_dragonsOf 12 = .ok (.iload_n 3, 1) := by decide +kernel
theorem dX1_dragonsOf_13 : decode cX1_dragonsOf 13 = .ok (.iconst 5, 1) := by decide +kernel
theorem dX1_dragonsOf_14 : decode cX1_dragonsOf 14 = .ok (.if_icmp .ge 26, 3) := by decide +kernel
theorem dX1_dragonsOf_17 : decode cX1_dragonsOf 17 = .ok (.aload_n 0, 1) := by decide +kernel
theorem dX1_dragonsOf_18 : decode cX1_dragonsOf 18 = .ok (.aload_n 0, 1) := by decide +kernel
theorem dX1_dragonsOf_19 : decode cX1_dragonsOf 19 = .ok (.getfield 33, 3) := by decide +kernel
theorem dX1_dragonsOf_22 : decode cX1_dragonsOf 22 = .ok (.iload_n 3, 1) := by decide +kernel
theorem dX1_dragonsOf_23 : decode cX1_dragonsOf 23 = .ok (.iaload, 1) := by decide +kernel
theorem dX1_dragonsOf_24 : decode cX1_dragonsOf 24 = .ok (.invokevirtual 91, 3) := by decide +kernel
theorem dX1_dragonsOf_27 : decode cX1_dragonsOf 27 = .ok (.iload_n 1, 1) := by decide +kernel
theorem dX1_dragonsOf_28 : decode cX1_dragonsOf 28 = .ok (.if_icmp .ne 6, 3) := by decide +kernel
theorem dX1_dragonsOf_31 : decode cX1_dragonsOf 31 = .ok (.iinc 2 1, 3) := by decide +kernel
theorem dX1_dragonsOf_34 : decode cX1_dragonsOf 34 = .ok (.iinc 3 1, 3) := by decide +kernel
theorem dX1_dragonsOf_37 : decode cX1_dragonsOf 37 = .ok (.goto (-33), 3) := by decide +kernel
theorem dX1_dragonsOf_40 : decode cX1_dragonsOf 40 = .ok (.iload_n 2, 1) := by decide +kernel
theorem dX1_dragonsOf_41 : decode cX1_dragonsOf 41 = .ok (.ireturn, 1) := by decide +kernel
theorem dX1_carryOut_0 : decode cX1_carryOut 0 = .ok (.aload_n 1, 1) := by decide +kernel
theorem dX1_carryOut_1 : decode cX1_carryOut 1 = .ok (.getfield 97, 3) := by decide +kernel
theorem dX1_carryOut_4 : decode cX1_carryOut 4 = .ok (.tableswitch 152 100 115 #[130, 152, 143, 152, 152, 152, 152, 121, 152, 106, 152, 152, 80, 152, 115, 93], 80) := by decide +kernel
theorem dX1_carryOut_84 : decode cX1_carryOut 84 = .ok (.aload_n 0, 1) := by decide +kernel
theorem dX1_carryOut_85 : decode cX1_carryOut 85 = .ok (.aload_n 1, 1) := by decide +kernel
theorem dX1_carryOut_86 : decode cX1_carryOut 86 = .ok (.getfield 102, 3) := by decide +kernel
theorem dX1_carryOut_89 : decode cX1_carryOut 89 = .ok (.aload_n 1, 1) := by decide +kernel
theorem dX1_carryOut_90 : decode cX1_carryOut 90 = .ok (.getfield 105, 3) := by decide +kernel
theorem dX1_carryOut_93 : decode cX1_carryOut 93 = .ok (.invokevirtual 108, 3) := by decide +kernel
theorem dX1_carryOut_96 : decode cX1_carryOut 96 = .ok (.ireturn, 1) := by decide +kernel
theorem dX1_carryOut_97 : decode cX1_carryOut 97 = .ok (.aload_n 0, 1) := by decide +kernel
theorem dX1_carryOut_98 : decode cX1_carryOut 98 = .ok (.aload_n 1, 1) := by decide +kernel
theorem dX1_carryOut_99 : decode cX1_carryOut 99 = .ok (.getfield 102, 3) := by decide +kernel
theorem dX1_carryOut_102 : decode cX1_carryOut 102 = .ok (.aload_n 1, 1) := by decide +kernel
theorem dX1_carryOut_103 : decode cX1_carryOut 103 = .ok (.getfield 105, 3) := by decide +kernel
theorem dX1_carryOut_106 : decode cX1_carryOut 106 = .ok (.invokevirtual 111, 3) := by decide +kernel
theorem dX1_carryOut_109 : decode cX1_carryOut 109 = .ok (.ireturn, 1) := by decide +kernel
theorem dX1_carryOut_110 : decode cX1_carryOut 110 = .ok (.aload_n 0, 1) := by decide +kernel
theorem dX1_carryOut_111 : decode cX1_carryOut 111 = .ok (.aload_n 1, 1) := by decide +kernel
theorem dX1_carryOut_112 : decode cX1_carryOut 112 = .ok (.getfield 105, 3) := by decide +kernel
theorem dX1_carryOut_115 : decode cX1_carryOut 115 = .ok (.invokevirtual 114, 3) := by decide +kernel
theorem dX1_carryOut_118 : decode cX1_carryOut 118 = .ok (.ireturn, 1) := by decide +kernel
theorem dX1_carryOut_119 : decode cX1_carryOut 119 = .ok (.aload_n 0, 1) := by decide +kernel
theorem dX1_carryOut_120 : decode cX1_carryOut 120 = .ok (.aload_n 1, 1) := by decide +kernel
theorem dX1_carryOut_121 : decode cX1_carryOut 121 = .ok (.invokevirtual 117, 3) := by decide +kernel
theorem dX1_carryOut_124 : decode cX1_carryOut 124 = .ok (.ireturn, 1) := by decide +kernel
theorem dX1_carryOut_125 : decode cX1_carryOut 125 = .ok (.aload_n 0, 1) := by decide +kernel
theorem dX1_carryOut_126 : decode cX1_carryOut 126 = .ok (.aload_n 1, 1) := by decide +kernel
theorem dX1_carryOut_127 : decode cX1_carryOut 127 = .ok (.getfield 105, 3) := by decide +kernel
theorem dX1_carryOut_130 : decode cX1_carryOut 130 = .ok (.invokevirtual 121, 3) := by decide +kernel
theorem dX1_carryOut_133 : decode cX1_carryOut 133 = .ok (.ireturn, 1) := by decide +kernel
theorem dX1_carryOut_134 : decode cX1_carryOut 134 = .ok (.aload_n 0, 1) := by decide +kernel
theorem dX1_carryOut_135 : decode cX1_carryOut 135 = .ok (.aload_n 1, 1) := by decide +kernel
theorem dX1_carryOut_136 : decode cX1_carryOut 136 = .ok (.getfield 102, 3) := by decide +kernel
theorem dX1_carryOut_139 : decode cX1_carryOut 139 = .ok (.aload_n 1, 1) := by decide +kernel
theorem dX1_carryOut_140 : decode cX1_carryOut 140 = .ok (.getfield 105, 3) := by decide +kernel
theorem dX1_carryOut_143 : decode cX1_carryOut 143 = .ok (.invokevirtual 124, 3) := by decide +kernel
theorem dX1_carryOut_146 : decode cX1_carryOut 146 = .ok (.ireturn, 1) := by decide +kernel
theorem dX1_carryOut_147 : decode cX1_carryOut 147 = .ok (.aload_n 0, 1) := by decide +kernel
theorem dX1_carryOut_148 : decode cX1_carryOut 148 = .ok (.aload_n 1, 1) := by decide +kernel
theorem dX1_carryOut_149 : decode cX1_carryOut 149 = .ok (.getfield 105, 3) := by decide +kernel
theorem dX1_carryOut_152 : decode cX1_carryOut 152 = .ok (.invokevirtual 127, 3) := by decide +kernel
theorem dX1_carryOut_155 : decode cX1_carryOut 155 = .ok (.ireturn, 1) := by decide +kernel
theorem dX1_carryOut_156 : decode cX1_carryOut 156 = .ok (.iconst (-1), 1) := by decide +kernel
theorem dX1_carryOut_157 : decode cX1_carryOut 157 = .ok (.ireturn, 1) := by decide +kernel
theorem dX1_give_0 : decode cX1_give 0 = .ok (.iload_n 1, 1) := by decide +kernel
theorem dX1_give_1 : decode cX1_give 1 = .ok (.invokestatic 76, 3) := by decide +kernel
theorem dX1_give_4 : decode cX1_give 4 = .ok (.ifCond .ne 5, 3) := by decide +kernel
theorem dX1_give_7 : decode cX1_give 7 = .ok (.iconst (-1), 1) := by decide +kernel
theorem dX1_give_8 : decode cX1_give 8 = .ok (.ireturn, 1) := by decide +kernel
theorem dX1_give_9 : decode cX1_give 9 = .ok (.aload_n 0, 1) := by decide +kernel
theorem dX1_give_10 : decode cX1_give 10 = .ok (.getfield 9, 3) := by decide +kernel
theorem dX1_give_13 : decode cX1_give 13 = .ok (.iload_n 1, 1) := by decide +kernel
theorem dX1_give_14 : decode cX1_give 14 = .ok (.iaload, 1) := by decide +kernel
theorem dX1_give_15 : decode cX1_give 15 = .ok (.istore_n 3, 1) := by decide +kernel
theorem dX1_give_16 : decode cX1_give 16 = .ok (.aload_n 0, 1) := by decide +kernel
theorem dX1_give_17 : decode cX1_give 17 = .ok (.getfield 9, 3) := by decide +kernel
theorem dX1_give_20 : decode cX1_give 20 = .ok (.iload_n 1, 1) := by decide +kernel
theorem dX1_give_21 : decode cX1_give 21 = .ok (.iload_n 2, 1) := by decide +kernel
theorem dX1_give_22 : decode cX1_give 22 = .ok (.iastore, 1) := by decide +kernel
theorem dX1_give_23 : decode cX1_give 23 = .ok (.aload_n 0, 1) := by decide +kernel
theorem dX1_give_24 : decode cX1_give 24 = .ok (.aload_n 0, 1) := by decide +kernel
theorem dX1_give_25 : decode cX1_give 25 = .ok (.iload_n 1, 1) := by decide +kernel
theorem dX1_give_26 : decode cX1_give 26 = .ok (.invokevirtual 130, 3) := by decide +kernel
theorem dX1_give_29 : decode cX1_give 29 = .ok (.invokevirtual 133, 3) := by decide +kernel
theorem dX1_give_32 : decode cX1_give 32 = .ok (.iload_n 3, 1) := by decide +kernel
theorem dX1_give_33 : decode cX1_give 33 = .ok (.ireturn, 1) := by decide +kernel
theorem dX1_refund_0 : decode cX1_refund 0 = .ok (.aload_n 0, 1) := by decide +kernel
theorem dX1_refund_1 : decode cX1_refund 1 = .ok (.iload_n 1, 1) := by decide +kernel
theorem dX1_refund_2 : decode cX1_refund 2 = .ok (.invokevirtual 137, 3) := by decide +kernel
theorem dX1_refund_5 : decode cX1_refund 5 = .ok (.ifCond .ne 4, 3) := by decide +kernel
theorem dX1_refund_8 : decode cX1_refund 8 = .ok (.return_, 1) := by decide +kernel
theorem dX1_refund_9 : decode cX1_refund 9 = .ok (.aload_n 0, 1) := by decide +kernel
theorem dX1_refund_10 : decode cX1_refund 10 = .ok (.getfield 39, 3) := by decide +kernel
theorem dX1_refund_13 : decode cX1_refund 13 = .ok (.iload_n 1, 1) := by decide +kernel
theorem dX1_refund_14 : decode cX1_refund 14 = .ok (.iaload, 1) := by decide +kernel
theorem dX1_refund_15 : decode cX1_refund 15 = .ok (.istore_n 2, 1) := by decide +kernel
theorem dX1_refund_16 : decode cX1_refund 16 = .ok (.iload_n 2, 1) := by decide +kernel
theorem dX1_refund_17 : decode cX1_refund 17 = .ok (.invokestatic 80, 3) := by decide +kernel
theorem dX1_refund_20 : decode cX1_refund 20 = .ok (.ifCond .eq 18, 3) := by decide +kernel
theorem dX1_refund_23 : decode cX1_refund 23 = .ok (.aload_n 0, 1) := by decide +kernel
theorem dX1_refund_24 : decode cX1_refund 24 = .ok (.getfield 15, 3) := by decide +kernel
theorem dX1_refund_27 : decode cX1_refund 27 = .ok (.iload_n 2, 1) := by decide +kernel
theorem dX1_refund_28 : decode cX1_refund 28 = .ok (.dup2, 1) := by decide +kernel
theorem dX1_refund_29 : decode cX1_refund 29 = .ok (.iaload, 1) := by decide +kernel
theorem dX1_refund_30 : decode cX1_refund 30 = .ok (.aload_n 0, 1) := by decide +kernel
theorem dX1_refund_31 : decode cX1_refund 31 = .ok (.getfield 36, 3) := by decide +kernel
theorem dX1_refund_34 : decode cX1_refund 34 = .ok (.iload_n 1, 1) := by decide +kernel
theorem dX1_refund_35 : decode cX1_refund 35 = .ok (.iaload, 1) := by decide +kernel
theorem dX1_refund_36 : decode cX1_refund 36 = .ok (.iadd, 1) := by decide +kernel
theorem dX1_refund_37 : decode cX1_refund 37 = .ok (.iastore, 1) := by decide +kernel
theorem dX1_refund_38 : decode cX1_refund 38 = .ok (.aload_n 0, 1) := by decide +kernel
theorem dX1_refund_39 : decode cX1_refund 39 = .ok (.dup, 1) := by decide +kernel
theorem dX1_refund_40 : decode cX1_refund 40 = .ok (.getfield 67, 3) := by decide +kernel
theorem dX1_refund_43 : decode cX1_refund 43 = .ok (.iconst 1, 1) := by decide +kernel
theorem dX1_refund_44 : decode cX1_refund 44 = .ok (.iadd, 1) := by decide +kernel
theorem dX1_refund_45 : decode cX1_refund 45 = .ok (.putfield 67, 3) := by decide +kernel
theorem dX1_refund_48 : decode cX1_refund 48 = .ok (.aload_n 0, 1) := by decide +kernel
theorem dX1_refund_49 : decode cX1_refund 49 = .ok (.iload_n 1, 1) := by decide +kernel
theorem dX1_refund_50 : decode cX1_refund 50 = .ok (.invokevirtual 140, 3) := by decide +kernel
theorem dX1_refund_53 : decode cX1_refund 53 = .ok (.return_, 1) := by decide +kernel
theorem dX1_conquer_0 : decode cX1_conquer 0 = .ok (.aload_n 0, 1) := by decide +kernel
theorem dX1_conquer_1 : decode cX1_conquer 1 = .ok (.iload_n 1, 1) := by decide +kernel
theorem dX1_conquer_2 : decode cX1_conquer 2 = .ok (.iload_n 2, 1) := by decide +kernel
theorem dX1_conquer_3 : decode cX1_conquer 3 = .ok (.invokevirtual 108, 3) := by decide +kernel
theorem dX1_conquer_6 : decode cX1_conquer 6 = .ok (.istore_n 3, 1) := by decide +kernel
theorem dX1_conquer_7 : decode cX1_conquer 7 = .ok (.iload_n 3, 1) := by decide +kernel
theorem dX1_conquer_8 : decode cX1_conquer 8 = .ok (.invokestatic 80, 3) := by decide +kernel
theorem dX1_conquer_11 : decode cX1_conquer 11 = .ok (.ifCond .eq 30, 3) := by decide +kernel
theorem dX1_conquer_14 : decode cX1_conquer 14 = .ok (.iload_n 2, 1) := by decide +kernel
theorem dX1_conquer_15 : decode cX1_conquer 15 = .ok (.invokestatic 80, 3) := by decide +kernel
theorem dX1_conquer_18 : decode cX1_conquer 18 = .ok (.ifCond .eq 23, 3) := by decide +kernel
theorem dX1_conquer_21 : decode cX1_conquer 21 = .ok (.aload_n 0, 1) := by decide +kernel
theorem dX1_conquer_22 : decode cX1_conquer 22 = .ok (.getfield 18, 3) := by decide +kernel
theorem dX1_conquer_25 : decode cX1_conquer 25 = .ok (.iload_n 2, 1) := by decide +kernel
theorem dX1_conquer_26 : decode cX1_conquer 26 = .ok (.dup2, 1) := by decide +kernel
theorem dX1_conquer_27 : decode cX1_conquer 27 = .ok (.iaload, 1) := by decide +kernel
theorem dX1_conquer_28 : decode cX1_conquer 28 = .ok (.iconst 1, 1) := by decide +kernel
theorem dX1_conquer_29 : decode cX1_conquer 29 = .ok (.iadd, 1) := by decide +kernel
theorem dX1_conquer_30 : decode cX1_conquer 30 = .ok (.iastore, 1) := by decide +kernel
theorem dX1_conquer_31 : decode cX1_conquer 31 = .ok (.aload_n 0, 1) := by decide +kernel
theorem dX1_conquer_32 : decode cX1_conquer 32 = .ok (.getfield 21, 3) := by decide +kernel
theorem dX1_conquer_35 : decode cX1_conquer 35 = .ok (.iload_n 3, 1) := by decide +kernel
theorem dX1_conquer_36 : decode cX1_conquer 36 = .ok (.dup2, 1) := by decide +kernel
theorem dX1_conquer_37 : decode cX1_conquer 37 = .ok (.iaload, 1) := by decide +kernel
theorem dX1_conquer_38 : decode cX1_conquer 38 = .ok (.iconst 1, 1) := by decide +kernel
theorem dX1_conquer_39 : decode cX1_conquer 39 = .ok (.iadd, 1) := by decide +kernel
theorem dX1_conquer_40 : decode cX1_conquer 40 = .ok (.iastore, 1) := by decide +kernel
theorem dX1_conquer_41 : decode cX1_conquer 41 = .ok (.aload_n 0, 1) := by decide +kernel
theorem dX1_conquer_42 : decode cX1_conquer 42 = .ok (.dup, 1) := by decide +kernel
theorem dX1_conquer_43 : decode cX1_conquer 43 = .ok (.getfield 64, 3) := by decide +kernel
theorem dX1_conquer_46 : decode cX1_conquer 46 = .ok (.iconst 1, 1) := by decide +kernel
theorem dX1_conquer_47 : decode cX1_conquer 47 = .ok (.iadd, 1) := by decide +kernel
theorem dX1_conquer_48 : decode cX1_conquer 48 = .ok (.putfield 64, 3) := by decide +kernel
theorem dX1_conquer_51 : decode cX1_conquer 51 = .ok (.iload_n 3, 1) := by decide +kernel
theorem dX1_conquer_52 : decode cX1_conquer 52 = .ok (.ireturn, 1) := by decide +kernel
theorem dX1_setMiles_0 : decode cX1_setMiles 0 = .ok (.aload_n 0, 1) := by decide +kernel
theorem dX1_setMiles_1 : decode cX1_setMiles 1 = .ok (.getfield 42, 3) := by decide +kernel
theorem dX1_setMiles_4 : decode cX1_setMiles 4 = .ok (.istore_n 2, 1) := by decide +kernel
theorem dX1_setMiles_5 : decode cX1_setMiles 5 = .ok (.aload_n 0, 1) := by decide +kernel
theorem dX1_setMiles_6 : decode cX1_setMiles 6 = .ok (.iload_n 1, 1) := by decide +kernel
theorem dX1_setMiles_7 : decode cX1_setMiles 7 = .ok (.putfield 42, 3) := by decide +kernel
theorem dX1_setMiles_10 : decode cX1_setMiles 10 = .ok (.iload_n 2, 1) := by decide +kernel
theorem dX1_setMiles_11 : decode cX1_setMiles 11 = .ok (.ireturn, 1) := by decide +kernel
theorem dX1_addRiver_0 : decode cX1_addRiver 0 = .ok (.aload_n 0, 1) := by decide +kernel
theorem dX1_addRiver_1 : decode cX1_addRiver 1 = .ok (.getfield 58, 3) := by decide +kernel
theorem dX1_addRiver_4 : decode cX1_addRiver 4 = .ok (.ifCond .lt 11, 3) := by decide +kernel
theorem dX1_addRiver_7 : decode cX1_addRiver 7 = .ok (.aload_n 0, 1) := by decide +kernel
theorem dX1_addRiver_8 : decode cX1_addRiver 8 = .ok (.getfield 58, 3) := by decide +kernel
theorem dX1_addRiver_11 : decode cX1_addRiver 11 = .ok (.iconst 4, 1) := by decide +kernel
theorem dX1_addRiver_12 : decode cX1_addRiver 12 = .ok (.if_icmp .lt 5, 3) := by decide +kernel
theorem dX1_addRiver_15 : decode cX1_addRiver 15 = .ok (.iconst (-1), 1) := by decide +kernel
theorem dX1_addRiver_16 : decode cX1_addRiver 16 = .ok (.ireturn, 1) := by decide +kernel
theorem dX1_addRiver_17 : decode cX1_addRiver 17 = .ok (.aload_n 1, 1) := by decide +kernel
theorem dX1_addRiver_18 : decode cX1_addRiver 18 = .ok (.getfield 102, 3) := by decide +kernel
theorem dX1_addRiver_21 : decode cX1_addRiver 21 = .ok (.istore_n 2, 1) := by decide +kernel
theorem dX1_addRiver_22 : decode cX1_addRiver 22 = .ok (.aload_n 0, 1) := by decide +kernel
theorem dX1_addRiver_23 : decode cX1_addRiver 23 = .ok (.getfield 58, 3) := by decide +kernel
theorem dX1_addRiver_26 : decode cX1_addRiver 26 = .ok (.bipush 13, 2) := by decide +kernel
theorem dX1_addRiver_28 : decode cX1_addRiver 28 = .ok (.imul, 1) := by decide +kernel
theorem dX1_addRiver_29 : decode cX1_addRiver 29 = .ok (.istore_n 3, 1) := by decide +kernel
theorem dX1_addRiver_30 : decode cX1_addRiver 30 = .ok (.aload_n 0, 1) := by decide +kernel
theorem dX1_addRiver_31 : decode cX1_addRiver 31 = .ok (.getfield 24, 3) := by decide +kernel
theorem dX1_addRiver_34 : decode cX1_addRiver 34 = .ok (.iload_n 3, 1) := by decide +kernel
theorem dX1_addRiver_35 : decode cX1_addRiver 35 = .ok (.iload_n 2, 1) := by decide +kernel
theorem dX1_addRiver_36 : decode cX1_addRiver 36 = .ok (.iastore, 1) := by decide +kernel
theorem dX1_addRiver_37 : decode cX1_addRiver 37 = .ok (.iconst 0, 1) := by decide +kernel
theorem dX1_addRiver_38 : decode cX1_addRiver 38 = .ok (.istore 4, 2) := by decide +kernel
theorem dX1_addRiver_40 : decode cX1_addRiver 40 = .ok (.iload 4, 2) := by decide +kernel
theorem dX1_addRiver_42 : decode cX1_addRiver 42 = .ok (.aload_n 1, 1) := by decide +kernel
theorem dX1_addRiver_43 : decode cX1_addRiver 43 = .ok (.getfield 143, 3) := by decide +kernel
theorem dX1_addRiver_46 : decode cX1_addRiver 46 = .ok (.if_icmp .ge 40, 3) := by decide +kernel
theorem dX1_addRiver_49 : decode cX1_addRiver 49 = .ok (.iload 4, 2) := by decide +kernel
theorem dX1_addRiver_51 : decode cX1_addRiver 51 = .ok (.bipush 12, 2) := by decide +kernel
theorem dX1_addRiver_53 : decode cX1_addRiver 53 = .ok (.if_icmp .ge 33, 3) := by decide +kernel
theorem dX1_addRiver_56 : decode cX1_addRiver 56 = .ok (.iload_n 2, 1) := by decide +kernel
theorem dX1_addRiver_57 : decode cX1_addRiver 57 = .ok (.aload_n 1, 1) := by decide +kernel
theorem dX1_addRiver_58 : decode cX1_addRiver 58 = .ok (.getfield 146, 3) := by decide +kernel
theorem dX1_addRiver_61 : decode cX1_addRiver 61 = .ok (.iload 4, 2) := by decide +kernel
theorem dX1_addRiver_63 : decode cX1_addRiver 63 = .ok (.iaload, 1) := by decide +kernel
theorem dX1_addRiver_64 : decode cX1_addRiver 64 = .ok (.invokestatic 87, 3) := by decide +kernel
theorem dX1_addRiver_67 : decode cX1_addRiver 67 = .ok (.istore_n 2, 1) := by decide +kernel
theorem dX1_addRiver_68 : decode cX1_addRiver 68 = .ok (.aload_n 0, 1) := by decide +kernel
theorem dX1_addRiver_69 : decode cX1_addRiver 69 = .ok (.getfield 24, 3) := by decide +kernel
theorem dX1_addRiver_72 : decode cX1_addRiver 72 = .ok (.iload_n 3, 1) := by decide +kernel
theorem dX1_addRiver_73 : decode cX1_addRiver 73 = .ok (.iload 4, 2) := by decide +kernel
theorem dX1_addRiver_75 : decode cX1_addRiver 75 = .ok (.iadd, 1) := by decide +kernel
theorem dX1_addRiver_76 : decode cX1_addRiver 76 = .ok (.iconst 1, 1) := by decide +kernel
theorem dX1_addRiver_77 : decode cX1_addRiver 77 = .ok (.iadd, 1) := by decide +kernel
theorem dX1_addRiver_78 : decode cX1_addRiver 78 = .ok (.iload_n 2, 1) := by decide +kernel
theorem dX1_addRiver_79 : decode cX1_addRiver 79 = .ok (.iastore, 1) := by decide +kernel
theorem dX1_addRiver_80 : decode cX1_addRiver 80 = .ok (.iinc 4 1, 3) := by decide +kernel
theorem dX1_addRiver_83 : decode cX1_addRiver 83 = .ok (.goto (-43), 3) := by decide +kernel
theorem dX1_addRiver_86 : decode cX1_addRiver 86 = .ok (.aload_n 0, 1) := by decide +kernel
theorem dX1_addRiver_87 : decode cX1_addRiver 87 = .ok (.getfield 27, 3) := by decide +kernel
theorem dX1_addRiver_90 : decode cX1_addRiver 90 = .ok (.aload_n 0, 1) := by decide +kernel
theorem dX1_addRiver_91 : decode cX1_addRiver 91 = .ok (.getfield 58, 3) := by decide +kernel
theorem dX1_addRiver_94 : decode cX1_addRiver 94 = .ok (.aload_n 1, 1) := by decide +kernel
theorem dX1_addRiver_95 : decode cX1_addRiver 95 = .ok (.getfield 143, 3) := by decide +kernel
theorem dX1_addRiver_98 : decode cX1_addRiver 98 = .ok (.iastore, 1) := by decide +kernel
theorem dX1_addRiver_99 : decode cX1_addRiver 99 = .ok (.aload_n 0, 1) := by decide +kernel
theorem dX1_addRiver_100 : decode cX1_addRiver 100 = .ok (.getfield 30, 3) := by decide +kernel
theorem dX1_addRiver_103 : decode cX1_addRiver 103 = .ok (.aload_n 0, 1) := by decide +kernel
theorem dX1_addRiver_104 : decode cX1_addRiver 104 = .ok (.getfield 58, 3) := by decide +kernel
theorem dX1_addRiver_107 : decode cX1_addRiver 107 = .ok (.aload_n 1, 1) := by decide +kernel
theorem dX1_addRiver_108 : decode cX1_addRiver 108 = .ok (.getfield 105, 3) := by decide +kernel
theorem dX1_addRiver_111 : decode cX1_addRiver 111 = .ok (.iastore, 1) := by decide +kernel
theorem dX1_addRiver_112 : decode cX1_addRiver 112 = .ok (.aload_n 0, 1) := by decide +kernel
theorem dX1_addRiver_113 : decode cX1_addRiver 113 = .ok (.dup, 1) := by decide +kernel
theorem dX1_addRiver_114 : decode cX1_addRiver 114 = .ok (.getfield 58, 3) := by decide +kernel
theorem dX1_addRiver_117 : decode cX1_addRiver 117 = .ok (.iconst 1, 1) := by decide +kernel
theorem dX1_addRiver_118 : decode cX1_addRiver 118 = .ok (.iadd, 1) := by decide +kernel
theorem dX1_addRiver_119 : decode cX1_addRiver 119 = .ok (.putfield 58, 3) := by decide +kernel
theorem dX1_addRiver_122 : decode cX1_addRiver 122 = .ok (.aload_n 0, 1) := by decide +kernel
theorem dX1_addRiver_123 : decode cX1_addRiver 123 = .ok (.getfield 58, 3) := by decide +kernel
theorem dX1_addRiver_126 : decode cX1_addRiver 126 = .ok (.iconst 1, 1) := by decide +kernel
theorem dX1_addRiver_127 : decode cX1_addRiver 127 = .ok (.isub, 1) := by decide +kernel
theorem dX1_addRiver_128 : decode cX1_addRiver 128 = .ok (.ireturn, 1) := by decide +kernel
theorem dX1_removeRiver_0 : decode cX1_removeRiver 0 = .ok (.aload_n 0, 1) := by decide +kernel
theorem dX1_removeRiver_1 : decode cX1_removeRiver 1 = .ok (.iload_n 1, 1) := by decide +kernel
theorem dX1_removeRiver_2 : decode cX1_removeRiver 2 = .ok (.invokevirtual 94, 3) := by decide +kernel
theorem dX1_removeRiver_5 : decode cX1_removeRiver 5 = .ok (.ifCond .ne 8, 3) := by decide +kernel
theorem dX1_removeRiver_8 : decode cX1_removeRiver 8 = .ok (.aload_n 0, 1) := by decide +kernel
theorem dX1_removeRiver_9 : decode cX1_removeRiver 9 = .ok (.getfield 58, 3) := by decide +kernel
theorem dX1_removeRiver_12 : decode cX1_removeRiver 12 = .ok (.ireturn, 1) := by decide +kernel
theorem dX1_removeRiver_13 : decode cX1_removeRiver 13 = .ok (.iload_n 1, 1) := by decide +kernel
theorem dX1_removeRiver_14 : decode cX1_removeRiver 14 = .ok (.istore_n 2, 1) := by decide +kernel
theorem dX1_removeRiver_15 : decode cX1_removeRiver 15 = .ok (.iload_n 2, 1) := by decide +kernel
theorem dX1_removeRiver_16 : decode cX1_removeRiver 16 = .ok (.iconst 1, 1) := by decide +kernel
theorem dX1_removeRiver_17 : decode cX1_removeRiver 17 = .ok (.iadd, 1) := by decide +kernel
theorem dX1_removeRiver_18 : decode cX1_removeRiver 18 = .ok (.aload_n 0, 1) := by decide +kernel
theorem dX1_removeRiver_19 : decode cX1_removeRiver 19 = .ok (.getfield 58, 3) := by decide +kernel
theorem dX1_removeRiver_22 : decode cX1_removeRiver 22 = .ok (.if_icmp .ge 67, 3) := by decide +kernel
theorem dX1_removeRiver_25 : decode cX1_removeRiver 25 = .ok (.iload_n 2, 1) := by decide +kernel
theorem dX1_removeRiver_26 : decode cX1_removeRiver 26 = .ok (.iconst 1, 1) := by decide +kernel
theorem dX1_removeRiver_27 : decode cX1_removeRiver 27 = .ok (.iadd, 1) := by decide +kernel
theorem dX1_removeRiver_28 : decode cX1_removeRiver 28 = .ok (.iconst 4, 1) := by decide +kernel
theorem dX1_removeRiver_29 : decode cX1_removeRiver 29 = .ok (.if_icmp .ge 60, 3) := by decide +kernel
theorem dX1_removeRiver_32 : decode cX1_removeRiver 32 = .ok (.aload_n 0, 1) := by decide +kernel
theorem dX1_removeRiver_33 : decode cX1_removeRiver 33 = .ok (.getfield 27, 3) := by decide +kernel
theorem dX1_removeRiver_36 : decode cX1_removeRiver 36 = .ok (.iload_n 2, 1) := by decide +kernel
theorem dX1_removeRiver_37 : decode cX1_removeRiver 37 = .ok (.aload_n 0, 1) := by decide +kernel
theorem dX1_removeRiver_38 : decode cX1_removeRiver 38 = .ok (.getfield 27, 3) := by decide +kernel
theorem dX1_removeRiver_41 : decode cX1_removeRiver 41 = .ok (.iload_n 2, 1) := by decide +kernel
theorem dX1_removeRiver_42 : decode cX1_removeRiver 42 = .ok (.iconst 1, 1) := by decide +kernel
theorem dX1_removeRiver_43 : decode cX1_removeRiver 43 = .ok (.iadd, 1) := by decide +kernel
theorem dX1_removeRiver_44 : decode cX1_removeRiver 44 = .ok (.iaload, 1) := by decide +kernel
theorem dX1_removeRiver_45 : decode cX1_removeRiver 45 = .ok (.iastore, 1) := by decide +kernel
theorem dX1_removeRiver_46 : decode cX1_removeRiver 46 = .ok (.aload_n 0, 1) := by decide +kernel
theorem dX1_removeRiver_47 : decode cX1_removeRiver 47 = .ok (.getfield 30, 3) := by decide +kernel
theorem dX1_removeRiver_50 : decode cX1_removeRiver 50 = .ok (.iload_n 2, 1) := by decide +kernel
theorem dX1_removeRiver_51 : decode cX1_removeRiver 51 = .ok (.aload_n 0, 1) := by decide +kernel
theorem dX1_removeRiver_52 : decode cX1_removeRiver 52 = .ok (.getfield 30, 3) := by decide +kernel
theorem dX1_removeRiver_55 : decode cX1_removeRiver 55 = .ok (.iload_n 2, 1) := by decide +kernel
theorem dX1_removeRiver_56 : decode cX1_removeRiver 56 = .ok (.iconst 1, 1) := by decide +kernel
theorem dX1_removeRiver_57 : decode cX1_removeRiver 57 = .ok (.iadd, 1) := by decide +kernel
theorem dX1_removeRiver_58 : decode cX1_removeRiver 58 = .ok (.iaload, 1) := by decide +kernel
theorem dX1_removeRiver_59 : decode cX1_removeRiver 59 = .ok (.iastore, 1) := by decide +kernel
theorem dX1_removeRiver_60 : decode cX1_removeRiver 60 = .ok (.aload_n 0, 1) := by decide +kernel
theorem dX1_removeRiver_61 : decode cX1_removeRiver 61 = .ok (.getfield 24, 3) := by decide +kernel
theorem dX1_removeRiver_64 : decode cX1_removeRiver 64 = .ok (.iload_n 2, 1) := by decide +kernel
theorem dX1_removeRiver_65 : decode cX1_removeRiver 65 = .ok (.iconst 1, 1) := by decide +kernel
theorem dX1_removeRiver_66 : decode cX1_removeRiver 66 = .ok (.iadd, 1) := by decide +kernel
theorem dX1_removeRiver_67 : decode cX1_removeRiver 67 = .ok (.bipush 13, 2) := by decide +kernel
theorem dX1_removeRiver_69 : decode cX1_removeRiver 69 = .ok (.imul, 1) := by decide +kernel
theorem dX1_removeRiver_70 : decode cX1_removeRiver 70 = .ok (.aload_n 0, 1) := by decide +kernel
theorem dX1_removeRiver_71 : decode cX1_removeRiver 71 = .ok (.getfield 24, 3) := by decide +kernel
theorem dX1_removeRiver_74 : decode cX1_removeRiver 74 = .ok (.iload_n 2, 1) := by decide +kernel
theorem dX1_removeRiver_75 : decode cX1_removeRiver 75 = .ok (.bipush 13, 2) := by decide +kernel
theorem dX1_removeRiver_77 : decode cX1_removeRiver 77 = .ok (.imul, 1) := by decide +kernel
theorem dX1_removeRiver_78 : decode cX1_removeRiver 78 = .ok (.bipush 13, 2) := by decide +kernel
theorem dX1_removeRiver_80 : decode cX1_removeRiver 80 = .ok (.invokestatic 52, 3) := by decide +kernel
theorem dX1_removeRiver_83 : decode cX1_removeRiver 83 = .ok (.iinc 2 1, 3) := by decide +kernel
theorem dX1_removeRiver_86 : decode cX1_removeRiver 86 = .ok (.goto (-71), 3) := by decide +kernel
theorem dX1_removeRiver_89 : decode cX1_removeRiver 89 = .ok (.aload_n 0, 1) := by decide +kernel
theorem dX1_removeRiver_90 : decode cX1_removeRiver 90 = .ok (.dup, 1) := by decide +kernel
theorem dX1_removeRiver_91 : decode cX1_removeRiver 91 = .ok (.getfield 58, 3) := by decide +kernel
theorem dX1_removeRiver_94 : decode cX1_removeRiver 94 = .ok (.iconst 1, 1) := by decide +kernel
theorem dX1_removeRiver_95 : decode cX1_removeRiver 95 = .ok (.isub, 1) := by decide +kernel
theorem dX1_removeRiver_96 : decode cX1_removeRiver 96 = .ok (.putfield 58, 3) := by decide +kernel
theorem dX1_removeRiver_99 : decode cX1_removeRiver 99 = .ok (.aload_n 0, 1) := by decide +kernel
theorem dX1_removeRiver_100 : decode cX1_removeRiver 100 = .ok (.getfield 58, 3) := by decide +kernel
theorem dX1_removeRiver_103 : decode cX1_removeRiver 103 = .ok (.ireturn, 1) := by decide +kernel
theorem dX1_addDragon_0 : decode cX1_addDragon 0 = .ok (.aload_n 0, 1) := by decide +kernel
theorem dX1_addDragon_1 : decode cX1_addDragon 1 = .ok (.iload_n 1, 1) := by decide +kernel
theorem dX1_addDragon_2 : decode cX1_addDragon 2 = .ok (.invokevirtual 91, 3) := by decide +kernel
theorem dX1_addDragon_5 : decode cX1_addDragon 5 = .ok (.istore_n 3, 1) := by decide +kernel
theorem dX1_addDragon_6 : decode cX1_addDragon 6 = .ok (.aload_n 0, 1) := by decide +kernel
theorem dX1_addDragon_7 : decode cX1_addDragon 7 = .ok (.getfield 61, 3) := by decide +kernel
theorem dX1_addDragon_10 : decode cX1_addDragon 10 = .ok (.ifCond .lt 18, 3) := by decide +kernel
theorem dX1_addDragon_13 : decode cX1_addDragon 13 = .ok (.aload_n 0, 1) := by decide +kernel
theorem dX1_addDragon_14 : decode cX1_addDragon 14 = .ok (.getfield 61, 3) := by decide +kernel
theorem dX1_addDragon_17 : decode cX1_addDragon 17 = .ok (.iconst 5, 1) := by decide +kernel
theorem dX1_addDragon_18 : decode cX1_addDragon 18 = .ok (.if_icmp .ge 10, 3) := by decide +kernel
theorem dX1_addDragon_21 : decode cX1_addDragon 21 = .ok (.iload_n 3, 1) := by decide +kernel
theorem dX1_addDragon_22 : decode cX1_addDragon 22 = .ok (.invokestatic 80, 3) := by decide +kernel
theorem dX1_addDragon_25 : decode cX1_addDragon 25 = .ok (.ifCond .ne 5, 3) := by decide +kernel
theorem dX1_addDragon_28 : decode cX1_addDragon 28 = .ok (.iconst (-1), 1) := by decide +kernel
theorem dX1_addDragon_29 : decode cX1_addDragon 29 = .ok (.ireturn, 1) := by decide +kernel
theorem dX1_addDragon_30 : decode cX1_addDragon 30 = .ok (.aload_n 0, 1) := by decide +kernel
theorem dX1_addDragon_31 : decode cX1_addDragon 31 = .ok (.getfield 15, 3) := by decide +kernel
theorem dX1_addDragon_34 : decode cX1_addDragon 34 = .ok (.iload_n 3, 1) := by decide +kernel
theorem dX1_addDragon_35 : decode cX1_addDragon 35 = .ok (.dup2, 1) := by decide +kernel
theorem dX1_addDragon_36 : decode cX1_addDragon 36 = .ok (.iaload, 1) := by decide +kernel
theorem dX1_addDragon_37 : decode cX1_addDragon 37 = .ok (.iload_n 2, 1) := by decide +kernel
theorem dX1_addDragon_38 : decode cX1_addDragon 38 = .ok (.isub, 1) := by decide +kernel
theorem dX1_addDragon_39 : decode cX1_addDragon 39 = .ok (.iastore, 1) := by decide +kernel
theorem dX1_addDragon_40 : decode cX1_addDragon 40 = .ok (.aload_n 0, 1) := by decide +kernel
theorem dX1_addDragon_41 : decode cX1_addDragon 41 = .ok (.getfield 33, 3) := by decide +kernel
theorem dX1_addDragon_44 : decode cX1_addDragon 44 = .ok (.aload_n 0, 1) := by decide +kernel
theorem dX1_addDragon_45 : decode cX1_addDragon 45 = .ok (.getfield 61, 3) := by decide +kernel
theorem dX1_addDragon_48 : decode cX1_addDragon 48 = .ok (.iload_n 1, 1) := by decide +kernel
theorem dX1_addDragon_49 : decode cX1_addDragon 49 = .ok (.iastore, 1) := by decide +kernel
theorem dX1_addDragon_50 : decode cX1_addDragon 50 = .ok (.aload_n 0, 1) := by decide +kernel
theorem dX1_addDragon_51 : decode cX1_addDragon 51 = .ok (.getfield 36, 3) := by decide +kernel
theorem dX1_addDragon_54 : decode cX1_addDragon 54 = .ok (.aload_n 0, 1) := by decide +kernel
theorem dX1_addDragon_55 : decode cX1_addDragon 55 = .ok (.getfield 61, 3) := by decide +kernel
theorem dX1_addDragon_58 : decode cX1_addDragon 58 = .ok (.iload_n 2, 1) := by decide +kernel
theorem dX1_addDragon_59 : decode cX1_addDragon 59 = .ok (.iastore, 1) := by decide +kernel
theorem dX1_addDragon_60 : decode cX1_addDragon 60 = .ok (.aload_n 0, 1) := by decide +kernel
theorem dX1_addDragon_61 : decode cX1_addDragon 61 = .ok (.getfield 39, 3) := by decide +kernel
theorem dX1_addDragon_64 : decode cX1_addDragon 64 = .ok (.aload_n 0, 1) := by decide +kernel
theorem dX1_addDragon_65 : decode cX1_addDragon 65 = .ok (.getfield 61, 3) := by decide +kernel
theorem dX1_addDragon_68 : decode cX1_addDragon 68 = .ok (.iload_n 3, 1) := by decide +kernel
theorem dX1_addDragon_69 : decode cX1_addDragon 69 = .ok (.iastore, 1) := by decide +kernel
theorem dX1_addDragon_70 : decode cX1_addDragon 70 = .ok (.aload_n 0, 1) := by decide +kernel
theorem dX1_addDragon_71 : decode cX1_addDragon 71 = .ok (.dup, 1) := by decide +kernel
theorem dX1_addDragon_72 : decode cX1_addDragon 72 = .ok (.getfield 61, 3) := by decide +kernel
theorem dX1_addDragon_75 : decode cX1_addDragon 75 = .ok (.iconst 1, 1) := by decide +kernel
theorem dX1_addDragon_76 : decode cX1_addDragon 76 = .ok (.iadd, 1) := by decide +kernel
theorem dX1_addDragon_77 : decode cX1_addDragon 77 = .ok (.putfield 61, 3) := by decide +kernel
theorem dX1_addDragon_80 : decode cX1_addDragon 80 = .ok (.aload_n 0, 1) := by decide +kernel
theorem dX1_addDragon_81 : decode cX1_addDragon 81 = .ok (.getfield 61, 3) := by decide +kernel
theorem dX1_addDragon_84 : decode cX1_addDragon 84 = .ok (.iconst 1, 1) := by decide +kernel
theorem dX1_addDragon_85 : decode cX1_addDragon 85 = .ok (.isub, 1) := by decide +kernel
theorem dX1_addDragon_86 : decode cX1_addDragon 86 = .ok (.ireturn, 1) := by decide +kernel
theorem dX1_chase_0 : decode cX1_chase 0 = .ok (.aload_n 0, 1) := by decide +kernel
theorem dX1_chase_1 : decode cX1_chase 1 = .ok (.iload_n 1, 1) := by decide +kernel
theorem dX1_chase_2 : decode cX1_chase 2 = .ok (.invokevirtual 137, 3) := by decide +kernel
theorem dX1_chase_5 : decode cX1_chase 5 = .ok (.ifCond .ne 5, 3) := by decide +kernel
theorem dX1_chase_8 : decode cX1_chase 8 = .ok (.iconst (-1), 1) := by decide +kernel
theorem dX1_chase_9 : decode cX1_chase 9 = .ok (.ireturn, 1) := by decide +kernel
theorem dX1_chase_10 : decode cX1_chase 10 = .ok (.aload_n 0, 1) := by decide +kernel
theorem dX1_chase_11 : decode cX1_chase 11 = .ok (.getfield 36, 3) := by decide +kernel
theorem dX1_chase_14 : decode cX1_chase 14 = .ok (.iload_n 1, 1) := by decide +kernel
theorem dX1_chase_15 : decode cX1_chase 15 = .ok (.iaload, 1) := by decide +kernel
theorem dX1_chase_16 : decode cX1_chase 16 = .ok (.istore_n 2, 1) := by decide +kernel
theorem dX1_chase_17 : decode cX1_chase 17 = .ok (.aload_n 0, 1) := by decide +kernel
theorem dX1_chase_18 : decode cX1_chase 18 = .ok (.dup, 1) := by decide +kernel
theorem dX1_chase_19 : decode cX1_chase 19 = .ok (.getfield 70, 3) := by decide +kernel
theorem dX1_chase_22 : decode cX1_chase 22 = .ok (.iconst 1, 1) := by decide +kernel
theorem dX1_chase_23 : decode cX1_chase 23 = .ok (.iadd, 1) := by decide +kernel
theorem dX1_chase_24 : decode cX1_chase 24 = .ok (.putfield 70, 3) := by decide +kernel
theorem dX1_chase_27 : decode cX1_chase 27 = .ok (.aload_n 0, 1) := by decide +kernel
theorem dX1_chase_28 : decode cX1_chase 28 = .ok (.dup, 1) := by decide +kernel
theorem dX1_chase_29 : decode cX1_chase 29 = .ok (.getfield 73, 3) := by decide +kernel
theorem dX1_chase_32 : decode cX1_chase 32 = .ok (.iload_n 2, 1) := by decide +kernel
theorem dX1_chase_33 : decode cX1_chase 33 = .ok (.iadd, 1) := by decide +kernel
theorem dX1_chase_34 : decode cX1_chase 34 = .ok (.putfield 73, 3) := by decide +kernel
theorem dX1_chase_37 : decode cX1_chase 37 = .ok (.aload_n 0, 1) := by decide +kernel
theorem dX1_chase_38 : decode cX1_chase 38 = .ok (.iload_n 1, 1) := by decide +kernel
theorem dX1_chase_39 : decode cX1_chase 39 = .ok (.invokevirtual 140, 3) := by decide +kernel
theorem dX1_chase_42 : decode cX1_chase 42 = .ok (.iload_n 2, 1) := by decide +kernel
theorem dX1_chase_43 : decode cX1_chase 43 = .ok (.ireturn, 1) := by decide +kernel
theorem dX1_removeDragon_0 : decode cX1_removeDragon 0 = .ok (.iload_n 1, 1) := by decide +kernel
theorem dX1_removeDragon_1 : decode cX1_removeDragon 1 = .ok (.istore_n 2, 1) := by decide +kernel
theorem dX1_removeDragon_2 : decode cX1_removeDragon 2 = .ok (.iload_n 2, 1) := by decide +kernel
theorem dX1_removeDragon_3 : decode cX1_removeDragon 3 = .ok (.ifCond .lt 68, 3) := by decide +kernel
theorem dX1_removeDragon_6 : decode cX1_removeDragon 6 = .ok (.iload_n 2, 1) := by decide +kernel
theorem dX1_removeDragon_7 : decode cX1_removeDragon 7 = .ok (.iconst 1, 1) := by decide +kernel
theorem dX1_removeDragon_8 : decode cX1_removeDragon 8 = .ok (.iadd, 1) := by decide +kernel
theorem dX1_removeDragon_9 : decode cX1_removeDragon 9 = .ok (.aload_n 0, 1) := by decide +kernel
theorem dX1_removeDragon_10 : decode cX1_removeDragon 10 = .ok (.getfield 61, 3) := by decide +kernel
theorem dX1_removeDragon_13 : decode cX1_removeDragon 13 = .ok (.if_icmp .ge 58, 3) := by decide +kernel
theorem dX1_removeDragon_16 : decode cX1_removeDragon 16 = .ok (.iload_n 2, 1) := by decide +kernel
theorem dX1_removeDragon_17 : decode cX1_removeDragon 17 = .ok (.iconst 1, 1) := by decide +kernel
theorem dX1_removeDragon_18 : decode cX1_removeDragon 18 = .ok (.iadd, 1) := by decide +kernel
theorem dX1_removeDragon_19 : decode cX1_removeDragon 19 = .ok (.iconst 5, 1) := by decide +kernel
theorem dX1_removeDragon_20 : decode cX1_removeDragon 20 = .ok (.if_icmp .ge 51, 3) := by decide +kernel
theorem dX1_removeDragon_23 : decode cX1_removeDragon 23 = .ok (.aload_n 0, 1) := by decide +kernel
theorem dX1_removeDragon_24 : decode cX1_removeDragon 24 = .ok (.getfield 33, 3) := by decide +kernel
theorem dX1_removeDragon_27 : decode cX1_removeDragon 27 = .ok (.iload_n 2, 1) := by decide +kernel
theorem dX1_removeDragon_28 : decode cX1_removeDragon 28 = .ok (.aload_n 0, 1) := by decide +kernel
theorem dX1_removeDragon_29 : decode cX1_removeDragon 29 = .ok (.getfield 33, 3) := by decide +kernel
theorem dX1_removeDragon_32 : decode cX1_removeDragon 32 = .ok (.iload_n 2, 1) := by decide +kernel
theorem dX1_removeDragon_33 : decode cX1_removeDragon 33 = .ok (.iconst 1, 1) := by decide +kernel
theorem dX1_removeDragon_34 : decode cX1_removeDragon 34 = .ok (.iadd, 1) := by decide +kernel
theorem dX1_removeDragon_35 : decode cX1_removeDragon 35 = .ok (.iaload, 1) := by decide +kernel
theorem dX1_removeDragon_36 : decode cX1_removeDragon 36 = .ok (.iastore, 1) := by decide +kernel
theorem dX1_removeDragon_37 : decode cX1_removeDragon 37 = .ok (.aload_n 0, 1) := by decide +kernel
theorem dX1_removeDragon_38 : decode cX1_removeDragon 38 = .ok (.getfield 36, 3) := by decide +kernel
theorem dX1_removeDragon_41 : decode cX1_removeDragon 41 = .ok (.iload_n 2, 1) := by decide +kernel
theorem dX1_removeDragon_42 : decode cX1_removeDragon 42 = .ok (.aload_n 0, 1) := by decide +kernel
theorem dX1_removeDragon_43 : decode cX1_removeDragon 43 = .ok (.getfield 36, 3) := by decide +kernel
theorem dX1_removeDragon_46 : decode cX1_removeDragon 46 = .ok (.iload_n 2, 1) := by decide +kernel
theorem dX1_removeDragon_47 : decode cX1_removeDragon 47 = .ok (.iconst 1, 1) := by decide +kernel
theorem dX1_removeDragon_48 : decode cX1_removeDragon 48 = .ok (.iadd, 1) := by decide +kernel
theorem dX1_removeDragon_49 : decode cX1_removeDragon 49 = .ok (.iaload, 1) := by decide +kernel
theorem dX1_removeDragon_50 : decode cX1_removeDragon 50 = .ok (.iastore, 1) := by decide +kernel
theorem dX1_removeDragon_51 : decode cX1_removeDragon 51 = .ok (.aload_n 0, 1) := by decide +kernel
theorem dX1_removeDragon_52 : decode cX1_removeDragon 52 = .ok (.getfield 39, 3) := by decide +kernel
theorem dX1_removeDragon_55 : decode cX1_removeDragon 55 = .ok (.iload_n 2, 1) := by decide +kernel
theorem dX1_removeDragon_56 : decode cX1_removeDragon 56 = .ok (.aload_n 0, 1) := by decide +kernel
theorem dX1_removeDragon_57 : decode cX1_removeDragon 57 = .ok (.getfield 39, 3) := by decide +kernel
theorem dX1_removeDragon_60 : decode cX1_removeDragon 60 = .ok (.iload_n 2, 1) := by decide +kernel
theorem dX1_removeDragon_61 : decode cX1_removeDragon 61 = .ok (.iconst 1, 1) := by decide +kernel
theorem dX1_removeDragon_62 : decode cX1_removeDragon 62 = .ok (.iadd, 1) := by decide +kernel
theorem dX1_removeDragon_63 : decode cX1_removeDragon 63 = .ok (.iaload, 1) := by decide +kernel
theorem dX1_removeDragon_64 : decode cX1_removeDragon 64 = .ok (.iastore, 1) := by decide +kernel
theorem dX1_removeDragon_65 : decode cX1_removeDragon 65 = .ok (.iinc 2 1, 3) := by decide +kernel
theorem dX1_removeDragon_68 : decode cX1_removeDragon 68 = .ok (.goto (-66), 3) := by decide +kernel
theorem dX1_removeDragon_71 : decode cX1_removeDragon 71 = .ok (.aload_n 0, 1) := by decide +kernel
theorem dX1_removeDragon_72 : decode cX1_removeDragon 72 = .ok (.dup, 1) := by decide +kernel
theorem dX1_removeDragon_73 : decode cX1_removeDragon 73 = .ok (.getfield 61, 3) := by decide +kernel
theorem dX1_removeDragon_76 : decode cX1_removeDragon 76 = .ok (.iconst 1, 1) := by decide +kernel
theorem dX1_removeDragon_77 : decode cX1_removeDragon 77 = .ok (.isub, 1) := by decide +kernel
theorem dX1_removeDragon_78 : decode cX1_removeDragon 78 = .ok (.putfield 61, 3) := by decide +kernel
theorem dX1_removeDragon_81 : decode cX1_removeDragon 81 = .ok (.return_, 1) := by decide +kernel
theorem dX2_init_0 : decode cX2_init 0 = .ok (.aload_n 0, 1) := by decide +kernel
theorem dX2_init_1 : decode cX2_init 1 = .ok (.invokespecial 3, 3) := by decide +kernel
theorem dX2_init_4 : decode cX2_init 4 = .ok (.aload_n 0, 1) := by decide +kernel
theorem dX2_init_5 : decode cX2_init 5 = .ok (.bipush 12, 2) := by decide +kernel
theorem dX2_init_7 : decode cX2_init 7 = .ok (.newarray .int, 2) := by decide +kernel
theorem dX2_init_9 : decode cX2_init 9 = .ok (.putfield 9, 3) := by decide +kernel
theorem dX2_init_12 : decode cX2_init 12 = .ok (.return_, 1) := by decide +kernel
theorem dX2_set_0 : decode cX2_set 0 = .ok (.aload_n 0, 1) := by decide +kernel
theorem dX2_set_1 : decode cX2_set 1 = .ok (.iload_n 1, 1) := by decide +kernel
theorem dX2_set_2 : decode cX2_set 2 = .ok (.putfield 15, 3) := by decide +kernel
theorem dX2_set_5 : decode cX2_set 5 = .ok (.aload_n 0, 1) := by decide +kernel
theorem dX2_set_6 : decode cX2_set 6 = .ok (.iload_n 2, 1) := by decide +kernel
theorem dX2_set_7 : decode cX2_set 7 = .ok (.putfield 19, 3) := by decide +kernel
theorem dX2_set_10 : decode cX2_set 10 = .ok (.aload_n 0, 1) := by decide +kernel
theorem dX2_set_11 : decode cX2_set 11 = .ok (.iload_n 3, 1) := by decide +kernel
theorem dX2_set_12 : decode cX2_set 12 = .ok (.putfield 22, 3) := by decide +kernel
theorem dX2_set_15 : decode cX2_set 15 = .ok (.aload_n 0, 1) := by decide +kernel
theorem dX2_set_16 : decode cX2_set 16 = .ok (.iconst 0, 1) := by decide +kernel
theorem dX2_set_17 : decode cX2_set 17 = .ok (.putfield 25, 3) := by decide +kernel
theorem dX2_set_20 : decode cX2_set 20 = .ok (.return_, 1) := by decide +kernel
theorem dX2_leavingStep_0 : decode cX2_leavingStep 0 = .ok (.aload_n 0, 1) := by decide +kernel
theorem dX2_leavingStep_1 : decode cX2_leavingStep 1 = .ok (.getfield 19, 3) := by decide +kernel
theorem dX2_leavingStep_4 : decode cX2_leavingStep 4 = .ok (.istore_n 1, 1) := by decide +kernel
theorem dX2_leavingStep_5 : decode cX2_leavingStep 5 = .ok (.iconst 0, 1) := by decide +kernel
theorem dX2_leavingStep_6 : decode cX2_leavingStep 6 = .ok (.istore_n 2, 1) := by decide +kernel
theorem dX2_leavingStep_7 : decode cX2_leavingStep 7 = .ok (.iload_n 2, 1) := by decide +kernel
theorem dX2_leavingStep_8 : decode cX2_leavingStep 8 = .ok (.aload_n 0, 1) := by decide +kernel
theorem dX2_leavingStep_9 : decode cX2_leavingStep 9 = .ok (.getfield 25, 3) := by decide +kernel
theorem dX2_leavingStep_12 : decode cX2_leavingStep 12 = .ok (.if_icmp .ge 33, 3) := by decide +kernel
theorem dX2_leavingStep_15 : decode cX2_leavingStep 15 = .ok (.iload_n 2, 1) := by decide +kernel
theorem dX2_leavingStep_16 : decode cX2_leavingStep 16 = .ok (.bipush 12, 2) := by decide +kernel
theorem dX2_leavingStep_18 : decode cX2_leavingStep 18 = .ok (.if_icmp .ge 27, 3) := by decide +kernel
theorem dX2_leavingStep_21 : decode cX2_leavingStep 21 = .ok (.iload_n 1, 1) := by decide +kernel
theorem dX2_leavingStep_22 : decode cX2_leavingStep 22 = .ok (.aload_n 0, 1) := by decide +kernel
theorem dX2_leavingStep_23 : decode cX2_leavingStep 23 = .ok (.getfield 9, 3) := by decide +kernel
theorem dX2_leavingStep_26 : decode cX2_leavingStep 26 = .ok (.iload_n 2, 1) := by decide +kernel
theorem dX2_leavingStep_27 : decode cX2_leavingStep 27 = .ok (.iaload, 1) := by decide +kernel
theorem dX2_leavingStep_28 : decode cX2_leavingStep 28 = .ok (.invokestatic 28, 3) := by decide +kernel
theorem dX2_leavingStep_31 : decode cX2_leavingStep 31 = .ok (.istore_n 1, 1) := by decide +kernel
theorem dX2_leavingStep_32 : decode cX2_leavingStep 32 = .ok (.iload_n 1, 1) := by decide +kernel
theorem dX2_leavingStep_33 : decode cX2_leavingStep 33 = .ok (.iconst (-1), 1) := by decide +kernel
theorem dX2_leavingStep_34 : decode cX2_leavingStep 34 = .ok (.if_icmp .ne 5, 3) := by decide +kernel
theorem dX2_leavingStep_37 : decode cX2_leavingStep 37 = .ok (.iload_n 2, 1) := by decide +kernel
theorem dX2_leavingStep_38 : decode cX2_leavingStep 38 = .ok (.ireturn, 1) := by decide +kernel
theorem dX2_leavingStep_39 : decode cX2_leavingStep 39 = .ok (.iinc 2 1, 3) := by decide +kernel
theorem dX2_leavingStep_42 : decode cX2_leavingStep 42 = .ok (.goto (-35), 3) := by decide +kernel
theorem dX2_leavingStep_45 : decode cX2_leavingStep 45 = .ok (.iconst (-1), 1) := by decide +kernel
theorem dX2_leavingStep_46 : decode cX2_leavingStep 46 = .ok (.ireturn, 1) := by decide +kernel
theorem dX3_depth_0 : decode cX3_depth 0 = .ok (.iload_n 0, 1) := by decide +kernel
theorem dX3_depth_1 : decode cX3_depth 1 = .ok (.bipush 8, 2) := by decide +kernel
theorem dX3_depth_3 : decode cX3_depth 3 = .ok (.iload_n 0, 1) := by decide +kernel
theorem dX3_depth_4 : decode cX3_depth 4 = .ok (.isub, 1) := by decide +kernel
theorem dX3_depth_5 : decode cX3_depth 5 = .ok (.invokestatic 9, 3) := by decide +kernel
theorem dX3_depth_8 : decode cX3_depth 8 = .ok (.ireturn, 1) := by decide +kernel
theorem dX3_ownerAt_0 : decode cX3_ownerAt 0 = .ok (.aload_n 0, 1) := by decide +kernel
theorem dX3_ownerAt_1 : decode cX3_ownerAt 1 = .ok (.iload_n 1, 1) := by decide +kernel
theorem dX3_ownerAt_2 : decode cX3_ownerAt 2 = .ok (.ifCond .eq 12, 3) := by decide +kernel
theorem dX3_ownerAt_5 : decode cX3_ownerAt 5 = .ok (.iload_n 2, 1) := by decide +kernel
theorem dX3_ownerAt_6 : decode cX3_ownerAt 6 = .ok (.bipush 8, 2) := by decide +kernel
theorem dX3_ownerAt_8 : decode cX3_ownerAt 8 = .ok (.imul, 1) := by decide +kernel
theorem dX3_ownerAt_9 : decode cX3_ownerAt 9 = .ok (.iload_n 3, 1) := by decide +kernel
theorem dX3_ownerAt_10 : decode cX3_ownerAt 10 = .ok (.iadd, 1) := by decide +kernel
theorem dX3_ownerAt_11 : decode cX3_ownerAt 11 = .ok (.goto 9, 3) := by decide +kernel
theorem dX3_ownerAt_14 : decode cX3_ownerAt 14 = .ok (.iload_n 3, 1) := by decide +kernel
theorem dX3_ownerAt_15 : decode cX3_ownerAt 15 = .ok (.bipush 8, 2) := by decide +kernel
theorem dX3_ownerAt_17 : decode cX3_ownerAt 17 = .ok (.imul, 1) := by decide +kernel
theorem dX3_ownerAt_18 : decode cX3_ownerAt 18 = .ok (.iload_n 2, 1) := by decide +kernel
theorem dX3_ownerAt_19 : decode cX3_ownerAt 19 = .ok (.iadd, 1) := by decide +kernel
theorem dX3_ownerAt_20 : decode cX3_ownerAt 20 = .ok (.invokevirtual 15, 3) := by decide +kernel
theorem dX3_ownerAt_23 : decode cX3_ownerAt 23 = .ok (.ireturn, 1) := by decide +kernel
theorem dX3_pairByPair_0 : decode cX3_pairByPair 0 = .ok (.iconst 0, 1) := by decide +kernel
theorem dX3_pairByPair_1 : decode cX3_pairByPair 1 = .ok (.istore_n 3, 1) := by decide +kernel
theorem dX3_pairByPair_2 : decode cX3_pairByPair 2 = .ok (.iconst 0, 1) := by decide +kernel
theorem dX3_pairByPair_3 : decode cX3_pairByPair 3 = .ok (.istore 4, 2) := by decide +kernel
theorem dX3_pairByPair_5 : decode cX3_pairByPair 5 = .ok (.iload 4, 2) := by decide +kernel
theorem dX3_pairByPair_7 : decode cX3_pairByPair 7 = .ok (.iload_n 2, 1) := by decide +kernel
theorem dX3_pairByPair_8 : decode cX3_pairByPair 8 = .ok (.invokestatic 21, 3) := by decide +kernel
theorem dX3_pairByPair_11 : decode cX3_pairByPair 11 = .ok (.if_icmp .ge 55, 3) := by decide +kernel
theorem dX3_pairByPair_14 : decode cX3_pairByPair 14 = .ok (.iconst 0, 1) := by decide +kernel
theorem dX3_pairByPair_15 : decode cX3_pairByPair 15 = .ok (.istore 5, 2) := by decide +kernel
theorem dX3_pairByPair_17 : decode cX3_pairByPair 17 = .ok (.iload 5, 2) := by decide +kernel
theorem dX3_pairByPair_19 : decode cX3_pairByPair 19 = .ok (.bipush 8, 2) := by decide +kernel
theorem dX3_pairByPair_21 : decode cX3_pairByPair 21 = .ok (.if_icmp .ge 39, 3) := by decide +kernel
theorem dX3_pairByPair_24 : decode cX3_pairByPair 24 = .ok (.aload_n 0, 1) := by decide +kernel
theorem dX3_pairByPair_25 : decode cX3_pairByPair 25 = .ok (.iload_n 1, 1) := by decide +kernel
theorem dX3_pairByPair_26 : decode cX3_pairByPair 26 = .ok (.iload_n 2, 1) := by decide +kernel
theorem dX3_pairByPair_27 : decode cX3_pairByPair 27 = .ok (.iconst 1, 1) := by decide +kernel
theorem dX3_pairByPair_28 : decode cX3_pairByPair 28 = .ok (.isub, 1) := by decide +kernel
theorem dX3_pairByPair_29 : decode cX3_pairByPair 29 = .ok (.iload 4, 2) := by decide +kernel
theorem dX3_pairByPair_31 : decode cX3_pairByPair 31 = .ok (.isub, 1) := by decide +kernel
theorem dX3_pairByPair_32 : decode cX3_pairByPair 32 = .ok (.iload 5, 2) := by decide +kernel
theorem dX3_pairByPair_34 : decode cX3_pairByPair 34 = .ok (.invokestatic 26, 3) := by decide +kernel
theorem dX3_pairByPair_37 : decode cX3_pairByPair 37 = .ok (.aload_n 0, 1) := by decide +kernel
theorem dX3_pairByPair_38 : decode cX3_pairByPair 38 = .ok (.iload_n 1, 1) := by decide +kernel
theorem dX3_pairByPair_39 : decode cX3_pairByPair 39 = .ok (.iload_n 2, 1) := by decide +kernel
theorem dX3_pairByPair_40 : decode cX3_pairByPair 40 = .ok (.iload 4, 2) := by decide +kernel
theorem dX3_pairByPair_42 : decode cX3_pairByPair 42 = .ok (.iadd, 1) := by decide +kernel
theorem dX3_pairByPair_43 : decode cX3_pairByPair 43 = .ok (.iload 5, 2) := by decide +kernel
theorem dX3_pairByPair_45 : decode cX3_pairByPair 45 = .ok (.invokestatic 26, 3) := by decide +kernel
theorem dX3_pairByPair_48 : decode cX3_pairByPair 48 = .ok (.if_icmp .eq 6, 3) := by decide +kernel
theorem dX3_pairByPair_51 : decode cX3_pairByPair 51 = .ok (.iinc 3 1, 3) := by decide +kernel
theorem dX3_pairByPair_54 : decode cX3_pairByPair 54 = .ok (.iinc 5 1, 3) := by decide +kernel
theorem dX3_pairByPair_57 : decode cX3_pairByPair 57 = .ok (.goto (-40), 3) := by decide +kernel
theorem dX3_pairByPair_60 : decode cX3_pairByPair 60 = .ok (.iinc 4 1, 3) := by decide +kernel
theorem dX3_pairByPair_63 : decode cX3_pairByPair 63 = .ok (.goto (-58), 3) := by decide +kernel
theorem dX3_pairByPair_66 : decode cX3_pairByPair 66 = .ok (.iload_n 3, 1) := by decide +kernel
theorem dX3_pairByPair_67 : decode cX3_pairByPair 67 = .ok (.ireturn, 1) := by decide +kernel
theorem dX3_realmByRealm_0 : decode cX3_realmByRealm 0 = .ok (.bipush 8, 2) := by decide +kernel
theorem dX3_realmByRealm_2 : decode cX3_realmByRealm 2 = .ok (.iload_n 2, 1) := by decide +kernel
theorem dX3_realmByRealm_3 : decode cX3_realmByRealm 3 = .ok (.invokestatic 21, 3) := by decide +kernel
theorem dX3_realmByRealm_6 : decode cX3_realmByRealm 6 = .ok (.imul, 1) := by decide +kernel
theorem dX3_realmByRealm_7 : decode cX3_realmByRealm 7 = .ok (.istore_n 3, 1) := by decide +kernel
theorem dX3_realmByRealm_8 : decode cX3_realmByRealm 8 = .ok (.iconst (-1), 1) := by decide +kernel
theorem dX3_realmByRealm_9 : decode cX3_realmByRealm 9 = .ok (.istore 4, 2) := by decide +kernel
theorem dX3_realmByRealm_11 : decode cX3_realmByRealm 11 = .ok (.iload 4, 2) := by decide +kernel
theorem dX3_realmByRealm_13 : decode cX3_realmByRealm 13 = .ok (.iconst 4, 1) := by decide +kernel
theorem dX3_realmByRealm_14 : decode cX3_realmByRealm 14 = .ok (.if_icmp .ge 20, 3) := by decide +kernel
theorem dX3_realmByRealm_17 : decode cX3_realmByRealm 17 = .ok (.iload_n 3, 1) := by decide +kernel
theorem dX3_realmByRealm_18 : decode cX3_realmByRealm 18 = .ok (.aload_n 0, 1) := by decide +kernel
theorem dX3_realmByRealm_19 : decode cX3_realmByRealm 19 = .ok (.iload_n 1, 1) := by decide +kernel
theorem dX3_realmByRealm_20 : decode cX3_realmByRealm 20 = .ok (.iload_n 2, 1) := by decide +kernel
theorem dX3_realmByRealm_21 : decode cX3_realmByRealm 21 = .ok (.iload 4, 2) := by decide +kernel
theorem dX3_realmByRealm_23 : decode cX3_realmByRealm 23 = .ok (.invokestatic 29, 3) := by decide +kernel
theorem dX3_realmByRealm_26 : decode cX3_realmByRealm 26 = .ok (.isub, 1) := by decide +kernel
theorem dX3_realmByRealm_27 : decode cX3_realmByRealm 27 = .ok (.istore_n 3, 1) := by decide +kernel
theorem dX3_realmByRealm_28 : decode cX3_realmByRealm 28 = .ok (.iinc 4 1, 3) := by decide +kernel
theorem dX3_realmByRealm_31 : decode cX3_realmByRealm 31 = .ok (.goto (-20), 3) := by decide +kernel
theorem dX3_realmByRealm_34 : decode cX3_realmByRealm 34 = .ok (.iload_n 3, 1) := by decide +kernel
theorem dX3_realmByRealm_35 : decode cX3_realmByRealm 35 = .ok (.ireturn, 1) := by decide +kernel
theorem dX3_alike_0 : decode cX3_alike 0 = .ok (.iconst 0, 1) := by decide +kernel
theorem dX3_alike_1 : decode cX3_alike 1 = .ok (.istore 4, 2) := by decide +kernel
theorem dX3_alike_3 : decode cX3_alike 3 = .ok (.iconst 0, 1) := by decide +kernel
theorem dX3_alike_4 : decode cX3_alike 4 = .ok (.istore 5, 2) := by decide +kernel
theorem dX3_alike_6 : decode cX3_alike 6 = .ok (.iload 5, 2) := by decide +kernel
theorem dX3_alike_8 : decode cX3_alike 8 = .ok (.iload_n 2, 1) := by decide +kernel
theorem dX3_alike_9 : decode cX3_alike 9 = .ok (.invokestatic 21, 3) := by decide +kernel
theorem dX3_alike_12 : decode cX3_alike 12 = .ok (.if_icmp .ge 60, 3) := by decide +kernel
theorem dX3_alike_15 : decode cX3_alike 15 = .ok (.iconst 0, 1) := by decide +kernel
theorem dX3_alike_16 : decode cX3_alike 16 = .ok (.istore 6, 2) := by decide +kernel
theorem dX3_alike_18 : decode cX3_alike 18 = .ok (.iload 6, 2) := by decide +kernel
theorem dX3_alike_20 : decode cX3_alike 20 = .ok (.bipush 8, 2) := by decide +kernel
theorem dX3_alike_22 : decode cX3_alike 22 = .ok (.if_icmp .ge 44, 3) := by decide +kernel
theorem dX3_alike_25 : decode cX3_alike 25 = .ok (.aload_n 0, 1) := by decide +kernel
theorem dX3_alike_26 : decode cX3_alike 26 = .ok (.iload_n 1, 1) := by decide +kernel
theorem dX3_alike_27 : decode cX3_alike 27 = .ok (.iload_n 2, 1) := by decide +kernel
theorem dX3_alike_28 : decode cX3_alike 28 = .ok (.iconst 1, 1) := by decide +kernel
theorem dX3_alike_29 : decode cX3_alike 29 = .ok (.isub, 1) := by decide +kernel
theorem dX3_alike_30 : decode cX3_alike 30 = .ok (.iload 5, 2) := by decide +kernel
theorem dX3_alike_32 : decode cX3_alike 32 = .ok (.isub, 1) := by decide +kernel
theorem dX3_alike_33 : decode cX3_alike 33 = .ok (.iload 6, 2) := by decide +kernel
theorem dX3_alike_35 : decode cX3_alike 35 = .ok (.invokestatic 26, 3) := by decide +kernel
theorem dX3_alike_38 : decode cX3_alike 38 = .ok (.iload_n 3, 1) := by decide +kernel
theorem dX3_alike_39 : decode cX3_alike 39 = .ok (.if_icmp .ne 21, 3) := by decide +kernel
theorem dX3_alike_42 : decode cX3_alike 42 = .ok (.aload_n 0, 1) := by decide +kernel
theorem dX3_alike_43 : decode cX3_alike 43 = .ok (.iload_n 1, 1) := by decide +kernel
theorem dX3_alike_44 : decode cX3_alike 44 = .ok (.iload_n 2, 1) := by decide +kernel
theorem dX3_alike_45 : decode cX3_alike 45 = .ok (.iload 5, 2) := by decide +kernel
theorem dX3_alike_47 : decode cX3_alike 47 = .ok (.iadd, 1) := by decide +kernel
theorem dX3_alike_48 : decode cX3_alike 48 = .ok (.iload 6, 2) := by decide +kernel
theorem dX3_alike_50 : decode cX3_alike 50 = .ok (.invokestatic 26, 3) := by decide +kernel
theorem dX3_alike_53 : decode cX3_alike 53 = .ok (.iload_n 3, 1) := by decide +kernel
theorem dX3_alike_54 : decode cX3_alike 54 = .ok (.if_icmp .ne 6, 3) := by decide +kernel
theorem dX3_alike_57 : decode cX3_alike 57 = .ok (.iinc 4 1, 3) := by decide +kernel
theorem dX3_alike_60 : decode cX3_alike 60 = .ok (.iinc 6 1, 3) := by decide +kernel
theorem dX3_alike_63 : decode cX3_alike 63 = .ok (.goto (-45), 3) := by decide +kernel
theorem dX3_alike_66 : decode cX3_alike 66 = .ok (.iinc 5 1, 3) := by decide +kernel
theorem dX3_alike_69 : decode cX3_alike 69 = .ok (.goto (-63), 3) := by decide +kernel
theorem dX3_alike_72 : decode cX3_alike 72 = .ok (.iload 4, 2) := by decide +kernel
theorem dX3_alike_74 : decode cX3_alike 74 = .ok (.ireturn, 1) := by decide +kernel
theorem dX4_init_0 : decode cX4_init 0 = .ok (.aload_n 0, 1) := by decide +kernel
theorem dX4_init_1 : decode cX4_init 1 = .ok (.invokespecial 3, 3) := by decide +kernel
theorem dX4_init_4 : decode cX4_init 4 = .ok (.aload_n 0, 1) := by decide +kernel
theorem dX4_init_5 : decode cX4_init 5 = .ok (.bipush 6, 2) := by decide +kernel
theorem dX4_init_7 : decode cX4_init 7 = .ok (.anewarray 9, 3) := by decide +kernel
theorem dX4_init_10 : decode cX4_init 10 = .ok (.putfield 11, 3) := by decide +kernel
theorem dX4_init_13 : decode cX4_init 13 = .ok (.iconst 0, 1) := by decide +kernel
theorem dX4_init_14 : decode cX4_init 14 = .ok (.istore_n 1, 1) := by decide +kernel
theorem dX4_init_15 : decode cX4_init 15 = .ok (.iload_n 1, 1) := by decide +kernel
theorem dX4_init_16 : decode cX4_init 16 = .ok (.bipush 6, 2) := by decide +kernel
theorem dX4_init_18 : decode cX4_init 18 = .ok (.if_icmp .ge 22, 3) := by decide +kernel
theorem dX4_init_21 : decode cX4_init 21 = .ok (.aload_n 0, 1) := by decide +kernel
theorem dX4_init_22 : decode cX4_init 22 = .ok (.getfield 11, 3) := by decide +kernel
theorem dX4_init_25 : decode cX4_init 25 = .ok (.iload_n 1, 1) := by decide +kernel
theorem dX4_init_26 : decode cX4_init 26 = .ok (.new 9, 3) := by decide +kernel
theorem dX4_init_29 : decode cX4_init 29 = .ok (.dup, 1) := by decide +kernel
theorem dX4_init_30 : decode cX4_init 30 = .ok (.invokespecial 17, 3) := by decide +kernel
theorem dX4_init_33 : decode cX4_init 33 = .ok (.aastore, 1) := by decide +kernel
theorem dX4_init_34 : decode cX4_init 34 = .ok (.iinc 1 1, 3) := by decide +kernel
theorem dX4_init_37 : decode cX4_init 37 = .ok (.goto (-22), 3) := by decide +kernel
theorem dX4_init_40 : decode cX4_init 40 = .ok (.return_, 1) := by decide +kernel
theorem dX4_remember_0 : decode cX4_remember 0 = .ok (.aload_n 0, 1) := by decide +kernel
theorem dX4_remember_1 : decode cX4_remember 1 = .ok (.getfield 18, 3) := by decide +kernel
theorem dX4_remember_4 : decode cX4_remember 4 = .ok (.bipush 6, 2) := by decide +kernel
theorem dX4_remember_6 : decode cX4_remember 6 = .ok (.if_icmp .lt 21, 3) := by decide +kernel
theorem dX4_remember_9 : decode cX4_remember 9 = .ok (.aload_n 0, 1) := by decide +kernel
theorem dX4_remember_10 : decode cX4_remember 10 = .ok (.aload_n 0, 1) := by decide +kernel
theorem dX4_remember_11 : decode cX4_remember 11 = .ok (.getfield 22, 3) := by decide +kernel
theorem dX4_remember_14 : decode cX4_remember 14 = .ok (.iconst 1, 1) := by decide +kernel
theorem dX4_remember_15 : decode cX4_remember 15 = .ok (.iadd, 1) := by decide +kernel
theorem dX4_remember_16 : decode cX4_remember 16 = .ok (.bipush 6, 2) := by decide +kernel
theorem dX4_remember_18 : decode cX4_remember 18 = .ok (.irem, 1) := by decide +kernel
theorem dX4_remember_19 : decode cX4_remember 19 = .ok (.putfield 22, 3) := by decide +kernel
theorem dX4_remember_22 : decode cX4_remember 22 = .ok (.aload_n 0, 1) := by decide +kernel
theorem dX4_remember_23 : decode cX4_remember 23 = .ok (.iconst 5, 1) := by decide +kernel
theorem dX4_remember_24 : decode cX4_remember 24 = .ok (.putfield 18, 3) := by decide +kernel
theorem dX4_remember_27 : decode cX4_remember 27 = .ok (.aload_n 0, 1) := by decide +kernel
theorem dX4_remember_28 : decode cX4_remember 28 = .ok (.aload_n 0, 1) := by decide +kernel
theorem dX4_remember_29 : decode cX4_remember 29 = .ok (.getfield 18, 3) := by decide +kernel
theorem dX4_remember_32 : decode cX4_remember 32 = .ok (.invokevirtual 25, 3) := by decide +kernel
theorem dX4_remember_35 : decode cX4_remember 35 = .ok (.astore_n 2, 1) := by decide +kernel
theorem dX4_remember_36 : decode cX4_remember 36 = .ok (.aload_n 2, 1) := by decide +kernel
theorem dX4_remember_37 : decode cX4_remember 37 = .ok (.ifnull 18, 3) := by decide +kernel
theorem dX4_remember_40 : decode cX4_remember 40 = .ok (.aload_n 2, 1) := by decide +kernel
theorem dX4_remember_41 : decode cX4_remember 41 = .ok (.aload_n 1, 1) := by decide +kernel
theorem dX4_remember_42 : decode cX4_remember 42 = .ok (.invokevirtual 29, 3) := by decide +kernel
theorem dX4_remember_45 : decode cX4_remember 45 = .ok (.aload_n 0, 1) := by decide +kernel
theorem dX4_remember_46 : decode cX4_remember 46 = .ok (.dup, 1) := by decide +kernel
theorem dX4_remember_47 : decode cX4_remember 47 = .ok (.getfield 18, 3) := by decide +kernel
theorem dX4_remember_50 : decode cX4_remember 50 = .ok (.iconst 1, 1) := by decide +kernel
theorem dX4_remember_51 : decode cX4_remember 51 = .ok (.iadd, 1) := by decide +kernel
theorem dX4_remember_52 : decode cX4_remember 52 = .ok (.putfield 18, 3) := by decide +kernel
theorem dX4_remember_55 : decode cX4_remember 55 = .ok (.return_, 1) := by decide +kernel
theorem dX4_takeBack_0 : decode cX4_takeBack 0 = .ok (.aload_n 0, 1) := by decide +kernel
theorem dX4_takeBack_1 : decode cX4_takeBack 1 = .ok (.aload_n 0, 1) := by decide +kernel
theorem dX4_takeBack_2 : decode cX4_takeBack 2 = .ok (.getfield 18, 3) := by decide +kernel
theorem dX4_takeBack_5 : decode cX4_takeBack 5 = .ok (.iconst 1, 1) := by decide +kernel
theorem dX4_takeBack_6 : decode cX4_takeBack 6 = .ok (.isub, 1) := by decide +kernel
theorem dX4_takeBack_7 : decode cX4_takeBack 7 = .ok (.invokevirtual 25, 3) := by decide +kernel
theorem dX4_takeBack_10 : decode cX4_takeBack 10 = .ok (.astore_n 2, 1) := by decide +kernel
theorem dX4_takeBack_11 : decode cX4_takeBack 11 = .ok (.aload_n 2, 1) := by decide +kernel
theorem dX4_takeBack_12 : decode cX4_takeBack 12 = .ok (.ifnull 18, 3) := by decide +kernel
theorem dX4_takeBack_15 : decode cX4_takeBack 15 = .ok (.aload_n 1, 1) := by decide +kernel
theorem dX4_takeBack_16 : decode cX4_takeBack 16 = .ok (.aload_n 2, 1) := by decide +kernel
theorem dX4_takeBack_17 : decode cX4_takeBack 17 = .ok (.invokevirtual 29, 3) := by decide +kernel
theorem dX4_takeBack_20 : decode cX4_takeBack 20 = .ok (.aload_n 0, 1) := by decide +kernel
theorem dX4_takeBack_21 : decode cX4_takeBack 21 = .ok (.dup, 1) := by decide +kernel
theorem dX4_takeBack_22 : decode cX4_takeBack 22 = .ok (.getfield 18, 3) := by decide +kernel
theorem dX4_takeBack_25 : decode cX4_takeBack 25 = .ok (.iconst 1, 1) := by decide +kernel
theorem dX4_takeBack_26 : decode cX4_takeBack 26 = .ok (.isub, 1) := by decide +kernel
theorem dX4_takeBack_27 : decode cX4_takeBack 27 = .ok (.putfield 18, 3) := by decide +kernel
theorem dX4_takeBack_30 : decode cX4_takeBack 30 = .ok (.return_, 1) := by decide +kernel
theorem dX4_slot_0 : decode cX4_slot 0 = .ok (.aload_n 0, 1) := by decide +kernel
theorem dX4_slot_1 : decode cX4_slot 1 = .ok (.getfield 22, 3) := by decide +kernel
theorem dX4_slot_4 : decode cX4_slot 4 = .ok (.iload_n 1, 1) := by decide +kernel
theorem dX4_slot_5 : decode cX4_slot 5 = .ok (.iadd, 1) := by decide +kernel
theorem dX4_slot_6 : decode cX4_slot 6 = .ok (.bipush 6, 2) := by decide +kernel
theorem dX4_slot_8 : decode cX4_slot 8 = .ok (.irem, 1) := by decide +kernel
theorem dX4_slot_9 : decode cX4_slot 9 = .ok (.istore_n 2, 1) := by decide +kernel
theorem dX4_slot_10 : decode cX4_slot 10 = .ok (.iload_n 2, 1) := by decide +kernel
theorem dX4_slot_11 : decode cX4_slot 11 = .ok (.ifCond .lt 18, 3) := by decide +kernel
theorem dX4_slot_14 : decode cX4_slot 14 = .ok (.iload_n 2, 1) := by decide +kernel
theorem dX4_slot_15 : decode cX4_slot 15 = .ok (.bipush 6, 2) := by decide +kernel
theorem dX4_slot_17 : decode cX4_slot 17 = .ok (.if_icmp .ge 12, 3) := by decide +kernel
theorem dX4_slot_20 : decode cX4_slot 20 = .ok (.aload_n 0, 1) := by decide +kernel
theorem dX4_slot_21 : decode cX4_slot 21 = .ok (.getfield 11, 3) := by decide +kernel
theorem dX4_slot_24 : decode cX4_slot 24 = .ok (.iload_n 2, 1) := by decide +kernel
theorem dX4_slot_25 : decode cX4_slot 25 = .ok (.aaload, 1) := by decide +kernel
theorem dX4_slot_26 : decode cX4_slot 26 = .ok (.goto 4, 3) := by decide +kernel
theorem dX4_slot_29 : decode cX4_slot 29 = .ok (.aconst_null, 1) := by decide +kernel
theorem dX4_slot_30 : decode cX4_slot 30 = .ok (.areturn, 1) := by decide +kernel
theorem dX5_isThere_0 : decode cX5_isThere 0 = .ok (.aload_n 1, 1) := by decide +kernel
theorem dX5_isThere_1 : decode cX5_isThere 1 = .ok (.getfield 9, 3) := by decide +kernel
theorem dX5_isThere_4 : decode cX5_isThere 4 = .ok (.tableswitch 140 100 115 #[105, 140, 131, 140, 140, 140, 140, 96, 140, 88, 140, 140, 80, 140, 80, 80], 80) := by decide +kernel
theorem dX5_isThere_84 : decode cX5_isThere 84 = .ok (.aload_n 1, 1) := by decide +kernel
theorem dX5_isThere_85 : decode cX5_isThere 85 = .ok (.getfield 15, 3) := by decide +kernel
theorem dX5_isThere_88 : decode cX5_isThere 88 = .ok (.invokestatic 18, 3) := by decide +kernel
theorem dX5_isThere_91 : decode cX5_isThere 91 = .ok (.ireturn, 1) := by decide +kernel
theorem dX5_isThere_92 : decode cX5_isThere 92 = .ok (.aload_n 1, 1) := by decide +kernel
theorem dX5_isThere_93 : decode cX5_isThere 93 = .ok (.getfield 22, 3) := by decide +kernel
theorem dX5_isThere_96 : decode cX5_isThere 96 = .ok (.invokestatic 25, 3) := by decide +kernel
theorem dX5_isThere_99 : decode cX5_isThere 99 = .ok (.ireturn, 1) := by decide +kernel
theorem dX5_isThere_100 : decode cX5_isThere 100 = .ok (.aload_n 0, 1) := by decide +kernel
theorem dX5_isThere_101 : decode cX5_isThere 101 = .ok (.aload_n 1, 1) := by decide +kernel
theorem dX5_isThere_102 : decode cX5_isThere 102 = .ok (.getfield 22, 3) := by decide +kernel
theorem dX5_isThere_105 : decode cX5_isThere 105 = .ok (.invokevirtual 28, 3) := by decide +kernel
theorem dX5_isThere_108 : decode cX5_isThere 108 = .ok (.ireturn, 1) := by decide +kernel
theorem dX5_isThere_109 : decode cX5_isThere 109 = .ok (.aload_n 1, 1) := by decide +kernel
theorem dX5_isThere_110 : decode cX5_isThere 110 = .ok (.getfield 15, 3) := by decide +kernel
theorem dX5_isThere_113 : decode cX5_isThere 113 = .ok (.invokestatic 18, 3) := by decide +kernel
theorem dX5_isThere_116 : decode cX5_isThere 116 = .ok (.ifCond .eq 17, 3) := by decide +kernel
theorem dX5_isThere_119 : decode cX5_isThere 119 = .ok (.aload_n 1, 1) := by decide +kernel
theorem dX5_isThere_120 : decode cX5_isThere 120 = .ok (.getfield 22, 3) := by decide +kernel
theorem dX5_isThere_123 : decode cX5_isThere 123 = .ok (.invokestatic 33, 3) := by decide +kernel
theorem dX5_isThere_126 : decode cX5_isThere 126 = .ok (.ifCond .eq 7, 3) := by decide +kernel
theorem dX5_isThere_129 : decode cX5_isThere 129 = .ok (.iconst 1, 1) := by decide +kernel
theorem dX5_isThere_130 : decode cX5_isThere 130 = .ok (.goto 4, 3) := by decide +kernel
theorem dX5_isThere_133 : decode cX5_isThere 133 = .ok (.iconst 0, 1) := by decide +kernel
theorem dX5_isThere_134 : decode cX5_isThere 134 = .ok (.ireturn, 1) := by decide +kernel
theorem dX5_isThere_135 : decode cX5_isThere 135 = .ok (.aload_n 0, 1) := by decide +kernel
theorem dX5_isThere_136 : decode cX5_isThere 136 = .ok (.aload_n 1, 1) := by decide +kernel
theorem dX5_isThere_137 : decode cX5_isThere 137 = .ok (.getfield 22, 3) := by decide +kernel
theorem dX5_isThere_140 : decode cX5_isThere 140 = .ok (.invokevirtual 36, 3) := by decide +kernel
theorem dX5_isThere_143 : decode cX5_isThere 143 = .ok (.ireturn, 1) := by decide +kernel
theorem dX5_isThere_144 : decode cX5_isThere 144 = .ok (.iconst 0, 1) := by decide +kernel
theorem dX5_isThere_145 : decode cX5_isThere 145 = .ok (.ireturn, 1) := by decide +kernel
theorem dX5_against_0 : decode cX5_against 0 = .ok (.aload_n 1, 1) := by decide +kernel
theorem dX5_against_1 : decode cX5_against 1 = .ok (.getfield 9, 3) := by decide +kernel
theorem dX5_against_4 : decode cX5_against 4 = .ok (.lookupswitch 137 #[(100, 124), (109, 101), (112, 52), (114, 118), (115, 73)], 52) := by decide +kernel
theorem dX5_against_56 : decode cX5_against 56 = .ok (.aload_n 0, 1) := by decide +kernel
theorem dX5_against_57 : decode cX5_against 57 = .ok (.aload_n 1, 1) := by decide +kernel
theorem dX5_against_58 : decode cX5_against 58 = .ok (.getfield 15, 3) := by decide +kernel
theorem dX5_against_61 : decode cX5_against 61 = .ok (.invokevirtual 39, 3) := by decide +kernel
theorem dX5_against_64 : decode cX5_against 64 = .ok (.aload_n 1, 1) := by decide +kernel
theorem dX5_against_65 : decode cX5_against 65 = .ok (.getfield 22, 3) := by decide +kernel
theorem dX5_against_68 : decode cX5_against 68 = .ok (.if_icmp .ne 7, 3) := by decide +kernel
theorem dX5_against_71 : decode cX5_against 71 = .ok (.iconst 1, 1) := by decide +kernel
theorem dX5_against_72 : decode cX5_against 72 = .ok (.goto 4, 3) := by decide +kernel
theorem dX5_against_75 : decode cX5_against 75 = .ok (.iconst 0, 1) := by decide +kernel
theorem dX5_against_76 : decode cX5_against 76 = .ok (.ireturn, 1) := by decide +kernel
theorem dX5_against_77 : decode cX5_against 77 = .ok (.aload_n 0, 1) := by decide +kernel
theorem dX5_against_78 : decode cX5_against 78 = .ok (.aload_n 1, 1) := by decide +kernel
theorem dX5_against_79 : decode cX5_against 79 = .ok (.getfield 15, 3) := by decide +kernel
theorem dX5_against_82 : decode cX5_against 82 = .ok (.aload_n 1, 1) := by decide +kernel
theorem dX5_against_83 : decode cX5_against 83 = .ok (.getfield 22, 3) := by decide +kernel
theorem dX5_against_86 : decode cX5_against 86 = .ok (.invokestatic 43, 3) := by decide +kernel
theorem dX5_against_89 : decode cX5_against 89 = .ok (.istore_n 2, 1) := by decide +kernel
theorem dX5_against_90 : decode cX5_against 90 = .ok (.iload_n 2, 1) := by decide +kernel
theorem dX5_against_91 : decode cX5_against 91 = .ok (.ifCond .eq 8, 3) := by decide +kernel
theorem dX5_against_94 : decode cX5_against 94 = .ok (.iload_n 2, 1) := by decide +kernel
theorem dX5_against_95 : decode cX5_against 95 = .ok (.iconst 1, 1) := by decide +kernel
theorem dX5_against_96 : decode cX5_against 96 = .ok (.if_icmp .ne 7, 3) := by decide +kernel
theorem dX5_against_99 : decode cX5_against 99 = .ok (.iload_n 2, 1) := by decide +kernel
theorem dX5_against_100 : decode cX5_against 100 = .ok (.goto 4, 3) := by decide +kernel
theorem dX5_against_103 : decode cX5_against 103 = .ok (.iconst 2, 1) := by decide +kernel
theorem dX5_against_104 : decode cX5_against 104 = .ok (.ireturn, 1) := by decide +kernel
theorem dX5_against_105 : decode cX5_against 105 = .ok (.aload_n 0, 1) := by decide +kernel
theorem dX5_against_106 : decode cX5_against 106 = .ok (.getfield 49, 3) := by decide +kernel
theorem dX5_against_109 : decode cX5_against 109 = .ok (.aload_n 1, 1) := by decide +kernel
theorem dX5_against_110 : decode cX5_against 110 = .ok (.getfield 22, 3) := by decide +kernel
theorem dX5_against_113 : decode cX5_against 113 = .ok (.if_icmp .ne 7, 3) := by decide +kernel
theorem dX5_against_116 : decode cX5_against 116 = .ok (.iconst 1, 1) := by decide +kernel
theorem dX5_against_117 : decode cX5_against 117 = .ok (.goto 4, 3) := by decide +kernel
theorem dX5_against_120 : decode cX5_against 120 = .ok (.iconst 0, 1) := by decide +kernel
theorem dX5_against_121 : decode cX5_against 121 = .ok (.ireturn, 1) := by decide +kernel
theorem dX5_against_122 : decode cX5_against 122 = .ok (.aload_n 0, 1) := by decide +kernel
theorem dX5_against_123 : decode cX5_against 123 = .ok (.aload_n 1, 1) := by decide +kernel
theorem dX5_against_124 : decode cX5_against 124 = .ok (.invokestatic 52, 3) := by decide +kernel
theorem dX5_against_127 : decode cX5_against 127 = .ok (.ireturn, 1) := by decide +kernel
theorem dX5_against_128 : decode cX5_against 128 = .ok (.aload_n 0, 1) := by decide +kernel
theorem dX5_against_129 : decode cX5_against 129 = .ok (.aload_n 1, 1) := by decide +kernel
theorem dX5_against_130 : decode cX5_against 130 = .ok (.getfield 15, 3) := by decide +kernel
theorem dX5_against_133 : decode cX5_against 133 = .ok (.aload_n 1, 1) := by decide +kernel
theorem dX5_against_134 : decode cX5_against 134 = .ok (.getfield 22, 3) := by decide +kernel
theorem dX5_against_137 : decode cX5_against 137 = .ok (.invokestatic 56, 3) := by decide +kernel
theorem dX5_against_140 : decode cX5_against 140 = .ok (.ireturn, 1) := by decide +kernel
theorem dX5_against_141 : decode cX5_against 141 = .ok (.iconst 0, 1) := by decide +kernel
theorem dX5_against_142 : decode cX5_against 142 = .ok (.ireturn, 1) := by decide +kernel
theorem dX5_againstShaving_0 : decode cX5_againstShaving 0 = .ok (.aload_n 0, 1) := by decide +kernel
theorem dX5_againstShaving_1 : decode cX5_againstShaving 1 = .ok (.iload_n 1, 1) := by decide +kernel
theorem dX5_againstShaving_2 : decode cX5_againstShaving 2 = .ok (.invokevirtual 39, 3) := by decide +kernel
theorem dX5_againstShaving_5 : decode cX5_againstShaving 5 = .ok (.istore_n 3, 1) := by decide +kernel
theorem dX5_againstShaving_6 : decode cX5_againstShaving 6 = .ok (.iload_n 3, 1) := by decide +kernel
theorem dX5_againstShaving_7 : decode cX5_againstShaving 7 = .ok (.iload_n 2, 1) := by decide +kernel
theorem dX5_againstShaving_8 : decode cX5_againstShaving 8 = .ok (.if_icmp .ne 5, 3) := by decide +kernel
theorem dX5_againstShaving_11 : decode cX5_againstShaving 11 = .ok (.iconst 1, 1) := by decide +kernel
theorem dX5_againstShaving_12 : decode cX5_againstShaving 12 = .ok (.ireturn, 1) := by decide +kernel
theorem dX5_againstShaving_13 : decode cX5_againstShaving 13 = .ok (.iload_n 3, 1) := by decide +kernel
theorem dX5_againstShaving_14 : decode cX5_againstShaving 14 = .ok (.iconst (-1), 1) := by decide +kernel
theorem dX5_againstShaving_15 : decode cX5_againstShaving 15 = .ok (.if_icmp .ne 5, 3) := by decide +kernel
theorem dX5_againstShaving_18 : decode cX5_againstShaving 18 = .ok (.iconst 3, 1) := by decide +kernel
theorem dX5_againstShaving_19 : decode cX5_againstShaving 19 = .ok (.ireturn, 1) := by decide +kernel
theorem dX5_againstShaving_20 : decode cX5_againstShaving 20 = .ok (.aload_n 0, 1) := by decide +kernel
theorem dX5_againstShaving_21 : decode cX5_againstShaving 21 = .ok (.iload_n 1, 1) := by decide +kernel
theorem dX5_againstShaving_22 : decode cX5_againstShaving 22 = .ok (.iload_n 2, 1) := by decide +kernel
theorem dX5_againstShaving_23 : decode cX5_againstShaving 23 = .ok (.invokevirtual 59, 3) := by decide +kernel
theorem dX5_againstShaving_26 : decode cX5_againstShaving 26 = .ok (.ifCond .ne 5, 3) := by decide +kernel
theorem dX5_againstShaving_29 : decode cX5_againstShaving 29 = .ok (.iconst 4, 1) := by decide +kernel
theorem dX5_againstShaving_30 : decode cX5_againstShaving 30 = .ok (.ireturn, 1) := by decide +kernel
theorem dX5_againstShaving_31 : decode cX5_againstShaving 31 = .ok (.aload_n 0, 1) := by decide +kernel
theorem dX5_againstShaving_32 : decode cX5_againstShaving 32 = .ok (.iload_n 3, 1) := by decide +kernel
theorem dX5_againstShaving_33 : decode cX5_againstShaving 33 = .ok (.invokevirtual 63, 3) := by decide +kernel
theorem dX5_againstShaving_36 : decode cX5_againstShaving 36 = .ok (.iconst 1, 1) := by decide +kernel
theorem dX5_againstShaving_37 : decode cX5_againstShaving 37 = .ok (.if_icmp .ne 7, 3) := by decide +kernel
theorem dX5_againstShaving_40 : decode cX5_againstShaving 40 = .ok (.iconst 5, 1) := by decide +kernel
theorem dX5_againstShaving_41 : decode cX5_againstShaving 41 = .ok (.goto 4, 3) := by decide +kernel
theorem dX5_againstShaving_44 : decode cX5_againstShaving 44 = .ok (.iconst 0, 1) := by decide +kernel
theorem dX5_againstShaving_45 : decode cX5_againstShaving 45 = .ok (.ireturn, 1) := by decide +kernel
theorem dX5_againstRiver_0 : decode cX5_againstRiver 0 = .ok (.aload_n 0, 1) := by decide +kernel
theorem dX5_againstRiver_1 : decode cX5_againstRiver 1 = .ok (.getfield 66, 3) := by decide +kernel
theorem dX5_againstRiver_4 : decode cX5_againstRiver 4 = .ok (.iconst 4, 1) := by decide +kernel
theorem dX5_againstRiver_5 : decode cX5_againstRiver 5 = .ok (.if_icmp .lt 6, 3) := by decide +kernel
theorem dX5_againstRiver_8 : decode cX5_againstRiver 8 = .ok (.bipush 6, 2) := by decide +kernel
theorem dX5_againstRiver_10 : decode cX5_againstRiver 10 = .ok (.ireturn, 1) := by decide +kernel
theorem dX5_againstRiver_11 : decode cX5_againstRiver 11 = .ok (.aload_n 1, 1) := by decide +kernel
theorem dX5_againstRiver_12 : decode cX5_againstRiver 12 = .ok (.invokevirtual 69, 3) := by decide +kernel
theorem dX5_againstRiver_15 : decode cX5_againstRiver 15 = .ok (.iconst (-1), 1) := by decide +kernel
theorem dX5_againstRiver_16 : decode cX5_againstRiver 16 = .ok (.if_icmp .eq 8, 3) := by decide +kernel
theorem dX5_againstRiver_19 : decode cX5_againstRiver 19 = .ok (.bipush 7, 2) := by decide +kernel
theorem dX5_againstRiver_21 : decode cX5_againstRiver 21 = .ok (.goto 4, 3) := by decide +kernel
theorem dX5_againstRiver_24 : decode cX5_againstRiver 24 = .ok (.iconst 0, 1) := by decide +kernel
theorem dX5_againstRiver_25 : decode cX5_againstRiver 25 = .ok (.ireturn, 1) := by decide +kernel
theorem dX5_againstDragon_0 : decode cX5_againstDragon 0 = .ok (.aload_n 0, 1) := by decide +kernel
theorem dX5_againstDragon_1 : decode cX5_againstDragon 1 = .ok (.iload_n 1, 1) := by decide +kernel
theorem dX5_againstDragon_2 : decode cX5_againstDragon 2 = .ok (.invokevirtual 39, 3) := by decide +kernel
theorem dX5_againstDragon_5 : decode cX5_againstDragon 5 = .ok (.istore_n 3, 1) := by decide +kernel
theorem dX5_againstDragon_6 : decode cX5_againstDragon 6 = .ok (.iload_n 3, 1) := by decide +kernel
theorem dX5_againstDragon_7 : decode cX5_againstDragon 7 = .ok (.iconst (-1), 1) := by decide +kernel
theorem dX5_againstDragon_8 : decode cX5_againstDragon 8 = .ok (.if_icmp .ne 5, 3) := by decide +kernel
theorem dX5_againstDragon_11 : decode cX5_againstDragon 11 = .ok (.iconst 3, 1) := by decide +kernel
theorem dX5_againstDragon_12 : decode cX5_againstDragon 12 = .ok (.ireturn, 1) := by decide +kernel
theorem dX5_againstDragon_13 : decode cX5_againstDragon 13 = .ok (.aload_n 0, 1) := by decide +kernel
theorem dX5_againstDragon_14 : decode cX5_againstDragon 14 = .ok (.iload_n 1, 1) := by decide +kernel
theorem dX5_againstDragon_15 : decode cX5_againstDragon 15 = .ok (.invokevirtual 73, 3) := by decide +kernel
theorem dX5_againstDragon_18 : decode cX5_againstDragon 18 = .ok (.iconst (-1), 1) := by decide +kernel
theorem dX5_againstDragon_19 : decode cX5_againstDragon 19 = .ok (.if_icmp .eq 6, 3) := by decide +kernel
theorem dX5_againstDragon_22 : decode cX5_againstDragon 22 = .ok (.bipush 8, 2) := by decide +kernel
theorem dX5_againstDragon_24 : decode cX5_againstDragon 24 = .ok (.ireturn, 1) := by decide +kernel
theorem dX5_againstDragon_25 : decode cX5_againstDragon 25 = .ok (.aload_n 0, 1) := by decide +kernel
theorem dX5_againstDragon_26 : decode cX5_againstDragon 26 = .ok (.getfield 76, 3) := by decide +kernel
theorem dX5_againstDragon_29 : decode cX5_againstDragon 29 = .ok (.iconst 5, 1) := by decide +kernel
theorem dX5_againstDragon_30 : decode cX5_againstDragon 30 = .ok (.if_icmp .lt 6, 3) := by decide +kernel
theorem dX5_againstDragon_33 : decode cX5_againstDragon 33 = .ok (.bipush 6, 2) := by decide +kernel
theorem dX5_againstDragon_35 : decode cX5_againstDragon 35 = .ok (.ireturn, 1) := by decide +kernel
theorem dX5_againstDragon_36 : decode cX5_againstDragon 36 = .ok (.aload_n 0, 1) := by decide +kernel
theorem dX5_againstDragon_37 : decode cX5_againstDragon 37 = .ok (.iload_n 3, 1) := by decide +kernel
theorem dX5_againstDragon_38 : decode cX5_againstDragon 38 = .ok (.invokevirtual 79, 3) := by decide +kernel
theorem dX5_againstDragon_41 : decode cX5_againstDragon 41 = .ok (.iload_n 2, 1) := by decide +kernel
theorem dX5_againstDragon_42 : decode cX5_againstDragon 42 = .ok (.if_icmp .ge 8, 3) := by decide +kernel
theorem dX5_againstDragon_45 : decode cX5_againstDragon 45 = .ok (.bipush 9, 2) := by decide +kernel
theorem dX5_againstDragon_47 : decode cX5_againstDragon 47 = .ok (.goto 4, 3) := by decide +kernel
theorem dX5_againstDragon_50 : decode cX5_againstDragon 50 = .ok (.iconst 0, 1) := by decide +kernel
theorem dX5_againstDragon_51 : decode cX5_againstDragon 51 = .ok (.ireturn, 1) := by decide +kernel
theorem dX5_detail_0 : decode cX5_detail 0 = .ok (.iload_n 2, 1) := by decide +kernel
theorem dX5_detail_1 : decode cX5_detail 1 = .ok (.tableswitch 112 1 9 #[51, 56, 56, 51, 61, 70, 85, 90, 99], 51) := by decide +kernel
theorem dX5_detail_52 : decode cX5_detail 52 = .ok (.aload_n 1, 1) := by decide +kernel
theorem dX5_detail_53 : decode cX5_detail 53 = .ok (.getfield 22, 3) := by decide +kernel
theorem dX5_detail_56 : decode cX5_detail 56 = .ok (.ireturn, 1) := by decide +kernel
theorem dX5_detail_57 : decode cX5_detail 57 = .ok (.aload_n 1, 1) := by decide +kernel
theorem dX5_detail_58 : decode cX5_detail 58 = .ok (.getfield 15, 3) := by decide +kernel
theorem dX5_detail_61 : decode cX5_detail 61 = .ok (.ireturn, 1) := by decide +kernel
theorem dX5_detail_62 : decode cX5_detail 62 = .ok (.aload_n 0, 1) := by decide +kernel
theorem dX5_detail_63 : decode cX5_detail 63 = .ok (.aload_n 1, 1) := by decide +kernel
theorem dX5_detail_64 : decode cX5_detail 64 = .ok (.getfield 15, 3) := by decide +kernel
theorem dX5_detail_67 : decode cX5_detail 67 = .ok (.invokevirtual 39, 3) := by decide +kernel
theorem dX5_detail_70 : decode cX5_detail 70 = .ok (.ireturn, 1) := by decide +kernel
theorem dX5_detail_71 : decode cX5_detail 71 = .ok (.aload_n 1, 1) := by decide +kernel
theorem dX5_detail_72 : decode cX5_detail 72 = .ok (.getfield 9, 3) := by decide +kernel
theorem dX5_detail_75 : decode cX5_detail 75 = .ok (.bipush 114, 2) := by decide +kernel
theorem dX5_detail_77 : decode cX5_detail 77 = .ok (.if_icmp .ne 7, 3) := by decide +kernel
theorem dX5_detail_80 : decode cX5_detail 80 = .ok (.iconst 4, 1) := by decide +kernel
theorem dX5_detail_81 : decode cX5_detail 81 = .ok (.goto 4, 3) := by decide +kernel
theorem dX5_detail_84 : decode cX5_detail 84 = .ok (.iconst 5, 1) := by decide +kernel
theorem dX5_detail_85 : decode cX5_detail 85 = .ok (.ireturn, 1) := by decide +kernel
theorem dX5_detail_86 : decode cX5_detail 86 = .ok (.aload_n 1, 1) := by decide +kernel
theorem dX5_detail_87 : decode cX5_detail 87 = .ok (.invokevirtual 69, 3) := by decide +kernel
theorem dX5_detail_90 : decode cX5_detail 90 = .ok (.ireturn, 1) := by decide +kernel
theorem dX5_detail_91 : decode cX5_detail 91 = .ok (.aload_n 0, 1) := by decide +kernel
theorem dX5_detail_92 : decode cX5_detail 92 = .ok (.aload_n 1, 1) := by decide +kernel
theorem dX5_detail_93 : decode cX5_detail 93 = .ok (.getfield 15, 3) := by decide +kernel
theorem dX5_detail_96 : decode cX5_detail 96 = .ok (.invokevirtual 73, 3) := by decide +kernel
theorem dX5_detail_99 : decode cX5_detail 99 = .ok (.ireturn, 1) := by decide +kernel
theorem dX5_detail_100 : decode cX5_detail 100 = .ok (.aload_n 0, 1) := by decide +kernel
theorem dX5_detail_101 : decode cX5_detail 101 = .ok (.aload_n 0, 1) := by decide +kernel
theorem dX5_detail_102 : decode cX5_detail 102 = .ok (.aload_n 1, 1) := by decide +kernel
theorem dX5_detail_103 : decode cX5_detail 103 = .ok (.getfield 15, 3) := by decide +kernel
theorem dX5_detail_106 : decode cX5_detail 106 = .ok (.invokevirtual 39, 3) := by decide +kernel
theorem dX5_detail_109 : decode cX5_detail 109 = .ok (.invokevirtual 79, 3) := by decide +kernel
theorem dX5_detail_112 : decode cX5_detail 112 = .ok (.ireturn, 1) := by decide +kernel
theorem dX5_detail_113 : decode cX5_detail 113 = .ok (.iconst (-1), 1) := by decide +kernel
theorem dX5_detail_114 : decode cX5_detail 114 = .ok (.ireturn, 1) := by decide +kernel
theorem dX6_init_0 : decode cX6_init 0 = .ok (.aload_n 0, 1) := by decide +kernel
theorem dX6_init_1 : decode cX6_init 1 = .ok (.invokespecial 3, 3) := by decide +kernel
theorem dX6_init_4 : decode cX6_init 4 = .ok (.aload_n 0, 1) := by decide +kernel
theorem dX6_init_5 : decode cX6_init 5 = .ok (.bipush 64, 2) := by decide +kernel
theorem dX6_init_7 : decode cX6_init 7 = .ok (.newarray .int, 2) := by decide +kernel
theorem dX6_init_9 : decode cX6_init 9 = .ok (.putfield 9, 3) := by decide +kernel
theorem dX6_init_12 : decode cX6_init 12 = .ok (.aload_n 0, 1) := by decide +kernel
theorem dX6_init_13 : decode cX6_init 13 = .ok (.bipush 64, 2) := by decide +kernel
theorem dX6_init_15 : decode cX6_init 15 = .ok (.newarray .int, 2) := by decide +kernel
theorem dX6_init_17 : decode cX6_init 17 = .ok (.putfield 15, 3) := by decide +kernel
theorem dX6_init_20 : decode cX6_init 20 = .ok (.return_, 1) := by decide +kernel
theorem dX6_byGoing_0 : decode cX6_byGoing 0 = .ok (.aload_n 0, 1) := by decide +kernel
theorem dX6_byGoing_1 : decode cX6_byGoing 1 = .ok (.getfield 9, 3) := by decide +kernel
theorem dX6_byGoing_4 : decode cX6_byGoing 4 = .ok (.iconst 0, 1) := by decide +kernel
theorem dX6_byGoing_5 : decode cX6_byGoing 5 = .ok (.invokestatic 18, 3) := by decide +kernel
theorem dX6_byGoing_8 : decode cX6_byGoing 8 = .ok (.iconst 0, 1) := by decide +kernel
theorem dX6_byGoing_9 : decode cX6_byGoing 9 = .ok (.istore_n 3, 1) := by decide +kernel
theorem dX6_byGoing_10 : decode cX6_byGoing 10 = .ok (.iconst 0, 1) := by decide +kernel
theorem dX6_byGoing_11 : decode cX6_byGoing 11 = .ok (.istore 4, 2) := by decide +kernel
theorem dX6_byGoing_13 : decode cX6_byGoing 13 = .ok (.iload 4, 2) := by decide +kernel
theorem dX6_byGoing_15 : decode cX6_byGoing 15 = .ok (.bipush 64, 2) := by decide +kernel
theorem dX6_byGoing_17 : decode cX6_byGoing 17 = .ok (.if_icmp .ge 40, 3) := by decide +kernel
theorem dX6_byGoing_20 : decode cX6_byGoing 20 = .ok (.aload_n 0, 1) := by decide +kernel
theorem dX6_byGoing_21 : decode cX6_byGoing 21 = .ok (.getfield 9, 3) := by decide +kernel
theorem dX6_byGoing_24 : decode cX6_byGoing 24 = .ok (.iload 4, 2) := by decide +kernel
theorem dX6_byGoing_26 : decode cX6_byGoing 26 = .ok (.iaload, 1) := by decide +kernel
theorem dX6_byGoing_27 : decode cX6_byGoing 27 = .ok (.ifCond .ne 24, 3) := by decide +kernel
theorem dX6_byGoing_30 : decode cX6_byGoing 30 = .ok (.aload_n 1, 1) := by decide +kernel
theorem dX6_byGoing_31 : decode cX6_byGoing 31 = .ok (.iload 4, 2) := by decide +kernel
theorem dX6_byGoing_33 : decode cX6_byGoing 33 = .ok (.invokevirtual 24, 3) := by decide +kernel
theorem dX6_byGoing_36 : decode cX6_byGoing 36 = .ok (.iload_n 2, 1) := by decide +kernel
theorem dX6_byGoing_37 : decode cX6_byGoing 37 = .ok (.if_icmp .ne 14, 3) := by decide +kernel
theorem dX6_byGoing_40 : decode cX6_byGoing 40 = .ok (.iinc 3 1, 3) := by decide +kernel
theorem dX6_byGoing_43 : decode cX6_byGoing 43 = .ok (.aload_n 0, 1) := by decide +kernel
theorem dX6_byGoing_44 : decode cX6_byGoing 44 = .ok (.aload_n 1, 1) := by decide +kernel
theorem dX6_byGoing_45 : decode cX6_byGoing 45 = .ok (.iload 4, 2) := by decide +kernel
theorem dX6_byGoing_47 : decode cX6_byGoing 47 = .ok (.iload_n 2, 1) := by decide +kernel
theorem dX6_byGoing_48 : decode cX6_byGoing 48 = .ok (.invokevirtual 30, 3) := by decide +kernel
theorem dX6_byGoing_51 : decode cX6_byGoing 51 = .ok (.iinc 4 1, 3) := by decide +kernel
theorem dX6_byGoing_54 : decode cX6_byGoing 54 = .ok (.goto (-41), 3) := by decide +kernel
theorem dX6_byGoing_57 : decode cX6_byGoing 57 = .ok (.iload_n 3, 1) := by decide +kernel
theorem dX6_byGoing_58 : decode cX6_byGoing 58 = .ok (.ireturn, 1) := by decide +kernel
theorem dX6_goFrom_0 : decode cX6_goFrom 0 = .ok (.aload_n 0, 1) := by decide +kernel
theorem dX6_goFrom_1 : decode cX6_goFrom 1 = .ok (.iload_n 2, 1) := by decide +kernel
theorem dX6_goFrom_2 : decode cX6_goFrom 2 = .ok (.iconst 0, 1) := by decide +kernel
theorem dX6_goFrom_3 : decode cX6_goFrom 3 = .ok (.invokevirtual 34, 3) := by decide +kernel
theorem dX6_goFrom_6 : decode cX6_goFrom 6 = .ok (.istore 4, 2) := by decide +kernel
theorem dX6_goFrom_8 : decode cX6_goFrom 8 = .ok (.iconst 0, 1) := by decide +kernel
theorem dX6_goFrom_9 : decode cX6_goFrom 9 = .ok (.istore 5, 2) := by decide +kernel
theorem dX6_goFrom_11 : decode cX6_goFrom 11 = .ok (.iload 5, 2) := by decide +kernel
theorem dX6_goFrom_13 : decode cX6_goFrom 13 = .ok (.iload 4, 2) := by decide +kernel
theorem dX6_goFrom_15 : decode cX6_goFrom 15 = .ok (.if_icmp .ge 71, 3) := by decide +kernel
theorem dX6_goFrom_18 : decode cX6_goFrom 18 = .ok (.iload 5, 2) := by decide +kernel
theorem dX6_goFrom_20 : decode cX6_goFrom 20 = .ok (.bipush 64, 2) := by decide +kernel
theorem dX6_goFrom_22 : decode cX6_goFrom 22 = .ok (.if_icmp .ge 64, 3) := by decide +kernel
theorem dX6_goFrom_25 : decode cX6_goFrom 25 = .ok (.iconst 0, 1) := by decide +kernel
theorem dX6_goFrom_26 : decode cX6_goFrom 26 = .ok (.istore 6, 2) := by decide +kernel
theorem dX6_goFrom_28 : decode cX6_goFrom 28 = .ok (.iload 6, 2) := by decide +kernel
theorem dX6_goFrom_30 : decode cX6_goFrom 30 = .ok (.iconst 4, 1) := by decide +kernel
theorem dX6_goFrom_31 : decode cX6_goFrom 31 = .ok (.if_icmp .ge 49, 3) := by decide +kernel
theorem dX6_goFrom_34 : decode cX6_goFrom 34 = .ok (.aload_n 0, 1) := by decide +kernel
theorem dX6_goFrom_35 : decode cX6_goFrom 35 = .ok (.getfield 15, 3) := by decide +kernel
theorem dX6_goFrom_38 : decode cX6_goFrom 38 = .ok (.iload 5, 2) := by decide +kernel
theorem dX6_goFrom_40 : decode cX6_goFrom 40 = .ok (.iaload, 1) := by decide +kernel
theorem dX6_goFrom_41 : decode cX6_goFrom 41 = .ok (.iload 6, 2) := by decide +kernel
theorem dX6_goFrom_43 : decode cX6_goFrom 43 = .ok (.invokestatic 38, 3) := by decide +kernel
theorem dX6_goFrom_46 : decode cX6_goFrom 46 = .ok (.istore 7, 2) := by decide +kernel
theorem dX6_goFrom_48 : decode cX6_goFrom 48 = .ok (.iload 7, 2) := by decide +kernel
theorem dX6_goFrom_50 : decode cX6_goFrom 50 = .ok (.iconst (-1), 1) := by decide +kernel
theorem dX6_goFrom_51 : decode cX6_goFrom 51 = .ok (.if_icmp .eq 23, 3) := by decide +kernel
theorem dX6_goFrom_54 : decode cX6_goFrom 54 = .ok (.aload_n 1, 1) := by decide +kernel
theorem dX6_goFrom_55 : decode cX6_goFrom 55 = .ok (.iload 7, 2) := by decide +kernel
theorem dX6_goFrom_57 : decode cX6_goFrom 57 = .ok (.invokevirtual 24, 3) := by decide +kernel
theorem dX6_goFrom_60 : decode cX6_goFrom 60 = .ok (.iload_n 3, 1) := by decide +kernel
theorem dX6_goFrom_61 : decode cX6_goFrom 61 = .ok (.if_icmp .ne 13, 3) := by decide +kernel
theorem dX6_goFrom_64 : decode cX6_goFrom 64 = .ok (.aload_n 0, 1) := by decide +kernel
theorem dX6_goFrom_65 : decode cX6_goFrom 65 = .ok (.iload 7, 2) := by decide +kernel
theorem dX6_goFrom_67 : decode cX6_goFrom 67 = .ok (.iload 4, 2) := by decide +kernel
theorem dX6_goFrom_69 : decode cX6_goFrom 69 = .ok (.invokevirtual 34, 3) := by decide +kernel
theorem dX6_goFrom_72 : decode cX6_goFrom 72 = .ok (.istore 4, 2) := by decide +kernel
theorem dX6_goFrom_74 : decode cX6_goFrom 74 = .ok (.iinc 6 1, 3) := by decide +kernel
theorem dX6_goFrom_77 : decode cX6_goFrom 77 = .ok (.goto (-49), 3) := by decide +kernel
theorem dX6_goFrom_80 : decode cX6_goFrom 80 = .ok (.iinc 5 1, 3) := by decide +kernel
theorem dX6_goFrom_83 : decode cX6_goFrom 83 = .ok (.goto (-72), 3) := by decide +kernel
theorem dX6_goFrom_86 : decode cX6_goFrom 86 = .ok (.return_, 1) := by decide +kernel
theorem dX6_addReached_0 : decode cX6_addReached 0 = .ok (.iload_n 1, 1) := by decide +kernel
theorem dX6_addReached_1 : decode cX6_addReached 1 = .ok (.invokestatic 41, 3) := by decide +kernel
theorem dX6_addReached_4 : decode cX6_addReached 4 = .ok (.ifCond .eq 22, 3) := by decide +kernel
theorem dX6_addReached_7 : decode cX6_addReached 7 = .ok (.iload_n 2, 1) := by decide +kernel
theorem dX6_addReached_8 : decode cX6_addReached 8 = .ok (.ifCond .lt 18, 3) := by decide +kernel
theorem dX6_addReached_11 : decode cX6_addReached 11 = .ok (.iload_n 2, 1) := by decide +kernel
theorem dX6_addReached_12 : decode cX6_addReached 12 = .ok (.bipush 64, 2) := by decide +kernel
theorem dX6_addReached_14 : decode cX6_addReached 14 = .ok (.if_icmp .ge 12, 3) := by decide +kernel
theorem dX6_addReached_17 : decode cX6_addReached 17 = .ok (.aload_n 0, 1) := by decide +kernel
theorem dX6_addReached_18 : decode cX6_addReached 18 = .ok (.getfield 9, 3) := by decide +kernel
theorem dX6_addReached_21 : decode cX6_addReached 21 = .ok (.iload_n 1, 1) := by decide +kernel
theorem dX6_addReached_22 : decode cX6_addReached 22 = .ok (.iaload, 1) := by decide +kernel
theorem dX6_addReached_23 : decode cX6_addReached 23 = .ok (.ifCond .eq 5, 3) := by decide +kernel
theorem dX6_addReached_26 : decode cX6_addReached 26 = .ok (.iload_n 2, 1) := by decide +kernel
theorem dX6_addReached_27 : decode cX6_addReached 27 = .ok (.ireturn, 1) := by decide +kernel
theorem dX6_addReached_28 : decode cX6_addReached 28 = .ok (.aload_n 0, 1) := by decide +kernel
theorem dX6_addReached_29 : decode cX6_addReached 29 = .ok (.getfield 9, 3) := by decide +kernel
theorem dX6_addReached_32 : decode cX6_addReached 32 = .ok (.iload_n 1, 1) := by decide +kernel
theorem dX6_addReached_33 : decode cX6_addReached 33 = .ok (.iconst 1, 1) := by decide +kernel
theorem dX6_addReached_34 : decode cX6_addReached 34 = .ok (.iastore, 1) := by decide +kernel
theorem dX6_addReached_35 : decode cX6_addReached 35 = .ok (.aload_n 0, 1) := by decide +kernel
theorem dX6_addReached_36 : decode cX6_addReached 36 = .ok (.getfield 15, 3) := by decide +kernel
theorem dX6_addReached_39 : decode cX6_addReached 39 = .ok (.iload_n 2, 1) := by decide +kernel
theorem dX6_addReached_40 : decode cX6_addReached 40 = .ok (.iload_n 1, 1) := by decide +kernel
theorem dX6_addReached_41 : decode cX6_addReached 41 = .ok (.iastore, 1) := by decide +kernel
theorem dX6_addReached_42 : decode cX6_addReached 42 = .ok (.iload_n 2, 1) := by decide +kernel
theorem dX6_addReached_43 : decode cX6_addReached 43 = .ok (.iconst 1, 1) := by decide +kernel
theorem dX6_addReached_44 : decode cX6_addReached 44 = .ok (.iadd, 1) := by decide +kernel
theorem dX6_addReached_45 : decode cX6_addReached 45 = .ok (.ireturn, 1) := by decide +kernel
theorem dX6_byJoining_0 : decode cX6_byJoining 0 = .ok (.iconst 0, 1) := by decide +kernel
theorem dX6_byJoining_1 : decode cX6_byJoining 1 = .ok (.istore_n 3, 1) := by decide +kernel
theorem dX6_byJoining_2 : decode cX6_byJoining 2 = .ok (.iload_n 3, 1) := by decide +kernel
theorem dX6_byJoining_3 : decode cX6_byJoining 3 = .ok (.bipush 64, 2) := by decide +kernel
theorem dX6_byJoining_5 : decode cX6_byJoining 5 = .ok (.if_icmp .ge 16, 3) := by decide +kernel
theorem dX6_byJoining_8 : decode cX6_byJoining 8 = .ok (.aload_n 0, 1) := by decide +kernel
theorem dX6_byJoining_9 : decode cX6_byJoining 9 = .ok (.getfield 9, 3) := by decide +kernel
theorem dX6_byJoining_12 : decode cX6_byJoining 12 = .ok (.iload_n 3, 1) := by decide +kernel
theorem dX6_byJoining_13 : decode cX6_byJoining 13 = .ok (.iload_n 3, 1) := by decide +kernel
theorem dX6_byJoining_14 : decode cX6_byJoining 14 = .ok (.iastore, 1) := by decide +kernel
theorem dX6_byJoining_15 : decode cX6_byJoining 15 = .ok (.iinc 3 1, 3) := by decide +kernel
theorem dX6_byJoining_18 : decode cX6_byJoining 18 = .ok (.goto (-16), 3) := by decide +kernel
theorem dX6_byJoining_21 : decode cX6_byJoining 21 = .ok (.aload_n 1, 1) := by decide +kernel
theorem dX6_byJoining_22 : decode cX6_byJoining 22 = .ok (.iload_n 2, 1) := by decide +kernel
theorem dX6_byJoining_23 : decode cX6_byJoining 23 = .ok (.invokevirtual 45, 3) := by decide +kernel
theorem dX6_byJoining_26 : decode cX6_byJoining 26 = .ok (.istore_n 3, 1) := by decide +kernel
theorem dX6_byJoining_27 : decode cX6_byJoining 27 = .ok (.iconst 0, 1) := by decide +kernel
theorem dX6_byJoining_28 : decode cX6_byJoining 28 = .ok (.istore 4, 2) := by decide +kernel
theorem dX6_byJoining_30 : decode cX6_byJoining 30 = .ok (.iload 4, 2) := by decide +kernel
theorem dX6_byJoining_32 : decode cX6_byJoining 32 = .ok (.bipush 64, 2) := by decide +kernel
theorem dX6_byJoining_34 : decode cX6_byJoining 34 = .ok (.if_icmp .ge 51, 3) := by decide +kernel
theorem dX6_byJoining_37 : decode cX6_byJoining 37 = .ok (.aload_n 1, 1) := by decide +kernel
theorem dX6_byJoining_38 : decode cX6_byJoining 38 = .ok (.iload 4, 2) := by decide +kernel
theorem dX6_byJoining_40 : decode cX6_byJoining 40 = .ok (.invokevirtual 24, 3) := by decide +kernel
theorem dX6_byJoining_43 : decode cX6_byJoining 43 = .ok (.iload_n 2, 1) := by decide +kernel
theorem dX6_byJoining_44 : decode cX6_byJoining 44 = .ok (.if_icmp .ne 35, 3) := by decide +kernel
theorem dX6_byJoining_47 : decode cX6_byJoining 47 = .ok (.iload_n 3, 1) := by decide +kernel
theorem dX6_byJoining_48 : decode cX6_byJoining 48 = .ok (.aload_n 0, 1) := by decide +kernel
theorem dX6_byJoining_49 : decode cX6_byJoining 49 = .ok (.aload_n 1, 1) := by decide +kernel
theorem dX6_byJoining_50 : decode cX6_byJoining 50 = .ok (.iload 4, 2) := by decide +kernel
theorem dX6_byJoining_52 : decode cX6_byJoining 52 = .ok (.iload 4, 2) := by decide +kernel
theorem dX6_byJoining_54 : decode cX6_byJoining 54 = .ok (.iconst 1, 1) := by decide +kernel
theorem dX6_byJoining_55 : decode cX6_byJoining 55 = .ok (.invokestatic 38, 3) := by decide +kernel
theorem dX6_byJoining_58 : decode cX6_byJoining 58 = .ok (.invokevirtual 48, 3) := by decide +kernel
theorem dX6_byJoining_61 : decode cX6_byJoining 61 = .ok (.isub, 1) := by decide +kernel
theorem dX6_byJoining_62 : decode cX6_byJoining 62 = .ok (.istore_n 3, 1) := by decide +kernel
theorem dX6_byJoining_63 : decode cX6_byJoining 63 = .ok (.iload_n 3, 1) := by decide +kernel
theorem dX6_byJoining_64 : decode cX6_byJoining 64 = .ok (.aload_n 0, 1) := by decide +kernel
theorem dX6_byJoining_65 : decode cX6_byJoining 65 = .ok (.aload_n 1, 1) := by decide +kernel
theorem dX6_byJoining_66 : decode cX6_byJoining 66 = .ok (.iload 4, 2) := by decide +kernel
theorem dX6_byJoining_68 : decode cX6_byJoining 68 = .ok (.iload 4, 2) := by decide +kernel
theorem dX6_byJoining_70 : decode cX6_byJoining 70 = .ok (.iconst 2, 1) := by decide +kernel
theorem dX6_byJoining_71 : decode cX6_byJoining 71 = .ok (.invokestatic 38, 3) := by decide +kernel
theorem dX6_byJoining_74 : decode cX6_byJoining 74 = .ok (.invokevirtual 48, 3) := by decide +kernel
theorem dX6_byJoining_77 : decode cX6_byJoining 77 = .ok (.isub, 1) := by decide +kernel
theorem dX6_byJoining_78 : decode cX6_byJoining 78 = .ok (.istore_n 3, 1) := by decide +kernel
theorem dX6_byJoining_79 : decode cX6_byJoining 79 = .ok (.iinc 4 1, 3) := by decide +kernel
theorem dX6_byJoining_82 : decode cX6_byJoining 82 = .ok (.goto (-52), 3) := by decide +kernel
theorem dX6_byJoining_85 : decode cX6_byJoining 85 = .ok (.iload_n 3, 1) := by decide +kernel
theorem dX6_byJoining_86 : decode cX6_byJoining 86 = .ok (.ireturn, 1) := by decide +kernel
theorem dX6_joinTo_0 : decode cX6_joinTo 0 = .ok (.iload_n 3, 1) := by decide +kernel
theorem dX6_joinTo_1 : decode cX6_joinTo 1 = .ok (.iconst (-1), 1) := by decide +kernel
theorem dX6_joinTo_2 : decode cX6_joinTo 2 = .ok (.if_icmp .eq 16, 3) := by decide +kernel
theorem dX6_joinTo_5 : decode cX6_joinTo 5 = .ok (.aload_n 1, 1) := by decide +kernel
theorem dX6_joinTo_6 : decode cX6_joinTo 6 = .ok (.iload_n 3, 1) := by decide +kernel
theorem dX6_joinTo_7 : decode cX6_joinTo 7 = .ok (.invokevirtual 24, 3) := by decide +kernel
theorem dX6_joinTo_10 : decode cX6_joinTo 10 = .ok (.aload_n 1, 1) := by decide +kernel
theorem dX6_joinTo_11 : decode cX6_joinTo 11 = .ok (.iload_n 2, 1) := by decide +kernel
theorem dX6_joinTo_12 : decode cX6_joinTo 12 = .ok (.invokevirtual 24, 3) := by decide +kernel
theorem dX6_joinTo_15 : decode cX6_joinTo 15 = .ok (.if_icmp .eq 5, 3) := by decide +kernel
theorem dX6_joinTo_18 : decode cX6_joinTo 18 = .ok (.iconst 0, 1) := by decide +kernel
theorem dX6_joinTo_19 : decode cX6_joinTo 19 = .ok (.ireturn, 1) := by decide +kernel
theorem dX6_joinTo_20 : decode cX6_joinTo 20 = .ok (.aload_n 0, 1) := by decide +kernel
theorem dX6_joinTo_21 : decode cX6_joinTo 21 = .ok (.iload_n 2, 1) := by decide +kernel
theorem dX6_joinTo_22 : decode cX6_joinTo 22 = .ok (.invokevirtual 52, 3) := by decide +kernel
theorem dX6_joinTo_25 : decode cX6_joinTo 25 = .ok (.istore 4, 2) := by decide +kernel
theorem dX6_joinTo_27 : decode cX6_joinTo 27 = .ok (.aload_n 0, 1) := by decide +kernel
theorem dX6_joinTo_28 : decode cX6_joinTo 28 = .ok (.iload_n 3, 1) := by decide +kernel
theorem dX6_joinTo_29 : decode cX6_joinTo 29 = .ok (.invokevirtual 52, 3) := by decide +kernel
theorem dX6_joinTo_32 : decode cX6_joinTo 32 = .ok (.istore 5, 2) := by decide +kernel
theorem dX6_joinTo_34 : decode cX6_joinTo 34 = .ok (.iload 4, 2) := by decide +kernel
theorem dX6_joinTo_36 : decode cX6_joinTo 36 = .ok (.iload 5, 2) := by decide +kernel
theorem dX6_joinTo_38 : decode cX6_joinTo 38 = .ok (.if_icmp .eq 19, 3) := by decide +kernel
theorem dX6_joinTo_41 : decode cX6_joinTo 41 = .ok (.iload 4, 2) := by decide +kernel
theorem dX6_joinTo_43 : decode cX6_joinTo 43 = .ok (.invokestatic 41, 3) := by decide +kernel
theorem dX6_joinTo_46 : decode cX6_joinTo 46 = .ok (.ifCond .eq 11, 3) := by decide +kernel
theorem dX6_joinTo_49 : decode cX6_joinTo 49 = .ok (.iload 5, 2) := by decide +kernel
theorem dX6_joinTo_51 : decode cX6_joinTo 51 = .ok (.invokestatic 41, 3) := by decide +kernel
theorem dX6_joinTo_54 : decode cX6_joinTo 54 = .ok (.ifCond .ne 5, 3) := by decide +kernel
theorem dX6_joinTo_57 : decode cX6_joinTo 57 = .ok (.iconst 0, 1) := by decide +kernel
theorem dX6_joinTo_58 : decode cX6_joinTo 58 = .ok (.ireturn, 1) := by decide +kernel
theorem dX6_joinTo_59 : decode cX6_joinTo 59 = .ok (.aload_n 0, 1) := by decide +kernel
theorem dX6_joinTo_60 : decode cX6_joinTo 60 = .ok (.getfield 9, 3) := by decide +kernel
theorem dX6_joinTo_63 : decode cX6_joinTo 63 = .ok (.iload 4, 2) := by decide +kernel
theorem dX6_joinTo_65 : decode cX6_joinTo 65 = .ok (.iload 5, 2) := by decide +kernel
theorem dX6_joinTo_67 : decode cX6_joinTo 67 = .ok (.invokestatic 55, 3) := by decide +kernel
theorem dX6_joinTo_70 : decode cX6_joinTo 70 = .ok (.iload 4, 2) := by decide +kernel
theorem dX6_joinTo_72 : decode cX6_joinTo 72 = .ok (.iload 5, 2) := by decide +kernel
theorem dX6_joinTo_74 : decode cX6_joinTo 74 = .ok (.invokestatic 60, 3) := by decide +kernel
theorem dX6_joinTo_77 : decode cX6_joinTo 77 = .ok (.iastore, 1) := by decide +kernel
theorem dX6_joinTo_78 : decode cX6_joinTo 78 = .ok (.iconst 1, 1) := by decide +kernel
theorem dX6_joinTo_79 : decode cX6_joinTo 79 = .ok (.ireturn, 1) := by decide +kernel
theorem dX6_headOf_0 : decode cX6_headOf 0 = .ok (.iload_n 1, 1) := by decide +kernel
theorem dX6_headOf_1 : decode cX6_headOf 1 = .ok (.istore_n 2, 1) := by decide +kernel
theorem dX6_headOf_2 : decode cX6_headOf 2 = .ok (.iconst 0, 1) := by decide +kernel
theorem dX6_headOf_3 : decode cX6_headOf 3 = .ok (.istore_n 3, 1) := by decide +kernel
theorem dX6_headOf_4 : decode cX6_headOf 4 = .ok (.iload_n 3, 1) := by decide +kernel
theorem dX6_headOf_5 : decode cX6_headOf 5 = .ok (.bipush 64, 2) := by decide +kernel
theorem dX6_headOf_7 : decode cX6_headOf 7 = .ok (.if_icmp .ge 33, 3) := by decide +kernel
theorem dX6_headOf_10 : decode cX6_headOf 10 = .ok (.iload_n 2, 1) := by decide +kernel
theorem dX6_headOf_11 : decode cX6_headOf 11 = .ok (.invokestatic 41, 3) := by decide +kernel
theorem dX6_headOf_14 : decode cX6_headOf 14 = .ok (.ifCond .eq 26, 3) := by decide +kernel
theorem dX6_headOf_17 : decode cX6_headOf 17 = .ok (.aload_n 0, 1) := by decide +kernel
theorem dX6_headOf_18 : decode cX6_headOf 18 = .ok (.getfield 9, 3) := by decide +kernel
theorem dX6_headOf_21 : decode cX6_headOf 21 = .ok (.iload_n 2, 1) := by decide +kernel
theorem dX6_headOf_22 : decode cX6_headOf 22 = .ok (.iaload, 1) := by decide +kernel
theorem dX6_headOf_23 : decode cX6_headOf 23 = .ok (.iload_n 2, 1) := by decide +kernel
theorem dX6_headOf_24 : decode cX6_headOf 24 = .ok (.if_icmp .eq 16, 3) := by decide +kernel
theorem dX6_headOf_27 : decode cX6_headOf 27 = .ok (.aload_n 0, 1) := by decide +kernel
theorem dX6_headOf_28 : decode cX6_headOf 28 = .ok (.getfield 9, 3) := by decide +kernel
theorem dX6_headOf_31 : decode cX6_headOf 31 = .ok (.iload_n 2, 1) := by decide +kernel
theorem dX6_headOf_32 : decode cX6_headOf 32 = .ok (.iaload, 1) := by decide +kernel
theorem dX6_headOf_33 : decode cX6_headOf 33 = .ok (.istore_n 2, 1) := by decide +kernel
theorem dX6_headOf_34 : decode cX6_headOf 34 = .ok (.iinc 3 1, 3) := by decide +kernel
theorem dX6_headOf_37 : decode cX6_headOf 37 = .ok (.goto (-33), 3) := by decide +kernel
theorem dX6_headOf_40 : decode cX6_headOf 40 = .ok (.iload_n 2, 1) := by decide +kernel
theorem dX6_headOf_41 : decode cX6_headOf 41 = .ok (.ireturn, 1) := by decide +kernel
theorem dX7_init_0 : decode cX7_init 0 = .ok (.aload_n 0, 1) := by decide +kernel
theorem dX7_init_1 : decode cX7_init 1 = .ok (.invokespecial 3, 3) := by decide +kernel
theorem dX7_init_4 : decode cX7_init 4 = .ok (.aload_n 0, 1) := by decide +kernel
theorem dX7_init_5 : decode cX7_init 5 = .ok (.new 9, 3) := by decide +kernel
theorem dX7_init_8 : decode cX7_init 8 = .ok (.dup, 1) := by decide +kernel
theorem dX7_init_9 : decode cX7_init 9 = .ok (.invokespecial 11, 3) := by decide +kernel
theorem dX7_init_12 : decode cX7_init 12 = .ok (.putfield 12, 3) := by decide +kernel
theorem dX7_init_15 : decode cX7_init 15 = .ok (.return_, 1) := by decide +kernel
theorem dX7_rewind_0 : decode cX7_rewind 0 = .ok (.aload_n 0, 1) := by decide +kernel
theorem dX7_rewind_1 : decode cX7_rewind 1 = .ok (.iconst 0, 1) := by decide +kernel
theorem dX7_rewind_2 : decode cX7_rewind 2 = .ok (.putfield 18, 3) := by decide +kernel
theorem dX7_rewind_5 : decode cX7_rewind 5 = .ok (.return_, 1) := by decide +kernel
theorem dX7_firstError_0 : decode cX7_firstError 0 = .ok (.aload_n 0, 1) := by decide +kernel
theorem dX7_firstError_1 : decode cX7_firstError 1 = .ok (.invokevirtual 22, 3) := by decide +kernel
theorem dX7_firstError_4 : decode cX7_firstError 4 = .ok (.iconst 0, 1) := by decide +kernel
theorem dX7_firstError_5 : decode cX7_firstError 5 = .ok (.istore_n 2, 1) := by decide +kernel
theorem dX7_firstError_6 : decode cX7_firstError 6 = .ok (.iload_n 2, 1) := by decide +kernel
theorem dX7_firstError_7 : decode cX7_firstError 7 = .ok (.bipush 60, 2) := by decide +kernel
theorem dX7_firstError_9 : decode cX7_firstError 9 = .ok (.if_icmp .ge 52, 3) := by decide +kernel
theorem dX7_firstError_12 : decode cX7_firstError 12 = .ok (.aload_n 0, 1) := by decide +kernel
theorem dX7_firstError_13 : decode cX7_firstError 13 = .ok (.aload_n 1, 1) := by decide +kernel
theorem dX7_firstError_14 : decode cX7_firstError 14 = .ok (.invokevirtual 25, 3) := by decide +kernel
theorem dX7_firstError_17 : decode cX7_firstError 17 = .ok (.ifCond .ne 8, 3) := by decide +kernel
theorem dX7_firstError_20 : decode cX7_firstError 20 = .ok (.aload_n 0, 1) := by decide +kernel
theorem dX7_firstError_21 : decode cX7_firstError 21 = .ok (.getfield 18, 3) := by decide +kernel
theorem dX7_firstError_24 : decode cX7_firstError 24 = .ok (.ireturn, 1) := by decide +kernel
theorem dX7_firstError_25 : decode cX7_firstError 25 = .ok (.aload_n 0, 1) := by decide +kernel
theorem dX7_firstError_26 : decode cX7_firstError 26 = .ok (.getfield 18, 3) := by decide +kernel
theorem dX7_firstError_29 : decode cX7_firstError 29 = .ok (.aload_n 0, 1) := by decide +kernel
theorem dX7_firstError_30 : decode cX7_firstError 30 = .ok (.getfield 12, 3) := by decide +kernel
theorem dX7_firstError_33 : decode cX7_firstError 33 = .ok (.getfield 29, 3) := by decide +kernel
theorem dX7_firstError_36 : decode cX7_firstError 36 = .ok (.if_icmp .ne 5, 3) := by decide +kernel
theorem dX7_firstError_39 : decode cX7_firstError 39 = .ok (.iconst (-1), 1) := by decide +kernel
theorem dX7_firstError_40 : decode cX7_firstError 40 = .ok (.ireturn, 1) := by decide +kernel
theorem dX7_firstError_41 : decode cX7_firstError 41 = .ok (.aload_n 0, 1) := by decide +kernel
theorem dX7_firstError_42 : decode cX7_firstError 42 = .ok (.bipush 59, 2) := by decide +kernel
theorem dX7_firstError_44 : decode cX7_firstError 44 = .ok (.invokevirtual 32, 3) := by decide +kernel
theorem dX7_firstError_47 : decode cX7_firstError 47 = .ok (.ifCond .ne 8, 3) := by decide +kernel
theorem dX7_firstError_50 : decode cX7_firstError 50 = .ok (.aload_n 0, 1) := by decide +kernel
theorem dX7_firstError_51 : decode cX7_firstError 51 = .ok (.getfield 18, 3) := by decide +kernel
theorem dX7_firstError_54 : decode cX7_firstError 54 = .ok (.ireturn, 1) := by decide +kernel
theorem dX7_firstError_55 : decode cX7_firstError 55 = .ok (.iinc 2 1, 3) := by decide +kernel
theorem dX7_firstError_58 : decode cX7_firstError 58 = .ok (.goto (-52), 3) := by decide +kernel
theorem dX7_firstError_61 : decode cX7_firstError 61 = .ok (.aload_n 0, 1) := by decide +kernel
theorem dX7_firstError_62 : decode cX7_firstError 62 = .ok (.getfield 18, 3) := by decide +kernel
theorem dX7_firstError_65 : decode cX7_firstError 65 = .ok (.ireturn, 1) := by decide +kernel
theorem dX7_isOnlySteps_0 : decode cX7_isOnlySteps 0 = .ok (.aload_n 0, 1) := by decide +kernel
theorem dX7_isOnlySteps_1 : decode cX7_isOnlySteps 1 = .ok (.invokevirtual 22, 3) := by decide +kernel
theorem dX7_isOnlySteps_4 : decode cX7_isOnlySteps 4 = .ok (.aload_n 0, 1) := by decide +kernel
theorem dX7_isOnlySteps_5 : decode cX7_isOnlySteps 5 = .ok (.aload_n 1, 1) := by decide +kernel
theorem dX7_isOnlySteps_6 : decode cX7_isOnlySteps 6 = .ok (.invokevirtual 36, 3) := by decide +kernel
theorem dX7_isOnlySteps_9 : decode cX7_isOnlySteps 9 = .ok (.ifCond .eq 21, 3) := by decide +kernel
theorem dX7_isOnlySteps_12 : decode cX7_isOnlySteps 12 = .ok (.aload_n 0, 1) := by decide +kernel
theorem dX7_isOnlySteps_13 : decode cX7_isOnlySteps 13 = .ok (.getfield 18, 3) := by decide +kernel
theorem dX7_isOnlySteps_16 : decode cX7_isOnlySteps 16 = .ok (.aload_n 0, 1) := by decide +kernel
theorem dX7_isOnlySteps_17 : decode cX7_isOnlySteps 17 = .ok (.getfield 12, 3) := by decide +kernel
theorem dX7_isOnlySteps_20 : decode cX7_isOnlySteps 20 = .ok (.getfield 29, 3) := by decide +kernel
theorem dX7_isOnlySteps_23 : decode cX7_isOnlySteps 23 = .ok (.if_icmp .ne 7, 3) := by decide +kernel
theorem dX7_isOnlySteps_26 : decode cX7_isOnlySteps 26 = .ok (.iconst 1, 1) := by decide +kernel
theorem dX7_isOnlySteps_27 : decode cX7_isOnlySteps 27 = .ok (.goto 4, 3) := by decide +kernel
theorem dX7_isOnlySteps_30 : decode cX7_isOnlySteps 30 = .ok (.iconst 0, 1) := by decide +kernel
theorem dX7_isOnlySteps_31 : decode cX7_isOnlySteps 31 = .ok (.ireturn, 1) := by decide +kernel
theorem dX7_takeCommand_0 : decode cX7_takeCommand 0 = .ok (.aload_n 0, 1) := by decide +kernel
theorem dX7_takeCommand_1 : decode cX7_takeCommand 1 = .ok (.getfield 12, 3) := by decide +kernel
theorem dX7_takeCommand_4 : decode cX7_takeCommand 4 = .ok (.aload_n 0, 1) := by decide +kernel
theorem dX7_takeCommand_5 : decode cX7_takeCommand 5 = .ok (.getfield 18, 3) := by decide +kernel
theorem dX7_takeCommand_8 : decode cX7_takeCommand 8 = .ok (.invokevirtual 39, 3) := by decide +kernel
theorem dX7_takeCommand_11 : decode cX7_takeCommand 11 = .ok (.istore_n 2, 1) := by decide +kernel
theorem dX7_takeCommand_12 : decode cX7_takeCommand 12 = .ok (.aload_n 1, 1) := by decide +kernel
theorem dX7_takeCommand_13 : decode cX7_takeCommand 13 = .ok (.iload_n 2, 1) := by decide +kernel
theorem dX7_takeCommand_14 : decode cX7_takeCommand 14 = .ok (.iconst (-1), 1) := by decide +kernel
theorem dX7_takeCommand_15 : decode cX7_takeCommand 15 = .ok (.iconst (-1), 1) := by decide +kernel
theorem dX7_takeCommand_16 : decode cX7_takeCommand 16 = .ok (.invokevirtual 43, 3) := by decide +kernel
theorem dX7_takeCommand_19 : decode cX7_takeCommand 19 = .ok (.aload_n 0, 1) := by decide +kernel
theorem dX7_takeCommand_20 : decode cX7_takeCommand 20 = .ok (.dup, 1) := by decide +kernel
theorem dX7_takeCommand_21 : decode cX7_takeCommand 21 = .ok (.getfield 18, 3) := by decide +kernel
theorem dX7_takeCommand_24 : decode cX7_takeCommand 24 = .ok (.iconst 1, 1) := by decide +kernel
theorem dX7_takeCommand_25 : decode cX7_takeCommand 25 = .ok (.iadd, 1) := by decide +kernel
theorem dX7_takeCommand_26 : decode cX7_takeCommand 26 = .ok (.putfield 18, 3) := by decide +kernel
theorem dX7_takeCommand_29 : decode cX7_takeCommand 29 = .ok (.iload_n 2, 1) := by decide +kernel
theorem dX7_takeCommand_30 : decode cX7_takeCommand 30 = .ok (.tableswitch 225 100 115 #[172, 225, 203, 225, 225, 225, 225, 203, 225, 203, 225, 225, 78, 225, 124, 101], 78) := by decide +kernel
theorem dX7_takeCommand_108 : decode cX7_takeCommand 108 = .ok (.aload_n 0, 1) := by decide +kernel
theorem dX7_takeCommand_109 : decode cX7_takeCommand 109 = .ok (.aload_n 1, 1) := by decide +kernel
theorem dX7_takeCommand_110 : decode cX7_takeCommand 110 = .ok (.invokevirtual 49, 3) := by decide +kernel
theorem dX7_takeCommand_113 : decode cX7_takeCommand 113 = .ok (.ifCond .eq 16, 3) := by decide +kernel
theorem dX7_takeCommand_116 : decode cX7_takeCommand 116 = .ok (.aload_n 0, 1) := by decide +kernel
theorem dX7_takeCommand_117 : decode cX7_takeCommand 117 = .ok (.aload_n 1, 1) := by decide +kernel
theorem dX7_takeCommand_118 : decode cX7_takeCommand 118 = .ok (.iconst 1, 1) := by decide +kernel
theorem dX7_takeCommand_119 : decode cX7_takeCommand 119 = .ok (.invokevirtual 52, 3) := by decide +kernel
theorem dX7_takeCommand_122 : decode cX7_takeCommand 122 = .ok (.ifCond .eq 7, 3) := by decide +kernel
theorem dX7_takeCommand_125 : decode cX7_takeCommand 125 = .ok (.iconst 1, 1) := by decide +kernel
theorem dX7_takeCommand_126 : decode cX7_takeCommand 126 = .ok (.goto 4, 3) := by decide +kernel
theorem dX7_takeCommand_129 : decode cX7_takeCommand 129 = .ok (.iconst 0, 1) := by decide +kernel
theorem dX7_takeCommand_130 : decode cX7_takeCommand 130 = .ok (.ireturn, 1) := by decide +kernel
theorem dX7_takeCommand_131 : decode cX7_takeCommand 131 = .ok (.aload_n 0, 1) := by decide +kernel
theorem dX7_takeCommand_132 : decode cX7_takeCommand 132 = .ok (.aload_n 1, 1) := by decide +kernel
theorem dX7_takeCommand_133 : decode cX7_takeCommand 133 = .ok (.invokevirtual 49, 3) := by decide +kernel
theorem dX7_takeCommand_136 : decode cX7_takeCommand 136 = .ok (.ifCond .eq 16, 3) := by decide +kernel
theorem dX7_takeCommand_139 : decode cX7_takeCommand 139 = .ok (.aload_n 0, 1) := by decide +kernel
theorem dX7_takeCommand_140 : decode cX7_takeCommand 140 = .ok (.aload_n 1, 1) := by decide +kernel
theorem dX7_takeCommand_141 : decode cX7_takeCommand 141 = .ok (.iconst 0, 1) := by decide +kernel
theorem dX7_takeCommand_142 : decode cX7_takeCommand 142 = .ok (.invokevirtual 52, 3) := by decide +kernel
theorem dX7_takeCommand_145 : decode cX7_takeCommand 145 = .ok (.ifCond .eq 7, 3) := by decide +kernel
theorem dX7_takeCommand_148 : decode cX7_takeCommand 148 = .ok (.iconst 1, 1) := by decide +kernel
theorem dX7_takeCommand_149 : decode cX7_takeCommand 149 = .ok (.goto 4, 3) := by decide +kernel
theorem dX7_takeCommand_152 : decode cX7_takeCommand 152 = .ok (.iconst 0, 1) := by decide +kernel
theorem dX7_takeCommand_153 : decode cX7_takeCommand 153 = .ok (.ireturn, 1) := by decide +kernel
theorem dX7_takeCommand_154 : decode cX7_takeCommand 154 = .ok (.aload_n 0, 1) := by decide +kernel
theorem dX7_takeCommand_155 : decode cX7_takeCommand 155 = .ok (.aload_n 1, 1) := by decide +kernel
theorem dX7_takeCommand_156 : decode cX7_takeCommand 156 = .ok (.invokevirtual 49, 3) := by decide +kernel
theorem dX7_takeCommand_159 : decode cX7_takeCommand 159 = .ok (.ifCond .eq 41, 3) := by decide +kernel
theorem dX7_takeCommand_162 : decode cX7_takeCommand 162 = .ok (.aload_n 0, 1) := by decide +kernel
theorem dX7_takeCommand_163 : decode cX7_takeCommand 163 = .ok (.bipush 58, 2) := by decide +kernel
theorem dX7_takeCommand_165 : decode cX7_takeCommand 165 = .ok (.invokevirtual 32, 3) := by decide +kernel
theorem dX7_takeCommand_168 : decode cX7_takeCommand 168 = .ok (.ifCond .eq 32, 3) := by decide +kernel
theorem dX7_takeCommand_171 : decode cX7_takeCommand 171 = .ok (.aload_n 0, 1) := by decide +kernel
theorem dX7_takeCommand_172 : decode cX7_takeCommand 172 = .ok (.aload_n 1, 1) := by decide +kernel
theorem dX7_takeCommand_173 : decode cX7_takeCommand 173 = .ok (.invokevirtual 36, 3) := by decide +kernel
theorem dX7_takeCommand_176 : decode cX7_takeCommand 176 = .ok (.ifCond .eq 24, 3) := by decide +kernel
theorem dX7_takeCommand_179 : decode cX7_takeCommand 179 = .ok (.aload_n 0, 1) := by decide +kernel
theorem dX7_takeCommand_180 : decode cX7_takeCommand 180 = .ok (.bipush 61, 2) := by decide +kernel
theorem dX7_takeCommand_182 : decode cX7_takeCommand 182 = .ok (.invokevirtual 32, 3) := by decide +kernel
theorem dX7_takeCommand_185 : decode cX7_takeCommand 185 = .ok (.ifCond .eq 15, 3) := by decide +kernel
theorem dX7_takeCommand_188 : decode cX7_takeCommand 188 = .ok (.aload_n 0, 1) := by decide +kernel
theorem dX7_takeCommand_189 : decode cX7_takeCommand 189 = .ok (.aload_n 1, 1) := by decide +kernel
theorem dX7_takeCommand_190 : decode cX7_takeCommand 190 = .ok (.invokevirtual 56, 3) := by decide +kernel
theorem dX7_takeCommand_193 : decode cX7_takeCommand 193 = .ok (.ifCond .eq 7, 3) := by decide +kernel
theorem dX7_takeCommand_196 : decode cX7_takeCommand 196 = .ok (.iconst 1, 1) := by decide +kernel
theorem dX7_takeCommand_197 : decode cX7_takeCommand 197 = .ok (.goto 4, 3) := by decide +kernel
theorem dX7_takeCommand_200 : decode cX7_takeCommand 200 = .ok (.iconst 0, 1) := by decide +kernel
theorem dX7_takeCommand_201 : decode cX7_takeCommand 201 = .ok (.ireturn, 1) := by decide +kernel
theorem dX7_takeCommand_202 : decode cX7_takeCommand 202 = .ok (.aload_n 0, 1) := by decide +kernel
theorem dX7_takeCommand_203 : decode cX7_takeCommand 203 = .ok (.aload_n 1, 1) := by decide +kernel
theorem dX7_takeCommand_204 : decode cX7_takeCommand 204 = .ok (.invokevirtual 49, 3) := by decide +kernel
theorem dX7_takeCommand_207 : decode cX7_takeCommand 207 = .ok (.ifCond .eq 24, 3) := by decide +kernel
theorem dX7_takeCommand_210 : decode cX7_takeCommand 210 = .ok (.aload_n 0, 1) := by decide +kernel
theorem dX7_takeCommand_211 : decode cX7_takeCommand 211 = .ok (.bipush 47, 2) := by decide +kernel
theorem dX7_takeCommand_213 : decode cX7_takeCommand 213 = .ok (.invokevirtual 32, 3) := by decide +kernel
theorem dX7_takeCommand_216 : decode cX7_takeCommand 216 = .ok (.ifCond .eq 15, 3) := by decide +kernel
theorem dX7_takeCommand_219 : decode cX7_takeCommand 219 = .ok (.aload_n 0, 1) := by decide +kernel
theorem dX7_takeCommand_220 : decode cX7_takeCommand 220 = .ok (.aload_n 1, 1) := by decide +kernel
theorem dX7_takeCommand_221 : decode cX7_takeCommand 221 = .ok (.invokevirtual 56, 3) := by decide +kernel
theorem dX7_takeCommand_224 : decode cX7_takeCommand 224 = .ok (.ifCond .eq 7, 3) := by decide +kernel
theorem dX7_takeCommand_227 : decode cX7_takeCommand 227 = .ok (.iconst 1, 1) := by decide +kernel
theorem dX7_takeCommand_228 : decode cX7_takeCommand 228 = .ok (.goto 4, 3) := by decide +kernel
theorem dX7_takeCommand_231 : decode cX7_takeCommand 231 = .ok (.iconst 0, 1) := by decide +kernel
theorem dX7_takeCommand_232 : decode cX7_takeCommand 232 = .ok (.ireturn, 1) := by decide +kernel
theorem dX7_takeCommand_233 : decode cX7_takeCommand 233 = .ok (.aload_n 1, 1) := by decide +kernel
theorem dX7_takeCommand_234 : decode cX7_takeCommand 234 = .ok (.aload_n 0, 1) := by decide +kernel
theorem dX7_takeCommand_235 : decode cX7_takeCommand 235 = .ok (.invokevirtual 59, 3) := by decide +kernel
theorem dX7_takeCommand_238 : decode cX7_takeCommand 238 = .ok (.putfield 63, 3) := by decide +kernel
theorem dX7_takeCommand_241 : decode cX7_takeCommand 241 = .ok (.aload_n 1, 1) := by decide +kernel
theorem dX7_takeCommand_242 : decode cX7_takeCommand 242 = .ok (.getfield 63, 3) := by decide +kernel
theorem dX7_takeCommand_245 : decode cX7_takeCommand 245 = .ok (.iconst (-1), 1) := by decide +kernel
theorem dX7_takeCommand_246 : decode cX7_takeCommand 246 = .ok (.if_icmp .eq 7, 3) := by decide +kernel
theorem dX7_takeCommand_249 : decode cX7_takeCommand 249 = .ok (.iconst 1, 1) := by decide +kernel
theorem dX7_takeCommand_250 : decode cX7_takeCommand 250 = .ok (.goto 4, 3) := by decide +kernel
theorem dX7_takeCommand_253 : decode cX7_takeCommand 253 = .ok (.iconst 0, 1) := by decide +kernel
theorem dX7_takeCommand_254 : decode cX7_takeCommand 254 = .ok (.ireturn, 1) := by decide +kernel
theorem dX7_takeCommand_255 : decode cX7_takeCommand 255 = .ok (.aload_n 0, 1) := by decide +kernel
theorem dX7_takeCommand_256 : decode cX7_takeCommand 256 = .ok (.dup, 1) := by decide +kernel
theorem dX7_takeCommand_257 : decode cX7_takeCommand 257 = .ok (.getfield 18, 3) := by decide +kernel
theorem dX7_takeCommand_260 : decode cX7_takeCommand 260 = .ok (.iconst 1, 1) := by decide +kernel
theorem dX7_takeCommand_261 : decode cX7_takeCommand 261 = .ok (.isub, 1) := by decide +kernel
theorem dX7_takeCommand_262 : decode cX7_takeCommand 262 = .ok (.putfield 18, 3) := by decide +kernel
theorem dX7_takeCommand_265 : decode cX7_takeCommand 265 = .ok (.iconst 0, 1) := by decide +kernel
theorem dX7_takeCommand_266 : decode cX7_takeCommand 266 = .ok (.ireturn, 1) := by decide +kernel
theorem dX7_takeSign_0 : decode cX7_takeSign 0 = .ok (.aload_n 0, 1) := by decide +kernel
theorem dX7_takeSign_1 : decode cX7_takeSign 1 = .ok (.getfield 12, 3) := by decide +kernel
theorem dX7_takeSign_4 : decode cX7_takeSign 4 = .ok (.aload_n 0, 1) := by decide +kernel
theorem dX7_takeSign_5 : decode cX7_takeSign 5 = .ok (.getfield 18, 3) := by decide +kernel
theorem dX7_takeSign_8 : decode cX7_takeSign 8 = .ok (.invokevirtual 39, 3) := by decide +kernel
theorem dX7_takeSign_11 : decode cX7_takeSign 11 = .ok (.iload_n 1, 1) := by decide +kernel
theorem dX7_takeSign_12 : decode cX7_takeSign 12 = .ok (.if_icmp .eq 5, 3) := by decide +kernel
theorem dX7_takeSign_15 : decode cX7_takeSign 15 = .ok (.iconst 0, 1) := by decide +kernel
theorem dX7_takeSign_16 : decode cX7_takeSign 16 = .ok (.ireturn, 1) := by decide +kernel
theorem dX7_takeSign_17 : decode cX7_takeSign 17 = .ok (.aload_n 0, 1) := by decide +kernel
theorem dX7_takeSign_18 : decode cX7_takeSign 18 = .ok (.dup, 1) := by decide +kernel
theorem dX7_takeSign_19 : decode cX7_takeSign 19 = .ok (.getfield 18, 3) := by decide +kernel
theorem dX7_takeSign_22 : decode cX7_takeSign 22 = .ok (.iconst 1, 1) := by decide +kernel
theorem dX7_takeSign_23 : decode cX7_takeSign 23 = .ok (.iadd, 1) := by decide +kernel
theorem dX7_takeSign_24 : decode cX7_takeSign 24 = .ok (.putfield 18, 3) := by decide +kernel
theorem dX7_takeSign_27 : decode cX7_takeSign 27 = .ok (.iconst 1, 1) := by decide +kernel
theorem dX7_takeSign_28 : decode cX7_takeSign 28 = .ok (.ireturn, 1) := by decide +kernel
theorem dX7_takeCell_0 : decode cX7_takeCell 0 = .ok (.aload_n 1, 1) := by decide +kernel
theorem dX7_takeCell_1 : decode cX7_takeCell 1 = .ok (.aload_n 0, 1) := by decide +kernel
theorem dX7_takeCell_2 : decode cX7_takeCell 2 = .ok (.invokevirtual 66, 3) := by decide +kernel
theorem dX7_takeCell_5 : decode cX7_takeCell 5 = .ok (.putfield 69, 3) := by decide +kernel
theorem dX7_takeCell_8 : decode cX7_takeCell 8 = .ok (.aload_n 1, 1) := by decide +kernel
theorem dX7_takeCell_9 : decode cX7_takeCell 9 = .ok (.getfield 69, 3) := by decide +kernel
theorem dX7_takeCell_12 : decode cX7_takeCell 12 = .ok (.iconst (-1), 1) := by decide +kernel
theorem dX7_takeCell_13 : decode cX7_takeCell 13 = .ok (.if_icmp .eq 7, 3) := by decide +kernel
theorem dX7_takeCell_16 : decode cX7_takeCell 16 = .ok (.iconst 1, 1) := by decide +kernel
theorem dX7_takeCell_17 : decode cX7_takeCell 17 = .ok (.goto 4, 3) := by decide +kernel
theorem dX7_takeCell_20 : decode cX7_takeCell 20 = .ok (.iconst 0, 1) := by decide +kernel
theorem dX7_takeCell_21 : decode cX7_takeCell 21 = .ok (.ireturn, 1) := by decide +kernel
theorem dX7_takeNumber_0 : decode cX7_takeNumber 0 = .ok (.aload_n 1, 1) := by decide +kernel
theorem dX7_takeNumber_1 : decode cX7_takeNumber 1 = .ok (.aload_n 0, 1) := by decide +kernel
theorem dX7_takeNumber_2 : decode cX7_takeNumber 2 = .ok (.invokevirtual 66, 3) := by decide +kernel
theorem dX7_takeNumber_5 : decode cX7_takeNumber 5 = .ok (.putfield 63, 3) := by decide +kernel
theorem dX7_takeNumber_8 : decode cX7_takeNumber 8 = .ok (.aload_n 1, 1) := by decide +kernel
theorem dX7_takeNumber_9 : decode cX7_takeNumber 9 = .ok (.getfield 63, 3) := by decide +kernel
theorem dX7_takeNumber_12 : decode cX7_takeNumber 12 = .ok (.iconst (-1), 1) := by decide +kernel
theorem dX7_takeNumber_13 : decode cX7_takeNumber 13 = .ok (.if_icmp .eq 7, 3) := by decide +kernel
theorem dX7_takeNumber_16 : decode cX7_takeNumber 16 = .ok (.iconst 1, 1) := by decide +kernel
theorem dX7_takeNumber_17 : decode cX7_takeNumber 17 = .ok (.goto 4, 3) := by decide +kernel
theorem dX7_takeNumber_20 : decode cX7_takeNumber 20 = .ok (.iconst 0, 1) := by decide +kernel
theorem dX7_takeNumber_21 : decode cX7_takeNumber 21 = .ok (.ireturn, 1) := by decide +kernel
theorem dX7_takeRealm_0 : decode cX7_takeRealm 0 = .ok (.iload_n 2, 1) := by decide +kernel
theorem dX7_takeRealm_1 : decode cX7_takeRealm 1 = .ok (.ifCond .eq 19, 3) := by decide +kernel
theorem dX7_takeRealm_4 : decode cX7_takeRealm 4 = .ok (.aload_n 0, 1) := by decide +kernel
theorem dX7_takeRealm_5 : decode cX7_takeRealm 5 = .ok (.bipush 46, 2) := by decide +kernel
theorem dX7_takeRealm_7 : decode cX7_takeRealm 7 = .ok (.invokevirtual 32, 3) := by decide +kernel
theorem dX7_takeRealm_10 : decode cX7_takeRealm 10 = .ok (.ifCond .eq 10, 3) := by decide +kernel
theorem dX7_takeRealm_13 : decode cX7_takeRealm 13 = .ok (.aload_n 1, 1) := by decide +kernel
theorem dX7_takeRealm_14 : decode cX7_takeRealm 14 = .ok (.iconst (-1), 1) := by decide +kernel
theorem dX7_takeRealm_15 : decode cX7_takeRealm 15 = .ok (.putfield 63, 3) := by decide +kernel
theorem dX7_takeRealm_18 : decode cX7_takeRealm 18 = .ok (.iconst 1, 1) := by decide +kernel
theorem dX7_takeRealm_19 : decode cX7_takeRealm 19 = .ok (.ireturn, 1) := by decide +kernel
theorem dX7_takeRealm_20 : decode cX7_takeRealm 20 = .ok (.aload_n 0, 1) := by decide +kernel
theorem dX7_takeRealm_21 : decode cX7_takeRealm 21 = .ok (.getfield 12, 3) := by decide +kernel
theorem dX7_takeRealm_24 : decode cX7_takeRealm 24 = .ok (.aload_n 0, 1) := by decide +kernel
theorem dX7_takeRealm_25 : decode cX7_takeRealm 25 = .ok (.getfield 18, 3) := by decide +kernel
theorem dX7_takeRealm_28 : decode cX7_takeRealm 28 = .ok (.invokevirtual 39, 3) := by decide +kernel
theorem dX7_takeRealm_31 : decode cX7_takeRealm 31 = .ok (.bipush 97, 2) := by decide +kernel
theorem dX7_takeRealm_33 : decode cX7_takeRealm 33 = .ok (.isub, 1) := by decide +kernel
theorem dX7_takeRealm_34 : decode cX7_takeRealm 34 = .ok (.istore_n 3, 1) := by decide +kernel
theorem dX7_takeRealm_35 : decode cX7_takeRealm 35 = .ok (.iload_n 3, 1) := by decide +kernel
theorem dX7_takeRealm_36 : decode cX7_takeRealm 36 = .ok (.invokestatic 72, 3) := by decide +kernel
theorem dX7_takeRealm_39 : decode cX7_takeRealm 39 = .ok (.ifCond .ne 5, 3) := by decide +kernel
theorem dX7_takeRealm_42 : decode cX7_takeRealm 42 = .ok (.iconst 0, 1) := by decide +kernel
theorem dX7_takeRealm_43 : decode cX7_takeRealm 43 = .ok (.ireturn, 1) := by decide +kernel
theorem dX7_takeRealm_44 : decode cX7_takeRealm 44 = .ok (.aload_n 0, 1) := by decide +kernel
theorem dX7_takeRealm_45 : decode cX7_takeRealm 45 = .ok (.dup, 1) := by decide +kernel
theorem dX7_takeRealm_46 : decode cX7_takeRealm 46 = .ok (.getfield 18, 3) := by decide +kernel
theorem dX7_takeRealm_49 : decode cX7_takeRealm 49 = .ok (.iconst 1, 1) := by decide +kernel
theorem dX7_takeRealm_50 : decode cX7_takeRealm 50 = .ok (.iadd, 1) := by decide +kernel
theorem dX7_takeRealm_51 : decode cX7_takeRealm 51 = .ok (.putfield 18, 3) := by decide +kernel
theorem dX7_takeRealm_54 : decode cX7_takeRealm 54 = .ok (.aload_n 1, 1) := by decide +kernel
theorem dX7_takeRealm_55 : decode cX7_takeRealm 55 = .ok (.iload_n 3, 1) := by decide +kernel
theorem dX7_takeRealm_56 : decode cX7_takeRealm 56 = .ok (.putfield 63, 3) := by decide +kernel
theorem dX7_takeRealm_59 : decode cX7_takeRealm 59 = .ok (.iconst 1, 1) := by decide +kernel
theorem dX7_takeRealm_60 : decode cX7_takeRealm 60 = .ok (.ireturn, 1) := by decide +kernel
theorem dX7_takeSteps_0 : decode cX7_takeSteps 0 = .ok (.aload_n 1, 1) := by decide +kernel
theorem dX7_takeSteps_1 : decode cX7_takeSteps 1 = .ok (.iconst 0, 1) := by decide +kernel
theorem dX7_takeSteps_2 : decode cX7_takeSteps 2 = .ok (.putfield 75, 3) := by decide +kernel
theorem dX7_takeSteps_5 : decode cX7_takeSteps 5 = .ok (.iconst 0, 1) := by decide +kernel
theorem dX7_takeSteps_6 : decode cX7_takeSteps 6 = .ok (.istore_n 2, 1) := by decide +kernel
theorem dX7_takeSteps_7 : decode cX7_takeSteps 7 = .ok (.iload_n 2, 1) := by decide +kernel
theorem dX7_takeSteps_8 : decode cX7_takeSteps 8 = .ok (.bipush 12, 2) := by decide +kernel
theorem dX7_takeSteps_10 : decode cX7_takeSteps 10 = .ok (.if_icmp .ge 56, 3) := by decide +kernel
theorem dX7_takeSteps_13 : decode cX7_takeSteps 13 = .ok (.aload_n 0, 1) := by decide +kernel
theorem dX7_takeSteps_14 : decode cX7_takeSteps 14 = .ok (.getfield 12, 3) := by decide +kernel
theorem dX7_takeSteps_17 : decode cX7_takeSteps 17 = .ok (.aload_n 0, 1) := by decide +kernel
theorem dX7_takeSteps_18 : decode cX7_takeSteps 18 = .ok (.getfield 18, 3) := by decide +kernel
theorem dX7_takeSteps_21 : decode cX7_takeSteps 21 = .ok (.invokevirtual 39, 3) := by decide +kernel
theorem dX7_takeSteps_24 : decode cX7_takeSteps 24 = .ok (.invokestatic 78, 3) := by decide +kernel
theorem dX7_takeSteps_27 : decode cX7_takeSteps 27 = .ok (.istore_n 3, 1) := by decide +kernel
theorem dX7_takeSteps_28 : decode cX7_takeSteps 28 = .ok (.iload_n 3, 1) := by decide +kernel
theorem dX7_takeSteps_29 : decode cX7_takeSteps 29 = .ok (.iconst (-1), 1) := by decide +kernel
theorem dX7_takeSteps_30 : decode cX7_takeSteps 30 = .ok (.if_icmp .ne 6, 3) := by decide +kernel
theorem dX7_takeSteps_33 : decode cX7_takeSteps 33 = .ok (.goto 33, 3) := by decide +kernel
theorem dX7_takeSteps_36 : decode cX7_takeSteps 36 = .ok (.aload_n 0, 1) := by decide +kernel
theorem dX7_takeSteps_37 : decode cX7_takeSteps 37 = .ok (.dup, 1) := by decide +kernel
theorem dX7_takeSteps_38 : decode cX7_takeSteps 38 = .ok (.getfield 18, 3) := by decide +kernel
theorem dX7_takeSteps_41 : decode cX7_takeSteps 41 = .ok (.iconst 1, 1) := by decide +kernel
theorem dX7_takeSteps_42 : decode cX7_takeSteps 42 = .ok (.iadd, 1) := by decide +kernel
theorem dX7_takeSteps_43 : decode cX7_takeSteps 43 = .ok (.putfield 18, 3) := by decide +kernel
theorem dX7_takeSteps_46 : decode cX7_takeSteps 46 = .ok (.aload_n 1, 1) := by decide +kernel
theorem dX7_takeSteps_47 : decode cX7_takeSteps 47 = .ok (.getfield 81, 3) := by decide +kernel
theorem dX7_takeSteps_50 : decode cX7_takeSteps 50 = .ok (.iload_n 2, 1) := by decide +kernel
theorem dX7_takeSteps_51 : decode cX7_takeSteps 51 = .ok (.iload_n 3, 1) := by decide +kernel
theorem dX7_takeSteps_52 : decode cX7_takeSteps 52 = .ok (.iastore, 1) := by decide +kernel
theorem dX7_takeSteps_53 : decode cX7_takeSteps 53 = .ok (.aload_n 1, 1) := by decide +kernel
theorem dX7_takeSteps_54 : decode cX7_takeSteps 54 = .ok (.iload_n 2, 1) := by decide +kernel
theorem dX7_takeSteps_55 : decode cX7_takeSteps 55 = .ok (.iconst 1, 1) := by decide +kernel
theorem dX7_takeSteps_56 : decode cX7_takeSteps 56 = .ok (.iadd, 1) := by decide +kernel
theorem dX7_takeSteps_57 : decode cX7_takeSteps 57 = .ok (.putfield 75, 3) := by decide +kernel
theorem dX7_takeSteps_60 : decode cX7_takeSteps 60 = .ok (.iinc 2 1, 3) := by decide +kernel
theorem dX7_takeSteps_63 : decode cX7_takeSteps 63 = .ok (.goto (-56), 3) := by decide +kernel
theorem dX7_takeSteps_66 : decode cX7_takeSteps 66 = .ok (.aload_n 1, 1) := by decide +kernel
theorem dX7_takeSteps_67 : decode cX7_takeSteps 67 = .ok (.getfield 75, 3) := by decide +kernel
theorem dX7_takeSteps_70 : decode cX7_takeSteps 70 = .ok (.ifCond .le 7, 3) := by decide +kernel
theorem dX7_takeSteps_73 : decode cX7_takeSteps 73 = .ok (.iconst 1, 1) := by decide +kernel
theorem dX7_takeSteps_74 : decode cX7_takeSteps 74 = .ok (.goto 4, 3) := by decide +kernel
theorem dX7_takeSteps_77 : decode cX7_takeSteps 77 = .ok (.iconst 0, 1) := by decide +kernel
theorem dX7_takeSteps_78 : decode cX7_takeSteps 78 = .ok (.ireturn, 1) := by decide +kernel
theorem dX7_sideOf_0 : decode cX7_sideOf 0 = .ok (.iload_n 0, 1) := by decide +kernel
theorem dX7_sideOf_1 : decode cX7_sideOf 1 = .ok (.lookupswitch 51 #[(101, 45), (110, 43), (115, 47), (119, 49)], 43) := by decide +kernel
theorem dX7_sideOf_44 : decode cX7_sideOf 44 = .ok (.iconst 0, 1) := by decide +kernel
theorem dX7_sideOf_45 : decode cX7_sideOf 45 = .ok (.ireturn, 1) := by decide +kernel
theorem dX7_sideOf_46 : decode cX7_sideOf 46 = .ok (.iconst 1, 1) := by decide +kernel
theorem dX7_sideOf_47 : decode cX7_sideOf 47 = .ok (.ireturn, 1) := by decide +kernel
theorem dX7_sideOf_48 : decode cX7_sideOf 48 = .ok (.iconst 2, 1) := by decide +kernel
theorem dX7_sideOf_49 : decode cX7_sideOf 49 = .ok (.ireturn, 1) := by decide +kernel
theorem dX7_sideOf_50 : decode cX7_sideOf 50 = .ok (.iconst 3, 1) := by decide +kernel
theorem dX7_sideOf_51 : decode cX7_sideOf 51 = .ok (.ireturn, 1) := by decide +kernel
theorem dX7_sideOf_52 : decode cX7_sideOf 52 = .ok (.iconst (-1), 1) := by decide +kernel
theorem dX7_sideOf_53 : decode cX7_sideOf 53 = .ok (.ireturn, 1) := by decide +kernel
theorem dX7_takeDigits_0 : decode cX7_takeDigits 0 = .ok (.aload_n 0, 1) := by decide +kernel
theorem dX7_takeDigits_1 : decode cX7_takeDigits 1 = .ok (.invokevirtual 59, 3) := by decide +kernel
theorem dX7_takeDigits_4 : decode cX7_takeDigits 4 = .ok (.istore_n 1, 1) := by decide +kernel
theorem dX7_takeDigits_5 : decode cX7_takeDigits 5 = .ok (.iload_n 1, 1) := by decide +kernel
theorem dX7_takeDigits_6 : decode cX7_takeDigits 6 = .ok (.iconst (-1), 1) := by decide +kernel
theorem dX7_takeDigits_7 : decode cX7_takeDigits 7 = .ok (.if_icmp .ne 5, 3) := by decide +kernel
theorem dX7_takeDigits_10 : decode cX7_takeDigits 10 = .ok (.iconst (-1), 1) := by decide +kernel
theorem dX7_takeDigits_11 : decode cX7_takeDigits 11 = .ok (.ireturn, 1) := by decide +kernel
theorem dX7_takeDigits_12 : decode cX7_takeDigits 12 = .ok (.aload_n 0, 1) := by decide +kernel
theorem dX7_takeDigits_13 : decode cX7_takeDigits 13 = .ok (.invokevirtual 59, 3) := by decide +kernel
theorem dX7_takeDigits_16 : decode cX7_takeDigits 16 = .ok (.istore_n 2, 1) := by decide +kernel
theorem dX7_takeDigits_17 : decode cX7_takeDigits 17 = .ok (.iload_n 2, 1) := by decide +kernel
theorem dX7_takeDigits_18 : decode cX7_takeDigits 18 = .ok (.iconst (-1), 1) := by decide +kernel
theorem dX7_takeDigits_19 : decode cX7_takeDigits 19 = .ok (.if_icmp .ne 7, 3) := by decide +kernel
theorem dX7_takeDigits_22 : decode cX7_takeDigits 22 = .ok (.iload_n 1, 1) := by decide +kernel
theorem dX7_takeDigits_23 : decode cX7_takeDigits 23 = .ok (.goto 9, 3) := by decide +kernel
theorem dX7_takeDigits_26 : decode cX7_takeDigits 26 = .ok (.iload_n 1, 1) := by decide +kernel
theorem dX7_takeDigits_27 : decode cX7_takeDigits 27 = .ok (.bipush 10, 2) := by decide +kernel
theorem dX7_takeDigits_29 : decode cX7_takeDigits 29 = .ok (.imul, 1) := by decide +kernel
theorem dX7_takeDigits_30 : decode cX7_takeDigits 30 = .ok (.iload_n 2, 1) := by decide +kernel
theorem dX7_takeDigits_31 : decode cX7_takeDigits 31 = .ok (.iadd, 1) := by decide +kernel
theorem dX7_takeDigits_32 : decode cX7_takeDigits 32 = .ok (.ireturn, 1) := by decide +kernel
theorem dX7_takeDigit_0 : decode cX7_takeDigit 0 = .ok (.aload_n 0, 1) := by decide +kernel
theorem dX7_takeDigit_1 : decode cX7_takeDigit 1 = .ok (.getfield 12, 3) := by decide +kernel
theorem dX7_takeDigit_4 : decode cX7_takeDigit 4 = .ok (.aload_n 0, 1) := by decide +kernel
theorem dX7_takeDigit_5 : decode cX7_takeDigit 5 = .ok (.getfield 18, 3) := by decide +kernel
theorem dX7_takeDigit_8 : decode cX7_takeDigit 8 = .ok (.invokevirtual 39, 3) := by decide +kernel
theorem dX7_takeDigit_11 : decode cX7_takeDigit 11 = .ok (.bipush 48, 2) := by decide +kernel
theorem dX7_takeDigit_13 : decode cX7_takeDigit 13 = .ok (.isub, 1) := by decide +kernel
theorem dX7_takeDigit_14 : decode cX7_takeDigit 14 = .ok (.istore_n 1, 1) := by decide +kernel
theorem dX7_takeDigit_15 : decode cX7_takeDigit 15 = .ok (.iload_n 1, 1) := by decide +kernel
theorem dX7_takeDigit_16 : decode cX7_takeDigit 16 = .ok (.ifCond .lt 9, 3) := by decide +kernel
theorem dX7_takeDigit_19 : decode cX7_takeDigit 19 = .ok (.iload_n 1, 1) := by decide +kernel
theorem dX7_takeDigit_20 : decode cX7_takeDigit 20 = .ok (.bipush 9, 2) := by decide +kernel
theorem dX7_takeDigit_22 : decode cX7_takeDigit 22 = .ok (.if_icmp .le 5, 3) := by decide +kernel
theorem dX7_takeDigit_25 : decode cX7_takeDigit 25 = .ok (.iconst (-1), 1) := by decide +kernel
theorem dX7_takeDigit_26 : decode cX7_takeDigit 26 = .ok (.ireturn, 1) := by decide +kernel
theorem dX7_takeDigit_27 : decode cX7_takeDigit 27 = .ok (.aload_n 0, 1) := by decide +kernel
theorem dX7_takeDigit_28 : decode cX7_takeDigit 28 = .ok (.dup, 1) := by decide +kernel
theorem dX7_takeDigit_29 : decode cX7_takeDigit 29 = .ok (.getfield 18, 3) := by decide +kernel
theorem dX7_takeDigit_32 : decode cX7_takeDigit 32 = .ok (.iconst 1, 1) := by decide +kernel
theorem dX7_takeDigit_33 : decode cX7_takeDigit 33 = .ok (.iadd, 1) := by decide +kernel
theorem dX7_takeDigit_34 : decode cX7_takeDigit 34 = .ok (.putfield 18, 3) := by decide +kernel
theorem dX7_takeDigit_37 : decode cX7_takeDigit 37 = .ok (.iload_n 1, 1) := by decide +kernel
theorem dX7_takeDigit_38 : decode cX7_takeDigit 38 = .ok (.ireturn, 1) := by decide +kernel
theorem dX8_init_0 : decode cX8_init 0 = .ok (.aload_n 0, 1) := by decide +kernel
theorem dX8_init_1 : decode cX8_init 1 = .ok (.invokespecial 3, 3) := by decide +kernel
theorem dX8_init_4 : decode cX8_init 4 = .ok (.aload_n 0, 1) := by decide +kernel
theorem dX8_init_5 : decode cX8_init 5 = .ok (.iconst 3, 1) := by decide +kernel
theorem dX8_init_6 : decode cX8_init 6 = .ok (.newarray .int, 2) := by decide +kernel
theorem dX8_init_8 : decode cX8_init 8 = .ok (.putfield 9, 3) := by decide +kernel
theorem dX8_init_11 : decode cX8_init 11 = .ok (.aload_n 0, 1) := by decide +kernel
theorem dX8_init_12 : decode cX8_init 12 = .ok (.iconst 3, 1) := by decide +kernel
theorem dX8_init_13 : decode cX8_init 13 = .ok (.newarray .int, 2) := by decide +kernel
theorem dX8_init_15 : decode cX8_init 15 = .ok (.putfield 15, 3) := by decide +kernel
theorem dX8_init_18 : decode cX8_init 18 = .ok (.return_, 1) := by decide +kernel
theorem dX8_clear_0 : decode cX8_clear 0 = .ok (.aload_n 0, 1) := by decide +kernel
theorem dX8_clear_1 : decode cX8_clear 1 = .ok (.iconst 0, 1) := by decide +kernel
theorem dX8_clear_2 : decode cX8_clear 2 = .ok (.putfield 18, 3) := by decide +kernel
theorem dX8_clear_5 : decode cX8_clear 5 = .ok (.return_, 1) := by decide +kernel
theorem dX8_add_0 : decode cX8_add 0 = .ok (.aload_n 0, 1) := by decide +kernel
theorem dX8_add_1 : decode cX8_add 1 = .ok (.getfield 18, 3) := by decide +kernel
theorem dX8_add_4 : decode cX8_add 4 = .ok (.ifCond .lt 41, 3) := by decide +kernel
theorem dX8_add_7 : decode cX8_add 7 = .ok (.aload_n 0, 1) := by decide +kernel
theorem dX8_add_8 : decode cX8_add 8 = .ok (.getfield 18, 3) := by decide +kernel
theorem dX8_add_11 : decode cX8_add 11 = .ok (.iconst 3, 1) := by decide +kernel
theorem dX8_add_12 : decode cX8_add 12 = .ok (.if_icmp .ge 33, 3) := by decide +kernel
theorem dX8_add_15 : decode cX8_add 15 = .ok (.aload_n 0, 1) := by decide +kernel
theorem dX8_add_16 : decode cX8_add 16 = .ok (.getfield 9, 3) := by decide +kernel
theorem dX8_add_19 : decode cX8_add 19 = .ok (.aload_n 0, 1) := by decide +kernel
theorem dX8_add_20 : decode cX8_add 20 = .ok (.getfield 18, 3) := by decide +kernel
theorem dX8_add_23 : decode cX8_add 23 = .ok (.iload_n 1, 1) := by decide +kernel
theorem dX8_add_24 : decode cX8_add 24 = .ok (.iastore, 1) := by decide +kernel
theorem dX8_add_25 : decode cX8_add 25 = .ok (.aload_n 0, 1) := by decide +kernel
theorem dX8_add_26 : decode cX8_add 26 = .ok (.getfield 15, 3) := by decide +kernel
theorem dX8_add_29 : decode cX8_add 29 = .ok (.aload_n 0, 1) := by decide +kernel
theorem dX8_add_30 : decode cX8_add 30 = .ok (.getfield 18, 3) := by decide +kernel
theorem dX8_add_33 : decode cX8_add 33 = .ok (.iload_n 2, 1) := by decide +kernel
theorem dX8_add_34 : decode cX8_add 34 = .ok (.iastore, 1) := by decide +kernel
theorem dX8_add_35 : decode cX8_add 35 = .ok (.aload_n 0, 1) := by decide +kernel
theorem dX8_add_36 : decode cX8_add 36 = .ok (.dup, 1) := by decide +kernel
theorem dX8_add_37 : decode cX8_add 37 = .ok (.getfield 18, 3) := by decide +kernel
theorem dX8_add_40 : decode cX8_add 40 = .ok (.iconst 1, 1) := by decide +kernel
theorem dX8_add_41 : decode cX8_add 41 = .ok (.iadd, 1) := by decide +kernel
theorem dX8_add_42 : decode cX8_add 42 = .ok (.putfield 18, 3) := by decide +kernel
theorem dX8_add_45 : decode cX8_add 45 = .ok (.return_, 1) := by decide +kernel
theorem dX9_init_0 : decode cX9_init 0 = .ok (.aload_n 0, 1) := by decide +kernel
theorem dX9_init_1 : decode cX9_init 1 = .ok (.invokespecial 3, 3) := by decide +kernel
theorem dX9_init_4 : decode cX9_init 4 = .ok (.aload_n 0, 1) := by decide +kernel
theorem dX9_init_5 : decode cX9_init 5 = .ok (.bipush 60, 2) := by decide +kernel
theorem dX9_init_7 : decode cX9_init 7 = .ok (.newarray .char, 2) := by decide +kernel
theorem dX9_init_9 : decode cX9_init 9 = .ok (.putfield 9, 3) := by decide +kernel
theorem dX9_init_12 : decode cX9_init 12 = .ok (.return_, 1) := by decide +kernel
theorem dX9_clear_0 : decode cX9_clear 0 = .ok (.aload_n 0, 1) := by decide +kernel
theorem dX9_clear_1 : decode cX9_clear 1 = .ok (.iconst 0, 1) := by decide +kernel
theorem dX9_clear_2 : decode cX9_clear 2 = .ok (.putfield 15, 3) := by decide +kernel
theorem dX9_clear_5 : decode cX9_clear 5 = .ok (.return_, 1) := by decide +kernel
theorem dX9_put_0 : decode cX9_put 0 = .ok (.aload_n 0, 1) := by decide +kernel
theorem dX9_put_1 : decode cX9_put 1 = .ok (.getfield 15, 3) := by decide +kernel
theorem dX9_put_4 : decode cX9_put 4 = .ok (.ifCond .lt 32, 3) := by decide +kernel
theorem dX9_put_7 : decode cX9_put 7 = .ok (.aload_n 0, 1) := by decide +kernel
theorem dX9_put_8 : decode cX9_put 8 = .ok (.getfield 15, 3) := by decide +kernel
theorem dX9_put_11 : decode cX9_put 11 = .ok (.bipush 60, 2) := by decide +kernel
theorem dX9_put_13 : decode cX9_put 13 = .ok (.if_icmp .ge 23, 3) := by decide +kernel
theorem dX9_put_16 : decode cX9_put 16 = .ok (.aload_n 0, 1) := by decide +kernel
theorem dX9_put_17 : decode cX9_put 17 = .ok (.getfield 9, 3) := by decide +kernel
theorem dX9_put_20 : decode cX9_put 20 = .ok (.aload_n 0, 1) := by decide +kernel
theorem dX9_put_21 : decode cX9_put 21 = .ok (.getfield 15, 3) := by decide +kernel
theorem dX9_put_24 : decode cX9_put 24 = .ok (.iload_n 1, 1) := by decide +kernel
theorem dX9_put_25 : decode cX9_put 25 = .ok (.castore, 1) := by decide +kernel
theorem dX9_put_26 : decode cX9_put 26 = .ok (.aload_n 0, 1) := by decide +kernel
theorem dX9_put_27 : decode cX9_put 27 = .ok (.dup, 1) := by decide +kernel
theorem dX9_put_28 : decode cX9_put 28 = .ok (.getfield 15, 3) := by decide +kernel
theorem dX9_put_31 : decode cX9_put 31 = .ok (.iconst 1, 1) := by decide +kernel
theorem dX9_put_32 : decode cX9_put 32 = .ok (.iadd, 1) := by decide +kernel
theorem dX9_put_33 : decode cX9_put 33 = .ok (.putfield 15, 3) := by decide +kernel
theorem dX9_put_36 : decode cX9_put 36 = .ok (.return_, 1) := by decide +kernel
theorem dX9_putNumber_0 : decode cX9_putNumber 0 = .ok (.iload_n 1, 1) := by decide +kernel
theorem dX9_putNumber_1 : decode cX9_putNumber 1 = .ok (.bipush 10, 2) := by decide +kernel
theorem dX9_putNumber_3 : decode cX9_putNumber 3 = .ok (.if_icmp .lt 15, 3) := by decide +kernel
theorem dX9_putNumber_6 : decode cX9_putNumber 6 = .ok (.aload_n 0, 1) := by decide +kernel
theorem dX9_putNumber_7 : decode cX9_putNumber 7 = .ok (.bipush 48, 2) := by decide +kernel
theorem dX9_putNumber_9 : decode cX9_putNumber 9 = .ok (.iload_n 1, 1) := by decide +kernel
theorem dX9_putNumber_10 : decode cX9_putNumber 10 = .ok (.bipush 10, 2) := by decide +kernel
theorem dX9_putNumber_12 : decode cX9_putNumber 12 = .ok (.idiv, 1) := by decide +kernel
theorem dX9_putNumber_13 : decode cX9_putNumber 13 = .ok (.iadd, 1) := by decide +kernel
theorem dX9_putNumber_14 : decode cX9_putNumber 14 = .ok (.i2c, 1) := by decide +kernel
theorem dX9_putNumber_15 : decode cX9_putNumber 15 = .ok (.invokevirtual 19, 3) := by decide +kernel
theorem dX9_putNumber_18 : decode cX9_putNumber 18 = .ok (.aload_n 0, 1) := by decide +kernel
theorem dX9_putNumber_19 : decode cX9_putNumber 19 = .ok (.bipush 48, 2) := by decide +kernel
theorem dX9_putNumber_21 : decode cX9_putNumber 21 = .ok (.iload_n 1, 1) := by decide +kernel
theorem dX9_putNumber_22 : decode cX9_putNumber 22 = .ok (.bipush 10, 2) := by decide +kernel
theorem dX9_putNumber_24 : decode cX9_putNumber 24 = .ok (.irem, 1) := by decide +kernel
theorem dX9_putNumber_25 : decode cX9_putNumber 25 = .ok (.iadd, 1) := by decide +kernel
theorem dX9_putNumber_26 : decode cX9_putNumber 26 = .ok (.i2c, 1) := by decide +kernel
theorem dX9_putNumber_27 : decode cX9_putNumber 27 = .ok (.invokevirtual 19, 3) := by decide +kernel
theorem dX9_putNumber_30 : decode cX9_putNumber 30 = .ok (.return_, 1) := by decide +kernel
theorem dX9_signAt_0 : decode cX9_signAt 0 = .ok (.iload_n 1, 1) := by decide +kernel
theorem dX9_signAt_1 : decode cX9_signAt 1 = .ok (.ifCond .lt 26, 3) := by decide +kernel
theorem dX9_signAt_4 : decode cX9_signAt 4 = .ok (.iload_n 1, 1) := by decide +kernel
theorem dX9_signAt_5 : decode cX9_signAt 5 = .ok (.aload_n 0, 1) := by decide +kernel
theorem dX9_signAt_6 : decode cX9_signAt 6 = .ok (.getfield 15, 3) := by decide +kernel
theorem dX9_signAt_9 : decode cX9_signAt 9 = .ok (.if_icmp .ge 18, 3) := by decide +kernel
theorem dX9_signAt_12 : decode cX9_signAt 12 = .ok (.iload_n 1, 1) := by decide +kernel
theorem dX9_signAt_13 : decode cX9_signAt 13 = .ok (.bipush 60, 2) := by decide +kernel
theorem dX9_signAt_15 : decode cX9_signAt 15 = .ok (.if_icmp .ge 12, 3) := by decide +kernel
theorem dX9_signAt_18 : decode cX9_signAt 18 = .ok (.aload_n 0, 1) := by decide +kernel
theorem dX9_signAt_19 : decode cX9_signAt 19 = .ok (.getfield 9, 3) := by decide +kernel
theorem dX9_signAt_22 : decode cX9_signAt 22 = .ok (.iload_n 1, 1) := by decide +kernel
theorem dX9_signAt_23 : decode cX9_signAt 23 = .ok (.caload, 1) := by decide +kernel
theorem dX9_signAt_24 : decode cX9_signAt 24 = .ok (.goto 4, 3) := by decide +kernel
theorem dX9_signAt_27 : decode cX9_signAt 27 = .ok (.iconst (-1), 1) := by decide +kernel
theorem dX9_signAt_28 : decode cX9_signAt 28 = .ok (.ireturn, 1) := by decide +kernel
theorem dX10_isCrossing_0 : decode cX10_isCrossing 0 = .ok (.aload_n 0, 1) := by decide +kernel
theorem dX10_isCrossing_1 : decode cX10_isCrossing 1 = .ok (.aload_n 0, 1) := by decide +kernel
theorem dX10_isCrossing_2 : decode cX10_isCrossing 2 = .ok (.iload_n 1, 1) := by decide +kernel
theorem dX10_isCrossing_3 : decode cX10_isCrossing 3 = .ok (.iload_n 2, 1) := by decide +kernel
theorem dX10_isCrossing_4 : decode cX10_isCrossing 4 = .ok (.invokevirtual 9, 3) := by decide +kernel
theorem dX10_isCrossing_7 : decode cX10_isCrossing 7 = .ok (.invokevirtual 15, 3) := by decide +kernel
theorem dX10_isCrossing_10 : decode cX10_isCrossing 10 = .ok (.aload_n 0, 1) := by decide +kernel
theorem dX10_isCrossing_11 : decode cX10_isCrossing 11 = .ok (.aload_n 0, 1) := by decide +kernel
theorem dX10_isCrossing_12 : decode cX10_isCrossing 12 = .ok (.iload_n 1, 1) := by decide +kernel
theorem dX10_isCrossing_13 : decode cX10_isCrossing 13 = .ok (.iload_n 2, 1) := by decide +kernel
theorem dX10_isCrossing_14 : decode cX10_isCrossing 14 = .ok (.iconst 1, 1) := by decide +kernel
theorem dX10_isCrossing_15 : decode cX10_isCrossing 15 = .ok (.iadd, 1) := by decide +kernel
theorem dX10_isCrossing_16 : decode cX10_isCrossing 16 = .ok (.invokevirtual 9, 3) := by decide +kernel
theorem dX10_isCrossing_19 : decode cX10_isCrossing 19 = .ok (.invokevirtual 15, 3) := by decide +kernel
theorem dX10_isCrossing_22 : decode cX10_isCrossing 22 = .ok (.if_icmp .eq 7, 3) := by decide +kernel
theorem dX10_isCrossing_25 : decode cX10_isCrossing 25 = .ok (.iconst 1, 1) := by decide +kernel
theorem dX10_isCrossing_26 : decode cX10_isCrossing 26 = .ok (.goto 4, 3) := by decide +kernel
theorem dX10_isCrossing_29 : decode cX10_isCrossing 29 = .ok (.iconst 0, 1) := by decide +kernel
theorem dX10_isCrossing_30 : decode cX10_isCrossing 30 = .ok (.ireturn, 1) := by decide +kernel
theorem dX10_crossings_0 : decode cX10_crossings 0 = .ok (.iconst 0, 1) := by decide +kernel
theorem dX10_crossings_1 : decode cX10_crossings 1 = .ok (.istore_n 2, 1) := by decide +kernel
theorem dX10_crossings_2 : decode cX10_crossings 2 = .ok (.iconst 0, 1) := by decide +kernel
theorem dX10_crossings_3 : decode cX10_crossings 3 = .ok (.istore_n 3, 1) := by decide +kernel
theorem dX10_crossings_4 : decode cX10_crossings 4 = .ok (.iload_n 3, 1) := by decide +kernel
theorem dX10_crossings_5 : decode cX10_crossings 5 = .ok (.aload_n 0, 1) := by decide +kernel
theorem dX10_crossings_6 : decode cX10_crossings 6 = .ok (.iload_n 1, 1) := by decide +kernel
theorem dX10_crossings_7 : decode cX10_crossings 7 = .ok (.invokevirtual 19, 3) := by decide +kernel
theorem dX10_crossings_10 : decode cX10_crossings 10 = .ok (.if_icmp .ge 21, 3) := by decide +kernel
theorem dX10_crossings_13 : decode cX10_crossings 13 = .ok (.aload_n 0, 1) := by decide +kernel
theorem dX10_crossings_14 : decode cX10_crossings 14 = .ok (.iload_n 1, 1) := by decide +kernel
theorem dX10_crossings_15 : decode cX10_crossings 15 = .ok (.iload_n 3, 1) := by decide +kernel
theorem dX10_crossings_16 : decode cX10_crossings 16 = .ok (.invokestatic 22, 3) := by decide +kernel
theorem dX10_crossings_19 : decode cX10_crossings 19 = .ok (.ifCond .eq 6, 3) := by decide +kernel
theorem dX10_crossings_22 : decode cX10_crossings 22 = .ok (.iinc 2 1, 3) := by decide +kernel
theorem dX10_crossings_25 : decode cX10_crossings 25 = .ok (.iinc 3 1, 3) := by decide +kernel
theorem dX10_crossings_28 : decode cX10_crossings 28 = .ok (.goto (-24), 3) := by decide +kernel
theorem dX10_crossings_31 : decode cX10_crossings 31 = .ok (.iload_n 2, 1) := by decide +kernel
theorem dX10_crossings_32 : decode cX10_crossings 32 = .ok (.ireturn, 1) := by decide +kernel
theorem dX10_weightByCells_0 : decode cX10_weightByCells 0 = .ok (.iconst 0, 1) := by decide +kernel
theorem dX10_weightByCells_1 : decode cX10_weightByCells 1 = .ok (.istore_n 2, 1) := by decide +kernel
theorem dX10_weightByCells_2 : decode cX10_weightByCells 2 = .ok (.iconst 0, 1) := by decide +kernel
theorem dX10_weightByCells_3 : decode cX10_weightByCells 3 = .ok (.istore_n 3, 1) := by decide +kernel
theorem dX10_weightByCells_4 : decode cX10_weightByCells 4 = .ok (.iload_n 3, 1) := by decide +kernel
theorem dX10_weightByCells_5 : decode cX10_weightByCells 5 = .ok (.aload_n 0, 1) := by decide +kernel
theorem dX10_weightByCells_6 : decode cX10_weightByCells 6 = .ok (.iload_n 1, 1) := by decide +kernel
theorem dX10_weightByCells_7 : decode cX10_weightByCells 7 = .ok (.invokevirtual 19, 3) := by decide +kernel
theorem dX10_weightByCells_10 : decode cX10_weightByCells 10 = .ok (.if_icmp .gt 49, 3) := by decide +kernel
theorem dX10_weightByCells_13 : decode cX10_weightByCells 13 = .ok (.iload_n 2, 1) := by decide +kernel
theorem dX10_weightByCells_14 : decode cX10_weightByCells 14 = .ok (.aload_n 0, 1) := by decide +kernel
theorem dX10_weightByCells_15 : decode cX10_weightByCells 15 = .ok (.aload_n 0, 1) := by decide +kernel
theorem dX10_weightByCells_16 : decode cX10_weightByCells 16 = .ok (.iload_n 1, 1) := by decide +kernel
theorem dX10_weightByCells_17 : decode cX10_weightByCells 17 = .ok (.iload_n 3, 1) := by decide +kernel
theorem dX10_weightByCells_18 : decode cX10_weightByCells 18 = .ok (.invokevirtual 9, 3) := by decide +kernel
theorem dX10_weightByCells_21 : decode cX10_weightByCells 21 = .ok (.invokevirtual 15, 3) := by decide +kernel
theorem dX10_weightByCells_24 : decode cX10_weightByCells 24 = .ok (.iconst (-1), 1) := by decide +kernel
theorem dX10_weightByCells_25 : decode cX10_weightByCells 25 = .ok (.if_icmp .ne 7, 3) := by decide +kernel
theorem dX10_weightByCells_28 : decode cX10_weightByCells 28 = .ok (.iconst 1, 1) := by decide +kernel
theorem dX10_weightByCells_29 : decode cX10_weightByCells 29 = .ok (.goto 4, 3) := by decide +kernel
theorem dX10_weightByCells_32 : decode cX10_weightByCells 32 = .ok (.iconst 2, 1) := by decide +kernel
theorem dX10_weightByCells_33 : decode cX10_weightByCells 33 = .ok (.iadd, 1) := by decide +kernel
theorem dX10_weightByCells_34 : decode cX10_weightByCells 34 = .ok (.istore_n 2, 1) := by decide +kernel
theorem dX10_weightByCells_35 : decode cX10_weightByCells 35 = .ok (.iload_n 3, 1) := by decide +kernel
theorem dX10_weightByCells_36 : decode cX10_weightByCells 36 = .ok (.ifCond .le 17, 3) := by decide +kernel
theorem dX10_weightByCells_39 : decode cX10_weightByCells 39 = .ok (.aload_n 0, 1) := by decide +kernel
theorem dX10_weightByCells_40 : decode cX10_weightByCells 40 = .ok (.iload_n 1, 1) := by decide +kernel
theorem dX10_weightByCells_41 : decode cX10_weightByCells 41 = .ok (.iload_n 3, 1) := by decide +kernel
theorem dX10_weightByCells_42 : decode cX10_weightByCells 42 = .ok (.iconst 1, 1) := by decide +kernel
theorem dX10_weightByCells_43 : decode cX10_weightByCells 43 = .ok (.isub, 1) := by decide +kernel
theorem dX10_weightByCells_44 : decode cX10_weightByCells 44 = .ok (.invokestatic 22, 3) := by decide +kernel
theorem dX10_weightByCells_47 : decode cX10_weightByCells 47 = .ok (.ifCond .eq 6, 3) := by decide +kernel
theorem dX10_weightByCells_50 : decode cX10_weightByCells 50 = .ok (.iinc 2 3, 3) := by decide +kernel
theorem dX10_weightByCells_53 : decode cX10_weightByCells 53 = .ok (.iinc 3 1, 3) := by decide +kernel
theorem dX10_weightByCells_56 : decode cX10_weightByCells 56 = .ok (.goto (-52), 3) := by decide +kernel
theorem dX10_weightByCells_59 : decode cX10_weightByCells 59 = .ok (.iload_n 2, 1) := by decide +kernel
theorem dX10_weightByCells_60 : decode cX10_weightByCells 60 = .ok (.ireturn, 1) := by decide +kernel
theorem dX10_weightByRealms_0 : decode cX10_weightByRealms 0 = .ok (.iconst 3, 1) := by decide +kernel
theorem dX10_weightByRealms_1 : decode cX10_weightByRealms 1 = .ok (.aload_n 0, 1) := by decide +kernel
theorem dX10_weightByRealms_2 : decode cX10_weightByRealms 2 = .ok (.iload_n 1, 1) := by decide +kernel
theorem dX10_weightByRealms_3 : decode cX10_weightByRealms 3 = .ok (.invokevirtual 19, 3) := by decide +kernel
theorem dX10_weightByRealms_6 : decode cX10_weightByRealms 6 = .ok (.imul, 1) := by decide +kernel
theorem dX10_weightByRealms_7 : decode cX10_weightByRealms 7 = .ok (.istore_n 2, 1) := by decide +kernel
theorem dX10_weightByRealms_8 : decode cX10_weightByRealms 8 = .ok (.iconst (-1), 1) := by decide +kernel
theorem dX10_weightByRealms_9 : decode cX10_weightByRealms 9 = .ok (.istore_n 3, 1) := by decide +kernel
theorem dX10_weightByRealms_10 : decode cX10_weightByRealms 10 = .ok (.iload_n 3, 1) := by decide +kernel
theorem dX10_weightByRealms_11 : decode cX10_weightByRealms 11 = .ok (.iconst 4, 1) := by decide +kernel
theorem dX10_weightByRealms_12 : decode cX10_weightByRealms 12 = .ok (.if_icmp .ge 40, 3) := by decide +kernel
theorem dX10_weightByRealms_15 : decode cX10_weightByRealms 15 = .ok (.iload_n 2, 1) := by decide +kernel
theorem dX10_weightByRealms_16 : decode cX10_weightByRealms 16 = .ok (.iload_n 3, 1) := by decide +kernel
theorem dX10_weightByRealms_17 : decode cX10_weightByRealms 17 = .ok (.iconst (-1), 1) := by decide +kernel
theorem dX10_weightByRealms_18 : decode cX10_weightByRealms 18 = .ok (.if_icmp .ne 7, 3) := by decide +kernel
theorem dX10_weightByRealms_21 : decode cX10_weightByRealms 21 = .ok (.iconst 1, 1) := by decide +kernel
theorem dX10_weightByRealms_22 : decode cX10_weightByRealms 22 = .ok (.goto 4, 3) := by decide +kernel
theorem dX10_weightByRealms_25 : decode cX10_weightByRealms 25 = .ok (.iconst 2, 1) := by decide +kernel
theorem dX10_weightByRealms_26 : decode cX10_weightByRealms 26 = .ok (.aload_n 0, 1) := by decide +kernel
theorem dX10_weightByRealms_27 : decode cX10_weightByRealms 27 = .ok (.iload_n 1, 1) := by decide +kernel
theorem dX10_weightByRealms_28 : decode cX10_weightByRealms 28 = .ok (.iload_n 3, 1) := by decide +kernel
theorem dX10_weightByRealms_29 : decode cX10_weightByRealms 29 = .ok (.invokestatic 28, 3) := by decide +kernel
theorem dX10_weightByRealms_32 : decode cX10_weightByRealms 32 = .ok (.imul, 1) := by decide +kernel
theorem dX10_weightByRealms_33 : decode cX10_weightByRealms 33 = .ok (.iadd, 1) := by decide +kernel
theorem dX10_weightByRealms_34 : decode cX10_weightByRealms 34 = .ok (.istore_n 2, 1) := by decide +kernel
theorem dX10_weightByRealms_35 : decode cX10_weightByRealms 35 = .ok (.iload_n 2, 1) := by decide +kernel
theorem dX10_weightByRealms_36 : decode cX10_weightByRealms 36 = .ok (.iconst 3, 1) := by decide +kernel
theorem dX10_weightByRealms_37 : decode cX10_weightByRealms 37 = .ok (.aload_n 0, 1) := by decide +kernel
theorem dX10_weightByRealms_38 : decode cX10_weightByRealms 38 = .ok (.iload_n 1, 1) := by decide +kernel
theorem dX10_weightByRealms_39 : decode cX10_weightByRealms 39 = .ok (.iload_n 3, 1) := by decide +kernel
theorem dX10_weightByRealms_40 : decode cX10_weightByRealms 40 = .ok (.invokestatic 32, 3) := by decide +kernel
theorem dX10_weightByRealms_43 : decode cX10_weightByRealms 43 = .ok (.imul, 1) := by decide +kernel
theorem dX10_weightByRealms_44 : decode cX10_weightByRealms 44 = .ok (.isub, 1) := by decide +kernel
theorem dX10_weightByRealms_45 : decode cX10_weightByRealms 45 = .ok (.istore_n 2, 1) := by decide +kernel
theorem dX10_weightByRealms_46 : decode cX10_weightByRealms 46 = .ok (.iinc 3 1, 3) := by decide +kernel
theorem dX10_weightByRealms_49 : decode cX10_weightByRealms 49 = .ok (.goto (-39), 3) := by decide +kernel
theorem dX10_weightByRealms_52 : decode cX10_weightByRealms 52 = .ok (.iload_n 2, 1) := by decide +kernel
theorem dX10_weightByRealms_53 : decode cX10_weightByRealms 53 = .ok (.ireturn, 1) := by decide +kernel
theorem dX10_cellsOfRealm_0 : decode cX10_cellsOfRealm 0 = .ok (.iconst 0, 1) := by decide +kernel
theorem dX10_cellsOfRealm_1 : decode cX10_cellsOfRealm 1 = .ok (.istore_n 3, 1) := by decide +kernel
theorem dX10_cellsOfRealm_2 : decode cX10_cellsOfRealm 2 = .ok (.iconst 0, 1) := by decide +kernel
theorem dX10_cellsOfRealm_3 : decode cX10_cellsOfRealm 3 = .ok (.istore 4, 2) := by decide +kernel
theorem dX10_cellsOfRealm_5 : decode cX10_cellsOfRealm 5 = .ok (.iload 4, 2) := by decide +kernel
theorem dX10_cellsOfRealm_7 : decode cX10_cellsOfRealm 7 = .ok (.aload_n 0, 1) := by decide +kernel
theorem dX10_cellsOfRealm_8 : decode cX10_cellsOfRealm 8 = .ok (.iload_n 1, 1) := by decide +kernel
theorem dX10_cellsOfRealm_9 : decode cX10_cellsOfRealm 9 = .ok (.invokevirtual 19, 3) := by decide +kernel
theorem dX10_cellsOfRealm_12 : decode cX10_cellsOfRealm 12 = .ok (.if_icmp .gt 27, 3) := by decide +kernel
theorem dX10_cellsOfRealm_15 : decode cX10_cellsOfRealm 15 = .ok (.aload_n 0, 1) := by decide +kernel
theorem dX10_cellsOfRealm_16 : decode cX10_cellsOfRealm 16 = .ok (.aload_n 0, 1) := by decide +kernel
theorem dX10_cellsOfRealm_17 : decode cX10_cellsOfRealm 17 = .ok (.iload_n 1, 1) := by decide +kernel
theorem dX10_cellsOfRealm_18 : decode cX10_cellsOfRealm 18 = .ok (.iload 4, 2) := by decide +kernel
theorem dX10_cellsOfRealm_20 : decode cX10_cellsOfRealm 20 = .ok (.invokevirtual 9, 3) := by decide +kernel
theorem dX10_cellsOfRealm_23 : decode cX10_cellsOfRealm 23 = .ok (.invokevirtual 15, 3) := by decide +kernel
theorem dX10_cellsOfRealm_26 : decode cX10_cellsOfRealm 26 = .ok (.iload_n 2, 1) := by decide +kernel
theorem dX10_cellsOfRealm_27 : decode cX10_cellsOfRealm 27 = .ok (.if_icmp .ne 6, 3) := by decide +kernel
theorem dX10_cellsOfRealm_30 : decode cX10_cellsOfRealm 30 = .ok (.iinc 3 1, 3) := by decide +kernel
theorem dX10_cellsOfRealm_33 : decode cX10_cellsOfRealm 33 = .ok (.iinc 4 1, 3) := by decide +kernel
theorem dX10_cellsOfRealm_36 : decode cX10_cellsOfRealm 36 = .ok (.goto (-31), 3) := by decide +kernel
theorem dX10_cellsOfRealm_39 : decode cX10_cellsOfRealm 39 = .ok (.iload_n 3, 1) := by decide +kernel
theorem dX10_cellsOfRealm_40 : decode cX10_cellsOfRealm 40 = .ok (.ireturn, 1) := by decide +kernel
theorem dX10_stepsInRealm_0 : decode cX10_stepsInRealm 0 = .ok (.iconst 0, 1) := by decide +kernel
theorem dX10_stepsInRealm_1 : decode cX10_stepsInRealm 1 = .ok (.istore_n 3, 1) := by decide +kernel
theorem dX10_stepsInRealm_2 : decode cX10_stepsInRealm 2 = .ok (.iconst 0, 1) := by decide +kernel
theorem dX10_stepsInRealm_3 : decode cX10_stepsInRealm 3 = .ok (.istore 4, 2) := by decide +kernel
theorem dX10_stepsInRealm_5 : decode cX10_stepsInRealm 5 = .ok (.iload 4, 2) := by decide +kernel
theorem dX10_stepsInRealm_7 : decode cX10_stepsInRealm 7 = .ok (.aload_n 0, 1) := by decide +kernel
theorem dX10_stepsInRealm_8 : decode cX10_stepsInRealm 8 = .ok (.iload_n 1, 1) := by decide +kernel
theorem dX10_stepsInRealm_9 : decode cX10_stepsInRealm 9 = .ok (.invokevirtual 19, 3) := by decide +kernel
theorem dX10_stepsInRealm_12 : decode cX10_stepsInRealm 12 = .ok (.if_icmp .ge 44, 3) := by decide +kernel
theorem dX10_stepsInRealm_15 : decode cX10_stepsInRealm 15 = .ok (.aload_n 0, 1) := by decide +kernel
theorem dX10_stepsInRealm_16 : decode cX10_stepsInRealm 16 = .ok (.aload_n 0, 1) := by decide +kernel
theorem dX10_stepsInRealm_17 : decode cX10_stepsInRealm 17 = .ok (.iload_n 1, 1) := by decide +kernel
theorem dX10_stepsInRealm_18 : decode cX10_stepsInRealm 18 = .ok (.iload 4, 2) := by decide +kernel
theorem dX10_stepsInRealm_20 : decode cX10_stepsInRealm 20 = .ok (.invokevirtual 9, 3) := by decide +kernel
theorem dX10_stepsInRealm_23 : decode cX10_stepsInRealm 23 = .ok (.invokevirtual 15, 3) := by decide +kernel
theorem dX10_stepsInRealm_26 : decode cX10_stepsInRealm 26 = .ok (.iload_n 2, 1) := by decide +kernel
theorem dX10_stepsInRealm_27 : decode cX10_stepsInRealm 27 = .ok (.if_icmp .ne 23, 3) := by decide +kernel
theorem dX10_stepsInRealm_30 : decode cX10_stepsInRealm 30 = .ok (.aload_n 0, 1) := by decide +kernel
theorem dX10_stepsInRealm_31 : decode cX10_stepsInRealm 31 = .ok (.aload_n 0, 1) := by decide +kernel
theorem dX10_stepsInRealm_32 : decode cX10_stepsInRealm 32 = .ok (.iload_n 1, 1) := by decide +kernel
theorem dX10_stepsInRealm_33 : decode cX10_stepsInRealm 33 = .ok (.iload 4, 2) := by decide +kernel
theorem dX10_stepsInRealm_35 : decode cX10_stepsInRealm 35 = .ok (.iconst 1, 1) := by decide +kernel
theorem dX10_stepsInRealm_36 : decode cX10_stepsInRealm 36 = .ok (.iadd, 1) := by decide +kernel
theorem dX10_stepsInRealm_37 : decode cX10_stepsInRealm 37 = .ok (.invokevirtual 9, 3) := by decide +kernel
theorem dX10_stepsInRealm_40 : decode cX10_stepsInRealm 40 = .ok (.invokevirtual 15, 3) := by decide +kernel
theorem dX10_stepsInRealm_43 : decode cX10_stepsInRealm 43 = .ok (.iload_n 2, 1) := by decide +kernel
theorem dX10_stepsInRealm_44 : decode cX10_stepsInRealm 44 = .ok (.if_icmp .ne 6, 3) := by decide +kernel
theorem dX10_stepsInRealm_47 : decode cX10_stepsInRealm 47 = .ok (.iinc 3 1, 3) := by decide +kernel
theorem dX10_stepsInRealm_50 : decode cX10_stepsInRealm 50 = .ok (.iinc 4 1, 3) := by decide +kernel
theorem dX10_stepsInRealm_53 : decode cX10_stepsInRealm 53 = .ok (.goto (-48), 3) := by decide +kernel
theorem dX10_stepsInRealm_56 : decode cX10_stepsInRealm 56 = .ok (.iload_n 3, 1) := by decide +kernel
theorem dX10_stepsInRealm_57 : decode cX10_stepsInRealm 57 = .ok (.ireturn, 1) := by decide +kernel
theorem dX10_throughRealm_0 : decode cX10_throughRealm 0 = .ok (.iconst 0, 1) := by decide +kernel
theorem dX10_throughRealm_1 : decode cX10_throughRealm 1 = .ok (.istore_n 2, 1) := by decide +kernel
theorem dX10_throughRealm_2 : decode cX10_throughRealm 2 = .ok (.iconst 0, 1) := by decide +kernel
theorem dX10_throughRealm_3 : decode cX10_throughRealm 3 = .ok (.istore_n 3, 1) := by decide +kernel
theorem dX10_throughRealm_4 : decode cX10_throughRealm 4 = .ok (.iload_n 3, 1) := by decide +kernel
theorem dX10_throughRealm_5 : decode cX10_throughRealm 5 = .ok (.aload_n 0, 1) := by decide +kernel
theorem dX10_throughRealm_6 : decode cX10_throughRealm 6 = .ok (.getfield 35, 3) := by decide +kernel
theorem dX10_throughRealm_9 : decode cX10_throughRealm 9 = .ok (.if_icmp .ge 21, 3) := by decide +kernel
theorem dX10_throughRealm_12 : decode cX10_throughRealm 12 = .ok (.aload_n 0, 1) := by decide +kernel
theorem dX10_throughRealm_13 : decode cX10_throughRealm 13 = .ok (.iload_n 3, 1) := by decide +kernel
theorem dX10_throughRealm_14 : decode cX10_throughRealm 14 = .ok (.iload_n 1, 1) := by decide +kernel
theorem dX10_throughRealm_15 : decode cX10_throughRealm 15 = .ok (.invokestatic 28, 3) := by decide +kernel
theorem dX10_throughRealm_18 : decode cX10_throughRealm 18 = .ok (.ifCond .le 6, 3) := by decide +kernel
theorem dX10_throughRealm_21 : decode cX10_throughRealm 21 = .ok (.iinc 2 1, 3) := by decide +kernel
theorem dX10_throughRealm_24 : decode cX10_throughRealm 24 = .ok (.iinc 3 1, 3) := by decide +kernel
theorem dX10_throughRealm_27 : decode cX10_throughRealm 27 = .ok (.goto (-23), 3) := by decide +kernel
theorem dX10_throughRealm_30 : decode cX10_throughRealm 30 = .ok (.iload_n 2, 1) := by decide +kernel
theorem dX10_throughRealm_31 : decode cX10_throughRealm 31 = .ok (.ireturn, 1) := by decide +kernel
theorem dX10_wrongBy_0 : decode cX10_wrongBy 0 = .ok (.aload_n 0, 1) := by decide +kernel
theorem dX10_wrongBy_1 : decode cX10_wrongBy 1 = .ok (.iload_n 1, 1) := by decide +kernel
theorem dX10_wrongBy_2 : decode cX10_wrongBy 2 = .ok (.invokevirtual 39, 3) := by decide +kernel
theorem dX10_wrongBy_5 : decode cX10_wrongBy 5 = .ok (.aload_n 0, 1) := by decide +kernel
theorem dX10_wrongBy_6 : decode cX10_wrongBy 6 = .ok (.iload_n 1, 1) := by decide +kernel
theorem dX10_wrongBy_7 : decode cX10_wrongBy 7 = .ok (.invokevirtual 19, 3) := by decide +kernel
theorem dX10_wrongBy_10 : decode cX10_wrongBy 10 = .ok (.iload_n 2, 1) := by decide +kernel
theorem dX10_wrongBy_11 : decode cX10_wrongBy 11 = .ok (.imul, 1) := by decide +kernel
theorem dX10_wrongBy_12 : decode cX10_wrongBy 12 = .ok (.isub, 1) := by decide +kernel
theorem dX10_wrongBy_13 : decode cX10_wrongBy 13 = .ok (.invokestatic 42, 3) := by decide +kernel
theorem dX10_wrongBy_16 : decode cX10_wrongBy 16 = .ok (.ireturn, 1) := by decide +kernel
theorem dX10_allWrongBy_0 : decode cX10_allWrongBy 0 = .ok (.iconst 0, 1) := by decide +kernel
theorem dX10_allWrongBy_1 : decode cX10_allWrongBy 1 = .ok (.istore_n 2, 1) := by decide +kernel
theorem dX10_allWrongBy_2 : decode cX10_allWrongBy 2 = .ok (.iconst 0, 1) := by decide +kernel
theorem dX10_allWrongBy_3 : decode cX10_allWrongBy 3 = .ok (.istore_n 3, 1) := by decide +kernel
theorem dX10_allWrongBy_4 : decode cX10_allWrongBy 4 = .ok (.iload_n 3, 1) := by decide +kernel
theorem dX10_allWrongBy_5 : decode cX10_allWrongBy 5 = .ok (.aload_n 0, 1) := by decide +kernel
theorem dX10_allWrongBy_6 : decode cX10_allWrongBy 6 = .ok (.getfield 35, 3) := by decide +kernel
theorem dX10_allWrongBy_9 : decode cX10_allWrongBy 9 = .ok (.if_icmp .ge 18, 3) := by decide +kernel
theorem dX10_allWrongBy_12 : decode cX10_allWrongBy 12 = .ok (.iload_n 2, 1) := by decide +kernel
theorem dX10_allWrongBy_13 : decode cX10_allWrongBy 13 = .ok (.aload_n 0, 1) := by decide +kernel
theorem dX10_allWrongBy_14 : decode cX10_allWrongBy 14 = .ok (.iload_n 3, 1) := by decide +kernel
theorem dX10_allWrongBy_15 : decode cX10_allWrongBy 15 = .ok (.iload_n 1, 1) := by decide +kernel
theorem dX10_allWrongBy_16 : decode cX10_allWrongBy 16 = .ok (.invokestatic 47, 3) := by decide +kernel
theorem dX10_allWrongBy_19 : decode cX10_allWrongBy 19 = .ok (.iadd, 1) := by decide +kernel
theorem dX10_allWrongBy_20 : decode cX10_allWrongBy 20 = .ok (.istore_n 2, 1) := by decide +kernel
theorem dX10_allWrongBy_21 : decode cX10_allWrongBy 21 = .ok (.iinc 3 1, 3) := by decide +kernel
theorem dX10_allWrongBy_24 : decode cX10_allWrongBy 24 = .ok (.goto (-20), 3) := by decide +kernel
theorem dX10_allWrongBy_27 : decode cX10_allWrongBy 27 = .ok (.iload_n 2, 1) := by decide +kernel
theorem dX10_allWrongBy_28 : decode cX10_allWrongBy 28 = .ok (.ireturn, 1) := by decide +kernel
theorem dX11_init_0 : decode cX11_init 0 = .ok (.aload_n 0, 1) := by decide +kernel
theorem dX11_init_1 : decode cX11_init 1 = .ok (.invokespecial 1, 3) := by decide +kernel
theorem dX11_init_4 : decode cX11_init 4 = .ok (.aload_n 0, 1) := by decide +kernel
theorem dX11_init_5 : decode cX11_init 5 = .ok (.new 7, 3) := by decide +kernel
theorem dX11_init_8 : decode cX11_init 8 = .ok (.dup, 1) := by decide +kernel
theorem dX11_init_9 : decode cX11_init 9 = .ok (.invokespecial 9, 3) := by decide +kernel
theorem dX11_init_12 : decode cX11_init 12 = .ok (.putfield 10, 3) := by decide +kernel
theorem dX11_init_15 : decode cX11_init 15 = .ok (.aload_n 0, 1) := by decide +kernel
theorem dX11_init_16 : decode cX11_init 16 = .ok (.new 7, 3) := by decide +kernel
theorem dX11_init_19 : decode cX11_init 19 = .ok (.dup, 1) := by decide +kernel
theorem dX11_init_20 : decode cX11_init 20 = .ok (.invokespecial 9, 3) := by decide +kernel
theorem dX11_init_23 : decode cX11_init 23 = .ok (.putfield 16, 3) := by decide +kernel
theorem dX11_init_26 : decode cX11_init 26 = .ok (.aload_n 0, 1) := by decide +kernel
theorem dX11_init_27 : decode cX11_init 27 = .ok (.new 7, 3) := by decide +kernel
theorem dX11_init_30 : decode cX11_init 30 = .ok (.dup, 1) := by decide +kernel
theorem dX11_init_31 : decode cX11_init 31 = .ok (.invokespecial 9, 3) := by decide +kernel
theorem dX11_init_34 : decode cX11_init 34 = .ok (.putfield 19, 3) := by decide +kernel
theorem dX11_init_37 : decode cX11_init 37 = .ok (.aload_n 0, 1) := by decide +kernel
theorem dX11_init_38 : decode cX11_init 38 = .ok (.new 22, 3) := by decide +kernel
theorem dX11_init_41 : decode cX11_init 41 = .ok (.dup, 1) := by decide +kernel
theorem dX11_init_42 : decode cX11_init 42 = .ok (.invokespecial 24, 3) := by decide +kernel
theorem dX11_init_45 : decode cX11_init 45 = .ok (.putfield 25, 3) := by decide +kernel
theorem dX11_init_48 : decode cX11_init 48 = .ok (.aload_n 0, 1) := by decide +kernel
theorem dX11_init_49 : decode cX11_init 49 = .ok (.new 29, 3) := by decide +kernel
theorem dX11_init_52 : decode cX11_init 52 = .ok (.dup, 1) := by decide +kernel
theorem dX11_init_53 : decode cX11_init 53 = .ok (.invokespecial 31, 3) := by decide +kernel
theorem dX11_init_56 : decode cX11_init 56 = .ok (.putfield 32, 3) := by decide +kernel
theorem dX11_init_59 : decode cX11_init 59 = .ok (.aload_n 0, 1) := by decide +kernel
theorem dX11_init_60 : decode cX11_init 60 = .ok (.new 36, 3) := by decide +kernel
theorem dX11_init_63 : decode cX11_init 63 = .ok (.dup, 1) := by decide +kernel
theorem dX11_init_64 : decode cX11_init 64 = .ok (.invokespecial 38, 3) := by decide +kernel
theorem dX11_init_67 : decode cX11_init 67 = .ok (.putfield 39, 3) := by decide +kernel
theorem dX11_init_70 : decode cX11_init 70 = .ok (.aload_n 0, 1) := by decide +kernel
theorem dX11_init_71 : decode cX11_init 71 = .ok (.aload_n 0, 1) := by decide +kernel
theorem dX11_init_72 : decode cX11_init 72 = .ok (.getfield 39, 3) := by decide +kernel
theorem dX11_init_75 : decode cX11_init 75 = .ok (.getfield 43, 3) := by decide +kernel
theorem dX11_init_78 : decode cX11_init 78 = .ok (.putfield 47, 3) := by decide +kernel
theorem dX11_init_81 : decode cX11_init 81 = .ok (.aload_n 0, 1) := by decide +kernel
theorem dX11_init_82 : decode cX11_init 82 = .ok (.new 50, 3) := by decide +kernel
theorem dX11_init_85 : decode cX11_init 85 = .ok (.dup, 1) := by decide +kernel
theorem dX11_init_86 : decode cX11_init 86 = .ok (.invokespecial 52, 3) := by decide +kernel
theorem dX11_init_89 : decode cX11_init 89 = .ok (.putfield 53, 3) := by decide +kernel
theorem dX11_init_92 : decode cX11_init 92 = .ok (.aload_n 0, 1) := by decide +kernel
theorem dX11_init_93 : decode cX11_init 93 = .ok (.new 56, 3) := by decide +kernel
theorem dX11_init_96 : decode cX11_init 96 = .ok (.dup, 1) := by decide +kernel
theorem dX11_init_97 : decode cX11_init 97 = .ok (.invokespecial 58, 3) := by decide +kernel
theorem dX11_init_100 : decode cX11_init 100 = .ok (.putfield 59, 3) := by decide +kernel
theorem dX11_init_103 : decode cX11_init 103 = .ok (.aload_n 0, 1) := by decide +kernel
theorem dX11_init_104 : decode cX11_init 104 = .ok (.new 63, 3) := by decide +kernel
theorem dX11_init_107 : decode cX11_init 107 = .ok (.dup, 1) := by decide +kernel
theorem dX11_init_108 : decode cX11_init 108 = .ok (.invokespecial 65, 3) := by decide +kernel
theorem dX11_init_111 : decode cX11_init 111 = .ok (.putfield 66, 3) := by decide +kernel
theorem dX11_init_114 : decode cX11_init 114 = .ok (.aload_n 0, 1) := by decide +kernel
theorem dX11_init_115 : decode cX11_init 115 = .ok (.iconst (-1), 1) := by decide +kernel
theorem dX11_init_116 : decode cX11_init 116 = .ok (.putfield 70, 3) := by decide +kernel
theorem dX11_init_119 : decode cX11_init 119 = .ok (.return_, 1) := by decide +kernel
theorem dX11_paint_0 : decode cX11_paint 0 = .ok (.iload_n 1, 1) := by decide +kernel
theorem dX11_paint_1 : decode cX11_paint 1 = .ok (.invokestatic 74, 3) := by decide +kernel
theorem dX11_paint_4 : decode cX11_paint 4 = .ok (.iload_n 2, 1) := by decide +kernel
theorem dX11_paint_5 : decode cX11_paint 5 = .ok (.iconst (-1), 1) := by decide +kernel
theorem dX11_paint_6 : decode cX11_paint 6 = .ok (.if_icmp .eq 20, 3) := by decide +kernel
theorem dX11_paint_9 : decode cX11_paint 9 = .ok (.iload_n 2, 1) := by decide +kernel
theorem dX11_paint_10 : decode cX11_paint 10 = .ok (.invokestatic 78, 3) := by decide +kernel
theorem dX11_paint_13 : decode cX11_paint 13 = .ok (.ifCond .ne 13, 3) := by decide +kernel
theorem dX11_paint_16 : decode cX11_paint 16 = .ok (.new 82, 3) := by decide +kernel
theorem dX11_paint_19 : decode cX11_paint 19 = .ok (.dup, 1) := by decide +kernel
theorem dX11_paint_20 : decode cX11_paint 20 = .ok (.ldc 84, 2) := by decide +kernel
theorem dX11_paint_22 : decode cX11_paint 22 = .ok (.invokespecial 86, 3) := by decide +kernel
theorem dX11_paint_25 : decode cX11_paint 25 = .ok (.athrow, 1) := by decide +kernel
theorem dX11_paint_26 : decode cX11_paint 26 = .ok (.aload_n 0, 1) := by decide +kernel
theorem dX11_paint_27 : decode cX11_paint 27 = .ok (.getfield 32, 3) := by decide +kernel
theorem dX11_paint_30 : decode cX11_paint 30 = .ok (.bipush 112, 2) := by decide +kernel
theorem dX11_paint_32 : decode cX11_paint 32 = .ok (.iload_n 1, 1) := by decide +kernel
theorem dX11_paint_33 : decode cX11_paint 33 = .ok (.iload_n 2, 1) := by decide +kernel
theorem dX11_paint_34 : decode cX11_paint 34 = .ok (.invokevirtual 89, 3) := by decide +kernel
theorem dX11_paint_37 : decode cX11_paint 37 = .ok (.aload_n 0, 1) := by decide +kernel
theorem dX11_paint_38 : decode cX11_paint 38 = .ok (.invokevirtual 93, 3) := by decide +kernel
theorem dX11_paint_41 : decode cX11_paint 41 = .ok (.ireturn, 1) := by decide +kernel
theorem dX11_shave_0 : decode cX11_shave 0 = .ok (.iload_n 1, 1) := by decide +kernel
theorem dX11_shave_1 : decode cX11_shave 1 = .ok (.invokestatic 74, 3) := by decide +kernel
theorem dX11_shave_4 : decode cX11_shave 4 = .ok (.iload_n 2, 1) := by decide +kernel
theorem dX11_shave_5 : decode cX11_shave 5 = .ok (.invokestatic 97, 3) := by decide +kernel
theorem dX11_shave_8 : decode cX11_shave 8 = .ok (.aload_n 0, 1) := by decide +kernel
theorem dX11_shave_9 : decode cX11_shave 9 = .ok (.getfield 32, 3) := by decide +kernel
theorem dX11_shave_12 : decode cX11_shave 12 = .ok (.bipush 115, 2) := by decide +kernel
theorem dX11_shave_14 : decode cX11_shave 14 = .ok (.iload_n 1, 1) := by decide +kernel
theorem dX11_shave_15 : decode cX11_shave 15 = .ok (.iload_n 2, 1) := by decide +kernel
theorem dX11_shave_16 : decode cX11_shave 16 = .ok (.invokevirtual 89, 3) := by decide +kernel
theorem dX11_shave_19 : decode cX11_shave 19 = .ok (.aload_n 0, 1) := by decide +kernel
theorem dX11_shave_20 : decode cX11_shave 20 = .ok (.invokevirtual 93, 3) := by decide +kernel
theorem dX11_shave_23 : decode cX11_shave 23 = .ok (.ireturn, 1) := by decide +kernel
theorem dX11_scale_0 : decode cX11_scale 0 = .ok (.iload_n 1, 1) := by decide +kernel
theorem dX11_scale_1 : decode cX11_scale 1 = .ok (.invokestatic 100, 3) := by decide +kernel
theorem dX11_scale_4 : decode cX11_scale 4 = .ok (.ifCond .ne 13, 3) := by decide +kernel
theorem dX11_scale_7 : decode cX11_scale 7 = .ok (.new 82, 3) := by decide +kernel
theorem dX11_scale_10 : decode cX11_scale 10 = .ok (.dup, 1) := by decide +kernel
theorem dX11_scale_11 : decode cX11_scale 11 = .ok (.ldc 103, 2) := by decide +kernel
theorem dX11_scale_13 : decode cX11_scale 13 = .ok (.invokespecial 86, 3) := by decide +kernel
theorem dX11_scale_16 : decode cX11_scale 16 = .ok (.athrow, 1) := by decide +kernel
theorem dX11_scale_17 : decode cX11_scale 17 = .ok (.aload_n 0, 1) := by decide +kernel
theorem dX11_scale_18 : decode cX11_scale 18 = .ok (.getfield 32, 3) := by decide +kernel
theorem dX11_scale_21 : decode cX11_scale 21 = .ok (.bipush 109, 2) := by decide +kernel
theorem dX11_scale_23 : decode cX11_scale 23 = .ok (.iconst (-1), 1) := by decide +kernel
theorem dX11_scale_24 : decode cX11_scale 24 = .ok (.iload_n 1, 1) := by decide +kernel
theorem dX11_scale_25 : decode cX11_scale 25 = .ok (.invokevirtual 89, 3) := by decide +kernel
theorem dX11_scale_28 : decode cX11_scale 28 = .ok (.aload_n 0, 1) := by decide +kernel
theorem dX11_scale_29 : decode cX11_scale 29 = .ok (.invokevirtual 93, 3) := by decide +kernel
theorem dX11_scale_32 : decode cX11_scale 32 = .ok (.ireturn, 1) := by decide +kernel
theorem dX11_river_0 : decode cX11_river 0 = .ok (.aload_n 0, 1) := by decide +kernel
theorem dX11_river_1 : decode cX11_river 1 = .ok (.getfield 32, 3) := by decide +kernel
theorem dX11_river_4 : decode cX11_river 4 = .ok (.bipush 114, 2) := by decide +kernel
theorem dX11_river_6 : decode cX11_river 6 = .ok (.iload_n 1, 1) := by decide +kernel
theorem dX11_river_7 : decode cX11_river 7 = .ok (.iload_n 2, 1) := by decide +kernel
theorem dX11_river_8 : decode cX11_river 8 = .ok (.invokevirtual 89, 3) := by decide +kernel
theorem dX11_river_11 : decode cX11_river 11 = .ok (.aload_n 0, 1) := by decide +kernel
theorem dX11_river_12 : decode cX11_river 12 = .ok (.getfield 39, 3) := by decide +kernel
theorem dX11_river_15 : decode cX11_river 15 = .ok (.aload_n 0, 1) := by decide +kernel
theorem dX11_river_16 : decode cX11_river 16 = .ok (.getfield 32, 3) := by decide +kernel
theorem dX11_river_19 : decode cX11_river 19 = .ok (.invokevirtual 105, 3) := by decide +kernel
theorem dX11_river_22 : decode cX11_river 22 = .ok (.istore_n 3, 1) := by decide +kernel
theorem dX11_river_23 : decode cX11_river 23 = .ok (.aload_n 0, 1) := by decide +kernel
theorem dX11_river_24 : decode cX11_river 24 = .ok (.getfield 47, 3) := by decide +kernel
theorem dX11_river_27 : decode cX11_river 27 = .ok (.invokevirtual 109, 3) := by decide +kernel
theorem dX11_river_30 : decode cX11_river 30 = .ok (.iload_n 1, 1) := by decide +kernel
theorem dX11_river_31 : decode cX11_river 31 = .ok (.invokestatic 74, 3) := by decide +kernel
theorem dX11_river_34 : decode cX11_river 34 = .ok (.iload_n 2, 1) := by decide +kernel
theorem dX11_river_35 : decode cX11_river 35 = .ok (.ifCond .lt 9, 3) := by decide +kernel
theorem dX11_river_38 : decode cX11_river 38 = .ok (.iload_n 2, 1) := by decide +kernel
theorem dX11_river_39 : decode cX11_river 39 = .ok (.bipush 99, 2) := by decide +kernel
theorem dX11_river_41 : decode cX11_river 41 = .ok (.if_icmp .le 13, 3) := by decide +kernel
theorem dX11_river_44 : decode cX11_river 44 = .ok (.new 82, 3) := by decide +kernel
theorem dX11_river_47 : decode cX11_river 47 = .ok (.dup, 1) := by decide +kernel
theorem dX11_river_48 : decode cX11_river 48 = .ok (.ldc 112, 2) := by decide +kernel
theorem dX11_river_50 : decode cX11_river 50 = .ok (.invokespecial 86, 3) := by decide +kernel
theorem dX11_river_53 : decode cX11_river 53 = .ok (.athrow, 1) := by decide +kernel
theorem dX11_river_54 : decode cX11_river 54 = .ok (.iload_n 3, 1) := by decide +kernel
theorem dX11_river_55 : decode cX11_river 55 = .ok (.ifCond .ne 13, 3) := by decide +kernel
theorem dX11_river_58 : decode cX11_river 58 = .ok (.new 114, 3) := by decide +kernel
theorem dX11_river_61 : decode cX11_river 61 = .ok (.dup, 1) := by decide +kernel
theorem dX11_river_62 : decode cX11_river 62 = .ok (.ldc 116, 2) := by decide +kernel
theorem dX11_river_64 : decode cX11_river 64 = .ok (.invokespecial 118, 3) := by decide +kernel
theorem dX11_river_67 : decode cX11_river 67 = .ok (.athrow, 1) := by decide +kernel
theorem dX11_river_68 : decode cX11_river 68 = .ok (.aload_n 0, 1) := by decide +kernel
theorem dX11_river_69 : decode cX11_river 69 = .ok (.invokevirtual 93, 3) := by decide +kernel
theorem dX11_river_72 : decode cX11_river 72 = .ok (.ireturn, 1) := by decide +kernel
theorem dX11_drop_0 : decode cX11_drop 0 = .ok (.aload_n 0, 1) := by decide +kernel
theorem dX11_drop_1 : decode cX11_drop 1 = .ok (.iload_n 1, 1) := by decide +kernel
theorem dX11_drop_2 : decode cX11_drop 2 = .ok (.invokevirtual 119, 3) := by decide +kernel
theorem dX11_drop_5 : decode cX11_drop 5 = .ok (.aload_n 0, 1) := by decide +kernel
theorem dX11_drop_6 : decode cX11_drop 6 = .ok (.getfield 32, 3) := by decide +kernel
theorem dX11_drop_9 : decode cX11_drop 9 = .ok (.bipush 107, 2) := by decide +kernel
theorem dX11_drop_11 : decode cX11_drop 11 = .ok (.iconst (-1), 1) := by decide +kernel
theorem dX11_drop_12 : decode cX11_drop 12 = .ok (.iload_n 1, 1) := by decide +kernel
theorem dX11_drop_13 : decode cX11_drop 13 = .ok (.invokevirtual 89, 3) := by decide +kernel
theorem dX11_drop_16 : decode cX11_drop 16 = .ok (.aload_n 0, 1) := by decide +kernel
theorem dX11_drop_17 : decode cX11_drop 17 = .ok (.invokevirtual 93, 3) := by decide +kernel
theorem dX11_drop_20 : decode cX11_drop 20 = .ok (.ireturn, 1) := by decide +kernel
theorem dX11_dragon_0 : decode cX11_dragon 0 = .ok (.iload_n 1, 1) := by decide +kernel
theorem dX11_dragon_1 : decode cX11_dragon 1 = .ok (.invokestatic 74, 3) := by decide +kernel
theorem dX11_dragon_4 : decode cX11_dragon 4 = .ok (.iload_n 2, 1) := by decide +kernel
theorem dX11_dragon_5 : decode cX11_dragon 5 = .ok (.invokestatic 122, 3) := by decide +kernel
theorem dX11_dragon_8 : decode cX11_dragon 8 = .ok (.ifCond .ne 13, 3) := by decide +kernel
theorem dX11_dragon_11 : decode cX11_dragon 11 = .ok (.new 82, 3) := by decide +kernel
theorem dX11_dragon_14 : decode cX11_dragon 14 = .ok (.dup, 1) := by decide +kernel
theorem dX11_dragon_15 : decode cX11_dragon 15 = .ok (.ldc 125, 2) := by decide +kernel
theorem dX11_dragon_17 : decode cX11_dragon 17 = .ok (.invokespecial 86, 3) := by decide +kernel
theorem dX11_dragon_20 : decode cX11_dragon 20 = .ok (.athrow, 1) := by decide +kernel
theorem dX11_dragon_21 : decode cX11_dragon 21 = .ok (.aload_n 0, 1) := by decide +kernel
theorem dX11_dragon_22 : decode cX11_dragon 22 = .ok (.getfield 32, 3) := by decide +kernel
theorem dX11_dragon_25 : decode cX11_dragon 25 = .ok (.bipush 100, 2) := by decide +kernel
theorem dX11_dragon_27 : decode cX11_dragon 27 = .ok (.iload_n 1, 1) := by decide +kernel
theorem dX11_dragon_28 : decode cX11_dragon 28 = .ok (.iload_n 2, 1) := by decide +kernel
theorem dX11_dragon_29 : decode cX11_dragon 29 = .ok (.invokevirtual 89, 3) := by decide +kernel
theorem dX11_dragon_32 : decode cX11_dragon 32 = .ok (.aload_n 0, 1) := by decide +kernel
theorem dX11_dragon_33 : decode cX11_dragon 33 = .ok (.invokevirtual 93, 3) := by decide +kernel
theorem dX11_dragon_36 : decode cX11_dragon 36 = .ok (.ireturn, 1) := by decide +kernel
theorem dX11_scare_0 : decode cX11_scare 0 = .ok (.aload_n 0, 1) := by decide +kernel
theorem dX11_scare_1 : decode cX11_scare 1 = .ok (.iload_n 1, 1) := by decide +kernel
theorem dX11_scare_2 : decode cX11_scare 2 = .ok (.invokevirtual 127, 3) := by decide +kernel
theorem dX11_scare_5 : decode cX11_scare 5 = .ok (.aload_n 0, 1) := by decide +kernel
theorem dX11_scare_6 : decode cX11_scare 6 = .ok (.getfield 32, 3) := by decide +kernel
theorem dX11_scare_9 : decode cX11_scare 9 = .ok (.bipush 102, 2) := by decide +kernel
theorem dX11_scare_11 : decode cX11_scare 11 = .ok (.iconst (-1), 1) := by decide +kernel
theorem dX11_scare_12 : decode cX11_scare 12 = .ok (.iload_n 1, 1) := by decide +kernel
theorem dX11_scare_13 : decode cX11_scare 13 = .ok (.invokevirtual 89, 3) := by decide +kernel
theorem dX11_scare_16 : decode cX11_scare 16 = .ok (.aload_n 0, 1) := by decide +kernel
theorem dX11_scare_17 : decode cX11_scare 17 = .ok (.invokevirtual 93, 3) := by decide +kernel
theorem dX11_scare_20 : decode cX11_scare 20 = .ok (.ireturn, 1) := by decide +kernel
theorem dX11_realmAt_0 : decode cX11_realmAt 0 = .ok (.iload_n 1, 1) := by decide +kernel
theorem dX11_realmAt_1 : decode cX11_realmAt 1 = .ok (.invokestatic 74, 3) := by decide +kernel
theorem dX11_realmAt_4 : decode cX11_realmAt 4 = .ok (.aload_n 0, 1) := by decide +kernel
theorem dX11_realmAt_5 : decode cX11_realmAt 5 = .ok (.getfield 10, 3) := by decide +kernel
theorem dX11_realmAt_8 : decode cX11_realmAt 8 = .ok (.iload_n 1, 1) := by decide +kernel
theorem dX11_realmAt_9 : decode cX11_realmAt 9 = .ok (.invokevirtual 130, 3) := by decide +kernel
theorem dX11_realmAt_12 : decode cX11_realmAt 12 = .ok (.ireturn, 1) := by decide +kernel
theorem dX11_realmOf_0 : decode cX11_realmOf 0 = .ok (.iload_n 1, 1) := by decide +kernel
theorem dX11_realmOf_1 : decode cX11_realmOf 1 = .ok (.invokestatic 97, 3) := by decide +kernel
theorem dX11_realmOf_4 : decode cX11_realmOf 4 = .ok (.iload_n 2, 1) := by decide +kernel
theorem dX11_realmOf_5 : decode cX11_realmOf 5 = .ok (.tableswitch 96 0 5 #[39, 48, 58, 67, 77, 87], 39) := by decide +kernel
theorem dX11_realmOf_44 : decode cX11_realmOf 44 = .ok (.aload_n 0, 1) := by decide +kernel
theorem dX11_realmOf_45 : decode cX11_realmOf 45 = .ok (.getfield 10, 3) := by decide +kernel
theorem dX11_realmOf_48 : decode cX11_realmOf 48 = .ok (.iload_n 1, 1) := by decide +kernel
theorem dX11_realmOf_49 : decode cX11_realmOf 49 = .ok (.invokevirtual 134, 3) := by decide +kernel
theorem dX11_realmOf_52 : decode cX11_realmOf 52 = .ok (.ireturn, 1) := by decide +kernel
theorem dX11_realmOf_53 : decode cX11_realmOf 53 = .ok (.aload_n 0, 1) := by decide +kernel
theorem dX11_realmOf_54 : decode cX11_realmOf 54 = .ok (.getfield 10, 3) := by decide +kernel
theorem dX11_realmOf_57 : decode cX11_realmOf 57 = .ok (.getfield 137, 3) := by decide +kernel
theorem dX11_realmOf_60 : decode cX11_realmOf 60 = .ok (.iload_n 1, 1) := by decide +kernel
theorem dX11_realmOf_61 : decode cX11_realmOf 61 = .ok (.iaload, 1) := by decide +kernel
theorem dX11_realmOf_62 : decode cX11_realmOf 62 = .ok (.ireturn, 1) := by decide +kernel
theorem dX11_realmOf_63 : decode cX11_realmOf 63 = .ok (.aload_n 0, 1) := by decide +kernel
theorem dX11_realmOf_64 : decode cX11_realmOf 64 = .ok (.getfield 10, 3) := by decide +kernel
theorem dX11_realmOf_67 : decode cX11_realmOf 67 = .ok (.iload_n 1, 1) := by decide +kernel
theorem dX11_realmOf_68 : decode cX11_realmOf 68 = .ok (.invokevirtual 141, 3) := by decide +kernel
theorem dX11_realmOf_71 : decode cX11_realmOf 71 = .ok (.ireturn, 1) := by decide +kernel
theorem dX11_realmOf_72 : decode cX11_realmOf 72 = .ok (.aload_n 0, 1) := by decide +kernel
theorem dX11_realmOf_73 : decode cX11_realmOf 73 = .ok (.getfield 10, 3) := by decide +kernel
theorem dX11_realmOf_76 : decode cX11_realmOf 76 = .ok (.getfield 144, 3) := by decide +kernel
theorem dX11_realmOf_79 : decode cX11_realmOf 79 = .ok (.iload_n 1, 1) := by decide +kernel
theorem dX11_realmOf_80 : decode cX11_realmOf 80 = .ok (.iaload, 1) := by decide +kernel
theorem dX11_realmOf_81 : decode cX11_realmOf 81 = .ok (.ireturn, 1) := by decide +kernel
theorem dX11_realmOf_82 : decode cX11_realmOf 82 = .ok (.aload_n 0, 1) := by decide +kernel
theorem dX11_realmOf_83 : decode cX11_realmOf 83 = .ok (.getfield 10, 3) := by decide +kernel
theorem dX11_realmOf_86 : decode cX11_realmOf 86 = .ok (.getfield 147, 3) := by decide +kernel
theorem dX11_realmOf_89 : decode cX11_realmOf 89 = .ok (.iload_n 1, 1) := by decide +kernel
theorem dX11_realmOf_90 : decode cX11_realmOf 90 = .ok (.iaload, 1) := by decide +kernel
theorem dX11_realmOf_91 : decode cX11_realmOf 91 = .ok (.ireturn, 1) := by decide +kernel
theorem dX11_realmOf_92 : decode cX11_realmOf 92 = .ok (.aload_n 0, 1) := by decide +kernel
theorem dX11_realmOf_93 : decode cX11_realmOf 93 = .ok (.getfield 10, 3) := by decide +kernel
theorem dX11_realmOf_96 : decode cX11_realmOf 96 = .ok (.iload_n 1, 1) := by decide +kernel
theorem dX11_realmOf_97 : decode cX11_realmOf 97 = .ok (.invokestatic 150, 3) := by decide +kernel
theorem dX11_realmOf_100 : decode cX11_realmOf 100 = .ok (.ireturn, 1) := by decide +kernel
theorem dX11_realmOf_101 : decode cX11_realmOf 101 = .ok (.new 82, 3) := by decide +kernel
theorem dX11_realmOf_104 : decode cX11_realmOf 104 = .ok (.dup, 1) := by decide +kernel
theorem dX11_realmOf_105 : decode cX11_realmOf 105 = .ok (.ldc 156, 2) := by decide +kernel
theorem dX11_realmOf_107 : decode cX11_realmOf 107 = .ok (.invokespecial 86, 3) := by decide +kernel
theorem dX11_realmOf_110 : decode cX11_realmOf 110 = .ok (.athrow, 1) := by decide +kernel
theorem dX11_riverOf_0 : decode cX11_riverOf 0 = .ok (.aload_n 0, 1) := by decide +kernel
theorem dX11_riverOf_1 : decode cX11_riverOf 1 = .ok (.iload_n 1, 1) := by decide +kernel
theorem dX11_riverOf_2 : decode cX11_riverOf 2 = .ok (.invokevirtual 119, 3) := by decide +kernel
theorem dX11_riverOf_5 : decode cX11_riverOf 5 = .ok (.aload_n 0, 1) := by decide +kernel
theorem dX11_riverOf_6 : decode cX11_riverOf 6 = .ok (.getfield 10, 3) := by decide +kernel
theorem dX11_riverOf_9 : decode cX11_riverOf 9 = .ok (.iload_n 1, 1) := by decide +kernel
theorem dX11_riverOf_10 : decode cX11_riverOf 10 = .ok (.invokevirtual 158, 3) := by decide +kernel
theorem dX11_riverOf_13 : decode cX11_riverOf 13 = .ok (.istore_n 3, 1) := by decide +kernel
theorem dX11_riverOf_14 : decode cX11_riverOf 14 = .ok (.iload_n 2, 1) := by decide +kernel
theorem dX11_riverOf_15 : decode cX11_riverOf 15 = .ok (.tableswitch 87 0 5 #[37, 47, 49, 59, 68, 78], 37) := by decide +kernel
theorem dX11_riverOf_52 : decode cX11_riverOf 52 = .ok (.aload_n 0, 1) := by decide +kernel
theorem dX11_riverOf_53 : decode cX11_riverOf 53 = .ok (.getfield 10, 3) := by decide +kernel
theorem dX11_riverOf_56 : decode cX11_riverOf 56 = .ok (.iload_n 1, 1) := by decide +kernel
theorem dX11_riverOf_57 : decode cX11_riverOf 57 = .ok (.iconst 0, 1) := by decide +kernel
theorem dX11_riverOf_58 : decode cX11_riverOf 58 = .ok (.invokevirtual 161, 3) := by decide +kernel
theorem dX11_riverOf_61 : decode cX11_riverOf 61 = .ok (.ireturn, 1) := by decide +kernel
theorem dX11_riverOf_62 : decode cX11_riverOf 62 = .ok (.iload_n 3, 1) := by decide +kernel
theorem dX11_riverOf_63 : decode cX11_riverOf 63 = .ok (.ireturn, 1) := by decide +kernel
theorem dX11_riverOf_64 : decode cX11_riverOf 64 = .ok (.aload_n 0, 1) := by decide +kernel
theorem dX11_riverOf_65 : decode cX11_riverOf 65 = .ok (.getfield 10, 3) := by decide +kernel
theorem dX11_riverOf_68 : decode cX11_riverOf 68 = .ok (.iload_n 1, 1) := by decide +kernel
theorem dX11_riverOf_69 : decode cX11_riverOf 69 = .ok (.iload_n 3, 1) := by decide +kernel
theorem dX11_riverOf_70 : decode cX11_riverOf 70 = .ok (.invokevirtual 161, 3) := by decide +kernel
theorem dX11_riverOf_73 : decode cX11_riverOf 73 = .ok (.ireturn, 1) := by decide +kernel
theorem dX11_riverOf_74 : decode cX11_riverOf 74 = .ok (.aload_n 0, 1) := by decide +kernel
theorem dX11_riverOf_75 : decode cX11_riverOf 75 = .ok (.getfield 10, 3) := by decide +kernel
theorem dX11_riverOf_78 : decode cX11_riverOf 78 = .ok (.iload_n 1, 1) := by decide +kernel
theorem dX11_riverOf_79 : decode cX11_riverOf 79 = .ok (.invokevirtual 165, 3) := by decide +kernel
theorem dX11_riverOf_82 : decode cX11_riverOf 82 = .ok (.ireturn, 1) := by decide +kernel
theorem dX11_riverOf_83 : decode cX11_riverOf 83 = .ok (.iload_n 3, 1) := by decide +kernel
theorem dX11_riverOf_84 : decode cX11_riverOf 84 = .ok (.aload_n 0, 1) := by decide +kernel
theorem dX11_riverOf_85 : decode cX11_riverOf 85 = .ok (.getfield 10, 3) := by decide +kernel
theorem dX11_riverOf_88 : decode cX11_riverOf 88 = .ok (.getfield 168, 3) := by decide +kernel
theorem dX11_riverOf_91 : decode cX11_riverOf 91 = .ok (.imul, 1) := by decide +kernel
theorem dX11_riverOf_92 : decode cX11_riverOf 92 = .ok (.ireturn, 1) := by decide +kernel
theorem dX11_riverOf_93 : decode cX11_riverOf 93 = .ok (.aload_n 0, 1) := by decide +kernel
theorem dX11_riverOf_94 : decode cX11_riverOf 94 = .ok (.getfield 10, 3) := by decide +kernel
theorem dX11_riverOf_97 : decode cX11_riverOf 97 = .ok (.iload_n 1, 1) := by decide +kernel
theorem dX11_riverOf_98 : decode cX11_riverOf 98 = .ok (.invokestatic 171, 3) := by decide +kernel
theorem dX11_riverOf_101 : decode cX11_riverOf 101 = .ok (.ireturn, 1) := by decide +kernel
theorem dX11_riverOf_102 : decode cX11_riverOf 102 = .ok (.new 82, 3) := by decide +kernel
theorem dX11_riverOf_105 : decode cX11_riverOf 105 = .ok (.dup, 1) := by decide +kernel
theorem dX11_riverOf_106 : decode cX11_riverOf 106 = .ok (.ldc 174, 2) := by decide +kernel
theorem dX11_riverOf_108 : decode cX11_riverOf 108 = .ok (.invokespecial 86, 3) := by decide +kernel
theorem dX11_riverOf_111 : decode cX11_riverOf 111 = .ok (.athrow, 1) := by decide +kernel
theorem dX11_riverAt_0 : decode cX11_riverAt 0 = .ok (.aload_n 0, 1) := by decide +kernel
theorem dX11_riverAt_1 : decode cX11_riverAt 1 = .ok (.iload_n 1, 1) := by decide +kernel
theorem dX11_riverAt_2 : decode cX11_riverAt 2 = .ok (.invokevirtual 119, 3) := by decide +kernel
theorem dX11_riverAt_5 : decode cX11_riverAt 5 = .ok (.iload_n 2, 1) := by decide +kernel
theorem dX11_riverAt_6 : decode cX11_riverAt 6 = .ok (.ifCond .lt 15, 3) := by decide +kernel
theorem dX11_riverAt_9 : decode cX11_riverAt 9 = .ok (.iload_n 2, 1) := by decide +kernel
theorem dX11_riverAt_10 : decode cX11_riverAt 10 = .ok (.aload_n 0, 1) := by decide +kernel
theorem dX11_riverAt_11 : decode cX11_riverAt 11 = .ok (.getfield 10, 3) := by decide +kernel
theorem dX11_riverAt_14 : decode cX11_riverAt 14 = .ok (.iload_n 1, 1) := by decide +kernel
theorem dX11_riverAt_15 : decode cX11_riverAt 15 = .ok (.invokevirtual 158, 3) := by decide +kernel
theorem dX11_riverAt_18 : decode cX11_riverAt 18 = .ok (.if_icmp .le 13, 3) := by decide +kernel
theorem dX11_riverAt_21 : decode cX11_riverAt 21 = .ok (.new 176, 3) := by decide +kernel
theorem dX11_riverAt_24 : decode cX11_riverAt 24 = .ok (.dup, 1) := by decide +kernel
theorem dX11_riverAt_25 : decode cX11_riverAt 25 = .ok (.ldc 178, 2) := by decide +kernel
theorem dX11_riverAt_27 : decode cX11_riverAt 27 = .ok (.invokespecial 180, 3) := by decide +kernel
theorem dX11_riverAt_30 : decode cX11_riverAt 30 = .ok (.athrow, 1) := by decide +kernel
theorem dX11_riverAt_31 : decode cX11_riverAt 31 = .ok (.aload_n 0, 1) := by decide +kernel
theorem dX11_riverAt_32 : decode cX11_riverAt 32 = .ok (.getfield 10, 3) := by decide +kernel
theorem dX11_riverAt_35 : decode cX11_riverAt 35 = .ok (.iload_n 1, 1) := by decide +kernel
theorem dX11_riverAt_36 : decode cX11_riverAt 36 = .ok (.iload_n 2, 1) := by decide +kernel
theorem dX11_riverAt_37 : decode cX11_riverAt 37 = .ok (.invokevirtual 161, 3) := by decide +kernel
theorem dX11_riverAt_40 : decode cX11_riverAt 40 = .ok (.ireturn, 1) := by decide +kernel
theorem dX11_dragonOf_0 : decode cX11_dragonOf 0 = .ok (.aload_n 0, 1) := by decide +kernel
theorem dX11_dragonOf_1 : decode cX11_dragonOf 1 = .ok (.iload_n 1, 1) := by decide +kernel
theorem dX11_dragonOf_2 : decode cX11_dragonOf 2 = .ok (.invokevirtual 127, 3) := by decide +kernel
theorem dX11_dragonOf_5 : decode cX11_dragonOf 5 = .ok (.iload_n 2, 1) := by decide +kernel
theorem dX11_dragonOf_6 : decode cX11_dragonOf 6 = .ok (.tableswitch 56 0 2 #[26, 36, 46], 26) := by decide +kernel
theorem dX11_dragonOf_32 : decode cX11_dragonOf 32 = .ok (.aload_n 0, 1) := by decide +kernel
theorem dX11_dragonOf_33 : decode cX11_dragonOf 33 = .ok (.getfield 10, 3) := by decide +kernel
theorem dX11_dragonOf_36 : decode cX11_dragonOf 36 = .ok (.getfield 181, 3) := by decide +kernel
theorem dX11_dragonOf_39 : decode cX11_dragonOf 39 = .ok (.iload_n 1, 1) := by decide +kernel
theorem dX11_dragonOf_40 : decode cX11_dragonOf 40 = .ok (.iaload, 1) := by decide +kernel
theorem dX11_dragonOf_41 : decode cX11_dragonOf 41 = .ok (.ireturn, 1) := by decide +kernel
theorem dX11_dragonOf_42 : decode cX11_dragonOf 42 = .ok (.aload_n 0, 1) := by decide +kernel
theorem dX11_dragonOf_43 : decode cX11_dragonOf 43 = .ok (.getfield 10, 3) := by decide +kernel
theorem dX11_dragonOf_46 : decode cX11_dragonOf 46 = .ok (.getfield 184, 3) := by decide +kernel
theorem dX11_dragonOf_49 : decode cX11_dragonOf 49 = .ok (.iload_n 1, 1) := by decide +kernel
theorem dX11_dragonOf_50 : decode cX11_dragonOf 50 = .ok (.iaload, 1) := by decide +kernel
theorem dX11_dragonOf_51 : decode cX11_dragonOf 51 = .ok (.ireturn, 1) := by decide +kernel
theorem dX11_dragonOf_52 : decode cX11_dragonOf 52 = .ok (.aload_n 0, 1) := by decide +kernel
theorem dX11_dragonOf_53 : decode cX11_dragonOf 53 = .ok (.getfield 10, 3) := by decide +kernel
theorem dX11_dragonOf_56 : decode cX11_dragonOf 56 = .ok (.getfield 187, 3) := by decide +kernel
theorem dX11_dragonOf_59 : decode cX11_dragonOf 59 = .ok (.iload_n 1, 1) := by decide +kernel
theorem dX11_dragonOf_60 : decode cX11_dragonOf 60 = .ok (.iaload, 1) := by decide +kernel
theorem dX11_dragonOf_61 : decode cX11_dragonOf 61 = .ok (.ireturn, 1) := by decide +kernel
theorem dX11_dragonOf_62 : decode cX11_dragonOf 62 = .ok (.new 82, 3) := by decide +kernel
theorem dX11_dragonOf_65 : decode cX11_dragonOf 65 = .ok (.dup, 1) := by decide +kernel
theorem dX11_dragonOf_66 : decode cX11_dragonOf 66 = .ok (.ldc 190, 2) := by decide +kernel
theorem dX11_dragonOf_68 : decode cX11_dragonOf 68 = .ok (.invokespecial 86, 3) := by decide +kernel
theorem dX11_dragonOf_71 : decode cX11_dragonOf 71 = .ok (.athrow, 1) := by decide +kernel
theorem dX11_weight_0 : decode cX11_weight 0 = .ok (.aload_n 0, 1) := by decide +kernel
theorem dX11_weight_1 : decode cX11_weight 1 = .ok (.iload_n 1, 1) := by decide +kernel
theorem dX11_weight_2 : decode cX11_weight 2 = .ok (.invokevirtual 119, 3) := by decide +kernel
theorem dX11_weight_5 : decode cX11_weight 5 = .ok (.aload_n 0, 1) := by decide +kernel
theorem dX11_weight_6 : decode cX11_weight 6 = .ok (.getfield 10, 3) := by decide +kernel
theorem dX11_weight_9 : decode cX11_weight 9 = .ok (.iload_n 1, 1) := by decide +kernel
theorem dX11_weight_10 : decode cX11_weight 10 = .ok (.invokestatic 192, 3) := by decide +kernel
theorem dX11_weight_13 : decode cX11_weight 13 = .ok (.ireturn, 1) := by decide +kernel
theorem dX11_weightAgain_0 : decode cX11_weightAgain 0 = .ok (.aload_n 0, 1) := by decide +kernel
theorem dX11_weightAgain_1 : decode cX11_weightAgain 1 = .ok (.iload_n 1, 1) := by decide +kernel
theorem dX11_weightAgain_2 : decode cX11_weightAgain 2 = .ok (.invokevirtual 119, 3) := by decide +kernel
theorem dX11_weightAgain_5 : decode cX11_weightAgain 5 = .ok (.aload_n 0, 1) := by decide +kernel
theorem dX11_weightAgain_6 : decode cX11_weightAgain 6 = .ok (.getfield 10, 3) := by decide +kernel
theorem dX11_weightAgain_9 : decode cX11_weightAgain 9 = .ok (.iload_n 1, 1) := by decide +kernel
theorem dX11_weightAgain_10 : decode cX11_weightAgain 10 = .ok (.invokestatic 195, 3) := by decide +kernel
theorem dX11_weightAgain_13 : decode cX11_weightAgain 13 = .ok (.ireturn, 1) := by decide +kernel
theorem dX11_border_0 : decode cX11_border 0 = .ok (.iload_n 1, 1) := by decide +kernel
theorem dX11_border_1 : decode cX11_border 1 = .ok (.invokestatic 97, 3) := by decide +kernel
theorem dX11_border_4 : decode cX11_border 4 = .ok (.iload_n 2, 1) := by decide +kernel
theorem dX11_border_5 : decode cX11_border 5 = .ok (.invokestatic 97, 3) := by decide +kernel
theorem dX11_border_8 : decode cX11_border 8 = .ok (.aload_n 0, 1) := by decide +kernel
theorem dX11_border_9 : decode cX11_border 9 = .ok (.getfield 10, 3) := by decide +kernel
theorem dX11_border_12 : decode cX11_border 12 = .ok (.iload_n 1, 1) := by decide +kernel
theorem dX11_border_13 : decode cX11_border 13 = .ok (.iload_n 2, 1) := by decide +kernel
theorem dX11_border_14 : decode cX11_border 14 = .ok (.invokestatic 198, 3) := by decide +kernel
theorem dX11_border_17 : decode cX11_border 17 = .ok (.ireturn, 1) := by decide +kernel
theorem dX11_around_0 : decode cX11_around 0 = .ok (.iload_n 1, 1) := by decide +kernel
theorem dX11_around_1 : decode cX11_around 1 = .ok (.invokestatic 97, 3) := by decide +kernel
theorem dX11_around_4 : decode cX11_around 4 = .ok (.aload_n 0, 1) := by decide +kernel
theorem dX11_around_5 : decode cX11_around 5 = .ok (.getfield 10, 3) := by decide +kernel
theorem dX11_around_8 : decode cX11_around 8 = .ok (.iload_n 1, 1) := by decide +kernel
theorem dX11_around_9 : decode cX11_around 9 = .ok (.invokestatic 204, 3) := by decide +kernel
theorem dX11_around_12 : decode cX11_around 12 = .ok (.ireturn, 1) := by decide +kernel
theorem dX11_aroundAgain_0 : decode cX11_aroundAgain 0 = .ok (.iload_n 1, 1) := by decide +kernel
theorem dX11_aroundAgain_1 : decode cX11_aroundAgain 1 = .ok (.invokestatic 97, 3) := by decide +kernel
theorem dX11_aroundAgain_4 : decode cX11_aroundAgain 4 = .ok (.aload_n 0, 1) := by decide +kernel
theorem dX11_aroundAgain_5 : decode cX11_aroundAgain 5 = .ok (.getfield 10, 3) := by decide +kernel
theorem dX11_aroundAgain_8 : decode cX11_aroundAgain 8 = .ok (.iload_n 1, 1) := by decide +kernel
theorem dX11_aroundAgain_9 : decode cX11_aroundAgain 9 = .ok (.invokestatic 207, 3) := by decide +kernel
theorem dX11_aroundAgain_12 : decode cX11_aroundAgain 12 = .ok (.ireturn, 1) := by decide +kernel
theorem dX11_parts_0 : decode cX11_parts 0 = .ok (.iload_n 1, 1) := by decide +kernel
theorem dX11_parts_1 : decode cX11_parts 1 = .ok (.invokestatic 97, 3) := by decide +kernel
theorem dX11_parts_4 : decode cX11_parts 4 = .ok (.aload_n 0, 1) := by decide +kernel
theorem dX11_parts_5 : decode cX11_parts 5 = .ok (.getfield 66, 3) := by decide +kernel
theorem dX11_parts_8 : decode cX11_parts 8 = .ok (.aload_n 0, 1) := by decide +kernel
theorem dX11_parts_9 : decode cX11_parts 9 = .ok (.getfield 10, 3) := by decide +kernel
theorem dX11_parts_12 : decode cX11_parts 12 = .ok (.iload_n 1, 1) := by decide +kernel
theorem dX11_parts_13 : decode cX11_parts 13 = .ok (.invokevirtual 210, 3) := by decide +kernel
theorem dX11_parts_16 : decode cX11_parts 16 = .ok (.ireturn, 1) := by decide +kernel
theorem dX11_partsAgain_0 : decode cX11_partsAgain 0 = .ok (.iload_n 1, 1) := by decide +kernel
theorem dX11_partsAgain_1 : decode cX11_partsAgain 1 = .ok (.invokestatic 97, 3) := by decide +kernel
theorem dX11_partsAgain_4 : decode cX11_partsAgain 4 = .ok (.aload_n 0, 1) := by decide +kernel
theorem dX11_partsAgain_5 : decode cX11_partsAgain 5 = .ok (.getfield 66, 3) := by decide +kernel
theorem dX11_partsAgain_8 : decode cX11_partsAgain 8 = .ok (.aload_n 0, 1) := by decide +kernel
theorem dX11_partsAgain_9 : decode cX11_partsAgain 9 = .ok (.getfield 10, 3) := by decide +kernel
theorem dX11_partsAgain_12 : decode cX11_partsAgain 12 = .ok (.iload_n 1, 1) := by decide +kernel
theorem dX11_partsAgain_13 : decode cX11_partsAgain 13 = .ok (.invokevirtual 213, 3) := by decide +kernel
theorem dX11_partsAgain_16 : decode cX11_partsAgain 16 = .ok (.ireturn, 1) := by decide +kernel
theorem dX11_couldShave_0 : decode cX11_couldShave 0 = .ok (.iload_n 1, 1) := by decide +kernel
theorem dX11_couldShave_1 : decode cX11_couldShave 1 = .ok (.invokestatic 74, 3) := by decide +kernel
theorem dX11_couldShave_4 : decode cX11_couldShave 4 = .ok (.iload_n 2, 1) := by decide +kernel
theorem dX11_couldShave_5 : decode cX11_couldShave 5 = .ok (.invokestatic 97, 3) := by decide +kernel
theorem dX11_couldShave_8 : decode cX11_couldShave 8 = .ok (.aload_n 0, 1) := by decide +kernel
theorem dX11_couldShave_9 : decode cX11_couldShave 9 = .ok (.getfield 10, 3) := by decide +kernel
theorem dX11_couldShave_12 : decode cX11_couldShave 12 = .ok (.iload_n 1, 1) := by decide +kernel
theorem dX11_couldShave_13 : decode cX11_couldShave 13 = .ok (.iload_n 2, 1) := by decide +kernel
theorem dX11_couldShave_14 : decode cX11_couldShave 14 = .ok (.invokestatic 216, 3) := by decide +kernel
theorem dX11_couldShave_17 : decode cX11_couldShave 17 = .ok (.ifCond .ne 7, 3) := by decide +kernel
theorem dX11_couldShave_20 : decode cX11_couldShave 20 = .ok (.iconst 1, 1) := by decide +kernel
theorem dX11_couldShave_21 : decode cX11_couldShave 21 = .ok (.goto 4, 3) := by decide +kernel
theorem dX11_couldShave_24 : decode cX11_couldShave 24 = .ok (.iconst 0, 1) := by decide +kernel
theorem dX11_couldShave_25 : decode cX11_couldShave 25 = .ok (.ireturn, 1) := by decide +kernel
theorem dX11_shavable_0 : decode cX11_shavable 0 = .ok (.iload_n 1, 1) := by decide +kernel
theorem dX11_shavable_1 : decode cX11_shavable 1 = .ok (.invokestatic 97, 3) := by decide +kernel
theorem dX11_shavable_4 : decode cX11_shavable 4 = .ok (.iconst 0, 1) := by decide +kernel
theorem dX11_shavable_5 : decode cX11_shavable 5 = .ok (.istore_n 2, 1) := by decide +kernel
theorem dX11_shavable_6 : decode cX11_shavable 6 = .ok (.iconst 0, 1) := by decide +kernel
theorem dX11_shavable_7 : decode cX11_shavable 7 = .ok (.istore_n 3, 1) := by decide +kernel
theorem dX11_shavable_8 : decode cX11_shavable 8 = .ok (.iload_n 3, 1) := by decide +kernel
theorem dX11_shavable_9 : decode cX11_shavable 9 = .ok (.bipush 64, 2) := by decide +kernel
theorem dX11_shavable_11 : decode cX11_shavable 11 = .ok (.if_icmp .ge 24, 3) := by decide +kernel
theorem dX11_shavable_14 : decode cX11_shavable 14 = .ok (.aload_n 0, 1) := by decide +kernel
theorem dX11_shavable_15 : decode cX11_shavable 15 = .ok (.getfield 10, 3) := by decide +kernel
theorem dX11_shavable_18 : decode cX11_shavable 18 = .ok (.iload_n 3, 1) := by decide +kernel
theorem dX11_shavable_19 : decode cX11_shavable 19 = .ok (.iload_n 1, 1) := by decide +kernel
theorem dX11_shavable_20 : decode cX11_shavable 20 = .ok (.invokestatic 216, 3) := by decide +kernel
theorem dX11_shavable_23 : decode cX11_shavable 23 = .ok (.ifCond .ne 6, 3) := by decide +kernel
theorem dX11_shavable_26 : decode cX11_shavable 26 = .ok (.iinc 2 1, 3) := by decide +kernel
theorem dX11_shavable_29 : decode cX11_shavable 29 = .ok (.iinc 3 1, 3) := by decide +kernel
theorem dX11_shavable_32 : decode cX11_shavable 32 = .ok (.goto (-24), 3) := by decide +kernel
theorem dX11_shavable_35 : decode cX11_shavable 35 = .ok (.iload_n 2, 1) := by decide +kernel
theorem dX11_shavable_36 : decode cX11_shavable 36 = .ok (.ireturn, 1) := by decide +kernel
theorem dX11_lies_0 : decode cX11_lies 0 = .ok (.iload_n 2, 1) := by decide +kernel
theorem dX11_lies_1 : decode cX11_lies 1 = .ok (.invokestatic 221, 3) := by decide +kernel
theorem dX11_lies_4 : decode cX11_lies 4 = .ok (.aload_n 0, 1) := by decide +kernel
theorem dX11_lies_5 : decode cX11_lies 5 = .ok (.getfield 10, 3) := by decide +kernel
theorem dX11_lies_8 : decode cX11_lies 8 = .ok (.iload_n 1, 1) := by decide +kernel
theorem dX11_lies_9 : decode cX11_lies 9 = .ok (.iload_n 2, 1) := by decide +kernel
theorem dX11_lies_10 : decode cX11_lies 10 = .ok (.invokestatic 224, 3) := by decide +kernel
theorem dX11_lies_13 : decode cX11_lies 13 = .ok (.ireturn, 1) := by decide +kernel
theorem dX11_liesAgain_0 : decode cX11_liesAgain 0 = .ok (.iload_n 2, 1) := by decide +kernel
theorem dX11_liesAgain_1 : decode cX11_liesAgain 1 = .ok (.invokestatic 221, 3) := by decide +kernel
theorem dX11_liesAgain_4 : decode cX11_liesAgain 4 = .ok (.aload_n 0, 1) := by decide +kernel
theorem dX11_liesAgain_5 : decode cX11_liesAgain 5 = .ok (.getfield 10, 3) := by decide +kernel
theorem dX11_liesAgain_8 : decode cX11_liesAgain 8 = .ok (.iload_n 1, 1) := by decide +kernel
theorem dX11_liesAgain_9 : decode cX11_liesAgain 9 = .ok (.iload_n 2, 1) := by decide +kernel
theorem dX11_liesAgain_10 : decode cX11_liesAgain 10 = .ok (.invokestatic 230, 3) := by decide +kernel
theorem dX11_liesAgain_13 : decode cX11_liesAgain 13 = .ok (.ireturn, 1) := by decide +kernel
theorem dX11_bestFold_0 : decode cX11_bestFold 0 = .ok (.iconst 1, 1) := by decide +kernel
theorem dX11_bestFold_1 : decode cX11_bestFold 1 = .ok (.istore_n 2, 1) := by decide +kernel
theorem dX11_bestFold_2 : decode cX11_bestFold 2 = .ok (.aload_n 0, 1) := by decide +kernel
theorem dX11_bestFold_3 : decode cX11_bestFold 3 = .ok (.getfield 10, 3) := by decide +kernel
theorem dX11_bestFold_6 : decode cX11_bestFold 6 = .ok (.iload_n 1, 1) := by decide +kernel
theorem dX11_bestFold_7 : decode cX11_bestFold 7 = .ok (.iload_n 2, 1) := by decide +kernel
theorem dX11_bestFold_8 : decode cX11_bestFold 8 = .ok (.invokestatic 224, 3) := by decide +kernel
theorem dX11_bestFold_11 : decode cX11_bestFold 11 = .ok (.istore_n 3, 1) := by decide +kernel
theorem dX11_bestFold_12 : decode cX11_bestFold 12 = .ok (.iconst 2, 1) := by decide +kernel
theorem dX11_bestFold_13 : decode cX11_bestFold 13 = .ok (.istore 4, 2) := by decide +kernel
theorem dX11_bestFold_15 : decode cX11_bestFold 15 = .ok (.iload 4, 2) := by decide +kernel
theorem dX11_bestFold_17 : decode cX11_bestFold 17 = .ok (.bipush 8, 2) := by decide +kernel
theorem dX11_bestFold_19 : decode cX11_bestFold 19 = .ok (.if_icmp .ge 33, 3) := by decide +kernel
theorem dX11_bestFold_22 : decode cX11_bestFold 22 = .ok (.aload_n 0, 1) := by decide +kernel
theorem dX11_bestFold_23 : decode cX11_bestFold 23 = .ok (.getfield 10, 3) := by decide +kernel
theorem dX11_bestFold_26 : decode cX11_bestFold 26 = .ok (.iload_n 1, 1) := by decide +kernel
theorem dX11_bestFold_27 : decode cX11_bestFold 27 = .ok (.iload 4, 2) := by decide +kernel
theorem dX11_bestFold_29 : decode cX11_bestFold 29 = .ok (.invokestatic 224, 3) := by decide +kernel
theorem dX11_bestFold_32 : decode cX11_bestFold 32 = .ok (.istore 5, 2) := by decide +kernel
theorem dX11_bestFold_34 : decode cX11_bestFold 34 = .ok (.iload 5, 2) := by decide +kernel
theorem dX11_bestFold_36 : decode cX11_bestFold 36 = .ok (.iload_n 3, 1) := by decide +kernel
theorem dX11_bestFold_37 : decode cX11_bestFold 37 = .ok (.if_icmp .ge 9, 3) := by decide +kernel
theorem dX11_bestFold_40 : decode cX11_bestFold 40 = .ok (.iload 4, 2) := by decide +kernel
theorem dX11_bestFold_42 : decode cX11_bestFold 42 = .ok (.istore_n 2, 1) := by decide +kernel
theorem dX11_bestFold_43 : decode cX11_bestFold 43 = .ok (.iload 5, 2) := by decide +kernel
theorem dX11_bestFold_45 : decode cX11_bestFold 45 = .ok (.istore_n 3, 1) := by decide +kernel
theorem dX11_bestFold_46 : decode cX11_bestFold 46 = .ok (.iinc 4 1, 3) := by decide +kernel
theorem dX11_bestFold_49 : decode cX11_bestFold 49 = .ok (.goto (-34), 3) := by decide +kernel
theorem dX11_bestFold_52 : decode cX11_bestFold 52 = .ok (.iload_n 2, 1) := by decide +kernel
theorem dX11_bestFold_53 : decode cX11_bestFold 53 = .ok (.ireturn, 1) := by decide +kernel
theorem dX11_wrong_0 : decode cX11_wrong 0 = .ok (.aload_n 0, 1) := by decide +kernel
theorem dX11_wrong_1 : decode cX11_wrong 1 = .ok (.getfield 10, 3) := by decide +kernel
theorem dX11_wrong_4 : decode cX11_wrong 4 = .ok (.aload_n 0, 1) := by decide +kernel
theorem dX11_wrong_5 : decode cX11_wrong 5 = .ok (.getfield 10, 3) := by decide +kernel
theorem dX11_wrong_8 : decode cX11_wrong 8 = .ok (.getfield 168, 3) := by decide +kernel
theorem dX11_wrong_11 : decode cX11_wrong 11 = .ok (.invokestatic 233, 3) := by decide +kernel
theorem dX11_wrong_14 : decode cX11_wrong 14 = .ok (.ireturn, 1) := by decide +kernel
theorem dX11_bestScale_0 : decode cX11_bestScale 0 = .ok (.aload_n 0, 1) := by decide +kernel
theorem dX11_bestScale_1 : decode cX11_bestScale 1 = .ok (.getfield 10, 3) := by decide +kernel
theorem dX11_bestScale_4 : decode cX11_bestScale 4 = .ok (.getfield 236, 3) := by decide +kernel
theorem dX11_bestScale_7 : decode cX11_bestScale 7 = .ok (.ifCond .ne 13, 3) := by decide +kernel
theorem dX11_bestScale_10 : decode cX11_bestScale 10 = .ok (.new 176, 3) := by decide +kernel
theorem dX11_bestScale_13 : decode cX11_bestScale 13 = .ok (.dup, 1) := by decide +kernel
theorem dX11_bestScale_14 : decode cX11_bestScale 14 = .ok (.ldc 239, 2) := by decide +kernel
theorem dX11_bestScale_16 : decode cX11_bestScale 16 = .ok (.invokespecial 180, 3) := by decide +kernel
theorem dX11_bestScale_19 : decode cX11_bestScale 19 = .ok (.athrow, 1) := by decide +kernel
theorem dX11_bestScale_20 : decode cX11_bestScale 20 = .ok (.iconst 1, 1) := by decide +kernel
theorem dX11_bestScale_21 : decode cX11_bestScale 21 = .ok (.istore_n 1, 1) := by decide +kernel
theorem dX11_bestScale_22 : decode cX11_bestScale 22 = .ok (.aload_n 0, 1) := by decide +kernel
theorem dX11_bestScale_23 : decode cX11_bestScale 23 = .ok (.getfield 10, 3) := by decide +kernel
theorem dX11_bestScale_26 : decode cX11_bestScale 26 = .ok (.iload_n 1, 1) := by decide +kernel
theorem dX11_bestScale_27 : decode cX11_bestScale 27 = .ok (.invokestatic 233, 3) := by decide +kernel
theorem dX11_bestScale_30 : decode cX11_bestScale 30 = .ok (.istore_n 2, 1) := by decide +kernel
theorem dX11_bestScale_31 : decode cX11_bestScale 31 = .ok (.iconst 2, 1) := by decide +kernel
theorem dX11_bestScale_32 : decode cX11_bestScale 32 = .ok (.istore_n 3, 1) := by decide +kernel
theorem dX11_bestScale_33 : decode cX11_bestScale 33 = .ok (.iload_n 3, 1) := by decide +kernel
theorem dX11_bestScale_34 : decode cX11_bestScale 34 = .ok (.bipush 9, 2) := by decide +kernel
theorem dX11_bestScale_36 : decode cX11_bestScale 36 = .ok (.if_icmp .gt 30, 3) := by decide +kernel
theorem dX11_bestScale_39 : decode cX11_bestScale 39 = .ok (.aload_n 0, 1) := by decide +kernel
theorem dX11_bestScale_40 : decode cX11_bestScale 40 = .ok (.getfield 10, 3) := by decide +kernel
theorem dX11_bestScale_43 : decode cX11_bestScale 43 = .ok (.iload_n 3, 1) := by decide +kernel
theorem dX11_bestScale_44 : decode cX11_bestScale 44 = .ok (.invokestatic 233, 3) := by decide +kernel
theorem dX11_bestScale_47 : decode cX11_bestScale 47 = .ok (.istore 4, 2) := by decide +kernel
theorem dX11_bestScale_49 : decode cX11_bestScale 49 = .ok (.iload 4, 2) := by decide +kernel
theorem dX11_bestScale_51 : decode cX11_bestScale 51 = .ok (.iload_n 2, 1) := by decide +kernel
theorem dX11_bestScale_52 : decode cX11_bestScale 52 = .ok (.if_icmp .ge 8, 3) := by decide +kernel
theorem dX11_bestScale_55 : decode cX11_bestScale 55 = .ok (.iload_n 3, 1) := by decide +kernel
theorem dX11_bestScale_56 : decode cX11_bestScale 56 = .ok (.istore_n 1, 1) := by decide +kernel
theorem dX11_bestScale_57 : decode cX11_bestScale 57 = .ok (.iload 4, 2) := by decide +kernel
theorem dX11_bestScale_59 : decode cX11_bestScale 59 = .ok (.istore_n 2, 1) := by decide +kernel
theorem dX11_bestScale_60 : decode cX11_bestScale 60 = .ok (.iinc 3 1, 3) := by decide +kernel
theorem dX11_bestScale_63 : decode cX11_bestScale 63 = .ok (.goto (-30), 3) := by decide +kernel
theorem dX11_bestScale_66 : decode cX11_bestScale 66 = .ok (.iload_n 1, 1) := by decide +kernel
theorem dX11_bestScale_67 : decode cX11_bestScale 67 = .ok (.ireturn, 1) := by decide +kernel
theorem dX11_ranked_0 : decode cX11_ranked 0 = .ok (.iconst 0, 1) := by decide +kernel
theorem dX11_ranked_1 : decode cX11_ranked 1 = .ok (.istore_n 2, 1) := by decide +kernel
theorem dX11_ranked_2 : decode cX11_ranked 2 = .ok (.iload_n 2, 1) := by decide +kernel
theorem dX11_ranked_3 : decode cX11_ranked 3 = .ok (.iconst 4, 1) := by decide +kernel
theorem dX11_ranked_4 : decode cX11_ranked 4 = .ok (.if_icmp .ge 20, 3) := by decide +kernel
theorem dX11_ranked_7 : decode cX11_ranked 7 = .ok (.aload_n 0, 1) := by decide +kernel
theorem dX11_ranked_8 : decode cX11_ranked 8 = .ok (.iload_n 2, 1) := by decide +kernel
theorem dX11_ranked_9 : decode cX11_ranked 9 = .ok (.invokevirtual 241, 3) := by decide +kernel
theorem dX11_ranked_12 : decode cX11_ranked 12 = .ok (.iload_n 1, 1) := by decide +kernel
theorem dX11_ranked_13 : decode cX11_ranked 13 = .ok (.if_icmp .ne 5, 3) := by decide +kernel
theorem dX11_ranked_16 : decode cX11_ranked 16 = .ok (.iload_n 2, 1) := by decide +kernel
theorem dX11_ranked_17 : decode cX11_ranked 17 = .ok (.ireturn, 1) := by decide +kernel
theorem dX11_ranked_18 : decode cX11_ranked 18 = .ok (.iinc 2 1, 3) := by decide +kernel
theorem dX11_ranked_21 : decode cX11_ranked 21 = .ok (.goto (-19), 3) := by decide +kernel
theorem dX11_ranked_24 : decode cX11_ranked 24 = .ok (.new 176, 3) := by decide +kernel
theorem dX11_ranked_27 : decode cX11_ranked 27 = .ok (.dup, 1) := by decide +kernel
theorem dX11_ranked_28 : decode cX11_ranked 28 = .ok (.ldc 244, 2) := by decide +kernel
theorem dX11_ranked_30 : decode cX11_ranked 30 = .ok (.invokespecial 180, 3) := by decide +kernel
theorem dX11_ranked_33 : decode cX11_ranked 33 = .ok (.athrow, 1) := by decide +kernel
theorem dX11_heaviest_0 : decode cX11_heaviest 0 = .ok (.iconst 0, 1) := by decide +kernel
theorem dX11_heaviest_1 : decode cX11_heaviest 1 = .ok (.istore_n 2, 1) := by decide +kernel
theorem dX11_heaviest_2 : decode cX11_heaviest 2 = .ok (.iload_n 2, 1) := by decide +kernel
theorem dX11_heaviest_3 : decode cX11_heaviest 3 = .ok (.aload_n 0, 1) := by decide +kernel
theorem dX11_heaviest_4 : decode cX11_heaviest 4 = .ok (.getfield 10, 3) := by decide +kernel
theorem dX11_heaviest_7 : decode cX11_heaviest 7 = .ok (.getfield 236, 3) := by decide +kernel
theorem dX11_heaviest_10 : decode cX11_heaviest 10 = .ok (.if_icmp .ge 20, 3) := by decide +kernel
theorem dX11_heaviest_13 : decode cX11_heaviest 13 = .ok (.aload_n 0, 1) := by decide +kernel
theorem dX11_heaviest_14 : decode cX11_heaviest 14 = .ok (.iload_n 2, 1) := by decide +kernel
theorem dX11_heaviest_15 : decode cX11_heaviest 15 = .ok (.invokevirtual 246, 3) := by decide +kernel
theorem dX11_heaviest_18 : decode cX11_heaviest 18 = .ok (.iload_n 1, 1) := by decide +kernel
theorem dX11_heaviest_19 : decode cX11_heaviest 19 = .ok (.if_icmp .ne 5, 3) := by decide +kernel
theorem dX11_heaviest_22 : decode cX11_heaviest 22 = .ok (.iload_n 2, 1) := by decide +kernel
theorem dX11_heaviest_23 : decode cX11_heaviest 23 = .ok (.ireturn, 1) := by decide +kernel
theorem dX11_heaviest_24 : decode cX11_heaviest 24 = .ok (.iinc 2 1, 3) := by decide +kernel
theorem dX11_heaviest_27 : decode cX11_heaviest 27 = .ok (.goto (-25), 3) := by decide +kernel
theorem dX11_heaviest_30 : decode cX11_heaviest 30 = .ok (.new 176, 3) := by decide +kernel
theorem dX11_heaviest_33 : decode cX11_heaviest 33 = .ok (.dup, 1) := by decide +kernel
theorem dX11_heaviest_34 : decode cX11_heaviest 34 = .ok (.ldc 249, 2) := by decide +kernel
theorem dX11_heaviest_36 : decode cX11_heaviest 36 = .ok (.invokespecial 180, 3) := by decide +kernel
theorem dX11_heaviest_39 : decode cX11_heaviest 39 = .ok (.athrow, 1) := by decide +kernel
theorem dX11_isTrue_0 : decode cX11_isTrue 0 = .ok (.aload_n 0, 1) := by decide +kernel
theorem dX11_isTrue_1 : decode cX11_isTrue 1 = .ok (.invokevirtual 251, 3) := by decide +kernel
theorem dX11_isTrue_4 : decode cX11_isTrue 4 = .ok (.ifCond .eq 35, 3) := by decide +kernel
theorem dX11_isTrue_7 : decode cX11_isTrue 7 = .ok (.aload_n 0, 1) := by decide +kernel
theorem dX11_isTrue_8 : decode cX11_isTrue 8 = .ok (.invokevirtual 255, 3) := by decide +kernel
theorem dX11_isTrue_11 : decode cX11_isTrue 11 = .ok (.ifCond .eq 28, 3) := by decide +kernel
theorem dX11_isTrue_14 : decode cX11_isTrue 14 = .ok (.aload_n 0, 1) := by decide +kernel
theorem dX11_isTrue_15 : decode cX11_isTrue 15 = .ok (.invokevirtual 258, 3) := by decide +kernel
theorem dX11_isTrue_18 : decode cX11_isTrue 18 = .ok (.ifCond .eq 21, 3) := by decide +kernel
theorem dX11_isTrue_21 : decode cX11_isTrue 21 = .ok (.aload_n 0, 1) := by decide +kernel
theorem dX11_isTrue_22 : decode cX11_isTrue 22 = .ok (.invokevirtual 261, 3) := by decide +kernel
theorem dX11_isTrue_25 : decode cX11_isTrue 25 = .ok (.ifCond .eq 14, 3) := by decide +kernel
theorem dX11_isTrue_28 : decode cX11_isTrue 28 = .ok (.aload_n 0, 1) := by decide +kernel
theorem dX11_isTrue_29 : decode cX11_isTrue 29 = .ok (.invokevirtual 264, 3) := by decide +kernel
theorem dX11_isTrue_32 : decode cX11_isTrue 32 = .ok (.ifCond .eq 7, 3) := by decide +kernel
theorem dX11_isTrue_35 : decode cX11_isTrue 35 = .ok (.iconst 1, 1) := by decide +kernel
theorem dX11_isTrue_36 : decode cX11_isTrue 36 = .ok (.goto 4, 3) := by decide +kernel
theorem dX11_isTrue_39 : decode cX11_isTrue 39 = .ok (.iconst 0, 1) := by decide +kernel
theorem dX11_isTrue_40 : decode cX11_isTrue 40 = .ok (.ireturn, 1) := by decide +kernel
theorem dX11_row_0 : decode cX11_row 0 = .ok (.iload_n 1, 1) := by decide +kernel
theorem dX11_row_1 : decode cX11_row 1 = .ok (.ifCond .lt 9, 3) := by decide +kernel
theorem dX11_row_4 : decode cX11_row 4 = .ok (.iload_n 1, 1) := by decide +kernel
theorem dX11_row_5 : decode cX11_row 5 = .ok (.bipush 8, 2) := by decide +kernel
theorem dX11_row_7 : decode cX11_row 7 = .ok (.if_icmp .lt 14, 3) := by decide +kernel
theorem dX11_row_10 : decode cX11_row 10 = .ok (.new 267, 3) := by decide +kernel
theorem dX11_row_13 : decode cX11_row 13 = .ok (.dup, 1) := by decide +kernel
theorem dX11_row_14 : decode cX11_row 14 = .ok (.ldc_w 269, 3) := by decide +kernel
theorem dX11_row_17 : decode cX11_row 17 = .ok (.invokespecial 271, 3) := by decide +kernel
theorem dX11_row_20 : decode cX11_row 20 = .ok (.athrow, 1) := by decide +kernel
theorem dX11_row_21 : decode cX11_row 21 = .ok (.aload_n 0, 1) := by decide +kernel
theorem dX11_row_22 : decode cX11_row 22 = .ok (.getfield 53, 3) := by decide +kernel
theorem dX11_row_25 : decode cX11_row 25 = .ok (.invokevirtual 109, 3) := by decide +kernel
theorem dX11_row_28 : decode cX11_row 28 = .ok (.iload_n 1, 1) := by decide +kernel
theorem dX11_row_29 : decode cX11_row 29 = .ok (.bipush 8, 2) := by decide +kernel
theorem dX11_row_31 : decode cX11_row 31 = .ok (.imul, 1) := by decide +kernel
theorem dX11_row_32 : decode cX11_row 32 = .ok (.istore_n 2, 1) := by decide +kernel
theorem dX11_row_33 : decode cX11_row 33 = .ok (.iload_n 2, 1) := by decide +kernel
theorem dX11_row_34 : decode cX11_row 34 = .ok (.iload_n 1, 1) := by decide +kernel
theorem dX11_row_35 : decode cX11_row 35 = .ok (.bipush 8, 2) := by decide +kernel
theorem dX11_row_37 : decode cX11_row 37 = .ok (.imul, 1) := by decide +kernel
theorem dX11_row_38 : decode cX11_row 38 = .ok (.bipush 8, 2) := by decide +kernel
theorem dX11_row_40 : decode cX11_row 40 = .ok (.iadd, 1) := by decide +kernel
theorem dX11_row_41 : decode cX11_row 41 = .ok (.if_icmp .ge 21, 3) := by decide +kernel
theorem dX11_row_44 : decode cX11_row 44 = .ok (.aload_n 0, 1) := by decide +kernel
theorem dX11_row_45 : decode cX11_row 45 = .ok (.getfield 53, 3) := by decide +kernel
theorem dX11_row_48 : decode cX11_row 48 = .ok (.aload_n 0, 1) := by decide +kernel
theorem dX11_row_49 : decode cX11_row 49 = .ok (.iload_n 2, 1) := by decide +kernel
theorem dX11_row_50 : decode cX11_row 50 = .ok (.invokevirtual 272, 3) := by decide +kernel
theorem dX11_row_53 : decode cX11_row 53 = .ok (.invokevirtual 276, 3) := by decide +kernel
theorem dX11_row_56 : decode cX11_row 56 = .ok (.iinc 2 1, 3) := by decide +kernel
theorem dX11_row_59 : decode cX11_row 59 = .ok (.goto (-26), 3) := by decide +kernel
theorem dX11_row_62 : decode cX11_row 62 = .ok (.aload_n 0, 1) := by decide +kernel
theorem dX11_row_63 : decode cX11_row 63 = .ok (.getfield 53, 3) := by decide +kernel
theorem dX11_row_66 : decode cX11_row 66 = .ok (.getfield 280, 3) := by decide +kernel
theorem dX11_row_69 : decode cX11_row 69 = .ok (.ireturn, 1) := by decide +kernel
theorem dX11_tell_0 : decode cX11_tell 0 = .ok (.aload_n 0, 1) := by decide +kernel
theorem dX11_tell_1 : decode cX11_tell 1 = .ok (.iload_n 1, 1) := by decide +kernel
theorem dX11_tell_2 : decode cX11_tell 2 = .ok (.invokevirtual 119, 3) := by decide +kernel
theorem dX11_tell_5 : decode cX11_tell 5 = .ok (.aload_n 0, 1) := by decide +kernel
theorem dX11_tell_6 : decode cX11_tell 6 = .ok (.getfield 53, 3) := by decide +kernel
theorem dX11_tell_9 : decode cX11_tell 9 = .ok (.invokevirtual 109, 3) := by decide +kernel
theorem dX11_tell_12 : decode cX11_tell 12 = .ok (.aload_n 0, 1) := by decide +kernel
theorem dX11_tell_13 : decode cX11_tell 13 = .ok (.getfield 53, 3) := by decide +kernel
theorem dX11_tell_16 : decode cX11_tell 16 = .ok (.aload_n 0, 1) := by decide +kernel
theorem dX11_tell_17 : decode cX11_tell 17 = .ok (.getfield 10, 3) := by decide +kernel
theorem dX11_tell_20 : decode cX11_tell 20 = .ok (.iload_n 1, 1) := by decide +kernel
theorem dX11_tell_21 : decode cX11_tell 21 = .ok (.iconst 0, 1) := by decide +kernel
theorem dX11_tell_22 : decode cX11_tell 22 = .ok (.invokevirtual 161, 3) := by decide +kernel
theorem dX11_tell_25 : decode cX11_tell 25 = .ok (.invokevirtual 283, 3) := by decide +kernel
theorem dX11_tell_28 : decode cX11_tell 28 = .ok (.aload_n 0, 1) := by decide +kernel
theorem dX11_tell_29 : decode cX11_tell 29 = .ok (.getfield 53, 3) := by decide +kernel
theorem dX11_tell_32 : decode cX11_tell 32 = .ok (.bipush 58, 2) := by decide +kernel
theorem dX11_tell_34 : decode cX11_tell 34 = .ok (.invokevirtual 276, 3) := by decide +kernel
theorem dX11_tell_37 : decode cX11_tell 37 = .ok (.iconst 0, 1) := by decide +kernel
theorem dX11_tell_38 : decode cX11_tell 38 = .ok (.istore_n 2, 1) := by decide +kernel
theorem dX11_tell_39 : decode cX11_tell 39 = .ok (.iload_n 2, 1) := by decide +kernel
theorem dX11_tell_40 : decode cX11_tell 40 = .ok (.aload_n 0, 1) := by decide +kernel
theorem dX11_tell_41 : decode cX11_tell 41 = .ok (.getfield 10, 3) := by decide +kernel
theorem dX11_tell_44 : decode cX11_tell 44 = .ok (.iload_n 1, 1) := by decide +kernel
theorem dX11_tell_45 : decode cX11_tell 45 = .ok (.invokevirtual 158, 3) := by decide +kernel
theorem dX11_tell_48 : decode cX11_tell 48 = .ok (.if_icmp .ge 39, 3) := by decide +kernel
theorem dX11_tell_51 : decode cX11_tell 51 = .ok (.aload_n 0, 1) := by decide +kernel
theorem dX11_tell_52 : decode cX11_tell 52 = .ok (.getfield 53, 3) := by decide +kernel
theorem dX11_tell_55 : decode cX11_tell 55 = .ok (.aload_n 0, 1) := by decide +kernel
theorem dX11_tell_56 : decode cX11_tell 56 = .ok (.getfield 10, 3) := by decide +kernel
theorem dX11_tell_59 : decode cX11_tell 59 = .ok (.iload_n 1, 1) := by decide +kernel
theorem dX11_tell_60 : decode cX11_tell 60 = .ok (.iload_n 2, 1) := by decide +kernel
theorem dX11_tell_61 : decode cX11_tell 61 = .ok (.invokevirtual 161, 3) := by decide +kernel
theorem dX11_tell_64 : decode cX11_tell 64 = .ok (.aload_n 0, 1) := by decide +kernel
theorem dX11_tell_65 : decode cX11_tell 65 = .ok (.getfield 10, 3) := by decide +kernel
theorem dX11_tell_68 : decode cX11_tell 68 = .ok (.iload_n 1, 1) := by decide +kernel
theorem dX11_tell_69 : decode cX11_tell 69 = .ok (.iload_n 2, 1) := by decide +kernel
theorem dX11_tell_70 : decode cX11_tell 70 = .ok (.iconst 1, 1) := by decide +kernel
theorem dX11_tell_71 : decode cX11_tell 71 = .ok (.iadd, 1) := by decide +kernel
theorem dX11_tell_72 : decode cX11_tell 72 = .ok (.invokevirtual 161, 3) := by decide +kernel
theorem dX11_tell_75 : decode cX11_tell 75 = .ok (.invokestatic 286, 3) := by decide +kernel
theorem dX11_tell_78 : decode cX11_tell 78 = .ok (.invokevirtual 276, 3) := by decide +kernel
theorem dX11_tell_81 : decode cX11_tell 81 = .ok (.iinc 2 1, 3) := by decide +kernel
theorem dX11_tell_84 : decode cX11_tell 84 = .ok (.goto (-45), 3) := by decide +kernel
theorem dX11_tell_87 : decode cX11_tell 87 = .ok (.aload_n 0, 1) := by decide +kernel
theorem dX11_tell_88 : decode cX11_tell 88 = .ok (.getfield 53, 3) := by decide +kernel
theorem dX11_tell_91 : decode cX11_tell 91 = .ok (.bipush 61, 2) := by decide +kernel
theorem dX11_tell_93 : decode cX11_tell 93 = .ok (.invokevirtual 276, 3) := by decide +kernel
theorem dX11_tell_96 : decode cX11_tell 96 = .ok (.aload_n 0, 1) := by decide +kernel
theorem dX11_tell_97 : decode cX11_tell 97 = .ok (.getfield 53, 3) := by decide +kernel
theorem dX11_tell_100 : decode cX11_tell 100 = .ok (.aload_n 0, 1) := by decide +kernel
theorem dX11_tell_101 : decode cX11_tell 101 = .ok (.getfield 10, 3) := by decide +kernel
theorem dX11_tell_104 : decode cX11_tell 104 = .ok (.iload_n 1, 1) := by decide +kernel
theorem dX11_tell_105 : decode cX11_tell 105 = .ok (.invokevirtual 165, 3) := by decide +kernel
theorem dX11_tell_108 : decode cX11_tell 108 = .ok (.invokevirtual 283, 3) := by decide +kernel
theorem dX11_tell_111 : decode cX11_tell 111 = .ok (.aload_n 0, 1) := by decide +kernel
theorem dX11_tell_112 : decode cX11_tell 112 = .ok (.getfield 10, 3) := by decide +kernel
theorem dX11_tell_115 : decode cX11_tell 115 = .ok (.iload_n 1, 1) := by decide +kernel
theorem dX11_tell_116 : decode cX11_tell 116 = .ok (.aload_n 0, 1) := by decide +kernel
theorem dX11_tell_117 : decode cX11_tell 117 = .ok (.getfield 10, 3) := by decide +kernel
theorem dX11_tell_120 : decode cX11_tell 120 = .ok (.getfield 168, 3) := by decide +kernel
theorem dX11_tell_123 : decode cX11_tell 123 = .ok (.invokestatic 290, 3) := by decide +kernel
theorem dX11_tell_126 : decode cX11_tell 126 = .ok (.ifCond .eq 12, 3) := by decide +kernel
theorem dX11_tell_129 : decode cX11_tell 129 = .ok (.aload_n 0, 1) := by decide +kernel
theorem dX11_tell_130 : decode cX11_tell 130 = .ok (.getfield 53, 3) := by decide +kernel
theorem dX11_tell_133 : decode cX11_tell 133 = .ok (.bipush 63, 2) := by decide +kernel
theorem dX11_tell_135 : decode cX11_tell 135 = .ok (.invokevirtual 276, 3) := by decide +kernel
theorem dX11_tell_138 : decode cX11_tell 138 = .ok (.aload_n 0, 1) := by decide +kernel
theorem dX11_tell_139 : decode cX11_tell 139 = .ok (.getfield 53, 3) := by decide +kernel
theorem dX11_tell_142 : decode cX11_tell 142 = .ok (.getfield 280, 3) := by decide +kernel
theorem dX11_tell_145 : decode cX11_tell 145 = .ok (.ireturn, 1) := by decide +kernel
theorem dX11_character_0 : decode cX11_character 0 = .ok (.aload_n 0, 1) := by decide +kernel
theorem dX11_character_1 : decode cX11_character 1 = .ok (.getfield 53, 3) := by decide +kernel
theorem dX11_character_4 : decode cX11_character 4 = .ok (.iload_n 1, 1) := by decide +kernel
theorem dX11_character_5 : decode cX11_character 5 = .ok (.invokevirtual 293, 3) := by decide +kernel
theorem dX11_character_8 : decode cX11_character 8 = .ok (.iconst (-1), 1) := by decide +kernel
theorem dX11_character_9 : decode cX11_character 9 = .ok (.if_icmp .ne 14, 3) := by decide +kernel
theorem dX11_character_12 : decode cX11_character 12 = .ok (.new 176, 3) := by decide +kernel
theorem dX11_character_15 : decode cX11_character 15 = .ok (.dup, 1) := by decide +kernel
theorem dX11_character_16 : decode cX11_character 16 = .ok (.ldc_w 296, 3) := by decide +kernel
theorem dX11_character_19 : decode cX11_character 19 = .ok (.invokespecial 180, 3) := by decide +kernel
theorem dX11_character_22 : decode cX11_character 22 = .ok (.athrow, 1) := by decide +kernel
theorem dX11_character_23 : decode cX11_character 23 = .ok (.aload_n 0, 1) := by decide +kernel
theorem dX11_character_24 : decode cX11_character 24 = .ok (.getfield 53, 3) := by decide +kernel
theorem dX11_character_27 : decode cX11_character 27 = .ok (.iload_n 1, 1) := by decide +kernel
theorem dX11_character_28 : decode cX11_character 28 = .ok (.invokevirtual 293, 3) := by decide +kernel
theorem dX11_character_31 : decode cX11_character 31 = .ok (.i2c, 1) := by decide +kernel
theorem dX11_character_32 : decode cX11_character 32 = .ok (.ireturn, 1) := by decide +kernel
theorem dX11_meanWrong_0 : decode cX11_meanWrong 0 = .ok (.aload_n 0, 1) := by decide +kernel
theorem dX11_meanWrong_1 : decode cX11_meanWrong 1 = .ok (.getfield 10, 3) := by decide +kernel
theorem dX11_meanWrong_4 : decode cX11_meanWrong 4 = .ok (.getfield 236, 3) := by decide +kernel
theorem dX11_meanWrong_7 : decode cX11_meanWrong 7 = .ok (.ifCond .ne 13, 3) := by decide +kernel
theorem dX11_meanWrong_10 : decode cX11_meanWrong 10 = .ok (.new 298, 3) := by decide +kernel
theorem dX11_meanWrong_13 : decode cX11_meanWrong 13 = .ok (.dup, 1) := by decide +kernel
theorem dX11_meanWrong_14 : decode cX11_meanWrong 14 = .ok (.ldc 239, 2) := by decide +kernel
theorem dX11_meanWrong_16 : decode cX11_meanWrong 16 = .ok (.invokespecial 300, 3) := by decide +kernel
theorem dX11_meanWrong_19 : decode cX11_meanWrong 19 = .ok (.athrow, 1) := by decide +kernel
theorem dX11_meanWrong_20 : decode cX11_meanWrong 20 = .ok (.aload_n 0, 1) := by decide +kernel
theorem dX11_meanWrong_21 : decode cX11_meanWrong 21 = .ok (.getfield 10, 3) := by decide +kernel
theorem dX11_meanWrong_24 : decode cX11_meanWrong 24 = .ok (.aload_n 0, 1) := by decide +kernel
theorem dX11_meanWrong_25 : decode cX11_meanWrong 25 = .ok (.getfield 10, 3) := by decide +kernel
theorem dX11_meanWrong_28 : decode cX11_meanWrong 28 = .ok (.getfield 168, 3) := by decide +kernel
theorem dX11_meanWrong_31 : decode cX11_meanWrong 31 = .ok (.invokestatic 233, 3) := by decide +kernel
theorem dX11_meanWrong_34 : decode cX11_meanWrong 34 = .ok (.i2d, 1) := by decide +kernel
theorem dX11_meanWrong_35 : decode cX11_meanWrong 35 = .ok (.aload_n 0, 1) := by decide +kernel
theorem dX11_meanWrong_36 : decode cX11_meanWrong 36 = .ok (.getfield 10, 3) := by decide +kernel
theorem dX11_meanWrong_39 : decode cX11_meanWrong 39 = .ok (.getfield 236, 3) := by decide +kernel
theorem dX11_meanWrong_42 : decode cX11_meanWrong 42 = .ok (.i2d, 1) := by decide +kernel
theorem dX11_meanWrong_43 : decode cX11_meanWrong 43 = .ok (.ddiv, 1) := by decide +kernel
theorem dX11_meanWrong_44 : decode cX11_meanWrong 44 = .ok (.dreturn, 1) := by decide +kernel
theorem dX11_ownedShare_0 : decode cX11_ownedShare 0 = .ok (.aload_n 0, 1) := by decide +kernel
theorem dX11_ownedShare_1 : decode cX11_ownedShare 1 = .ok (.getfield 10, 3) := by decide +kernel
theorem dX11_ownedShare_4 : decode cX11_ownedShare 4 = .ok (.invokevirtual 301, 3) := by decide +kernel
theorem dX11_ownedShare_7 : decode cX11_ownedShare 7 = .ok (.i2f, 1) := by decide +kernel
theorem dX11_ownedShare_8 : decode cX11_ownedShare 8 = .ok (.ldc_w 304, 3) := by decide +kernel
theorem dX11_ownedShare_11 : decode cX11_ownedShare 11 = .ok (.fdiv, 1) := by decide +kernel
theorem dX11_ownedShare_12 : decode cX11_ownedShare 12 = .ok (.freturn, 1) := by decide +kernel
theorem dX11_account_0 : decode cX11_account 0 = .ok (.iload_n 1, 1) := by decide +kernel
theorem dX11_account_1 : decode cX11_account 1 = .ok (.tableswitch 147 0 10 #[59, 67, 75, 83, 91, 99, 107, 115, 123, 131, 139], 59) := by decide +kernel
theorem dX11_account_60 : decode cX11_account 60 = .ok (.aload_n 0, 1) := by decide +kernel
theorem dX11_account_61 : decode cX11_account 61 = .ok (.getfield 10, 3) := by decide +kernel
theorem dX11_account_64 : decode cX11_account 64 = .ok (.invokevirtual 301, 3) := by decide +kernel
theorem dX11_account_67 : decode cX11_account 67 = .ok (.ireturn, 1) := by decide +kernel
theorem dX11_account_68 : decode cX11_account 68 = .ok (.aload_n 0, 1) := by decide +kernel
theorem dX11_account_69 : decode cX11_account 69 = .ok (.getfield 10, 3) := by decide +kernel
theorem dX11_account_72 : decode cX11_account 72 = .ok (.getfield 236, 3) := by decide +kernel
theorem dX11_account_75 : decode cX11_account 75 = .ok (.ireturn, 1) := by decide +kernel
theorem dX11_account_76 : decode cX11_account 76 = .ok (.aload_n 0, 1) := by decide +kernel
theorem dX11_account_77 : decode cX11_account 77 = .ok (.getfield 10, 3) := by decide +kernel
theorem dX11_account_80 : decode cX11_account 80 = .ok (.getfield 305, 3) := by decide +kernel
theorem dX11_account_83 : decode cX11_account 83 = .ok (.ireturn, 1) := by decide +kernel
theorem dX11_account_84 : decode cX11_account 84 = .ok (.aload_n 0, 1) := by decide +kernel
theorem dX11_account_85 : decode cX11_account 85 = .ok (.getfield 10, 3) := by decide +kernel
theorem dX11_account_88 : decode cX11_account 88 = .ok (.invokevirtual 308, 3) := by decide +kernel
theorem dX11_account_91 : decode cX11_account 91 = .ok (.ireturn, 1) := by decide +kernel
theorem dX11_account_92 : decode cX11_account 92 = .ok (.aload_n 0, 1) := by decide +kernel
theorem dX11_account_93 : decode cX11_account 93 = .ok (.getfield 10, 3) := by decide +kernel
theorem dX11_account_96 : decode cX11_account 96 = .ok (.getfield 168, 3) := by decide +kernel
theorem dX11_account_99 : decode cX11_account 99 = .ok (.ireturn, 1) := by decide +kernel
theorem dX11_account_100 : decode cX11_account 100 = .ok (.aload_n 0, 1) := by decide +kernel
theorem dX11_account_101 : decode cX11_account 101 = .ok (.getfield 10, 3) := by decide +kernel
theorem dX11_account_104 : decode cX11_account 104 = .ok (.getfield 311, 3) := by decide +kernel
theorem dX11_account_107 : decode cX11_account 107 = .ok (.ireturn, 1) := by decide +kernel
theorem dX11_account_108 : decode cX11_account 108 = .ok (.aload_n 0, 1) := by decide +kernel
theorem dX11_account_109 : decode cX11_account 109 = .ok (.getfield 10, 3) := by decide +kernel
theorem dX11_account_112 : decode cX11_account 112 = .ok (.getfield 314, 3) := by decide +kernel
theorem dX11_account_115 : decode cX11_account 115 = .ok (.ireturn, 1) := by decide +kernel
theorem dX11_account_116 : decode cX11_account 116 = .ok (.aload_n 0, 1) := by decide +kernel
theorem dX11_account_117 : decode cX11_account 117 = .ok (.getfield 10, 3) := by decide +kernel
theorem dX11_account_120 : decode cX11_account 120 = .ok (.getfield 317, 3) := by decide +kernel
theorem dX11_account_123 : decode cX11_account 123 = .ok (.ireturn, 1) := by decide +kernel
theorem dX11_account_124 : decode cX11_account 124 = .ok (.aload_n 0, 1) := by decide +kernel
theorem dX11_account_125 : decode cX11_account 125 = .ok (.getfield 10, 3) := by decide +kernel
theorem dX11_account_128 : decode cX11_account 128 = .ok (.getfield 320, 3) := by decide +kernel
theorem dX11_account_131 : decode cX11_account 131 = .ok (.ireturn, 1) := by decide +kernel
theorem dX11_account_132 : decode cX11_account 132 = .ok (.aload_n 0, 1) := by decide +kernel
theorem dX11_account_133 : decode cX11_account 133 = .ok (.getfield 47, 3) := by decide +kernel
theorem dX11_account_136 : decode cX11_account 136 = .ok (.getfield 280, 3) := by decide +kernel
theorem dX11_account_139 : decode cX11_account 139 = .ok (.ireturn, 1) := by decide +kernel
theorem dX11_account_140 : decode cX11_account 140 = .ok (.aload_n 0, 1) := by decide +kernel
theorem dX11_account_141 : decode cX11_account 141 = .ok (.getfield 25, 3) := by decide +kernel
theorem dX11_account_144 : decode cX11_account 144 = .ok (.getfield 323, 3) := by decide +kernel
theorem dX11_account_147 : decode cX11_account 147 = .ok (.ireturn, 1) := by decide +kernel
theorem dX11_account_148 : decode cX11_account 148 = .ok (.new 82, 3) := by decide +kernel
theorem dX11_account_151 : decode cX11_account 151 = .ok (.dup, 1) := by decide +kernel
theorem dX11_account_152 : decode cX11_account 152 = .ok (.ldc_w 326, 3) := by decide +kernel
theorem dX11_account_155 : decode cX11_account 155 = .ok (.invokespecial 86, 3) := by decide +kernel
theorem dX11_account_158 : decode cX11_account 158 = .ok (.athrow, 1) := by decide +kernel
theorem dX11_append_0 : decode cX11_append 0 = .ok (.iload_n 1, 1) := by decide +kernel
theorem dX11_append_1 : decode cX11_append 1 = .ok (.bipush 32, 2) := by decide +kernel
theorem dX11_append_3 : decode cX11_append 3 = .ok (.if_icmp .lt 9, 3) := by decide +kernel
theorem dX11_append_6 : decode cX11_append 6 = .ok (.iload_n 1, 1) := by decide +kernel
theorem dX11_append_7 : decode cX11_append 7 = .ok (.bipush 126, 2) := by decide +kernel
theorem dX11_append_9 : decode cX11_append 9 = .ok (.if_icmp .le 14, 3) := by decide +kernel
theorem dX11_append_12 : decode cX11_append 12 = .ok (.new 82, 3) := by decide +kernel
theorem dX11_append_15 : decode cX11_append 15 = .ok (.dup, 1) := by decide +kernel
theorem dX11_append_16 : decode cX11_append 16 = .ok (.ldc_w 328, 3) := by decide +kernel
theorem dX11_append_19 : decode cX11_append 19 = .ok (.invokespecial 86, 3) := by decide +kernel
theorem dX11_append_22 : decode cX11_append 22 = .ok (.athrow, 1) := by decide +kernel
theorem dX11_append_23 : decode cX11_append 23 = .ok (.aload_n 0, 1) := by decide +kernel
theorem dX11_append_24 : decode cX11_append 24 = .ok (.getfield 47, 3) := by decide +kernel
theorem dX11_append_27 : decode cX11_append 27 = .ok (.getfield 280, 3) := by decide +kernel
theorem dX11_append_30 : decode cX11_append 30 = .ok (.bipush 60, 2) := by decide +kernel
theorem dX11_append_32 : decode cX11_append 32 = .ok (.if_icmp .lt 14, 3) := by decide +kernel
theorem dX11_append_35 : decode cX11_append 35 = .ok (.new 114, 3) := by decide +kernel
theorem dX11_append_38 : decode cX11_append 38 = .ok (.dup, 1) := by decide +kernel
theorem dX11_append_39 : decode cX11_append 39 = .ok (.ldc_w 330, 3) := by decide +kernel
theorem dX11_append_42 : decode cX11_append 42 = .ok (.invokespecial 118, 3) := by decide +kernel
theorem dX11_append_45 : decode cX11_append 45 = .ok (.athrow, 1) := by decide +kernel
theorem dX11_append_46 : decode cX11_append 46 = .ok (.aload_n 0, 1) := by decide +kernel
theorem dX11_append_47 : decode cX11_append 47 = .ok (.getfield 47, 3) := by decide +kernel
theorem dX11_append_50 : decode cX11_append 50 = .ok (.iload_n 1, 1) := by decide +kernel
theorem dX11_append_51 : decode cX11_append 51 = .ok (.invokevirtual 276, 3) := by decide +kernel
theorem dX11_append_54 : decode cX11_append 54 = .ok (.aload_n 0, 1) := by decide +kernel
theorem dX11_append_55 : decode cX11_append 55 = .ok (.getfield 47, 3) := by decide +kernel
theorem dX11_append_58 : decode cX11_append 58 = .ok (.getfield 280, 3) := by decide +kernel
theorem dX11_append_61 : decode cX11_append 61 = .ok (.ireturn, 1) := by decide +kernel
theorem dX11_read_0 : decode cX11_read 0 = .ok (.aload_n 0, 1) := by decide +kernel
theorem dX11_read_1 : decode cX11_read 1 = .ok (.getfield 39, 3) := by decide +kernel
theorem dX11_read_4 : decode cX11_read 4 = .ok (.aload_n 0, 1) := by decide +kernel
theorem dX11_read_5 : decode cX11_read 5 = .ok (.getfield 32, 3) := by decide +kernel
theorem dX11_read_8 : decode cX11_read 8 = .ok (.invokevirtual 332, 3) := by decide +kernel
theorem dX11_read_11 : decode cX11_read 11 = .ok (.istore_n 1, 1) := by decide +kernel
theorem dX11_read_12 : decode cX11_read 12 = .ok (.iload_n 1, 1) := by decide +kernel
theorem dX11_read_13 : decode cX11_read 13 = .ok (.iconst (-1), 1) := by decide +kernel
theorem dX11_read_14 : decode cX11_read 14 = .ok (.if_icmp .eq 26, 3) := by decide +kernel
theorem dX11_read_17 : decode cX11_read 17 = .ok (.aload_n 0, 1) := by decide +kernel
theorem dX11_read_18 : decode cX11_read 18 = .ok (.iload_n 1, 1) := by decide +kernel
theorem dX11_read_19 : decode cX11_read 19 = .ok (.putfield 70, 3) := by decide +kernel
theorem dX11_read_22 : decode cX11_read 22 = .ok (.aload_n 0, 1) := by decide +kernel
theorem dX11_read_23 : decode cX11_read 23 = .ok (.getfield 47, 3) := by decide +kernel
theorem dX11_read_26 : decode cX11_read 26 = .ok (.invokevirtual 109, 3) := by decide +kernel
theorem dX11_read_29 : decode cX11_read 29 = .ok (.new 82, 3) := by decide +kernel
theorem dX11_read_32 : decode cX11_read 32 = .ok (.dup, 1) := by decide +kernel
theorem dX11_read_33 : decode cX11_read 33 = .ok (.ldc_w 336, 3) := by decide +kernel
theorem dX11_read_36 : decode cX11_read 36 = .ok (.invokespecial 86, 3) := by decide +kernel
theorem dX11_read_39 : decode cX11_read 39 = .ok (.athrow, 1) := by decide +kernel
theorem dX11_read_40 : decode cX11_read 40 = .ok (.aload_n 0, 1) := by decide +kernel
theorem dX11_read_41 : decode cX11_read 41 = .ok (.getfield 16, 3) := by decide +kernel
theorem dX11_read_44 : decode cX11_read 44 = .ok (.aload_n 0, 1) := by decide +kernel
theorem dX11_read_45 : decode cX11_read 45 = .ok (.getfield 10, 3) := by decide +kernel
theorem dX11_read_48 : decode cX11_read 48 = .ok (.invokevirtual 338, 3) := by decide +kernel
theorem dX11_read_51 : decode cX11_read 51 = .ok (.aload_n 0, 1) := by decide +kernel
theorem dX11_read_52 : decode cX11_read 52 = .ok (.invokevirtual 342, 3) := by decide +kernel
theorem dX11_read_55 : decode cX11_read 55 = .ok (.istore_n 2, 1) := by decide +kernel
theorem dX11_read_56 : decode cX11_read 56 = .ok (.aload_n 0, 1) := by decide +kernel
theorem dX11_read_57 : decode cX11_read 57 = .ok (.getfield 47, 3) := by decide +kernel
theorem dX11_read_60 : decode cX11_read 60 = .ok (.invokevirtual 109, 3) := by decide +kernel
theorem dX11_read_63 : decode cX11_read 63 = .ok (.iload_n 2, 1) := by decide +kernel
theorem dX11_read_64 : decode cX11_read 64 = .ok (.ifCond .ge 14, 3) := by decide +kernel
theorem dX11_read_67 : decode cX11_read 67 = .ok (.aload_n 0, 1) := by decide +kernel
theorem dX11_read_68 : decode cX11_read 68 = .ok (.getfield 10, 3) := by decide +kernel
theorem dX11_read_71 : decode cX11_read 71 = .ok (.aload_n 0, 1) := by decide +kernel
theorem dX11_read_72 : decode cX11_read 72 = .ok (.getfield 16, 3) := by decide +kernel
theorem dX11_read_75 : decode cX11_read 75 = .ok (.invokevirtual 338, 3) := by decide +kernel
theorem dX11_read_78 : decode cX11_read 78 = .ok (.iload_n 2, 1) := by decide +kernel
theorem dX11_read_79 : decode cX11_read 79 = .ok (.iconst (-1), 1) := by decide +kernel
theorem dX11_read_80 : decode cX11_read 80 = .ok (.if_icmp .ne 14, 3) := by decide +kernel
theorem dX11_read_83 : decode cX11_read 83 = .ok (.new 114, 3) := by decide +kernel
theorem dX11_read_86 : decode cX11_read 86 = .ok (.dup, 1) := by decide +kernel
theorem dX11_read_87 : decode cX11_read 87 = .ok (.ldc_w 345, 3) := by decide +kernel
theorem dX11_read_90 : decode cX11_read 90 = .ok (.invokespecial 118, 3) := by decide +kernel
theorem dX11_read_93 : decode cX11_read 93 = .ok (.athrow, 1) := by decide +kernel
theorem dX11_read_94 : decode cX11_read 94 = .ok (.iload_n 2, 1) := by decide +kernel
theorem dX11_read_95 : decode cX11_read 95 = .ok (.bipush (-2), 2) := by decide +kernel
theorem dX11_read_97 : decode cX11_read 97 = .ok (.if_icmp .ne 14, 3) := by decide +kernel
theorem dX11_read_100 : decode cX11_read 100 = .ok (.new 347, 3) := by decide +kernel
theorem dX11_read_103 : decode cX11_read 103 = .ok (.dup, 1) := by decide +kernel
theorem dX11_read_104 : decode cX11_read 104 = .ok (.ldc_w 349, 3) := by decide +kernel
theorem dX11_read_107 : decode cX11_read 107 = .ok (.invokespecial 351, 3) := by decide +kernel
theorem dX11_read_110 : decode cX11_read 110 = .ok (.athrow, 1) := by decide +kernel
theorem dX11_read_111 : decode cX11_read 111 = .ok (.aload_n 0, 1) := by decide +kernel
theorem dX11_read_112 : decode cX11_read 112 = .ok (.getfield 25, 3) := by decide +kernel
theorem dX11_read_115 : decode cX11_read 115 = .ok (.aload_n 0, 1) := by decide +kernel
theorem dX11_read_116 : decode cX11_read 116 = .ok (.getfield 16, 3) := by decide +kernel
theorem dX11_read_119 : decode cX11_read 119 = .ok (.invokevirtual 352, 3) := by decide +kernel
theorem dX11_read_122 : decode cX11_read 122 = .ok (.iload_n 2, 1) := by decide +kernel
theorem dX11_read_123 : decode cX11_read 123 = .ok (.ireturn, 1) := by decide +kernel
theorem dX11_reason_0 : decode cX11_reason 0 = .ok (.iload_n 1, 1) := by decide +kernel
theorem dX11_reason_1 : decode cX11_reason 1 = .ok (.ifCond .lt 8, 3) := by decide +kernel
theorem dX11_reason_4 : decode cX11_reason 4 = .ok (.iload_n 1, 1) := by decide +kernel
theorem dX11_reason_5 : decode cX11_reason 5 = .ok (.iconst 3, 1) := by decide +kernel
theorem dX11_reason_6 : decode cX11_reason 6 = .ok (.if_icmp .lt 14, 3) := by decide +kernel
theorem dX11_reason_9 : decode cX11_reason 9 = .ok (.new 82, 3) := by decide +kernel
theorem dX11_reason_12 : decode cX11_reason 12 = .ok (.dup, 1) := by decide +kernel
theorem dX11_reason_13 : decode cX11_reason 13 = .ok (.ldc_w 357, 3) := by decide +kernel
theorem dX11_reason_16 : decode cX11_reason 16 = .ok (.invokespecial 86, 3) := by decide +kernel
theorem dX11_reason_19 : decode cX11_reason 19 = .ok (.athrow, 1) := by decide +kernel
theorem dX11_reason_20 : decode cX11_reason 20 = .ok (.iload_n 1, 1) := by decide +kernel
theorem dX11_reason_21 : decode cX11_reason 21 = .ok (.aload_n 0, 1) := by decide +kernel
theorem dX11_reason_22 : decode cX11_reason 22 = .ok (.getfield 59, 3) := by decide +kernel
theorem dX11_reason_25 : decode cX11_reason 25 = .ok (.getfield 359, 3) := by decide +kernel
theorem dX11_reason_28 : decode cX11_reason 28 = .ok (.if_icmp .lt 14, 3) := by decide +kernel
theorem dX11_reason_31 : decode cX11_reason 31 = .ok (.new 176, 3) := by decide +kernel
theorem dX11_reason_34 : decode cX11_reason 34 = .ok (.dup, 1) := by decide +kernel
theorem dX11_reason_35 : decode cX11_reason 35 = .ok (.ldc_w 360, 3) := by decide +kernel
theorem dX11_reason_38 : decode cX11_reason 38 = .ok (.invokespecial 180, 3) := by decide +kernel
theorem dX11_reason_41 : decode cX11_reason 41 = .ok (.athrow, 1) := by decide +kernel
theorem dX11_reason_42 : decode cX11_reason 42 = .ok (.iload_n 2, 1) := by decide +kernel
theorem dX11_reason_43 : decode cX11_reason 43 = .ok (.ifCond .eq 15, 3) := by decide +kernel
theorem dX11_reason_46 : decode cX11_reason 46 = .ok (.aload_n 0, 1) := by decide +kernel
theorem dX11_reason_47 : decode cX11_reason 47 = .ok (.getfield 59, 3) := by decide +kernel
theorem dX11_reason_50 : decode cX11_reason 50 = .ok (.getfield 362, 3) := by decide +kernel
theorem dX11_reason_53 : decode cX11_reason 53 = .ok (.iload_n 1, 1) := by decide +kernel
theorem dX11_reason_54 : decode cX11_reason 54 = .ok (.iaload, 1) := by decide +kernel
theorem dX11_reason_55 : decode cX11_reason 55 = .ok (.goto 12, 3) := by decide +kernel
theorem dX11_reason_58 : decode cX11_reason 58 = .ok (.aload_n 0, 1) := by decide +kernel
theorem dX11_reason_59 : decode cX11_reason 59 = .ok (.getfield 59, 3) := by decide +kernel
theorem dX11_reason_62 : decode cX11_reason 62 = .ok (.getfield 365, 3) := by decide +kernel
theorem dX11_reason_65 : decode cX11_reason 65 = .ok (.iload_n 1, 1) := by decide +kernel
theorem dX11_reason_66 : decode cX11_reason 66 = .ok (.iaload, 1) := by decide +kernel
theorem dX11_reason_67 : decode cX11_reason 67 = .ok (.ireturn, 1) := by decide +kernel
theorem dX11_undo_0 : decode cX11_undo 0 = .ok (.aload_n 0, 1) := by decide +kernel
theorem dX11_undo_1 : decode cX11_undo 1 = .ok (.getfield 25, 3) := by decide +kernel
theorem dX11_undo_4 : decode cX11_undo 4 = .ok (.getfield 323, 3) := by decide +kernel
theorem dX11_undo_7 : decode cX11_undo 7 = .ok (.ifCond .ne 14, 3) := by decide +kernel
theorem dX11_undo_10 : decode cX11_undo 10 = .ok (.new 176, 3) := by decide +kernel
theorem dX11_undo_13 : decode cX11_undo 13 = .ok (.dup, 1) := by decide +kernel
theorem dX11_undo_14 : decode cX11_undo 14 = .ok (.ldc_w 368, 3) := by decide +kernel
theorem dX11_undo_17 : decode cX11_undo 17 = .ok (.invokespecial 180, 3) := by decide +kernel
theorem dX11_undo_20 : decode cX11_undo 20 = .ok (.athrow, 1) := by decide +kernel
theorem dX11_undo_21 : decode cX11_undo 21 = .ok (.aload_n 0, 1) := by decide +kernel
theorem dX11_undo_22 : decode cX11_undo 22 = .ok (.getfield 25, 3) := by decide +kernel
theorem dX11_undo_25 : decode cX11_undo 25 = .ok (.aload_n 0, 1) := by decide +kernel
theorem dX11_undo_26 : decode cX11_undo 26 = .ok (.getfield 10, 3) := by decide +kernel
theorem dX11_undo_29 : decode cX11_undo 29 = .ok (.invokevirtual 370, 3) := by decide +kernel
theorem dX11_undo_32 : decode cX11_undo 32 = .ok (.aload_n 0, 1) := by decide +kernel
theorem dX11_undo_33 : decode cX11_undo 33 = .ok (.getfield 25, 3) := by decide +kernel
theorem dX11_undo_36 : decode cX11_undo 36 = .ok (.getfield 323, 3) := by decide +kernel
theorem dX11_undo_39 : decode cX11_undo 39 = .ok (.ireturn, 1) := by decide +kernel
theorem dX11_isCell_0 : decode cX11_isCell 0 = .ok (.iload_n 0, 1) := by decide +kernel
theorem dX11_isCell_1 : decode cX11_isCell 1 = .ok (.ifCond .lt 13, 3) := by decide +kernel
theorem dX11_isCell_4 : decode cX11_isCell 4 = .ok (.iload_n 0, 1) := by decide +kernel
theorem dX11_isCell_5 : decode cX11_isCell 5 = .ok (.bipush 64, 2) := by decide +kernel
theorem dX11_isCell_7 : decode cX11_isCell 7 = .ok (.if_icmp .ge 7, 3) := by decide +kernel
theorem dX11_isCell_10 : decode cX11_isCell 10 = .ok (.iconst 1, 1) := by decide +kernel
theorem dX11_isCell_11 : decode cX11_isCell 11 = .ok (.goto 4, 3) := by decide +kernel
theorem dX11_isCell_14 : decode cX11_isCell 14 = .ok (.iconst 0, 1) := by decide +kernel
theorem dX11_isCell_15 : decode cX11_isCell 15 = .ok (.ireturn, 1) := by decide +kernel
theorem dX11_isRealm_0 : decode cX11_isRealm 0 = .ok (.iload_n 0, 1) := by decide +kernel
theorem dX11_isRealm_1 : decode cX11_isRealm 1 = .ok (.ifCond .lt 12, 3) := by decide +kernel
theorem dX11_isRealm_4 : decode cX11_isRealm 4 = .ok (.iload_n 0, 1) := by decide +kernel
theorem dX11_isRealm_5 : decode cX11_isRealm 5 = .ok (.iconst 4, 1) := by decide +kernel
theorem dX11_isRealm_6 : decode cX11_isRealm 6 = .ok (.if_icmp .ge 7, 3) := by decide +kernel
theorem dX11_isRealm_9 : decode cX11_isRealm 9 = .ok (.iconst 1, 1) := by decide +kernel
theorem dX11_isRealm_10 : decode cX11_isRealm 10 = .ok (.goto 4, 3) := by decide +kernel
theorem dX11_isRealm_13 : decode cX11_isRealm 13 = .ok (.iconst 0, 1) := by decide +kernel
theorem dX11_isRealm_14 : decode cX11_isRealm 14 = .ok (.ireturn, 1) := by decide +kernel
theorem dX11_isScale_0 : decode cX11_isScale 0 = .ok (.iload_n 0, 1) := by decide +kernel
theorem dX11_isScale_1 : decode cX11_isScale 1 = .ok (.iconst 1, 1) := by decide +kernel
theorem dX11_isScale_2 : decode cX11_isScale 2 = .ok (.if_icmp .lt 13, 3) := by decide +kernel
theorem dX11_isScale_5 : decode cX11_isScale 5 = .ok (.iload_n 0, 1) := by decide +kernel
theorem dX11_isScale_6 : decode cX11_isScale 6 = .ok (.bipush 9, 2) := by decide +kernel
theorem dX11_isScale_8 : decode cX11_isScale 8 = .ok (.if_icmp .gt 7, 3) := by decide +kernel
theorem dX11_isScale_11 : decode cX11_isScale 11 = .ok (.iconst 1, 1) := by decide +kernel
theorem dX11_isScale_12 : decode cX11_isScale 12 = .ok (.goto 4, 3) := by decide +kernel
theorem dX11_isScale_15 : decode cX11_isScale 15 = .ok (.iconst 0, 1) := by decide +kernel
theorem dX11_isScale_16 : decode cX11_isScale 16 = .ok (.ireturn, 1) := by decide +kernel
theorem dX11_isPrice_0 : decode cX11_isPrice 0 = .ok (.iload_n 0, 1) := by decide +kernel
theorem dX11_isPrice_1 : decode cX11_isPrice 1 = .ok (.iconst 1, 1) := by decide +kernel
theorem dX11_isPrice_2 : decode cX11_isPrice 2 = .ok (.if_icmp .lt 13, 3) := by decide +kernel
theorem dX11_isPrice_5 : decode cX11_isPrice 5 = .ok (.iload_n 0, 1) := by decide +kernel
theorem dX11_isPrice_6 : decode cX11_isPrice 6 = .ok (.bipush 50, 2) := by decide +kernel
theorem dX11_isPrice_8 : decode cX11_isPrice 8 = .ok (.if_icmp .gt 7, 3) := by decide +kernel
theorem dX11_isPrice_11 : decode cX11_isPrice 11 = .ok (.iconst 1, 1) := by decide +kernel
theorem dX11_isPrice_12 : decode cX11_isPrice 12 = .ok (.goto 4, 3) := by decide +kernel
theorem dX11_isPrice_15 : decode cX11_isPrice 15 = .ok (.iconst 0, 1) := by decide +kernel
theorem dX11_isPrice_16 : decode cX11_isPrice 16 = .ok (.ireturn, 1) := by decide +kernel
theorem dX11_needCell_0 : decode cX11_needCell 0 = .ok (.iload_n 0, 1) := by decide +kernel
theorem dX11_needCell_1 : decode cX11_needCell 1 = .ok (.invokestatic 382, 3) := by decide +kernel
theorem dX11_needCell_4 : decode cX11_needCell 4 = .ok (.ifCond .ne 14, 3) := by decide +kernel
theorem dX11_needCell_7 : decode cX11_needCell 7 = .ok (.new 267, 3) := by decide +kernel
theorem dX11_needCell_10 : decode cX11_needCell 10 = .ok (.dup, 1) := by decide +kernel
theorem dX11_needCell_11 : decode cX11_needCell 11 = .ok (.ldc_w 385, 3) := by decide +kernel
theorem dX11_needCell_14 : decode cX11_needCell 14 = .ok (.invokespecial 271, 3) := by decide +kernel
theorem dX11_needCell_17 : decode cX11_needCell 17 = .ok (.athrow, 1) := by decide +kernel
theorem dX11_needCell_18 : decode cX11_needCell 18 = .ok (.return_, 1) := by decide +kernel
theorem dX11_needRealm_0 : decode cX11_needRealm 0 = .ok (.iload_n 0, 1) := by decide +kernel
theorem dX11_needRealm_1 : decode cX11_needRealm 1 = .ok (.invokestatic 78, 3) := by decide +kernel
theorem dX11_needRealm_4 : decode cX11_needRealm 4 = .ok (.ifCond .ne 13, 3) := by decide +kernel
theorem dX11_needRealm_7 : decode cX11_needRealm 7 = .ok (.new 267, 3) := by decide +kernel
theorem dX11_needRealm_10 : decode cX11_needRealm 10 = .ok (.dup, 1) := by decide +kernel
theorem dX11_needRealm_11 : decode cX11_needRealm 11 = .ok (.ldc 84, 2) := by decide +kernel
theorem dX11_needRealm_13 : decode cX11_needRealm 13 = .ok (.invokespecial 271, 3) := by decide +kernel
theorem dX11_needRealm_16 : decode cX11_needRealm 16 = .ok (.athrow, 1) := by decide +kernel
theorem dX11_needRealm_17 : decode cX11_needRealm 17 = .ok (.return_, 1) := by decide +kernel
theorem dX11_needCrease_0 : decode cX11_needCrease 0 = .ok (.iload_n 0, 1) := by decide +kernel
theorem dX11_needCrease_1 : decode cX11_needCrease 1 = .ok (.iconst 1, 1) := by decide +kernel
theorem dX11_needCrease_2 : decode cX11_needCrease 2 = .ok (.if_icmp .lt 9, 3) := by decide +kernel
theorem dX11_needCrease_5 : decode cX11_needCrease 5 = .ok (.iload_n 0, 1) := by decide +kernel
theorem dX11_needCrease_6 : decode cX11_needCrease 6 = .ok (.bipush 8, 2) := by decide +kernel
theorem dX11_needCrease_8 : decode cX11_needCrease 8 = .ok (.if_icmp .lt 14, 3) := by decide +kernel
theorem dX11_needCrease_11 : decode cX11_needCrease 11 = .ok (.new 82, 3) := by decide +kernel
theorem dX11_needCrease_14 : decode cX11_needCrease 14 = .ok (.dup, 1) := by decide +kernel
theorem dX11_needCrease_15 : decode cX11_needCrease 15 = .ok (.ldc_w 387, 3) := by decide +kernel
theorem dX11_needCrease_18 : decode cX11_needCrease 18 = .ok (.invokespecial 86, 3) := by decide +kernel
theorem dX11_needCrease_21 : decode cX11_needCrease 21 = .ok (.athrow, 1) := by decide +kernel
theorem dX11_needCrease_22 : decode cX11_needCrease 22 = .ok (.return_, 1) := by decide +kernel
theorem dX11_needRiver_0 : decode cX11_needRiver 0 = .ok (.aload_n 0, 1) := by decide +kernel
theorem dX11_needRiver_1 : decode cX11_needRiver 1 = .ok (.getfield 10, 3) := by decide +kernel
theorem dX11_needRiver_4 : decode cX11_needRiver 4 = .ok (.iload_n 1, 1) := by decide +kernel
theorem dX11_needRiver_5 : decode cX11_needRiver 5 = .ok (.invokevirtual 389, 3) := by decide +kernel
theorem dX11_needRiver_8 : decode cX11_needRiver 8 = .ok (.ifCond .ne 14, 3) := by decide +kernel
theorem dX11_needRiver_11 : decode cX11_needRiver 11 = .ok (.new 267, 3) := by decide +kernel
theorem dX11_needRiver_14 : decode cX11_needRiver 14 = .ok (.dup, 1) := by decide +kernel
theorem dX11_needRiver_15 : decode cX11_needRiver 15 = .ok (.ldc_w 392, 3) := by decide +kernel
theorem dX11_needRiver_18 : decode cX11_needRiver 18 = .ok (.invokespecial 271, 3) := by decide +kernel
theorem dX11_needRiver_21 : decode cX11_needRiver 21 = .ok (.athrow, 1) := by decide +kernel
theorem dX11_needRiver_22 : decode cX11_needRiver 22 = .ok (.return_, 1) := by decide +kernel
theorem dX11_needDragon_0 : decode cX11_needDragon 0 = .ok (.aload_n 0, 1) := by decide +kernel
theorem dX11_needDragon_1 : decode cX11_needDragon 1 = .ok (.getfield 10, 3) := by decide +kernel
theorem dX11_needDragon_4 : decode cX11_needDragon 4 = .ok (.iload_n 1, 1) := by decide +kernel
theorem dX11_needDragon_5 : decode cX11_needDragon 5 = .ok (.invokevirtual 394, 3) := by decide +kernel
theorem dX11_needDragon_8 : decode cX11_needDragon 8 = .ok (.ifCond .ne 14, 3) := by decide +kernel
theorem dX11_needDragon_11 : decode cX11_needDragon 11 = .ok (.new 267, 3) := by decide +kernel
theorem dX11_needDragon_14 : decode cX11_needDragon 14 = .ok (.dup, 1) := by decide +kernel
theorem dX11_needDragon_15 : decode cX11_needDragon 15 = .ok (.ldc_w 397, 3) := by decide +kernel
theorem dX11_needDragon_18 : decode cX11_needDragon 18 = .ok (.invokespecial 271, 3) := by decide +kernel
theorem dX11_needDragon_21 : decode cX11_needDragon 21 = .ok (.athrow, 1) := by decide +kernel
theorem dX11_needDragon_22 : decode cX11_needDragon 22 = .ok (.return_, 1) := by decide +kernel
theorem dX11_change_0 : decode cX11_change 0 = .ok (.aload_n 0, 1) := by decide +kernel
theorem dX11_change_1 : decode cX11_change 1 = .ok (.getfield 10, 3) := by decide +kernel
theorem dX11_change_4 : decode cX11_change 4 = .ok (.aload_n 0, 1) := by decide +kernel
theorem dX11_change_5 : decode cX11_change 5 = .ok (.getfield 32, 3) := by decide +kernel
theorem dX11_change_8 : decode cX11_change 8 = .ok (.invokestatic 399, 3) := by decide +kernel
theorem dX11_change_11 : decode cX11_change 11 = .ok (.istore_n 1, 1) := by decide +kernel
theorem dX11_change_12 : decode cX11_change 12 = .ok (.iload_n 1, 1) := by decide +kernel
theorem dX11_change_13 : decode cX11_change 13 = .ok (.ifCond .eq 26, 3) := by decide +kernel
theorem dX11_change_16 : decode cX11_change 16 = .ok (.aload_n 0, 1) := by decide +kernel
theorem dX11_change_17 : decode cX11_change 17 = .ok (.getfield 59, 3) := by decide +kernel
theorem dX11_change_20 : decode cX11_change 20 = .ok (.invokevirtual 403, 3) := by decide +kernel
theorem dX11_change_23 : decode cX11_change 23 = .ok (.aload_n 0, 1) := by decide +kernel
theorem dX11_change_24 : decode cX11_change 24 = .ok (.iload_n 1, 1) := by decide +kernel
theorem dX11_change_25 : decode cX11_change 25 = .ok (.invokevirtual 404, 3) := by decide +kernel
theorem dX11_change_28 : decode cX11_change 28 = .ok (.new 347, 3) := by decide +kernel
theorem dX11_change_31 : decode cX11_change 31 = .ok (.dup, 1) := by decide +kernel
theorem dX11_change_32 : decode cX11_change 32 = .ok (.ldc_w 407, 3) := by decide +kernel
theorem dX11_change_35 : decode cX11_change 35 = .ok (.invokespecial 351, 3) := by decide +kernel
theorem dX11_change_38 : decode cX11_change 38 = .ok (.athrow, 1) := by decide +kernel
theorem dX11_change_39 : decode cX11_change 39 = .ok (.aload_n 0, 1) := by decide +kernel
theorem dX11_change_40 : decode cX11_change 40 = .ok (.getfield 25, 3) := by decide +kernel
theorem dX11_change_43 : decode cX11_change 43 = .ok (.aload_n 0, 1) := by decide +kernel
theorem dX11_change_44 : decode cX11_change 44 = .ok (.getfield 10, 3) := by decide +kernel
theorem dX11_change_47 : decode cX11_change 47 = .ok (.invokevirtual 352, 3) := by decide +kernel
theorem dX11_change_50 : decode cX11_change 50 = .ok (.aload_n 0, 1) := by decide +kernel
theorem dX11_change_51 : decode cX11_change 51 = .ok (.getfield 10, 3) := by decide +kernel
theorem dX11_change_54 : decode cX11_change 54 = .ok (.aload_n 0, 1) := by decide +kernel
theorem dX11_change_55 : decode cX11_change 55 = .ok (.getfield 32, 3) := by decide +kernel
theorem dX11_change_58 : decode cX11_change 58 = .ok (.invokevirtual 409, 3) := by decide +kernel
theorem dX11_change_61 : decode cX11_change 61 = .ok (.ireturn, 1) := by decide +kernel
theorem dX11_carryOutText_0 : decode cX11_carryOutText 0 = .ok (.aload_n 0, 1) := by decide +kernel
theorem dX11_carryOutText_1 : decode cX11_carryOutText 1 = .ok (.getfield 39, 3) := by decide +kernel
theorem dX11_carryOutText_4 : decode cX11_carryOutText 4 = .ok (.invokevirtual 412, 3) := by decide +kernel
theorem dX11_carryOutText_7 : decode cX11_carryOutText 7 = .ok (.iconst 0, 1) := by decide +kernel
theorem dX11_carryOutText_8 : decode cX11_carryOutText 8 = .ok (.istore_n 1, 1) := by decide +kernel
theorem dX11_carryOutText_9 : decode cX11_carryOutText 9 = .ok (.iload_n 1, 1) := by decide +kernel
theorem dX11_carryOutText_10 : decode cX11_carryOutText 10 = .ok (.bipush 60, 2) := by decide +kernel
theorem dX11_carryOutText_12 : decode cX11_carryOutText 12 = .ok (.if_icmp .ge 108, 3) := by decide +kernel
theorem dX11_carryOutText_15 : decode cX11_carryOutText 15 = .ok (.aload_n 0, 1) := by decide +kernel
theorem dX11_carryOutText_16 : decode cX11_carryOutText 16 = .ok (.getfield 39, 3) := by decide +kernel
theorem dX11_carryOutText_19 : decode cX11_carryOutText 19 = .ok (.aload_n 0, 1) := by decide +kernel
theorem dX11_carryOutText_20 : decode cX11_carryOutText 20 = .ok (.getfield 32, 3) := by decide +kernel
theorem dX11_carryOutText_23 : decode cX11_carryOutText 23 = .ok (.invokevirtual 415, 3) := by decide +kernel
theorem dX11_carryOutText_26 : decode cX11_carryOutText 26 = .ok (.ifCond .eq 17, 3) := by decide +kernel
theorem dX11_carryOutText_29 : decode cX11_carryOutText 29 = .ok (.aload_n 0, 1) := by decide +kernel
theorem dX11_carryOutText_30 : decode cX11_carryOutText 30 = .ok (.getfield 10, 3) := by decide +kernel
theorem dX11_carryOutText_33 : decode cX11_carryOutText 33 = .ok (.aload_n 0, 1) := by decide +kernel
theorem dX11_carryOutText_34 : decode cX11_carryOutText 34 = .ok (.getfield 32, 3) := by decide +kernel
theorem dX11_carryOutText_37 : decode cX11_carryOutText 37 = .ok (.invokestatic 418, 3) := by decide +kernel
theorem dX11_carryOutText_40 : decode cX11_carryOutText 40 = .ok (.ifCond .ne 5, 3) := by decide +kernel
theorem dX11_carryOutText_43 : decode cX11_carryOutText 43 = .ok (.iconst (-1), 1) := by decide +kernel
theorem dX11_carryOutText_44 : decode cX11_carryOutText 44 = .ok (.ireturn, 1) := by decide +kernel
theorem dX11_carryOutText_45 : decode cX11_carryOutText 45 = .ok (.aload_n 0, 1) := by decide +kernel
theorem dX11_carryOutText_46 : decode cX11_carryOutText 46 = .ok (.getfield 10, 3) := by decide +kernel
theorem dX11_carryOutText_49 : decode cX11_carryOutText 49 = .ok (.aload_n 0, 1) := by decide +kernel
theorem dX11_carryOutText_50 : decode cX11_carryOutText 50 = .ok (.getfield 32, 3) := by decide +kernel
theorem dX11_carryOutText_53 : decode cX11_carryOutText 53 = .ok (.invokestatic 399, 3) := by decide +kernel
theorem dX11_carryOutText_56 : decode cX11_carryOutText 56 = .ok (.istore_n 2, 1) := by decide +kernel
theorem dX11_carryOutText_57 : decode cX11_carryOutText 57 = .ok (.iload_n 2, 1) := by decide +kernel
theorem dX11_carryOutText_58 : decode cX11_carryOutText 58 = .ok (.ifCond .eq 28, 3) := by decide +kernel
theorem dX11_carryOutText_61 : decode cX11_carryOutText 61 = .ok (.aload_n 0, 1) := by decide +kernel
theorem dX11_carryOutText_62 : decode cX11_carryOutText 62 = .ok (.getfield 59, 3) := by decide +kernel
theorem dX11_carryOutText_65 : decode cX11_carryOutText 65 = .ok (.invokevirtual 403, 3) := by decide +kernel
theorem dX11_carryOutText_68 : decode cX11_carryOutText 68 = .ok (.aload_n 0, 1) := by decide +kernel
theorem dX11_carryOutText_69 : decode cX11_carryOutText 69 = .ok (.getfield 59, 3) := by decide +kernel
theorem dX11_carryOutText_72 : decode cX11_carryOutText 72 = .ok (.bipush 10, 2) := by decide +kernel
theorem dX11_carryOutText_74 : decode cX11_carryOutText 74 = .ok (.iload_n 1, 1) := by decide +kernel
theorem dX11_carryOutText_75 : decode cX11_carryOutText 75 = .ok (.invokevirtual 422, 3) := by decide +kernel
theorem dX11_carryOutText_78 : decode cX11_carryOutText 78 = .ok (.aload_n 0, 1) := by decide +kernel
theorem dX11_carryOutText_79 : decode cX11_carryOutText 79 = .ok (.iload_n 2, 1) := by decide +kernel
theorem dX11_carryOutText_80 : decode cX11_carryOutText 80 = .ok (.invokevirtual 404, 3) := by decide +kernel
theorem dX11_carryOutText_83 : decode cX11_carryOutText 83 = .ok (.bipush (-2), 2) := by decide +kernel
theorem dX11_carryOutText_85 : decode cX11_carryOutText 85 = .ok (.ireturn, 1) := by decide +kernel
theorem dX11_carryOutText_86 : decode cX11_carryOutText 86 = .ok (.aload_n 0, 1) := by decide +kernel
theorem dX11_carryOutText_87 : decode cX11_carryOutText 87 = .ok (.getfield 10, 3) := by decide +kernel
theorem dX11_carryOutText_90 : decode cX11_carryOutText 90 = .ok (.aload_n 0, 1) := by decide +kernel
theorem dX11_carryOutText_91 : decode cX11_carryOutText 91 = .ok (.getfield 32, 3) := by decide +kernel
theorem dX11_carryOutText_94 : decode cX11_carryOutText 94 = .ok (.invokevirtual 409, 3) := by decide +kernel
theorem dX11_carryOutText_97 : decode cX11_carryOutText 97 = .ok (.pop, 1) := by decide +kernel
theorem dX11_carryOutText_98 : decode cX11_carryOutText 98 = .ok (.aload_n 0, 1) := by decide +kernel
theorem dX11_carryOutText_99 : decode cX11_carryOutText 99 = .ok (.getfield 39, 3) := by decide +kernel
theorem dX11_carryOutText_102 : decode cX11_carryOutText 102 = .ok (.bipush 59, 2) := by decide +kernel
theorem dX11_carryOutText_104 : decode cX11_carryOutText 104 = .ok (.invokevirtual 426, 3) := by decide +kernel
theorem dX11_carryOutText_107 : decode cX11_carryOutText 107 = .ok (.ifCond .ne 7, 3) := by decide +kernel
theorem dX11_carryOutText_110 : decode cX11_carryOutText 110 = .ok (.iload_n 1, 1) := by decide +kernel
theorem dX11_carryOutText_111 : decode cX11_carryOutText 111 = .ok (.iconst 1, 1) := by decide +kernel
theorem dX11_carryOutText_112 : decode cX11_carryOutText 112 = .ok (.iadd, 1) := by decide +kernel
theorem dX11_carryOutText_113 : decode cX11_carryOutText 113 = .ok (.ireturn, 1) := by decide +kernel
theorem dX11_carryOutText_114 : decode cX11_carryOutText 114 = .ok (.iinc 1 1, 3) := by decide +kernel
theorem dX11_carryOutText_117 : decode cX11_carryOutText 117 = .ok (.goto (-108), 3) := by decide +kernel
theorem dX11_carryOutText_120 : decode cX11_carryOutText 120 = .ok (.iconst (-1), 1) := by decide +kernel
theorem dX11_carryOutText_121 : decode cX11_carryOutText 121 = .ok (.ireturn, 1) := by decide +kernel
theorem dX11_keep_0 : decode cX11_keep 0 = .ok (.aload_n 0, 1) := by decide +kernel
theorem dX11_keep_1 : decode cX11_keep 1 = .ok (.getfield 59, 3) := by decide +kernel
theorem dX11_keep_4 : decode cX11_keep 4 = .ok (.iload_n 1, 1) := by decide +kernel
theorem dX11_keep_5 : decode cX11_keep 5 = .ok (.aload_n 0, 1) := by decide +kernel
theorem dX11_keep_6 : decode cX11_keep 6 = .ok (.getfield 10, 3) := by decide +kernel
theorem dX11_keep_9 : decode cX11_keep 9 = .ok (.aload_n 0, 1) := by decide +kernel
theorem dX11_keep_10 : decode cX11_keep 10 = .ok (.getfield 32, 3) := by decide +kernel
theorem dX11_keep_13 : decode cX11_keep 13 = .ok (.iload_n 1, 1) := by decide +kernel
theorem dX11_keep_14 : decode cX11_keep 14 = .ok (.invokestatic 429, 3) := by decide +kernel
theorem dX11_keep_17 : decode cX11_keep 17 = .ok (.invokevirtual 422, 3) := by decide +kernel
theorem dX11_keep_20 : decode cX11_keep 20 = .ok (.iload_n 1, 1) := by decide +kernel
theorem dX11_keep_21 : decode cX11_keep 21 = .ok (.iconst 2, 1) := by decide +kernel
theorem dX11_keep_22 : decode cX11_keep 22 = .ok (.if_icmp .ne 45, 3) := by decide +kernel
theorem dX11_keep_25 : decode cX11_keep 25 = .ok (.aload_n 0, 1) := by decide +kernel
theorem dX11_keep_26 : decode cX11_keep 26 = .ok (.getfield 10, 3) := by decide +kernel
theorem dX11_keep_29 : decode cX11_keep 29 = .ok (.aload_n 0, 1) := by decide +kernel
theorem dX11_keep_30 : decode cX11_keep 30 = .ok (.getfield 32, 3) := by decide +kernel
theorem dX11_keep_33 : decode cX11_keep 33 = .ok (.getfield 433, 3) := by decide +kernel
theorem dX11_keep_36 : decode cX11_keep 36 = .ok (.aload_n 0, 1) := by decide +kernel
theorem dX11_keep_37 : decode cX11_keep 37 = .ok (.getfield 32, 3) := by decide +kernel
theorem dX11_keep_40 : decode cX11_keep 40 = .ok (.getfield 436, 3) := by decide +kernel
theorem dX11_keep_43 : decode cX11_keep 43 = .ok (.invokestatic 216, 3) := by decide +kernel
theorem dX11_keep_46 : decode cX11_keep 46 = .ok (.istore_n 2, 1) := by decide +kernel
theorem dX11_keep_47 : decode cX11_keep 47 = .ok (.aload_n 0, 1) := by decide +kernel
theorem dX11_keep_48 : decode cX11_keep 48 = .ok (.getfield 59, 3) := by decide +kernel
theorem dX11_keep_51 : decode cX11_keep 51 = .ok (.iload_n 2, 1) := by decide +kernel
theorem dX11_keep_52 : decode cX11_keep 52 = .ok (.aload_n 0, 1) := by decide +kernel
theorem dX11_keep_53 : decode cX11_keep 53 = .ok (.getfield 10, 3) := by decide +kernel
theorem dX11_keep_56 : decode cX11_keep 56 = .ok (.aload_n 0, 1) := by decide +kernel
theorem dX11_keep_57 : decode cX11_keep 57 = .ok (.getfield 32, 3) := by decide +kernel
theorem dX11_keep_60 : decode cX11_keep 60 = .ok (.iload_n 2, 1) := by decide +kernel
theorem dX11_keep_61 : decode cX11_keep 61 = .ok (.invokestatic 429, 3) := by decide +kernel
theorem dX11_keep_64 : decode cX11_keep 64 = .ok (.invokevirtual 422, 3) := by decide +kernel
theorem dX11_keep_67 : decode cX11_keep 67 = .ok (.return_, 1) := by decide +kernel
theorem dX11_rankOfRealm_0 : decode cX11_rankOfRealm 0 = .ok (.iconst 0, 1) := by decide +kernel
theorem dX11_rankOfRealm_1 : decode cX11_rankOfRealm 1 = .ok (.istore_n 2, 1) := by decide +kernel
theorem dX11_rankOfRealm_2 : decode cX11_rankOfRealm 2 = .ok (.iconst 0, 1) := by decide +kernel
theorem dX11_rankOfRealm_3 : decode cX11_rankOfRealm 3 = .ok (.istore_n 3, 1) := by decide +kernel
theorem dX11_rankOfRealm_4 : decode cX11_rankOfRealm 4 = .ok (.iload_n 3, 1) := by decide +kernel
theorem dX11_rankOfRealm_5 : decode cX11_rankOfRealm 5 = .ok (.iconst 4, 1) := by decide +kernel
theorem dX11_rankOfRealm_6 : decode cX11_rankOfRealm 6 = .ok (.if_icmp .ge 26, 3) := by decide +kernel
theorem dX11_rankOfRealm_9 : decode cX11_rankOfRealm 9 = .ok (.iload_n 3, 1) := by decide +kernel
theorem dX11_rankOfRealm_10 : decode cX11_rankOfRealm 10 = .ok (.iload_n 1, 1) := by decide +kernel
theorem dX11_rankOfRealm_11 : decode cX11_rankOfRealm 11 = .ok (.if_icmp .eq 15, 3) := by decide +kernel
theorem dX11_rankOfRealm_14 : decode cX11_rankOfRealm 14 = .ok (.aload_n 0, 1) := by decide +kernel
theorem dX11_rankOfRealm_15 : decode cX11_rankOfRealm 15 = .ok (.iload_n 3, 1) := by decide +kernel
theorem dX11_rankOfRealm_16 : decode cX11_rankOfRealm 16 = .ok (.iload_n 1, 1) := by decide +kernel
theorem dX11_rankOfRealm_17 : decode cX11_rankOfRealm 17 = .ok (.invokevirtual 439, 3) := by decide +kernel
theorem dX11_rankOfRealm_20 : decode cX11_rankOfRealm 20 = .ok (.ifCond .eq 6, 3) := by decide +kernel
theorem dX11_rankOfRealm_23 : decode cX11_rankOfRealm 23 = .ok (.iinc 2 1, 3) := by decide +kernel
theorem dX11_rankOfRealm_26 : decode cX11_rankOfRealm 26 = .ok (.iinc 3 1, 3) := by decide +kernel
theorem dX11_rankOfRealm_29 : decode cX11_rankOfRealm 29 = .ok (.goto (-25), 3) := by decide +kernel
theorem dX11_rankOfRealm_32 : decode cX11_rankOfRealm 32 = .ok (.iload_n 2, 1) := by decide +kernel
theorem dX11_rankOfRealm_33 : decode cX11_rankOfRealm 33 = .ok (.ireturn, 1) := by decide +kernel
theorem dX11_isRealmAhead_0 : decode cX11_isRealmAhead 0 = .ok (.aload_n 0, 1) := by decide +kernel
theorem dX11_isRealmAhead_1 : decode cX11_isRealmAhead 1 = .ok (.getfield 10, 3) := by decide +kernel
theorem dX11_isRealmAhead_4 : decode cX11_isRealmAhead 4 = .ok (.iload_n 1, 1) := by decide +kernel
theorem dX11_isRealmAhead_5 : decode cX11_isRealmAhead 5 = .ok (.invokevirtual 134, 3) := by decide +kernel
theorem dX11_isRealmAhead_8 : decode cX11_isRealmAhead 8 = .ok (.aload_n 0, 1) := by decide +kernel
theorem dX11_isRealmAhead_9 : decode cX11_isRealmAhead 9 = .ok (.getfield 10, 3) := by decide +kernel
theorem dX11_isRealmAhead_12 : decode cX11_isRealmAhead 12 = .ok (.iload_n 2, 1) := by decide +kernel
theorem dX11_isRealmAhead_13 : decode cX11_isRealmAhead 13 = .ok (.invokevirtual 134, 3) := by decide +kernel
theorem dX11_isRealmAhead_16 : decode cX11_isRealmAhead 16 = .ok (.invokestatic 443, 3) := by decide +kernel
theorem dX11_isRealmAhead_19 : decode cX11_isRealmAhead 19 = .ok (.istore_n 3, 1) := by decide +kernel
theorem dX11_isRealmAhead_20 : decode cX11_isRealmAhead 20 = .ok (.iload_n 3, 1) := by decide +kernel
theorem dX11_isRealmAhead_21 : decode cX11_isRealmAhead 21 = .ok (.ifCond .eq 13, 3) := by decide +kernel
theorem dX11_isRealmAhead_24 : decode cX11_isRealmAhead 24 = .ok (.iload_n 3, 1) := by decide +kernel
theorem dX11_isRealmAhead_25 : decode cX11_isRealmAhead 25 = .ok (.ifCond .le 7, 3) := by decide +kernel
theorem dX11_isRealmAhead_28 : decode cX11_isRealmAhead 28 = .ok (.iconst 1, 1) := by decide +kernel
theorem dX11_isRealmAhead_29 : decode cX11_isRealmAhead 29 = .ok (.goto 4, 3) := by decide +kernel
theorem dX11_isRealmAhead_32 : decode cX11_isRealmAhead 32 = .ok (.iconst 0, 1) := by decide +kernel
theorem dX11_isRealmAhead_33 : decode cX11_isRealmAhead 33 = .ok (.ireturn, 1) := by decide +kernel
theorem dX11_isRealmAhead_34 : decode cX11_isRealmAhead 34 = .ok (.aload_n 0, 1) := by decide +kernel
theorem dX11_isRealmAhead_35 : decode cX11_isRealmAhead 35 = .ok (.getfield 10, 3) := by decide +kernel
theorem dX11_isRealmAhead_38 : decode cX11_isRealmAhead 38 = .ok (.iload_n 1, 1) := by decide +kernel
theorem dX11_isRealmAhead_39 : decode cX11_isRealmAhead 39 = .ok (.invokevirtual 448, 3) := by decide +kernel
theorem dX11_isRealmAhead_42 : decode cX11_isRealmAhead 42 = .ok (.aload_n 0, 1) := by decide +kernel
theorem dX11_isRealmAhead_43 : decode cX11_isRealmAhead 43 = .ok (.getfield 10, 3) := by decide +kernel
theorem dX11_isRealmAhead_46 : decode cX11_isRealmAhead 46 = .ok (.iload_n 2, 1) := by decide +kernel
theorem dX11_isRealmAhead_47 : decode cX11_isRealmAhead 47 = .ok (.invokevirtual 448, 3) := by decide +kernel
theorem dX11_isRealmAhead_50 : decode cX11_isRealmAhead 50 = .ok (.invokestatic 443, 3) := by decide +kernel
theorem dX11_isRealmAhead_53 : decode cX11_isRealmAhead 53 = .ok (.istore 4, 2) := by decide +kernel
theorem dX11_isRealmAhead_55 : decode cX11_isRealmAhead 55 = .ok (.iload 4, 2) := by decide +kernel
theorem dX11_isRealmAhead_57 : decode cX11_isRealmAhead 57 = .ok (.ifCond .eq 16, 3) := by decide +kernel
theorem dX11_isRealmAhead_60 : decode cX11_isRealmAhead 60 = .ok (.iload 4, 2) := by decide +kernel
theorem dX11_isRealmAhead_62 : decode cX11_isRealmAhead 62 = .ok (.ifCond .le 7, 3) := by decide +kernel
theorem dX11_isRealmAhead_65 : decode cX11_isRealmAhead 65 = .ok (.iconst 1, 1) := by decide +kernel
theorem dX11_isRealmAhead_66 : decode cX11_isRealmAhead 66 = .ok (.goto 17, 3) := by decide +kernel
theorem dX11_isRealmAhead_69 : decode cX11_isRealmAhead 69 = .ok (.iconst 0, 1) := by decide +kernel
theorem dX11_isRealmAhead_70 : decode cX11_isRealmAhead 70 = .ok (.goto 13, 3) := by decide +kernel
theorem dX11_isRealmAhead_73 : decode cX11_isRealmAhead 73 = .ok (.iload_n 1, 1) := by decide +kernel
theorem dX11_isRealmAhead_74 : decode cX11_isRealmAhead 74 = .ok (.iload_n 2, 1) := by decide +kernel
theorem dX11_isRealmAhead_75 : decode cX11_isRealmAhead 75 = .ok (.if_icmp .ge 7, 3) := by decide +kernel
theorem dX11_isRealmAhead_78 : decode cX11_isRealmAhead 78 = .ok (.iconst 1, 1) := by decide +kernel
theorem dX11_isRealmAhead_79 : decode cX11_isRealmAhead 79 = .ok (.goto 4, 3) := by decide +kernel
theorem dX11_isRealmAhead_82 : decode cX11_isRealmAhead 82 = .ok (.iconst 0, 1) := by decide +kernel
theorem dX11_isRealmAhead_83 : decode cX11_isRealmAhead 83 = .ok (.ireturn, 1) := by decide +kernel
theorem dX11_rankOfRiver_0 : decode cX11_rankOfRiver 0 = .ok (.iconst 0, 1) := by decide +kernel
theorem dX11_rankOfRiver_1 : decode cX11_rankOfRiver 1 = .ok (.istore_n 2, 1) := by decide +kernel
theorem dX11_rankOfRiver_2 : decode cX11_rankOfRiver 2 = .ok (.iconst 0, 1) := by decide +kernel
theorem dX11_rankOfRiver_3 : decode cX11_rankOfRiver 3 = .ok (.istore_n 3, 1) := by decide +kernel
theorem dX11_rankOfRiver_4 : decode cX11_rankOfRiver 4 = .ok (.iload_n 3, 1) := by decide +kernel
theorem dX11_rankOfRiver_5 : decode cX11_rankOfRiver 5 = .ok (.aload_n 0, 1) := by decide +kernel
theorem dX11_rankOfRiver_6 : decode cX11_rankOfRiver 6 = .ok (.getfield 10, 3) := by decide +kernel
theorem dX11_rankOfRiver_9 : decode cX11_rankOfRiver 9 = .ok (.getfield 236, 3) := by decide +kernel
theorem dX11_rankOfRiver_12 : decode cX11_rankOfRiver 12 = .ok (.if_icmp .ge 26, 3) := by decide +kernel
theorem dX11_rankOfRiver_15 : decode cX11_rankOfRiver 15 = .ok (.iload_n 3, 1) := by decide +kernel
theorem dX11_rankOfRiver_16 : decode cX11_rankOfRiver 16 = .ok (.iload_n 1, 1) := by decide +kernel
theorem dX11_rankOfRiver_17 : decode cX11_rankOfRiver 17 = .ok (.if_icmp .eq 15, 3) := by decide +kernel
theorem dX11_rankOfRiver_20 : decode cX11_rankOfRiver 20 = .ok (.aload_n 0, 1) := by decide +kernel
theorem dX11_rankOfRiver_21 : decode cX11_rankOfRiver 21 = .ok (.iload_n 3, 1) := by decide +kernel
theorem dX11_rankOfRiver_22 : decode cX11_rankOfRiver 22 = .ok (.iload_n 1, 1) := by decide +kernel
theorem dX11_rankOfRiver_23 : decode cX11_rankOfRiver 23 = .ok (.invokevirtual 451, 3) := by decide +kernel
theorem dX11_rankOfRiver_26 : decode cX11_rankOfRiver 26 = .ok (.ifCond .eq 6, 3) := by decide +kernel
theorem dX11_rankOfRiver_29 : decode cX11_rankOfRiver 29 = .ok (.iinc 2 1, 3) := by decide +kernel
theorem dX11_rankOfRiver_32 : decode cX11_rankOfRiver 32 = .ok (.iinc 3 1, 3) := by decide +kernel
theorem dX11_rankOfRiver_35 : decode cX11_rankOfRiver 35 = .ok (.goto (-31), 3) := by decide +kernel
theorem dX11_rankOfRiver_38 : decode cX11_rankOfRiver 38 = .ok (.iload_n 2, 1) := by decide +kernel
theorem dX11_rankOfRiver_39 : decode cX11_rankOfRiver 39 = .ok (.ireturn, 1) := by decide +kernel
theorem dX11_isRiverAhead_0 : decode cX11_isRiverAhead 0 = .ok (.aload_n 0, 1) := by decide +kernel
theorem dX11_isRiverAhead_1 : decode cX11_isRiverAhead 1 = .ok (.getfield 10, 3) := by decide +kernel
theorem dX11_isRiverAhead_4 : decode cX11_isRiverAhead 4 = .ok (.iload_n 1, 1) := by decide +kernel
theorem dX11_isRiverAhead_5 : decode cX11_isRiverAhead 5 = .ok (.invokestatic 192, 3) := by decide +kernel
theorem dX11_isRiverAhead_8 : decode cX11_isRiverAhead 8 = .ok (.aload_n 0, 1) := by decide +kernel
theorem dX11_isRiverAhead_9 : decode cX11_isRiverAhead 9 = .ok (.getfield 10, 3) := by decide +kernel
theorem dX11_isRiverAhead_12 : decode cX11_isRiverAhead 12 = .ok (.iload_n 2, 1) := by decide +kernel
theorem dX11_isRiverAhead_13 : decode cX11_isRiverAhead 13 = .ok (.invokestatic 192, 3) := by decide +kernel
theorem dX11_isRiverAhead_16 : decode cX11_isRiverAhead 16 = .ok (.invokestatic 443, 3) := by decide +kernel
theorem dX11_isRiverAhead_19 : decode cX11_isRiverAhead 19 = .ok (.istore_n 3, 1) := by decide +kernel
theorem dX11_isRiverAhead_20 : decode cX11_isRiverAhead 20 = .ok (.iload_n 3, 1) := by decide +kernel
theorem dX11_isRiverAhead_21 : decode cX11_isRiverAhead 21 = .ok (.ifCond .eq 13, 3) := by decide +kernel
theorem dX11_isRiverAhead_24 : decode cX11_isRiverAhead 24 = .ok (.iload_n 3, 1) := by decide +kernel
theorem dX11_isRiverAhead_25 : decode cX11_isRiverAhead 25 = .ok (.ifCond .le 7, 3) := by decide +kernel
theorem dX11_isRiverAhead_28 : decode cX11_isRiverAhead 28 = .ok (.iconst 1, 1) := by decide +kernel
theorem dX11_isRiverAhead_29 : decode cX11_isRiverAhead 29 = .ok (.goto 4, 3) := by decide +kernel
theorem dX11_isRiverAhead_32 : decode cX11_isRiverAhead 32 = .ok (.iconst 0, 1) := by decide +kernel
theorem dX11_isRiverAhead_33 : decode cX11_isRiverAhead 33 = .ok (.ireturn, 1) := by decide +kernel
theorem dX11_isRiverAhead_34 : decode cX11_isRiverAhead 34 = .ok (.aload_n 0, 1) := by decide +kernel
theorem dX11_isRiverAhead_35 : decode cX11_isRiverAhead 35 = .ok (.getfield 10, 3) := by decide +kernel
theorem dX11_isRiverAhead_38 : decode cX11_isRiverAhead 38 = .ok (.iload_n 1, 1) := by decide +kernel
theorem dX11_isRiverAhead_39 : decode cX11_isRiverAhead 39 = .ok (.invokevirtual 158, 3) := by decide +kernel
theorem dX11_isRiverAhead_42 : decode cX11_isRiverAhead 42 = .ok (.aload_n 0, 1) := by decide +kernel
theorem dX11_isRiverAhead_43 : decode cX11_isRiverAhead 43 = .ok (.getfield 10, 3) := by decide +kernel
theorem dX11_isRiverAhead_46 : decode cX11_isRiverAhead 46 = .ok (.iload_n 2, 1) := by decide +kernel
theorem dX11_isRiverAhead_47 : decode cX11_isRiverAhead 47 = .ok (.invokevirtual 158, 3) := by decide +kernel
theorem dX11_isRiverAhead_50 : decode cX11_isRiverAhead 50 = .ok (.invokestatic 443, 3) := by decide +kernel
theorem dX11_isRiverAhead_53 : decode cX11_isRiverAhead 53 = .ok (.istore 4, 2) := by decide +kernel
theorem dX11_isRiverAhead_55 : decode cX11_isRiverAhead 55 = .ok (.iload 4, 2) := by decide +kernel
theorem dX11_isRiverAhead_57 : decode cX11_isRiverAhead 57 = .ok (.ifCond .eq 16, 3) := by decide +kernel
theorem dX11_isRiverAhead_60 : decode cX11_isRiverAhead 60 = .ok (.iload 4, 2) := by decide +kernel
theorem dX11_isRiverAhead_62 : decode cX11_isRiverAhead 62 = .ok (.ifCond .le 7, 3) := by decide +kernel
theorem dX11_isRiverAhead_65 : decode cX11_isRiverAhead 65 = .ok (.iconst 1, 1) := by decide +kernel
theorem dX11_isRiverAhead_66 : decode cX11_isRiverAhead 66 = .ok (.goto 17, 3) := by decide +kernel
theorem dX11_isRiverAhead_69 : decode cX11_isRiverAhead 69 = .ok (.iconst 0, 1) := by decide +kernel
theorem dX11_isRiverAhead_70 : decode cX11_isRiverAhead 70 = .ok (.goto 13, 3) := by decide +kernel
theorem dX11_isRiverAhead_73 : decode cX11_isRiverAhead 73 = .ok (.iload_n 1, 1) := by decide +kernel
theorem dX11_isRiverAhead_74 : decode cX11_isRiverAhead 74 = .ok (.iload_n 2, 1) := by decide +kernel
theorem dX11_isRiverAhead_75 : decode cX11_isRiverAhead 75 = .ok (.if_icmp .ge 7, 3) := by decide +kernel
theorem dX11_isRiverAhead_78 : decode cX11_isRiverAhead 78 = .ok (.iconst 1, 1) := by decide +kernel
theorem dX11_isRiverAhead_79 : decode cX11_isRiverAhead 79 = .ok (.goto 4, 3) := by decide +kernel
theorem dX11_isRiverAhead_82 : decode cX11_isRiverAhead 82 = .ok (.iconst 0, 1) := by decide +kernel
theorem dX11_isRiverAhead_83 : decode cX11_isRiverAhead 83 = .ok (.ireturn, 1) := by decide +kernel
theorem dX11_areWeightsAlike_0 : decode cX11_areWeightsAlike 0 = .ok (.iconst 0, 1) := by decide +kernel
theorem dX11_areWeightsAlike_1 : decode cX11_areWeightsAlike 1 = .ok (.istore_n 1, 1) := by decide +kernel
theorem dX11_areWeightsAlike_2 : decode cX11_areWeightsAlike 2 = .ok (.iload_n 1, 1) := by decide +kernel
theorem dX11_areWeightsAlike_3 : decode cX11_areWeightsAlike 3 = .ok (.aload_n 0, 1) := by decide +kernel
theorem dX11_areWeightsAlike_4 : decode cX11_areWeightsAlike 4 = .ok (.getfield 10, 3) := by decide +kernel
theorem dX11_areWeightsAlike_7 : decode cX11_areWeightsAlike 7 = .ok (.getfield 236, 3) := by decide +kernel
theorem dX11_areWeightsAlike_10 : decode cX11_areWeightsAlike 10 = .ok (.if_icmp .ge 30, 3) := by decide +kernel
theorem dX11_areWeightsAlike_13 : decode cX11_areWeightsAlike 13 = .ok (.aload_n 0, 1) := by decide +kernel
theorem dX11_areWeightsAlike_14 : decode cX11_areWeightsAlike 14 = .ok (.getfield 10, 3) := by decide +kernel
theorem dX11_areWeightsAlike_17 : decode cX11_areWeightsAlike 17 = .ok (.iload_n 1, 1) := by decide +kernel
theorem dX11_areWeightsAlike_18 : decode cX11_areWeightsAlike 18 = .ok (.invokestatic 192, 3) := by decide +kernel
theorem dX11_areWeightsAlike_21 : decode cX11_areWeightsAlike 21 = .ok (.aload_n 0, 1) := by decide +kernel
theorem dX11_areWeightsAlike_22 : decode cX11_areWeightsAlike 22 = .ok (.getfield 10, 3) := by decide +kernel
theorem dX11_areWeightsAlike_25 : decode cX11_areWeightsAlike 25 = .ok (.iload_n 1, 1) := by decide +kernel
theorem dX11_areWeightsAlike_26 : decode cX11_areWeightsAlike 26 = .ok (.invokestatic 195, 3) := by decide +kernel
theorem dX11_areWeightsAlike_29 : decode cX11_areWeightsAlike 29 = .ok (.if_icmp .eq 5, 3) := by decide +kernel
theorem dX11_areWeightsAlike_32 : decode cX11_areWeightsAlike 32 = .ok (.iconst 0, 1) := by decide +kernel
theorem dX11_areWeightsAlike_33 : decode cX11_areWeightsAlike 33 = .ok (.ireturn, 1) := by decide +kernel
theorem dX11_areWeightsAlike_34 : decode cX11_areWeightsAlike 34 = .ok (.iinc 1 1, 3) := by decide +kernel
theorem dX11_areWeightsAlike_37 : decode cX11_areWeightsAlike 37 = .ok (.goto (-35), 3) := by decide +kernel
theorem dX11_areWeightsAlike_40 : decode cX11_areWeightsAlike 40 = .ok (.iconst 1, 1) := by decide +kernel
theorem dX11_areWeightsAlike_41 : decode cX11_areWeightsAlike 41 = .ok (.ireturn, 1) := by decide +kernel
theorem dX11_areRealmsAlike_0 : decode cX11_areRealmsAlike 0 = .ok (.iconst 0, 1) := by decide +kernel
theorem dX11_areRealmsAlike_1 : decode cX11_areRealmsAlike 1 = .ok (.istore_n 1, 1) := by decide +kernel
theorem dX11_areRealmsAlike_2 : decode cX11_areRealmsAlike 2 = .ok (.iload_n 1, 1) := by decide +kernel
theorem dX11_areRealmsAlike_3 : decode cX11_areRealmsAlike 3 = .ok (.iconst 4, 1) := by decide +kernel
theorem dX11_areRealmsAlike_4 : decode cX11_areRealmsAlike 4 = .ok (.if_icmp .ge 57, 3) := by decide +kernel
theorem dX11_areRealmsAlike_7 : decode cX11_areRealmsAlike 7 = .ok (.aload_n 0, 1) := by decide +kernel
theorem dX11_areRealmsAlike_8 : decode cX11_areRealmsAlike 8 = .ok (.getfield 10, 3) := by decide +kernel
theorem dX11_areRealmsAlike_11 : decode cX11_areRealmsAlike 11 = .ok (.iload_n 1, 1) := by decide +kernel
theorem dX11_areRealmsAlike_12 : decode cX11_areRealmsAlike 12 = .ok (.invokestatic 204, 3) := by decide +kernel
theorem dX11_areRealmsAlike_15 : decode cX11_areRealmsAlike 15 = .ok (.aload_n 0, 1) := by decide +kernel
theorem dX11_areRealmsAlike_16 : decode cX11_areRealmsAlike 16 = .ok (.getfield 10, 3) := by decide +kernel
theorem dX11_areRealmsAlike_19 : decode cX11_areRealmsAlike 19 = .ok (.iload_n 1, 1) := by decide +kernel
theorem dX11_areRealmsAlike_20 : decode cX11_areRealmsAlike 20 = .ok (.invokestatic 207, 3) := by decide +kernel
theorem dX11_areRealmsAlike_23 : decode cX11_areRealmsAlike 23 = .ok (.if_icmp .ne 30, 3) := by decide +kernel
theorem dX11_areRealmsAlike_26 : decode cX11_areRealmsAlike 26 = .ok (.aload_n 0, 1) := by decide +kernel
theorem dX11_areRealmsAlike_27 : decode cX11_areRealmsAlike 27 = .ok (.getfield 66, 3) := by decide +kernel
theorem dX11_areRealmsAlike_30 : decode cX11_areRealmsAlike 30 = .ok (.aload_n 0, 1) := by decide +kernel
theorem dX11_areRealmsAlike_31 : decode cX11_areRealmsAlike 31 = .ok (.getfield 10, 3) := by decide +kernel
theorem dX11_areRealmsAlike_34 : decode cX11_areRealmsAlike 34 = .ok (.iload_n 1, 1) := by decide +kernel
theorem dX11_areRealmsAlike_35 : decode cX11_areRealmsAlike 35 = .ok (.invokevirtual 210, 3) := by decide +kernel
theorem dX11_areRealmsAlike_38 : decode cX11_areRealmsAlike 38 = .ok (.aload_n 0, 1) := by decide +kernel
theorem dX11_areRealmsAlike_39 : decode cX11_areRealmsAlike 39 = .ok (.getfield 66, 3) := by decide +kernel
theorem dX11_areRealmsAlike_42 : decode cX11_areRealmsAlike 42 = .ok (.aload_n 0, 1) := by decide +kernel
theorem dX11_areRealmsAlike_43 : decode cX11_areRealmsAlike 43 = .ok (.getfield 10, 3) := by decide +kernel
theorem dX11_areRealmsAlike_46 : decode cX11_areRealmsAlike 46 = .ok (.iload_n 1, 1) := by decide +kernel
theorem dX11_areRealmsAlike_47 : decode cX11_areRealmsAlike 47 = .ok (.invokevirtual 213, 3) := by decide +kernel
theorem dX11_areRealmsAlike_50 : decode cX11_areRealmsAlike 50 = .ok (.if_icmp .eq 5, 3) := by decide +kernel
theorem dX11_areRealmsAlike_53 : decode cX11_areRealmsAlike 53 = .ok (.iconst 0, 1) := by decide +kernel
theorem dX11_areRealmsAlike_54 : decode cX11_areRealmsAlike 54 = .ok (.ireturn, 1) := by decide +kernel
theorem dX11_areRealmsAlike_55 : decode cX11_areRealmsAlike 55 = .ok (.iinc 1 1, 3) := by decide +kernel
theorem dX11_areRealmsAlike_58 : decode cX11_areRealmsAlike 58 = .ok (.goto (-56), 3) := by decide +kernel
theorem dX11_areRealmsAlike_61 : decode cX11_areRealmsAlike 61 = .ok (.iconst 1, 1) := by decide +kernel
theorem dX11_areRealmsAlike_62 : decode cX11_areRealmsAlike 62 = .ok (.ireturn, 1) := by decide +kernel
theorem dX11_areLiesAlike_0 : decode cX11_areLiesAlike 0 = .ok (.iconst 1, 1) := by decide +kernel
theorem dX11_areLiesAlike_1 : decode cX11_areLiesAlike 1 = .ok (.istore_n 1, 1) := by decide +kernel
theorem dX11_areLiesAlike_2 : decode cX11_areLiesAlike 2 = .ok (.iload_n 1, 1) := by decide +kernel
theorem dX11_areLiesAlike_3 : decode cX11_areLiesAlike 3 = .ok (.bipush 8, 2) := by decide +kernel
theorem dX11_areLiesAlike_5 : decode cX11_areLiesAlike 5 = .ok (.if_icmp .ge 53, 3) := by decide +kernel
theorem dX11_areLiesAlike_8 : decode cX11_areLiesAlike 8 = .ok (.aload_n 0, 1) := by decide +kernel
theorem dX11_areLiesAlike_9 : decode cX11_areLiesAlike 9 = .ok (.getfield 10, 3) := by decide +kernel
theorem dX11_areLiesAlike_12 : decode cX11_areLiesAlike 12 = .ok (.iconst 1, 1) := by decide +kernel
theorem dX11_areLiesAlike_13 : decode cX11_areLiesAlike 13 = .ok (.iload_n 1, 1) := by decide +kernel
theorem dX11_areLiesAlike_14 : decode cX11_areLiesAlike 14 = .ok (.invokestatic 224, 3) := by decide +kernel
theorem dX11_areLiesAlike_17 : decode cX11_areLiesAlike 17 = .ok (.aload_n 0, 1) := by decide +kernel
theorem dX11_areLiesAlike_18 : decode cX11_areLiesAlike 18 = .ok (.getfield 10, 3) := by decide +kernel
theorem dX11_areLiesAlike_21 : decode cX11_areLiesAlike 21 = .ok (.iconst 1, 1) := by decide +kernel
theorem dX11_areLiesAlike_22 : decode cX11_areLiesAlike 22 = .ok (.iload_n 1, 1) := by decide +kernel
theorem dX11_areLiesAlike_23 : decode cX11_areLiesAlike 23 = .ok (.invokestatic 230, 3) := by decide +kernel
theorem dX11_areLiesAlike_26 : decode cX11_areLiesAlike 26 = .ok (.if_icmp .ne 24, 3) := by decide +kernel
theorem dX11_areLiesAlike_29 : decode cX11_areLiesAlike 29 = .ok (.aload_n 0, 1) := by decide +kernel
theorem dX11_areLiesAlike_30 : decode cX11_areLiesAlike 30 = .ok (.getfield 10, 3) := by decide +kernel
theorem dX11_areLiesAlike_33 : decode cX11_areLiesAlike 33 = .ok (.iconst 0, 1) := by decide +kernel
theorem dX11_areLiesAlike_34 : decode cX11_areLiesAlike 34 = .ok (.iload_n 1, 1) := by decide +kernel
theorem dX11_areLiesAlike_35 : decode cX11_areLiesAlike 35 = .ok (.invokestatic 224, 3) := by decide +kernel
theorem dX11_areLiesAlike_38 : decode cX11_areLiesAlike 38 = .ok (.aload_n 0, 1) := by decide +kernel
theorem dX11_areLiesAlike_39 : decode cX11_areLiesAlike 39 = .ok (.getfield 10, 3) := by decide +kernel
theorem dX11_areLiesAlike_42 : decode cX11_areLiesAlike 42 = .ok (.iconst 0, 1) := by decide +kernel
theorem dX11_areLiesAlike_43 : decode cX11_areLiesAlike 43 = .ok (.iload_n 1, 1) := by decide +kernel
theorem dX11_areLiesAlike_44 : decode cX11_areLiesAlike 44 = .ok (.invokestatic 230, 3) := by decide +kernel
theorem dX11_areLiesAlike_47 : decode cX11_areLiesAlike 47 = .ok (.if_icmp .eq 5, 3) := by decide +kernel
theorem dX11_areLiesAlike_50 : decode cX11_areLiesAlike 50 = .ok (.iconst 0, 1) := by decide +kernel
theorem dX11_areLiesAlike_51 : decode cX11_areLiesAlike 51 = .ok (.ireturn, 1) := by decide +kernel
theorem dX11_areLiesAlike_52 : decode cX11_areLiesAlike 52 = .ok (.iinc 1 1, 3) := by decide +kernel
theorem dX11_areLiesAlike_55 : decode cX11_areLiesAlike 55 = .ok (.goto (-53), 3) := by decide +kernel
theorem dX11_areLiesAlike_58 : decode cX11_areLiesAlike 58 = .ok (.iconst 1, 1) := by decide +kernel
theorem dX11_areLiesAlike_59 : decode cX11_areLiesAlike 59 = .ok (.ireturn, 1) := by decide +kernel
theorem dX11_isWonLost_0 : decode cX11_isWonLost 0 = .ok (.iconst 0, 1) := by decide +kernel
theorem dX11_isWonLost_1 : decode cX11_isWonLost 1 = .ok (.istore_n 1, 1) := by decide +kernel
theorem dX11_isWonLost_2 : decode cX11_isWonLost 2 = .ok (.iconst 0, 1) := by decide +kernel
theorem dX11_isWonLost_3 : decode cX11_isWonLost 3 = .ok (.istore_n 2, 1) := by decide +kernel
theorem dX11_isWonLost_4 : decode cX11_isWonLost 4 = .ok (.iload_n 2, 1) := by decide +kernel
theorem dX11_isWonLost_5 : decode cX11_isWonLost 5 = .ok (.iconst 4, 1) := by decide +kernel
theorem dX11_isWonLost_6 : decode cX11_isWonLost 6 = .ok (.if_icmp .ge 31, 3) := by decide +kernel
theorem dX11_isWonLost_9 : decode cX11_isWonLost 9 = .ok (.iload_n 1, 1) := by decide +kernel
theorem dX11_isWonLost_10 : decode cX11_isWonLost 10 = .ok (.aload_n 0, 1) := by decide +kernel
theorem dX11_isWonLost_11 : decode cX11_isWonLost 11 = .ok (.getfield 10, 3) := by decide +kernel
theorem dX11_isWonLost_14 : decode cX11_isWonLost 14 = .ok (.getfield 144, 3) := by decide +kernel
theorem dX11_isWonLost_17 : decode cX11_isWonLost 17 = .ok (.iload_n 2, 1) := by decide +kernel
theorem dX11_isWonLost_18 : decode cX11_isWonLost 18 = .ok (.iaload, 1) := by decide +kernel
theorem dX11_isWonLost_19 : decode cX11_isWonLost 19 = .ok (.aload_n 0, 1) := by decide +kernel
theorem dX11_isWonLost_20 : decode cX11_isWonLost 20 = .ok (.getfield 10, 3) := by decide +kernel
theorem dX11_isWonLost_23 : decode cX11_isWonLost 23 = .ok (.getfield 147, 3) := by decide +kernel
theorem dX11_isWonLost_26 : decode cX11_isWonLost 26 = .ok (.iload_n 2, 1) := by decide +kernel
theorem dX11_isWonLost_27 : decode cX11_isWonLost 27 = .ok (.iaload, 1) := by decide +kernel
theorem dX11_isWonLost_28 : decode cX11_isWonLost 28 = .ok (.isub, 1) := by decide +kernel
theorem dX11_isWonLost_29 : decode cX11_isWonLost 29 = .ok (.iadd, 1) := by decide +kernel
theorem dX11_isWonLost_30 : decode cX11_isWonLost 30 = .ok (.istore_n 1, 1) := by decide +kernel
theorem dX11_isWonLost_31 : decode cX11_isWonLost 31 = .ok (.iinc 2 1, 3) := by decide +kernel
theorem dX11_isWonLost_34 : decode cX11_isWonLost 34 = .ok (.goto (-30), 3) := by decide +kernel
theorem dX11_isWonLost_37 : decode cX11_isWonLost 37 = .ok (.iload_n 1, 1) := by decide +kernel
theorem dX11_isWonLost_38 : decode cX11_isWonLost 38 = .ok (.ifCond .ne 7, 3) := by decide +kernel
theorem dX11_isWonLost_41 : decode cX11_isWonLost 41 = .ok (.iconst 1, 1) := by decide +kernel
theorem dX11_isWonLost_42 : decode cX11_isWonLost 42 = .ok (.goto 4, 3) := by decide +kernel
theorem dX11_isWonLost_45 : decode cX11_isWonLost 45 = .ok (.iconst 0, 1) := by decide +kernel
theorem dX11_isWonLost_46 : decode cX11_isWonLost 46 = .ok (.ireturn, 1) := by decide +kernel
theorem dX11_areCoinsWhole_0 : decode cX11_areCoinsWhole 0 = .ok (.aload_n 0, 1) := by decide +kernel
theorem dX11_areCoinsWhole_1 : decode cX11_areCoinsWhole 1 = .ok (.getfield 10, 3) := by decide +kernel
theorem dX11_areCoinsWhole_4 : decode cX11_areCoinsWhole 4 = .ok (.invokevirtual 308, 3) := by decide +kernel
theorem dX11_areCoinsWhole_7 : decode cX11_areCoinsWhole 7 = .ok (.aload_n 0, 1) := by decide +kernel
theorem dX11_areCoinsWhole_8 : decode cX11_areCoinsWhole 8 = .ok (.getfield 10, 3) := by decide +kernel
theorem dX11_areCoinsWhole_11 : decode cX11_areCoinsWhole 11 = .ok (.getfield 320, 3) := by decide +kernel
theorem dX11_areCoinsWhole_14 : decode cX11_areCoinsWhole 14 = .ok (.iadd, 1) := by decide +kernel
theorem dX11_areCoinsWhole_15 : decode cX11_areCoinsWhole 15 = .ok (.istore_n 1, 1) := by decide +kernel
theorem dX11_areCoinsWhole_16 : decode cX11_areCoinsWhole 16 = .ok (.iconst 0, 1) := by decide +kernel
theorem dX11_areCoinsWhole_17 : decode cX11_areCoinsWhole 17 = .ok (.istore_n 2, 1) := by decide +kernel
theorem dX11_areCoinsWhole_18 : decode cX11_areCoinsWhole 18 = .ok (.iload_n 2, 1) := by decide +kernel
theorem dX11_areCoinsWhole_19 : decode cX11_areCoinsWhole 19 = .ok (.aload_n 0, 1) := by decide +kernel
theorem dX11_areCoinsWhole_20 : decode cX11_areCoinsWhole 20 = .ok (.getfield 10, 3) := by decide +kernel
theorem dX11_areCoinsWhole_23 : decode cX11_areCoinsWhole 23 = .ok (.getfield 305, 3) := by decide +kernel
theorem dX11_areCoinsWhole_26 : decode cX11_areCoinsWhole 26 = .ok (.if_icmp .ge 26, 3) := by decide +kernel
theorem dX11_areCoinsWhole_29 : decode cX11_areCoinsWhole 29 = .ok (.iload_n 2, 1) := by decide +kernel
theorem dX11_areCoinsWhole_30 : decode cX11_areCoinsWhole 30 = .ok (.iconst 5, 1) := by decide +kernel
theorem dX11_areCoinsWhole_31 : decode cX11_areCoinsWhole 31 = .ok (.if_icmp .ge 21, 3) := by decide +kernel
theorem dX11_areCoinsWhole_34 : decode cX11_areCoinsWhole 34 = .ok (.iload_n 1, 1) := by decide +kernel
theorem dX11_areCoinsWhole_35 : decode cX11_areCoinsWhole 35 = .ok (.aload_n 0, 1) := by decide +kernel
theorem dX11_areCoinsWhole_36 : decode cX11_areCoinsWhole 36 = .ok (.getfield 10, 3) := by decide +kernel
theorem dX11_areCoinsWhole_39 : decode cX11_areCoinsWhole 39 = .ok (.getfield 184, 3) := by decide +kernel
theorem dX11_areCoinsWhole_42 : decode cX11_areCoinsWhole 42 = .ok (.iload_n 2, 1) := by decide +kernel
theorem dX11_areCoinsWhole_43 : decode cX11_areCoinsWhole 43 = .ok (.iaload, 1) := by decide +kernel
theorem dX11_areCoinsWhole_44 : decode cX11_areCoinsWhole 44 = .ok (.iadd, 1) := by decide +kernel
theorem dX11_areCoinsWhole_45 : decode cX11_areCoinsWhole 45 = .ok (.istore_n 1, 1) := by decide +kernel
theorem dX11_areCoinsWhole_46 : decode cX11_areCoinsWhole 46 = .ok (.iinc 2 1, 3) := by decide +kernel
theorem dX11_areCoinsWhole_49 : decode cX11_areCoinsWhole 49 = .ok (.goto (-31), 3) := by decide +kernel
theorem dX11_areCoinsWhole_52 : decode cX11_areCoinsWhole 52 = .ok (.iload_n 1, 1) := by decide +kernel
theorem dX11_areCoinsWhole_53 : decode cX11_areCoinsWhole 53 = .ok (.sipush 400, 3) := by decide +kernel
theorem dX11_areCoinsWhole_56 : decode cX11_areCoinsWhole 56 = .ok (.if_icmp .ne 7, 3) := by decide +kernel
theorem dX11_areCoinsWhole_59 : decode cX11_areCoinsWhole 59 = .ok (.iconst 1, 1) := by decide +kernel
theorem dX11_areCoinsWhole_60 : decode cX11_areCoinsWhole 60 = .ok (.goto 4, 3) := by decide +kernel
theorem dX11_areCoinsWhole_63 : decode cX11_areCoinsWhole 63 = .ok (.iconst 0, 1) := by decide +kernel
theorem dX11_areCoinsWhole_64 : decode cX11_areCoinsWhole 64 = .ok (.ireturn, 1) := by decide +kernel
theorem dX11_signOfCell_0 : decode cX11_signOfCell 0 = .ok (.aload_n 0, 1) := by decide +kernel
theorem dX11_signOfCell_1 : decode cX11_signOfCell 1 = .ok (.getfield 10, 3) := by decide +kernel
theorem dX11_signOfCell_4 : decode cX11_signOfCell 4 = .ok (.iload_n 1, 1) := by decide +kernel
theorem dX11_signOfCell_5 : decode cX11_signOfCell 5 = .ok (.invokevirtual 130, 3) := by decide +kernel
theorem dX11_signOfCell_8 : decode cX11_signOfCell 8 = .ok (.istore_n 2, 1) := by decide +kernel
theorem dX11_signOfCell_9 : decode cX11_signOfCell 9 = .ok (.iload_n 2, 1) := by decide +kernel
theorem dX11_signOfCell_10 : decode cX11_signOfCell 10 = .ok (.iconst (-1), 1) := by decide +kernel
theorem dX11_signOfCell_11 : decode cX11_signOfCell 11 = .ok (.if_icmp .ne 6, 3) := by decide +kernel
theorem dX11_signOfCell_14 : decode cX11_signOfCell 14 = .ok (.bipush 46, 2) := by decide +kernel
theorem dX11_signOfCell_16 : decode cX11_signOfCell 16 = .ok (.ireturn, 1) := by decide +kernel
theorem dX11_signOfCell_17 : decode cX11_signOfCell 17 = .ok (.aload_n 0, 1) := by decide +kernel
theorem dX11_signOfCell_18 : decode cX11_signOfCell 18 = .ok (.getfield 10, 3) := by decide +kernel
theorem dX11_signOfCell_21 : decode cX11_signOfCell 21 = .ok (.iload_n 1, 1) := by decide +kernel
theorem dX11_signOfCell_22 : decode cX11_signOfCell 22 = .ok (.invokevirtual 454, 3) := by decide +kernel
theorem dX11_signOfCell_25 : decode cX11_signOfCell 25 = .ok (.iconst (-1), 1) := by decide +kernel
theorem dX11_signOfCell_26 : decode cX11_signOfCell 26 = .ok (.if_icmp .ne 8, 3) := by decide +kernel
theorem dX11_signOfCell_29 : decode cX11_signOfCell 29 = .ok (.bipush 97, 2) := by decide +kernel
theorem dX11_signOfCell_31 : decode cX11_signOfCell 31 = .ok (.goto 5, 3) := by decide +kernel
theorem dX11_signOfCell_34 : decode cX11_signOfCell 34 = .ok (.bipush 65, 2) := by decide +kernel
theorem dX11_signOfCell_36 : decode cX11_signOfCell 36 = .ok (.iload_n 2, 1) := by decide +kernel
theorem dX11_signOfCell_37 : decode cX11_signOfCell 37 = .ok (.iadd, 1) := by decide +kernel
theorem dX11_signOfCell_38 : decode cX11_signOfCell 38 = .ok (.i2c, 1) := by decide +kernel
theorem dX11_signOfCell_39 : decode cX11_signOfCell 39 = .ok (.ireturn, 1) := by decide +kernel
theorem dX11_signOfStep_0 : decode cX11_signOfStep 0 = .ok (.iload_n 1, 1) := by decide +kernel
theorem dX11_signOfStep_1 : decode cX11_signOfStep 1 = .ok (.iload_n 0, 1) := by decide +kernel
theorem dX11_signOfStep_2 : decode cX11_signOfStep 2 = .ok (.iconst 1, 1) := by decide +kernel
theorem dX11_signOfStep_3 : decode cX11_signOfStep 3 = .ok (.iadd, 1) := by decide +kernel
theorem dX11_signOfStep_4 : decode cX11_signOfStep 4 = .ok (.if_icmp .ne 6, 3) := by decide +kernel
theorem dX11_signOfStep_7 : decode cX11_signOfStep 7 = .ok (.bipush 101, 2) := by decide +kernel
theorem dX11_signOfStep_9 : decode cX11_signOfStep 9 = .ok (.ireturn, 1) := by decide +kernel
theorem dX11_signOfStep_10 : decode cX11_signOfStep 10 = .ok (.iload_n 1, 1) := by decide +kernel
theorem dX11_signOfStep_11 : decode cX11_signOfStep 11 = .ok (.iload_n 0, 1) := by decide +kernel
theorem dX11_signOfStep_12 : decode cX11_signOfStep 12 = .ok (.iconst 1, 1) := by decide +kernel
theorem dX11_signOfStep_13 : decode cX11_signOfStep 13 = .ok (.isub, 1) := by decide +kernel
theorem dX11_signOfStep_14 : decode cX11_signOfStep 14 = .ok (.if_icmp .ne 6, 3) := by decide +kernel
theorem dX11_signOfStep_17 : decode cX11_signOfStep 17 = .ok (.bipush 119, 2) := by decide +kernel
theorem dX11_signOfStep_19 : decode cX11_signOfStep 19 = .ok (.ireturn, 1) := by decide +kernel
theorem dX11_signOfStep_20 : decode cX11_signOfStep 20 = .ok (.iload_n 1, 1) := by decide +kernel
theorem dX11_signOfStep_21 : decode cX11_signOfStep 21 = .ok (.iload_n 0, 1) := by decide +kernel
theorem dX11_signOfStep_22 : decode cX11_signOfStep 22 = .ok (.if_icmp .le 8, 3) := by decide +kernel
theorem dX11_signOfStep_25 : decode cX11_signOfStep 25 = .ok (.bipush 115, 2) := by decide +kernel
theorem dX11_signOfStep_27 : decode cX11_signOfStep 27 = .ok (.goto 5, 3) := by decide +kernel
theorem dX11_signOfStep_30 : decode cX11_signOfStep 30 = .ok (.bipush 110, 2) := by decide +kernel
theorem dX11_signOfStep_32 : decode cX11_signOfStep 32 = .ok (.ireturn, 1) := by decide +kernel
theorem dX11_beside_0 : decode cX11_beside 0 = .ok (.iload_n 0, 1) := by decide +kernel
theorem dX11_beside_1 : decode cX11_beside 1 = .ok (.invokestatic 382, 3) := by decide +kernel
theorem dX11_beside_4 : decode cX11_beside 4 = .ok (.ifCond .ne 5, 3) := by decide +kernel
theorem dX11_beside_7 : decode cX11_beside 7 = .ok (.iconst (-1), 1) := by decide +kernel
theorem dX11_beside_8 : decode cX11_beside 8 = .ok (.ireturn, 1) := by decide +kernel
theorem dX11_beside_9 : decode cX11_beside 9 = .ok (.iload_n 1, 1) := by decide +kernel
theorem dX11_beside_10 : decode cX11_beside 10 = .ok (.tableswitch 92 0 3 #[30, 45, 62, 77], 30) := by decide +kernel
theorem dX11_beside_40 : decode cX11_beside 40 = .ok (.iload_n 0, 1) := by decide +kernel
theorem dX11_beside_41 : decode cX11_beside 41 = .ok (.bipush 8, 2) := by decide +kernel
theorem dX11_beside_43 : decode cX11_beside 43 = .ok (.if_icmp .lt 10, 3) := by decide +kernel
theorem dX11_beside_46 : decode cX11_beside 46 = .ok (.iload_n 0, 1) := by decide +kernel
theorem dX11_beside_47 : decode cX11_beside 47 = .ok (.bipush 8, 2) := by decide +kernel
theorem dX11_beside_49 : decode cX11_beside 49 = .ok (.isub, 1) := by decide +kernel
theorem dX11_beside_50 : decode cX11_beside 50 = .ok (.goto 4, 3) := by decide +kernel
theorem dX11_beside_53 : decode cX11_beside 53 = .ok (.iconst (-1), 1) := by decide +kernel
theorem dX11_beside_54 : decode cX11_beside 54 = .ok (.ireturn, 1) := by decide +kernel
theorem dX11_beside_55 : decode cX11_beside 55 = .ok (.iload_n 0, 1) := by decide +kernel
theorem dX11_beside_56 : decode cX11_beside 56 = .ok (.bipush 8, 2) := by decide +kernel
theorem dX11_beside_58 : decode cX11_beside 58 = .ok (.irem, 1) := by decide +kernel
theorem dX11_beside_59 : decode cX11_beside 59 = .ok (.bipush 7, 2) := by decide +kernel
theorem dX11_beside_61 : decode cX11_beside 61 = .ok (.if_icmp .ge 9, 3) := by decide +kernel
theorem dX11_beside_64 : decode cX11_beside 64 = .ok (.iload_n 0, 1) := by decide +kernel
theorem dX11_beside_65 : decode cX11_beside 65 = .ok (.iconst 1, 1) := by decide +kernel
theorem dX11_beside_66 : decode cX11_beside 66 = .ok (.iadd, 1) := by decide +kernel
theorem dX11_beside_67 : decode cX11_beside 67 = .ok (.goto 4, 3) := by decide +kernel
theorem dX11_beside_70 : decode cX11_beside 70 = .ok (.iconst (-1), 1) := by decide +kernel
theorem dX11_beside_71 : decode cX11_beside 71 = .ok (.ireturn, 1) := by decide +kernel
theorem dX11_beside_72 : decode cX11_beside 72 = .ok (.iload_n 0, 1) := by decide +kernel
theorem dX11_beside_73 : decode cX11_beside 73 = .ok (.bipush 56, 2) := by decide +kernel
theorem dX11_beside_75 : decode cX11_beside 75 = .ok (.if_icmp .ge 10, 3) := by decide +kernel
theorem dX11_beside_78 : decode cX11_beside 78 = .ok (.iload_n 0, 1) := by decide +kernel
theorem dX11_beside_79 : decode cX11_beside 79 = .ok (.bipush 8, 2) := by decide +kernel
theorem dX11_beside_81 : decode cX11_beside 81 = .ok (.iadd, 1) := by decide +kernel
theorem dX11_beside_82 : decode cX11_beside 82 = .ok (.goto 4, 3) := by decide +kernel
theorem dX11_beside_85 : decode cX11_beside 85 = .ok (.iconst (-1), 1) := by decide +kernel
theorem dX11_beside_86 : decode cX11_beside 86 = .ok (.ireturn, 1) := by decide +kernel
theorem dX11_beside_87 : decode cX11_beside 87 = .ok (.iload_n 0, 1) := by decide +kernel
theorem dX11_beside_88 : decode cX11_beside 88 = .ok (.bipush 8, 2) := by decide +kernel
theorem dX11_beside_90 : decode cX11_beside 90 = .ok (.irem, 1) := by decide +kernel
theorem dX11_beside_91 : decode cX11_beside 91 = .ok (.ifCond .le 9, 3) := by decide +kernel
theorem dX11_beside_94 : decode cX11_beside 94 = .ok (.iload_n 0, 1) := by decide +kernel
theorem dX11_beside_95 : decode cX11_beside 95 = .ok (.iconst 1, 1) := by decide +kernel
theorem dX11_beside_96 : decode cX11_beside 96 = .ok (.isub, 1) := by decide +kernel
theorem dX11_beside_97 : decode cX11_beside 97 = .ok (.goto 4, 3) := by decide +kernel
theorem dX11_beside_100 : decode cX11_beside 100 = .ok (.iconst (-1), 1) := by decide +kernel
theorem dX11_beside_101 : decode cX11_beside 101 = .ok (.ireturn, 1) := by decide +kernel
theorem dX11_beside_102 : decode cX11_beside 102 = .ok (.iconst (-1), 1) := by decide +kernel
theorem dX11_beside_103 : decode cX11_beside 103 = .ok (.ireturn, 1) := by decide +kernel
