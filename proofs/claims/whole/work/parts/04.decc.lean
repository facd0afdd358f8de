theorem dX8_init_37 : decode cX8_init 37 = .ok (.putfield 19, 3) := by decide +kernel
theorem dX8_init_40 : decode cX8_init 40 = .ok (.aload_n 0, 1) := by decide +kernel
theorem dX8_init_41 : decode cX8_init 41 = .ok (.bipush 60, 2) := by decide +kernel
theorem dX8_init_43 : decode cX8_init 43 = .ok (.newarray .int, 2) := by decide +kernel
theorem dX8_init_45 : decode cX8_init 45 = .ok (.putfield 22, 3) := by decide +kernel
theorem dX8_init_48 : decode cX8_init 48 = .ok (.aload_n 0, 1) := by decide +kernel
theorem dX8_init_49 : decode cX8_init 49 = .ok (.bipush 12, 2) := by decide +kernel
theorem dX8_init_51 : decode cX8_init 51 = .ok (.newarray .int, 2) := by decide +kernel
theorem dX8_init_53 : decode cX8_init 53 = .ok (.putfield 25, 3) := by decide +kernel
theorem dX8_init_56 : decode cX8_init 56 = .ok (.aload_n 0, 1) := by decide +kernel
theorem dX8_init_57 : decode cX8_init 57 = .ok (.bipush 40, 2) := by decide +kernel
theorem dX8_init_59 : decode cX8_init 59 = .ok (.newarray .int, 2) := by decide +kernel
theorem dX8_init_61 : decode cX8_init 61 = .ok (.putfield 28, 3) := by decide +kernel
theorem dX8_init_64 : decode cX8_init 64 = .ok (.aload_n 0, 1) := by decide +kernel
theorem dX8_init_65 : decode cX8_init 65 = .ok (.bipush 40, 2) := by decide +kernel
theorem dX8_init_67 : decode cX8_init 67 = .ok (.newarray .int, 2) := by decide +kernel
theorem dX8_init_69 : decode cX8_init 69 = .ok (.putfield 31, 3) := by decide +kernel
theorem dX8_init_72 : decode cX8_init 72 = .ok (.aload_n 0, 1) := by decide +kernel
theorem dX8_init_73 : decode cX8_init 73 = .ok (.bipush 40, 2) := by decide +kernel
theorem dX8_init_75 : decode cX8_init 75 = .ok (.newarray .int, 2) := by decide +kernel
theorem dX8_init_77 : decode cX8_init 77 = .ok (.putfield 34, 3) := by decide +kernel
theorem dX8_init_80 : decode cX8_init 80 = .ok (.aload_n 0, 1) := by decide +kernel
theorem dX8_init_81 : decode cX8_init 81 = .ok (.bipush 40, 2) := by decide +kernel
theorem dX8_init_83 : decode cX8_init 83 = .ok (.newarray .int, 2) := by decide +kernel
theorem dX8_init_85 : decode cX8_init 85 = .ok (.putfield 37, 3) := by decide +kernel
theorem dX8_init_88 : decode cX8_init 88 = .ok (.aload_n 0, 1) := by decide +kernel
theorem dX8_init_89 : decode cX8_init 89 = .ok (.bipush 40, 2) := by decide +kernel
theorem dX8_init_91 : decode cX8_init 91 = .ok (.newarray .int, 2) := by decide +kernel
theorem dX8_init_93 : decode cX8_init 93 = .ok (.putfield 40, 3) := by decide +kernel
theorem dX8_init_96 : decode cX8_init 96 = .ok (.aload_n 0, 1) := by decide +kernel
theorem dX8_init_97 : decode cX8_init 97 = .ok (.sipush 480, 3) := by decide +kernel
theorem dX8_init_100 : decode cX8_init 100 = .ok (.newarray .int, 2) := by decide +kernel
theorem dX8_init_102 : decode cX8_init 102 = .ok (.putfield 43, 3) := by decide +kernel
theorem dX8_init_105 : decode cX8_init 105 = .ok (.aload_n 0, 1) := by decide +kernel
theorem dX8_init_106 : decode cX8_init 106 = .ok (.bipush 40, 2) := by decide +kernel
theorem dX8_init_108 : decode cX8_init 108 = .ok (.newarray .int, 2) := by decide +kernel
theorem dX8_init_110 : decode cX8_init 110 = .ok (.putfield 46, 3) := by decide +kernel
theorem dX8_init_113 : decode cX8_init 113 = .ok (.aload_n 0, 1) := by decide +kernel
theorem dX8_init_114 : decode cX8_init 114 = .ok (.iconst 3, 1) := by decide +kernel
theorem dX8_init_115 : decode cX8_init 115 = .ok (.newarray .int, 2) := by decide +kernel
theorem dX8_init_117 : decode cX8_init 117 = .ok (.putfield 49, 3) := by decide +kernel
theorem dX8_init_120 : decode cX8_init 120 = .ok (.bipush 120, 2) := by decide +kernel
theorem dX8_init_122 : decode cX8_init 122 = .ok (.istore_n 1, 1) := by decide +kernel
theorem dX8_init_123 : decode cX8_init 123 = .ok (.iload_n 1, 1) := by decide +kernel
theorem dX8_init_124 : decode cX8_init 124 = .ok (.sipush 230, 3) := by decide +kernel
theorem dX8_init_127 : decode cX8_init 127 = .ok (.if_icmp .ge 16, 3) := by decide +kernel
theorem dX8_init_130 : decode cX8_init 130 = .ok (.aload_n 0, 1) := by decide +kernel
theorem dX8_init_131 : decode cX8_init 131 = .ok (.getfield 7, 3) := by decide +kernel
theorem dX8_init_134 : decode cX8_init 134 = .ok (.iload_n 1, 1) := by decide +kernel
theorem dX8_init_135 : decode cX8_init 135 = .ok (.iconst (-1), 1) := by decide +kernel
theorem dX8_init_136 : decode cX8_init 136 = .ok (.iastore, 1) := by decide +kernel
theorem dX8_init_137 : decode cX8_init 137 = .ok (.iinc 1 1, 3) := by decide +kernel
theorem dX8_init_140 : decode cX8_init 140 = .ok (.goto (-17), 3) := by decide +kernel
theorem dX8_init_143 : decode cX8_init 143 = .ok (.return_, 1) := by decide +kernel
theorem dX8_in_0 : decode cX8_in 0 = .ok (.iload_n 0, 1) := by decide +kernel
theorem dX8_in_1 : decode cX8_in 1 = .ok (.iload_n 1, 1) := by decide +kernel
theorem dX8_in_2 : decode cX8_in 2 = .ok (.if_icmp .lt 12, 3) := by decide +kernel
theorem dX8_in_5 : decode cX8_in 5 = .ok (.iload_n 0, 1) := by decide +kernel
theorem dX8_in_6 : decode cX8_in 6 = .ok (.iload_n 2, 1) := by decide +kernel
theorem dX8_in_7 : decode cX8_in 7 = .ok (.if_icmp .gt 7, 3) := by decide +kernel
theorem dX8_in_10 : decode cX8_in 10 = .ok (.iconst 1, 1) := by decide +kernel
theorem dX8_in_11 : decode cX8_in 11 = .ok (.goto 4, 3) := by decide +kernel
theorem dX8_in_14 : decode cX8_in 14 = .ok (.iconst 0, 1) := by decide +kernel
theorem dX8_in_15 : decode cX8_in 15 = .ok (.ireturn, 1) := by decide +kernel
theorem dX8_isName_0 : decode cX8_isName 0 = .ok (.iload_n 0, 1) := by decide +kernel
theorem dX8_isName_1 : decode cX8_isName 1 = .ok (.iconst 0, 1) := by decide +kernel
theorem dX8_isName_2 : decode cX8_isName 2 = .ok (.bipush 29, 2) := by decide +kernel
theorem dX8_isName_4 : decode cX8_isName 4 = .ok (.invokestatic 52, 3) := by decide +kernel
theorem dX8_isName_7 : decode cX8_isName 7 = .ok (.ireturn, 1) := by decide +kernel
theorem dX8_isPage_0 : decode cX8_isPage 0 = .ok (.iload_n 0, 1) := by decide +kernel
theorem dX8_isPage_1 : decode cX8_isPage 1 = .ok (.iconst 0, 1) := by decide +kernel
theorem dX8_isPage_2 : decode cX8_isPage 2 = .ok (.bipush 39, 2) := by decide +kernel
theorem dX8_isPage_4 : decode cX8_isPage 4 = .ok (.invokestatic 52, 3) := by decide +kernel
theorem dX8_isPage_7 : decode cX8_isPage 7 = .ok (.ireturn, 1) := by decide +kernel
theorem dX8_copies_0 : decode cX8_copies 0 = .ok (.iconst 0, 1) := by decide +kernel
theorem dX8_copies_1 : decode cX8_copies 1 = .ok (.istore_n 2, 1) := by decide +kernel
theorem dX8_copies_2 : decode cX8_copies 2 = .ok (.iload_n 2, 1) := by decide +kernel
theorem dX8_copies_3 : decode cX8_copies 3 = .ok (.sipush 252, 3) := by decide +kernel
theorem dX8_copies_6 : decode cX8_copies 6 = .ok (.if_icmp .ge 15, 3) := by decide +kernel
theorem dX8_copies_9 : decode cX8_copies 9 = .ok (.aload_n 1, 1) := by decide +kernel
theorem dX8_copies_10 : decode cX8_copies 10 = .ok (.iload_n 2, 1) := by decide +kernel
theorem dX8_copies_11 : decode cX8_copies 11 = .ok (.aload_n 0, 1) := by decide +kernel
theorem dX8_copies_12 : decode cX8_copies 12 = .ok (.iload_n 2, 1) := by decide +kernel
theorem dX8_copies_13 : decode cX8_copies 13 = .ok (.iaload, 1) := by decide +kernel
theorem dX8_copies_14 : decode cX8_copies 14 = .ok (.iastore, 1) := by decide +kernel
theorem dX8_copies_15 : decode cX8_copies 15 = .ok (.iinc 2 1, 3) := by decide +kernel
theorem dX8_copies_18 : decode cX8_copies 18 = .ok (.goto (-16), 3) := by decide +kernel
theorem dX8_copies_21 : decode cX8_copies 21 = .ok (.return_, 1) := by decide +kernel
theorem dX8_changes_0 : decode cX8_changes 0 = .ok (.aload_n 0, 1) := by decide +kernel
theorem dX8_changes_1 : decode cX8_changes 1 = .ok (.getfield 56, 3) := by decide +kernel
theorem dX8_changes_4 : decode cX8_changes 4 = .ok (.ifCond .eq 4, 3) := by decide +kernel
theorem dX8_changes_7 : decode cX8_changes 7 = .ok (.return_, 1) := by decide +kernel
theorem dX8_changes_8 : decode cX8_changes 8 = .ok (.aload_n 0, 1) := by decide +kernel
theorem dX8_changes_9 : decode cX8_changes 9 = .ok (.getfield 60, 3) := by decide +kernel
theorem dX8_changes_12 : decode cX8_changes 12 = .ok (.iconst 4, 1) := by decide +kernel
theorem dX8_changes_13 : decode cX8_changes 13 = .ok (.if_icmp .ne 44, 3) := by decide +kernel
theorem dX8_changes_16 : decode cX8_changes 16 = .ok (.iconst 0, 1) := by decide +kernel
theorem dX8_changes_17 : decode cX8_changes 17 = .ok (.istore_n 1, 1) := by decide +kernel
theorem dX8_changes_18 : decode cX8_changes 18 = .ok (.iload_n 1, 1) := by decide +kernel
theorem dX8_changes_19 : decode cX8_changes 19 = .ok (.sipush 756, 3) := by decide +kernel
theorem dX8_changes_22 : decode cX8_changes 22 = .ok (.if_icmp .ge 25, 3) := by decide +kernel
theorem dX8_changes_25 : decode cX8_changes 25 = .ok (.aload_n 0, 1) := by decide +kernel
theorem dX8_changes_26 : decode cX8_changes 26 = .ok (.getfield 13, 3) := by decide +kernel
theorem dX8_changes_29 : decode cX8_changes 29 = .ok (.iload_n 1, 1) := by decide +kernel
theorem dX8_changes_30 : decode cX8_changes 30 = .ok (.aload_n 0, 1) := by decide +kernel
theorem dX8_changes_31 : decode cX8_changes 31 = .ok (.getfield 13, 3) := by decide +kernel
theorem dX8_changes_34 : decode cX8_changes 34 = .ok (.iload_n 1, 1) := by decide +kernel
theorem dX8_changes_35 : decode cX8_changes 35 = .ok (.sipush 252, 3) := by decide +kernel
theorem dX8_changes_38 : decode cX8_changes 38 = .ok (.iadd, 1) := by decide +kernel
theorem dX8_changes_39 : decode cX8_changes 39 = .ok (.iaload, 1) := by decide +kernel
theorem dX8_changes_40 : decode cX8_changes 40 = .ok (.iastore, 1) := by decide +kernel
theorem dX8_changes_41 : decode cX8_changes 41 = .ok (.iinc 1 1, 3) := by decide +kernel
theorem dX8_changes_44 : decode cX8_changes 44 = .ok (.goto (-26), 3) := by decide +kernel
theorem dX8_changes_47 : decode cX8_changes 47 = .ok (.aload_n 0, 1) := by decide +kernel
theorem dX8_changes_48 : decode cX8_changes 48 = .ok (.dup, 1) := by decide +kernel
theorem dX8_changes_49 : decode cX8_changes 49 = .ok (.getfield 60, 3) := by decide +kernel
theorem dX8_changes_52 : decode cX8_changes 52 = .ok (.iconst 1, 1) := by decide +kernel
theorem dX8_changes_53 : decode cX8_changes 53 = .ok (.isub, 1) := by decide +kernel
theorem dX8_changes_54 : decode cX8_changes 54 = .ok (.putfield 60, 3) := by decide +kernel
theorem dX8_changes_57 : decode cX8_changes 57 = .ok (.iconst 0, 1) := by decide +kernel
theorem dX8_changes_58 : decode cX8_changes 58 = .ok (.istore_n 1, 1) := by decide +kernel
theorem dX8_changes_59 : decode cX8_changes 59 = .ok (.iload_n 1, 1) := by decide +kernel
theorem dX8_changes_60 : decode cX8_changes 60 = .ok (.sipush 252, 3) := by decide +kernel
theorem dX8_changes_63 : decode cX8_changes 63 = .ok (.if_icmp .ge 30, 3) := by decide +kernel
theorem dX8_changes_66 : decode cX8_changes 66 = .ok (.aload_n 0, 1) := by decide +kernel
theorem dX8_changes_67 : decode cX8_changes 67 = .ok (.getfield 13, 3) := by decide +kernel
theorem dX8_changes_70 : decode cX8_changes 70 = .ok (.sipush 252, 3) := by decide +kernel
theorem dX8_changes_73 : decode cX8_changes 73 = .ok (.aload_n 0, 1) := by decide +kernel
theorem dX8_changes_74 : decode cX8_changes 74 = .ok (.getfield 60, 3) := by decide +kernel
theorem dX8_changes_77 : decode cX8_changes 77 = .ok (.imul, 1) := by decide +kernel
theorem dX8_changes_78 : decode cX8_changes 78 = .ok (.iload_n 1, 1) := by decide +kernel
theorem dX8_changes_79 : decode cX8_changes 79 = .ok (.iadd, 1) := by decide +kernel
theorem dX8_changes_80 : decode cX8_changes 80 = .ok (.aload_n 0, 1) := by decide +kernel
theorem dX8_changes_81 : decode cX8_changes 81 = .ok (.getfield 7, 3) := by decide +kernel
theorem dX8_changes_84 : decode cX8_changes 84 = .ok (.iload_n 1, 1) := by decide +kernel
theorem dX8_changes_85 : decode cX8_changes 85 = .ok (.iaload, 1) := by decide +kernel
theorem dX8_changes_86 : decode cX8_changes 86 = .ok (.iastore, 1) := by decide +kernel
theorem dX8_changes_87 : decode cX8_changes 87 = .ok (.iinc 1 1, 3) := by decide +kernel
theorem dX8_changes_90 : decode cX8_changes 90 = .ok (.goto (-31), 3) := by decide +kernel
theorem dX8_changes_93 : decode cX8_changes 93 = .ok (.aload_n 0, 1) := by decide +kernel
theorem dX8_changes_94 : decode cX8_changes 94 = .ok (.dup, 1) := by decide +kernel
theorem dX8_changes_95 : decode cX8_changes 95 = .ok (.getfield 60, 3) := by decide +kernel
theorem dX8_changes_98 : decode cX8_changes 98 = .ok (.iconst 1, 1) := by decide +kernel
theorem dX8_changes_99 : decode cX8_changes 99 = .ok (.iadd, 1) := by decide +kernel
theorem dX8_changes_100 : decode cX8_changes 100 = .ok (.putfield 60, 3) := by decide +kernel
theorem dX8_changes_103 : decode cX8_changes 103 = .ok (.return_, 1) := by decide +kernel
theorem dX8_isFree_0 : decode cX8_isFree 0 = .ok (.iload_n 1, 1) := by decide +kernel
theorem dX8_isFree_1 : decode cX8_isFree 1 = .ok (.invokestatic 64, 3) := by decide +kernel
theorem dX8_isFree_4 : decode cX8_isFree 4 = .ok (.ifCond .eq 20, 3) := by decide +kernel
theorem dX8_isFree_7 : decode cX8_isFree 7 = .ok (.aload_n 0, 1) := by decide +kernel
theorem dX8_isFree_8 : decode cX8_isFree 8 = .ok (.getfield 7, 3) := by decide +kernel
theorem dX8_isFree_11 : decode cX8_isFree 11 = .ok (.sipush 160, 3) := by decide +kernel
theorem dX8_isFree_14 : decode cX8_isFree 14 = .ok (.iload_n 1, 1) := by decide +kernel
theorem dX8_isFree_15 : decode cX8_isFree 15 = .ok (.iadd, 1) := by decide +kernel
theorem dX8_isFree_16 : decode cX8_isFree 16 = .ok (.iaload, 1) := by decide +kernel
theorem dX8_isFree_17 : decode cX8_isFree 17 = .ok (.ifCond .ge 7, 3) := by decide +kernel
theorem dX8_isFree_20 : decode cX8_isFree 20 = .ok (.iconst 1, 1) := by decide +kernel
theorem dX8_isFree_21 : decode cX8_isFree 21 = .ok (.goto 4, 3) := by decide +kernel
theorem dX8_isFree_24 : decode cX8_isFree 24 = .ok (.iconst 0, 1) := by decide +kernel
theorem dX8_isFree_25 : decode cX8_isFree 25 = .ok (.ireturn, 1) := by decide +kernel
theorem dX8_free_0 : decode cX8_free 0 = .ok (.iconst 0, 1) := by decide +kernel
theorem dX8_free_1 : decode cX8_free 1 = .ok (.istore_n 1, 1) := by decide +kernel
theorem dX8_free_2 : decode cX8_free 2 = .ok (.iconst 0, 1) := by decide +kernel
theorem dX8_free_3 : decode cX8_free 3 = .ok (.istore_n 2, 1) := by decide +kernel
theorem dX8_free_4 : decode cX8_free 4 = .ok (.iload_n 2, 1) := by decide +kernel
theorem dX8_free_5 : decode cX8_free 5 = .ok (.bipush 40, 2) := by decide +kernel
theorem dX8_free_7 : decode cX8_free 7 = .ok (.if_icmp .ge 25, 3) := by decide +kernel
theorem dX8_free_10 : decode cX8_free 10 = .ok (.iload_n 1, 1) := by decide +kernel
theorem dX8_free_11 : decode cX8_free 11 = .ok (.aload_n 0, 1) := by decide +kernel
theorem dX8_free_12 : decode cX8_free 12 = .ok (.iload_n 2, 1) := by decide +kernel
theorem dX8_free_13 : decode cX8_free 13 = .ok (.invokevirtual 68, 3) := by decide +kernel
theorem dX8_free_16 : decode cX8_free 16 = .ok (.ifCond .eq 7, 3) := by decide +kernel
theorem dX8_free_19 : decode cX8_free 19 = .ok (.iconst 1, 1) := by decide +kernel
theorem dX8_free_20 : decode cX8_free 20 = .ok (.goto 4, 3) := by decide +kernel
theorem dX8_free_23 : decode cX8_free 23 = .ok (.iconst 0, 1) := by decide +kernel
theorem dX8_free_24 : decode cX8_free 24 = .ok (.iadd, 1) := by decide +kernel
theorem dX8_free_25 : decode cX8_free 25 = .ok (.istore_n 1, 1) := by decide +kernel
theorem dX8_free_26 : decode cX8_free 26 = .ok (.iinc 2 1, 3) := by decide +kernel
theorem dX8_free_29 : decode cX8_free 29 = .ok (.goto (-25), 3) := by decide +kernel
theorem dX8_free_32 : decode cX8_free 32 = .ok (.iload_n 1, 1) := by decide +kernel
theorem dX8_free_33 : decode cX8_free 33 = .ok (.ireturn, 1) := by decide +kernel
theorem dX8_run_0 : decode cX8_run 0 = .ok (.ldc 71, 2) := by decide +kernel
theorem dX8_run_2 : decode cX8_run 2 = .ok (.istore_n 2, 1) := by decide +kernel
theorem dX8_run_3 : decode cX8_run 3 = .ok (.bipush 40, 2) := by decide +kernel
theorem dX8_run_5 : decode cX8_run 5 = .ok (.iload_n 1, 1) := by decide +kernel
theorem dX8_run_6 : decode cX8_run 6 = .ok (.isub, 1) := by decide +kernel
theorem dX8_run_7 : decode cX8_run 7 = .ok (.istore_n 3, 1) := by decide +kernel
theorem dX8_run_8 : decode cX8_run 8 = .ok (.iload_n 3, 1) := by decide +kernel
theorem dX8_run_9 : decode cX8_run 9 = .ok (.ifCond .lt 61, 3) := by decide +kernel
theorem dX8_run_12 : decode cX8_run 12 = .ok (.iconst 1, 1) := by decide +kernel
theorem dX8_run_13 : decode cX8_run 13 = .ok (.istore 4, 2) := by decide +kernel
theorem dX8_run_15 : decode cX8_run 15 = .ok (.iconst 0, 1) := by decide +kernel
theorem dX8_run_16 : decode cX8_run 16 = .ok (.istore 5, 2) := by decide +kernel
theorem dX8_run_18 : decode cX8_run 18 = .ok (.iload 5, 2) := by decide +kernel
theorem dX8_run_20 : decode cX8_run 20 = .ok (.iload_n 1, 1) := by decide +kernel
theorem dX8_run_21 : decode cX8_run 21 = .ok (.if_icmp .ge 32, 3) := by decide +kernel
theorem dX8_run_24 : decode cX8_run 24 = .ok (.iload 4, 2) := by decide +kernel
theorem dX8_run_26 : decode cX8_run 26 = .ok (.ifCond .eq 18, 3) := by decide +kernel
theorem dX8_run_29 : decode cX8_run 29 = .ok (.aload_n 0, 1) := by decide +kernel
theorem dX8_run_30 : decode cX8_run 30 = .ok (.iload_n 3, 1) := by decide +kernel
theorem dX8_run_31 : decode cX8_run 31 = .ok (.iload 5, 2) := by decide +kernel
theorem dX8_run_33 : decode cX8_run 33 = .ok (.iadd, 1) := by decide +kernel
theorem dX8_run_34 : decode cX8_run 34 = .ok (.invokevirtual 68, 3) := by decide +kernel
theorem dX8_run_37 : decode cX8_run 37 = .ok (.ifCond .eq 7, 3) := by decide +kernel
theorem dX8_run_40 : decode cX8_run 40 = .ok (.iconst 1, 1) := by decide +kernel
theorem dX8_run_41 : decode cX8_run 41 = .ok (.goto 4, 3) := by decide +kernel
theorem dX8_run_44 : decode cX8_run 44 = .ok (.iconst 0, 1) := by decide +kernel
theorem dX8_run_45 : decode cX8_run 45 = .ok (.istore 4, 2) := by decide +kernel
theorem dX8_run_47 : decode cX8_run 47 = .ok (.iinc 5 1, 3) := by decide +kernel
theorem dX8_run_50 : decode cX8_run 50 = .ok (.goto (-32), 3) := by decide +kernel
theorem dX8_run_53 : decode cX8_run 53 = .ok (.iload 4, 2) := by decide +kernel
theorem dX8_run_55 : decode cX8_run 55 = .ok (.ifCond .eq 7, 3) := by decide +kernel
theorem dX8_run_58 : decode cX8_run 58 = .ok (.iload_n 3, 1) := by decide +kernel
theorem dX8_run_59 : decode cX8_run 59 = .ok (.goto 4, 3) := by decide +kernel
theorem dX8_run_62 : decode cX8_run 62 = .ok (.iload_n 2, 1) := by decide +kernel
theorem dX8_run_63 : decode cX8_run 63 = .ok (.istore_n 2, 1) := by decide +kernel
theorem dX8_run_64 : decode cX8_run 64 = .ok (.iinc 3 (-1), 3) := by decide +kernel
theorem dX8_run_67 : decode cX8_run 67 = .ok (.goto (-59), 3) := by decide +kernel
theorem dX8_run_70 : decode cX8_run 70 = .ok (.iload_n 2, 1) := by decide +kernel
theorem dX8_run_71 : decode cX8_run 71 = .ok (.ireturn, 1) := by decide +kernel
theorem dX8_chooses_0 : decode cX8_chooses 0 = .ok (.iload_n 2, 1) := by decide +kernel
theorem dX8_chooses_1 : decode cX8_chooses 1 = .ok (.iconst 1, 1) := by decide +kernel
theorem dX8_chooses_2 : decode cX8_chooses 2 = .ok (.if_icmp .ne 11, 3) := by decide +kernel
theorem dX8_chooses_5 : decode cX8_chooses 5 = .ok (.aload_n 0, 1) := by decide +kernel
theorem dX8_chooses_6 : decode cX8_chooses 6 = .ok (.iload_n 1, 1) := by decide +kernel
theorem dX8_chooses_7 : decode cX8_chooses 7 = .ok (.invokevirtual 72, 3) := by decide +kernel
theorem dX8_chooses_10 : decode cX8_chooses 10 = .ok (.goto 5, 3) := by decide +kernel
theorem dX8_chooses_13 : decode cX8_chooses 13 = .ok (.ldc 71, 2) := by decide +kernel
theorem dX8_chooses_15 : decode cX8_chooses 15 = .ok (.istore_n 3, 1) := by decide +kernel
theorem dX8_chooses_16 : decode cX8_chooses 16 = .ok (.iconst 0, 1) := by decide +kernel
theorem dX8_chooses_17 : decode cX8_chooses 17 = .ok (.istore 4, 2) := by decide +kernel
theorem dX8_chooses_19 : decode cX8_chooses 19 = .ok (.iload_n 3, 1) := by decide +kernel
theorem dX8_chooses_20 : decode cX8_chooses 20 = .ok (.ifCond .lt 7, 3) := by decide +kernel
theorem dX8_chooses_23 : decode cX8_chooses 23 = .ok (.iload_n 3, 1) := by decide +kernel
theorem dX8_chooses_24 : decode cX8_chooses 24 = .ok (.goto 4, 3) := by decide +kernel
theorem dX8_chooses_27 : decode cX8_chooses 27 = .ok (.iconst 0, 1) := by decide +kernel
theorem dX8_chooses_28 : decode cX8_chooses 28 = .ok (.istore 5, 2) := by decide +kernel
theorem dX8_chooses_30 : decode cX8_chooses 30 = .ok (.iconst 0, 1) := by decide +kernel
theorem dX8_chooses_31 : decode cX8_chooses 31 = .ok (.istore 6, 2) := by decide +kernel
theorem dX8_chooses_33 : decode cX8_chooses 33 = .ok (.iload 6, 2) := by decide +kernel
theorem dX8_chooses_35 : decode cX8_chooses 35 = .ok (.bipush 40, 2) := by decide +kernel
theorem dX8_chooses_37 : decode cX8_chooses 37 = .ok (.iload 5, 2) := by decide +kernel
theorem dX8_chooses_39 : decode cX8_chooses 39 = .ok (.isub, 1) := by decide +kernel
theorem dX8_chooses_40 : decode cX8_chooses 40 = .ok (.if_icmp .ge 56, 3) := by decide +kernel
theorem dX8_chooses_43 : decode cX8_chooses 43 = .ok (.iload 4, 2) := by decide +kernel
theorem dX8_chooses_45 : decode cX8_chooses 45 = .ok (.iload_n 1, 1) := by decide +kernel
theorem dX8_chooses_46 : decode cX8_chooses 46 = .ok (.if_icmp .ge 50, 3) := by decide +kernel
theorem dX8_chooses_49 : decode cX8_chooses 49 = .ok (.iload_n 2, 1) := by decide +kernel
theorem dX8_chooses_50 : decode cX8_chooses 50 = .ok (.iconst 2, 1) := by decide +kernel
theorem dX8_chooses_51 : decode cX8_chooses 51 = .ok (.if_icmp .ne 11, 3) := by decide +kernel
theorem dX8_chooses_54 : decode cX8_chooses 54 = .ok (.bipush 39, 2) := by decide +kernel
theorem dX8_chooses_56 : decode cX8_chooses 56 = .ok (.iload 6, 2) := by decide +kernel
theorem dX8_chooses_58 : decode cX8_chooses 58 = .ok (.isub, 1) := by decide +kernel
theorem dX8_chooses_59 : decode cX8_chooses 59 = .ok (.goto 8, 3) := by decide +kernel
theorem dX8_chooses_62 : decode cX8_chooses 62 = .ok (.iload 5, 2) := by decide +kernel
theorem dX8_chooses_64 : decode cX8_chooses 64 = .ok (.iload 6, 2) := by decide +kernel
theorem dX8_chooses_66 : decode cX8_chooses 66 = .ok (.iadd, 1) := by decide +kernel
theorem dX8_chooses_67 : decode cX8_chooses 67 = .ok (.istore 7, 2) := by decide +kernel
theorem dX8_chooses_69 : decode cX8_chooses 69 = .ok (.aload_n 0, 1) := by decide +kernel
theorem dX8_chooses_70 : decode cX8_chooses 70 = .ok (.iload 7, 2) := by decide +kernel
theorem dX8_chooses_72 : decode cX8_chooses 72 = .ok (.invokevirtual 68, 3) := by decide +kernel
theorem dX8_chooses_75 : decode cX8_chooses 75 = .ok (.ifCond .eq 15, 3) := by decide +kernel
theorem dX8_chooses_78 : decode cX8_chooses 78 = .ok (.aload_n 0, 1) := by decide +kernel
theorem dX8_chooses_79 : decode cX8_chooses 79 = .ok (.getfield 25, 3) := by decide +kernel
theorem dX8_chooses_82 : decode cX8_chooses 82 = .ok (.iload 4, 2) := by decide +kernel
theorem dX8_chooses_84 : decode cX8_chooses 84 = .ok (.iload 7, 2) := by decide +kernel
theorem dX8_chooses_86 : decode cX8_chooses 86 = .ok (.iastore, 1) := by decide +kernel
theorem dX8_chooses_87 : decode cX8_chooses 87 = .ok (.iinc 4 1, 3) := by decide +kernel
theorem dX8_chooses_90 : decode cX8_chooses 90 = .ok (.iinc 6 1, 3) := by decide +kernel
theorem dX8_chooses_93 : decode cX8_chooses 93 = .ok (.goto (-60), 3) := by decide +kernel
theorem dX8_chooses_96 : decode cX8_chooses 96 = .ok (.iload 4, 2) := by decide +kernel
theorem dX8_chooses_98 : decode cX8_chooses 98 = .ok (.iload_n 1, 1) := by decide +kernel
theorem dX8_chooses_99 : decode cX8_chooses 99 = .ok (.if_icmp .ne 7, 3) := by decide +kernel
theorem dX8_chooses_102 : decode cX8_chooses 102 = .ok (.iconst 1, 1) := by decide +kernel
theorem dX8_chooses_103 : decode cX8_chooses 103 = .ok (.goto 4, 3) := by decide +kernel
theorem dX8_chooses_106 : decode cX8_chooses 106 = .ok (.iconst 0, 1) := by decide +kernel
theorem dX8_chooses_107 : decode cX8_chooses 107 = .ok (.ireturn, 1) := by decide +kernel
theorem dX8_lays_0 : decode cX8_lays 0 = .ok (.iconst 0, 1) := by decide +kernel
theorem dX8_lays_1 : decode cX8_lays 1 = .ok (.istore 4, 2) := by decide +kernel
theorem dX8_lays_3 : decode cX8_lays 3 = .ok (.iload 4, 2) := by decide +kernel
theorem dX8_lays_5 : decode cX8_lays 5 = .ok (.iload_n 3, 1) := by decide +kernel
theorem dX8_lays_6 : decode cX8_lays 6 = .ok (.if_icmp .ge 102, 3) := by decide +kernel
theorem dX8_lays_9 : decode cX8_lays 9 = .ok (.aload_n 0, 1) := by decide +kernel
theorem dX8_lays_10 : decode cX8_lays 10 = .ok (.getfield 25, 3) := by decide +kernel
theorem dX8_lays_13 : decode cX8_lays 13 = .ok (.iload 4, 2) := by decide +kernel
theorem dX8_lays_15 : decode cX8_lays 15 = .ok (.iaload, 1) := by decide +kernel
theorem dX8_lays_16 : decode cX8_lays 16 = .ok (.istore 5, 2) := by decide +kernel
theorem dX8_lays_18 : decode cX8_lays 18 = .ok (.aload_n 0, 1) := by decide +kernel
theorem dX8_lays_19 : decode cX8_lays 19 = .ok (.getfield 7, 3) := by decide +kernel
theorem dX8_lays_22 : decode cX8_lays 22 = .ok (.iconst 0, 1) := by decide +kernel
theorem dX8_lays_23 : decode cX8_lays 23 = .ok (.iload 5, 2) := by decide +kernel
theorem dX8_lays_25 : decode cX8_lays 25 = .ok (.iadd, 1) := by decide +kernel
theorem dX8_lays_26 : decode cX8_lays 26 = .ok (.iload 4, 2) := by decide +kernel
theorem dX8_lays_28 : decode cX8_lays 28 = .ok (.ifCond .ne 7, 3) := by decide +kernel
theorem dX8_lays_31 : decode cX8_lays 31 = .ok (.iconst 1, 1) := by decide +kernel
theorem dX8_lays_32 : decode cX8_lays 32 = .ok (.goto 4, 3) := by decide +kernel
theorem dX8_lays_35 : decode cX8_lays 35 = .ok (.iconst 2, 1) := by decide +kernel
theorem dX8_lays_36 : decode cX8_lays 36 = .ok (.iastore, 1) := by decide +kernel
theorem dX8_lays_37 : decode cX8_lays 37 = .ok (.aload_n 0, 1) := by decide +kernel
theorem dX8_lays_38 : decode cX8_lays 38 = .ok (.getfield 7, 3) := by decide +kernel
theorem dX8_lays_41 : decode cX8_lays 41 = .ok (.bipush 40, 2) := by decide +kernel
theorem dX8_lays_43 : decode cX8_lays 43 = .ok (.iload 5, 2) := by decide +kernel
theorem dX8_lays_45 : decode cX8_lays 45 = .ok (.iadd, 1) := by decide +kernel
theorem dX8_lays_46 : decode cX8_lays 46 = .ok (.iload_n 2, 1) := by decide +kernel
theorem dX8_lays_47 : decode cX8_lays 47 = .ok (.iastore, 1) := by decide +kernel
theorem dX8_lays_48 : decode cX8_lays 48 = .ok (.aload_n 0, 1) := by decide +kernel
theorem dX8_lays_49 : decode cX8_lays 49 = .ok (.getfield 7, 3) := by decide +kernel
theorem dX8_lays_52 : decode cX8_lays 52 = .ok (.bipush 80, 2) := by decide +kernel
theorem dX8_lays_54 : decode cX8_lays 54 = .ok (.iload 5, 2) := by decide +kernel
theorem dX8_lays_56 : decode cX8_lays 56 = .ok (.iadd, 1) := by decide +kernel
theorem dX8_lays_57 : decode cX8_lays 57 = .ok (.iload_n 3, 1) := by decide +kernel
theorem dX8_lays_58 : decode cX8_lays 58 = .ok (.iastore, 1) := by decide +kernel
theorem dX8_lays_59 : decode cX8_lays 59 = .ok (.aload_n 0, 1) := by decide +kernel
theorem dX8_lays_60 : decode cX8_lays 60 = .ok (.getfield 7, 3) := by decide +kernel
theorem dX8_lays_63 : decode cX8_lays 63 = .ok (.bipush 120, 2) := by decide +kernel
theorem dX8_lays_65 : decode cX8_lays 65 = .ok (.iload 5, 2) := by decide +kernel
theorem dX8_lays_67 : decode cX8_lays 67 = .ok (.iadd, 1) := by decide +kernel
theorem dX8_lays_68 : decode cX8_lays 68 = .ok (.iload 4, 2) := by decide +kernel
theorem dX8_lays_70 : decode cX8_lays 70 = .ok (.iconst 1, 1) := by decide +kernel
theorem dX8_lays_71 : decode cX8_lays 71 = .ok (.iadd, 1) := by decide +kernel
theorem dX8_lays_72 : decode cX8_lays 72 = .ok (.iload_n 3, 1) := by decide +kernel
theorem dX8_lays_73 : decode cX8_lays 73 = .ok (.if_icmp .ge 15, 3) := by decide +kernel
theorem dX8_lays_76 : decode cX8_lays 76 = .ok (.aload_n 0, 1) := by decide +kernel
theorem dX8_lays_77 : decode cX8_lays 77 = .ok (.getfield 25, 3) := by decide +kernel
theorem dX8_lays_80 : decode cX8_lays 80 = .ok (.iload 4, 2) := by decide +kernel
theorem dX8_lays_82 : decode cX8_lays 82 = .ok (.iconst 1, 1) := by decide +kernel
theorem dX8_lays_83 : decode cX8_lays 83 = .ok (.iadd, 1) := by decide +kernel
theorem dX8_lays_84 : decode cX8_lays 84 = .ok (.iaload, 1) := by decide +kernel
theorem dX8_lays_85 : decode cX8_lays 85 = .ok (.goto 4, 3) := by decide +kernel
theorem dX8_lays_88 : decode cX8_lays 88 = .ok (.iconst (-1), 1) := by decide +kernel
theorem dX8_lays_89 : decode cX8_lays 89 = .ok (.iastore, 1) := by decide +kernel
theorem dX8_lays_90 : decode cX8_lays 90 = .ok (.aload_n 0, 1) := by decide +kernel
theorem dX8_lays_91 : decode cX8_lays 91 = .ok (.getfield 7, 3) := by decide +kernel
theorem dX8_lays_94 : decode cX8_lays 94 = .ok (.sipush 160, 3) := by decide +kernel
theorem dX8_lays_97 : decode cX8_lays 97 = .ok (.iload 5, 2) := by decide +kernel
theorem dX8_lays_99 : decode cX8_lays 99 = .ok (.iadd, 1) := by decide +kernel
theorem dX8_lays_100 : decode cX8_lays 100 = .ok (.iload_n 1, 1) := by decide +kernel
theorem dX8_lays_101 : decode cX8_lays 101 = .ok (.iastore, 1) := by decide +kernel
theorem dX8_lays_102 : decode cX8_lays 102 = .ok (.iinc 4 1, 3) := by decide +kernel
theorem dX8_lays_105 : decode cX8_lays 105 = .ok (.goto (-102), 3) := by decide +kernel
theorem dX8_lays_108 : decode cX8_lays 108 = .ok (.aload_n 0, 1) := by decide +kernel
theorem dX8_lays_109 : decode cX8_lays 109 = .ok (.getfield 7, 3) := by decide +kernel
theorem dX8_lays_112 : decode cX8_lays 112 = .ok (.sipush 200, 3) := by decide +kernel
theorem dX8_lays_115 : decode cX8_lays 115 = .ok (.iload_n 1, 1) := by decide +kernel
theorem dX8_lays_116 : decode cX8_lays 116 = .ok (.iadd, 1) := by decide +kernel
theorem dX8_lays_117 : decode cX8_lays 117 = .ok (.aload_n 0, 1) := by decide +kernel
theorem dX8_lays_118 : decode cX8_lays 118 = .ok (.getfield 25, 3) := by decide +kernel
theorem dX8_lays_121 : decode cX8_lays 121 = .ok (.iconst 0, 1) := by decide +kernel
theorem dX8_lays_122 : decode cX8_lays 122 = .ok (.iaload, 1) := by decide +kernel
theorem dX8_lays_123 : decode cX8_lays 123 = .ok (.iastore, 1) := by decide +kernel
theorem dX8_lays_124 : decode cX8_lays 124 = .ok (.return_, 1) := by decide +kernel
theorem dX8_write_0 : decode cX8_write 0 = .ok (.iload_n 1, 1) := by decide +kernel
theorem dX8_write_1 : decode cX8_write 1 = .ok (.invokestatic 76, 3) := by decide +kernel
theorem dX8_write_4 : decode cX8_write 4 = .ok (.ifCond .eq 33, 3) := by decide +kernel
theorem dX8_write_7 : decode cX8_write 7 = .ok (.iload_n 2, 1) := by decide +kernel
theorem dX8_write_8 : decode cX8_write 8 = .ok (.iconst 0, 1) := by decide +kernel
theorem dX8_write_9 : decode cX8_write 9 = .ok (.bipush 9, 2) := by decide +kernel
theorem dX8_write_11 : decode cX8_write 11 = .ok (.invokestatic 52, 3) := by decide +kernel
theorem dX8_write_14 : decode cX8_write 14 = .ok (.ifCond .eq 23, 3) := by decide +kernel
theorem dX8_write_17 : decode cX8_write 17 = .ok (.iload_n 3, 1) := by decide +kernel
theorem dX8_write_18 : decode cX8_write 18 = .ok (.iconst 1, 1) := by decide +kernel
theorem dX8_write_19 : decode cX8_write 19 = .ok (.bipush 12, 2) := by decide +kernel
theorem dX8_write_21 : decode cX8_write 21 = .ok (.invokestatic 52, 3) := by decide +kernel
theorem dX8_write_24 : decode cX8_write 24 = .ok (.ifCond .eq 13, 3) := by decide +kernel
theorem dX8_write_27 : decode cX8_write 27 = .ok (.iload 4, 2) := by decide +kernel
theorem dX8_write_29 : decode cX8_write 29 = .ok (.iconst 0, 1) := by decide +kernel
theorem dX8_write_30 : decode cX8_write 30 = .ok (.iconst 2, 1) := by decide +kernel
theorem dX8_write_31 : decode cX8_write 31 = .ok (.invokestatic 52, 3) := by decide +kernel
theorem dX8_write_34 : decode cX8_write 34 = .ok (.ifCond .ne 6, 3) := by decide +kernel
theorem dX8_write_37 : decode cX8_write 37 = .ok (.ldc 79, 2) := by decide +kernel
theorem dX8_write_39 : decode cX8_write 39 = .ok (.ireturn, 1) := by decide +kernel
theorem dX8_write_40 : decode cX8_write 40 = .ok (.aload_n 0, 1) := by decide +kernel
theorem dX8_write_41 : decode cX8_write 41 = .ok (.getfield 7, 3) := by decide +kernel
theorem dX8_write_44 : decode cX8_write 44 = .ok (.sipush 200, 3) := by decide +kernel
theorem dX8_write_47 : decode cX8_write 47 = .ok (.iload_n 1, 1) := by decide +kernel
theorem dX8_write_48 : decode cX8_write 48 = .ok (.iadd, 1) := by decide +kernel
theorem dX8_write_49 : decode cX8_write 49 = .ok (.iaload, 1) := by decide +kernel
theorem dX8_write_50 : decode cX8_write 50 = .ok (.ifCond .lt 6, 3) := by decide +kernel
theorem dX8_write_53 : decode cX8_write 53 = .ok (.ldc 80, 2) := by decide +kernel
theorem dX8_write_55 : decode cX8_write 55 = .ok (.ireturn, 1) := by decide +kernel
theorem dX8_write_56 : decode cX8_write 56 = .ok (.aload_n 0, 1) := by decide +kernel
theorem dX8_write_57 : decode cX8_write 57 = .ok (.iload_n 3, 1) := by decide +kernel
theorem dX8_write_58 : decode cX8_write 58 = .ok (.iload 4, 2) := by decide +kernel
theorem dX8_write_60 : decode cX8_write 60 = .ok (.invokevirtual 81, 3) := by decide +kernel
theorem dX8_write_63 : decode cX8_write 63 = .ok (.ifCond .ne 6, 3) := by decide +kernel
theorem dX8_write_66 : decode cX8_write 66 = .ok (.ldc 85, 2) := by decide +kernel
theorem dX8_write_68 : decode cX8_write 68 = .ok (.ireturn, 1) := by decide +kernel
theorem dX8_write_69 : decode cX8_write 69 = .ok (.aload_n 0, 1) := by decide +kernel
theorem dX8_write_70 : decode cX8_write 70 = .ok (.invokevirtual 86, 3) := by decide +kernel
theorem dX8_write_73 : decode cX8_write 73 = .ok (.aload_n 0, 1) := by decide +kernel
theorem dX8_write_74 : decode cX8_write 74 = .ok (.iload_n 1, 1) := by decide +kernel
theorem dX8_write_75 : decode cX8_write 75 = .ok (.iload_n 2, 1) := by decide +kernel
theorem dX8_write_76 : decode cX8_write 76 = .ok (.iload_n 3, 1) := by decide +kernel
theorem dX8_write_77 : decode cX8_write 77 = .ok (.invokevirtual 89, 3) := by decide +kernel
theorem dX8_write_80 : decode cX8_write 80 = .ok (.aload_n 0, 1) := by decide +kernel
theorem dX8_write_81 : decode cX8_write 81 = .ok (.getfield 7, 3) := by decide +kernel
theorem dX8_write_84 : decode cX8_write 84 = .ok (.sipush 249, 3) := by decide +kernel
theorem dX8_write_87 : decode cX8_write 87 = .ok (.dup2, 1) := by decide +kernel
theorem dX8_write_88 : decode cX8_write 88 = .ok (.iaload, 1) := by decide +kernel
theorem dX8_write_89 : decode cX8_write 89 = .ok (.iconst 1, 1) := by decide +kernel
theorem dX8_write_90 : decode cX8_write 90 = .ok (.iadd, 1) := by decide +kernel
theorem dX8_write_91 : decode cX8_write 91 = .ok (.iastore, 1) := by decide +kernel
theorem dX8_write_92 : decode cX8_write 92 = .ok (.aload_n 0, 1) := by decide +kernel
theorem dX8_write_93 : decode cX8_write 93 = .ok (.getfield 25, 3) := by decide +kernel
theorem dX8_write_96 : decode cX8_write 96 = .ok (.iconst 0, 1) := by decide +kernel
theorem dX8_write_97 : decode cX8_write 97 = .ok (.iaload, 1) := by decide +kernel
theorem dX8_write_98 : decode cX8_write 98 = .ok (.ireturn, 1) := by decide +kernel
theorem dX8_delete_0 : decode cX8_delete 0 = .ok (.iload_n 1, 1) := by decide +kernel
theorem dX8_delete_1 : decode cX8_delete 1 = .ok (.invokestatic 76, 3) := by decide +kernel
theorem dX8_delete_4 : decode cX8_delete 4 = .ok (.ifCond .ne 6, 3) := by decide +kernel
theorem dX8_delete_7 : decode cX8_delete 7 = .ok (.ldc 79, 2) := by decide +kernel
theorem dX8_delete_9 : decode cX8_delete 9 = .ok (.ireturn, 1) := by decide +kernel
theorem dX8_delete_10 : decode cX8_delete 10 = .ok (.aload_n 0, 1) := by decide +kernel
theorem dX8_delete_11 : decode cX8_delete 11 = .ok (.getfield 7, 3) := by decide +kernel
theorem dX8_delete_14 : decode cX8_delete 14 = .ok (.sipush 200, 3) := by decide +kernel
theorem dX8_delete_17 : decode cX8_delete 17 = .ok (.iload_n 1, 1) := by decide +kernel
theorem dX8_delete_18 : decode cX8_delete 18 = .ok (.iadd, 1) := by decide +kernel
theorem dX8_delete_19 : decode cX8_delete 19 = .ok (.iaload, 1) := by decide +kernel
theorem dX8_delete_20 : decode cX8_delete 20 = .ok (.istore_n 2, 1) := by decide +kernel
theorem dX8_delete_21 : decode cX8_delete 21 = .ok (.iload_n 2, 1) := by decide +kernel
theorem dX8_delete_22 : decode cX8_delete 22 = .ok (.ifCond .ge 6, 3) := by decide +kernel
theorem dX8_delete_25 : decode cX8_delete 25 = .ok (.ldc 80, 2) := by decide +kernel
theorem dX8_delete_27 : decode cX8_delete 27 = .ok (.ireturn, 1) := by decide +kernel
theorem dX8_delete_28 : decode cX8_delete 28 = .ok (.aload_n 0, 1) := by decide +kernel
theorem dX8_delete_29 : decode cX8_delete 29 = .ok (.invokevirtual 86, 3) := by decide +kernel
theorem dX8_delete_32 : decode cX8_delete 32 = .ok (.sipush 247, 3) := by decide +kernel
theorem dX8_delete_35 : decode cX8_delete 35 = .ok (.istore_n 3, 1) := by decide +kernel
theorem dX8_delete_36 : decode cX8_delete 36 = .ok (.iload_n 3, 1) := by decide +kernel
theorem dX8_delete_37 : decode cX8_delete 37 = .ok (.sipush 233, 3) := by decide +kernel
theorem dX8_delete_40 : decode cX8_delete 40 = .ok (.if_icmp .lt 23, 3) := by decide +kernel
theorem dX8_delete_43 : decode cX8_delete 43 = .ok (.aload_n 0, 1) := by decide +kernel
theorem dX8_delete_44 : decode cX8_delete 44 = .ok (.getfield 7, 3) := by decide +kernel
theorem dX8_delete_47 : decode cX8_delete 47 = .ok (.iload_n 3, 1) := by decide +kernel
theorem dX8_delete_48 : decode cX8_delete 48 = .ok (.aload_n 0, 1) := by decide +kernel
theorem dX8_delete_49 : decode cX8_delete 49 = .ok (.getfield 7, 3) := by decide +kernel
theorem dX8_delete_52 : decode cX8_delete 52 = .ok (.iload_n 3, 1) := by decide +kernel
theorem dX8_delete_53 : decode cX8_delete 53 = .ok (.iconst 3, 1) := by decide +kernel
theorem dX8_delete_54 : decode cX8_delete 54 = .ok (.isub, 1) := by decide +kernel
theorem dX8_delete_55 : decode cX8_delete 55 = .ok (.iaload, 1) := by decide +kernel
theorem dX8_delete_56 : decode cX8_delete 56 = .ok (.iastore, 1) := by decide +kernel
theorem dX8_delete_57 : decode cX8_delete 57 = .ok (.iinc 3 (-1), 3) := by decide +kernel
theorem dX8_delete_60 : decode cX8_delete 60 = .ok (.goto (-24), 3) := by decide +kernel
theorem dX8_delete_63 : decode cX8_delete 63 = .ok (.aload_n 0, 1) := by decide +kernel
theorem dX8_delete_64 : decode cX8_delete 64 = .ok (.getfield 7, 3) := by decide +kernel
theorem dX8_delete_67 : decode cX8_delete 67 = .ok (.sipush 230, 3) := by decide +kernel
theorem dX8_delete_70 : decode cX8_delete 70 = .ok (.iload_n 1, 1) := by decide +kernel
theorem dX8_delete_71 : decode cX8_delete 71 = .ok (.iastore, 1) := by decide +kernel
theorem dX8_delete_72 : decode cX8_delete 72 = .ok (.aload_n 0, 1) := by decide +kernel
theorem dX8_delete_73 : decode cX8_delete 73 = .ok (.getfield 7, 3) := by decide +kernel
theorem dX8_delete_76 : decode cX8_delete 76 = .ok (.sipush 231, 3) := by decide +kernel
theorem dX8_delete_79 : decode cX8_delete 79 = .ok (.iload_n 2, 1) := by decide +kernel
theorem dX8_delete_80 : decode cX8_delete 80 = .ok (.iastore, 1) := by decide +kernel
theorem dX8_delete_81 : decode cX8_delete 81 = .ok (.aload_n 0, 1) := by decide +kernel
theorem dX8_delete_82 : decode cX8_delete 82 = .ok (.getfield 7, 3) := by decide +kernel
theorem dX8_delete_85 : decode cX8_delete 85 = .ok (.sipush 232, 3) := by decide +kernel
theorem dX8_delete_88 : decode cX8_delete 88 = .ok (.aload_n 0, 1) := by decide +kernel
theorem dX8_delete_89 : decode cX8_delete 89 = .ok (.getfield 7, 3) := by decide +kernel
theorem dX8_delete_92 : decode cX8_delete 92 = .ok (.bipush 40, 2) := by decide +kernel
theorem dX8_delete_94 : decode cX8_delete 94 = .ok (.iload_n 2, 1) := by decide +kernel
theorem dX8_delete_95 : decode cX8_delete 95 = .ok (.iadd, 1) := by decide +kernel
theorem dX8_delete_96 : decode cX8_delete 96 = .ok (.iaload, 1) := by decide +kernel
theorem dX8_delete_97 : decode cX8_delete 97 = .ok (.iastore, 1) := by decide +kernel
theorem dX8_delete_98 : decode cX8_delete 98 = .ok (.aload_n 0, 1) := by decide +kernel
theorem dX8_delete_99 : decode cX8_delete 99 = .ok (.getfield 7, 3) := by decide +kernel
theorem dX8_delete_102 : decode cX8_delete 102 = .ok (.sipush 248, 3) := by decide +kernel
theorem dX8_delete_105 : decode cX8_delete 105 = .ok (.dup2, 1) := by decide +kernel
theorem dX8_delete_106 : decode cX8_delete 106 = .ok (.iaload, 1) := by decide +kernel
theorem dX8_delete_107 : decode cX8_delete 107 = .ok (.aload_n 0, 1) := by decide +kernel
theorem dX8_delete_108 : decode cX8_delete 108 = .ok (.getfield 7, 3) := by decide +kernel
theorem dX8_delete_111 : decode cX8_delete 111 = .ok (.sipush 248, 3) := by decide +kernel
theorem dX8_delete_114 : decode cX8_delete 114 = .ok (.iaload, 1) := by decide +kernel
theorem dX8_delete_115 : decode cX8_delete 115 = .ok (.bipush 6, 2) := by decide +kernel
theorem dX8_delete_117 : decode cX8_delete 117 = .ok (.if_icmp .ge 7, 3) := by decide +kernel
theorem dX8_delete_120 : decode cX8_delete 120 = .ok (.iconst 1, 1) := by decide +kernel
theorem dX8_delete_121 : decode cX8_delete 121 = .ok (.goto 4, 3) := by decide +kernel
theorem dX8_delete_124 : decode cX8_delete 124 = .ok (.iconst 0, 1) := by decide +kernel
theorem dX8_delete_125 : decode cX8_delete 125 = .ok (.iadd, 1) := by decide +kernel
theorem dX8_delete_126 : decode cX8_delete 126 = .ok (.iastore, 1) := by decide +kernel
theorem dX8_delete_127 : decode cX8_delete 127 = .ok (.iconst 0, 1) := by decide +kernel
theorem dX8_delete_128 : decode cX8_delete 128 = .ok (.istore_n 3, 1) := by decide +kernel
theorem dX8_delete_129 : decode cX8_delete 129 = .ok (.iload_n 3, 1) := by decide +kernel
theorem dX8_delete_130 : decode cX8_delete 130 = .ok (.bipush 40, 2) := by decide +kernel
theorem dX8_delete_132 : decode cX8_delete 132 = .ok (.if_icmp .ge 47, 3) := by decide +kernel
theorem dX8_delete_135 : decode cX8_delete 135 = .ok (.aload_n 0, 1) := by decide +kernel
theorem dX8_delete_136 : decode cX8_delete 136 = .ok (.getfield 7, 3) := by decide +kernel
theorem dX8_delete_139 : decode cX8_delete 139 = .ok (.sipush 160, 3) := by decide +kernel
theorem dX8_delete_142 : decode cX8_delete 142 = .ok (.iload_n 3, 1) := by decide +kernel
theorem dX8_delete_143 : decode cX8_delete 143 = .ok (.iadd, 1) := by decide +kernel
theorem dX8_delete_144 : decode cX8_delete 144 = .ok (.aload_n 0, 1) := by decide +kernel
theorem dX8_delete_145 : decode cX8_delete 145 = .ok (.getfield 7, 3) := by decide +kernel
theorem dX8_delete_148 : decode cX8_delete 148 = .ok (.sipush 160, 3) := by decide +kernel
theorem dX8_delete_151 : decode cX8_delete 151 = .ok (.iload_n 3, 1) := by decide +kernel
theorem dX8_delete_152 : decode cX8_delete 152 = .ok (.iadd, 1) := by decide +kernel
theorem dX8_delete_153 : decode cX8_delete 153 = .ok (.iaload, 1) := by decide +kernel
theorem dX8_delete_154 : decode cX8_delete 154 = .ok (.iload_n 1, 1) := by decide +kernel
theorem dX8_delete_155 : decode cX8_delete 155 = .ok (.if_icmp .ne 7, 3) := by decide +kernel
theorem dX8_delete_158 : decode cX8_delete 158 = .ok (.iconst (-1), 1) := by decide +kernel
theorem dX8_delete_159 : decode cX8_delete 159 = .ok (.goto 13, 3) := by decide +kernel
theorem dX8_delete_162 : decode cX8_delete 162 = .ok (.aload_n 0, 1) := by decide +kernel
theorem dX8_delete_163 : decode cX8_delete 163 = .ok (.getfield 7, 3) := by decide +kernel
theorem dX8_delete_166 : decode cX8_delete 166 = .ok (.sipush 160, 3) := by decide +kernel
theorem dX8_delete_169 : decode cX8_delete 169 = .ok (.iload_n 3, 1) := by decide +kernel
theorem dX8_delete_170 : decode cX8_delete 170 = .ok (.iadd, 1) := by decide +kernel
theorem dX8_delete_171 : decode cX8_delete 171 = .ok (.iaload, 1) := by decide +kernel
theorem dX8_delete_172 : decode cX8_delete 172 = .ok (.iastore, 1) := by decide +kernel
theorem dX8_delete_173 : decode cX8_delete 173 = .ok (.iinc 3 1, 3) := by decide +kernel
theorem dX8_delete_176 : decode cX8_delete 176 = .ok (.goto (-47), 3) := by decide +kernel
theorem dX8_delete_179 : decode cX8_delete 179 = .ok (.aload_n 0, 1) := by decide +kernel
theorem dX8_delete_180 : decode cX8_delete 180 = .ok (.getfield 7, 3) := by decide +kernel
theorem dX8_delete_183 : decode cX8_delete 183 = .ok (.sipush 200, 3) := by decide +kernel
theorem dX8_delete_186 : decode cX8_delete 186 = .ok (.iload_n 1, 1) := by decide +kernel
theorem dX8_delete_187 : decode cX8_delete 187 = .ok (.iadd, 1) := by decide +kernel
theorem dX8_delete_188 : decode cX8_delete 188 = .ok (.iconst (-1), 1) := by decide +kernel
theorem dX8_delete_189 : decode cX8_delete 189 = .ok (.iastore, 1) := by decide +kernel
theorem dX8_delete_190 : decode cX8_delete 190 = .ok (.aload_n 0, 1) := by decide +kernel
theorem dX8_delete_191 : decode cX8_delete 191 = .ok (.getfield 7, 3) := by decide +kernel
theorem dX8_delete_194 : decode cX8_delete 194 = .ok (.sipush 250, 3) := by decide +kernel
theorem dX8_delete_197 : decode cX8_delete 197 = .ok (.dup2, 1) := by decide +kernel
theorem dX8_delete_198 : decode cX8_delete 198 = .ok (.iaload, 1) := by decide +kernel
theorem dX8_delete_199 : decode cX8_delete 199 = .ok (.iconst 1, 1) := by decide +kernel
theorem dX8_delete_200 : decode cX8_delete 200 = .ok (.iadd, 1) := by decide +kernel
theorem dX8_delete_201 : decode cX8_delete 201 = .ok (.iastore, 1) := by decide +kernel
theorem dX8_delete_202 : decode cX8_delete 202 = .ok (.aload_n 0, 1) := by decide +kernel
theorem dX8_delete_203 : decode cX8_delete 203 = .ok (.invokevirtual 93, 3) := by decide +kernel
theorem dX8_delete_206 : decode cX8_delete 206 = .ok (.ireturn, 1) := by decide +kernel
theorem dX8_wipes_0 : decode cX8_wipes 0 = .ok (.aload_n 0, 1) := by decide +kernel
theorem dX8_wipes_1 : decode cX8_wipes 1 = .ok (.getfield 7, 3) := by decide +kernel
theorem dX8_wipes_4 : decode cX8_wipes 4 = .ok (.iconst 0, 1) := by decide +kernel
theorem dX8_wipes_5 : decode cX8_wipes 5 = .ok (.iload_n 1, 1) := by decide +kernel
theorem dX8_wipes_6 : decode cX8_wipes 6 = .ok (.iadd, 1) := by decide +kernel
theorem dX8_wipes_7 : decode cX8_wipes 7 = .ok (.iaload, 1) := by decide +kernel
theorem dX8_wipes_8 : decode cX8_wipes 8 = .ok (.istore_n 2, 1) := by decide +kernel
theorem dX8_wipes_9 : decode cX8_wipes 9 = .ok (.aload_n 0, 1) := by decide +kernel
theorem dX8_wipes_10 : decode cX8_wipes 10 = .ok (.getfield 7, 3) := by decide +kernel
theorem dX8_wipes_13 : decode cX8_wipes 13 = .ok (.iconst 0, 1) := by decide +kernel
theorem dX8_wipes_14 : decode cX8_wipes 14 = .ok (.iload_n 1, 1) := by decide +kernel
theorem dX8_wipes_15 : decode cX8_wipes 15 = .ok (.iadd, 1) := by decide +kernel
theorem dX8_wipes_16 : decode cX8_wipes 16 = .ok (.iconst 0, 1) := by decide +kernel
theorem dX8_wipes_17 : decode cX8_wipes 17 = .ok (.iastore, 1) := by decide +kernel
theorem dX8_wipes_18 : decode cX8_wipes 18 = .ok (.aload_n 0, 1) := by decide +kernel
theorem dX8_wipes_19 : decode cX8_wipes 19 = .ok (.getfield 7, 3) := by decide +kernel
theorem dX8_wipes_22 : decode cX8_wipes 22 = .ok (.bipush 120, 2) := by decide +kernel
theorem dX8_wipes_24 : decode cX8_wipes 24 = .ok (.iload_n 1, 1) := by decide +kernel
theorem dX8_wipes_25 : decode cX8_wipes 25 = .ok (.iadd, 1) := by decide +kernel
theorem dX8_wipes_26 : decode cX8_wipes 26 = .ok (.iconst (-1), 1) := by decide +kernel
theorem dX8_wipes_27 : decode cX8_wipes 27 = .ok (.iastore, 1) := by decide +kernel
theorem dX8_wipes_28 : decode cX8_wipes 28 = .ok (.iload_n 2, 1) := by decide +kernel
theorem dX8_wipes_29 : decode cX8_wipes 29 = .ok (.ireturn, 1) := by decide +kernel
theorem dX8_wipe_0 : decode cX8_wipe 0 = .ok (.iload_n 1, 1) := by decide +kernel
theorem dX8_wipe_1 : decode cX8_wipe 1 = .ok (.invokestatic 64, 3) := by decide +kernel
theorem dX8_wipe_4 : decode cX8_wipe 4 = .ok (.ifCond .ne 6, 3) := by decide +kernel
theorem dX8_wipe_7 : decode cX8_wipe 7 = .ok (.ldc 79, 2) := by decide +kernel
theorem dX8_wipe_9 : decode cX8_wipe 9 = .ok (.ireturn, 1) := by decide +kernel
theorem dX8_wipe_10 : decode cX8_wipe 10 = .ok (.aload_n 0, 1) := by decide +kernel
theorem dX8_wipe_11 : decode cX8_wipe 11 = .ok (.iload_n 1, 1) := by decide +kernel
theorem dX8_wipe_12 : decode cX8_wipe 12 = .ok (.invokevirtual 68, 3) := by decide +kernel
theorem dX8_wipe_15 : decode cX8_wipe 15 = .ok (.ifCond .ne 6, 3) := by decide +kernel
theorem dX8_wipe_18 : decode cX8_wipe 18 = .ok (.ldc 80, 2) := by decide +kernel
theorem dX8_wipe_20 : decode cX8_wipe 20 = .ok (.ireturn, 1) := by decide +kernel
theorem dX8_wipe_21 : decode cX8_wipe 21 = .ok (.aload_n 0, 1) := by decide +kernel
theorem dX8_wipe_22 : decode cX8_wipe 22 = .ok (.invokevirtual 86, 3) := by decide +kernel
theorem dX8_wipe_25 : decode cX8_wipe 25 = .ok (.aload_n 0, 1) := by decide +kernel
theorem dX8_wipe_26 : decode cX8_wipe 26 = .ok (.iload_n 1, 1) := by decide +kernel
theorem dX8_wipe_27 : decode cX8_wipe 27 = .ok (.invokevirtual 97, 3) := by decide +kernel
theorem dX8_wipe_30 : decode cX8_wipe 30 = .ok (.ireturn, 1) := by decide +kernel
theorem dX8_wipeAll_0 : decode cX8_wipeAll 0 = .ok (.aload_n 0, 1) := by decide +kernel
theorem dX8_wipeAll_1 : decode cX8_wipeAll 1 = .ok (.invokevirtual 86, 3) := by decide +kernel
theorem dX8_wipeAll_4 : decode cX8_wipeAll 4 = .ok (.iconst 0, 1) := by decide +kernel
theorem dX8_wipeAll_5 : decode cX8_wipeAll 5 = .ok (.istore_n 1, 1) := by decide +kernel
theorem dX8_wipeAll_6 : decode cX8_wipeAll 6 = .ok (.iconst 0, 1) := by decide +kernel
theorem dX8_wipeAll_7 : decode cX8_wipeAll 7 = .ok (.istore_n 2, 1) := by decide +kernel
theorem dX8_wipeAll_8 : decode cX8_wipeAll 8 = .ok (.iload_n 2, 1) := by decide +kernel
theorem dX8_wipeAll_9 : decode cX8_wipeAll 9 = .ok (.bipush 40, 2) := by decide +kernel
theorem dX8_wipeAll_11 : decode cX8_wipeAll 11 = .ok (.if_icmp .ge 33, 3) := by decide +kernel
theorem dX8_wipeAll_14 : decode cX8_wipeAll 14 = .ok (.iload_n 1, 1) := by decide +kernel
theorem dX8_wipeAll_15 : decode cX8_wipeAll 15 = .ok (.aload_n 0, 1) := by decide +kernel
theorem dX8_wipeAll_16 : decode cX8_wipeAll 16 = .ok (.iload_n 2, 1) := by decide +kernel
theorem dX8_wipeAll_17 : decode cX8_wipeAll 17 = .ok (.invokevirtual 68, 3) := by decide +kernel
theorem dX8_wipeAll_20 : decode cX8_wipeAll 20 = .ok (.ifCond .eq 15, 3) := by decide +kernel
theorem dX8_wipeAll_23 : decode cX8_wipeAll 23 = .ok (.aload_n 0, 1) := by decide +kernel
theorem dX8_wipeAll_24 : decode cX8_wipeAll 24 = .ok (.iload_n 2, 1) := by decide +kernel
theorem dX8_wipeAll_25 : decode cX8_wipeAll 25 = .ok (.invokevirtual 97, 3) := by decide +kernel
theorem dX8_wipeAll_28 : decode cX8_wipeAll 28 = .ok (.ifCond .le 7, 3) := by decide +kernel
theorem dX8_wipeAll_31 : decode cX8_wipeAll 31 = .ok (.iconst 1, 1) := by decide +kernel
theorem dX8_wipeAll_32 : decode cX8_wipeAll 32 = .ok (.goto 4, 3) := by decide +kernel
theorem dX8_wipeAll_35 : decode cX8_wipeAll 35 = .ok (.iconst 0, 1) := by decide +kernel
theorem dX8_wipeAll_36 : decode cX8_wipeAll 36 = .ok (.iadd, 1) := by decide +kernel
theorem dX8_wipeAll_37 : decode cX8_wipeAll 37 = .ok (.istore_n 1, 1) := by decide +kernel
theorem dX8_wipeAll_38 : decode cX8_wipeAll 38 = .ok (.iinc 2 1, 3) := by decide +kernel
theorem dX8_wipeAll_41 : decode cX8_wipeAll 41 = .ok (.goto (-33), 3) := by decide +kernel
theorem dX8_wipeAll_44 : decode cX8_wipeAll 44 = .ok (.aload_n 0, 1) := by decide +kernel
theorem dX8_wipeAll_45 : decode cX8_wipeAll 45 = .ok (.getfield 7, 3) := by decide +kernel
theorem dX8_wipeAll_48 : decode cX8_wipeAll 48 = .ok (.sipush 248, 3) := by decide +kernel
theorem dX8_wipeAll_51 : decode cX8_wipeAll 51 = .ok (.iconst 0, 1) := by decide +kernel
theorem dX8_wipeAll_52 : decode cX8_wipeAll 52 = .ok (.iastore, 1) := by decide +kernel
theorem dX8_wipeAll_53 : decode cX8_wipeAll 53 = .ok (.iload_n 1, 1) := by decide +kernel
theorem dX8_wipeAll_54 : decode cX8_wipeAll 54 = .ok (.ireturn, 1) := by decide +kernel
theorem dX8_pageOfFile_0 : decode cX8_pageOfFile 0 = .ok (.aload_n 0, 1) := by decide +kernel
theorem dX8_pageOfFile_1 : decode cX8_pageOfFile 1 = .ok (.getfield 7, 3) := by decide +kernel
theorem dX8_pageOfFile_4 : decode cX8_pageOfFile 4 = .ok (.sipush 200, 3) := by decide +kernel
theorem dX8_pageOfFile_7 : decode cX8_pageOfFile 7 = .ok (.iload_n 1, 1) := by decide +kernel
theorem dX8_pageOfFile_8 : decode cX8_pageOfFile 8 = .ok (.iadd, 1) := by decide +kernel
theorem dX8_pageOfFile_9 : decode cX8_pageOfFile 9 = .ok (.iaload, 1) := by decide +kernel
theorem dX8_pageOfFile_10 : decode cX8_pageOfFile 10 = .ok (.istore_n 3, 1) := by decide +kernel
theorem dX8_pageOfFile_11 : decode cX8_pageOfFile 11 = .ok (.iconst 0, 1) := by decide +kernel
theorem dX8_pageOfFile_12 : decode cX8_pageOfFile 12 = .ok (.istore 4, 2) := by decide +kernel
theorem dX8_pageOfFile_14 : decode cX8_pageOfFile 14 = .ok (.iload 4, 2) := by decide +kernel
theorem dX8_pageOfFile_16 : decode cX8_pageOfFile 16 = .ok (.iload_n 2, 1) := by decide +kernel
theorem dX8_pageOfFile_17 : decode cX8_pageOfFile 17 = .ok (.if_icmp .ge 23, 3) := by decide +kernel
theorem dX8_pageOfFile_20 : decode cX8_pageOfFile 20 = .ok (.iload_n 3, 1) := by decide +kernel
theorem dX8_pageOfFile_21 : decode cX8_pageOfFile 21 = .ok (.ifCond .lt 19, 3) := by decide +kernel
theorem dX8_pageOfFile_24 : decode cX8_pageOfFile 24 = .ok (.aload_n 0, 1) := by decide +kernel
theorem dX8_pageOfFile_25 : decode cX8_pageOfFile 25 = .ok (.getfield 7, 3) := by decide +kernel
theorem dX8_pageOfFile_28 : decode cX8_pageOfFile 28 = .ok (.bipush 120, 2) := by decide +kernel
theorem dX8_pageOfFile_30 : decode cX8_pageOfFile 30 = .ok (.iload_n 3, 1) := by decide +kernel
theorem dX8_pageOfFile_31 : decode cX8_pageOfFile 31 = .ok (.iadd, 1) := by decide +kernel
theorem dX8_pageOfFile_32 : decode cX8_pageOfFile 32 = .ok (.iaload, 1) := by decide +kernel
theorem dX8_pageOfFile_33 : decode cX8_pageOfFile 33 = .ok (.istore_n 3, 1) := by decide +kernel
theorem dX8_pageOfFile_34 : decode cX8_pageOfFile 34 = .ok (.iinc 4 1, 3) := by decide +kernel
theorem dX8_pageOfFile_37 : decode cX8_pageOfFile 37 = .ok (.goto (-23), 3) := by decide +kernel
theorem dX8_pageOfFile_40 : decode cX8_pageOfFile 40 = .ok (.iload_n 3, 1) := by decide +kernel
theorem dX8_pageOfFile_41 : decode cX8_pageOfFile 41 = .ok (.ifCond .ge 8, 3) := by decide +kernel
theorem dX8_pageOfFile_44 : decode cX8_pageOfFile 44 = .ok (.ldc 71, 2) := by decide +kernel
theorem dX8_pageOfFile_46 : decode cX8_pageOfFile 46 = .ok (.goto 4, 3) := by decide +kernel
theorem dX8_pageOfFile_49 : decode cX8_pageOfFile 49 = .ok (.iload_n 3, 1) := by decide +kernel
theorem dX8_pageOfFile_50 : decode cX8_pageOfFile 50 = .ok (.ireturn, 1) := by decide +kernel
theorem dX8_isRow_0 : decode cX8_isRow 0 = .ok (.iconst 1, 1) := by decide +kernel
theorem dX8_isRow_1 : decode cX8_isRow 1 = .ok (.istore_n 2, 1) := by decide +kernel
theorem dX8_isRow_2 : decode cX8_isRow 2 = .ok (.aload_n 0, 1) := by decide +kernel
theorem dX8_isRow_3 : decode cX8_isRow 3 = .ok (.getfield 7, 3) := by decide +kernel
theorem dX8_isRow_6 : decode cX8_isRow 6 = .ok (.sipush 200, 3) := by decide +kernel
theorem dX8_isRow_9 : decode cX8_isRow 9 = .ok (.iload_n 1, 1) := by decide +kernel
theorem dX8_isRow_10 : decode cX8_isRow 10 = .ok (.iadd, 1) := by decide +kernel
theorem dX8_isRow_11 : decode cX8_isRow 11 = .ok (.iaload, 1) := by decide +kernel
theorem dX8_isRow_12 : decode cX8_isRow 12 = .ok (.istore_n 3, 1) := by decide +kernel
theorem dX8_isRow_13 : decode cX8_isRow 13 = .ok (.iload_n 3, 1) := by decide +kernel
theorem dX8_isRow_14 : decode cX8_isRow 14 = .ok (.ifCond .lt 53, 3) := by decide +kernel
theorem dX8_isRow_17 : decode cX8_isRow 17 = .ok (.iload_n 2, 1) := by decide +kernel
theorem dX8_isRow_18 : decode cX8_isRow 18 = .ok (.ifCond .eq 34, 3) := by decide +kernel
theorem dX8_isRow_21 : decode cX8_isRow 21 = .ok (.aload_n 0, 1) := by decide +kernel
theorem dX8_isRow_22 : decode cX8_isRow 22 = .ok (.getfield 7, 3) := by decide +kernel
theorem dX8_isRow_25 : decode cX8_isRow 25 = .ok (.bipush 120, 2) := by decide +kernel
theorem dX8_isRow_27 : decode cX8_isRow 27 = .ok (.iload_n 3, 1) := by decide +kernel
theorem dX8_isRow_28 : decode cX8_isRow 28 = .ok (.iadd, 1) := by decide +kernel
theorem dX8_isRow_29 : decode cX8_isRow 29 = .ok (.iaload, 1) := by decide +kernel
theorem dX8_isRow_30 : decode cX8_isRow 30 = .ok (.ifCond .lt 18, 3) := by decide +kernel
theorem dX8_isRow_33 : decode cX8_isRow 33 = .ok (.aload_n 0, 1) := by decide +kernel
theorem dX8_isRow_34 : decode cX8_isRow 34 = .ok (.getfield 7, 3) := by decide +kernel
theorem dX8_isRow_37 : decode cX8_isRow 37 = .ok (.bipush 120, 2) := by decide +kernel
theorem dX8_isRow_39 : decode cX8_isRow 39 = .ok (.iload_n 3, 1) := by decide +kernel
theorem dX8_isRow_40 : decode cX8_isRow 40 = .ok (.iadd, 1) := by decide +kernel
theorem dX8_isRow_41 : decode cX8_isRow 41 = .ok (.iaload, 1) := by decide +kernel
theorem dX8_isRow_42 : decode cX8_isRow 42 = .ok (.iload_n 3, 1) := by decide +kernel
theorem dX8_isRow_43 : decode cX8_isRow 43 = .ok (.iconst 1, 1) := by decide +kernel
theorem dX8_isRow_44 : decode cX8_isRow 44 = .ok (.iadd, 1) := by decide +kernel
theorem dX8_isRow_45 : decode cX8_isRow 45 = .ok (.if_icmp .ne 7, 3) := by decide +kernel
theorem dX8_isRow_48 : decode cX8_isRow 48 = .ok (.iconst 1, 1) := by decide +kernel
theorem dX8_isRow_49 : decode cX8_isRow 49 = .ok (.goto 4, 3) := by decide +kernel
theorem dX8_isRow_52 : decode cX8_isRow 52 = .ok (.iconst 0, 1) := by decide +kernel
theorem dX8_isRow_53 : decode cX8_isRow 53 = .ok (.istore_n 2, 1) := by decide +kernel
theorem dX8_isRow_54 : decode cX8_isRow 54 = .ok (.aload_n 0, 1) := by decide +kernel
theorem dX8_isRow_55 : decode cX8_isRow 55 = .ok (.getfield 7, 3) := by decide +kernel
theorem dX8_isRow_58 : decode cX8_isRow 58 = .ok (.bipush 120, 2) := by decide +kernel
theorem dX8_isRow_60 : decode cX8_isRow 60 = .ok (.iload_n 3, 1) := by decide +kernel
theorem dX8_isRow_61 : decode cX8_isRow 61 = .ok (.iadd, 1) := by decide +kernel
theorem dX8_isRow_62 : decode cX8_isRow 62 = .ok (.iaload, 1) := by decide +kernel
theorem dX8_isRow_63 : decode cX8_isRow 63 = .ok (.istore_n 3, 1) := by decide +kernel
theorem dX8_isRow_64 : decode cX8_isRow 64 = .ok (.goto (-51), 3) := by decide +kernel
theorem dX8_isRow_67 : decode cX8_isRow 67 = .ok (.iload_n 2, 1) := by decide +kernel
theorem dX8_isRow_68 : decode cX8_isRow 68 = .ok (.ireturn, 1) := by decide +kernel
theorem dX8_fileOf_0 : decode cX8_fileOf 0 = .ok (.iload_n 1, 1) := by decide +kernel
theorem dX8_fileOf_1 : decode cX8_fileOf 1 = .ok (.invokestatic 76, 3) := by decide +kernel
theorem dX8_fileOf_4 : decode cX8_fileOf 4 = .ok (.ifCond .eq 23, 3) := by decide +kernel
theorem dX8_fileOf_7 : decode cX8_fileOf 7 = .ok (.iload_n 2, 1) := by decide +kernel
theorem dX8_fileOf_8 : decode cX8_fileOf 8 = .ok (.iconst 0, 1) := by decide +kernel
theorem dX8_fileOf_9 : decode cX8_fileOf 9 = .ok (.iconst 4, 1) := by decide +kernel
theorem dX8_fileOf_10 : decode cX8_fileOf 10 = .ok (.invokestatic 52, 3) := by decide +kernel
theorem dX8_fileOf_13 : decode cX8_fileOf 13 = .ok (.ifCond .ne 17, 3) := by decide +kernel
theorem dX8_fileOf_16 : decode cX8_fileOf 16 = .ok (.iload_n 2, 1) := by decide +kernel
theorem dX8_fileOf_17 : decode cX8_fileOf 17 = .ok (.bipush 10, 2) := by decide +kernel
theorem dX8_fileOf_19 : decode cX8_fileOf 19 = .ok (.bipush 21, 2) := by decide +kernel
theorem dX8_fileOf_21 : decode cX8_fileOf 21 = .ok (.invokestatic 52, 3) := by decide +kernel
theorem dX8_fileOf_24 : decode cX8_fileOf 24 = .ok (.ifCond .ne 6, 3) := by decide +kernel
theorem dX8_fileOf_27 : decode cX8_fileOf 27 = .ok (.ldc 79, 2) := by decide +kernel
theorem dX8_fileOf_29 : decode cX8_fileOf 29 = .ok (.ireturn, 1) := by decide +kernel
theorem dX8_fileOf_30 : decode cX8_fileOf 30 = .ok (.aload_n 0, 1) := by decide +kernel
theorem dX8_fileOf_31 : decode cX8_fileOf 31 = .ok (.getfield 7, 3) := by decide +kernel
theorem dX8_fileOf_34 : decode cX8_fileOf 34 = .ok (.sipush 200, 3) := by decide +kernel
theorem dX8_fileOf_37 : decode cX8_fileOf 37 = .ok (.iload_n 1, 1) := by decide +kernel
theorem dX8_fileOf_38 : decode cX8_fileOf 38 = .ok (.iadd, 1) := by decide +kernel
theorem dX8_fileOf_39 : decode cX8_fileOf 39 = .ok (.iaload, 1) := by decide +kernel
theorem dX8_fileOf_40 : decode cX8_fileOf 40 = .ok (.istore_n 3, 1) := by decide +kernel
theorem dX8_fileOf_41 : decode cX8_fileOf 41 = .ok (.iload_n 3, 1) := by decide +kernel
theorem dX8_fileOf_42 : decode cX8_fileOf 42 = .ok (.ifCond .ge 6, 3) := by decide +kernel
theorem dX8_fileOf_45 : decode cX8_fileOf 45 = .ok (.ldc 71, 2) := by decide +kernel
theorem dX8_fileOf_47 : decode cX8_fileOf 47 = .ok (.ireturn, 1) := by decide +kernel
theorem dX8_fileOf_48 : decode cX8_fileOf 48 = .ok (.aload_n 0, 1) := by decide +kernel
theorem dX8_fileOf_49 : decode cX8_fileOf 49 = .ok (.getfield 7, 3) := by decide +kernel
theorem dX8_fileOf_52 : decode cX8_fileOf 52 = .ok (.bipush 80, 2) := by decide +kernel
theorem dX8_fileOf_54 : decode cX8_fileOf 54 = .ok (.iload_n 3, 1) := by decide +kernel
theorem dX8_fileOf_55 : decode cX8_fileOf 55 = .ok (.iadd, 1) := by decide +kernel
theorem dX8_fileOf_56 : decode cX8_fileOf 56 = .ok (.iaload, 1) := by decide +kernel
theorem dX8_fileOf_57 : decode cX8_fileOf 57 = .ok (.istore 4, 2) := by decide +kernel
theorem dX8_fileOf_59 : decode cX8_fileOf 59 = .ok (.iload_n 2, 1) := by decide +kernel
theorem dX8_fileOf_60 : decode cX8_fileOf 60 = .ok (.tableswitch 75 0 4 #[36, 46, 49, 51, 61], 36) := by decide +kernel
theorem dX8_fileOf_96 : decode cX8_fileOf 96 = .ok (.aload_n 0, 1) := by decide +kernel
theorem dX8_fileOf_97 : decode cX8_fileOf 97 = .ok (.getfield 7, 3) := by decide +kernel
theorem dX8_fileOf_100 : decode cX8_fileOf 100 = .ok (.bipush 40, 2) := by decide +kernel
theorem dX8_fileOf_102 : decode cX8_fileOf 102 = .ok (.iload_n 3, 1) := by decide +kernel
theorem dX8_fileOf_103 : decode cX8_fileOf 103 = .ok (.iadd, 1) := by decide +kernel
theorem dX8_fileOf_104 : decode cX8_fileOf 104 = .ok (.iaload, 1) := by decide +kernel
theorem dX8_fileOf_105 : decode cX8_fileOf 105 = .ok (.ireturn, 1) := by decide +kernel
theorem dX8_fileOf_106 : decode cX8_fileOf 106 = .ok (.iload 4, 2) := by decide +kernel
theorem dX8_fileOf_108 : decode cX8_fileOf 108 = .ok (.ireturn, 1) := by decide +kernel
theorem dX8_fileOf_109 : decode cX8_fileOf 109 = .ok (.iload_n 3, 1) := by decide +kernel
theorem dX8_fileOf_110 : decode cX8_fileOf 110 = .ok (.ireturn, 1) := by decide +kernel
theorem dX8_fileOf_111 : decode cX8_fileOf 111 = .ok (.aload_n 0, 1) := by decide +kernel
theorem dX8_fileOf_112 : decode cX8_fileOf 112 = .ok (.iload_n 1, 1) := by decide +kernel
theorem dX8_fileOf_113 : decode cX8_fileOf 113 = .ok (.iload 4, 2) := by decide +kernel
theorem dX8_fileOf_115 : decode cX8_fileOf 115 = .ok (.iconst 1, 1) := by decide +kernel
theorem dX8_fileOf_116 : decode cX8_fileOf 116 = .ok (.isub, 1) := by decide +kernel
theorem dX8_fileOf_117 : decode cX8_fileOf 117 = .ok (.invokevirtual 100, 3) := by decide +kernel
theorem dX8_fileOf_120 : decode cX8_fileOf 120 = .ok (.ireturn, 1) := by decide +kernel
theorem dX8_fileOf_121 : decode cX8_fileOf 121 = .ok (.aload_n 0, 1) := by decide +kernel
theorem dX8_fileOf_122 : decode cX8_fileOf 122 = .ok (.iload_n 1, 1) := by decide +kernel
theorem dX8_fileOf_123 : decode cX8_fileOf 123 = .ok (.invokevirtual 104, 3) := by decide +kernel
theorem dX8_fileOf_126 : decode cX8_fileOf 126 = .ok (.ifCond .eq 7, 3) := by decide +kernel
theorem dX8_fileOf_129 : decode cX8_fileOf 129 = .ok (.iconst 1, 1) := by decide +kernel
theorem dX8_fileOf_130 : decode cX8_fileOf 130 = .ok (.goto 4, 3) := by decide +kernel
theorem dX8_fileOf_133 : decode cX8_fileOf 133 = .ok (.iconst 0, 1) := by decide +kernel
theorem dX8_fileOf_134 : decode cX8_fileOf 134 = .ok (.ireturn, 1) := by decide +kernel
theorem dX8_fileOf_135 : decode cX8_fileOf 135 = .ok (.aload_n 0, 1) := by decide +kernel
theorem dX8_fileOf_136 : decode cX8_fileOf 136 = .ok (.iload_n 1, 1) := by decide +kernel
theorem dX8_fileOf_137 : decode cX8_fileOf 137 = .ok (.iload_n 2, 1) := by decide +kernel
theorem dX8_fileOf_138 : decode cX8_fileOf 138 = .ok (.bipush 10, 2) := by decide +kernel
theorem dX8_fileOf_140 : decode cX8_fileOf 140 = .ok (.isub, 1) := by decide +kernel
theorem dX8_fileOf_141 : decode cX8_fileOf 141 = .ok (.invokevirtual 100, 3) := by decide +kernel
theorem dX8_fileOf_144 : decode cX8_fileOf 144 = .ok (.ireturn, 1) := by decide +kernel
theorem dX8_isFound_0 : decode cX8_isFound 0 = .ok (.iconst 0, 1) := by decide +kernel
theorem dX8_isFound_1 : decode cX8_isFound 1 = .ok (.istore_n 3, 1) := by decide +kernel
theorem dX8_isFound_2 : decode cX8_isFound 2 = .ok (.iconst 0, 1) := by decide +kernel
theorem dX8_isFound_3 : decode cX8_isFound 3 = .ok (.istore 4, 2) := by decide +kernel
theorem dX8_isFound_5 : decode cX8_isFound 5 = .ok (.iload 4, 2) := by decide +kernel
theorem dX8_isFound_7 : decode cX8_isFound 7 = .ok (.aload_n 0, 1) := by decide +kernel
theorem dX8_isFound_8 : decode cX8_isFound 8 = .ok (.getfield 31, 3) := by decide +kernel
theorem dX8_isFound_11 : decode cX8_isFound 11 = .ok (.iload_n 1, 1) := by decide +kernel
theorem dX8_isFound_12 : decode cX8_isFound 12 = .ok (.iaload, 1) := by decide +kernel
theorem dX8_isFound_13 : decode cX8_isFound 13 = .ok (.if_icmp .ge 35, 3) := by decide +kernel
theorem dX8_isFound_16 : decode cX8_isFound 16 = .ok (.iload_n 3, 1) := by decide +kernel
theorem dX8_isFound_17 : decode cX8_isFound 17 = .ok (.ifCond .ne 19, 3) := by decide +kernel
theorem dX8_isFound_20 : decode cX8_isFound 20 = .ok (.aload_n 0, 1) := by decide +kernel
theorem dX8_isFound_21 : decode cX8_isFound 21 = .ok (.getfield 43, 3) := by decide +kernel
theorem dX8_isFound_24 : decode cX8_isFound 24 = .ok (.bipush 12, 2) := by decide +kernel
theorem dX8_isFound_26 : decode cX8_isFound 26 = .ok (.iload_n 1, 1) := by decide +kernel
theorem dX8_isFound_27 : decode cX8_isFound 27 = .ok (.imul, 1) := by decide +kernel
theorem dX8_isFound_28 : decode cX8_isFound 28 = .ok (.iload 4, 2) := by decide +kernel
theorem dX8_isFound_30 : decode cX8_isFound 30 = .ok (.iadd, 1) := by decide +kernel
theorem dX8_isFound_31 : decode cX8_isFound 31 = .ok (.iaload, 1) := by decide +kernel
theorem dX8_isFound_32 : decode cX8_isFound 32 = .ok (.iload_n 2, 1) := by decide +kernel
theorem dX8_isFound_33 : decode cX8_isFound 33 = .ok (.if_icmp .ne 7, 3) := by decide +kernel
theorem dX8_isFound_36 : decode cX8_isFound 36 = .ok (.iconst 1, 1) := by decide +kernel
theorem dX8_isFound_37 : decode cX8_isFound 37 = .ok (.goto 4, 3) := by decide +kernel
theorem dX8_isFound_40 : decode cX8_isFound 40 = .ok (.iconst 0, 1) := by decide +kernel
theorem dX8_isFound_41 : decode cX8_isFound 41 = .ok (.istore_n 3, 1) := by decide +kernel
theorem dX8_isFound_42 : decode cX8_isFound 42 = .ok (.iinc 4 1, 3) := by decide +kernel
theorem dX8_isFound_45 : decode cX8_isFound 45 = .ok (.goto (-40), 3) := by decide +kernel
theorem dX8_isFound_48 : decode cX8_isFound 48 = .ok (.iload_n 3, 1) := by decide +kernel
theorem dX8_isFound_49 : decode cX8_isFound 49 = .ok (.ireturn, 1) := by decide +kernel
theorem dX8_goesOn_0 : decode cX8_goesOn 0 = .ok (.aload_n 0, 1) := by decide +kernel
theorem dX8_goesOn_1 : decode cX8_goesOn 1 = .ok (.iload_n 2, 1) := by decide +kernel
theorem dX8_goesOn_2 : decode cX8_goesOn 2 = .ok (.invokevirtual 68, 3) := by decide +kernel
theorem dX8_goesOn_5 : decode cX8_goesOn 5 = .ok (.ifCond .eq 54, 3) := by decide +kernel
theorem dX8_goesOn_8 : decode cX8_goesOn 8 = .ok (.aload_n 0, 1) := by decide +kernel
theorem dX8_goesOn_9 : decode cX8_goesOn 9 = .ok (.getfield 7, 3) := by decide +kernel
theorem dX8_goesOn_12 : decode cX8_goesOn 12 = .ok (.iconst 0, 1) := by decide +kernel
theorem dX8_goesOn_13 : decode cX8_goesOn 13 = .ok (.iload_n 2, 1) := by decide +kernel
theorem dX8_goesOn_14 : decode cX8_goesOn 14 = .ok (.iadd, 1) := by decide +kernel
theorem dX8_goesOn_15 : decode cX8_goesOn 15 = .ok (.iaload, 1) := by decide +kernel
theorem dX8_goesOn_16 : decode cX8_goesOn 16 = .ok (.iconst 2, 1) := by decide +kernel
theorem dX8_goesOn_17 : decode cX8_goesOn 17 = .ok (.if_icmp .ne 42, 3) := by decide +kernel
theorem dX8_goesOn_20 : decode cX8_goesOn 20 = .ok (.aload_n 0, 1) := by decide +kernel
theorem dX8_goesOn_21 : decode cX8_goesOn 21 = .ok (.getfield 7, 3) := by decide +kernel
theorem dX8_goesOn_24 : decode cX8_goesOn 24 = .ok (.bipush 40, 2) := by decide +kernel
theorem dX8_goesOn_26 : decode cX8_goesOn 26 = .ok (.iload_n 2, 1) := by decide +kernel
theorem dX8_goesOn_27 : decode cX8_goesOn 27 = .ok (.iadd, 1) := by decide +kernel
theorem dX8_goesOn_28 : decode cX8_goesOn 28 = .ok (.iaload, 1) := by decide +kernel
theorem dX8_goesOn_29 : decode cX8_goesOn 29 = .ok (.aload_n 0, 1) := by decide +kernel
theorem dX8_goesOn_30 : decode cX8_goesOn 30 = .ok (.getfield 7, 3) := by decide +kernel
theorem dX8_goesOn_33 : decode cX8_goesOn 33 = .ok (.bipush 40, 2) := by decide +kernel
theorem dX8_goesOn_35 : decode cX8_goesOn 35 = .ok (.aload_n 0, 1) := by decide +kernel
theorem dX8_goesOn_36 : decode cX8_goesOn 36 = .ok (.getfield 28, 3) := by decide +kernel
theorem dX8_goesOn_39 : decode cX8_goesOn 39 = .ok (.iload_n 1, 1) := by decide +kernel
theorem dX8_goesOn_40 : decode cX8_goesOn 40 = .ok (.iaload, 1) := by decide +kernel
theorem dX8_goesOn_41 : decode cX8_goesOn 41 = .ok (.iadd, 1) := by decide +kernel
theorem dX8_goesOn_42 : decode cX8_goesOn 42 = .ok (.iaload, 1) := by decide +kernel
theorem dX8_goesOn_43 : decode cX8_goesOn 43 = .ok (.if_icmp .ne 16, 3) := by decide +kernel
theorem dX8_goesOn_46 : decode cX8_goesOn 46 = .ok (.aload_n 0, 1) := by decide +kernel
theorem dX8_goesOn_47 : decode cX8_goesOn 47 = .ok (.iload_n 1, 1) := by decide +kernel
theorem dX8_goesOn_48 : decode cX8_goesOn 48 = .ok (.iload_n 2, 1) := by decide +kernel
theorem dX8_goesOn_49 : decode cX8_goesOn 49 = .ok (.invokevirtual 107, 3) := by decide +kernel
theorem dX8_goesOn_52 : decode cX8_goesOn 52 = .ok (.ifCond .ne 7, 3) := by decide +kernel
theorem dX8_goesOn_55 : decode cX8_goesOn 55 = .ok (.iconst 1, 1) := by decide +kernel
theorem dX8_goesOn_56 : decode cX8_goesOn 56 = .ok (.goto 4, 3) := by decide +kernel
theorem dX8_goesOn_59 : decode cX8_goesOn 59 = .ok (.iconst 0, 1) := by decide +kernel
theorem dX8_goesOn_60 : decode cX8_goesOn 60 = .ok (.istore_n 3, 1) := by decide +kernel
theorem dX8_goesOn_61 : decode cX8_goesOn 61 = .ok (.iload_n 3, 1) := by decide +kernel
theorem dX8_goesOn_62 : decode cX8_goesOn 62 = .ok (.ifCond .eq 30, 3) := by decide +kernel
theorem dX8_goesOn_65 : decode cX8_goesOn 65 = .ok (.aload_n 0, 1) := by decide +kernel
theorem dX8_goesOn_66 : decode cX8_goesOn 66 = .ok (.getfield 43, 3) := by decide +kernel
theorem dX8_goesOn_69 : decode cX8_goesOn 69 = .ok (.bipush 12, 2) := by decide +kernel
theorem dX8_goesOn_71 : decode cX8_goesOn 71 = .ok (.iload_n 1, 1) := by decide +kernel
theorem dX8_goesOn_72 : decode cX8_goesOn 72 = .ok (.imul, 1) := by decide +kernel
theorem dX8_goesOn_73 : decode cX8_goesOn 73 = .ok (.aload_n 0, 1) := by decide +kernel
theorem dX8_goesOn_74 : decode cX8_goesOn 74 = .ok (.getfield 31, 3) := by decide +kernel
theorem dX8_goesOn_77 : decode cX8_goesOn 77 = .ok (.iload_n 1, 1) := by decide +kernel
theorem dX8_goesOn_78 : decode cX8_goesOn 78 = .ok (.iaload, 1) := by decide +kernel
theorem dX8_goesOn_79 : decode cX8_goesOn 79 = .ok (.iadd, 1) := by decide +kernel
theorem dX8_goesOn_80 : decode cX8_goesOn 80 = .ok (.iload_n 2, 1) := by decide +kernel
theorem dX8_goesOn_81 : decode cX8_goesOn 81 = .ok (.iastore, 1) := by decide +kernel
theorem dX8_goesOn_82 : decode cX8_goesOn 82 = .ok (.aload_n 0, 1) := by decide +kernel
theorem dX8_goesOn_83 : decode cX8_goesOn 83 = .ok (.getfield 31, 3) := by decide +kernel
theorem dX8_goesOn_86 : decode cX8_goesOn 86 = .ok (.iload_n 1, 1) := by decide +kernel
theorem dX8_goesOn_87 : decode cX8_goesOn 87 = .ok (.dup2, 1) := by decide +kernel
theorem dX8_goesOn_88 : decode cX8_goesOn 88 = .ok (.iaload, 1) := by decide +kernel
theorem dX8_goesOn_89 : decode cX8_goesOn 89 = .ok (.iconst 1, 1) := by decide +kernel
theorem dX8_goesOn_90 : decode cX8_goesOn 90 = .ok (.iadd, 1) := by decide +kernel
theorem dX8_goesOn_91 : decode cX8_goesOn 91 = .ok (.iastore, 1) := by decide +kernel
theorem dX8_goesOn_92 : decode cX8_goesOn 92 = .ok (.iload_n 3, 1) := by decide +kernel
theorem dX8_goesOn_93 : decode cX8_goesOn 93 = .ok (.ireturn, 1) := by decide +kernel
theorem dX8_entry_0 : decode cX8_entry 0 = .ok (.ldc 71, 2) := by decide +kernel
theorem dX8_entry_2 : decode cX8_entry 2 = .ok (.istore_n 3, 1) := by decide +kernel
theorem dX8_entry_3 : decode cX8_entry 3 = .ok (.aload_n 0, 1) := by decide +kernel
theorem dX8_entry_4 : decode cX8_entry 4 = .ok (.getfield 7, 3) := by decide +kernel
theorem dX8_entry_7 : decode cX8_entry 7 = .ok (.sipush 248, 3) := by decide +kernel
theorem dX8_entry_10 : decode cX8_entry 10 = .ok (.iaload, 1) := by decide +kernel
theorem dX8_entry_11 : decode cX8_entry 11 = .ok (.iconst 1, 1) := by decide +kernel
theorem dX8_entry_12 : decode cX8_entry 12 = .ok (.isub, 1) := by decide +kernel
theorem dX8_entry_13 : decode cX8_entry 13 = .ok (.istore 4, 2) := by decide +kernel
theorem dX8_entry_15 : decode cX8_entry 15 = .ok (.iload 4, 2) := by decide +kernel
theorem dX8_entry_17 : decode cX8_entry 17 = .ok (.ifCond .lt 56, 3) := by decide +kernel
theorem dX8_entry_20 : decode cX8_entry 20 = .ok (.sipush 230, 3) := by decide +kernel
theorem dX8_entry_23 : decode cX8_entry 23 = .ok (.iconst 3, 1) := by decide +kernel
theorem dX8_entry_24 : decode cX8_entry 24 = .ok (.iload 4, 2) := by decide +kernel
theorem dX8_entry_26 : decode cX8_entry 26 = .ok (.imul, 1) := by decide +kernel
theorem dX8_entry_27 : decode cX8_entry 27 = .ok (.iadd, 1) := by decide +kernel
theorem dX8_entry_28 : decode cX8_entry 28 = .ok (.istore 5, 2) := by decide +kernel
theorem dX8_entry_30 : decode cX8_entry 30 = .ok (.aload_n 0, 1) := by decide +kernel
theorem dX8_entry_31 : decode cX8_entry 31 = .ok (.getfield 7, 3) := by decide +kernel
theorem dX8_entry_34 : decode cX8_entry 34 = .ok (.iload 5, 2) := by decide +kernel
theorem dX8_entry_36 : decode cX8_entry 36 = .ok (.iconst 2, 1) := by decide +kernel
theorem dX8_entry_37 : decode cX8_entry 37 = .ok (.iadd, 1) := by decide +kernel
theorem dX8_entry_38 : decode cX8_entry 38 = .ok (.iaload, 1) := by decide +kernel
theorem dX8_entry_39 : decode cX8_entry 39 = .ok (.iload_n 1, 1) := by decide +kernel
theorem dX8_entry_40 : decode cX8_entry 40 = .ok (.if_icmp .ne 25, 3) := by decide +kernel
theorem dX8_entry_43 : decode cX8_entry 43 = .ok (.iload_n 2, 1) := by decide +kernel
theorem dX8_entry_44 : decode cX8_entry 44 = .ok (.ifCond .lt 16, 3) := by decide +kernel
theorem dX8_entry_47 : decode cX8_entry 47 = .ok (.aload_n 0, 1) := by decide +kernel
theorem dX8_entry_48 : decode cX8_entry 48 = .ok (.getfield 7, 3) := by decide +kernel
theorem dX8_entry_51 : decode cX8_entry 51 = .ok (.iload 5, 2) := by decide +kernel
theorem dX8_entry_53 : decode cX8_entry 53 = .ok (.iconst 1, 1) := by decide +kernel
theorem dX8_entry_54 : decode cX8_entry 54 = .ok (.iadd, 1) := by decide +kernel
theorem dX8_entry_55 : decode cX8_entry 55 = .ok (.iaload, 1) := by decide +kernel
theorem dX8_entry_56 : decode cX8_entry 56 = .ok (.iload_n 2, 1) := by decide +kernel
theorem dX8_entry_57 : decode cX8_entry 57 = .ok (.if_icmp .ne 8, 3) := by decide +kernel
theorem dX8_entry_60 : decode cX8_entry 60 = .ok (.iload 4, 2) := by decide +kernel
theorem dX8_entry_62 : decode cX8_entry 62 = .ok (.goto 4, 3) := by decide +kernel
theorem dX8_entry_65 : decode cX8_entry 65 = .ok (.iload_n 3, 1) := by decide +kernel
theorem dX8_entry_66 : decode cX8_entry 66 = .ok (.istore_n 3, 1) := by decide +kernel
theorem dX8_entry_67 : decode cX8_entry 67 = .ok (.iinc 4 (-1), 3) := by decide +kernel
theorem dX8_entry_70 : decode cX8_entry 70 = .ok (.goto (-55), 3) := by decide +kernel
theorem dX8_entry_73 : decode cX8_entry 73 = .ok (.iload_n 3, 1) := by decide +kernel
theorem dX8_entry_74 : decode cX8_entry 74 = .ok (.ireturn, 1) := by decide +kernel
theorem dX8_guesses0_0 : decode cX8_guesses0 0 = .ok (.aload_n 0, 1) := by decide +kernel
theorem dX8_guesses0_1 : decode cX8_guesses0 1 = .ok (.getfield 110, 3) := by decide +kernel
theorem dX8_guesses0_4 : decode cX8_guesses0 4 = .ok (.istore_n 2, 1) := by decide +kernel
theorem dX8_guesses0_5 : decode cX8_guesses0 5 = .ok (.aload_n 0, 1) := by decide +kernel
theorem dX8_guesses0_6 : decode cX8_guesses0 6 = .ok (.getfield 28, 3) := by decide +kernel
theorem dX8_guesses0_9 : decode cX8_guesses0 9 = .ok (.iload_n 2, 1) := by decide +kernel
theorem dX8_guesses0_10 : decode cX8_guesses0 10 = .ok (.iload_n 1, 1) := by decide +kernel
theorem dX8_guesses0_11 : decode cX8_guesses0 11 = .ok (.iastore, 1) := by decide +kernel
theorem dX8_guesses0_12 : decode cX8_guesses0 12 = .ok (.aload_n 0, 1) := by decide +kernel
theorem dX8_guesses0_13 : decode cX8_guesses0 13 = .ok (.getfield 31, 3) := by decide +kernel
theorem dX8_guesses0_16 : decode cX8_guesses0 16 = .ok (.iload_n 2, 1) := by decide +kernel
theorem dX8_guesses0_17 : decode cX8_guesses0 17 = .ok (.iconst 1, 1) := by decide +kernel
theorem dX8_guesses0_18 : decode cX8_guesses0 18 = .ok (.iastore, 1) := by decide +kernel
theorem dX8_guesses0_19 : decode cX8_guesses0 19 = .ok (.aload_n 0, 1) := by decide +kernel
theorem dX8_guesses0_20 : decode cX8_guesses0 20 = .ok (.getfield 34, 3) := by decide +kernel
theorem dX8_guesses0_23 : decode cX8_guesses0 23 = .ok (.iload_n 2, 1) := by decide +kernel
theorem dX8_guesses0_24 : decode cX8_guesses0 24 = .ok (.iconst 0, 1) := by decide +kernel
theorem dX8_guesses0_25 : decode cX8_guesses0 25 = .ok (.iastore, 1) := by decide +kernel
theorem dX8_guesses0_26 : decode cX8_guesses0 26 = .ok (.aload_n 0, 1) := by decide +kernel
theorem dX8_guesses0_27 : decode cX8_guesses0 27 = .ok (.getfield 37, 3) := by decide +kernel
theorem dX8_guesses0_30 : decode cX8_guesses0 30 = .ok (.iload_n 2, 1) := by decide +kernel
theorem dX8_guesses0_31 : decode cX8_guesses0 31 = .ok (.iconst 0, 1) := by decide +kernel
theorem dX8_guesses0_32 : decode cX8_guesses0 32 = .ok (.iastore, 1) := by decide +kernel
theorem dX8_guesses0_33 : decode cX8_guesses0 33 = .ok (.aload_n 0, 1) := by decide +kernel
theorem dX8_guesses0_34 : decode cX8_guesses0 34 = .ok (.getfield 43, 3) := by decide +kernel
theorem dX8_guesses0_37 : decode cX8_guesses0 37 = .ok (.bipush 12, 2) := by decide +kernel
theorem dX8_guesses0_39 : decode cX8_guesses0 39 = .ok (.iload_n 2, 1) := by decide +kernel
theorem dX8_guesses0_40 : decode cX8_guesses0 40 = .ok (.imul, 1) := by decide +kernel
theorem dX8_guesses0_41 : decode cX8_guesses0 41 = .ok (.iload_n 1, 1) := by decide +kernel
theorem dX8_guesses0_42 : decode cX8_guesses0 42 = .ok (.iastore, 1) := by decide +kernel
theorem dX8_guesses0_43 : decode cX8_guesses0 43 = .ok (.iconst 1, 1) := by decide +kernel
theorem dX8_guesses0_44 : decode cX8_guesses0 44 = .ok (.istore_n 3, 1) := by decide +kernel
theorem dX8_guesses0_45 : decode cX8_guesses0 45 = .ok (.iload_n 3, 1) := by decide +kernel
theorem dX8_guesses0_46 : decode cX8_guesses0 46 = .ok (.ifCond .eq 160, 3) := by decide +kernel
theorem dX8_guesses0_49 : decode cX8_guesses0 49 = .ok (.aload_n 0, 1) := by decide +kernel
theorem dX8_guesses0_50 : decode cX8_guesses0 50 = .ok (.getfield 31, 3) := by decide +kernel
theorem dX8_guesses0_53 : decode cX8_guesses0 53 = .ok (.iload_n 2, 1) := by decide +kernel
theorem dX8_guesses0_54 : decode cX8_guesses0 54 = .ok (.iaload, 1) := by decide +kernel
theorem dX8_guesses0_55 : decode cX8_guesses0 55 = .ok (.aload_n 0, 1) := by decide +kernel
theorem dX8_guesses0_56 : decode cX8_guesses0 56 = .ok (.getfield 7, 3) := by decide +kernel
theorem dX8_guesses0_59 : decode cX8_guesses0 59 = .ok (.bipush 80, 2) := by decide +kernel
theorem dX8_guesses0_61 : decode cX8_guesses0 61 = .ok (.iload_n 1, 1) := by decide +kernel
theorem dX8_guesses0_62 : decode cX8_guesses0 62 = .ok (.iadd, 1) := by decide +kernel
theorem dX8_guesses0_63 : decode cX8_guesses0 63 = .ok (.iaload, 1) := by decide +kernel
theorem dX8_guesses0_64 : decode cX8_guesses0 64 = .ok (.if_icmp .ge 142, 3) := by decide +kernel
theorem dX8_guesses0_67 : decode cX8_guesses0 67 = .ok (.aload_n 0, 1) := by decide +kernel
theorem dX8_guesses0_68 : decode cX8_guesses0 68 = .ok (.getfield 43, 3) := by decide +kernel
theorem dX8_guesses0_71 : decode cX8_guesses0 71 = .ok (.bipush 12, 2) := by decide +kernel
theorem dX8_guesses0_73 : decode cX8_guesses0 73 = .ok (.iload_n 2, 1) := by decide +kernel
theorem dX8_guesses0_74 : decode cX8_guesses0 74 = .ok (.imul, 1) := by decide +kernel
theorem dX8_guesses0_75 : decode cX8_guesses0 75 = .ok (.aload_n 0, 1) := by decide +kernel
theorem dX8_guesses0_76 : decode cX8_guesses0 76 = .ok (.getfield 31, 3) := by decide +kernel
theorem dX8_guesses0_79 : decode cX8_guesses0 79 = .ok (.iload_n 2, 1) := by decide +kernel
theorem dX8_guesses0_80 : decode cX8_guesses0 80 = .ok (.iaload, 1) := by decide +kernel
theorem dX8_guesses0_81 : decode cX8_guesses0 81 = .ok (.iadd, 1) := by decide +kernel
theorem dX8_guesses0_82 : decode cX8_guesses0 82 = .ok (.iconst 1, 1) := by decide +kernel
theorem dX8_guesses0_83 : decode cX8_guesses0 83 = .ok (.isub, 1) := by decide +kernel
theorem dX8_guesses0_84 : decode cX8_guesses0 84 = .ok (.iaload, 1) := by decide +kernel
theorem dX8_guesses0_85 : decode cX8_guesses0 85 = .ok (.istore 4, 2) := by decide +kernel
theorem dX8_guesses0_87 : decode cX8_guesses0 87 = .ok (.aload_n 0, 1) := by decide +kernel
theorem dX8_guesses0_88 : decode cX8_guesses0 88 = .ok (.getfield 7, 3) := by decide +kernel
theorem dX8_guesses0_91 : decode cX8_guesses0 91 = .ok (.bipush 120, 2) := by decide +kernel
theorem dX8_guesses0_93 : decode cX8_guesses0 93 = .ok (.iload 4, 2) := by decide +kernel
theorem dX8_guesses0_95 : decode cX8_guesses0 95 = .ok (.iadd, 1) := by decide +kernel
theorem dX8_guesses0_96 : decode cX8_guesses0 96 = .ok (.iaload, 1) := by decide +kernel
theorem dX8_guesses0_97 : decode cX8_guesses0 97 = .ok (.ifCond .lt 25, 3) := by decide +kernel
theorem dX8_guesses0_100 : decode cX8_guesses0 100 = .ok (.aload_n 0, 1) := by decide +kernel
theorem dX8_guesses0_101 : decode cX8_guesses0 101 = .ok (.iload_n 2, 1) := by decide +kernel
theorem dX8_guesses0_102 : decode cX8_guesses0 102 = .ok (.aload_n 0, 1) := by decide +kernel
theorem dX8_guesses0_103 : decode cX8_guesses0 103 = .ok (.getfield 7, 3) := by decide +kernel
theorem dX8_guesses0_106 : decode cX8_guesses0 106 = .ok (.bipush 120, 2) := by decide +kernel
theorem dX8_guesses0_108 : decode cX8_guesses0 108 = .ok (.iload 4, 2) := by decide +kernel
theorem dX8_guesses0_110 : decode cX8_guesses0 110 = .ok (.iadd, 1) := by decide +kernel
theorem dX8_guesses0_111 : decode cX8_guesses0 111 = .ok (.iaload, 1) := by decide +kernel
theorem dX8_guesses0_112 : decode cX8_guesses0 112 = .ok (.invokevirtual 113, 3) := by decide +kernel
theorem dX8_guesses0_115 : decode cX8_guesses0 115 = .ok (.ifCond .eq 7, 3) := by decide +kernel
theorem dX8_guesses0_118 : decode cX8_guesses0 118 = .ok (.iconst 1, 1) := by decide +kernel
theorem dX8_guesses0_119 : decode cX8_guesses0 119 = .ok (.goto 4, 3) := by decide +kernel
theorem dX8_guesses0_122 : decode cX8_guesses0 122 = .ok (.iconst 0, 1) := by decide +kernel
theorem dX8_guesses0_123 : decode cX8_guesses0 123 = .ok (.istore 5, 2) := by decide +kernel
theorem dX8_guesses0_125 : decode cX8_guesses0 125 = .ok (.iload 5, 2) := by decide +kernel
theorem dX8_guesses0_127 : decode cX8_guesses0 127 = .ok (.ifCond .ne 19, 3) := by decide +kernel
theorem dX8_guesses0_130 : decode cX8_guesses0 130 = .ok (.aload_n 0, 1) := by decide +kernel
theorem dX8_guesses0_131 : decode cX8_guesses0 131 = .ok (.iload_n 2, 1) := by decide +kernel
theorem dX8_guesses0_132 : decode cX8_guesses0 132 = .ok (.iload 4, 2) := by decide +kernel
theorem dX8_guesses0_134 : decode cX8_guesses0 134 = .ok (.iconst 1, 1) := by decide +kernel
theorem dX8_guesses0_135 : decode cX8_guesses0 135 = .ok (.iadd, 1) := by decide +kernel
theorem dX8_guesses0_136 : decode cX8_guesses0 136 = .ok (.invokevirtual 113, 3) := by decide +kernel
theorem dX8_guesses0_139 : decode cX8_guesses0 139 = .ok (.ifCond .eq 7, 3) := by decide +kernel
theorem dX8_guesses0_142 : decode cX8_guesses0 142 = .ok (.iconst 1, 1) := by decide +kernel
theorem dX8_guesses0_143 : decode cX8_guesses0 143 = .ok (.goto 4, 3) := by decide +kernel
theorem dX8_guesses0_146 : decode cX8_guesses0 146 = .ok (.iconst 0, 1) := by decide +kernel
theorem dX8_guesses0_147 : decode cX8_guesses0 147 = .ok (.istore 6, 2) := by decide +kernel
theorem dX8_guesses0_149 : decode cX8_guesses0 149 = .ok (.aload_n 0, 1) := by decide +kernel
theorem dX8_guesses0_150 : decode cX8_guesses0 150 = .ok (.getfield 34, 3) := by decide +kernel
theorem dX8_guesses0_153 : decode cX8_guesses0 153 = .ok (.iload_n 2, 1) := by decide +kernel
theorem dX8_guesses0_154 : decode cX8_guesses0 154 = .ok (.dup2, 1) := by decide +kernel
theorem dX8_guesses0_155 : decode cX8_guesses0 155 = .ok (.iaload, 1) := by decide +kernel
theorem dX8_guesses0_156 : decode cX8_guesses0 156 = .ok (.iload 5, 2) := by decide +kernel
theorem dX8_guesses0_158 : decode cX8_guesses0 158 = .ok (.ifCond .eq 7, 3) := by decide +kernel
theorem dX8_guesses0_161 : decode cX8_guesses0 161 = .ok (.iconst 1, 1) := by decide +kernel
theorem dX8_guesses0_162 : decode cX8_guesses0 162 = .ok (.goto 4, 3) := by decide +kernel
theorem dX8_guesses0_165 : decode cX8_guesses0 165 = .ok (.iconst 0, 1) := by decide +kernel
theorem dX8_guesses0_166 : decode cX8_guesses0 166 = .ok (.iadd, 1) := by decide +kernel
theorem dX8_guesses0_167 : decode cX8_guesses0 167 = .ok (.iastore, 1) := by decide +kernel
theorem dX8_guesses0_168 : decode cX8_guesses0 168 = .ok (.aload_n 0, 1) := by decide +kernel
theorem dX8_guesses0_169 : decode cX8_guesses0 169 = .ok (.getfield 37, 3) := by decide +kernel
theorem dX8_guesses0_172 : decode cX8_guesses0 172 = .ok (.iload_n 2, 1) := by decide +kernel
theorem dX8_guesses0_173 : decode cX8_guesses0 173 = .ok (.dup2, 1) := by decide +kernel
theorem dX8_guesses0_174 : decode cX8_guesses0 174 = .ok (.iaload, 1) := by decide +kernel
theorem dX8_guesses0_175 : decode cX8_guesses0 175 = .ok (.iload 6, 2) := by decide +kernel
theorem dX8_guesses0_177 : decode cX8_guesses0 177 = .ok (.ifCond .eq 7, 3) := by decide +kernel
theorem dX8_guesses0_180 : decode cX8_guesses0 180 = .ok (.iconst 1, 1) := by decide +kernel
theorem dX8_guesses0_181 : decode cX8_guesses0 181 = .ok (.goto 4, 3) := by decide +kernel
theorem dX8_guesses0_184 : decode cX8_guesses0 184 = .ok (.iconst 0, 1) := by decide +kernel
theorem dX8_guesses0_185 : decode cX8_guesses0 185 = .ok (.iadd, 1) := by decide +kernel
theorem dX8_guesses0_186 : decode cX8_guesses0 186 = .ok (.iastore, 1) := by decide +kernel
theorem dX8_guesses0_187 : decode cX8_guesses0 187 = .ok (.iload 5, 2) := by decide +kernel
theorem dX8_guesses0_189 : decode cX8_guesses0 189 = .ok (.ifCond .ne 8, 3) := by decide +kernel
theorem dX8_guesses0_192 : decode cX8_guesses0 192 = .ok (.iload 6, 2) := by decide +kernel
theorem dX8_guesses0_194 : decode cX8_guesses0 194 = .ok (.ifCond .eq 7, 3) := by decide +kernel
theorem dX8_guesses0_197 : decode cX8_guesses0 197 = .ok (.iconst 1, 1) := by decide +kernel
theorem dX8_guesses0_198 : decode cX8_guesses0 198 = .ok (.goto 4, 3) := by decide +kernel
theorem dX8_guesses0_201 : decode cX8_guesses0 201 = .ok (.iconst 0, 1) := by decide +kernel
theorem dX8_guesses0_202 : decode cX8_guesses0 202 = .ok (.istore_n 3, 1) := by decide +kernel
theorem dX8_guesses0_203 : decode cX8_guesses0 203 = .ok (.goto (-158), 3) := by decide +kernel
theorem dX8_guesses0_206 : decode cX8_guesses0 206 = .ok (.aload_n 0, 1) := by decide +kernel
theorem dX8_guesses0_207 : decode cX8_guesses0 207 = .ok (.getfield 40, 3) := by decide +kernel
theorem dX8_guesses0_210 : decode cX8_guesses0 210 = .ok (.iload_n 2, 1) := by decide +kernel
theorem dX8_guesses0_211 : decode cX8_guesses0 211 = .ok (.bipush 10, 2) := by decide +kernel
theorem dX8_guesses0_213 : decode cX8_guesses0 213 = .ok (.bipush 10, 2) := by decide +kernel
theorem dX8_guesses0_215 : decode cX8_guesses0 215 = .ok (.aload_n 0, 1) := by decide +kernel
theorem dX8_guesses0_216 : decode cX8_guesses0 216 = .ok (.getfield 34, 3) := by decide +kernel
theorem dX8_guesses0_219 : decode cX8_guesses0 219 = .ok (.iload_n 2, 1) := by decide +kernel
theorem dX8_guesses0_220 : decode cX8_guesses0 220 = .ok (.iaload, 1) := by decide +kernel
theorem dX8_guesses0_221 : decode cX8_guesses0 221 = .ok (.imul, 1) := by decide +kernel
theorem dX8_guesses0_222 : decode cX8_guesses0 222 = .ok (.iadd, 1) := by decide +kernel
theorem dX8_guesses0_223 : decode cX8_guesses0 223 = .ok (.iconst 4, 1) := by decide +kernel
theorem dX8_guesses0_224 : decode cX8_guesses0 224 = .ok (.aload_n 0, 1) := by decide +kernel
theorem dX8_guesses0_225 : decode cX8_guesses0 225 = .ok (.getfield 37, 3) := by decide +kernel
theorem dX8_guesses0_228 : decode cX8_guesses0 228 = .ok (.iload_n 2, 1) := by decide +kernel
theorem dX8_guesses0_229 : decode cX8_guesses0 229 = .ok (.iaload, 1) := by decide +kernel
theorem dX8_guesses0_230 : decode cX8_guesses0 230 = .ok (.imul, 1) := by decide +kernel
theorem dX8_guesses0_231 : decode cX8_guesses0 231 = .ok (.iadd, 1) := by decide +kernel
theorem dX8_guesses0_232 : decode cX8_guesses0 232 = .ok (.bipush 6, 2) := by decide +kernel
theorem dX8_guesses0_234 : decode cX8_guesses0 234 = .ok (.aload_n 0, 1) := by decide +kernel
theorem dX8_guesses0_235 : decode cX8_guesses0 235 = .ok (.getfield 7, 3) := by decide +kernel
theorem dX8_guesses0_238 : decode cX8_guesses0 238 = .ok (.bipush 80, 2) := by decide +kernel
theorem dX8_guesses0_240 : decode cX8_guesses0 240 = .ok (.iload_n 1, 1) := by decide +kernel
theorem dX8_guesses0_241 : decode cX8_guesses0 241 = .ok (.iadd, 1) := by decide +kernel
theorem dX8_guesses0_242 : decode cX8_guesses0 242 = .ok (.iaload, 1) := by decide +kernel
theorem dX8_guesses0_243 : decode cX8_guesses0 243 = .ok (.aload_n 0, 1) := by decide +kernel
theorem dX8_guesses0_244 : decode cX8_guesses0 244 = .ok (.getfield 31, 3) := by decide +kernel
theorem dX8_guesses0_247 : decode cX8_guesses0 247 = .ok (.iload_n 2, 1) := by decide +kernel
theorem dX8_guesses0_248 : decode cX8_guesses0 248 = .ok (.iaload, 1) := by decide +kernel
theorem dX8_guesses0_249 : decode cX8_guesses0 249 = .ok (.isub, 1) := by decide +kernel
theorem dX8_guesses0_250 : decode cX8_guesses0 250 = .ok (.imul, 1) := by decide +kernel
theorem dX8_guesses0_251 : decode cX8_guesses0 251 = .ok (.isub, 1) := by decide +kernel
theorem dX8_guesses0_252 : decode cX8_guesses0 252 = .ok (.aload_n 0, 1) := by decide +kernel
theorem dX8_guesses0_253 : decode cX8_guesses0 253 = .ok (.aload_n 0, 1) := by decide +kernel
theorem dX8_guesses0_254 : decode cX8_guesses0 254 = .ok (.getfield 7, 3) := by decide +kernel
theorem dX8_guesses0_257 : decode cX8_guesses0 257 = .ok (.bipush 40, 2) := by decide +kernel
theorem dX8_guesses0_259 : decode cX8_guesses0 259 = .ok (.iload_n 1, 1) := by decide +kernel
theorem dX8_guesses0_260 : decode cX8_guesses0 260 = .ok (.iadd, 1) := by decide +kernel
theorem dX8_guesses0_261 : decode cX8_guesses0 261 = .ok (.iaload, 1) := by decide +kernel
theorem dX8_guesses0_262 : decode cX8_guesses0 262 = .ok (.iload_n 1, 1) := by decide +kernel
theorem dX8_guesses0_263 : decode cX8_guesses0 263 = .ok (.invokevirtual 116, 3) := by decide +kernel
theorem dX8_guesses0_266 : decode cX8_guesses0 266 = .ok (.ifCond .lt 8, 3) := by decide +kernel
theorem dX8_guesses0_269 : decode cX8_guesses0 269 = .ok (.bipush 15, 2) := by decide +kernel
theorem dX8_guesses0_271 : decode cX8_guesses0 271 = .ok (.goto 4, 3) := by decide +kernel
theorem dX8_guesses0_274 : decode cX8_guesses0 274 = .ok (.iconst 0, 1) := by decide +kernel
theorem dX8_guesses0_275 : decode cX8_guesses0 275 = .ok (.iadd, 1) := by decide +kernel
theorem dX8_guesses0_276 : decode cX8_guesses0 276 = .ok (.iastore, 1) := by decide +kernel
theorem dX8_guesses0_277 : decode cX8_guesses0 277 = .ok (.aload_n 0, 1) := by decide +kernel
theorem dX8_guesses0_278 : decode cX8_guesses0 278 = .ok (.dup, 1) := by decide +kernel
theorem dX8_guesses0_279 : decode cX8_guesses0 279 = .ok (.getfield 110, 3) := by decide +kernel
theorem dX8_guesses0_282 : decode cX8_guesses0 282 = .ok (.iconst 1, 1) := by decide +kernel
theorem dX8_guesses0_283 : decode cX8_guesses0 283 = .ok (.iadd, 1) := by decide +kernel
theorem dX8_guesses0_284 : decode cX8_guesses0 284 = .ok (.putfield 110, 3) := by decide +kernel
theorem dX8_guesses0_287 : decode cX8_guesses0 287 = .ok (.return_, 1) := by decide +kernel
theorem dX8_guessAll_0 : decode cX8_guessAll 0 = .ok (.aload_n 0, 1) := by decide +kernel
theorem dX8_guessAll_1 : decode cX8_guessAll 1 = .ok (.iconst 0, 1) := by decide +kernel
theorem dX8_guessAll_2 : decode cX8_guessAll 2 = .ok (.putfield 110, 3) := by decide +kernel
theorem dX8_guessAll_5 : decode cX8_guessAll 5 = .ok (.iconst 0, 1) := by decide +kernel
theorem dX8_guessAll_6 : decode cX8_guessAll 6 = .ok (.istore_n 1, 1) := by decide +kernel
theorem dX8_guessAll_7 : decode cX8_guessAll 7 = .ok (.iload_n 1, 1) := by decide +kernel
theorem dX8_guessAll_8 : decode cX8_guessAll 8 = .ok (.bipush 40, 2) := by decide +kernel
theorem dX8_guessAll_10 : decode cX8_guessAll 10 = .ok (.if_icmp .ge 34, 3) := by decide +kernel
theorem dX8_guessAll_13 : decode cX8_guessAll 13 = .ok (.aload_n 0, 1) := by decide +kernel
theorem dX8_guessAll_14 : decode cX8_guessAll 14 = .ok (.iload_n 1, 1) := by decide +kernel
theorem dX8_guessAll_15 : decode cX8_guessAll 15 = .ok (.invokevirtual 68, 3) := by decide +kernel
theorem dX8_guessAll_18 : decode cX8_guessAll 18 = .ok (.ifCond .eq 20, 3) := by decide +kernel
theorem dX8_guessAll_21 : decode cX8_guessAll 21 = .ok (.aload_n 0, 1) := by decide +kernel
theorem dX8_guessAll_22 : decode cX8_guessAll 22 = .ok (.getfield 7, 3) := by decide +kernel
theorem dX8_guessAll_25 : decode cX8_guessAll 25 = .ok (.iconst 0, 1) := by decide +kernel
theorem dX8_guessAll_26 : decode cX8_guessAll 26 = .ok (.iload_n 1, 1) := by decide +kernel
theorem dX8_guessAll_27 : decode cX8_guessAll 27 = .ok (.iadd, 1) := by decide +kernel
theorem dX8_guessAll_28 : decode cX8_guessAll 28 = .ok (.iaload, 1) := by decide +kernel
theorem dX8_guessAll_29 : decode cX8_guessAll 29 = .ok (.iconst 1, 1) := by decide +kernel
theorem dX8_guessAll_30 : decode cX8_guessAll 30 = .ok (.if_icmp .ne 8, 3) := by decide +kernel
theorem dX8_guessAll_33 : decode cX8_guessAll 33 = .ok (.aload_n 0, 1) := by decide +kernel
theorem dX8_guessAll_34 : decode cX8_guessAll 34 = .ok (.iload_n 1, 1) := by decide +kernel
theorem dX8_guessAll_35 : decode cX8_guessAll 35 = .ok (.invokevirtual 119, 3) := by decide +kernel
theorem dX8_guessAll_38 : decode cX8_guessAll 38 = .ok (.iinc 1 1, 3) := by decide +kernel
theorem dX8_guessAll_41 : decode cX8_guessAll 41 = .ok (.goto (-34), 3) := by decide +kernel
theorem dX8_guessAll_44 : decode cX8_guessAll 44 = .ok (.iconst 0, 1) := by decide +kernel
theorem dX8_guessAll_45 : decode cX8_guessAll 45 = .ok (.istore_n 1, 1) := by decide +kernel
theorem dX8_guessAll_46 : decode cX8_guessAll 46 = .ok (.iload_n 1, 1) := by decide +kernel
theorem dX8_guessAll_47 : decode cX8_guessAll 47 = .ok (.aload_n 0, 1) := by decide +kernel
theorem dX8_guessAll_48 : decode cX8_guessAll 48 = .ok (.getfield 110, 3) := by decide +kernel
theorem dX8_guessAll_51 : decode cX8_guessAll 51 = .ok (.if_icmp .ge 77, 3) := by decide +kernel
theorem dX8_guessAll_54 : decode cX8_guessAll 54 = .ok (.iconst 0, 1) := by decide +kernel
theorem dX8_guessAll_55 : decode cX8_guessAll 55 = .ok (.istore_n 2, 1) := by decide +kernel
theorem dX8_guessAll_56 : decode cX8_guessAll 56 = .ok (.iconst 0, 1) := by decide +kernel
theorem dX8_guessAll_57 : decode cX8_guessAll 57 = .ok (.istore_n 3, 1) := by decide +kernel
theorem dX8_guessAll_58 : decode cX8_guessAll 58 = .ok (.iload_n 3, 1) := by decide +kernel
theorem dX8_guessAll_59 : decode cX8_guessAll 59 = .ok (.aload_n 0, 1) := by decide +kernel
theorem dX8_guessAll_60 : decode cX8_guessAll 60 = .ok (.getfield 110, 3) := by decide +kernel
theorem dX8_guessAll_63 : decode cX8_guessAll 63 = .ok (.if_icmp .ge 52, 3) := by decide +kernel
theorem dX8_guessAll_66 : decode cX8_guessAll 66 = .ok (.iload_n 2, 1) := by decide +kernel
theorem dX8_guessAll_67 : decode cX8_guessAll 67 = .ok (.aload_n 0, 1) := by decide +kernel
theorem dX8_guessAll_68 : decode cX8_guessAll 68 = .ok (.getfield 40, 3) := by decide +kernel
theorem dX8_guessAll_71 : decode cX8_guessAll 71 = .ok (.iload_n 3, 1) := by decide +kernel
theorem dX8_guessAll_72 : decode cX8_guessAll 72 = .ok (.iaload, 1) := by decide +kernel
theorem dX8_guessAll_73 : decode cX8_guessAll 73 = .ok (.aload_n 0, 1) := by decide +kernel
theorem dX8_guessAll_74 : decode cX8_guessAll 74 = .ok (.getfield 40, 3) := by decide +kernel
theorem dX8_guessAll_77 : decode cX8_guessAll 77 = .ok (.iload_n 1, 1) := by decide +kernel
theorem dX8_guessAll_78 : decode cX8_guessAll 78 = .ok (.iaload, 1) := by decide +kernel
theorem dX8_guessAll_79 : decode cX8_guessAll 79 = .ok (.if_icmp .gt 23, 3) := by decide +kernel
theorem dX8_guessAll_82 : decode cX8_guessAll 82 = .ok (.iload_n 3, 1) := by decide +kernel
theorem dX8_guessAll_83 : decode cX8_guessAll 83 = .ok (.iload_n 1, 1) := by decide +kernel
theorem dX8_guessAll_84 : decode cX8_guessAll 84 = .ok (.if_icmp .ge 22, 3) := by decide +kernel
theorem dX8_guessAll_87 : decode cX8_guessAll 87 = .ok (.aload_n 0, 1) := by decide +kernel
theorem dX8_guessAll_88 : decode cX8_guessAll 88 = .ok (.getfield 40, 3) := by decide +kernel
theorem dX8_guessAll_91 : decode cX8_guessAll 91 = .ok (.iload_n 3, 1) := by decide +kernel
theorem dX8_guessAll_92 : decode cX8_guessAll 92 = .ok (.iaload, 1) := by decide +kernel
theorem dX8_guessAll_93 : decode cX8_guessAll 93 = .ok (.aload_n 0, 1) := by decide +kernel
theorem dX8_guessAll_94 : decode cX8_guessAll 94 = .ok (.getfield 40, 3) := by decide +kernel
theorem dX8_guessAll_97 : decode cX8_guessAll 97 = .ok (.iload_n 1, 1) := by decide +kernel
theorem dX8_guessAll_98 : decode cX8_guessAll 98 = .ok (.iaload, 1) := by decide +kernel
theorem dX8_guessAll_99 : decode cX8_guessAll 99 = .ok (.if_icmp .ne 7, 3) := by decide +kernel
theorem dX8_guessAll_102 : decode cX8_guessAll 102 = .ok (.iconst 1, 1) := by decide +kernel
theorem dX8_guessAll_103 : decode cX8_guessAll 103 = .ok (.goto 4, 3) := by decide +kernel
theorem dX8_guessAll_106 : decode cX8_guessAll 106 = .ok (.iconst 0, 1) := by decide +kernel
theorem dX8_guessAll_107 : decode cX8_guessAll 107 = .ok (.iadd, 1) := by decide +kernel
theorem dX8_guessAll_108 : decode cX8_guessAll 108 = .ok (.istore_n 2, 1) := by decide +kernel
theorem dX8_guessAll_109 : decode cX8_guessAll 109 = .ok (.iinc 3 1, 3) := by decide +kernel
theorem dX8_guessAll_112 : decode cX8_guessAll 112 = .ok (.goto (-54), 3) := by decide +kernel
theorem dX8_guessAll_115 : decode cX8_guessAll 115 = .ok (.aload_n 0, 1) := by decide +kernel
theorem dX8_guessAll_116 : decode cX8_guessAll 116 = .ok (.getfield 46, 3) := by decide +kernel
theorem dX8_guessAll_119 : decode cX8_guessAll 119 = .ok (.iload_n 2, 1) := by decide +kernel
theorem dX8_guessAll_120 : decode cX8_guessAll 120 = .ok (.iload_n 1, 1) := by decide +kernel
theorem dX8_guessAll_121 : decode cX8_guessAll 121 = .ok (.iastore, 1) := by decide +kernel
theorem dX8_guessAll_122 : decode cX8_guessAll 122 = .ok (.iinc 1 1, 3) := by decide +kernel
theorem dX8_guessAll_125 : decode cX8_guessAll 125 = .ok (.goto (-79), 3) := by decide +kernel
theorem dX8_guessAll_128 : decode cX8_guessAll 128 = .ok (.return_, 1) := by decide +kernel
theorem dX8_nameOf_0 : decode cX8_nameOf 0 = .ok (.aload_n 0, 1) := by decide +kernel
theorem dX8_nameOf_1 : decode cX8_nameOf 1 = .ok (.getfield 7, 3) := by decide +kernel
theorem dX8_nameOf_4 : decode cX8_nameOf 4 = .ok (.bipush 40, 2) := by decide +kernel
theorem dX8_nameOf_6 : decode cX8_nameOf 6 = .ok (.aload_n 0, 1) := by decide +kernel
theorem dX8_nameOf_7 : decode cX8_nameOf 7 = .ok (.getfield 28, 3) := by decide +kernel
theorem dX8_nameOf_10 : decode cX8_nameOf 10 = .ok (.iload_n 1, 1) := by decide +kernel
theorem dX8_nameOf_11 : decode cX8_nameOf 11 = .ok (.iaload, 1) := by decide +kernel
theorem dX8_nameOf_12 : decode cX8_nameOf 12 = .ok (.iadd, 1) := by decide +kernel
theorem dX8_nameOf_13 : decode cX8_nameOf 13 = .ok (.iaload, 1) := by decide +kernel
theorem dX8_nameOf_14 : decode cX8_nameOf 14 = .ok (.istore_n 2, 1) := by decide +kernel
theorem dX8_nameOf_15 : decode cX8_nameOf 15 = .ok (.aload_n 0, 1) := by decide +kernel
theorem dX8_nameOf_16 : decode cX8_nameOf 16 = .ok (.iload_n 2, 1) := by decide +kernel
theorem dX8_nameOf_17 : decode cX8_nameOf 17 = .ok (.aload_n 0, 1) := by decide +kernel
theorem dX8_nameOf_18 : decode cX8_nameOf 18 = .ok (.getfield 28, 3) := by decide +kernel
theorem dX8_nameOf_21 : decode cX8_nameOf 21 = .ok (.iload_n 1, 1) := by decide +kernel
theorem dX8_nameOf_22 : decode cX8_nameOf 22 = .ok (.iaload, 1) := by decide +kernel
theorem dX8_nameOf_23 : decode cX8_nameOf 23 = .ok (.invokevirtual 116, 3) := by decide +kernel
theorem dX8_nameOf_26 : decode cX8_nameOf 26 = .ok (.istore_n 3, 1) := by decide +kernel
theorem dX8_nameOf_27 : decode cX8_nameOf 27 = .ok (.iload_n 3, 1) := by decide +kernel
theorem dX8_nameOf_28 : decode cX8_nameOf 28 = .ok (.ifCond .ge 12, 3) := by decide +kernel
theorem dX8_nameOf_31 : decode cX8_nameOf 31 = .ok (.aload_n 0, 1) := by decide +kernel
theorem dX8_nameOf_32 : decode cX8_nameOf 32 = .ok (.iload_n 2, 1) := by decide +kernel
theorem dX8_nameOf_33 : decode cX8_nameOf 33 = .ok (.iconst (-1), 1) := by decide +kernel
theorem dX8_nameOf_34 : decode cX8_nameOf 34 = .ok (.invokevirtual 116, 3) := by decide +kernel
theorem dX8_nameOf_37 : decode cX8_nameOf 37 = .ok (.goto 4, 3) := by decide +kernel
theorem dX8_nameOf_40 : decode cX8_nameOf 40 = .ok (.iload_n 3, 1) := by decide +kernel
theorem dX8_nameOf_41 : decode cX8_nameOf 41 = .ok (.istore_n 3, 1) := by decide +kernel
theorem dX8_nameOf_42 : decode cX8_nameOf 42 = .ok (.iload_n 3, 1) := by decide +kernel
theorem dX8_nameOf_43 : decode cX8_nameOf 43 = .ok (.ifCond .ge 8, 3) := by decide +kernel
theorem dX8_nameOf_46 : decode cX8_nameOf 46 = .ok (.ldc 71, 2) := by decide +kernel
theorem dX8_nameOf_48 : decode cX8_nameOf 48 = .ok (.goto 15, 3) := by decide +kernel
theorem dX8_nameOf_51 : decode cX8_nameOf 51 = .ok (.aload_n 0, 1) := by decide +kernel
theorem dX8_nameOf_52 : decode cX8_nameOf 52 = .ok (.getfield 7, 3) := by decide +kernel
theorem dX8_nameOf_55 : decode cX8_nameOf 55 = .ok (.sipush 230, 3) := by decide +kernel
theorem dX8_nameOf_58 : decode cX8_nameOf 58 = .ok (.iconst 3, 1) := by decide +kernel
theorem dX8_nameOf_59 : decode cX8_nameOf 59 = .ok (.iload_n 3, 1) := by decide +kernel
theorem dX8_nameOf_60 : decode cX8_nameOf 60 = .ok (.imul, 1) := by decide +kernel
theorem dX8_nameOf_61 : decode cX8_nameOf 61 = .ok (.iadd, 1) := by decide +kernel
theorem dX8_nameOf_62 : decode cX8_nameOf 62 = .ok (.iaload, 1) := by decide +kernel
theorem dX8_nameOf_63 : decode cX8_nameOf 63 = .ok (.ireturn, 1) := by decide +kernel
theorem dX8_share_0 : decode cX8_share 0 = .ok (.iconst 0, 1) := by decide +kernel
theorem dX8_share_1 : decode cX8_share 1 = .ok (.istore_n 3, 1) := by decide +kernel
theorem dX8_share_2 : decode cX8_share 2 = .ok (.iconst 0, 1) := by decide +kernel
theorem dX8_share_3 : decode cX8_share 3 = .ok (.istore 4, 2) := by decide +kernel
theorem dX8_share_5 : decode cX8_share 5 = .ok (.iload 4, 2) := by decide +kernel
theorem dX8_share_7 : decode cX8_share 7 = .ok (.aload_n 0, 1) := by decide +kernel
theorem dX8_share_8 : decode cX8_share 8 = .ok (.getfield 31, 3) := by decide +kernel
theorem dX8_share_11 : decode cX8_share 11 = .ok (.iload_n 1, 1) := by decide +kernel
theorem dX8_share_12 : decode cX8_share 12 = .ok (.iaload, 1) := by decide +kernel
theorem dX8_share_13 : decode cX8_share 13 = .ok (.if_icmp .ge 39, 3) := by decide +kernel
theorem dX8_share_16 : decode cX8_share 16 = .ok (.iload_n 3, 1) := by decide +kernel
theorem dX8_share_17 : decode cX8_share 17 = .ok (.ifCond .ne 23, 3) := by decide +kernel
theorem dX8_share_20 : decode cX8_share 20 = .ok (.aload_n 0, 1) := by decide +kernel
theorem dX8_share_21 : decode cX8_share 21 = .ok (.iload_n 2, 1) := by decide +kernel
theorem dX8_share_22 : decode cX8_share 22 = .ok (.aload_n 0, 1) := by decide +kernel
theorem dX8_share_23 : decode cX8_share 23 = .ok (.getfield 43, 3) := by decide +kernel
theorem dX8_share_26 : decode cX8_share 26 = .ok (.bipush 12, 2) := by decide +kernel
theorem dX8_share_28 : decode cX8_share 28 = .ok (.iload_n 1, 1) := by decide +kernel
theorem dX8_share_29 : decode cX8_share 29 = .ok (.imul, 1) := by decide +kernel
theorem dX8_share_30 : decode cX8_share 30 = .ok (.iload 4, 2) := by decide +kernel
theorem dX8_share_32 : decode cX8_share 32 = .ok (.iadd, 1) := by decide +kernel
theorem dX8_share_33 : decode cX8_share 33 = .ok (.iaload, 1) := by decide +kernel
theorem dX8_share_34 : decode cX8_share 34 = .ok (.invokevirtual 107, 3) := by decide +kernel
theorem dX8_share_37 : decode cX8_share 37 = .ok (.ifCond .eq 7, 3) := by decide +kernel
theorem dX8_share_40 : decode cX8_share 40 = .ok (.iconst 1, 1) := by decide +kernel
theorem dX8_share_41 : decode cX8_share 41 = .ok (.goto 4, 3) := by decide +kernel
theorem dX8_share_44 : decode cX8_share 44 = .ok (.iconst 0, 1) := by decide +kernel
theorem dX8_share_45 : decode cX8_share 45 = .ok (.istore_n 3, 1) := by decide +kernel
theorem dX8_share_46 : decode cX8_share 46 = .ok (.iinc 4 1, 3) := by decide +kernel
theorem dX8_share_49 : decode cX8_share 49 = .ok (.goto (-44), 3) := by decide +kernel
theorem dX8_share_52 : decode cX8_share 52 = .ok (.iload_n 3, 1) := by decide +kernel
theorem dX8_share_53 : decode cX8_share 53 = .ok (.ireturn, 1) := by decide +kernel
theorem dX8_sharing_0 : decode cX8_sharing 0 = .ok (.iconst 0, 1) := by decide +kernel
theorem dX8_sharing_1 : decode cX8_sharing 1 = .ok (.istore_n 2, 1) := by decide +kernel
theorem dX8_sharing_2 : decode cX8_sharing 2 = .ok (.iconst 0, 1) := by decide +kernel
theorem dX8_sharing_3 : decode cX8_sharing 3 = .ok (.istore_n 3, 1) := by decide +kernel
theorem dX8_sharing_4 : decode cX8_sharing 4 = .ok (.iload_n 3, 1) := by decide +kernel
theorem dX8_sharing_5 : decode cX8_sharing 5 = .ok (.aload_n 0, 1) := by decide +kernel
theorem dX8_sharing_6 : decode cX8_sharing 6 = .ok (.getfield 110, 3) := by decide +kernel
theorem dX8_sharing_9 : decode cX8_sharing 9 = .ok (.if_icmp .ge 31, 3) := by decide +kernel
theorem dX8_sharing_12 : decode cX8_sharing 12 = .ok (.iload_n 2, 1) := by decide +kernel
theorem dX8_sharing_13 : decode cX8_sharing 13 = .ok (.iload_n 3, 1) := by decide +kernel
theorem dX8_sharing_14 : decode cX8_sharing 14 = .ok (.iload_n 1, 1) := by decide +kernel
theorem dX8_sharing_15 : decode cX8_sharing 15 = .ok (.if_icmp .eq 16, 3) := by decide +kernel
theorem dX8_sharing_18 : decode cX8_sharing 18 = .ok (.aload_n 0, 1) := by decide +kernel
theorem dX8_sharing_19 : decode cX8_sharing 19 = .ok (.iload_n 1, 1) := by decide +kernel
theorem dX8_sharing_20 : decode cX8_sharing 20 = .ok (.iload_n 3, 1) := by decide +kernel
theorem dX8_sharing_21 : decode cX8_sharing 21 = .ok (.invokevirtual 123, 3) := by decide +kernel
theorem dX8_sharing_24 : decode cX8_sharing 24 = .ok (.ifCond .eq 7, 3) := by decide +kernel
theorem dX8_sharing_27 : decode cX8_sharing 27 = .ok (.iconst 1, 1) := by decide +kernel
theorem dX8_sharing_28 : decode cX8_sharing 28 = .ok (.goto 4, 3) := by decide +kernel
theorem dX8_sharing_31 : decode cX8_sharing 31 = .ok (.iconst 0, 1) := by decide +kernel
theorem dX8_sharing_32 : decode cX8_sharing 32 = .ok (.iadd, 1) := by decide +kernel
theorem dX8_sharing_33 : decode cX8_sharing 33 = .ok (.istore_n 2, 1) := by decide +kernel
theorem dX8_sharing_34 : decode cX8_sharing 34 = .ok (.iinc 3 1, 3) := by decide +kernel
theorem dX8_sharing_37 : decode cX8_sharing 37 = .ok (.goto (-33), 3) := by decide +kernel
theorem dX8_sharing_40 : decode cX8_sharing 40 = .ok (.iload_n 2, 1) := by decide +kernel
theorem dX8_sharing_41 : decode cX8_sharing 41 = .ok (.ireturn, 1) := by decide +kernel
theorem dX8_guessOf_0 : decode cX8_guessOf 0 = .ok (.iload_n 1, 1) := by decide +kernel
theorem dX8_guessOf_1 : decode cX8_guessOf 1 = .ok (.ifCond .lt 24, 3) := by decide +kernel
theorem dX8_guessOf_4 : decode cX8_guessOf 4 = .ok (.iload_n 2, 1) := by decide +kernel
theorem dX8_guessOf_5 : decode cX8_guessOf 5 = .ok (.iconst 0, 1) := by decide +kernel
theorem dX8_guessOf_6 : decode cX8_guessOf 6 = .ok (.bipush 7, 2) := by decide +kernel
theorem dX8_guessOf_8 : decode cX8_guessOf 8 = .ok (.invokestatic 52, 3) := by decide +kernel
theorem dX8_guessOf_11 : decode cX8_guessOf 11 = .ok (.ifCond .ne 17, 3) := by decide +kernel
theorem dX8_guessOf_14 : decode cX8_guessOf 14 = .ok (.iload_n 2, 1) := by decide +kernel
theorem dX8_guessOf_15 : decode cX8_guessOf 15 = .ok (.bipush 10, 2) := by decide +kernel
theorem dX8_guessOf_17 : decode cX8_guessOf 17 = .ok (.bipush 21, 2) := by decide +kernel
theorem dX8_guessOf_19 : decode cX8_guessOf 19 = .ok (.invokestatic 52, 3) := by decide +kernel
theorem dX8_guessOf_22 : decode cX8_guessOf 22 = .ok (.ifCond .ne 6, 3) := by decide +kernel
theorem dX8_guessOf_25 : decode cX8_guessOf 25 = .ok (.ldc 79, 2) := by decide +kernel
theorem dX8_guessOf_27 : decode cX8_guessOf 27 = .ok (.ireturn, 1) := by decide +kernel
theorem dX8_guessOf_28 : decode cX8_guessOf 28 = .ok (.aload_n 0, 1) := by decide +kernel
theorem dX8_guessOf_29 : decode cX8_guessOf 29 = .ok (.invokevirtual 126, 3) := by decide +kernel
theorem dX8_guessOf_32 : decode cX8_guessOf 32 = .ok (.iload_n 1, 1) := by decide +kernel
theorem dX8_guessOf_33 : decode cX8_guessOf 33 = .ok (.aload_n 0, 1) := by decide +kernel
theorem dX8_guessOf_34 : decode cX8_guessOf 34 = .ok (.getfield 110, 3) := by decide +kernel
theorem dX8_guessOf_37 : decode cX8_guessOf 37 = .ok (.if_icmp .lt 6, 3) := by decide +kernel
theorem dX8_guessOf_40 : decode cX8_guessOf 40 = .ok (.ldc 71, 2) := by decide +kernel
theorem dX8_guessOf_42 : decode cX8_guessOf 42 = .ok (.ireturn, 1) := by decide +kernel
theorem dX8_guessOf_43 : decode cX8_guessOf 43 = .ok (.aload_n 0, 1) := by decide +kernel
theorem dX8_guessOf_44 : decode cX8_guessOf 44 = .ok (.getfield 46, 3) := by decide +kernel
theorem dX8_guessOf_47 : decode cX8_guessOf 47 = .ok (.iload_n 1, 1) := by decide +kernel
theorem dX8_guessOf_48 : decode cX8_guessOf 48 = .ok (.iaload, 1) := by decide +kernel
theorem dX8_guessOf_49 : decode cX8_guessOf 49 = .ok (.istore_n 3, 1) := by decide +kernel
theorem dX8_guessOf_50 : decode cX8_guessOf 50 = .ok (.iload_n 2, 1) := by decide +kernel
theorem dX8_guessOf_51 : decode cX8_guessOf 51 = .ok (.tableswitch 125 0 7 #[45, 55, 62, 84, 99, 105, 112, 119], 45) := by decide +kernel
theorem dX8_guessOf_96 : decode cX8_guessOf 96 = .ok (.aload_n 0, 1) := by decide +kernel
theorem dX8_guessOf_97 : decode cX8_guessOf 97 = .ok (.getfield 40, 3) := by decide +kernel
theorem dX8_guessOf_100 : decode cX8_guessOf 100 = .ok (.iload_n 3, 1) := by decide +kernel
theorem dX8_guessOf_101 : decode cX8_guessOf 101 = .ok (.iaload, 1) := by decide +kernel
theorem dX8_guessOf_102 : decode cX8_guessOf 102 = .ok (.bipush 100, 2) := by decide +kernel
theorem dX8_guessOf_104 : decode cX8_guessOf 104 = .ok (.iadd, 1) := by decide +kernel
theorem dX8_guessOf_105 : decode cX8_guessOf 105 = .ok (.ireturn, 1) := by decide +kernel
theorem dX8_guessOf_106 : decode cX8_guessOf 106 = .ok (.aload_n 0, 1) := by decide +kernel
theorem dX8_guessOf_107 : decode cX8_guessOf 107 = .ok (.getfield 31, 3) := by decide +kernel
theorem dX8_guessOf_110 : decode cX8_guessOf 110 = .ok (.iload_n 3, 1) := by decide +kernel
theorem dX8_guessOf_111 : decode cX8_guessOf 111 = .ok (.iaload, 1) := by decide +kernel
theorem dX8_guessOf_112 : decode cX8_guessOf 112 = .ok (.ireturn, 1) := by decide +kernel
theorem dX8_guessOf_113 : decode cX8_guessOf 113 = .ok (.aload_n 0, 1) := by decide +kernel
theorem dX8_guessOf_114 : decode cX8_guessOf 114 = .ok (.getfield 7, 3) := by decide +kernel
theorem dX8_guessOf_117 : decode cX8_guessOf 117 = .ok (.bipush 80, 2) := by decide +kernel
theorem dX8_guessOf_119 : decode cX8_guessOf 119 = .ok (.aload_n 0, 1) := by decide +kernel
theorem dX8_guessOf_120 : decode cX8_guessOf 120 = .ok (.getfield 28, 3) := by decide +kernel
theorem dX8_guessOf_123 : decode cX8_guessOf 123 = .ok (.iload_n 3, 1) := by decide +kernel
theorem dX8_guessOf_124 : decode cX8_guessOf 124 = .ok (.iaload, 1) := by decide +kernel
theorem dX8_guessOf_125 : decode cX8_guessOf 125 = .ok (.iadd, 1) := by decide +kernel
theorem dX8_guessOf_126 : decode cX8_guessOf 126 = .ok (.iaload, 1) := by decide +kernel
theorem dX8_guessOf_127 : decode cX8_guessOf 127 = .ok (.aload_n 0, 1) := by decide +kernel
theorem dX8_guessOf_128 : decode cX8_guessOf 128 = .ok (.getfield 31, 3) := by decide +kernel
theorem dX8_guessOf_131 : decode cX8_guessOf 131 = .ok (.iload_n 3, 1) := by decide +kernel
theorem dX8_guessOf_132 : decode cX8_guessOf 132 = .ok (.iaload, 1) := by decide +kernel
theorem dX8_guessOf_133 : decode cX8_guessOf 133 = .ok (.isub, 1) := by decide +kernel
theorem dX8_guessOf_134 : decode cX8_guessOf 134 = .ok (.ireturn, 1) := by decide +kernel
theorem dX8_guessOf_135 : decode cX8_guessOf 135 = .ok (.aload_n 0, 1) := by decide +kernel
theorem dX8_guessOf_136 : decode cX8_guessOf 136 = .ok (.getfield 7, 3) := by decide +kernel
theorem dX8_guessOf_139 : decode cX8_guessOf 139 = .ok (.bipush 40, 2) := by decide +kernel
theorem dX8_guessOf_141 : decode cX8_guessOf 141 = .ok (.aload_n 0, 1) := by decide +kernel
theorem dX8_guessOf_142 : decode cX8_guessOf 142 = .ok (.getfield 28, 3) := by decide +kernel
theorem dX8_guessOf_145 : decode cX8_guessOf 145 = .ok (.iload_n 3, 1) := by decide +kernel
theorem dX8_guessOf_146 : decode cX8_guessOf 146 = .ok (.iaload, 1) := by decide +kernel
theorem dX8_guessOf_147 : decode cX8_guessOf 147 = .ok (.iadd, 1) := by decide +kernel
theorem dX8_guessOf_148 : decode cX8_guessOf 148 = .ok (.iaload, 1) := by decide +kernel
theorem dX8_guessOf_149 : decode cX8_guessOf 149 = .ok (.ireturn, 1) := by decide +kernel
theorem dX8_guessOf_150 : decode cX8_guessOf 150 = .ok (.aload_n 0, 1) := by decide +kernel
theorem dX8_guessOf_151 : decode cX8_guessOf 151 = .ok (.iload_n 3, 1) := by decide +kernel
theorem dX8_guessOf_152 : decode cX8_guessOf 152 = .ok (.invokevirtual 129, 3) := by decide +kernel
theorem dX8_guessOf_155 : decode cX8_guessOf 155 = .ok (.ireturn, 1) := by decide +kernel
theorem dX8_guessOf_156 : decode cX8_guessOf 156 = .ok (.aload_n 0, 1) := by decide +kernel
theorem dX8_guessOf_157 : decode cX8_guessOf 157 = .ok (.getfield 34, 3) := by decide +kernel
theorem dX8_guessOf_160 : decode cX8_guessOf 160 = .ok (.iload_n 3, 1) := by decide +kernel
theorem dX8_guessOf_161 : decode cX8_guessOf 161 = .ok (.iaload, 1) := by decide +kernel
theorem dX8_guessOf_162 : decode cX8_guessOf 162 = .ok (.ireturn, 1) := by decide +kernel
theorem dX8_guessOf_163 : decode cX8_guessOf 163 = .ok (.aload_n 0, 1) := by decide +kernel
theorem dX8_guessOf_164 : decode cX8_guessOf 164 = .ok (.getfield 37, 3) := by decide +kernel
theorem dX8_guessOf_167 : decode cX8_guessOf 167 = .ok (.iload_n 3, 1) := by decide +kernel
theorem dX8_guessOf_168 : decode cX8_guessOf 168 = .ok (.iaload, 1) := by decide +kernel
theorem dX8_guessOf_169 : decode cX8_guessOf 169 = .ok (.ireturn, 1) := by decide +kernel
theorem dX8_guessOf_170 : decode cX8_guessOf 170 = .ok (.aload_n 0, 1) := by decide +kernel
theorem dX8_guessOf_171 : decode cX8_guessOf 171 = .ok (.iload_n 3, 1) := by decide +kernel
theorem dX8_guessOf_172 : decode cX8_guessOf 172 = .ok (.invokevirtual 132, 3) := by decide +kernel
theorem dX8_guessOf_175 : decode cX8_guessOf 175 = .ok (.ireturn, 1) := by decide +kernel
theorem dX8_guessOf_176 : decode cX8_guessOf 176 = .ok (.iload_n 2, 1) := by decide +kernel
theorem dX8_guessOf_177 : decode cX8_guessOf 177 = .ok (.bipush 10, 2) := by decide +kernel
theorem dX8_guessOf_179 : decode cX8_guessOf 179 = .ok (.isub, 1) := by decide +kernel
theorem dX8_guessOf_180 : decode cX8_guessOf 180 = .ok (.aload_n 0, 1) := by decide +kernel
theorem dX8_guessOf_181 : decode cX8_guessOf 181 = .ok (.getfield 31, 3) := by decide +kernel
theorem dX8_guessOf_184 : decode cX8_guessOf 184 = .ok (.iload_n 3, 1) := by decide +kernel
theorem dX8_guessOf_185 : decode cX8_guessOf 185 = .ok (.iaload, 1) := by decide +kernel
theorem dX8_guessOf_186 : decode cX8_guessOf 186 = .ok (.if_icmp .ge 20, 3) := by decide +kernel
theorem dX8_guessOf_189 : decode cX8_guessOf 189 = .ok (.aload_n 0, 1) := by decide +kernel
theorem dX8_guessOf_190 : decode cX8_guessOf 190 = .ok (.getfield 43, 3) := by decide +kernel
theorem dX8_guessOf_193 : decode cX8_guessOf 193 = .ok (.bipush 12, 2) := by decide +kernel
theorem dX8_guessOf_195 : decode cX8_guessOf 195 = .ok (.iload_n 3, 1) := by decide +kernel
theorem dX8_guessOf_196 : decode cX8_guessOf 196 = .ok (.imul, 1) := by decide +kernel
theorem dX8_guessOf_197 : decode cX8_guessOf 197 = .ok (.iload_n 2, 1) := by decide +kernel
theorem dX8_guessOf_198 : decode cX8_guessOf 198 = .ok (.iadd, 1) := by decide +kernel
theorem dX8_guessOf_199 : decode cX8_guessOf 199 = .ok (.bipush 10, 2) := by decide +kernel
theorem dX8_guessOf_201 : decode cX8_guessOf 201 = .ok (.isub, 1) := by decide +kernel
theorem dX8_guessOf_202 : decode cX8_guessOf 202 = .ok (.iaload, 1) := by decide +kernel
theorem dX8_guessOf_203 : decode cX8_guessOf 203 = .ok (.goto 5, 3) := by decide +kernel
theorem dX8_guessOf_206 : decode cX8_guessOf 206 = .ok (.ldc 71, 2) := by decide +kernel
theorem dX8_guessOf_208 : decode cX8_guessOf 208 = .ok (.ireturn, 1) := by decide +kernel
theorem dX8_claim_0 : decode cX8_claim 0 = .ok (.iload_n 1, 1) := by decide +kernel
theorem dX8_claim_1 : decode cX8_claim 1 = .ok (.ifCond .lt 15, 3) := by decide +kernel
theorem dX8_claim_4 : decode cX8_claim 4 = .ok (.iload_n 2, 1) := by decide +kernel
theorem dX8_claim_5 : decode cX8_claim 5 = .ok (.iconst (-1), 1) := by decide +kernel
theorem dX8_claim_6 : decode cX8_claim 6 = .ok (.if_icmp .eq 13, 3) := by decide +kernel
theorem dX8_claim_9 : decode cX8_claim 9 = .ok (.iload_n 2, 1) := by decide +kernel
theorem dX8_claim_10 : decode cX8_claim 10 = .ok (.invokestatic 76, 3) := by decide +kernel
theorem dX8_claim_13 : decode cX8_claim 13 = .ok (.ifCond .ne 6, 3) := by decide +kernel
theorem dX8_claim_16 : decode cX8_claim 16 = .ok (.ldc 79, 2) := by decide +kernel
theorem dX8_claim_18 : decode cX8_claim 18 = .ok (.ireturn, 1) := by decide +kernel
theorem dX8_claim_19 : decode cX8_claim 19 = .ok (.aload_n 0, 1) := by decide +kernel
theorem dX8_claim_20 : decode cX8_claim 20 = .ok (.invokevirtual 126, 3) := by decide +kernel
theorem dX8_claim_23 : decode cX8_claim 23 = .ok (.iload_n 1, 1) := by decide +kernel
theorem dX8_claim_24 : decode cX8_claim 24 = .ok (.aload_n 0, 1) := by decide +kernel
theorem dX8_claim_25 : decode cX8_claim 25 = .ok (.getfield 110, 3) := by decide +kernel
theorem dX8_claim_28 : decode cX8_claim 28 = .ok (.if_icmp .lt 6, 3) := by decide +kernel
theorem dX8_claim_31 : decode cX8_claim 31 = .ok (.ldc 80, 2) := by decide +kernel
theorem dX8_claim_33 : decode cX8_claim 33 = .ok (.ireturn, 1) := by decide +kernel
theorem dX8_claim_34 : decode cX8_claim 34 = .ok (.aload_n 0, 1) := by decide +kernel
theorem dX8_claim_35 : decode cX8_claim 35 = .ok (.getfield 46, 3) := by decide +kernel
theorem dX8_claim_38 : decode cX8_claim 38 = .ok (.iload_n 1, 1) := by decide +kernel
theorem dX8_claim_39 : decode cX8_claim 39 = .ok (.iaload, 1) := by decide +kernel
theorem dX8_claim_40 : decode cX8_claim 40 = .ok (.istore_n 3, 1) := by decide +kernel
theorem dX8_claim_41 : decode cX8_claim 41 = .ok (.iload_n 2, 1) := by decide +kernel
theorem dX8_claim_42 : decode cX8_claim 42 = .ok (.ifCond .ge 11, 3) := by decide +kernel
theorem dX8_claim_45 : decode cX8_claim 45 = .ok (.aload_n 0, 1) := by decide +kernel
theorem dX8_claim_46 : decode cX8_claim 46 = .ok (.iload_n 3, 1) := by decide +kernel
theorem dX8_claim_47 : decode cX8_claim 47 = .ok (.invokevirtual 129, 3) := by decide +kernel
theorem dX8_claim_50 : decode cX8_claim 50 = .ok (.goto 4, 3) := by decide +kernel
theorem dX8_claim_53 : decode cX8_claim 53 = .ok (.iload_n 2, 1) := by decide +kernel
theorem dX8_claim_54 : decode cX8_claim 54 = .ok (.istore 4, 2) := by decide +kernel
theorem dX8_claim_56 : decode cX8_claim 56 = .ok (.iload 4, 2) := by decide +kernel
theorem dX8_claim_58 : decode cX8_claim 58 = .ok (.ifCond .lt 17, 3) := by decide +kernel
theorem dX8_claim_61 : decode cX8_claim 61 = .ok (.aload_n 0, 1) := by decide +kernel
theorem dX8_claim_62 : decode cX8_claim 62 = .ok (.getfield 7, 3) := by decide +kernel
theorem dX8_claim_65 : decode cX8_claim 65 = .ok (.sipush 200, 3) := by decide +kernel
theorem dX8_claim_68 : decode cX8_claim 68 = .ok (.iload 4, 2) := by decide +kernel
theorem dX8_claim_70 : decode cX8_claim 70 = .ok (.iadd, 1) := by decide +kernel
theorem dX8_claim_71 : decode cX8_claim 71 = .ok (.iaload, 1) := by decide +kernel
theorem dX8_claim_72 : decode cX8_claim 72 = .ok (.ifCond .lt 6, 3) := by decide +kernel
theorem dX8_claim_75 : decode cX8_claim 75 = .ok (.ldc 80, 2) := by decide +kernel
theorem dX8_claim_77 : decode cX8_claim 77 = .ok (.ireturn, 1) := by decide +kernel
theorem dX8_claim_78 : decode cX8_claim 78 = .ok (.aload_n 0, 1) := by decide +kernel
theorem dX8_claim_79 : decode cX8_claim 79 = .ok (.invokevirtual 86, 3) := by decide +kernel
theorem dX8_claim_82 : decode cX8_claim 82 = .ok (.iconst 0, 1) := by decide +kernel
theorem dX8_claim_83 : decode cX8_claim 83 = .ok (.istore 5, 2) := by decide +kernel
theorem dX8_claim_85 : decode cX8_claim 85 = .ok (.iload 5, 2) := by decide +kernel
theorem dX8_claim_87 : decode cX8_claim 87 = .ok (.aload_n 0, 1) := by decide +kernel
theorem dX8_claim_88 : decode cX8_claim 88 = .ok (.getfield 31, 3) := by decide +kernel
theorem dX8_claim_91 : decode cX8_claim 91 = .ok (.iload_n 3, 1) := by decide +kernel
theorem dX8_claim_92 : decode cX8_claim 92 = .ok (.iaload, 1) := by decide +kernel
theorem dX8_claim_93 : decode cX8_claim 93 = .ok (.if_icmp .ge 28, 3) := by decide +kernel
theorem dX8_claim_96 : decode cX8_claim 96 = .ok (.aload_n 0, 1) := by decide +kernel
theorem dX8_claim_97 : decode cX8_claim 97 = .ok (.getfield 25, 3) := by decide +kernel
theorem dX8_claim_100 : decode cX8_claim 100 = .ok (.iload 5, 2) := by decide +kernel
theorem dX8_claim_102 : decode cX8_claim 102 = .ok (.aload_n 0, 1) := by decide +kernel
theorem dX8_claim_103 : decode cX8_claim 103 = .ok (.getfield 43, 3) := by decide +kernel
theorem dX8_claim_106 : decode cX8_claim 106 = .ok (.bipush 12, 2) := by decide +kernel
theorem dX8_claim_108 : decode cX8_claim 108 = .ok (.iload_n 3, 1) := by decide +kernel
theorem dX8_claim_109 : decode cX8_claim 109 = .ok (.imul, 1) := by decide +kernel
theorem dX8_claim_110 : decode cX8_claim 110 = .ok (.iload 5, 2) := by decide +kernel
theorem dX8_claim_112 : decode cX8_claim 112 = .ok (.iadd, 1) := by decide +kernel
theorem dX8_claim_113 : decode cX8_claim 113 = .ok (.iaload, 1) := by decide +kernel
theorem dX8_claim_114 : decode cX8_claim 114 = .ok (.iastore, 1) := by decide +kernel
theorem dX8_claim_115 : decode cX8_claim 115 = .ok (.iinc 5 1, 3) := by decide +kernel
theorem dX8_claim_118 : decode cX8_claim 118 = .ok (.goto (-33), 3) := by decide +kernel
theorem dX8_claim_121 : decode cX8_claim 121 = .ok (.aload_n 0, 1) := by decide +kernel
theorem dX8_claim_122 : decode cX8_claim 122 = .ok (.iload 4, 2) := by decide +kernel
theorem dX8_claim_124 : decode cX8_claim 124 = .ok (.aload_n 0, 1) := by decide +kernel
theorem dX8_claim_125 : decode cX8_claim 125 = .ok (.getfield 7, 3) := by decide +kernel
theorem dX8_claim_128 : decode cX8_claim 128 = .ok (.bipush 40, 2) := by decide +kernel
theorem dX8_claim_130 : decode cX8_claim 130 = .ok (.aload_n 0, 1) := by decide +kernel
theorem dX8_claim_131 : decode cX8_claim 131 = .ok (.getfield 28, 3) := by decide +kernel
theorem dX8_claim_134 : decode cX8_claim 134 = .ok (.iload_n 3, 1) := by decide +kernel
theorem dX8_claim_135 : decode cX8_claim 135 = .ok (.iaload, 1) := by decide +kernel
theorem dX8_claim_136 : decode cX8_claim 136 = .ok (.iadd, 1) := by decide +kernel
theorem dX8_claim_137 : decode cX8_claim 137 = .ok (.iaload, 1) := by decide +kernel
theorem dX8_claim_138 : decode cX8_claim 138 = .ok (.aload_n 0, 1) := by decide +kernel
theorem dX8_claim_139 : decode cX8_claim 139 = .ok (.getfield 31, 3) := by decide +kernel
theorem dX8_claim_142 : decode cX8_claim 142 = .ok (.iload_n 3, 1) := by decide +kernel
theorem dX8_claim_143 : decode cX8_claim 143 = .ok (.iaload, 1) := by decide +kernel
theorem dX8_claim_144 : decode cX8_claim 144 = .ok (.invokevirtual 89, 3) := by decide +kernel
theorem dX8_claim_147 : decode cX8_claim 147 = .ok (.aload_n 0, 1) := by decide +kernel
theorem dX8_claim_148 : decode cX8_claim 148 = .ok (.getfield 7, 3) := by decide +kernel
theorem dX8_claim_151 : decode cX8_claim 151 = .ok (.sipush 251, 3) := by decide +kernel
theorem dX8_claim_154 : decode cX8_claim 154 = .ok (.dup2, 1) := by decide +kernel
theorem dX8_claim_155 : decode cX8_claim 155 = .ok (.iaload, 1) := by decide +kernel
theorem dX8_claim_156 : decode cX8_claim 156 = .ok (.iconst 1, 1) := by decide +kernel
theorem dX8_claim_157 : decode cX8_claim 157 = .ok (.iadd, 1) := by decide +kernel
theorem dX8_claim_158 : decode cX8_claim 158 = .ok (.iastore, 1) := by decide +kernel
theorem dX8_claim_159 : decode cX8_claim 159 = .ok (.aload_n 0, 1) := by decide +kernel
theorem dX8_claim_160 : decode cX8_claim 160 = .ok (.getfield 31, 3) := by decide +kernel
theorem dX8_claim_163 : decode cX8_claim 163 = .ok (.iload_n 3, 1) := by decide +kernel
theorem dX8_claim_164 : decode cX8_claim 164 = .ok (.iaload, 1) := by decide +kernel
theorem dX8_claim_165 : decode cX8_claim 165 = .ok (.ireturn, 1) := by decide +kernel
theorem dX8_bestGuesses_0 : decode cX8_bestGuesses 0 = .ok (.iload_n 1, 1) := by decide +kernel
theorem dX8_bestGuesses_1 : decode cX8_bestGuesses 1 = .ok (.iconst 0, 1) := by decide +kernel
