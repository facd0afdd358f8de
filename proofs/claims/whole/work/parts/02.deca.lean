theorem dX0_init_0 : decode cX0_init 0 = .ok (.aload_n 0, 1) := by decide +kernel
theorem dX0_init_1 : decode cX0_init 1 = .ok (.invokespecial 3, 3) := by decide +kernel
theorem dX0_init_4 : decode cX0_init 4 = .ok (.aload_n 0, 1) := by decide +kernel
theorem dX0_init_5 : decode cX0_init 5 = .ok (.bipush 40, 2) := by decide +kernel
theorem dX0_init_7 : decode cX0_init 7 = .ok (.newarray .int, 2) := by decide +kernel
theorem dX0_init_9 : decode cX0_init 9 = .ok (.putfield 9, 3) := by decide +kernel
theorem dX0_init_12 : decode cX0_init 12 = .ok (.aload_n 0, 1) := by decide +kernel
theorem dX0_init_13 : decode cX0_init 13 = .ok (.bipush 40, 2) := by decide +kernel
theorem dX0_init_15 : decode cX0_init 15 = .ok (.newarray .int, 2) := by decide +kernel
theorem dX0_init_17 : decode cX0_init 17 = .ok (.putfield 15, 3) := by decide +kernel
theorem dX0_init_20 : decode cX0_init 20 = .ok (.aload_n 0, 1) := by decide +kernel
theorem dX0_init_21 : decode cX0_init 21 = .ok (.bipush 40, 2) := by decide +kernel
theorem dX0_init_23 : decode cX0_init 23 = .ok (.newarray .int, 2) := by decide +kernel
theorem dX0_init_25 : decode cX0_init 25 = .ok (.putfield 18, 3) := by decide +kernel
theorem dX0_init_28 : decode cX0_init 28 = .ok (.aload_n 0, 1) := by decide +kernel
theorem dX0_init_29 : decode cX0_init 29 = .ok (.bipush 40, 2) := by decide +kernel
theorem dX0_init_31 : decode cX0_init 31 = .ok (.newarray .int, 2) := by decide +kernel
theorem dX0_init_33 : decode cX0_init 33 = .ok (.putfield 21, 3) := by decide +kernel
theorem dX0_init_36 : decode cX0_init 36 = .ok (.aload_n 0, 1) := by decide +kernel
theorem dX0_init_37 : decode cX0_init 37 = .ok (.bipush 40, 2) := by decide +kernel
theorem dX0_init_39 : decode cX0_init 39 = .ok (.newarray .int, 2) := by decide +kernel
theorem dX0_init_41 : decode cX0_init 41 = .ok (.putfield 24, 3) := by decide +kernel
theorem dX0_init_44 : decode cX0_init 44 = .ok (.aload_n 0, 1) := by decide +kernel
theorem dX0_init_45 : decode cX0_init 45 = .ok (.bipush 30, 2) := by decide +kernel
theorem dX0_init_47 : decode cX0_init 47 = .ok (.newarray .int, 2) := by decide +kernel
theorem dX0_init_49 : decode cX0_init 49 = .ok (.putfield 27, 3) := by decide +kernel
theorem dX0_init_52 : decode cX0_init 52 = .ok (.aload_n 0, 1) := by decide +kernel
theorem dX0_init_53 : decode cX0_init 53 = .ok (.new 30, 3) := by decide +kernel
theorem dX0_init_56 : decode cX0_init 56 = .ok (.dup, 1) := by decide +kernel
theorem dX0_init_57 : decode cX0_init 57 = .ok (.invokespecial 32, 3) := by decide +kernel
theorem dX0_init_60 : decode cX0_init 60 = .ok (.putfield 33, 3) := by decide +kernel
theorem dX0_init_63 : decode cX0_init 63 = .ok (.iconst 0, 1) := by decide +kernel
theorem dX0_init_64 : decode cX0_init 64 = .ok (.istore_n 1, 1) := by decide +kernel
theorem dX0_init_65 : decode cX0_init 65 = .ok (.iload_n 1, 1) := by decide +kernel
theorem dX0_init_66 : decode cX0_init 66 = .ok (.bipush 40, 2) := by decide +kernel
theorem dX0_init_68 : decode cX0_init 68 = .ok (.if_icmp .ge 23, 3) := by decide +kernel
theorem dX0_init_71 : decode cX0_init 71 = .ok (.aload_n 0, 1) := by decide +kernel
theorem dX0_init_72 : decode cX0_init 72 = .ok (.getfield 21, 3) := by decide +kernel
theorem dX0_init_75 : decode cX0_init 75 = .ok (.iload_n 1, 1) := by decide +kernel
theorem dX0_init_76 : decode cX0_init 76 = .ok (.iconst (-1), 1) := by decide +kernel
theorem dX0_init_77 : decode cX0_init 77 = .ok (.iastore, 1) := by decide +kernel
theorem dX0_init_78 : decode cX0_init 78 = .ok (.aload_n 0, 1) := by decide +kernel
theorem dX0_init_79 : decode cX0_init 79 = .ok (.getfield 24, 3) := by decide +kernel
theorem dX0_init_82 : decode cX0_init 82 = .ok (.iload_n 1, 1) := by decide +kernel
theorem dX0_init_83 : decode cX0_init 83 = .ok (.iconst (-1), 1) := by decide +kernel
theorem dX0_init_84 : decode cX0_init 84 = .ok (.iastore, 1) := by decide +kernel
theorem dX0_init_85 : decode cX0_init 85 = .ok (.iinc 1 1, 3) := by decide +kernel
theorem dX0_init_88 : decode cX0_init 88 = .ok (.goto (-23), 3) := by decide +kernel
theorem dX0_init_91 : decode cX0_init 91 = .ok (.iconst 0, 1) := by decide +kernel
theorem dX0_init_92 : decode cX0_init 92 = .ok (.istore_n 1, 1) := by decide +kernel
theorem dX0_init_93 : decode cX0_init 93 = .ok (.iload_n 1, 1) := by decide +kernel
theorem dX0_init_94 : decode cX0_init 94 = .ok (.bipush 30, 2) := by decide +kernel
theorem dX0_init_96 : decode cX0_init 96 = .ok (.if_icmp .ge 16, 3) := by decide +kernel
theorem dX0_init_99 : decode cX0_init 99 = .ok (.aload_n 0, 1) := by decide +kernel
theorem dX0_init_100 : decode cX0_init 100 = .ok (.getfield 27, 3) := by decide +kernel
theorem dX0_init_103 : decode cX0_init 103 = .ok (.iload_n 1, 1) := by decide +kernel
theorem dX0_init_104 : decode cX0_init 104 = .ok (.iconst (-1), 1) := by decide +kernel
theorem dX0_init_105 : decode cX0_init 105 = .ok (.iastore, 1) := by decide +kernel
theorem dX0_init_106 : decode cX0_init 106 = .ok (.iinc 1 1, 3) := by decide +kernel
theorem dX0_init_109 : decode cX0_init 109 = .ok (.goto (-16), 3) := by decide +kernel
theorem dX0_init_112 : decode cX0_init 112 = .ok (.return_, 1) := by decide +kernel
theorem dX0_copyFrom_0 : decode cX0_copyFrom 0 = .ok (.aload_n 1, 1) := by decide +kernel
theorem dX0_copyFrom_1 : decode cX0_copyFrom 1 = .ok (.getfield 9, 3) := by decide +kernel
theorem dX0_copyFrom_4 : decode cX0_copyFrom 4 = .ok (.iconst 0, 1) := by decide +kernel
theorem dX0_copyFrom_5 : decode cX0_copyFrom 5 = .ok (.aload_n 0, 1) := by decide +kernel
theorem dX0_copyFrom_6 : decode cX0_copyFrom 6 = .ok (.getfield 9, 3) := by decide +kernel
theorem dX0_copyFrom_9 : decode cX0_copyFrom 9 = .ok (.iconst 0, 1) := by decide +kernel
theorem dX0_copyFrom_10 : decode cX0_copyFrom 10 = .ok (.bipush 40, 2) := by decide +kernel
theorem dX0_copyFrom_12 : decode cX0_copyFrom 12 = .ok (.invokestatic 37, 3) := by decide +kernel
theorem dX0_copyFrom_15 : decode cX0_copyFrom 15 = .ok (.aload_n 1, 1) := by decide +kernel
theorem dX0_copyFrom_16 : decode cX0_copyFrom 16 = .ok (.getfield 15, 3) := by decide +kernel
theorem dX0_copyFrom_19 : decode cX0_copyFrom 19 = .ok (.iconst 0, 1) := by decide +kernel
theorem dX0_copyFrom_20 : decode cX0_copyFrom 20 = .ok (.aload_n 0, 1) := by decide +kernel
theorem dX0_copyFrom_21 : decode cX0_copyFrom 21 = .ok (.getfield 15, 3) := by decide +kernel
theorem dX0_copyFrom_24 : decode cX0_copyFrom 24 = .ok (.iconst 0, 1) := by decide +kernel
theorem dX0_copyFrom_25 : decode cX0_copyFrom 25 = .ok (.bipush 40, 2) := by decide +kernel
theorem dX0_copyFrom_27 : decode cX0_copyFrom 27 = .ok (.invokestatic 37, 3) := by decide +kernel
theorem dX0_copyFrom_30 : decode cX0_copyFrom 30 = .ok (.aload_n 1, 1) := by decide +kernel
theorem dX0_copyFrom_31 : decode cX0_copyFrom 31 = .ok (.getfield 18, 3) := by decide +kernel
theorem dX0_copyFrom_34 : decode cX0_copyFrom 34 = .ok (.iconst 0, 1) := by decide +kernel
theorem dX0_copyFrom_35 : decode cX0_copyFrom 35 = .ok (.aload_n 0, 1) := by decide +kernel
theorem dX0_copyFrom_36 : decode cX0_copyFrom 36 = .ok (.getfield 18, 3) := by decide +kernel
theorem dX0_copyFrom_39 : decode cX0_copyFrom 39 = .ok (.iconst 0, 1) := by decide +kernel
theorem dX0_copyFrom_40 : decode cX0_copyFrom 40 = .ok (.bipush 40, 2) := by decide +kernel
theorem dX0_copyFrom_42 : decode cX0_copyFrom 42 = .ok (.invokestatic 37, 3) := by decide +kernel
theorem dX0_copyFrom_45 : decode cX0_copyFrom 45 = .ok (.aload_n 1, 1) := by decide +kernel
theorem dX0_copyFrom_46 : decode cX0_copyFrom 46 = .ok (.getfield 21, 3) := by decide +kernel
theorem dX0_copyFrom_49 : decode cX0_copyFrom 49 = .ok (.iconst 0, 1) := by decide +kernel
theorem dX0_copyFrom_50 : decode cX0_copyFrom 50 = .ok (.aload_n 0, 1) := by decide +kernel
theorem dX0_copyFrom_51 : decode cX0_copyFrom 51 = .ok (.getfield 21, 3) := by decide +kernel
theorem dX0_copyFrom_54 : decode cX0_copyFrom 54 = .ok (.iconst 0, 1) := by decide +kernel
theorem dX0_copyFrom_55 : decode cX0_copyFrom 55 = .ok (.bipush 40, 2) := by decide +kernel
theorem dX0_copyFrom_57 : decode cX0_copyFrom 57 = .ok (.invokestatic 37, 3) := by decide +kernel
theorem dX0_copyFrom_60 : decode cX0_copyFrom 60 = .ok (.aload_n 1, 1) := by decide +kernel
theorem dX0_copyFrom_61 : decode cX0_copyFrom 61 = .ok (.getfield 24, 3) := by decide +kernel
theorem dX0_copyFrom_64 : decode cX0_copyFrom 64 = .ok (.iconst 0, 1) := by decide +kernel
theorem dX0_copyFrom_65 : decode cX0_copyFrom 65 = .ok (.aload_n 0, 1) := by decide +kernel
theorem dX0_copyFrom_66 : decode cX0_copyFrom 66 = .ok (.getfield 24, 3) := by decide +kernel
theorem dX0_copyFrom_69 : decode cX0_copyFrom 69 = .ok (.iconst 0, 1) := by decide +kernel
theorem dX0_copyFrom_70 : decode cX0_copyFrom 70 = .ok (.bipush 40, 2) := by decide +kernel
theorem dX0_copyFrom_72 : decode cX0_copyFrom 72 = .ok (.invokestatic 37, 3) := by decide +kernel
theorem dX0_copyFrom_75 : decode cX0_copyFrom 75 = .ok (.aload_n 1, 1) := by decide +kernel
theorem dX0_copyFrom_76 : decode cX0_copyFrom 76 = .ok (.getfield 27, 3) := by decide +kernel
theorem dX0_copyFrom_79 : decode cX0_copyFrom 79 = .ok (.iconst 0, 1) := by decide +kernel
theorem dX0_copyFrom_80 : decode cX0_copyFrom 80 = .ok (.aload_n 0, 1) := by decide +kernel
theorem dX0_copyFrom_81 : decode cX0_copyFrom 81 = .ok (.getfield 27, 3) := by decide +kernel
theorem dX0_copyFrom_84 : decode cX0_copyFrom 84 = .ok (.iconst 0, 1) := by decide +kernel
theorem dX0_copyFrom_85 : decode cX0_copyFrom 85 = .ok (.bipush 30, 2) := by decide +kernel
theorem dX0_copyFrom_87 : decode cX0_copyFrom 87 = .ok (.invokestatic 37, 3) := by decide +kernel
theorem dX0_copyFrom_90 : decode cX0_copyFrom 90 = .ok (.aload_n 0, 1) := by decide +kernel
theorem dX0_copyFrom_91 : decode cX0_copyFrom 91 = .ok (.getfield 33, 3) := by decide +kernel
theorem dX0_copyFrom_94 : decode cX0_copyFrom 94 = .ok (.aload_n 1, 1) := by decide +kernel
theorem dX0_copyFrom_95 : decode cX0_copyFrom 95 = .ok (.getfield 33, 3) := by decide +kernel
theorem dX0_copyFrom_98 : decode cX0_copyFrom 98 = .ok (.invokevirtual 43, 3) := by decide +kernel
theorem dX0_copyFrom_101 : decode cX0_copyFrom 101 = .ok (.aload_n 0, 1) := by decide +kernel
theorem dX0_copyFrom_102 : decode cX0_copyFrom 102 = .ok (.aload_n 1, 1) := by decide +kernel
theorem dX0_copyFrom_103 : decode cX0_copyFrom 103 = .ok (.getfield 47, 3) := by decide +kernel
theorem dX0_copyFrom_106 : decode cX0_copyFrom 106 = .ok (.putfield 47, 3) := by decide +kernel
theorem dX0_copyFrom_109 : decode cX0_copyFrom 109 = .ok (.aload_n 0, 1) := by decide +kernel
theorem dX0_copyFrom_110 : decode cX0_copyFrom 110 = .ok (.aload_n 1, 1) := by decide +kernel
theorem dX0_copyFrom_111 : decode cX0_copyFrom 111 = .ok (.getfield 51, 3) := by decide +kernel
theorem dX0_copyFrom_114 : decode cX0_copyFrom 114 = .ok (.putfield 51, 3) := by decide +kernel
theorem dX0_copyFrom_117 : decode cX0_copyFrom 117 = .ok (.aload_n 0, 1) := by decide +kernel
theorem dX0_copyFrom_118 : decode cX0_copyFrom 118 = .ok (.aload_n 1, 1) := by decide +kernel
theorem dX0_copyFrom_119 : decode cX0_copyFrom 119 = .ok (.getfield 54, 3) := by decide +kernel
theorem dX0_copyFrom_122 : decode cX0_copyFrom 122 = .ok (.putfield 54, 3) := by decide +kernel
theorem dX0_copyFrom_125 : decode cX0_copyFrom 125 = .ok (.return_, 1) := by decide +kernel
theorem dX0_isFree_0 : decode cX0_isFree 0 = .ok (.iload_n 1, 1) := by decide +kernel
theorem dX0_isFree_1 : decode cX0_isFree 1 = .ok (.ifCond .lt 23, 3) := by decide +kernel
theorem dX0_isFree_4 : decode cX0_isFree 4 = .ok (.iload_n 1, 1) := by decide +kernel
theorem dX0_isFree_5 : decode cX0_isFree 5 = .ok (.bipush 40, 2) := by decide +kernel
theorem dX0_isFree_7 : decode cX0_isFree 7 = .ok (.if_icmp .ge 17, 3) := by decide +kernel
theorem dX0_isFree_10 : decode cX0_isFree 10 = .ok (.aload_n 0, 1) := by decide +kernel
theorem dX0_isFree_11 : decode cX0_isFree 11 = .ok (.getfield 24, 3) := by decide +kernel
theorem dX0_isFree_14 : decode cX0_isFree 14 = .ok (.iload_n 1, 1) := by decide +kernel
theorem dX0_isFree_15 : decode cX0_isFree 15 = .ok (.iaload, 1) := by decide +kernel
theorem dX0_isFree_16 : decode cX0_isFree 16 = .ok (.iconst (-1), 1) := by decide +kernel
theorem dX0_isFree_17 : decode cX0_isFree 17 = .ok (.if_icmp .ne 7, 3) := by decide +kernel
theorem dX0_isFree_20 : decode cX0_isFree 20 = .ok (.iconst 1, 1) := by decide +kernel
theorem dX0_isFree_21 : decode cX0_isFree 21 = .ok (.goto 4, 3) := by decide +kernel
theorem dX0_isFree_24 : decode cX0_isFree 24 = .ok (.iconst 0, 1) := by decide +kernel
theorem dX0_isFree_25 : decode cX0_isFree 25 = .ok (.ireturn, 1) := by decide +kernel
theorem dX0_markOn_0 : decode cX0_markOn 0 = .ok (.iload_n 1, 1) := by decide +kernel
theorem dX0_markOn_1 : decode cX0_markOn 1 = .ok (.ifCond .lt 18, 3) := by decide +kernel
theorem dX0_markOn_4 : decode cX0_markOn 4 = .ok (.iload_n 1, 1) := by decide +kernel
theorem dX0_markOn_5 : decode cX0_markOn 5 = .ok (.bipush 40, 2) := by decide +kernel
theorem dX0_markOn_7 : decode cX0_markOn 7 = .ok (.if_icmp .ge 12, 3) := by decide +kernel
theorem dX0_markOn_10 : decode cX0_markOn 10 = .ok (.aload_n 0, 1) := by decide +kernel
theorem dX0_markOn_11 : decode cX0_markOn 11 = .ok (.getfield 9, 3) := by decide +kernel
theorem dX0_markOn_14 : decode cX0_markOn 14 = .ok (.iload_n 1, 1) := by decide +kernel
theorem dX0_markOn_15 : decode cX0_markOn 15 = .ok (.iaload, 1) := by decide +kernel
theorem dX0_markOn_16 : decode cX0_markOn 16 = .ok (.goto 4, 3) := by decide +kernel
theorem dX0_markOn_19 : decode cX0_markOn 19 = .ok (.iconst 0, 1) := by decide +kernel
theorem dX0_markOn_20 : decode cX0_markOn 20 = .ok (.ireturn, 1) := by decide +kernel
theorem dX0_styleOn_0 : decode cX0_styleOn 0 = .ok (.iload_n 1, 1) := by decide +kernel
theorem dX0_styleOn_1 : decode cX0_styleOn 1 = .ok (.ifCond .lt 27, 3) := by decide +kernel
theorem dX0_styleOn_4 : decode cX0_styleOn 4 = .ok (.iload_n 1, 1) := by decide +kernel
theorem dX0_styleOn_5 : decode cX0_styleOn 5 = .ok (.bipush 40, 2) := by decide +kernel
theorem dX0_styleOn_7 : decode cX0_styleOn 7 = .ok (.if_icmp .ge 21, 3) := by decide +kernel
theorem dX0_styleOn_10 : decode cX0_styleOn 10 = .ok (.aload_n 0, 1) := by decide +kernel
theorem dX0_styleOn_11 : decode cX0_styleOn 11 = .ok (.getfield 9, 3) := by decide +kernel
theorem dX0_styleOn_14 : decode cX0_styleOn 14 = .ok (.iload_n 1, 1) := by decide +kernel
theorem dX0_styleOn_15 : decode cX0_styleOn 15 = .ok (.iaload, 1) := by decide +kernel
theorem dX0_styleOn_16 : decode cX0_styleOn 16 = .ok (.ifCond .eq 12, 3) := by decide +kernel
theorem dX0_styleOn_19 : decode cX0_styleOn 19 = .ok (.aload_n 0, 1) := by decide +kernel
theorem dX0_styleOn_20 : decode cX0_styleOn 20 = .ok (.getfield 15, 3) := by decide +kernel
theorem dX0_styleOn_23 : decode cX0_styleOn 23 = .ok (.iload_n 1, 1) := by decide +kernel
theorem dX0_styleOn_24 : decode cX0_styleOn 24 = .ok (.iaload, 1) := by decide +kernel
theorem dX0_styleOn_25 : decode cX0_styleOn 25 = .ok (.goto 4, 3) := by decide +kernel
theorem dX0_styleOn_28 : decode cX0_styleOn 28 = .ok (.iconst (-1), 1) := by decide +kernel
theorem dX0_styleOn_29 : decode cX0_styleOn 29 = .ok (.ireturn, 1) := by decide +kernel
theorem dX0_lengthOn_0 : decode cX0_lengthOn 0 = .ok (.iload_n 1, 1) := by decide +kernel
theorem dX0_lengthOn_1 : decode cX0_lengthOn 1 = .ok (.ifCond .lt 28, 3) := by decide +kernel
theorem dX0_lengthOn_4 : decode cX0_lengthOn 4 = .ok (.iload_n 1, 1) := by decide +kernel
theorem dX0_lengthOn_5 : decode cX0_lengthOn 5 = .ok (.bipush 40, 2) := by decide +kernel
theorem dX0_lengthOn_7 : decode cX0_lengthOn 7 = .ok (.if_icmp .ge 22, 3) := by decide +kernel
theorem dX0_lengthOn_10 : decode cX0_lengthOn 10 = .ok (.aload_n 0, 1) := by decide +kernel
theorem dX0_lengthOn_11 : decode cX0_lengthOn 11 = .ok (.getfield 9, 3) := by decide +kernel
theorem dX0_lengthOn_14 : decode cX0_lengthOn 14 = .ok (.iload_n 1, 1) := by decide +kernel
theorem dX0_lengthOn_15 : decode cX0_lengthOn 15 = .ok (.iaload, 1) := by decide +kernel
theorem dX0_lengthOn_16 : decode cX0_lengthOn 16 = .ok (.iconst 1, 1) := by decide +kernel
theorem dX0_lengthOn_17 : decode cX0_lengthOn 17 = .ok (.if_icmp .ne 12, 3) := by decide +kernel
theorem dX0_lengthOn_20 : decode cX0_lengthOn 20 = .ok (.aload_n 0, 1) := by decide +kernel
theorem dX0_lengthOn_21 : decode cX0_lengthOn 21 = .ok (.getfield 18, 3) := by decide +kernel
theorem dX0_lengthOn_24 : decode cX0_lengthOn 24 = .ok (.iload_n 1, 1) := by decide +kernel
theorem dX0_lengthOn_25 : decode cX0_lengthOn 25 = .ok (.iaload, 1) := by decide +kernel
theorem dX0_lengthOn_26 : decode cX0_lengthOn 26 = .ok (.goto 4, 3) := by decide +kernel
theorem dX0_lengthOn_29 : decode cX0_lengthOn 29 = .ok (.iconst (-1), 1) := by decide +kernel
theorem dX0_lengthOn_30 : decode cX0_lengthOn 30 = .ok (.ireturn, 1) := by decide +kernel
theorem dX0_nextOn_0 : decode cX0_nextOn 0 = .ok (.iload_n 1, 1) := by decide +kernel
theorem dX0_nextOn_1 : decode cX0_nextOn 1 = .ok (.ifCond .lt 18, 3) := by decide +kernel
theorem dX0_nextOn_4 : decode cX0_nextOn 4 = .ok (.iload_n 1, 1) := by decide +kernel
theorem dX0_nextOn_5 : decode cX0_nextOn 5 = .ok (.bipush 40, 2) := by decide +kernel
theorem dX0_nextOn_7 : decode cX0_nextOn 7 = .ok (.if_icmp .ge 12, 3) := by decide +kernel
theorem dX0_nextOn_10 : decode cX0_nextOn 10 = .ok (.aload_n 0, 1) := by decide +kernel
theorem dX0_nextOn_11 : decode cX0_nextOn 11 = .ok (.getfield 21, 3) := by decide +kernel
theorem dX0_nextOn_14 : decode cX0_nextOn 14 = .ok (.iload_n 1, 1) := by decide +kernel
theorem dX0_nextOn_15 : decode cX0_nextOn 15 = .ok (.iaload, 1) := by decide +kernel
theorem dX0_nextOn_16 : decode cX0_nextOn 16 = .ok (.goto 4, 3) := by decide +kernel
theorem dX0_nextOn_19 : decode cX0_nextOn 19 = .ok (.iconst (-1), 1) := by decide +kernel
theorem dX0_nextOn_20 : decode cX0_nextOn 20 = .ok (.ireturn, 1) := by decide +kernel
theorem dX0_ownerOf_0 : decode cX0_ownerOf 0 = .ok (.iload_n 1, 1) := by decide +kernel
theorem dX0_ownerOf_1 : decode cX0_ownerOf 1 = .ok (.ifCond .lt 18, 3) := by decide +kernel
theorem dX0_ownerOf_4 : decode cX0_ownerOf 4 = .ok (.iload_n 1, 1) := by decide +kernel
theorem dX0_ownerOf_5 : decode cX0_ownerOf 5 = .ok (.bipush 40, 2) := by decide +kernel
theorem dX0_ownerOf_7 : decode cX0_ownerOf 7 = .ok (.if_icmp .ge 12, 3) := by decide +kernel
theorem dX0_ownerOf_10 : decode cX0_ownerOf 10 = .ok (.aload_n 0, 1) := by decide +kernel
theorem dX0_ownerOf_11 : decode cX0_ownerOf 11 = .ok (.getfield 24, 3) := by decide +kernel
theorem dX0_ownerOf_14 : decode cX0_ownerOf 14 = .ok (.iload_n 1, 1) := by decide +kernel
theorem dX0_ownerOf_15 : decode cX0_ownerOf 15 = .ok (.iaload, 1) := by decide +kernel
theorem dX0_ownerOf_16 : decode cX0_ownerOf 16 = .ok (.goto 4, 3) := by decide +kernel
theorem dX0_ownerOf_19 : decode cX0_ownerOf 19 = .ok (.iconst (-1), 1) := by decide +kernel
theorem dX0_ownerOf_20 : decode cX0_ownerOf 20 = .ok (.ireturn, 1) := by decide +kernel
theorem dX0_hasFile_0 : decode cX0_hasFile 0 = .ok (.iload_n 1, 1) := by decide +kernel
theorem dX0_hasFile_1 : decode cX0_hasFile 1 = .ok (.ifCond .lt 23, 3) := by decide +kernel
theorem dX0_hasFile_4 : decode cX0_hasFile 4 = .ok (.iload_n 1, 1) := by decide +kernel
theorem dX0_hasFile_5 : decode cX0_hasFile 5 = .ok (.bipush 30, 2) := by decide +kernel
theorem dX0_hasFile_7 : decode cX0_hasFile 7 = .ok (.if_icmp .ge 17, 3) := by decide +kernel
theorem dX0_hasFile_10 : decode cX0_hasFile 10 = .ok (.aload_n 0, 1) := by decide +kernel
theorem dX0_hasFile_11 : decode cX0_hasFile 11 = .ok (.getfield 27, 3) := by decide +kernel
theorem dX0_hasFile_14 : decode cX0_hasFile 14 = .ok (.iload_n 1, 1) := by decide +kernel
theorem dX0_hasFile_15 : decode cX0_hasFile 15 = .ok (.iaload, 1) := by decide +kernel
theorem dX0_hasFile_16 : decode cX0_hasFile 16 = .ok (.iconst (-1), 1) := by decide +kernel
theorem dX0_hasFile_17 : decode cX0_hasFile 17 = .ok (.if_icmp .eq 7, 3) := by decide +kernel
theorem dX0_hasFile_20 : decode cX0_hasFile 20 = .ok (.iconst 1, 1) := by decide +kernel
theorem dX0_hasFile_21 : decode cX0_hasFile 21 = .ok (.goto 4, 3) := by decide +kernel
theorem dX0_hasFile_24 : decode cX0_hasFile 24 = .ok (.iconst 0, 1) := by decide +kernel
theorem dX0_hasFile_25 : decode cX0_hasFile 25 = .ok (.ireturn, 1) := by decide +kernel
theorem dX0_files_0 : decode cX0_files 0 = .ok (.iconst 0, 1) := by decide +kernel
theorem dX0_files_1 : decode cX0_files 1 = .ok (.istore_n 1, 1) := by decide +kernel
theorem dX0_files_2 : decode cX0_files 2 = .ok (.iconst 0, 1) := by decide +kernel
theorem dX0_files_3 : decode cX0_files 3 = .ok (.istore_n 2, 1) := by decide +kernel
theorem dX0_files_4 : decode cX0_files 4 = .ok (.iload_n 2, 1) := by decide +kernel
theorem dX0_files_5 : decode cX0_files 5 = .ok (.bipush 30, 2) := by decide +kernel
theorem dX0_files_7 : decode cX0_files 7 = .ok (.if_icmp .ge 22, 3) := by decide +kernel
theorem dX0_files_10 : decode cX0_files 10 = .ok (.aload_n 0, 1) := by decide +kernel
theorem dX0_files_11 : decode cX0_files 11 = .ok (.getfield 27, 3) := by decide +kernel
theorem dX0_files_14 : decode cX0_files 14 = .ok (.iload_n 2, 1) := by decide +kernel
theorem dX0_files_15 : decode cX0_files 15 = .ok (.iaload, 1) := by decide +kernel
theorem dX0_files_16 : decode cX0_files 16 = .ok (.iconst (-1), 1) := by decide +kernel
theorem dX0_files_17 : decode cX0_files 17 = .ok (.if_icmp .eq 6, 3) := by decide +kernel
theorem dX0_files_20 : decode cX0_files 20 = .ok (.iinc 1 1, 3) := by decide +kernel
theorem dX0_files_23 : decode cX0_files 23 = .ok (.iinc 2 1, 3) := by decide +kernel
theorem dX0_files_26 : decode cX0_files 26 = .ok (.goto (-22), 3) := by decide +kernel
theorem dX0_files_29 : decode cX0_files 29 = .ok (.iload_n 1, 1) := by decide +kernel
theorem dX0_files_30 : decode cX0_files 30 = .ok (.ireturn, 1) := by decide +kernel
theorem dX0_filePage_0 : decode cX0_filePage 0 = .ok (.aload_n 0, 1) := by decide +kernel
theorem dX0_filePage_1 : decode cX0_filePage 1 = .ok (.iload_n 1, 1) := by decide +kernel
theorem dX0_filePage_2 : decode cX0_filePage 2 = .ok (.invokevirtual 57, 3) := by decide +kernel
theorem dX0_filePage_5 : decode cX0_filePage 5 = .ok (.ifCond .eq 12, 3) := by decide +kernel
theorem dX0_filePage_8 : decode cX0_filePage 8 = .ok (.aload_n 0, 1) := by decide +kernel
theorem dX0_filePage_9 : decode cX0_filePage 9 = .ok (.getfield 27, 3) := by decide +kernel
theorem dX0_filePage_12 : decode cX0_filePage 12 = .ok (.iload_n 1, 1) := by decide +kernel
theorem dX0_filePage_13 : decode cX0_filePage 13 = .ok (.iaload, 1) := by decide +kernel
theorem dX0_filePage_14 : decode cX0_filePage 14 = .ok (.goto 4, 3) := by decide +kernel
theorem dX0_filePage_17 : decode cX0_filePage 17 = .ok (.iconst (-1), 1) := by decide +kernel
theorem dX0_filePage_18 : decode cX0_filePage 18 = .ok (.istore_n 3, 1) := by decide +kernel
theorem dX0_filePage_19 : decode cX0_filePage 19 = .ok (.iconst 0, 1) := by decide +kernel
theorem dX0_filePage_20 : decode cX0_filePage 20 = .ok (.istore 4, 2) := by decide +kernel
theorem dX0_filePage_22 : decode cX0_filePage 22 = .ok (.iload 4, 2) := by decide +kernel
theorem dX0_filePage_24 : decode cX0_filePage 24 = .ok (.iload_n 2, 1) := by decide +kernel
theorem dX0_filePage_25 : decode cX0_filePage 25 = .ok (.if_icmp .ge 20, 3) := by decide +kernel
theorem dX0_filePage_28 : decode cX0_filePage 28 = .ok (.iload_n 3, 1) := by decide +kernel
theorem dX0_filePage_29 : decode cX0_filePage 29 = .ok (.iconst (-1), 1) := by decide +kernel
theorem dX0_filePage_30 : decode cX0_filePage 30 = .ok (.if_icmp .eq 15, 3) := by decide +kernel
theorem dX0_filePage_33 : decode cX0_filePage 33 = .ok (.aload_n 0, 1) := by decide +kernel
theorem dX0_filePage_34 : decode cX0_filePage 34 = .ok (.iload_n 3, 1) := by decide +kernel
theorem dX0_filePage_35 : decode cX0_filePage 35 = .ok (.invokevirtual 61, 3) := by decide +kernel
theorem dX0_filePage_38 : decode cX0_filePage 38 = .ok (.istore_n 3, 1) := by decide +kernel
theorem dX0_filePage_39 : decode cX0_filePage 39 = .ok (.iinc 4 1, 3) := by decide +kernel
theorem dX0_filePage_42 : decode cX0_filePage 42 = .ok (.goto (-20), 3) := by decide +kernel
theorem dX0_filePage_45 : decode cX0_filePage 45 = .ok (.iload_n 3, 1) := by decide +kernel
theorem dX0_filePage_46 : decode cX0_filePage 46 = .ok (.ireturn, 1) := by decide +kernel
theorem dX0_isStraight_0 : decode cX0_isStraight 0 = .ok (.iload_n 1, 1) := by decide +kernel
theorem dX0_isStraight_1 : decode cX0_isStraight 1 = .ok (.istore_n 2, 1) := by decide +kernel
theorem dX0_isStraight_2 : decode cX0_isStraight 2 = .ok (.iconst 1, 1) := by decide +kernel
theorem dX0_isStraight_3 : decode cX0_isStraight 3 = .ok (.istore_n 3, 1) := by decide +kernel
theorem dX0_isStraight_4 : decode cX0_isStraight 4 = .ok (.iload_n 3, 1) := by decide +kernel
theorem dX0_isStraight_5 : decode cX0_isStraight 5 = .ok (.bipush 12, 2) := by decide +kernel
theorem dX0_isStraight_7 : decode cX0_isStraight 7 = .ok (.if_icmp .ge 34, 3) := by decide +kernel
theorem dX0_isStraight_10 : decode cX0_isStraight 10 = .ok (.aload_n 0, 1) := by decide +kernel
theorem dX0_isStraight_11 : decode cX0_isStraight 11 = .ok (.iload_n 2, 1) := by decide +kernel
theorem dX0_isStraight_12 : decode cX0_isStraight 12 = .ok (.invokevirtual 61, 3) := by decide +kernel
theorem dX0_isStraight_15 : decode cX0_isStraight 15 = .ok (.iconst (-1), 1) := by decide +kernel
theorem dX0_isStraight_16 : decode cX0_isStraight 16 = .ok (.if_icmp .eq 25, 3) := by decide +kernel
theorem dX0_isStraight_19 : decode cX0_isStraight 19 = .ok (.aload_n 0, 1) := by decide +kernel
theorem dX0_isStraight_20 : decode cX0_isStraight 20 = .ok (.iload_n 2, 1) := by decide +kernel
theorem dX0_isStraight_21 : decode cX0_isStraight 21 = .ok (.invokevirtual 61, 3) := by decide +kernel
theorem dX0_isStraight_24 : decode cX0_isStraight 24 = .ok (.iload_n 2, 1) := by decide +kernel
theorem dX0_isStraight_25 : decode cX0_isStraight 25 = .ok (.iconst 1, 1) := by decide +kernel
theorem dX0_isStraight_26 : decode cX0_isStraight 26 = .ok (.iadd, 1) := by decide +kernel
theorem dX0_isStraight_27 : decode cX0_isStraight 27 = .ok (.if_icmp .eq 5, 3) := by decide +kernel
theorem dX0_isStraight_30 : decode cX0_isStraight 30 = .ok (.iconst 0, 1) := by decide +kernel
theorem dX0_isStraight_31 : decode cX0_isStraight 31 = .ok (.ireturn, 1) := by decide +kernel
theorem dX0_isStraight_32 : decode cX0_isStraight 32 = .ok (.iinc 2 1, 3) := by decide +kernel
theorem dX0_isStraight_35 : decode cX0_isStraight 35 = .ok (.iinc 3 1, 3) := by decide +kernel
theorem dX0_isStraight_38 : decode cX0_isStraight 38 = .ok (.goto (-34), 3) := by decide +kernel
theorem dX0_isStraight_41 : decode cX0_isStraight 41 = .ok (.iconst 1, 1) := by decide +kernel
theorem dX0_isStraight_42 : decode cX0_isStraight 42 = .ok (.ireturn, 1) := by decide +kernel
theorem dX0_freeSet_0 : decode cX0_freeSet 0 = .ok (.lconst 0, 1) := by decide +kernel
theorem dX0_freeSet_1 : decode cX0_freeSet 1 = .ok (.lstore_n 1, 1) := by decide +kernel
theorem dX0_freeSet_2 : decode cX0_freeSet 2 = .ok (.iconst 0, 1) := by decide +kernel
theorem dX0_freeSet_3 : decode cX0_freeSet 3 = .ok (.istore_n 3, 1) := by decide +kernel
theorem dX0_freeSet_4 : decode cX0_freeSet 4 = .ok (.iload_n 3, 1) := by decide +kernel
theorem dX0_freeSet_5 : decode cX0_freeSet 5 = .ok (.bipush 40, 2) := by decide +kernel
theorem dX0_freeSet_7 : decode cX0_freeSet 7 = .ok (.if_icmp .ge 25, 3) := by decide +kernel
theorem dX0_freeSet_10 : decode cX0_freeSet 10 = .ok (.aload_n 0, 1) := by decide +kernel
theorem dX0_freeSet_11 : decode cX0_freeSet 11 = .ok (.getfield 24, 3) := by decide +kernel
theorem dX0_freeSet_14 : decode cX0_freeSet 14 = .ok (.iload_n 3, 1) := by decide +kernel
theorem dX0_freeSet_15 : decode cX0_freeSet 15 = .ok (.iaload, 1) := by decide +kernel
theorem dX0_freeSet_16 : decode cX0_freeSet 16 = .ok (.iconst (-1), 1) := by decide +kernel
theorem dX0_freeSet_17 : decode cX0_freeSet 17 = .ok (.if_icmp .ne 9, 3) := by decide +kernel
theorem dX0_freeSet_20 : decode cX0_freeSet 20 = .ok (.lload_n 1, 1) := by decide +kernel
theorem dX0_freeSet_21 : decode cX0_freeSet 21 = .ok (.lconst 1, 1) := by decide +kernel
theorem dX0_freeSet_22 : decode cX0_freeSet 22 = .ok (.iload_n 3, 1) := by decide +kernel
theorem dX0_freeSet_23 : decode cX0_freeSet 23 = .ok (.lshl, 1) := by decide +kernel
theorem dX0_freeSet_24 : decode cX0_freeSet 24 = .ok (.lor, 1) := by decide +kernel
theorem dX0_freeSet_25 : decode cX0_freeSet 25 = .ok (.lstore_n 1, 1) := by decide +kernel
theorem dX0_freeSet_26 : decode cX0_freeSet 26 = .ok (.iinc 3 1, 3) := by decide +kernel
theorem dX0_freeSet_29 : decode cX0_freeSet 29 = .ok (.goto (-25), 3) := by decide +kernel
theorem dX0_freeSet_32 : decode cX0_freeSet 32 = .ok (.lload_n 1, 1) := by decide +kernel
theorem dX0_freeSet_33 : decode cX0_freeSet 33 = .ok (.lreturn, 1) := by decide +kernel
theorem dX0_freePages_0 : decode cX0_freePages 0 = .ok (.aload_n 0, 1) := by decide +kernel
theorem dX0_freePages_1 : decode cX0_freePages 1 = .ok (.invokevirtual 65, 3) := by decide +kernel
theorem dX0_freePages_4 : decode cX0_freePages 4 = .ok (.invokestatic 69, 3) := by decide +kernel
theorem dX0_freePages_7 : decode cX0_freePages 7 = .ok (.ireturn, 1) := by decide +kernel
theorem dX0_markedPages_0 : decode cX0_markedPages 0 = .ok (.iconst 0, 1) := by decide +kernel
theorem dX0_markedPages_1 : decode cX0_markedPages 1 = .ok (.istore_n 3, 1) := by decide +kernel
theorem dX0_markedPages_2 : decode cX0_markedPages 2 = .ok (.iconst 0, 1) := by decide +kernel
theorem dX0_markedPages_3 : decode cX0_markedPages 3 = .ok (.istore 4, 2) := by decide +kernel
theorem dX0_markedPages_5 : decode cX0_markedPages 5 = .ok (.iload 4, 2) := by decide +kernel
theorem dX0_markedPages_7 : decode cX0_markedPages 7 = .ok (.bipush 40, 2) := by decide +kernel
theorem dX0_markedPages_9 : decode cX0_markedPages 9 = .ok (.if_icmp .ge 33, 3) := by decide +kernel
theorem dX0_markedPages_12 : decode cX0_markedPages 12 = .ok (.lload_n 1, 1) := by decide +kernel
theorem dX0_markedPages_13 : decode cX0_markedPages 13 = .ok (.iload 4, 2) := by decide +kernel
theorem dX0_markedPages_15 : decode cX0_markedPages 15 = .ok (.lshr, 1) := by decide +kernel
theorem dX0_markedPages_16 : decode cX0_markedPages 16 = .ok (.lconst 1, 1) := by decide +kernel
theorem dX0_markedPages_17 : decode cX0_markedPages 17 = .ok (.land, 1) := by decide +kernel
theorem dX0_markedPages_18 : decode cX0_markedPages 18 = .ok (.lconst 0, 1) := by decide +kernel
theorem dX0_markedPages_19 : decode cX0_markedPages 19 = .ok (.lcmp, 1) := by decide +kernel
theorem dX0_markedPages_20 : decode cX0_markedPages 20 = .ok (.ifCond .eq 16, 3) := by decide +kernel
theorem dX0_markedPages_23 : decode cX0_markedPages 23 = .ok (.aload_n 0, 1) := by decide +kernel
theorem dX0_markedPages_24 : decode cX0_markedPages 24 = .ok (.getfield 9, 3) := by decide +kernel
theorem dX0_markedPages_27 : decode cX0_markedPages 27 = .ok (.iload 4, 2) := by decide +kernel
theorem dX0_markedPages_29 : decode cX0_markedPages 29 = .ok (.iaload, 1) := by decide +kernel
theorem dX0_markedPages_30 : decode cX0_markedPages 30 = .ok (.ifCond .eq 6, 3) := by decide +kernel
theorem dX0_markedPages_33 : decode cX0_markedPages 33 = .ok (.iinc 3 1, 3) := by decide +kernel
theorem dX0_markedPages_36 : decode cX0_markedPages 36 = .ok (.iinc 4 1, 3) := by decide +kernel
theorem dX0_markedPages_39 : decode cX0_markedPages 39 = .ok (.goto (-34), 3) := by decide +kernel
theorem dX0_markedPages_42 : decode cX0_markedPages 42 = .ok (.iload_n 3, 1) := by decide +kernel
theorem dX0_markedPages_43 : decode cX0_markedPages 43 = .ok (.ireturn, 1) := by decide +kernel
theorem dX0_freeRuns_0 : decode cX0_freeRuns 0 = .ok (.iconst 0, 1) := by decide +kernel
theorem dX0_freeRuns_1 : decode cX0_freeRuns 1 = .ok (.istore_n 1, 1) := by decide +kernel
theorem dX0_freeRuns_2 : decode cX0_freeRuns 2 = .ok (.iconst 0, 1) := by decide +kernel
theorem dX0_freeRuns_3 : decode cX0_freeRuns 3 = .ok (.istore_n 2, 1) := by decide +kernel
theorem dX0_freeRuns_4 : decode cX0_freeRuns 4 = .ok (.iload_n 2, 1) := by decide +kernel
theorem dX0_freeRuns_5 : decode cX0_freeRuns 5 = .ok (.bipush 40, 2) := by decide +kernel
theorem dX0_freeRuns_7 : decode cX0_freeRuns 7 = .ok (.if_icmp .ge 30, 3) := by decide +kernel
theorem dX0_freeRuns_10 : decode cX0_freeRuns 10 = .ok (.aload_n 0, 1) := by decide +kernel
theorem dX0_freeRuns_11 : decode cX0_freeRuns 11 = .ok (.iload_n 2, 1) := by decide +kernel
theorem dX0_freeRuns_12 : decode cX0_freeRuns 12 = .ok (.invokevirtual 75, 3) := by decide +kernel
theorem dX0_freeRuns_15 : decode cX0_freeRuns 15 = .ok (.ifCond .eq 16, 3) := by decide +kernel
theorem dX0_freeRuns_18 : decode cX0_freeRuns 18 = .ok (.aload_n 0, 1) := by decide +kernel
theorem dX0_freeRuns_19 : decode cX0_freeRuns 19 = .ok (.iload_n 2, 1) := by decide +kernel
theorem dX0_freeRuns_20 : decode cX0_freeRuns 20 = .ok (.iconst 1, 1) := by decide +kernel
theorem dX0_freeRuns_21 : decode cX0_freeRuns 21 = .ok (.isub, 1) := by decide +kernel
theorem dX0_freeRuns_22 : decode cX0_freeRuns 22 = .ok (.invokevirtual 75, 3) := by decide +kernel
theorem dX0_freeRuns_25 : decode cX0_freeRuns 25 = .ok (.ifCond .ne 6, 3) := by decide +kernel
theorem dX0_freeRuns_28 : decode cX0_freeRuns 28 = .ok (.iinc 1 1, 3) := by decide +kernel
theorem dX0_freeRuns_31 : decode cX0_freeRuns 31 = .ok (.iinc 2 1, 3) := by decide +kernel
theorem dX0_freeRuns_34 : decode cX0_freeRuns 34 = .ok (.goto (-30), 3) := by decide +kernel
theorem dX0_freeRuns_37 : decode cX0_freeRuns 37 = .ok (.iload_n 1, 1) := by decide +kernel
theorem dX0_freeRuns_38 : decode cX0_freeRuns 38 = .ok (.ireturn, 1) := by decide +kernel
theorem dX0_longestRun_0 : decode cX0_longestRun 0 = .ok (.iconst 0, 1) := by decide +kernel
theorem dX0_longestRun_1 : decode cX0_longestRun 1 = .ok (.istore_n 1, 1) := by decide +kernel
theorem dX0_longestRun_2 : decode cX0_longestRun 2 = .ok (.iconst 0, 1) := by decide +kernel
theorem dX0_longestRun_3 : decode cX0_longestRun 3 = .ok (.istore_n 2, 1) := by decide +kernel
theorem dX0_longestRun_4 : decode cX0_longestRun 4 = .ok (.iconst 0, 1) := by decide +kernel
theorem dX0_longestRun_5 : decode cX0_longestRun 5 = .ok (.istore_n 3, 1) := by decide +kernel
theorem dX0_longestRun_6 : decode cX0_longestRun 6 = .ok (.iload_n 3, 1) := by decide +kernel
theorem dX0_longestRun_7 : decode cX0_longestRun 7 = .ok (.bipush 40, 2) := by decide +kernel
theorem dX0_longestRun_9 : decode cX0_longestRun 9 = .ok (.if_icmp .ge 31, 3) := by decide +kernel
theorem dX0_longestRun_12 : decode cX0_longestRun 12 = .ok (.aload_n 0, 1) := by decide +kernel
theorem dX0_longestRun_13 : decode cX0_longestRun 13 = .ok (.iload_n 3, 1) := by decide +kernel
theorem dX0_longestRun_14 : decode cX0_longestRun 14 = .ok (.invokevirtual 75, 3) := by decide +kernel
theorem dX0_longestRun_17 : decode cX0_longestRun 17 = .ok (.ifCond .eq 9, 3) := by decide +kernel
theorem dX0_longestRun_20 : decode cX0_longestRun 20 = .ok (.iload_n 2, 1) := by decide +kernel
theorem dX0_longestRun_21 : decode cX0_longestRun 21 = .ok (.iconst 1, 1) := by decide +kernel
theorem dX0_longestRun_22 : decode cX0_longestRun 22 = .ok (.iadd, 1) := by decide +kernel
theorem dX0_longestRun_23 : decode cX0_longestRun 23 = .ok (.goto 4, 3) := by decide +kernel
theorem dX0_longestRun_26 : decode cX0_longestRun 26 = .ok (.iconst 0, 1) := by decide +kernel
theorem dX0_longestRun_27 : decode cX0_longestRun 27 = .ok (.istore_n 2, 1) := by decide +kernel
theorem dX0_longestRun_28 : decode cX0_longestRun 28 = .ok (.iload_n 1, 1) := by decide +kernel
theorem dX0_longestRun_29 : decode cX0_longestRun 29 = .ok (.iload_n 2, 1) := by decide +kernel
theorem dX0_longestRun_30 : decode cX0_longestRun 30 = .ok (.invokestatic 78, 3) := by decide +kernel
theorem dX0_longestRun_33 : decode cX0_longestRun 33 = .ok (.istore_n 1, 1) := by decide +kernel
theorem dX0_longestRun_34 : decode cX0_longestRun 34 = .ok (.iinc 3 1, 3) := by decide +kernel
theorem dX0_longestRun_37 : decode cX0_longestRun 37 = .ok (.goto (-31), 3) := by decide +kernel
theorem dX0_longestRun_40 : decode cX0_longestRun 40 = .ok (.iload_n 1, 1) := by decide +kernel
theorem dX0_longestRun_41 : decode cX0_longestRun 41 = .ok (.ireturn, 1) := by decide +kernel
theorem dX0_lowestRun_0 : decode cX0_lowestRun 0 = .ok (.iconst 0, 1) := by decide +kernel
theorem dX0_lowestRun_1 : decode cX0_lowestRun 1 = .ok (.istore_n 2, 1) := by decide +kernel
theorem dX0_lowestRun_2 : decode cX0_lowestRun 2 = .ok (.iconst 0, 1) := by decide +kernel
theorem dX0_lowestRun_3 : decode cX0_lowestRun 3 = .ok (.istore_n 3, 1) := by decide +kernel
theorem dX0_lowestRun_4 : decode cX0_lowestRun 4 = .ok (.iload_n 3, 1) := by decide +kernel
theorem dX0_lowestRun_5 : decode cX0_lowestRun 5 = .ok (.bipush 40, 2) := by decide +kernel
theorem dX0_lowestRun_7 : decode cX0_lowestRun 7 = .ok (.if_icmp .ge 36, 3) := by decide +kernel
theorem dX0_lowestRun_10 : decode cX0_lowestRun 10 = .ok (.aload_n 0, 1) := by decide +kernel
theorem dX0_lowestRun_11 : decode cX0_lowestRun 11 = .ok (.iload_n 3, 1) := by decide +kernel
theorem dX0_lowestRun_12 : decode cX0_lowestRun 12 = .ok (.invokevirtual 75, 3) := by decide +kernel
theorem dX0_lowestRun_15 : decode cX0_lowestRun 15 = .ok (.ifCond .eq 9, 3) := by decide +kernel
theorem dX0_lowestRun_18 : decode cX0_lowestRun 18 = .ok (.iload_n 2, 1) := by decide +kernel
theorem dX0_lowestRun_19 : decode cX0_lowestRun 19 = .ok (.iconst 1, 1) := by decide +kernel
theorem dX0_lowestRun_20 : decode cX0_lowestRun 20 = .ok (.iadd, 1) := by decide +kernel
theorem dX0_lowestRun_21 : decode cX0_lowestRun 21 = .ok (.goto 4, 3) := by decide +kernel
theorem dX0_lowestRun_24 : decode cX0_lowestRun 24 = .ok (.iconst 0, 1) := by decide +kernel
theorem dX0_lowestRun_25 : decode cX0_lowestRun 25 = .ok (.istore_n 2, 1) := by decide +kernel
theorem dX0_lowestRun_26 : decode cX0_lowestRun 26 = .ok (.iload_n 2, 1) := by decide +kernel
theorem dX0_lowestRun_27 : decode cX0_lowestRun 27 = .ok (.iload_n 1, 1) := by decide +kernel
theorem dX0_lowestRun_28 : decode cX0_lowestRun 28 = .ok (.if_icmp .ne 9, 3) := by decide +kernel
theorem dX0_lowestRun_31 : decode cX0_lowestRun 31 = .ok (.iload_n 3, 1) := by decide +kernel
theorem dX0_lowestRun_32 : decode cX0_lowestRun 32 = .ok (.iload_n 1, 1) := by decide +kernel
theorem dX0_lowestRun_33 : decode cX0_lowestRun 33 = .ok (.isub, 1) := by decide +kernel
theorem dX0_lowestRun_34 : decode cX0_lowestRun 34 = .ok (.iconst 1, 1) := by decide +kernel
theorem dX0_lowestRun_35 : decode cX0_lowestRun 35 = .ok (.iadd, 1) := by decide +kernel
theorem dX0_lowestRun_36 : decode cX0_lowestRun 36 = .ok (.ireturn, 1) := by decide +kernel
theorem dX0_lowestRun_37 : decode cX0_lowestRun 37 = .ok (.iinc 3 1, 3) := by decide +kernel
theorem dX0_lowestRun_40 : decode cX0_lowestRun 40 = .ok (.goto (-36), 3) := by decide +kernel
theorem dX0_lowestRun_43 : decode cX0_lowestRun 43 = .ok (.iconst (-1), 1) := by decide +kernel
theorem dX0_lowestRun_44 : decode cX0_lowestRun 44 = .ok (.ireturn, 1) := by decide +kernel
theorem dX0_lay_0 : decode cX0_lay 0 = .ok (.iload_n 1, 1) := by decide +kernel
theorem dX0_lay_1 : decode cX0_lay 1 = .ok (.ifCond .lt 9, 3) := by decide +kernel
theorem dX0_lay_4 : decode cX0_lay 4 = .ok (.iload_n 1, 1) := by decide +kernel
theorem dX0_lay_5 : decode cX0_lay 5 = .ok (.bipush 30, 2) := by decide +kernel
theorem dX0_lay_7 : decode cX0_lay 7 = .ok (.if_icmp .lt 4, 3) := by decide +kernel
theorem dX0_lay_10 : decode cX0_lay 10 = .ok (.return_, 1) := by decide +kernel
theorem dX0_lay_11 : decode cX0_lay 11 = .ok (.aload_n 0, 1) := by decide +kernel
theorem dX0_lay_12 : decode cX0_lay 12 = .ok (.getfield 27, 3) := by decide +kernel
theorem dX0_lay_15 : decode cX0_lay 15 = .ok (.iload_n 1, 1) := by decide +kernel
theorem dX0_lay_16 : decode cX0_lay 16 = .ok (.aload_n 3, 1) := by decide +kernel
theorem dX0_lay_17 : decode cX0_lay 17 = .ok (.iconst 0, 1) := by decide +kernel
theorem dX0_lay_18 : decode cX0_lay 18 = .ok (.invokevirtual 84, 3) := by decide +kernel
theorem dX0_lay_21 : decode cX0_lay 21 = .ok (.iastore, 1) := by decide +kernel
theorem dX0_lay_22 : decode cX0_lay 22 = .ok (.iconst 0, 1) := by decide +kernel
theorem dX0_lay_23 : decode cX0_lay 23 = .ok (.istore 4, 2) := by decide +kernel
theorem dX0_lay_25 : decode cX0_lay 25 = .ok (.iload 4, 2) := by decide +kernel
theorem dX0_lay_27 : decode cX0_lay 27 = .ok (.bipush 12, 2) := by decide +kernel
theorem dX0_lay_29 : decode cX0_lay 29 = .ok (.if_icmp .ge 59, 3) := by decide +kernel
theorem dX0_lay_32 : decode cX0_lay 32 = .ok (.aload_n 3, 1) := by decide +kernel
theorem dX0_lay_33 : decode cX0_lay 33 = .ok (.iload 4, 2) := by decide +kernel
theorem dX0_lay_35 : decode cX0_lay 35 = .ok (.invokevirtual 84, 3) := by decide +kernel
theorem dX0_lay_38 : decode cX0_lay 38 = .ok (.iconst (-1), 1) := by decide +kernel
theorem dX0_lay_39 : decode cX0_lay 39 = .ok (.if_icmp .eq 49, 3) := by decide +kernel
theorem dX0_lay_42 : decode cX0_lay 42 = .ok (.aload_n 0, 1) := by decide +kernel
theorem dX0_lay_43 : decode cX0_lay 43 = .ok (.aload_n 3, 1) := by decide +kernel
theorem dX0_lay_44 : decode cX0_lay 44 = .ok (.iload 4, 2) := by decide +kernel
theorem dX0_lay_46 : decode cX0_lay 46 = .ok (.invokevirtual 84, 3) := by decide +kernel
theorem dX0_lay_49 : decode cX0_lay 49 = .ok (.iload 4, 2) := by decide +kernel
theorem dX0_lay_51 : decode cX0_lay 51 = .ok (.ifCond .ne 7, 3) := by decide +kernel
theorem dX0_lay_54 : decode cX0_lay 54 = .ok (.iconst 1, 1) := by decide +kernel
theorem dX0_lay_55 : decode cX0_lay 55 = .ok (.goto 4, 3) := by decide +kernel
theorem dX0_lay_58 : decode cX0_lay 58 = .ok (.iconst 2, 1) := by decide +kernel
theorem dX0_lay_59 : decode cX0_lay 59 = .ok (.iload_n 2, 1) := by decide +kernel
theorem dX0_lay_60 : decode cX0_lay 60 = .ok (.aload_n 3, 1) := by decide +kernel
theorem dX0_lay_61 : decode cX0_lay 61 = .ok (.iload 4, 2) := by decide +kernel
theorem dX0_lay_63 : decode cX0_lay 63 = .ok (.iconst 1, 1) := by decide +kernel
theorem dX0_lay_64 : decode cX0_lay 64 = .ok (.iadd, 1) := by decide +kernel
theorem dX0_lay_65 : decode cX0_lay 65 = .ok (.invokevirtual 84, 3) := by decide +kernel
theorem dX0_lay_68 : decode cX0_lay 68 = .ok (.invokevirtual 89, 3) := by decide +kernel
theorem dX0_lay_71 : decode cX0_lay 71 = .ok (.aload_n 0, 1) := by decide +kernel
theorem dX0_lay_72 : decode cX0_lay 72 = .ok (.aload_n 3, 1) := by decide +kernel
theorem dX0_lay_73 : decode cX0_lay 73 = .ok (.iload 4, 2) := by decide +kernel
theorem dX0_lay_75 : decode cX0_lay 75 = .ok (.invokevirtual 84, 3) := by decide +kernel
theorem dX0_lay_78 : decode cX0_lay 78 = .ok (.iload_n 1, 1) := by decide +kernel
theorem dX0_lay_79 : decode cX0_lay 79 = .ok (.invokevirtual 93, 3) := by decide +kernel
theorem dX0_lay_82 : decode cX0_lay 82 = .ok (.iinc 4 1, 3) := by decide +kernel
theorem dX0_lay_85 : decode cX0_lay 85 = .ok (.goto (-60), 3) := by decide +kernel
theorem dX0_lay_88 : decode cX0_lay 88 = .ok (.aload_n 0, 1) := by decide +kernel
theorem dX0_lay_89 : decode cX0_lay 89 = .ok (.aload_n 3, 1) := by decide +kernel
theorem dX0_lay_90 : decode cX0_lay 90 = .ok (.iconst 0, 1) := by decide +kernel
theorem dX0_lay_91 : decode cX0_lay 91 = .ok (.invokevirtual 84, 3) := by decide +kernel
theorem dX0_lay_94 : decode cX0_lay 94 = .ok (.aload_n 3, 1) := by decide +kernel
theorem dX0_lay_95 : decode cX0_lay 95 = .ok (.getfield 97, 3) := by decide +kernel
theorem dX0_lay_98 : decode cX0_lay 98 = .ok (.invokevirtual 100, 3) := by decide +kernel
theorem dX0_lay_101 : decode cX0_lay 101 = .ok (.return_, 1) := by decide +kernel
theorem dX0_putPage_0 : decode cX0_putPage 0 = .ok (.iload_n 1, 1) := by decide +kernel
theorem dX0_putPage_1 : decode cX0_putPage 1 = .ok (.ifCond .lt 31, 3) := by decide +kernel
theorem dX0_putPage_4 : decode cX0_putPage 4 = .ok (.iload_n 1, 1) := by decide +kernel
theorem dX0_putPage_5 : decode cX0_putPage 5 = .ok (.bipush 40, 2) := by decide +kernel
theorem dX0_putPage_7 : decode cX0_putPage 7 = .ok (.if_icmp .ge 25, 3) := by decide +kernel
theorem dX0_putPage_10 : decode cX0_putPage 10 = .ok (.aload_n 0, 1) := by decide +kernel
theorem dX0_putPage_11 : decode cX0_putPage 11 = .ok (.getfield 9, 3) := by decide +kernel
theorem dX0_putPage_14 : decode cX0_putPage 14 = .ok (.iload_n 1, 1) := by decide +kernel
theorem dX0_putPage_15 : decode cX0_putPage 15 = .ok (.iload_n 2, 1) := by decide +kernel
theorem dX0_putPage_16 : decode cX0_putPage 16 = .ok (.iastore, 1) := by decide +kernel
theorem dX0_putPage_17 : decode cX0_putPage 17 = .ok (.aload_n 0, 1) := by decide +kernel
theorem dX0_putPage_18 : decode cX0_putPage 18 = .ok (.getfield 15, 3) := by decide +kernel
theorem dX0_putPage_21 : decode cX0_putPage 21 = .ok (.iload_n 1, 1) := by decide +kernel
theorem dX0_putPage_22 : decode cX0_putPage 22 = .ok (.iload_n 3, 1) := by decide +kernel
theorem dX0_putPage_23 : decode cX0_putPage 23 = .ok (.iastore, 1) := by decide +kernel
theorem dX0_putPage_24 : decode cX0_putPage 24 = .ok (.aload_n 0, 1) := by decide +kernel
theorem dX0_putPage_25 : decode cX0_putPage 25 = .ok (.getfield 21, 3) := by decide +kernel
theorem dX0_putPage_28 : decode cX0_putPage 28 = .ok (.iload_n 1, 1) := by decide +kernel
theorem dX0_putPage_29 : decode cX0_putPage 29 = .ok (.iload 4, 2) := by decide +kernel
theorem dX0_putPage_31 : decode cX0_putPage 31 = .ok (.iastore, 1) := by decide +kernel
theorem dX0_putPage_32 : decode cX0_putPage 32 = .ok (.return_, 1) := by decide +kernel
theorem dX0_own_0 : decode cX0_own 0 = .ok (.iload_n 1, 1) := by decide +kernel
theorem dX0_own_1 : decode cX0_own 1 = .ok (.ifCond .lt 16, 3) := by decide +kernel
theorem dX0_own_4 : decode cX0_own 4 = .ok (.iload_n 1, 1) := by decide +kernel
theorem dX0_own_5 : decode cX0_own 5 = .ok (.bipush 40, 2) := by decide +kernel
theorem dX0_own_7 : decode cX0_own 7 = .ok (.if_icmp .ge 10, 3) := by decide +kernel
theorem dX0_own_10 : decode cX0_own 10 = .ok (.aload_n 0, 1) := by decide +kernel
theorem dX0_own_11 : decode cX0_own 11 = .ok (.getfield 24, 3) := by decide +kernel
theorem dX0_own_14 : decode cX0_own 14 = .ok (.iload_n 1, 1) := by decide +kernel
theorem dX0_own_15 : decode cX0_own 15 = .ok (.iload_n 2, 1) := by decide +kernel
theorem dX0_own_16 : decode cX0_own 16 = .ok (.iastore, 1) := by decide +kernel
theorem dX0_own_17 : decode cX0_own 17 = .ok (.return_, 1) := by decide +kernel
theorem dX0_tellLength_0 : decode cX0_tellLength 0 = .ok (.iload_n 1, 1) := by decide +kernel
theorem dX0_tellLength_1 : decode cX0_tellLength 1 = .ok (.ifCond .lt 16, 3) := by decide +kernel
theorem dX0_tellLength_4 : decode cX0_tellLength 4 = .ok (.iload_n 1, 1) := by decide +kernel
theorem dX0_tellLength_5 : decode cX0_tellLength 5 = .ok (.bipush 40, 2) := by decide +kernel
theorem dX0_tellLength_7 : decode cX0_tellLength 7 = .ok (.if_icmp .ge 10, 3) := by decide +kernel
theorem dX0_tellLength_10 : decode cX0_tellLength 10 = .ok (.aload_n 0, 1) := by decide +kernel
theorem dX0_tellLength_11 : decode cX0_tellLength 11 = .ok (.getfield 18, 3) := by decide +kernel
theorem dX0_tellLength_14 : decode cX0_tellLength 14 = .ok (.iload_n 1, 1) := by decide +kernel
theorem dX0_tellLength_15 : decode cX0_tellLength 15 = .ok (.iload_n 2, 1) := by decide +kernel
theorem dX0_tellLength_16 : decode cX0_tellLength 16 = .ok (.iastore, 1) := by decide +kernel
theorem dX0_tellLength_17 : decode cX0_tellLength 17 = .ok (.return_, 1) := by decide +kernel
theorem dX0_blank_0 : decode cX0_blank 0 = .ok (.aload_n 0, 1) := by decide +kernel
theorem dX0_blank_1 : decode cX0_blank 1 = .ok (.iload_n 1, 1) := by decide +kernel
theorem dX0_blank_2 : decode cX0_blank 2 = .ok (.iconst 0, 1) := by decide +kernel
theorem dX0_blank_3 : decode cX0_blank 3 = .ok (.iconst 0, 1) := by decide +kernel
theorem dX0_blank_4 : decode cX0_blank 4 = .ok (.iconst (-1), 1) := by decide +kernel
theorem dX0_blank_5 : decode cX0_blank 5 = .ok (.invokevirtual 89, 3) := by decide +kernel
theorem dX0_blank_8 : decode cX0_blank 8 = .ok (.return_, 1) := by decide +kernel
theorem dX0_release_0 : decode cX0_release 0 = .ok (.iload_n 1, 1) := by decide +kernel
theorem dX0_release_1 : decode cX0_release 1 = .ok (.ifCond .lt 9, 3) := by decide +kernel
theorem dX0_release_4 : decode cX0_release 4 = .ok (.iload_n 1, 1) := by decide +kernel
theorem dX0_release_5 : decode cX0_release 5 = .ok (.bipush 30, 2) := by decide +kernel
theorem dX0_release_7 : decode cX0_release 7 = .ok (.if_icmp .lt 4, 3) := by decide +kernel
theorem dX0_release_10 : decode cX0_release 10 = .ok (.return_, 1) := by decide +kernel
theorem dX0_release_11 : decode cX0_release 11 = .ok (.aload_n 0, 1) := by decide +kernel
theorem dX0_release_12 : decode cX0_release 12 = .ok (.getfield 27, 3) := by decide +kernel
theorem dX0_release_15 : decode cX0_release 15 = .ok (.iload_n 1, 1) := by decide +kernel
theorem dX0_release_16 : decode cX0_release 16 = .ok (.iaload, 1) := by decide +kernel
theorem dX0_release_17 : decode cX0_release 17 = .ok (.istore_n 2, 1) := by decide +kernel
theorem dX0_release_18 : decode cX0_release 18 = .ok (.aload_n 0, 1) := by decide +kernel
theorem dX0_release_19 : decode cX0_release 19 = .ok (.getfield 33, 3) := by decide +kernel
theorem dX0_release_22 : decode cX0_release 22 = .ok (.iload_n 1, 1) := by decide +kernel
theorem dX0_release_23 : decode cX0_release 23 = .ok (.iload_n 2, 1) := by decide +kernel
theorem dX0_release_24 : decode cX0_release 24 = .ok (.aload_n 0, 1) := by decide +kernel
theorem dX0_release_25 : decode cX0_release 25 = .ok (.iload_n 2, 1) := by decide +kernel
theorem dX0_release_26 : decode cX0_release 26 = .ok (.invokevirtual 103, 3) := by decide +kernel
theorem dX0_release_29 : decode cX0_release 29 = .ok (.invokevirtual 106, 3) := by decide +kernel
theorem dX0_release_32 : decode cX0_release 32 = .ok (.aload_n 0, 1) := by decide +kernel
theorem dX0_release_33 : decode cX0_release 33 = .ok (.getfield 27, 3) := by decide +kernel
theorem dX0_release_36 : decode cX0_release 36 = .ok (.iload_n 1, 1) := by decide +kernel
theorem dX0_release_37 : decode cX0_release 37 = .ok (.iconst (-1), 1) := by decide +kernel
theorem dX0_release_38 : decode cX0_release 38 = .ok (.iastore, 1) := by decide +kernel
theorem dX0_release_39 : decode cX0_release 39 = .ok (.iconst 0, 1) := by decide +kernel
theorem dX0_release_40 : decode cX0_release 40 = .ok (.istore_n 3, 1) := by decide +kernel
theorem dX0_release_41 : decode cX0_release 41 = .ok (.iload_n 3, 1) := by decide +kernel
theorem dX0_release_42 : decode cX0_release 42 = .ok (.bipush 40, 2) := by decide +kernel
theorem dX0_release_44 : decode cX0_release 44 = .ok (.if_icmp .ge 26, 3) := by decide +kernel
theorem dX0_release_47 : decode cX0_release 47 = .ok (.aload_n 0, 1) := by decide +kernel
theorem dX0_release_48 : decode cX0_release 48 = .ok (.getfield 24, 3) := by decide +kernel
theorem dX0_release_51 : decode cX0_release 51 = .ok (.iload_n 3, 1) := by decide +kernel
theorem dX0_release_52 : decode cX0_release 52 = .ok (.iaload, 1) := by decide +kernel
theorem dX0_release_53 : decode cX0_release 53 = .ok (.iload_n 1, 1) := by decide +kernel
theorem dX0_release_54 : decode cX0_release 54 = .ok (.if_icmp .ne 10, 3) := by decide +kernel
theorem dX0_release_57 : decode cX0_release 57 = .ok (.aload_n 0, 1) := by decide +kernel
theorem dX0_release_58 : decode cX0_release 58 = .ok (.getfield 24, 3) := by decide +kernel
theorem dX0_release_61 : decode cX0_release 61 = .ok (.iload_n 3, 1) := by decide +kernel
theorem dX0_release_62 : decode cX0_release 62 = .ok (.iconst (-1), 1) := by decide +kernel
theorem dX0_release_63 : decode cX0_release 63 = .ok (.iastore, 1) := by decide +kernel
theorem dX0_release_64 : decode cX0_release 64 = .ok (.iinc 3 1, 3) := by decide +kernel
theorem dX0_release_67 : decode cX0_release 67 = .ok (.goto (-26), 3) := by decide +kernel
theorem dX0_release_70 : decode cX0_release 70 = .ok (.return_, 1) := by decide +kernel
theorem dX1_init_0 : decode cX1_init 0 = .ok (.aload_n 0, 1) := by decide +kernel
theorem dX1_init_1 : decode cX1_init 1 = .ok (.invokespecial 3, 3) := by decide +kernel
theorem dX1_init_4 : decode cX1_init 4 = .ok (.aload_n 0, 1) := by decide +kernel
theorem dX1_init_5 : decode cX1_init 5 = .ok (.new 9, 3) := by decide +kernel
theorem dX1_init_8 : decode cX1_init 8 = .ok (.dup, 1) := by decide +kernel
theorem dX1_init_9 : decode cX1_init 9 = .ok (.invokespecial 11, 3) := by decide +kernel
theorem dX1_init_12 : decode cX1_init 12 = .ok (.putfield 12, 3) := by decide +kernel
theorem dX1_init_15 : decode cX1_init 15 = .ok (.return_, 1) := by decide +kernel
theorem dX1_trace_0 : decode cX1_trace 0 = .ok (.aload_n 0, 1) := by decide +kernel
theorem dX1_trace_1 : decode cX1_trace 1 = .ok (.aload_n 1, 1) := by decide +kernel
theorem dX1_trace_2 : decode cX1_trace 2 = .ok (.iload 4, 2) := by decide +kernel
theorem dX1_trace_4 : decode cX1_trace 4 = .ok (.invokevirtual 18, 3) := by decide +kernel
theorem dX1_trace_7 : decode cX1_trace 7 = .ok (.putfield 24, 3) := by decide +kernel
theorem dX1_trace_10 : decode cX1_trace 10 = .ok (.aload_n 1, 1) := by decide +kernel
theorem dX1_trace_11 : decode cX1_trace 11 = .ok (.iload 4, 2) := by decide +kernel
theorem dX1_trace_13 : decode cX1_trace 13 = .ok (.invokevirtual 28, 3) := by decide +kernel
theorem dX1_trace_16 : decode cX1_trace 16 = .ok (.istore 5, 2) := by decide +kernel
theorem dX1_trace_18 : decode cX1_trace 18 = .ok (.aload_n 0, 1) := by decide +kernel
theorem dX1_trace_19 : decode cX1_trace 19 = .ok (.getfield 12, 3) := by decide +kernel
theorem dX1_trace_22 : decode cX1_trace 22 = .ok (.invokevirtual 31, 3) := by decide +kernel
theorem dX1_trace_25 : decode cX1_trace 25 = .ok (.aload_n 0, 1) := by decide +kernel
theorem dX1_trace_26 : decode cX1_trace 26 = .ok (.getfield 12, 3) := by decide +kernel
theorem dX1_trace_29 : decode cX1_trace 29 = .ok (.iload 4, 2) := by decide +kernel
theorem dX1_trace_31 : decode cX1_trace 31 = .ok (.invokevirtual 34, 3) := by decide +kernel
theorem dX1_trace_34 : decode cX1_trace 34 = .ok (.aload_n 0, 1) := by decide +kernel
theorem dX1_trace_35 : decode cX1_trace 35 = .ok (.iconst 0, 1) := by decide +kernel
theorem dX1_trace_36 : decode cX1_trace 36 = .ok (.putfield 38, 3) := by decide +kernel
theorem dX1_trace_39 : decode cX1_trace 39 = .ok (.aload_n 0, 1) := by decide +kernel
theorem dX1_trace_40 : decode cX1_trace 40 = .ok (.iconst 0, 1) := by decide +kernel
theorem dX1_trace_41 : decode cX1_trace 41 = .ok (.putfield 41, 3) := by decide +kernel
theorem dX1_trace_44 : decode cX1_trace 44 = .ok (.lload_n 2, 1) := by decide +kernel
theorem dX1_trace_45 : decode cX1_trace 45 = .ok (.lconst 1, 1) := by decide +kernel
theorem dX1_trace_46 : decode cX1_trace 46 = .ok (.iload 4, 2) := by decide +kernel
theorem dX1_trace_48 : decode cX1_trace 48 = .ok (.lshl, 1) := by decide +kernel
theorem dX1_trace_49 : decode cX1_trace 49 = .ok (.ldc2_w 44, 3) := by decide +kernel
theorem dX1_trace_52 : decode cX1_trace 52 = .ok (.lxor, 1) := by decide +kernel
theorem dX1_trace_53 : decode cX1_trace 53 = .ok (.land, 1) := by decide +kernel
theorem dX1_trace_54 : decode cX1_trace 54 = .ok (.lstore 6, 2) := by decide +kernel
theorem dX1_trace_56 : decode cX1_trace 56 = .ok (.iload 4, 2) := by decide +kernel
theorem dX1_trace_58 : decode cX1_trace 58 = .ok (.istore 8, 2) := by decide +kernel
theorem dX1_trace_60 : decode cX1_trace 60 = .ok (.iconst 1, 1) := by decide +kernel
theorem dX1_trace_61 : decode cX1_trace 61 = .ok (.istore 9, 2) := by decide +kernel
theorem dX1_trace_63 : decode cX1_trace 63 = .ok (.iload 9, 2) := by decide +kernel
theorem dX1_trace_65 : decode cX1_trace 65 = .ok (.bipush 12, 2) := by decide +kernel
theorem dX1_trace_67 : decode cX1_trace 67 = .ok (.if_icmp .ge 105, 3) := by decide +kernel
theorem dX1_trace_70 : decode cX1_trace 70 = .ok (.iload 9, 2) := by decide +kernel
theorem dX1_trace_72 : decode cX1_trace 72 = .ok (.iload 5, 2) := by decide +kernel
theorem dX1_trace_74 : decode cX1_trace 74 = .ok (.if_icmp .ge 98, 3) := by decide +kernel
theorem dX1_trace_77 : decode cX1_trace 77 = .ok (.aload_n 1, 1) := by decide +kernel
theorem dX1_trace_78 : decode cX1_trace 78 = .ok (.iload 8, 2) := by decide +kernel
theorem dX1_trace_80 : decode cX1_trace 80 = .ok (.invokevirtual 46, 3) := by decide +kernel
theorem dX1_trace_83 : decode cX1_trace 83 = .ok (.istore 10, 2) := by decide +kernel
theorem dX1_trace_85 : decode cX1_trace 85 = .ok (.aload_n 0, 1) := by decide +kernel
theorem dX1_trace_86 : decode cX1_trace 86 = .ok (.aload_n 1, 1) := by decide +kernel
theorem dX1_trace_87 : decode cX1_trace 87 = .ok (.lload 6, 2) := by decide +kernel
theorem dX1_trace_89 : decode cX1_trace 89 = .ok (.iload 10, 2) := by decide +kernel
theorem dX1_trace_91 : decode cX1_trace 91 = .ok (.invokevirtual 49, 3) := by decide +kernel
theorem dX1_trace_94 : decode cX1_trace 94 = .ok (.ifCond .eq 20, 3) := by decide +kernel
theorem dX1_trace_97 : decode cX1_trace 97 = .ok (.aload_n 0, 1) := by decide +kernel
theorem dX1_trace_98 : decode cX1_trace 98 = .ok (.dup, 1) := by decide +kernel
theorem dX1_trace_99 : decode cX1_trace 99 = .ok (.getfield 38, 3) := by decide +kernel
theorem dX1_trace_102 : decode cX1_trace 102 = .ok (.iconst 1, 1) := by decide +kernel
theorem dX1_trace_103 : decode cX1_trace 103 = .ok (.iadd, 1) := by decide +kernel
theorem dX1_trace_104 : decode cX1_trace 104 = .ok (.putfield 38, 3) := by decide +kernel
theorem dX1_trace_107 : decode cX1_trace 107 = .ok (.iload 10, 2) := by decide +kernel
theorem dX1_trace_109 : decode cX1_trace 109 = .ok (.istore 8, 2) := by decide +kernel
theorem dX1_trace_111 : decode cX1_trace 111 = .ok (.goto 33, 3) := by decide +kernel
theorem dX1_trace_114 : decode cX1_trace 114 = .ok (.aload_n 0, 1) := by decide +kernel
theorem dX1_trace_115 : decode cX1_trace 115 = .ok (.aload_n 1, 1) := by decide +kernel
theorem dX1_trace_116 : decode cX1_trace 116 = .ok (.lload 6, 2) := by decide +kernel
theorem dX1_trace_118 : decode cX1_trace 118 = .ok (.iload 8, 2) := by decide +kernel
theorem dX1_trace_120 : decode cX1_trace 120 = .ok (.iconst 1, 1) := by decide +kernel
theorem dX1_trace_121 : decode cX1_trace 121 = .ok (.iadd, 1) := by decide +kernel
theorem dX1_trace_122 : decode cX1_trace 122 = .ok (.invokevirtual 49, 3) := by decide +kernel
theorem dX1_trace_125 : decode cX1_trace 125 = .ok (.ifCond .eq 47, 3) := by decide +kernel
theorem dX1_trace_128 : decode cX1_trace 128 = .ok (.aload_n 0, 1) := by decide +kernel
theorem dX1_trace_129 : decode cX1_trace 129 = .ok (.dup, 1) := by decide +kernel
theorem dX1_trace_130 : decode cX1_trace 130 = .ok (.getfield 41, 3) := by decide +kernel
theorem dX1_trace_133 : decode cX1_trace 133 = .ok (.iconst 1, 1) := by decide +kernel
theorem dX1_trace_134 : decode cX1_trace 134 = .ok (.iadd, 1) := by decide +kernel
theorem dX1_trace_135 : decode cX1_trace 135 = .ok (.putfield 41, 3) := by decide +kernel
theorem dX1_trace_138 : decode cX1_trace 138 = .ok (.iload 8, 2) := by decide +kernel
theorem dX1_trace_140 : decode cX1_trace 140 = .ok (.iconst 1, 1) := by decide +kernel
theorem dX1_trace_141 : decode cX1_trace 141 = .ok (.iadd, 1) := by decide +kernel
theorem dX1_trace_142 : decode cX1_trace 142 = .ok (.istore 8, 2) := by decide +kernel
theorem dX1_trace_144 : decode cX1_trace 144 = .ok (.aload_n 0, 1) := by decide +kernel
theorem dX1_trace_145 : decode cX1_trace 145 = .ok (.getfield 12, 3) := by decide +kernel
theorem dX1_trace_148 : decode cX1_trace 148 = .ok (.iload 8, 2) := by decide +kernel
theorem dX1_trace_150 : decode cX1_trace 150 = .ok (.invokevirtual 34, 3) := by decide +kernel
theorem dX1_trace_153 : decode cX1_trace 153 = .ok (.lload 6, 2) := by decide +kernel
theorem dX1_trace_155 : decode cX1_trace 155 = .ok (.lconst 1, 1) := by decide +kernel
theorem dX1_trace_156 : decode cX1_trace 156 = .ok (.iload 8, 2) := by decide +kernel
theorem dX1_trace_158 : decode cX1_trace 158 = .ok (.lshl, 1) := by decide +kernel
theorem dX1_trace_159 : decode cX1_trace 159 = .ok (.ldc2_w 44, 3) := by decide +kernel
theorem dX1_trace_162 : decode cX1_trace 162 = .ok (.lxor, 1) := by decide +kernel
theorem dX1_trace_163 : decode cX1_trace 163 = .ok (.land, 1) := by decide +kernel
theorem dX1_trace_164 : decode cX1_trace 164 = .ok (.lstore 6, 2) := by decide +kernel
theorem dX1_trace_166 : decode cX1_trace 166 = .ok (.iinc 9 1, 3) := by decide +kernel
theorem dX1_trace_169 : decode cX1_trace 169 = .ok (.goto (-106), 3) := by decide +kernel
theorem dX1_trace_172 : decode cX1_trace 172 = .ok (.aload_n 0, 1) := by decide +kernel
theorem dX1_trace_173 : decode cX1_trace 173 = .ok (.lload_n 2, 1) := by decide +kernel
theorem dX1_trace_174 : decode cX1_trace 174 = .ok (.lload 6, 2) := by decide +kernel
theorem dX1_trace_176 : decode cX1_trace 176 = .ok (.ldc2_w 44, 3) := by decide +kernel
theorem dX1_trace_179 : decode cX1_trace 179 = .ok (.lxor, 1) := by decide +kernel
theorem dX1_trace_180 : decode cX1_trace 180 = .ok (.land, 1) := by decide +kernel
theorem dX1_trace_181 : decode cX1_trace 181 = .ok (.putfield 53, 3) := by decide +kernel
theorem dX1_trace_184 : decode cX1_trace 184 = .ok (.aload_n 0, 1) := by decide +kernel
theorem dX1_trace_185 : decode cX1_trace 185 = .ok (.iload 5, 2) := by decide +kernel
theorem dX1_trace_187 : decode cX1_trace 187 = .ok (.aload_n 0, 1) := by decide +kernel
theorem dX1_trace_188 : decode cX1_trace 188 = .ok (.getfield 12, 3) := by decide +kernel
theorem dX1_trace_191 : decode cX1_trace 191 = .ok (.getfield 57, 3) := by decide +kernel
theorem dX1_trace_194 : decode cX1_trace 194 = .ok (.isub, 1) := by decide +kernel
theorem dX1_trace_195 : decode cX1_trace 195 = .ok (.putfield 60, 3) := by decide +kernel
theorem dX1_trace_198 : decode cX1_trace 198 = .ok (.return_, 1) := by decide +kernel
theorem dX1_fits_0 : decode cX1_fits 0 = .ok (.iload 4, 2) := by decide +kernel
theorem dX1_fits_2 : decode cX1_fits 2 = .ok (.ifCond .lt 50, 3) := by decide +kernel
theorem dX1_fits_5 : decode cX1_fits 5 = .ok (.iload 4, 2) := by decide +kernel
theorem dX1_fits_7 : decode cX1_fits 7 = .ok (.bipush 40, 2) := by decide +kernel
theorem dX1_fits_9 : decode cX1_fits 9 = .ok (.if_icmp .ge 43, 3) := by decide +kernel
theorem dX1_fits_12 : decode cX1_fits 12 = .ok (.lload_n 2, 1) := by decide +kernel
theorem dX1_fits_13 : decode cX1_fits 13 = .ok (.iload 4, 2) := by decide +kernel
theorem dX1_fits_15 : decode cX1_fits 15 = .ok (.lshr, 1) := by decide +kernel
theorem dX1_fits_16 : decode cX1_fits 16 = .ok (.lconst 1, 1) := by decide +kernel
theorem dX1_fits_17 : decode cX1_fits 17 = .ok (.land, 1) := by decide +kernel
theorem dX1_fits_18 : decode cX1_fits 18 = .ok (.lconst 0, 1) := by decide +kernel
theorem dX1_fits_19 : decode cX1_fits 19 = .ok (.lcmp, 1) := by decide +kernel
theorem dX1_fits_20 : decode cX1_fits 20 = .ok (.ifCond .eq 32, 3) := by decide +kernel
theorem dX1_fits_23 : decode cX1_fits 23 = .ok (.aload_n 1, 1) := by decide +kernel
theorem dX1_fits_24 : decode cX1_fits 24 = .ok (.getfield 63, 3) := by decide +kernel
theorem dX1_fits_27 : decode cX1_fits 27 = .ok (.iload 4, 2) := by decide +kernel
theorem dX1_fits_29 : decode cX1_fits 29 = .ok (.iaload, 1) := by decide +kernel
theorem dX1_fits_30 : decode cX1_fits 30 = .ok (.iconst 2, 1) := by decide +kernel
theorem dX1_fits_31 : decode cX1_fits 31 = .ok (.if_icmp .ne 21, 3) := by decide +kernel
theorem dX1_fits_34 : decode cX1_fits 34 = .ok (.aload_n 1, 1) := by decide +kernel
theorem dX1_fits_35 : decode cX1_fits 35 = .ok (.getfield 67, 3) := by decide +kernel
theorem dX1_fits_38 : decode cX1_fits 38 = .ok (.iload 4, 2) := by decide +kernel
theorem dX1_fits_40 : decode cX1_fits 40 = .ok (.iaload, 1) := by decide +kernel
theorem dX1_fits_41 : decode cX1_fits 41 = .ok (.aload_n 0, 1) := by decide +kernel
theorem dX1_fits_42 : decode cX1_fits 42 = .ok (.getfield 24, 3) := by decide +kernel
theorem dX1_fits_45 : decode cX1_fits 45 = .ok (.if_icmp .ne 7, 3) := by decide +kernel
theorem dX1_fits_48 : decode cX1_fits 48 = .ok (.iconst 1, 1) := by decide +kernel
theorem dX1_fits_49 : decode cX1_fits 49 = .ok (.goto 4, 3) := by decide +kernel
theorem dX1_fits_52 : decode cX1_fits 52 = .ok (.iconst 0, 1) := by decide +kernel
theorem dX1_fits_53 : decode cX1_fits 53 = .ok (.ireturn, 1) := by decide +kernel
theorem dX1_rate_0 : decode cX1_rate 0 = .ok (.aload_n 1, 1) := by decide +kernel
theorem dX1_rate_1 : decode cX1_rate 1 = .ok (.iload_n 2, 1) := by decide +kernel
theorem dX1_rate_2 : decode cX1_rate 2 = .ok (.aload_n 0, 1) := by decide +kernel
theorem dX1_rate_3 : decode cX1_rate 3 = .ok (.getfield 24, 3) := by decide +kernel
theorem dX1_rate_6 : decode cX1_rate 6 = .ok (.invokevirtual 70, 3) := by decide +kernel
theorem dX1_rate_9 : decode cX1_rate 9 = .ok (.istore_n 3, 1) := by decide +kernel
theorem dX1_rate_10 : decode cX1_rate 10 = .ok (.aload_n 0, 1) := by decide +kernel
theorem dX1_rate_11 : decode cX1_rate 11 = .ok (.bipush 10, 2) := by decide +kernel
theorem dX1_rate_13 : decode cX1_rate 13 = .ok (.bipush 10, 2) := by decide +kernel
theorem dX1_rate_15 : decode cX1_rate 15 = .ok (.aload_n 0, 1) := by decide +kernel
theorem dX1_rate_16 : decode cX1_rate 16 = .ok (.getfield 38, 3) := by decide +kernel
theorem dX1_rate_19 : decode cX1_rate 19 = .ok (.imul, 1) := by decide +kernel
theorem dX1_rate_20 : decode cX1_rate 20 = .ok (.iadd, 1) := by decide +kernel
theorem dX1_rate_21 : decode cX1_rate 21 = .ok (.iconst 4, 1) := by decide +kernel
theorem dX1_rate_22 : decode cX1_rate 22 = .ok (.aload_n 0, 1) := by decide +kernel
theorem dX1_rate_23 : decode cX1_rate 23 = .ok (.getfield 41, 3) := by decide +kernel
theorem dX1_rate_26 : decode cX1_rate 26 = .ok (.imul, 1) := by decide +kernel
theorem dX1_rate_27 : decode cX1_rate 27 = .ok (.iadd, 1) := by decide +kernel
theorem dX1_rate_28 : decode cX1_rate 28 = .ok (.bipush 6, 2) := by decide +kernel
theorem dX1_rate_30 : decode cX1_rate 30 = .ok (.aload_n 0, 1) := by decide +kernel
theorem dX1_rate_31 : decode cX1_rate 31 = .ok (.getfield 60, 3) := by decide +kernel
theorem dX1_rate_34 : decode cX1_rate 34 = .ok (.imul, 1) := by decide +kernel
theorem dX1_rate_35 : decode cX1_rate 35 = .ok (.isub, 1) := by decide +kernel
theorem dX1_rate_36 : decode cX1_rate 36 = .ok (.iload_n 3, 1) := by decide +kernel
theorem dX1_rate_37 : decode cX1_rate 37 = .ok (.iconst (-1), 1) := by decide +kernel
theorem dX1_rate_38 : decode cX1_rate 38 = .ok (.if_icmp .ne 7, 3) := by decide +kernel
theorem dX1_rate_41 : decode cX1_rate 41 = .ok (.iconst 0, 1) := by decide +kernel
theorem dX1_rate_42 : decode cX1_rate 42 = .ok (.goto 5, 3) := by decide +kernel
theorem dX1_rate_45 : decode cX1_rate 45 = .ok (.bipush 15, 2) := by decide +kernel
theorem dX1_rate_47 : decode cX1_rate 47 = .ok (.iadd, 1) := by decide +kernel
theorem dX1_rate_48 : decode cX1_rate 48 = .ok (.putfield 76, 3) := by decide +kernel
theorem dX1_rate_51 : decode cX1_rate 51 = .ok (.aload_n 0, 1) := by decide +kernel
theorem dX1_rate_52 : decode cX1_rate 52 = .ok (.aload_n 1, 1) := by decide +kernel
theorem dX1_rate_53 : decode cX1_rate 53 = .ok (.iload_n 3, 1) := by decide +kernel
theorem dX1_rate_54 : decode cX1_rate 54 = .ok (.iconst (-1), 1) := by decide +kernel
theorem dX1_rate_55 : decode cX1_rate 55 = .ok (.if_icmp .ne 14, 3) := by decide +kernel
theorem dX1_rate_58 : decode cX1_rate 58 = .ok (.aload_n 1, 1) := by decide +kernel
theorem dX1_rate_59 : decode cX1_rate 59 = .ok (.aload_n 0, 1) := by decide +kernel
theorem dX1_rate_60 : decode cX1_rate 60 = .ok (.getfield 24, 3) := by decide +kernel
theorem dX1_rate_63 : decode cX1_rate 63 = .ok (.invokevirtual 79, 3) := by decide +kernel
theorem dX1_rate_66 : decode cX1_rate 66 = .ok (.goto 4, 3) := by decide +kernel
theorem dX1_rate_69 : decode cX1_rate 69 = .ok (.iload_n 3, 1) := by decide +kernel
theorem dX1_rate_70 : decode cX1_rate 70 = .ok (.invokevirtual 82, 3) := by decide +kernel
theorem dX1_rate_73 : decode cX1_rate 73 = .ok (.putfield 85, 3) := by decide +kernel
theorem dX1_rate_76 : decode cX1_rate 76 = .ok (.return_, 1) := by decide +kernel
theorem dX2_init_0 : decode cX2_init 0 = .ok (.aload_n 0, 1) := by decide +kernel
theorem dX2_init_1 : decode cX2_init 1 = .ok (.invokespecial 3, 3) := by decide +kernel
theorem dX2_init_4 : decode cX2_init 4 = .ok (.aload_n 0, 1) := by decide +kernel
theorem dX2_init_5 : decode cX2_init 5 = .ok (.new 9, 3) := by decide +kernel
theorem dX2_init_8 : decode cX2_init 8 = .ok (.dup, 1) := by decide +kernel
theorem dX2_init_9 : decode cX2_init 9 = .ok (.invokespecial 11, 3) := by decide +kernel
theorem dX2_init_12 : decode cX2_init 12 = .ok (.putfield 12, 3) := by decide +kernel
theorem dX2_init_15 : decode cX2_init 15 = .ok (.aload_n 0, 1) := by decide +kernel
theorem dX2_init_16 : decode cX2_init 16 = .ok (.bipush 40, 2) := by decide +kernel
theorem dX2_init_18 : decode cX2_init 18 = .ok (.newarray .int, 2) := by decide +kernel
theorem dX2_init_20 : decode cX2_init 20 = .ok (.putfield 18, 3) := by decide +kernel
theorem dX2_init_23 : decode cX2_init 23 = .ok (.aload_n 0, 1) := by decide +kernel
theorem dX2_init_24 : decode cX2_init 24 = .ok (.bipush 40, 2) := by decide +kernel
theorem dX2_init_26 : decode cX2_init 26 = .ok (.newarray .int, 2) := by decide +kernel
theorem dX2_init_28 : decode cX2_init 28 = .ok (.putfield 22, 3) := by decide +kernel
theorem dX2_init_31 : decode cX2_init 31 = .ok (.aload_n 0, 1) := by decide +kernel
theorem dX2_init_32 : decode cX2_init 32 = .ok (.bipush 40, 2) := by decide +kernel
theorem dX2_init_34 : decode cX2_init 34 = .ok (.newarray .long, 2) := by decide +kernel
theorem dX2_init_36 : decode cX2_init 36 = .ok (.putfield 25, 3) := by decide +kernel
theorem dX2_init_39 : decode cX2_init 39 = .ok (.aload_n 0, 1) := by decide +kernel
theorem dX2_init_40 : decode cX2_init 40 = .ok (.bipush 12, 2) := by decide +kernel
theorem dX2_init_42 : decode cX2_init 42 = .ok (.newarray .int, 2) := by decide +kernel
theorem dX2_init_44 : decode cX2_init 44 = .ok (.putfield 29, 3) := by decide +kernel
theorem dX2_init_47 : decode cX2_init 47 = .ok (.return_, 1) := by decide +kernel
theorem dX2_find_0 : decode cX2_find 0 = .ok (.aload_n 0, 1) := by decide +kernel
theorem dX2_find_1 : decode cX2_find 1 = .ok (.lload_n 2, 1) := by decide +kernel
theorem dX2_find_2 : decode cX2_find 2 = .ok (.putfield 32, 3) := by decide +kernel
theorem dX2_find_5 : decode cX2_find 5 = .ok (.aload_n 0, 1) := by decide +kernel
theorem dX2_find_6 : decode cX2_find 6 = .ok (.iconst 0, 1) := by decide +kernel
theorem dX2_find_7 : decode cX2_find 7 = .ok (.putfield 36, 3) := by decide +kernel
theorem dX2_find_10 : decode cX2_find 10 = .ok (.iconst 0, 1) := by decide +kernel
theorem dX2_find_11 : decode cX2_find 11 = .ok (.istore 4, 2) := by decide +kernel
theorem dX2_find_13 : decode cX2_find 13 = .ok (.iload 4, 2) := by decide +kernel
theorem dX2_find_15 : decode cX2_find 15 = .ok (.bipush 40, 2) := by decide +kernel
theorem dX2_find_17 : decode cX2_find 17 = .ok (.if_icmp .ge 81, 3) := by decide +kernel
theorem dX2_find_20 : decode cX2_find 20 = .ok (.aload_n 0, 1) := by decide +kernel
theorem dX2_find_21 : decode cX2_find 21 = .ok (.getfield 32, 3) := by decide +kernel
theorem dX2_find_24 : decode cX2_find 24 = .ok (.iload 4, 2) := by decide +kernel
theorem dX2_find_26 : decode cX2_find 26 = .ok (.lshr, 1) := by decide +kernel
theorem dX2_find_27 : decode cX2_find 27 = .ok (.lconst 1, 1) := by decide +kernel
theorem dX2_find_28 : decode cX2_find 28 = .ok (.land, 1) := by decide +kernel
theorem dX2_find_29 : decode cX2_find 29 = .ok (.lconst 0, 1) := by decide +kernel
theorem dX2_find_30 : decode cX2_find 30 = .ok (.lcmp, 1) := by decide +kernel
theorem dX2_find_31 : decode cX2_find 31 = .ok (.ifCond .eq 61, 3) := by decide +kernel
theorem dX2_find_34 : decode cX2_find 34 = .ok (.aload_n 1, 1) := by decide +kernel
theorem dX2_find_35 : decode cX2_find 35 = .ok (.getfield 40, 3) := by decide +kernel
theorem dX2_find_38 : decode cX2_find 38 = .ok (.iload 4, 2) := by decide +kernel
theorem dX2_find_40 : decode cX2_find 40 = .ok (.iaload, 1) := by decide +kernel
theorem dX2_find_41 : decode cX2_find 41 = .ok (.iconst 1, 1) := by decide +kernel
theorem dX2_find_42 : decode cX2_find 42 = .ok (.if_icmp .ne 50, 3) := by decide +kernel
theorem dX2_find_45 : decode cX2_find 45 = .ok (.aload_n 0, 1) := by decide +kernel
theorem dX2_find_46 : decode cX2_find 46 = .ok (.getfield 12, 3) := by decide +kernel
theorem dX2_find_49 : decode cX2_find 49 = .ok (.aload_n 1, 1) := by decide +kernel
theorem dX2_find_50 : decode cX2_find 50 = .ok (.aload_n 0, 1) := by decide +kernel
theorem dX2_find_51 : decode cX2_find 51 = .ok (.getfield 32, 3) := by decide +kernel
theorem dX2_find_54 : decode cX2_find 54 = .ok (.iload 4, 2) := by decide +kernel
theorem dX2_find_56 : decode cX2_find 56 = .ok (.invokevirtual 45, 3) := by decide +kernel
theorem dX2_find_59 : decode cX2_find 59 = .ok (.aload_n 0, 1) := by decide +kernel
theorem dX2_find_60 : decode cX2_find 60 = .ok (.getfield 12, 3) := by decide +kernel
theorem dX2_find_63 : decode cX2_find 63 = .ok (.aload_n 1, 1) := by decide +kernel
theorem dX2_find_64 : decode cX2_find 64 = .ok (.getfield 49, 3) := by decide +kernel
theorem dX2_find_67 : decode cX2_find 67 = .ok (.iload 4, 2) := by decide +kernel
theorem dX2_find_69 : decode cX2_find 69 = .ok (.invokevirtual 53, 3) := by decide +kernel
theorem dX2_find_72 : decode cX2_find 72 = .ok (.aload_n 0, 1) := by decide +kernel
theorem dX2_find_73 : decode cX2_find 73 = .ok (.iload 4, 2) := by decide +kernel
theorem dX2_find_75 : decode cX2_find 75 = .ok (.aload_n 0, 1) := by decide +kernel
theorem dX2_find_76 : decode cX2_find 76 = .ok (.getfield 12, 3) := by decide +kernel
theorem dX2_find_79 : decode cX2_find 79 = .ok (.getfield 57, 3) := by decide +kernel
theorem dX2_find_82 : decode cX2_find 82 = .ok (.aload_n 0, 1) := by decide +kernel
theorem dX2_find_83 : decode cX2_find 83 = .ok (.getfield 12, 3) := by decide +kernel
theorem dX2_find_86 : decode cX2_find 86 = .ok (.getfield 60, 3) := by decide +kernel
theorem dX2_find_89 : decode cX2_find 89 = .ok (.invokevirtual 63, 3) := by decide +kernel
theorem dX2_find_92 : decode cX2_find 92 = .ok (.iinc 4 1, 3) := by decide +kernel
theorem dX2_find_95 : decode cX2_find 95 = .ok (.goto (-82), 3) := by decide +kernel
theorem dX2_find_98 : decode cX2_find 98 = .ok (.return_, 1) := by decide +kernel
theorem dX2_insert_0 : decode cX2_insert 0 = .ok (.aload_n 0, 1) := by decide +kernel
theorem dX2_insert_1 : decode cX2_insert 1 = .ok (.getfield 36, 3) := by decide +kernel
theorem dX2_insert_4 : decode cX2_insert 4 = .ok (.ifCond .lt 12, 3) := by decide +kernel
theorem dX2_insert_7 : decode cX2_insert 7 = .ok (.aload_n 0, 1) := by decide +kernel
theorem dX2_insert_8 : decode cX2_insert 8 = .ok (.getfield 36, 3) := by decide +kernel
theorem dX2_insert_11 : decode cX2_insert 11 = .ok (.bipush 40, 2) := by decide +kernel
theorem dX2_insert_13 : decode cX2_insert 13 = .ok (.if_icmp .lt 4, 3) := by decide +kernel
theorem dX2_insert_16 : decode cX2_insert 16 = .ok (.return_, 1) := by decide +kernel
theorem dX2_insert_17 : decode cX2_insert 17 = .ok (.aload_n 0, 1) := by decide +kernel
theorem dX2_insert_18 : decode cX2_insert 18 = .ok (.getfield 36, 3) := by decide +kernel
theorem dX2_insert_21 : decode cX2_insert 21 = .ok (.istore 5, 2) := by decide +kernel
theorem dX2_insert_23 : decode cX2_insert 23 = .ok (.iload 5, 2) := by decide +kernel
theorem dX2_insert_25 : decode cX2_insert 25 = .ok (.ifCond .le 70, 3) := by decide +kernel
theorem dX2_insert_28 : decode cX2_insert 28 = .ok (.aload_n 0, 1) := by decide +kernel
theorem dX2_insert_29 : decode cX2_insert 29 = .ok (.getfield 22, 3) := by decide +kernel
theorem dX2_insert_32 : decode cX2_insert 32 = .ok (.iload 5, 2) := by decide +kernel
theorem dX2_insert_34 : decode cX2_insert 34 = .ok (.iconst 1, 1) := by decide +kernel
theorem dX2_insert_35 : decode cX2_insert 35 = .ok (.isub, 1) := by decide +kernel
theorem dX2_insert_36 : decode cX2_insert 36 = .ok (.iaload, 1) := by decide +kernel
theorem dX2_insert_37 : decode cX2_insert 37 = .ok (.iload_n 2, 1) := by decide +kernel
theorem dX2_insert_38 : decode cX2_insert 38 = .ok (.if_icmp .ge 57, 3) := by decide +kernel
theorem dX2_insert_41 : decode cX2_insert 41 = .ok (.aload_n 0, 1) := by decide +kernel
theorem dX2_insert_42 : decode cX2_insert 42 = .ok (.getfield 18, 3) := by decide +kernel
theorem dX2_insert_45 : decode cX2_insert 45 = .ok (.iload 5, 2) := by decide +kernel
theorem dX2_insert_47 : decode cX2_insert 47 = .ok (.aload_n 0, 1) := by decide +kernel
theorem dX2_insert_48 : decode cX2_insert 48 = .ok (.getfield 18, 3) := by decide +kernel
theorem dX2_insert_51 : decode cX2_insert 51 = .ok (.iload 5, 2) := by decide +kernel
theorem dX2_insert_53 : decode cX2_insert 53 = .ok (.iconst 1, 1) := by decide +kernel
theorem dX2_insert_54 : decode cX2_insert 54 = .ok (.isub, 1) := by decide +kernel
theorem dX2_insert_55 : decode cX2_insert 55 = .ok (.iaload, 1) := by decide +kernel
theorem dX2_insert_56 : decode cX2_insert 56 = .ok (.iastore, 1) := by decide +kernel
theorem dX2_insert_57 : decode cX2_insert 57 = .ok (.aload_n 0, 1) := by decide +kernel
theorem dX2_insert_58 : decode cX2_insert 58 = .ok (.getfield 22, 3) := by decide +kernel
theorem dX2_insert_61 : decode cX2_insert 61 = .ok (.iload 5, 2) := by decide +kernel
theorem dX2_insert_63 : decode cX2_insert 63 = .ok (.aload_n 0, 1) := by decide +kernel
theorem dX2_insert_64 : decode cX2_insert 64 = .ok (.getfield 22, 3) := by decide +kernel
theorem dX2_insert_67 : decode cX2_insert 67 = .ok (.iload 5, 2) := by decide +kernel
theorem dX2_insert_69 : decode cX2_insert 69 = .ok (.iconst 1, 1) := by decide +kernel
theorem dX2_insert_70 : decode cX2_insert 70 = .ok (.isub, 1) := by decide +kernel
theorem dX2_insert_71 : decode cX2_insert 71 = .ok (.iaload, 1) := by decide +kernel
theorem dX2_insert_72 : decode cX2_insert 72 = .ok (.iastore, 1) := by decide +kernel
theorem dX2_insert_73 : decode cX2_insert 73 = .ok (.aload_n 0, 1) := by decide +kernel
theorem dX2_insert_74 : decode cX2_insert 74 = .ok (.getfield 25, 3) := by decide +kernel
theorem dX2_insert_77 : decode cX2_insert 77 = .ok (.iload 5, 2) := by decide +kernel
theorem dX2_insert_79 : decode cX2_insert 79 = .ok (.aload_n 0, 1) := by decide +kernel
theorem dX2_insert_80 : decode cX2_insert 80 = .ok (.getfield 25, 3) := by decide +kernel
theorem dX2_insert_83 : decode cX2_insert 83 = .ok (.iload 5, 2) := by decide +kernel
theorem dX2_insert_85 : decode cX2_insert 85 = .ok (.iconst 1, 1) := by decide +kernel
theorem dX2_insert_86 : decode cX2_insert 86 = .ok (.isub, 1) := by decide +kernel
theorem dX2_insert_87 : decode cX2_insert 87 = .ok (.laload, 1) := by decide +kernel
theorem dX2_insert_88 : decode cX2_insert 88 = .ok (.lastore, 1) := by decide +kernel
theorem dX2_insert_89 : decode cX2_insert 89 = .ok (.iinc 5 (-1), 3) := by decide +kernel
theorem dX2_insert_92 : decode cX2_insert 92 = .ok (.goto (-69), 3) := by decide +kernel
theorem dX2_insert_95 : decode cX2_insert 95 = .ok (.aload_n 0, 1) := by decide +kernel
theorem dX2_insert_96 : decode cX2_insert 96 = .ok (.getfield 18, 3) := by decide +kernel
theorem dX2_insert_99 : decode cX2_insert 99 = .ok (.iload 5, 2) := by decide +kernel
theorem dX2_insert_101 : decode cX2_insert 101 = .ok (.iload_n 1, 1) := by decide +kernel
theorem dX2_insert_102 : decode cX2_insert 102 = .ok (.iastore, 1) := by decide +kernel
theorem dX2_insert_103 : decode cX2_insert 103 = .ok (.aload_n 0, 1) := by decide +kernel
theorem dX2_insert_104 : decode cX2_insert 104 = .ok (.getfield 22, 3) := by decide +kernel
theorem dX2_insert_107 : decode cX2_insert 107 = .ok (.iload 5, 2) := by decide +kernel
theorem dX2_insert_109 : decode cX2_insert 109 = .ok (.iload_n 2, 1) := by decide +kernel
theorem dX2_insert_110 : decode cX2_insert 110 = .ok (.iastore, 1) := by decide +kernel
theorem dX2_insert_111 : decode cX2_insert 111 = .ok (.aload_n 0, 1) := by decide +kernel
theorem dX2_insert_112 : decode cX2_insert 112 = .ok (.getfield 25, 3) := by decide +kernel
theorem dX2_insert_115 : decode cX2_insert 115 = .ok (.iload 5, 2) := by decide +kernel
theorem dX2_insert_117 : decode cX2_insert 117 = .ok (.lload_n 3, 1) := by decide +kernel
theorem dX2_insert_118 : decode cX2_insert 118 = .ok (.lastore, 1) := by decide +kernel
theorem dX2_insert_119 : decode cX2_insert 119 = .ok (.aload_n 0, 1) := by decide +kernel
theorem dX2_insert_120 : decode cX2_insert 120 = .ok (.dup, 1) := by decide +kernel
theorem dX2_insert_121 : decode cX2_insert 121 = .ok (.getfield 36, 3) := by decide +kernel
theorem dX2_insert_124 : decode cX2_insert 124 = .ok (.iconst 1, 1) := by decide +kernel
theorem dX2_insert_125 : decode cX2_insert 125 = .ok (.iadd, 1) := by decide +kernel
theorem dX2_insert_126 : decode cX2_insert 126 = .ok (.putfield 36, 3) := by decide +kernel
theorem dX2_insert_129 : decode cX2_insert 129 = .ok (.return_, 1) := by decide +kernel
theorem dX2_hasGuess_0 : decode cX2_hasGuess 0 = .ok (.iload_n 1, 1) := by decide +kernel
theorem dX2_hasGuess_1 : decode cX2_hasGuess 1 = .ok (.ifCond .lt 21, 3) := by decide +kernel
theorem dX2_hasGuess_4 : decode cX2_hasGuess 4 = .ok (.iload_n 1, 1) := by decide +kernel
theorem dX2_hasGuess_5 : decode cX2_hasGuess 5 = .ok (.aload_n 0, 1) := by decide +kernel
theorem dX2_hasGuess_6 : decode cX2_hasGuess 6 = .ok (.getfield 36, 3) := by decide +kernel
theorem dX2_hasGuess_9 : decode cX2_hasGuess 9 = .ok (.if_icmp .ge 13, 3) := by decide +kernel
theorem dX2_hasGuess_12 : decode cX2_hasGuess 12 = .ok (.iload_n 1, 1) := by decide +kernel
theorem dX2_hasGuess_13 : decode cX2_hasGuess 13 = .ok (.bipush 40, 2) := by decide +kernel
theorem dX2_hasGuess_15 : decode cX2_hasGuess 15 = .ok (.if_icmp .ge 7, 3) := by decide +kernel
theorem dX2_hasGuess_18 : decode cX2_hasGuess 18 = .ok (.iconst 1, 1) := by decide +kernel
theorem dX2_hasGuess_19 : decode cX2_hasGuess 19 = .ok (.goto 4, 3) := by decide +kernel
theorem dX2_hasGuess_22 : decode cX2_hasGuess 22 = .ok (.iconst 0, 1) := by decide +kernel
theorem dX2_hasGuess_23 : decode cX2_hasGuess 23 = .ok (.ireturn, 1) := by decide +kernel
theorem dX2_pick_0 : decode cX2_pick 0 = .ok (.aload_n 0, 1) := by decide +kernel
theorem dX2_pick_1 : decode cX2_pick 1 = .ok (.iload_n 2, 1) := by decide +kernel
theorem dX2_pick_2 : decode cX2_pick 2 = .ok (.invokevirtual 67, 3) := by decide +kernel
theorem dX2_pick_5 : decode cX2_pick 5 = .ok (.ifCond .eq 38, 3) := by decide +kernel
theorem dX2_pick_8 : decode cX2_pick 8 = .ok (.aload_n 0, 1) := by decide +kernel
theorem dX2_pick_9 : decode cX2_pick 9 = .ok (.getfield 12, 3) := by decide +kernel
theorem dX2_pick_12 : decode cX2_pick 12 = .ok (.aload_n 1, 1) := by decide +kernel
theorem dX2_pick_13 : decode cX2_pick 13 = .ok (.aload_n 0, 1) := by decide +kernel
theorem dX2_pick_14 : decode cX2_pick 14 = .ok (.getfield 32, 3) := by decide +kernel
theorem dX2_pick_17 : decode cX2_pick 17 = .ok (.aload_n 0, 1) := by decide +kernel
theorem dX2_pick_18 : decode cX2_pick 18 = .ok (.getfield 18, 3) := by decide +kernel
theorem dX2_pick_21 : decode cX2_pick 21 = .ok (.iload_n 2, 1) := by decide +kernel
theorem dX2_pick_22 : decode cX2_pick 22 = .ok (.iaload, 1) := by decide +kernel
theorem dX2_pick_23 : decode cX2_pick 23 = .ok (.invokevirtual 45, 3) := by decide +kernel
theorem dX2_pick_26 : decode cX2_pick 26 = .ok (.aload_n 0, 1) := by decide +kernel
theorem dX2_pick_27 : decode cX2_pick 27 = .ok (.getfield 12, 3) := by decide +kernel
theorem dX2_pick_30 : decode cX2_pick 30 = .ok (.aload_n 1, 1) := by decide +kernel
theorem dX2_pick_31 : decode cX2_pick 31 = .ok (.getfield 49, 3) := by decide +kernel
theorem dX2_pick_34 : decode cX2_pick 34 = .ok (.aload_n 0, 1) := by decide +kernel
theorem dX2_pick_35 : decode cX2_pick 35 = .ok (.getfield 18, 3) := by decide +kernel
theorem dX2_pick_38 : decode cX2_pick 38 = .ok (.iload_n 2, 1) := by decide +kernel
theorem dX2_pick_39 : decode cX2_pick 39 = .ok (.iaload, 1) := by decide +kernel
theorem dX2_pick_40 : decode cX2_pick 40 = .ok (.invokevirtual 53, 3) := by decide +kernel
theorem dX2_pick_43 : decode cX2_pick 43 = .ok (.aload_n 0, 1) := by decide +kernel
theorem dX2_pick_44 : decode cX2_pick 44 = .ok (.getfield 12, 3) := by decide +kernel
theorem dX2_pick_47 : decode cX2_pick 47 = .ok (.areturn, 1) := by decide +kernel
theorem dX2_sum_0 : decode cX2_sum 0 = .ok (.iconst 0, 1) := by decide +kernel
theorem dX2_sum_1 : decode cX2_sum 1 = .ok (.istore_n 1, 1) := by decide +kernel
theorem dX2_sum_2 : decode cX2_sum 2 = .ok (.iconst 0, 1) := by decide +kernel
theorem dX2_sum_3 : decode cX2_sum 3 = .ok (.istore_n 2, 1) := by decide +kernel
theorem dX2_sum_4 : decode cX2_sum 4 = .ok (.iload_n 2, 1) := by decide +kernel
theorem dX2_sum_5 : decode cX2_sum 5 = .ok (.aload_n 0, 1) := by decide +kernel
theorem dX2_sum_6 : decode cX2_sum 6 = .ok (.getfield 36, 3) := by decide +kernel
theorem dX2_sum_9 : decode cX2_sum 9 = .ok (.if_icmp .ge 24, 3) := by decide +kernel
theorem dX2_sum_12 : decode cX2_sum 12 = .ok (.iload_n 2, 1) := by decide +kernel
theorem dX2_sum_13 : decode cX2_sum 13 = .ok (.bipush 40, 2) := by decide +kernel
theorem dX2_sum_15 : decode cX2_sum 15 = .ok (.if_icmp .ge 18, 3) := by decide +kernel
theorem dX2_sum_18 : decode cX2_sum 18 = .ok (.iload_n 1, 1) := by decide +kernel
theorem dX2_sum_19 : decode cX2_sum 19 = .ok (.aload_n 0, 1) := by decide +kernel
theorem dX2_sum_20 : decode cX2_sum 20 = .ok (.getfield 22, 3) := by decide +kernel
theorem dX2_sum_23 : decode cX2_sum 23 = .ok (.iload_n 2, 1) := by decide +kernel
theorem dX2_sum_24 : decode cX2_sum 24 = .ok (.iaload, 1) := by decide +kernel
theorem dX2_sum_25 : decode cX2_sum 25 = .ok (.iadd, 1) := by decide +kernel
theorem dX2_sum_26 : decode cX2_sum 26 = .ok (.istore_n 1, 1) := by decide +kernel
theorem dX2_sum_27 : decode cX2_sum 27 = .ok (.iinc 2 1, 3) := by decide +kernel
theorem dX2_sum_30 : decode cX2_sum 30 = .ok (.goto (-26), 3) := by decide +kernel
theorem dX2_sum_33 : decode cX2_sum 33 = .ok (.iload_n 1, 1) := by decide +kernel
theorem dX2_sum_34 : decode cX2_sum 34 = .ok (.ireturn, 1) := by decide +kernel
theorem dX2_withPage_0 : decode cX2_withPage 0 = .ok (.aload_n 0, 1) := by decide +kernel
theorem dX2_withPage_1 : decode cX2_withPage 1 = .ok (.lconst 1, 1) := by decide +kernel
theorem dX2_withPage_2 : decode cX2_withPage 2 = .ok (.iload_n 1, 1) := by decide +kernel
theorem dX2_withPage_3 : decode cX2_withPage 3 = .ok (.lshl, 1) := by decide +kernel
theorem dX2_withPage_4 : decode cX2_withPage 4 = .ok (.invokevirtual 71, 3) := by decide +kernel
theorem dX2_withPage_7 : decode cX2_withPage 7 = .ok (.ireturn, 1) := by decide +kernel
theorem dX2_sharingWith_0 : decode cX2_sharingWith 0 = .ok (.aload_n 0, 1) := by decide +kernel
theorem dX2_sharingWith_1 : decode cX2_sharingWith 1 = .ok (.iload_n 1, 1) := by decide +kernel
theorem dX2_sharingWith_2 : decode cX2_sharingWith 2 = .ok (.invokevirtual 67, 3) := by decide +kernel
theorem dX2_sharingWith_5 : decode cX2_sharingWith 5 = .ok (.ifCond .eq 18, 3) := by decide +kernel
theorem dX2_sharingWith_8 : decode cX2_sharingWith 8 = .ok (.aload_n 0, 1) := by decide +kernel
theorem dX2_sharingWith_9 : decode cX2_sharingWith 9 = .ok (.aload_n 0, 1) := by decide +kernel
theorem dX2_sharingWith_10 : decode cX2_sharingWith 10 = .ok (.getfield 25, 3) := by decide +kernel
theorem dX2_sharingWith_13 : decode cX2_sharingWith 13 = .ok (.iload_n 1, 1) := by decide +kernel
theorem dX2_sharingWith_14 : decode cX2_sharingWith 14 = .ok (.laload, 1) := by decide +kernel
theorem dX2_sharingWith_15 : decode cX2_sharingWith 15 = .ok (.invokevirtual 71, 3) := by decide +kernel
theorem dX2_sharingWith_18 : decode cX2_sharingWith 18 = .ok (.iconst 1, 1) := by decide +kernel
theorem dX2_sharingWith_19 : decode cX2_sharingWith 19 = .ok (.isub, 1) := by decide +kernel
theorem dX2_sharingWith_20 : decode cX2_sharingWith 20 = .ok (.goto 4, 3) := by decide +kernel
theorem dX2_sharingWith_23 : decode cX2_sharingWith 23 = .ok (.iconst 0, 1) := by decide +kernel
theorem dX2_sharingWith_24 : decode cX2_sharingWith 24 = .ok (.ireturn, 1) := by decide +kernel
theorem dX2_meeting_0 : decode cX2_meeting 0 = .ok (.iconst 0, 1) := by decide +kernel
theorem dX2_meeting_1 : decode cX2_meeting 1 = .ok (.istore_n 3, 1) := by decide +kernel
theorem dX2_meeting_2 : decode cX2_meeting 2 = .ok (.iconst 0, 1) := by decide +kernel
theorem dX2_meeting_3 : decode cX2_meeting 3 = .ok (.istore 4, 2) := by decide +kernel
theorem dX2_meeting_5 : decode cX2_meeting 5 = .ok (.iload 4, 2) := by decide +kernel
theorem dX2_meeting_7 : decode cX2_meeting 7 = .ok (.aload_n 0, 1) := by decide +kernel
theorem dX2_meeting_8 : decode cX2_meeting 8 = .ok (.getfield 36, 3) := by decide +kernel
theorem dX2_meeting_11 : decode cX2_meeting 11 = .ok (.if_icmp .ge 33, 3) := by decide +kernel
theorem dX2_meeting_14 : decode cX2_meeting 14 = .ok (.iload 4, 2) := by decide +kernel
theorem dX2_meeting_16 : decode cX2_meeting 16 = .ok (.bipush 40, 2) := by decide +kernel
theorem dX2_meeting_18 : decode cX2_meeting 18 = .ok (.if_icmp .ge 26, 3) := by decide +kernel
theorem dX2_meeting_21 : decode cX2_meeting 21 = .ok (.aload_n 0, 1) := by decide +kernel
theorem dX2_meeting_22 : decode cX2_meeting 22 = .ok (.getfield 25, 3) := by decide +kernel
theorem dX2_meeting_25 : decode cX2_meeting 25 = .ok (.iload 4, 2) := by decide +kernel
theorem dX2_meeting_27 : decode cX2_meeting 27 = .ok (.laload, 1) := by decide +kernel
theorem dX2_meeting_28 : decode cX2_meeting 28 = .ok (.lload_n 1, 1) := by decide +kernel
theorem dX2_meeting_29 : decode cX2_meeting 29 = .ok (.land, 1) := by decide +kernel
theorem dX2_meeting_30 : decode cX2_meeting 30 = .ok (.lconst 0, 1) := by decide +kernel
theorem dX2_meeting_31 : decode cX2_meeting 31 = .ok (.lcmp, 1) := by decide +kernel
theorem dX2_meeting_32 : decode cX2_meeting 32 = .ok (.ifCond .eq 6, 3) := by decide +kernel
theorem dX2_meeting_35 : decode cX2_meeting 35 = .ok (.iinc 3 1, 3) := by decide +kernel
theorem dX2_meeting_38 : decode cX2_meeting 38 = .ok (.iinc 4 1, 3) := by decide +kernel
theorem dX2_meeting_41 : decode cX2_meeting 41 = .ok (.goto (-36), 3) := by decide +kernel
theorem dX2_meeting_44 : decode cX2_meeting 44 = .ok (.iload_n 3, 1) := by decide +kernel
theorem dX2_meeting_45 : decode cX2_meeting 45 = .ok (.ireturn, 1) := by decide +kernel
theorem dX2_findBest_0 : decode cX2_findBest 0 = .ok (.aload_n 0, 1) := by decide +kernel
theorem dX2_findBest_1 : decode cX2_findBest 1 = .ok (.getfield 36, 3) := by decide +kernel
theorem dX2_findBest_4 : decode cX2_findBest 4 = .ok (.bipush 12, 2) := by decide +kernel
theorem dX2_findBest_6 : decode cX2_findBest 6 = .ok (.invokestatic 75, 3) := by decide +kernel
theorem dX2_findBest_9 : decode cX2_findBest 9 = .ok (.istore_n 1, 1) := by decide +kernel
theorem dX2_findBest_10 : decode cX2_findBest 10 = .ok (.iconst 0, 1) := by decide +kernel
theorem dX2_findBest_11 : decode cX2_findBest 11 = .ok (.istore_n 2, 1) := by decide +kernel
theorem dX2_findBest_12 : decode cX2_findBest 12 = .ok (.iload_n 2, 1) := by decide +kernel
theorem dX2_findBest_13 : decode cX2_findBest 13 = .ok (.iload_n 1, 1) := by decide +kernel
theorem dX2_findBest_14 : decode cX2_findBest 14 = .ok (.if_icmp .ge 21, 3) := by decide +kernel
theorem dX2_findBest_17 : decode cX2_findBest 17 = .ok (.aload_n 0, 1) := by decide +kernel
theorem dX2_findBest_18 : decode cX2_findBest 18 = .ok (.getfield 29, 3) := by decide +kernel
theorem dX2_findBest_21 : decode cX2_findBest 21 = .ok (.iload_n 2, 1) := by decide +kernel
theorem dX2_findBest_22 : decode cX2_findBest 22 = .ok (.aload_n 0, 1) := by decide +kernel
theorem dX2_findBest_23 : decode cX2_findBest 23 = .ok (.iload_n 2, 1) := by decide +kernel
theorem dX2_findBest_24 : decode cX2_findBest 24 = .ok (.iload_n 1, 1) := by decide +kernel
theorem dX2_findBest_25 : decode cX2_findBest 25 = .ok (.invokevirtual 81, 3) := by decide +kernel
theorem dX2_findBest_28 : decode cX2_findBest 28 = .ok (.iastore, 1) := by decide +kernel
theorem dX2_findBest_29 : decode cX2_findBest 29 = .ok (.iinc 2 1, 3) := by decide +kernel
theorem dX2_findBest_32 : decode cX2_findBest 32 = .ok (.goto (-20), 3) := by decide +kernel
theorem dX2_findBest_35 : decode cX2_findBest 35 = .ok (.aload_n 0, 1) := by decide +kernel
theorem dX2_findBest_36 : decode cX2_findBest 36 = .ok (.iconst 0, 1) := by decide +kernel
theorem dX2_findBest_37 : decode cX2_findBest 37 = .ok (.putfield 84, 3) := by decide +kernel
theorem dX2_findBest_40 : decode cX2_findBest 40 = .ok (.aload_n 0, 1) := by decide +kernel
theorem dX2_findBest_41 : decode cX2_findBest 41 = .ok (.iconst 0, 1) := by decide +kernel
theorem dX2_findBest_42 : decode cX2_findBest 42 = .ok (.putfield 87, 3) := by decide +kernel
theorem dX2_findBest_45 : decode cX2_findBest 45 = .ok (.aload_n 0, 1) := by decide +kernel
theorem dX2_findBest_46 : decode cX2_findBest 46 = .ok (.iload_n 1, 1) := by decide +kernel
theorem dX2_findBest_47 : decode cX2_findBest 47 = .ok (.iconst 1, 1) := by decide +kernel
theorem dX2_findBest_48 : decode cX2_findBest 48 = .ok (.isub, 1) := by decide +kernel
theorem dX2_findBest_49 : decode cX2_findBest 49 = .ok (.iconst 0, 1) := by decide +kernel
theorem dX2_findBest_50 : decode cX2_findBest 50 = .ok (.iconst 0, 1) := by decide +kernel
theorem dX2_findBest_51 : decode cX2_findBest 51 = .ok (.invokestatic 90, 3) := by decide +kernel
theorem dX2_findBest_54 : decode cX2_findBest 54 = .ok (.return_, 1) := by decide +kernel
theorem dX2_clashesOf_0 : decode cX2_clashesOf 0 = .ok (.iconst 0, 1) := by decide +kernel
theorem dX2_clashesOf_1 : decode cX2_clashesOf 1 = .ok (.istore_n 3, 1) := by decide +kernel
theorem dX2_clashesOf_2 : decode cX2_clashesOf 2 = .ok (.iconst 0, 1) := by decide +kernel
theorem dX2_clashesOf_3 : decode cX2_clashesOf 3 = .ok (.istore 4, 2) := by decide +kernel
theorem dX2_clashesOf_5 : decode cX2_clashesOf 5 = .ok (.iload 4, 2) := by decide +kernel
theorem dX2_clashesOf_7 : decode cX2_clashesOf 7 = .ok (.iload_n 2, 1) := by decide +kernel
theorem dX2_clashesOf_8 : decode cX2_clashesOf 8 = .ok (.if_icmp .ge 48, 3) := by decide +kernel
theorem dX2_clashesOf_11 : decode cX2_clashesOf 11 = .ok (.iload 4, 2) := by decide +kernel
theorem dX2_clashesOf_13 : decode cX2_clashesOf 13 = .ok (.bipush 40, 2) := by decide +kernel
theorem dX2_clashesOf_15 : decode cX2_clashesOf 15 = .ok (.if_icmp .ge 41, 3) := by decide +kernel
theorem dX2_clashesOf_18 : decode cX2_clashesOf 18 = .ok (.iload 4, 2) := by decide +kernel
theorem dX2_clashesOf_20 : decode cX2_clashesOf 20 = .ok (.iload_n 1, 1) := by decide +kernel
theorem dX2_clashesOf_21 : decode cX2_clashesOf 21 = .ok (.if_icmp .eq 29, 3) := by decide +kernel
theorem dX2_clashesOf_24 : decode cX2_clashesOf 24 = .ok (.aload_n 0, 1) := by decide +kernel
theorem dX2_clashesOf_25 : decode cX2_clashesOf 25 = .ok (.getfield 25, 3) := by decide +kernel
theorem dX2_clashesOf_28 : decode cX2_clashesOf 28 = .ok (.iload 4, 2) := by decide +kernel
theorem dX2_clashesOf_30 : decode cX2_clashesOf 30 = .ok (.laload, 1) := by decide +kernel
theorem dX2_clashesOf_31 : decode cX2_clashesOf 31 = .ok (.aload_n 0, 1) := by decide +kernel
theorem dX2_clashesOf_32 : decode cX2_clashesOf 32 = .ok (.getfield 25, 3) := by decide +kernel
theorem dX2_clashesOf_35 : decode cX2_clashesOf 35 = .ok (.iload_n 1, 1) := by decide +kernel
theorem dX2_clashesOf_36 : decode cX2_clashesOf 36 = .ok (.laload, 1) := by decide +kernel
theorem dX2_clashesOf_37 : decode cX2_clashesOf 37 = .ok (.land, 1) := by decide +kernel
theorem dX2_clashesOf_38 : decode cX2_clashesOf 38 = .ok (.lconst 0, 1) := by decide +kernel
theorem dX2_clashesOf_39 : decode cX2_clashesOf 39 = .ok (.lcmp, 1) := by decide +kernel
theorem dX2_clashesOf_40 : decode cX2_clashesOf 40 = .ok (.ifCond .eq 10, 3) := by decide +kernel
theorem dX2_clashesOf_43 : decode cX2_clashesOf 43 = .ok (.iload_n 3, 1) := by decide +kernel
theorem dX2_clashesOf_44 : decode cX2_clashesOf 44 = .ok (.iconst 1, 1) := by decide +kernel
theorem dX2_clashesOf_45 : decode cX2_clashesOf 45 = .ok (.iload 4, 2) := by decide +kernel
theorem dX2_clashesOf_47 : decode cX2_clashesOf 47 = .ok (.ishl, 1) := by decide +kernel
theorem dX2_clashesOf_48 : decode cX2_clashesOf 48 = .ok (.ior, 1) := by decide +kernel
theorem dX2_clashesOf_49 : decode cX2_clashesOf 49 = .ok (.istore_n 3, 1) := by decide +kernel
theorem dX2_clashesOf_50 : decode cX2_clashesOf 50 = .ok (.iinc 4 1, 3) := by decide +kernel
theorem dX2_clashesOf_53 : decode cX2_clashesOf 53 = .ok (.goto (-48), 3) := by decide +kernel
theorem dX2_clashesOf_56 : decode cX2_clashesOf 56 = .ok (.iload_n 3, 1) := by decide +kernel
theorem dX2_clashesOf_57 : decode cX2_clashesOf 57 = .ok (.ireturn, 1) := by decide +kernel
theorem dX2_decide_0 : decode cX2_decide 0 = .ok (.iload_n 1, 1) := by decide +kernel
theorem dX2_decide_1 : decode cX2_decide 1 = .ok (.ifCond .lt 9, 3) := by decide +kernel
theorem dX2_decide_4 : decode cX2_decide 4 = .ok (.iload_n 1, 1) := by decide +kernel
theorem dX2_decide_5 : decode cX2_decide 5 = .ok (.bipush 12, 2) := by decide +kernel
theorem dX2_decide_7 : decode cX2_decide 7 = .ok (.if_icmp .lt 22, 3) := by decide +kernel
theorem dX2_decide_10 : decode cX2_decide 10 = .ok (.iload_n 3, 1) := by decide +kernel
theorem dX2_decide_11 : decode cX2_decide 11 = .ok (.aload_n 0, 1) := by decide +kernel
theorem dX2_decide_12 : decode cX2_decide 12 = .ok (.getfield 87, 3) := by decide +kernel
theorem dX2_decide_15 : decode cX2_decide 15 = .ok (.if_icmp .le 13, 3) := by decide +kernel
theorem dX2_decide_18 : decode cX2_decide 18 = .ok (.aload_n 0, 1) := by decide +kernel
theorem dX2_decide_19 : decode cX2_decide 19 = .ok (.iload_n 3, 1) := by decide +kernel
theorem dX2_decide_20 : decode cX2_decide 20 = .ok (.putfield 87, 3) := by decide +kernel
theorem dX2_decide_23 : decode cX2_decide 23 = .ok (.aload_n 0, 1) := by decide +kernel
theorem dX2_decide_24 : decode cX2_decide 24 = .ok (.iload_n 2, 1) := by decide +kernel
theorem dX2_decide_25 : decode cX2_decide 25 = .ok (.putfield 84, 3) := by decide +kernel
theorem dX2_decide_28 : decode cX2_decide 28 = .ok (.return_, 1) := by decide +kernel
theorem dX2_decide_29 : decode cX2_decide 29 = .ok (.aload_n 0, 1) := by decide +kernel
theorem dX2_decide_30 : decode cX2_decide 30 = .ok (.getfield 22, 3) := by decide +kernel
theorem dX2_decide_33 : decode cX2_decide 33 = .ok (.iload_n 1, 1) := by decide +kernel
theorem dX2_decide_34 : decode cX2_decide 34 = .ok (.iaload, 1) := by decide +kernel
theorem dX2_decide_35 : decode cX2_decide 35 = .ok (.istore 4, 2) := by decide +kernel
theorem dX2_decide_37 : decode cX2_decide 37 = .ok (.iload 4, 2) := by decide +kernel
theorem dX2_decide_39 : decode cX2_decide 39 = .ok (.ifCond .le 12, 3) := by decide +kernel
theorem dX2_decide_42 : decode cX2_decide 42 = .ok (.aload_n 0, 1) := by decide +kernel
theorem dX2_decide_43 : decode cX2_decide 43 = .ok (.getfield 29, 3) := by decide +kernel
theorem dX2_decide_46 : decode cX2_decide 46 = .ok (.iload_n 1, 1) := by decide +kernel
theorem dX2_decide_47 : decode cX2_decide 47 = .ok (.iaload, 1) := by decide +kernel
theorem dX2_decide_48 : decode cX2_decide 48 = .ok (.ifCond .eq 12, 3) := by decide +kernel
theorem dX2_decide_51 : decode cX2_decide 51 = .ok (.aload_n 0, 1) := by decide +kernel
theorem dX2_decide_52 : decode cX2_decide 52 = .ok (.iload_n 1, 1) := by decide +kernel
theorem dX2_decide_53 : decode cX2_decide 53 = .ok (.iconst 1, 1) := by decide +kernel
theorem dX2_decide_54 : decode cX2_decide 54 = .ok (.isub, 1) := by decide +kernel
theorem dX2_decide_55 : decode cX2_decide 55 = .ok (.iload_n 2, 1) := by decide +kernel
theorem dX2_decide_56 : decode cX2_decide 56 = .ok (.iload_n 3, 1) := by decide +kernel
theorem dX2_decide_57 : decode cX2_decide 57 = .ok (.invokestatic 90, 3) := by decide +kernel
theorem dX2_decide_60 : decode cX2_decide 60 = .ok (.iload 4, 2) := by decide +kernel
theorem dX2_decide_62 : decode cX2_decide 62 = .ok (.ifCond .le 30, 3) := by decide +kernel
theorem dX2_decide_65 : decode cX2_decide 65 = .ok (.aload_n 0, 1) := by decide +kernel
theorem dX2_decide_66 : decode cX2_decide 66 = .ok (.getfield 29, 3) := by decide +kernel
theorem dX2_decide_69 : decode cX2_decide 69 = .ok (.iload_n 1, 1) := by decide +kernel
theorem dX2_decide_70 : decode cX2_decide 70 = .ok (.iaload, 1) := by decide +kernel
theorem dX2_decide_71 : decode cX2_decide 71 = .ok (.iload_n 2, 1) := by decide +kernel
theorem dX2_decide_72 : decode cX2_decide 72 = .ok (.iand, 1) := by decide +kernel
theorem dX2_decide_73 : decode cX2_decide 73 = .ok (.ifCond .ne 19, 3) := by decide +kernel
theorem dX2_decide_76 : decode cX2_decide 76 = .ok (.aload_n 0, 1) := by decide +kernel
theorem dX2_decide_77 : decode cX2_decide 77 = .ok (.iload_n 1, 1) := by decide +kernel
theorem dX2_decide_78 : decode cX2_decide 78 = .ok (.iconst 1, 1) := by decide +kernel
theorem dX2_decide_79 : decode cX2_decide 79 = .ok (.isub, 1) := by decide +kernel
theorem dX2_decide_80 : decode cX2_decide 80 = .ok (.iload_n 2, 1) := by decide +kernel
theorem dX2_decide_81 : decode cX2_decide 81 = .ok (.iconst 1, 1) := by decide +kernel
theorem dX2_decide_82 : decode cX2_decide 82 = .ok (.iload_n 1, 1) := by decide +kernel
theorem dX2_decide_83 : decode cX2_decide 83 = .ok (.ishl, 1) := by decide +kernel
theorem dX2_decide_84 : decode cX2_decide 84 = .ok (.ior, 1) := by decide +kernel
theorem dX2_decide_85 : decode cX2_decide 85 = .ok (.iload_n 3, 1) := by decide +kernel
theorem dX2_decide_86 : decode cX2_decide 86 = .ok (.iload 4, 2) := by decide +kernel
theorem dX2_decide_88 : decode cX2_decide 88 = .ok (.iadd, 1) := by decide +kernel
theorem dX2_decide_89 : decode cX2_decide 89 = .ok (.invokestatic 90, 3) := by decide +kernel
theorem dX2_decide_92 : decode cX2_decide 92 = .ok (.return_, 1) := by decide +kernel
theorem dX3_init_0 : decode cX3_init 0 = .ok (.aload_n 0, 1) := by decide +kernel
theorem dX3_init_1 : decode cX3_init 1 = .ok (.invokespecial 3, 3) := by decide +kernel
theorem dX3_init_4 : decode cX3_init 4 = .ok (.aload_n 0, 1) := by decide +kernel
theorem dX3_init_5 : decode cX3_init 5 = .ok (.iconst 5, 1) := by decide +kernel
theorem dX3_init_6 : decode cX3_init 6 = .ok (.anewarray 9, 3) := by decide +kernel
theorem dX3_init_9 : decode cX3_init 9 = .ok (.putfield 11, 3) := by decide +kernel
theorem dX3_init_12 : decode cX3_init 12 = .ok (.iconst 0, 1) := by decide +kernel
theorem dX3_init_13 : decode cX3_init 13 = .ok (.istore_n 1, 1) := by decide +kernel
theorem dX3_init_14 : decode cX3_init 14 = .ok (.iload_n 1, 1) := by decide +kernel
theorem dX3_init_15 : decode cX3_init 15 = .ok (.iconst 4, 1) := by decide +kernel
theorem dX3_init_16 : decode cX3_init 16 = .ok (.if_icmp .gt 22, 3) := by decide +kernel
theorem dX3_init_19 : decode cX3_init 19 = .ok (.aload_n 0, 1) := by decide +kernel
theorem dX3_init_20 : decode cX3_init 20 = .ok (.getfield 11, 3) := by decide +kernel
theorem dX3_init_23 : decode cX3_init 23 = .ok (.iload_n 1, 1) := by decide +kernel
theorem dX3_init_24 : decode cX3_init 24 = .ok (.new 9, 3) := by decide +kernel
theorem dX3_init_27 : decode cX3_init 27 = .ok (.dup, 1) := by decide +kernel
theorem dX3_init_28 : decode cX3_init 28 = .ok (.invokespecial 17, 3) := by decide +kernel
theorem dX3_init_31 : decode cX3_init 31 = .ok (.aastore, 1) := by decide +kernel
theorem dX3_init_32 : decode cX3_init 32 = .ok (.iinc 1 1, 3) := by decide +kernel
theorem dX3_init_35 : decode cX3_init 35 = .ok (.goto (-21), 3) := by decide +kernel
theorem dX3_init_38 : decode cX3_init 38 = .ok (.return_, 1) := by decide +kernel
theorem dX3_stateAt_0 : decode cX3_stateAt 0 = .ok (.iload_n 1, 1) := by decide +kernel
theorem dX3_stateAt_1 : decode cX3_stateAt 1 = .ok (.ifCond .lt 17, 3) := by decide +kernel
theorem dX3_stateAt_4 : decode cX3_stateAt 4 = .ok (.iload_n 1, 1) := by decide +kernel
theorem dX3_stateAt_5 : decode cX3_stateAt 5 = .ok (.iconst 4, 1) := by decide +kernel
theorem dX3_stateAt_6 : decode cX3_stateAt 6 = .ok (.if_icmp .gt 12, 3) := by decide +kernel
theorem dX3_stateAt_9 : decode cX3_stateAt 9 = .ok (.aload_n 0, 1) := by decide +kernel
theorem dX3_stateAt_10 : decode cX3_stateAt 10 = .ok (.getfield 11, 3) := by decide +kernel
theorem dX3_stateAt_13 : decode cX3_stateAt 13 = .ok (.iload_n 1, 1) := by decide +kernel
theorem dX3_stateAt_14 : decode cX3_stateAt 14 = .ok (.aaload, 1) := by decide +kernel
theorem dX3_stateAt_15 : decode cX3_stateAt 15 = .ok (.goto 4, 3) := by decide +kernel
theorem dX3_stateAt_18 : decode cX3_stateAt 18 = .ok (.aconst_null, 1) := by decide +kernel
theorem dX3_stateAt_19 : decode cX3_stateAt 19 = .ok (.areturn, 1) := by decide +kernel
theorem dX3_draft_0 : decode cX3_draft 0 = .ok (.aload_n 0, 1) := by decide +kernel
theorem dX3_draft_1 : decode cX3_draft 1 = .ok (.aload_n 0, 1) := by decide +kernel
theorem dX3_draft_2 : decode cX3_draft 2 = .ok (.getfield 18, 3) := by decide +kernel
theorem dX3_draft_5 : decode cX3_draft 5 = .ok (.invokevirtual 22, 3) := by decide +kernel
theorem dX3_draft_8 : decode cX3_draft 8 = .ok (.astore_n 2, 1) := by decide +kernel
theorem dX3_draft_9 : decode cX3_draft 9 = .ok (.aload_n 2, 1) := by decide +kernel
theorem dX3_draft_10 : decode cX3_draft 10 = .ok (.ifnull 8, 3) := by decide +kernel
theorem dX3_draft_13 : decode cX3_draft 13 = .ok (.aload_n 2, 1) := by decide +kernel
theorem dX3_draft_14 : decode cX3_draft 14 = .ok (.aload_n 1, 1) := by decide +kernel
theorem dX3_draft_15 : decode cX3_draft 15 = .ok (.invokevirtual 26, 3) := by decide +kernel
theorem dX3_draft_18 : decode cX3_draft 18 = .ok (.return_, 1) := by decide +kernel
theorem dX3_restoreDraft_0 : decode cX3_restoreDraft 0 = .ok (.aload_n 0, 1) := by decide +kernel
theorem dX3_restoreDraft_1 : decode cX3_restoreDraft 1 = .ok (.aload_n 0, 1) := by decide +kernel
theorem dX3_restoreDraft_2 : decode cX3_restoreDraft 2 = .ok (.getfield 18, 3) := by decide +kernel
theorem dX3_restoreDraft_5 : decode cX3_restoreDraft 5 = .ok (.invokevirtual 22, 3) := by decide +kernel
theorem dX3_restoreDraft_8 : decode cX3_restoreDraft 8 = .ok (.astore_n 2, 1) := by decide +kernel
theorem dX3_restoreDraft_9 : decode cX3_restoreDraft 9 = .ok (.aload_n 2, 1) := by decide +kernel
theorem dX3_restoreDraft_10 : decode cX3_restoreDraft 10 = .ok (.ifnull 8, 3) := by decide +kernel
theorem dX3_restoreDraft_13 : decode cX3_restoreDraft 13 = .ok (.aload_n 1, 1) := by decide +kernel
theorem dX3_restoreDraft_14 : decode cX3_restoreDraft 14 = .ok (.aload_n 2, 1) := by decide +kernel
theorem dX3_restoreDraft_15 : decode cX3_restoreDraft 15 = .ok (.invokevirtual 26, 3) := by decide +kernel
theorem dX3_restoreDraft_18 : decode cX3_restoreDraft 18 = .ok (.return_, 1) := by decide +kernel
theorem dX3_keepDraft_0 : decode cX3_keepDraft 0 = .ok (.aload_n 0, 1) := by decide +kernel
theorem dX3_keepDraft_1 : decode cX3_keepDraft 1 = .ok (.getfield 18, 3) := by decide +kernel
theorem dX3_keepDraft_4 : decode cX3_keepDraft 4 = .ok (.iconst 4, 1) := by decide +kernel
theorem dX3_keepDraft_5 : decode cX3_keepDraft 5 = .ok (.if_icmp .ge 14, 3) := by decide +kernel
theorem dX3_keepDraft_8 : decode cX3_keepDraft 8 = .ok (.aload_n 0, 1) := by decide +kernel
theorem dX3_keepDraft_9 : decode cX3_keepDraft 9 = .ok (.dup, 1) := by decide +kernel
theorem dX3_keepDraft_10 : decode cX3_keepDraft 10 = .ok (.getfield 18, 3) := by decide +kernel
theorem dX3_keepDraft_13 : decode cX3_keepDraft 13 = .ok (.iconst 1, 1) := by decide +kernel
theorem dX3_keepDraft_14 : decode cX3_keepDraft 14 = .ok (.iadd, 1) := by decide +kernel
theorem dX3_keepDraft_15 : decode cX3_keepDraft 15 = .ok (.putfield 18, 3) := by decide +kernel
theorem dX3_keepDraft_18 : decode cX3_keepDraft 18 = .ok (.return_, 1) := by decide +kernel
theorem dX3_keepDraft_19 : decode cX3_keepDraft 19 = .ok (.aload_n 0, 1) := by decide +kernel
theorem dX3_keepDraft_20 : decode cX3_keepDraft 20 = .ok (.getfield 11, 3) := by decide +kernel
theorem dX3_keepDraft_23 : decode cX3_keepDraft 23 = .ok (.iconst 0, 1) := by decide +kernel
theorem dX3_keepDraft_24 : decode cX3_keepDraft 24 = .ok (.aaload, 1) := by decide +kernel
theorem dX3_keepDraft_25 : decode cX3_keepDraft 25 = .ok (.astore_n 1, 1) := by decide +kernel
theorem dX3_keepDraft_26 : decode cX3_keepDraft 26 = .ok (.iconst 0, 1) := by decide +kernel
theorem dX3_keepDraft_27 : decode cX3_keepDraft 27 = .ok (.istore_n 2, 1) := by decide +kernel
theorem dX3_keepDraft_28 : decode cX3_keepDraft 28 = .ok (.iload_n 2, 1) := by decide +kernel
theorem dX3_keepDraft_29 : decode cX3_keepDraft 29 = .ok (.iconst 4, 1) := by decide +kernel
theorem dX3_keepDraft_30 : decode cX3_keepDraft 30 = .ok (.if_icmp .ge 23, 3) := by decide +kernel
theorem dX3_keepDraft_33 : decode cX3_keepDraft 33 = .ok (.aload_n 0, 1) := by decide +kernel
theorem dX3_keepDraft_34 : decode cX3_keepDraft 34 = .ok (.getfield 11, 3) := by decide +kernel
theorem dX3_keepDraft_37 : decode cX3_keepDraft 37 = .ok (.iload_n 2, 1) := by decide +kernel
theorem dX3_keepDraft_38 : decode cX3_keepDraft 38 = .ok (.aload_n 0, 1) := by decide +kernel
theorem dX3_keepDraft_39 : decode cX3_keepDraft 39 = .ok (.getfield 11, 3) := by decide +kernel
theorem dX3_keepDraft_42 : decode cX3_keepDraft 42 = .ok (.iload_n 2, 1) := by decide +kernel
theorem dX3_keepDraft_43 : decode cX3_keepDraft 43 = .ok (.iconst 1, 1) := by decide +kernel
theorem dX3_keepDraft_44 : decode cX3_keepDraft 44 = .ok (.iadd, 1) := by decide +kernel
theorem dX3_keepDraft_45 : decode cX3_keepDraft 45 = .ok (.aaload, 1) := by decide +kernel
theorem dX3_keepDraft_46 : decode cX3_keepDraft 46 = .ok (.aastore, 1) := by decide +kernel
theorem dX3_keepDraft_47 : decode cX3_keepDraft 47 = .ok (.iinc 2 1, 3) := by decide +kernel
theorem dX3_keepDraft_50 : decode cX3_keepDraft 50 = .ok (.goto (-22), 3) := by decide +kernel
theorem dX3_keepDraft_53 : decode cX3_keepDraft 53 = .ok (.aload_n 0, 1) := by decide +kernel
theorem dX3_keepDraft_54 : decode cX3_keepDraft 54 = .ok (.getfield 11, 3) := by decide +kernel
theorem dX3_keepDraft_57 : decode cX3_keepDraft 57 = .ok (.iconst 4, 1) := by decide +kernel
theorem dX3_keepDraft_58 : decode cX3_keepDraft 58 = .ok (.aload_n 1, 1) := by decide +kernel
theorem dX3_keepDraft_59 : decode cX3_keepDraft 59 = .ok (.aastore, 1) := by decide +kernel
theorem dX3_keepDraft_60 : decode cX3_keepDraft 60 = .ok (.return_, 1) := by decide +kernel
theorem dX3_takeBack_0 : decode cX3_takeBack 0 = .ok (.aload_n 0, 1) := by decide +kernel
theorem dX3_takeBack_1 : decode cX3_takeBack 1 = .ok (.getfield 18, 3) := by decide +kernel
theorem dX3_takeBack_4 : decode cX3_takeBack 4 = .ok (.ifCond .le 18, 3) := by decide +kernel
theorem dX3_takeBack_7 : decode cX3_takeBack 7 = .ok (.aload_n 0, 1) := by decide +kernel
theorem dX3_takeBack_8 : decode cX3_takeBack 8 = .ok (.dup, 1) := by decide +kernel
theorem dX3_takeBack_9 : decode cX3_takeBack 9 = .ok (.getfield 18, 3) := by decide +kernel
theorem dX3_takeBack_12 : decode cX3_takeBack 12 = .ok (.iconst 1, 1) := by decide +kernel
theorem dX3_takeBack_13 : decode cX3_takeBack 13 = .ok (.isub, 1) := by decide +kernel
theorem dX3_takeBack_14 : decode cX3_takeBack 14 = .ok (.putfield 18, 3) := by decide +kernel
theorem dX3_takeBack_17 : decode cX3_takeBack 17 = .ok (.aload_n 0, 1) := by decide +kernel
theorem dX3_takeBack_18 : decode cX3_takeBack 18 = .ok (.aload_n 1, 1) := by decide +kernel
theorem dX3_takeBack_19 : decode cX3_takeBack 19 = .ok (.invokevirtual 30, 3) := by decide +kernel
theorem dX3_takeBack_22 : decode cX3_takeBack 22 = .ok (.return_, 1) := by decide +kernel
theorem dX4_init_0 : decode cX4_init 0 = .ok (.aload_n 0, 1) := by decide +kernel
theorem dX4_init_1 : decode cX4_init 1 = .ok (.invokespecial 3, 3) := by decide +kernel
theorem dX4_init_4 : decode cX4_init 4 = .ok (.aload_n 0, 1) := by decide +kernel
theorem dX4_init_5 : decode cX4_init 5 = .ok (.bipush 6, 2) := by decide +kernel
theorem dX4_init_7 : decode cX4_init 7 = .ok (.newarray .int, 2) := by decide +kernel
theorem dX4_init_9 : decode cX4_init 9 = .ok (.putfield 9, 3) := by decide +kernel
theorem dX4_init_12 : decode cX4_init 12 = .ok (.aload_n 0, 1) := by decide +kernel
theorem dX4_init_13 : decode cX4_init 13 = .ok (.bipush 6, 2) := by decide +kernel
theorem dX4_init_15 : decode cX4_init 15 = .ok (.newarray .int, 2) := by decide +kernel
theorem dX4_init_17 : decode cX4_init 17 = .ok (.putfield 15, 3) := by decide +kernel
theorem dX4_init_20 : decode cX4_init 20 = .ok (.aload_n 0, 1) := by decide +kernel
theorem dX4_init_21 : decode cX4_init 21 = .ok (.bipush 6, 2) := by decide +kernel
theorem dX4_init_23 : decode cX4_init 23 = .ok (.newarray .int, 2) := by decide +kernel
theorem dX4_init_25 : decode cX4_init 25 = .ok (.putfield 18, 3) := by decide +kernel
theorem dX4_init_28 : decode cX4_init 28 = .ok (.return_, 1) := by decide +kernel
theorem dX4_empty_0 : decode cX4_empty 0 = .ok (.aload_n 0, 1) := by decide +kernel
theorem dX4_empty_1 : decode cX4_empty 1 = .ok (.iconst 0, 1) := by decide +kernel
theorem dX4_empty_2 : decode cX4_empty 2 = .ok (.putfield 21, 3) := by decide +kernel
theorem dX4_empty_5 : decode cX4_empty 5 = .ok (.return_, 1) := by decide +kernel
theorem dX4_copyFrom_0 : decode cX4_copyFrom 0 = .ok (.aload_n 1, 1) := by decide +kernel
theorem dX4_copyFrom_1 : decode cX4_copyFrom 1 = .ok (.getfield 9, 3) := by decide +kernel
theorem dX4_copyFrom_4 : decode cX4_copyFrom 4 = .ok (.iconst 0, 1) := by decide +kernel
theorem dX4_copyFrom_5 : decode cX4_copyFrom 5 = .ok (.aload_n 0, 1) := by decide +kernel
theorem dX4_copyFrom_6 : decode cX4_copyFrom 6 = .ok (.getfield 9, 3) := by decide +kernel
theorem dX4_copyFrom_9 : decode cX4_copyFrom 9 = .ok (.iconst 0, 1) := by decide +kernel
theorem dX4_copyFrom_10 : decode cX4_copyFrom 10 = .ok (.bipush 6, 2) := by decide +kernel
theorem dX4_copyFrom_12 : decode cX4_copyFrom 12 = .ok (.invokestatic 25, 3) := by decide +kernel
theorem dX4_copyFrom_15 : decode cX4_copyFrom 15 = .ok (.aload_n 1, 1) := by decide +kernel
theorem dX4_copyFrom_16 : decode cX4_copyFrom 16 = .ok (.getfield 15, 3) := by decide +kernel
theorem dX4_copyFrom_19 : decode cX4_copyFrom 19 = .ok (.iconst 0, 1) := by decide +kernel
theorem dX4_copyFrom_20 : decode cX4_copyFrom 20 = .ok (.aload_n 0, 1) := by decide +kernel
theorem dX4_copyFrom_21 : decode cX4_copyFrom 21 = .ok (.getfield 15, 3) := by decide +kernel
theorem dX4_copyFrom_24 : decode cX4_copyFrom 24 = .ok (.iconst 0, 1) := by decide +kernel
theorem dX4_copyFrom_25 : decode cX4_copyFrom 25 = .ok (.bipush 6, 2) := by decide +kernel
theorem dX4_copyFrom_27 : decode cX4_copyFrom 27 = .ok (.invokestatic 25, 3) := by decide +kernel
theorem dX4_copyFrom_30 : decode cX4_copyFrom 30 = .ok (.aload_n 1, 1) := by decide +kernel
theorem dX4_copyFrom_31 : decode cX4_copyFrom 31 = .ok (.getfield 18, 3) := by decide +kernel
theorem dX4_copyFrom_34 : decode cX4_copyFrom 34 = .ok (.iconst 0, 1) := by decide +kernel
theorem dX4_copyFrom_35 : decode cX4_copyFrom 35 = .ok (.aload_n 0, 1) := by decide +kernel
theorem dX4_copyFrom_36 : decode cX4_copyFrom 36 = .ok (.getfield 18, 3) := by decide +kernel
theorem dX4_copyFrom_39 : decode cX4_copyFrom 39 = .ok (.iconst 0, 1) := by decide +kernel
theorem dX4_copyFrom_40 : decode cX4_copyFrom 40 = .ok (.bipush 6, 2) := by decide +kernel
theorem dX4_copyFrom_42 : decode cX4_copyFrom 42 = .ok (.invokestatic 25, 3) := by decide +kernel
theorem dX4_copyFrom_45 : decode cX4_copyFrom 45 = .ok (.aload_n 0, 1) := by decide +kernel
theorem dX4_copyFrom_46 : decode cX4_copyFrom 46 = .ok (.aload_n 1, 1) := by decide +kernel
theorem dX4_copyFrom_47 : decode cX4_copyFrom 47 = .ok (.getfield 21, 3) := by decide +kernel
theorem dX4_copyFrom_50 : decode cX4_copyFrom 50 = .ok (.putfield 21, 3) := by decide +kernel
theorem dX4_copyFrom_53 : decode cX4_copyFrom 53 = .ok (.return_, 1) := by decide +kernel
theorem dX4_enter_0 : decode cX4_enter 0 = .ok (.iconst 5, 1) := by decide +kernel
theorem dX4_enter_1 : decode cX4_enter 1 = .ok (.istore 4, 2) := by decide +kernel
theorem dX4_enter_3 : decode cX4_enter 3 = .ok (.iload 4, 2) := by decide +kernel
theorem dX4_enter_5 : decode cX4_enter 5 = .ok (.ifCond .le 57, 3) := by decide +kernel
theorem dX4_enter_8 : decode cX4_enter 8 = .ok (.aload_n 0, 1) := by decide +kernel
theorem dX4_enter_9 : decode cX4_enter 9 = .ok (.getfield 9, 3) := by decide +kernel
theorem dX4_enter_12 : decode cX4_enter 12 = .ok (.iload 4, 2) := by decide +kernel
theorem dX4_enter_14 : decode cX4_enter 14 = .ok (.aload_n 0, 1) := by decide +kernel
theorem dX4_enter_15 : decode cX4_enter 15 = .ok (.getfield 9, 3) := by decide +kernel
theorem dX4_enter_18 : decode cX4_enter 18 = .ok (.iload 4, 2) := by decide +kernel
theorem dX4_enter_20 : decode cX4_enter 20 = .ok (.iconst 1, 1) := by decide +kernel
theorem dX4_enter_21 : decode cX4_enter 21 = .ok (.isub, 1) := by decide +kernel
theorem dX4_enter_22 : decode cX4_enter 22 = .ok (.iaload, 1) := by decide +kernel
theorem dX4_enter_23 : decode cX4_enter 23 = .ok (.iastore, 1) := by decide +kernel
theorem dX4_enter_24 : decode cX4_enter 24 = .ok (.aload_n 0, 1) := by decide +kernel
theorem dX4_enter_25 : decode cX4_enter 25 = .ok (.getfield 15, 3) := by decide +kernel
theorem dX4_enter_28 : decode cX4_enter 28 = .ok (.iload 4, 2) := by decide +kernel
theorem dX4_enter_30 : decode cX4_enter 30 = .ok (.aload_n 0, 1) := by decide +kernel
theorem dX4_enter_31 : decode cX4_enter 31 = .ok (.getfield 15, 3) := by decide +kernel
theorem dX4_enter_34 : decode cX4_enter 34 = .ok (.iload 4, 2) := by decide +kernel
theorem dX4_enter_36 : decode cX4_enter 36 = .ok (.iconst 1, 1) := by decide +kernel
theorem dX4_enter_37 : decode cX4_enter 37 = .ok (.isub, 1) := by decide +kernel
theorem dX4_enter_38 : decode cX4_enter 38 = .ok (.iaload, 1) := by decide +kernel
theorem dX4_enter_39 : decode cX4_enter 39 = .ok (.iastore, 1) := by decide +kernel
theorem dX4_enter_40 : decode cX4_enter 40 = .ok (.aload_n 0, 1) := by decide +kernel
theorem dX4_enter_41 : decode cX4_enter 41 = .ok (.getfield 18, 3) := by decide +kernel
theorem dX4_enter_44 : decode cX4_enter 44 = .ok (.iload 4, 2) := by decide +kernel
theorem dX4_enter_46 : decode cX4_enter 46 = .ok (.aload_n 0, 1) := by decide +kernel
theorem dX4_enter_47 : decode cX4_enter 47 = .ok (.getfield 18, 3) := by decide +kernel
theorem dX4_enter_50 : decode cX4_enter 50 = .ok (.iload 4, 2) := by decide +kernel
theorem dX4_enter_52 : decode cX4_enter 52 = .ok (.iconst 1, 1) := by decide +kernel
theorem dX4_enter_53 : decode cX4_enter 53 = .ok (.isub, 1) := by decide +kernel
theorem dX4_enter_54 : decode cX4_enter 54 = .ok (.iaload, 1) := by decide +kernel
theorem dX4_enter_55 : decode cX4_enter 55 = .ok (.iastore, 1) := by decide +kernel
theorem dX4_enter_56 : decode cX4_enter 56 = .ok (.iinc 4 (-1), 3) := by decide +kernel
theorem dX4_enter_59 : decode cX4_enter 59 = .ok (.goto (-56), 3) := by decide +kernel
theorem dX4_enter_62 : decode cX4_enter 62 = .ok (.aload_n 0, 1) := by decide +kernel
theorem dX4_enter_63 : decode cX4_enter 63 = .ok (.getfield 9, 3) := by decide +kernel
theorem dX4_enter_66 : decode cX4_enter 66 = .ok (.iconst 0, 1) := by decide +kernel
theorem dX4_enter_67 : decode cX4_enter 67 = .ok (.iload_n 1, 1) := by decide +kernel
theorem dX4_enter_68 : decode cX4_enter 68 = .ok (.iastore, 1) := by decide +kernel
theorem dX4_enter_69 : decode cX4_enter 69 = .ok (.aload_n 0, 1) := by decide +kernel
theorem dX4_enter_70 : decode cX4_enter 70 = .ok (.getfield 15, 3) := by decide +kernel
theorem dX4_enter_73 : decode cX4_enter 73 = .ok (.iconst 0, 1) := by decide +kernel
theorem dX4_enter_74 : decode cX4_enter 74 = .ok (.iload_n 2, 1) := by decide +kernel
theorem dX4_enter_75 : decode cX4_enter 75 = .ok (.iastore, 1) := by decide +kernel
theorem dX4_enter_76 : decode cX4_enter 76 = .ok (.aload_n 0, 1) := by decide +kernel
theorem dX4_enter_77 : decode cX4_enter 77 = .ok (.getfield 18, 3) := by decide +kernel
theorem dX4_enter_80 : decode cX4_enter 80 = .ok (.iconst 0, 1) := by decide +kernel
theorem dX4_enter_81 : decode cX4_enter 81 = .ok (.iload_n 3, 1) := by decide +kernel
theorem dX4_enter_82 : decode cX4_enter 82 = .ok (.iastore, 1) := by decide +kernel
theorem dX4_enter_83 : decode cX4_enter 83 = .ok (.aload_n 0, 1) := by decide +kernel
theorem dX4_enter_84 : decode cX4_enter 84 = .ok (.aload_n 0, 1) := by decide +kernel
theorem dX4_enter_85 : decode cX4_enter 85 = .ok (.getfield 21, 3) := by decide +kernel
theorem dX4_enter_88 : decode cX4_enter 88 = .ok (.iconst 1, 1) := by decide +kernel
theorem dX4_enter_89 : decode cX4_enter 89 = .ok (.iadd, 1) := by decide +kernel
theorem dX4_enter_90 : decode cX4_enter 90 = .ok (.bipush 6, 2) := by decide +kernel
theorem dX4_enter_92 : decode cX4_enter 92 = .ok (.invokestatic 31, 3) := by decide +kernel
theorem dX4_enter_95 : decode cX4_enter 95 = .ok (.putfield 21, 3) := by decide +kernel
theorem dX4_enter_98 : decode cX4_enter 98 = .ok (.return_, 1) := by decide +kernel
theorem dX4_nameAt_0 : decode cX4_nameAt 0 = .ok (.iload_n 1, 1) := by decide +kernel
theorem dX4_nameAt_1 : decode cX4_nameAt 1 = .ok (.ifCond .lt 26, 3) := by decide +kernel
theorem dX4_nameAt_4 : decode cX4_nameAt 4 = .ok (.iload_n 1, 1) := by decide +kernel
theorem dX4_nameAt_5 : decode cX4_nameAt 5 = .ok (.aload_n 0, 1) := by decide +kernel
theorem dX4_nameAt_6 : decode cX4_nameAt 6 = .ok (.getfield 21, 3) := by decide +kernel
theorem dX4_nameAt_9 : decode cX4_nameAt 9 = .ok (.if_icmp .ge 18, 3) := by decide +kernel
theorem dX4_nameAt_12 : decode cX4_nameAt 12 = .ok (.iload_n 1, 1) := by decide +kernel
theorem dX4_nameAt_13 : decode cX4_nameAt 13 = .ok (.bipush 6, 2) := by decide +kernel
theorem dX4_nameAt_15 : decode cX4_nameAt 15 = .ok (.if_icmp .ge 12, 3) := by decide +kernel
theorem dX4_nameAt_18 : decode cX4_nameAt 18 = .ok (.aload_n 0, 1) := by decide +kernel
theorem dX4_nameAt_19 : decode cX4_nameAt 19 = .ok (.getfield 9, 3) := by decide +kernel
theorem dX4_nameAt_22 : decode cX4_nameAt 22 = .ok (.iload_n 1, 1) := by decide +kernel
theorem dX4_nameAt_23 : decode cX4_nameAt 23 = .ok (.iaload, 1) := by decide +kernel
theorem dX4_nameAt_24 : decode cX4_nameAt 24 = .ok (.goto 4, 3) := by decide +kernel
theorem dX4_nameAt_27 : decode cX4_nameAt 27 = .ok (.iconst (-1), 1) := by decide +kernel
theorem dX4_nameAt_28 : decode cX4_nameAt 28 = .ok (.ireturn, 1) := by decide +kernel
theorem dX4_firstAt_0 : decode cX4_firstAt 0 = .ok (.iload_n 1, 1) := by decide +kernel
theorem dX4_firstAt_1 : decode cX4_firstAt 1 = .ok (.ifCond .lt 26, 3) := by decide +kernel
theorem dX4_firstAt_4 : decode cX4_firstAt 4 = .ok (.iload_n 1, 1) := by decide +kernel
theorem dX4_firstAt_5 : decode cX4_firstAt 5 = .ok (.aload_n 0, 1) := by decide +kernel
theorem dX4_firstAt_6 : decode cX4_firstAt 6 = .ok (.getfield 21, 3) := by decide +kernel
theorem dX4_firstAt_9 : decode cX4_firstAt 9 = .ok (.if_icmp .ge 18, 3) := by decide +kernel
theorem dX4_firstAt_12 : decode cX4_firstAt 12 = .ok (.iload_n 1, 1) := by decide +kernel
theorem dX4_firstAt_13 : decode cX4_firstAt 13 = .ok (.bipush 6, 2) := by decide +kernel
theorem dX4_firstAt_15 : decode cX4_firstAt 15 = .ok (.if_icmp .ge 12, 3) := by decide +kernel
theorem dX4_firstAt_18 : decode cX4_firstAt 18 = .ok (.aload_n 0, 1) := by decide +kernel
theorem dX4_firstAt_19 : decode cX4_firstAt 19 = .ok (.getfield 15, 3) := by decide +kernel
theorem dX4_firstAt_22 : decode cX4_firstAt 22 = .ok (.iload_n 1, 1) := by decide +kernel
theorem dX4_firstAt_23 : decode cX4_firstAt 23 = .ok (.iaload, 1) := by decide +kernel
theorem dX4_firstAt_24 : decode cX4_firstAt 24 = .ok (.goto 4, 3) := by decide +kernel
theorem dX4_firstAt_27 : decode cX4_firstAt 27 = .ok (.iconst (-1), 1) := by decide +kernel
theorem dX4_firstAt_28 : decode cX4_firstAt 28 = .ok (.ireturn, 1) := by decide +kernel
theorem dX4_styleAt_0 : decode cX4_styleAt 0 = .ok (.iload_n 1, 1) := by decide +kernel
theorem dX4_styleAt_1 : decode cX4_styleAt 1 = .ok (.ifCond .lt 26, 3) := by decide +kernel
theorem dX4_styleAt_4 : decode cX4_styleAt 4 = .ok (.iload_n 1, 1) := by decide +kernel
theorem dX4_styleAt_5 : decode cX4_styleAt 5 = .ok (.aload_n 0, 1) := by decide +kernel
theorem dX4_styleAt_6 : decode cX4_styleAt 6 = .ok (.getfield 21, 3) := by decide +kernel
theorem dX4_styleAt_9 : decode cX4_styleAt 9 = .ok (.if_icmp .ge 18, 3) := by decide +kernel
theorem dX4_styleAt_12 : decode cX4_styleAt 12 = .ok (.iload_n 1, 1) := by decide +kernel
theorem dX4_styleAt_13 : decode cX4_styleAt 13 = .ok (.bipush 6, 2) := by decide +kernel
theorem dX4_styleAt_15 : decode cX4_styleAt 15 = .ok (.if_icmp .ge 12, 3) := by decide +kernel
theorem dX4_styleAt_18 : decode cX4_styleAt 18 = .ok (.aload_n 0, 1) := by decide +kernel
theorem dX4_styleAt_19 : decode cX4_styleAt 19 = .ok (.getfield 18, 3) := by decide +kernel
theorem dX4_styleAt_22 : decode cX4_styleAt 22 = .ok (.iload_n 1, 1) := by decide +kernel
theorem dX4_styleAt_23 : decode cX4_styleAt 23 = .ok (.iaload, 1) := by decide +kernel
theorem dX4_styleAt_24 : decode cX4_styleAt 24 = .ok (.goto 4, 3) := by decide +kernel
theorem dX4_styleAt_27 : decode cX4_styleAt 27 = .ok (.iconst (-1), 1) := by decide +kernel
theorem dX4_styleAt_28 : decode cX4_styleAt 28 = .ok (.ireturn, 1) := by decide +kernel
theorem dX4_latestWith_0 : decode cX4_latestWith 0 = .ok (.iconst 0, 1) := by decide +kernel
theorem dX4_latestWith_1 : decode cX4_latestWith 1 = .ok (.istore_n 3, 1) := by decide +kernel
theorem dX4_latestWith_2 : decode cX4_latestWith 2 = .ok (.iload_n 3, 1) := by decide +kernel
theorem dX4_latestWith_3 : decode cX4_latestWith 3 = .ok (.aload_n 0, 1) := by decide +kernel
theorem dX4_latestWith_4 : decode cX4_latestWith 4 = .ok (.getfield 21, 3) := by decide +kernel
theorem dX4_latestWith_7 : decode cX4_latestWith 7 = .ok (.if_icmp .ge 37, 3) := by decide +kernel
theorem dX4_latestWith_10 : decode cX4_latestWith 10 = .ok (.iload_n 3, 1) := by decide +kernel
theorem dX4_latestWith_11 : decode cX4_latestWith 11 = .ok (.bipush 6, 2) := by decide +kernel
theorem dX4_latestWith_13 : decode cX4_latestWith 13 = .ok (.if_icmp .ge 31, 3) := by decide +kernel
theorem dX4_latestWith_16 : decode cX4_latestWith 16 = .ok (.aload_n 0, 1) := by decide +kernel
theorem dX4_latestWith_17 : decode cX4_latestWith 17 = .ok (.getfield 15, 3) := by decide +kernel
theorem dX4_latestWith_20 : decode cX4_latestWith 20 = .ok (.iload_n 3, 1) := by decide +kernel
theorem dX4_latestWith_21 : decode cX4_latestWith 21 = .ok (.iaload, 1) := by decide +kernel
theorem dX4_latestWith_22 : decode cX4_latestWith 22 = .ok (.iload_n 1, 1) := by decide +kernel
