theorem dX4_latestWith_23 : decode cX4_latestWith 23 = .ok (.if_icmp .ne 15, 3) := by decide +kernel
theorem dX4_latestWith_26 : decode cX4_latestWith 26 = .ok (.aload_n 0, 1) := by decide +kernel
theorem dX4_latestWith_27 : decode cX4_latestWith 27 = .ok (.getfield 18, 3) := by decide +kernel
theorem dX4_latestWith_30 : decode cX4_latestWith 30 = .ok (.iload_n 3, 1) := by decide +kernel
theorem dX4_latestWith_31 : decode cX4_latestWith 31 = .ok (.iaload, 1) := by decide +kernel
theorem dX4_latestWith_32 : decode cX4_latestWith 32 = .ok (.iload_n 2, 1) := by decide +kernel
theorem dX4_latestWith_33 : decode cX4_latestWith 33 = .ok (.if_icmp .ne 5, 3) := by decide +kernel
theorem dX4_latestWith_36 : decode cX4_latestWith 36 = .ok (.iload_n 3, 1) := by decide +kernel
theorem dX4_latestWith_37 : decode cX4_latestWith 37 = .ok (.ireturn, 1) := by decide +kernel
theorem dX4_latestWith_38 : decode cX4_latestWith 38 = .ok (.iinc 3 1, 3) := by decide +kernel
theorem dX4_latestWith_41 : decode cX4_latestWith 41 = .ok (.goto (-39), 3) := by decide +kernel
theorem dX4_latestWith_44 : decode cX4_latestWith 44 = .ok (.iconst (-1), 1) := by decide +kernel
theorem dX4_latestWith_45 : decode cX4_latestWith 45 = .ok (.ireturn, 1) := by decide +kernel
theorem dX4_latestOfStyle_0 : decode cX4_latestOfStyle 0 = .ok (.iconst 0, 1) := by decide +kernel
theorem dX4_latestOfStyle_1 : decode cX4_latestOfStyle 1 = .ok (.istore_n 2, 1) := by decide +kernel
theorem dX4_latestOfStyle_2 : decode cX4_latestOfStyle 2 = .ok (.iload_n 2, 1) := by decide +kernel
theorem dX4_latestOfStyle_3 : decode cX4_latestOfStyle 3 = .ok (.aload_n 0, 1) := by decide +kernel
theorem dX4_latestOfStyle_4 : decode cX4_latestOfStyle 4 = .ok (.getfield 21, 3) := by decide +kernel
theorem dX4_latestOfStyle_7 : decode cX4_latestOfStyle 7 = .ok (.if_icmp .ge 27, 3) := by decide +kernel
theorem dX4_latestOfStyle_10 : decode cX4_latestOfStyle 10 = .ok (.iload_n 2, 1) := by decide +kernel
theorem dX4_latestOfStyle_11 : decode cX4_latestOfStyle 11 = .ok (.bipush 6, 2) := by decide +kernel
theorem dX4_latestOfStyle_13 : decode cX4_latestOfStyle 13 = .ok (.if_icmp .ge 21, 3) := by decide +kernel
theorem dX4_latestOfStyle_16 : decode cX4_latestOfStyle 16 = .ok (.aload_n 0, 1) := by decide +kernel
theorem dX4_latestOfStyle_17 : decode cX4_latestOfStyle 17 = .ok (.getfield 18, 3) := by decide +kernel
theorem dX4_latestOfStyle_20 : decode cX4_latestOfStyle 20 = .ok (.iload_n 2, 1) := by decide +kernel
theorem dX4_latestOfStyle_21 : decode cX4_latestOfStyle 21 = .ok (.iaload, 1) := by decide +kernel
theorem dX4_latestOfStyle_22 : decode cX4_latestOfStyle 22 = .ok (.iload_n 1, 1) := by decide +kernel
theorem dX4_latestOfStyle_23 : decode cX4_latestOfStyle 23 = .ok (.if_icmp .ne 5, 3) := by decide +kernel
theorem dX4_latestOfStyle_26 : decode cX4_latestOfStyle 26 = .ok (.iload_n 2, 1) := by decide +kernel
theorem dX4_latestOfStyle_27 : decode cX4_latestOfStyle 27 = .ok (.ireturn, 1) := by decide +kernel
theorem dX4_latestOfStyle_28 : decode cX4_latestOfStyle 28 = .ok (.iinc 2 1, 3) := by decide +kernel
theorem dX4_latestOfStyle_31 : decode cX4_latestOfStyle 31 = .ok (.goto (-29), 3) := by decide +kernel
theorem dX4_latestOfStyle_34 : decode cX4_latestOfStyle 34 = .ok (.iconst (-1), 1) := by decide +kernel
theorem dX4_latestOfStyle_35 : decode cX4_latestOfStyle 35 = .ok (.ireturn, 1) := by decide +kernel
theorem dX5_init_0 : decode cX5_init 0 = .ok (.aload_n 0, 1) := by decide +kernel
theorem dX5_init_1 : decode cX5_init 1 = .ok (.invokespecial 3, 3) := by decide +kernel
theorem dX5_init_4 : decode cX5_init 4 = .ok (.aload_n 0, 1) := by decide +kernel
theorem dX5_init_5 : decode cX5_init 5 = .ok (.bipush 12, 2) := by decide +kernel
theorem dX5_init_7 : decode cX5_init 7 = .ok (.newarray .int, 2) := by decide +kernel
theorem dX5_init_9 : decode cX5_init 9 = .ok (.putfield 9, 3) := by decide +kernel
theorem dX5_init_12 : decode cX5_init 12 = .ok (.return_, 1) := by decide +kernel
theorem dX5_empty_0 : decode cX5_empty 0 = .ok (.aload_n 0, 1) := by decide +kernel
theorem dX5_empty_1 : decode cX5_empty 1 = .ok (.iconst 0, 1) := by decide +kernel
theorem dX5_empty_2 : decode cX5_empty 2 = .ok (.putfield 15, 3) := by decide +kernel
theorem dX5_empty_5 : decode cX5_empty 5 = .ok (.return_, 1) := by decide +kernel
theorem dX5_add_0 : decode cX5_add 0 = .ok (.aload_n 0, 1) := by decide +kernel
theorem dX5_add_1 : decode cX5_add 1 = .ok (.getfield 15, 3) := by decide +kernel
theorem dX5_add_4 : decode cX5_add 4 = .ok (.ifCond .lt 32, 3) := by decide +kernel
theorem dX5_add_7 : decode cX5_add 7 = .ok (.aload_n 0, 1) := by decide +kernel
theorem dX5_add_8 : decode cX5_add 8 = .ok (.getfield 15, 3) := by decide +kernel
theorem dX5_add_11 : decode cX5_add 11 = .ok (.bipush 12, 2) := by decide +kernel
theorem dX5_add_13 : decode cX5_add 13 = .ok (.if_icmp .ge 23, 3) := by decide +kernel
theorem dX5_add_16 : decode cX5_add 16 = .ok (.aload_n 0, 1) := by decide +kernel
theorem dX5_add_17 : decode cX5_add 17 = .ok (.getfield 9, 3) := by decide +kernel
theorem dX5_add_20 : decode cX5_add 20 = .ok (.aload_n 0, 1) := by decide +kernel
theorem dX5_add_21 : decode cX5_add 21 = .ok (.getfield 15, 3) := by decide +kernel
theorem dX5_add_24 : decode cX5_add 24 = .ok (.iload_n 1, 1) := by decide +kernel
theorem dX5_add_25 : decode cX5_add 25 = .ok (.iastore, 1) := by decide +kernel
theorem dX5_add_26 : decode cX5_add 26 = .ok (.aload_n 0, 1) := by decide +kernel
theorem dX5_add_27 : decode cX5_add 27 = .ok (.dup, 1) := by decide +kernel
theorem dX5_add_28 : decode cX5_add 28 = .ok (.getfield 15, 3) := by decide +kernel
theorem dX5_add_31 : decode cX5_add 31 = .ok (.iconst 1, 1) := by decide +kernel
theorem dX5_add_32 : decode cX5_add 32 = .ok (.iadd, 1) := by decide +kernel
theorem dX5_add_33 : decode cX5_add 33 = .ok (.putfield 15, 3) := by decide +kernel
theorem dX5_add_36 : decode cX5_add 36 = .ok (.return_, 1) := by decide +kernel
theorem dX5_at_0 : decode cX5_at 0 = .ok (.iload_n 1, 1) := by decide +kernel
theorem dX5_at_1 : decode cX5_at 1 = .ok (.ifCond .lt 26, 3) := by decide +kernel
theorem dX5_at_4 : decode cX5_at 4 = .ok (.iload_n 1, 1) := by decide +kernel
theorem dX5_at_5 : decode cX5_at 5 = .ok (.aload_n 0, 1) := by decide +kernel
theorem dX5_at_6 : decode cX5_at 6 = .ok (.getfield 15, 3) := by decide +kernel
theorem dX5_at_9 : decode cX5_at 9 = .ok (.if_icmp .ge 18, 3) := by decide +kernel
theorem dX5_at_12 : decode cX5_at 12 = .ok (.iload_n 1, 1) := by decide +kernel
theorem dX5_at_13 : decode cX5_at 13 = .ok (.bipush 12, 2) := by decide +kernel
theorem dX5_at_15 : decode cX5_at 15 = .ok (.if_icmp .ge 12, 3) := by decide +kernel
theorem dX5_at_18 : decode cX5_at 18 = .ok (.aload_n 0, 1) := by decide +kernel
theorem dX5_at_19 : decode cX5_at 19 = .ok (.getfield 9, 3) := by decide +kernel
theorem dX5_at_22 : decode cX5_at 22 = .ok (.iload_n 1, 1) := by decide +kernel
theorem dX5_at_23 : decode cX5_at 23 = .ok (.iaload, 1) := by decide +kernel
theorem dX5_at_24 : decode cX5_at 24 = .ok (.goto 4, 3) := by decide +kernel
theorem dX5_at_27 : decode cX5_at 27 = .ok (.iconst (-1), 1) := by decide +kernel
theorem dX5_at_28 : decode cX5_at 28 = .ok (.ireturn, 1) := by decide +kernel
theorem dX5_set_0 : decode cX5_set 0 = .ok (.lconst 0, 1) := by decide +kernel
theorem dX5_set_1 : decode cX5_set 1 = .ok (.lstore_n 1, 1) := by decide +kernel
theorem dX5_set_2 : decode cX5_set 2 = .ok (.iconst 0, 1) := by decide +kernel
theorem dX5_set_3 : decode cX5_set 3 = .ok (.istore_n 3, 1) := by decide +kernel
theorem dX5_set_4 : decode cX5_set 4 = .ok (.iload_n 3, 1) := by decide +kernel
theorem dX5_set_5 : decode cX5_set 5 = .ok (.aload_n 0, 1) := by decide +kernel
theorem dX5_set_6 : decode cX5_set 6 = .ok (.getfield 15, 3) := by decide +kernel
theorem dX5_set_9 : decode cX5_set 9 = .ok (.if_icmp .ge 26, 3) := by decide +kernel
theorem dX5_set_12 : decode cX5_set 12 = .ok (.iload_n 3, 1) := by decide +kernel
theorem dX5_set_13 : decode cX5_set 13 = .ok (.bipush 12, 2) := by decide +kernel
theorem dX5_set_15 : decode cX5_set 15 = .ok (.if_icmp .ge 20, 3) := by decide +kernel
theorem dX5_set_18 : decode cX5_set 18 = .ok (.lload_n 1, 1) := by decide +kernel
theorem dX5_set_19 : decode cX5_set 19 = .ok (.lconst 1, 1) := by decide +kernel
theorem dX5_set_20 : decode cX5_set 20 = .ok (.aload_n 0, 1) := by decide +kernel
theorem dX5_set_21 : decode cX5_set 21 = .ok (.getfield 9, 3) := by decide +kernel
theorem dX5_set_24 : decode cX5_set 24 = .ok (.iload_n 3, 1) := by decide +kernel
theorem dX5_set_25 : decode cX5_set 25 = .ok (.iaload, 1) := by decide +kernel
theorem dX5_set_26 : decode cX5_set 26 = .ok (.lshl, 1) := by decide +kernel
theorem dX5_set_27 : decode cX5_set 27 = .ok (.lor, 1) := by decide +kernel
theorem dX5_set_28 : decode cX5_set 28 = .ok (.lstore_n 1, 1) := by decide +kernel
theorem dX5_set_29 : decode cX5_set 29 = .ok (.iinc 3 1, 3) := by decide +kernel
theorem dX5_set_32 : decode cX5_set 32 = .ok (.goto (-28), 3) := by decide +kernel
theorem dX5_set_35 : decode cX5_set 35 = .ok (.lload_n 1, 1) := by decide +kernel
theorem dX5_set_36 : decode cX5_set 36 = .ok (.lreturn, 1) := by decide +kernel
theorem dX5_allot_0 : decode cX5_allot 0 = .ok (.aload_n 0, 1) := by decide +kernel
theorem dX5_allot_1 : decode cX5_allot 1 = .ok (.invokevirtual 19, 3) := by decide +kernel
theorem dX5_allot_4 : decode cX5_allot 4 = .ok (.iload_n 3, 1) := by decide +kernel
theorem dX5_allot_5 : decode cX5_allot 5 = .ok (.iconst 2, 1) := by decide +kernel
theorem dX5_allot_6 : decode cX5_allot 6 = .ok (.if_icmp .ne 10, 3) := by decide +kernel
theorem dX5_allot_9 : decode cX5_allot 9 = .ok (.aload_n 0, 1) := by decide +kernel
theorem dX5_allot_10 : decode cX5_allot 10 = .ok (.aload_n 1, 1) := by decide +kernel
theorem dX5_allot_11 : decode cX5_allot 11 = .ok (.iload_n 2, 1) := by decide +kernel
theorem dX5_allot_12 : decode cX5_allot 12 = .ok (.invokevirtual 22, 3) := by decide +kernel
theorem dX5_allot_15 : decode cX5_allot 15 = .ok (.return_, 1) := by decide +kernel
theorem dX5_allot_16 : decode cX5_allot 16 = .ok (.iload_n 3, 1) := by decide +kernel
theorem dX5_allot_17 : decode cX5_allot 17 = .ok (.iconst 1, 1) := by decide +kernel
theorem dX5_allot_18 : decode cX5_allot 18 = .ok (.if_icmp .ne 11, 3) := by decide +kernel
theorem dX5_allot_21 : decode cX5_allot 21 = .ok (.aload_n 1, 1) := by decide +kernel
theorem dX5_allot_22 : decode cX5_allot 22 = .ok (.iload_n 2, 1) := by decide +kernel
theorem dX5_allot_23 : decode cX5_allot 23 = .ok (.invokevirtual 26, 3) := by decide +kernel
theorem dX5_allot_26 : decode cX5_allot 26 = .ok (.goto 4, 3) := by decide +kernel
theorem dX5_allot_29 : decode cX5_allot 29 = .ok (.iconst (-1), 1) := by decide +kernel
theorem dX5_allot_30 : decode cX5_allot 30 = .ok (.istore 4, 2) := by decide +kernel
theorem dX5_allot_32 : decode cX5_allot 32 = .ok (.aload_n 0, 1) := by decide +kernel
theorem dX5_allot_33 : decode cX5_allot 33 = .ok (.aload_n 1, 1) := by decide +kernel
theorem dX5_allot_34 : decode cX5_allot 34 = .ok (.iload 4, 2) := by decide +kernel
theorem dX5_allot_36 : decode cX5_allot 36 = .ok (.iconst (-1), 1) := by decide +kernel
theorem dX5_allot_37 : decode cX5_allot 37 = .ok (.if_icmp .ne 7, 3) := by decide +kernel
theorem dX5_allot_40 : decode cX5_allot 40 = .ok (.iconst 0, 1) := by decide +kernel
theorem dX5_allot_41 : decode cX5_allot 41 = .ok (.goto 5, 3) := by decide +kernel
theorem dX5_allot_44 : decode cX5_allot 44 = .ok (.iload 4, 2) := by decide +kernel
theorem dX5_allot_46 : decode cX5_allot 46 = .ok (.iload_n 2, 1) := by decide +kernel
theorem dX5_allot_47 : decode cX5_allot 47 = .ok (.invokevirtual 32, 3) := by decide +kernel
theorem dX5_allot_50 : decode cX5_allot 50 = .ok (.return_, 1) := by decide +kernel
theorem dX5_takeRising_0 : decode cX5_takeRising 0 = .ok (.iload_n 2, 1) := by decide +kernel
theorem dX5_takeRising_1 : decode cX5_takeRising 1 = .ok (.istore 4, 2) := by decide +kernel
theorem dX5_takeRising_3 : decode cX5_takeRising 3 = .ok (.iload 4, 2) := by decide +kernel
theorem dX5_takeRising_5 : decode cX5_takeRising 5 = .ok (.bipush 40, 2) := by decide +kernel
theorem dX5_takeRising_7 : decode cX5_takeRising 7 = .ok (.if_icmp .ge 32, 3) := by decide +kernel
theorem dX5_takeRising_10 : decode cX5_takeRising 10 = .ok (.aload_n 0, 1) := by decide +kernel
theorem dX5_takeRising_11 : decode cX5_takeRising 11 = .ok (.getfield 15, 3) := by decide +kernel
theorem dX5_takeRising_14 : decode cX5_takeRising 14 = .ok (.iload_n 3, 1) := by decide +kernel
theorem dX5_takeRising_15 : decode cX5_takeRising 15 = .ok (.if_icmp .ge 24, 3) := by decide +kernel
theorem dX5_takeRising_18 : decode cX5_takeRising 18 = .ok (.aload_n 1, 1) := by decide +kernel
theorem dX5_takeRising_19 : decode cX5_takeRising 19 = .ok (.iload 4, 2) := by decide +kernel
theorem dX5_takeRising_21 : decode cX5_takeRising 21 = .ok (.invokevirtual 36, 3) := by decide +kernel
theorem dX5_takeRising_24 : decode cX5_takeRising 24 = .ok (.ifCond .eq 9, 3) := by decide +kernel
theorem dX5_takeRising_27 : decode cX5_takeRising 27 = .ok (.aload_n 0, 1) := by decide +kernel
theorem dX5_takeRising_28 : decode cX5_takeRising 28 = .ok (.iload 4, 2) := by decide +kernel
theorem dX5_takeRising_30 : decode cX5_takeRising 30 = .ok (.invokevirtual 40, 3) := by decide +kernel
theorem dX5_takeRising_33 : decode cX5_takeRising 33 = .ok (.iinc 4 1, 3) := by decide +kernel
theorem dX5_takeRising_36 : decode cX5_takeRising 36 = .ok (.goto (-33), 3) := by decide +kernel
theorem dX5_takeRising_39 : decode cX5_takeRising 39 = .ok (.return_, 1) := by decide +kernel
theorem dX5_takeFalling_0 : decode cX5_takeFalling 0 = .ok (.bipush 39, 2) := by decide +kernel
theorem dX5_takeFalling_2 : decode cX5_takeFalling 2 = .ok (.istore_n 3, 1) := by decide +kernel
theorem dX5_takeFalling_3 : decode cX5_takeFalling 3 = .ok (.iload_n 3, 1) := by decide +kernel
theorem dX5_takeFalling_4 : decode cX5_takeFalling 4 = .ok (.ifCond .lt 30, 3) := by decide +kernel
theorem dX5_takeFalling_7 : decode cX5_takeFalling 7 = .ok (.aload_n 0, 1) := by decide +kernel
theorem dX5_takeFalling_8 : decode cX5_takeFalling 8 = .ok (.getfield 15, 3) := by decide +kernel
theorem dX5_takeFalling_11 : decode cX5_takeFalling 11 = .ok (.iload_n 2, 1) := by decide +kernel
theorem dX5_takeFalling_12 : decode cX5_takeFalling 12 = .ok (.if_icmp .ge 22, 3) := by decide +kernel
theorem dX5_takeFalling_15 : decode cX5_takeFalling 15 = .ok (.aload_n 1, 1) := by decide +kernel
theorem dX5_takeFalling_16 : decode cX5_takeFalling 16 = .ok (.iload_n 3, 1) := by decide +kernel
theorem dX5_takeFalling_17 : decode cX5_takeFalling 17 = .ok (.invokevirtual 36, 3) := by decide +kernel
theorem dX5_takeFalling_20 : decode cX5_takeFalling 20 = .ok (.ifCond .eq 8, 3) := by decide +kernel
theorem dX5_takeFalling_23 : decode cX5_takeFalling 23 = .ok (.aload_n 0, 1) := by decide +kernel
theorem dX5_takeFalling_24 : decode cX5_takeFalling 24 = .ok (.iload_n 3, 1) := by decide +kernel
theorem dX5_takeFalling_25 : decode cX5_takeFalling 25 = .ok (.invokevirtual 40, 3) := by decide +kernel
theorem dX5_takeFalling_28 : decode cX5_takeFalling 28 = .ok (.iinc 3 (-1), 3) := by decide +kernel
theorem dX5_takeFalling_31 : decode cX5_takeFalling 31 = .ok (.goto (-28), 3) := by decide +kernel
theorem dX5_takeFalling_34 : decode cX5_takeFalling 34 = .ok (.return_, 1) := by decide +kernel
theorem dX6_init_0 : decode cX6_init 0 = .ok (.aload_n 0, 1) := by decide +kernel
theorem dX6_init_1 : decode cX6_init 1 = .ok (.invokespecial 3, 3) := by decide +kernel
theorem dX6_init_4 : decode cX6_init 4 = .ok (.aload_n 0, 1) := by decide +kernel
theorem dX6_init_5 : decode cX6_init 5 = .ok (.bipush 60, 2) := by decide +kernel
theorem dX6_init_7 : decode cX6_init 7 = .ok (.newarray .int, 2) := by decide +kernel
theorem dX6_init_9 : decode cX6_init 9 = .ok (.putfield 9, 3) := by decide +kernel
theorem dX6_init_12 : decode cX6_init 12 = .ok (.return_, 1) := by decide +kernel
theorem dX6_append_0 : decode cX6_append 0 = .ok (.aload_n 0, 1) := by decide +kernel
theorem dX6_append_1 : decode cX6_append 1 = .ok (.getfield 15, 3) := by decide +kernel
theorem dX6_append_4 : decode cX6_append 4 = .ok (.ifCond .lt 32, 3) := by decide +kernel
theorem dX6_append_7 : decode cX6_append 7 = .ok (.aload_n 0, 1) := by decide +kernel
theorem dX6_append_8 : decode cX6_append 8 = .ok (.getfield 15, 3) := by decide +kernel
theorem dX6_append_11 : decode cX6_append 11 = .ok (.bipush 60, 2) := by decide +kernel
theorem dX6_append_13 : decode cX6_append 13 = .ok (.if_icmp .ge 23, 3) := by decide +kernel
theorem dX6_append_16 : decode cX6_append 16 = .ok (.aload_n 0, 1) := by decide +kernel
theorem dX6_append_17 : decode cX6_append 17 = .ok (.getfield 9, 3) := by decide +kernel
theorem dX6_append_20 : decode cX6_append 20 = .ok (.aload_n 0, 1) := by decide +kernel
theorem dX6_append_21 : decode cX6_append 21 = .ok (.getfield 15, 3) := by decide +kernel
theorem dX6_append_24 : decode cX6_append 24 = .ok (.iload_n 1, 1) := by decide +kernel
theorem dX6_append_25 : decode cX6_append 25 = .ok (.iastore, 1) := by decide +kernel
theorem dX6_append_26 : decode cX6_append 26 = .ok (.aload_n 0, 1) := by decide +kernel
theorem dX6_append_27 : decode cX6_append 27 = .ok (.dup, 1) := by decide +kernel
theorem dX6_append_28 : decode cX6_append 28 = .ok (.getfield 15, 3) := by decide +kernel
theorem dX6_append_31 : decode cX6_append 31 = .ok (.iconst 1, 1) := by decide +kernel
theorem dX6_append_32 : decode cX6_append 32 = .ok (.iadd, 1) := by decide +kernel
theorem dX6_append_33 : decode cX6_append 33 = .ok (.putfield 15, 3) := by decide +kernel
theorem dX6_append_36 : decode cX6_append 36 = .ok (.return_, 1) := by decide +kernel
theorem dX6_rewind_0 : decode cX6_rewind 0 = .ok (.aload_n 0, 1) := by decide +kernel
theorem dX6_rewind_1 : decode cX6_rewind 1 = .ok (.iconst 0, 1) := by decide +kernel
theorem dX6_rewind_2 : decode cX6_rewind 2 = .ok (.putfield 19, 3) := by decide +kernel
theorem dX6_rewind_5 : decode cX6_rewind 5 = .ok (.aload_n 0, 1) := by decide +kernel
theorem dX6_rewind_6 : decode cX6_rewind 6 = .ok (.iconst 0, 1) := by decide +kernel
theorem dX6_rewind_7 : decode cX6_rewind 7 = .ok (.putfield 22, 3) := by decide +kernel
theorem dX6_rewind_10 : decode cX6_rewind 10 = .ok (.aload_n 0, 1) := by decide +kernel
theorem dX6_rewind_11 : decode cX6_rewind 11 = .ok (.iconst 0, 1) := by decide +kernel
theorem dX6_rewind_12 : decode cX6_rewind 12 = .ok (.putfield 25, 3) := by decide +kernel
theorem dX6_rewind_15 : decode cX6_rewind 15 = .ok (.return_, 1) := by decide +kernel
theorem dX6_hasMore_0 : decode cX6_hasMore 0 = .ok (.aload_n 0, 1) := by decide +kernel
theorem dX6_hasMore_1 : decode cX6_hasMore 1 = .ok (.getfield 19, 3) := by decide +kernel
theorem dX6_hasMore_4 : decode cX6_hasMore 4 = .ok (.aload_n 0, 1) := by decide +kernel
theorem dX6_hasMore_5 : decode cX6_hasMore 5 = .ok (.getfield 15, 3) := by decide +kernel
theorem dX6_hasMore_8 : decode cX6_hasMore 8 = .ok (.if_icmp .ge 7, 3) := by decide +kernel
theorem dX6_hasMore_11 : decode cX6_hasMore 11 = .ok (.iconst 1, 1) := by decide +kernel
theorem dX6_hasMore_12 : decode cX6_hasMore 12 = .ok (.goto 4, 3) := by decide +kernel
theorem dX6_hasMore_15 : decode cX6_hasMore 15 = .ok (.iconst 0, 1) := by decide +kernel
theorem dX6_hasMore_16 : decode cX6_hasMore 16 = .ok (.ireturn, 1) := by decide +kernel
theorem dX6_readOrder_0 : decode cX6_readOrder 0 = .ok (.aload_n 0, 1) := by decide +kernel
theorem dX6_readOrder_1 : decode cX6_readOrder 1 = .ok (.aload_n 0, 1) := by decide +kernel
theorem dX6_readOrder_2 : decode cX6_readOrder 2 = .ok (.getfield 19, 3) := by decide +kernel
theorem dX6_readOrder_5 : decode cX6_readOrder 5 = .ok (.putfield 22, 3) := by decide +kernel
theorem dX6_readOrder_8 : decode cX6_readOrder 8 = .ok (.aload_n 0, 1) := by decide +kernel
theorem dX6_readOrder_9 : decode cX6_readOrder 9 = .ok (.aload_n 0, 1) := by decide +kernel
theorem dX6_readOrder_10 : decode cX6_readOrder 10 = .ok (.invokevirtual 28, 3) := by decide +kernel
theorem dX6_readOrder_13 : decode cX6_readOrder 13 = .ok (.putfield 32, 3) := by decide +kernel
theorem dX6_readOrder_16 : decode cX6_readOrder 16 = .ok (.aload_n 0, 1) := by decide +kernel
theorem dX6_readOrder_17 : decode cX6_readOrder 17 = .ok (.dup, 1) := by decide +kernel
theorem dX6_readOrder_18 : decode cX6_readOrder 18 = .ok (.getfield 19, 3) := by decide +kernel
theorem dX6_readOrder_21 : decode cX6_readOrder 21 = .ok (.iconst 1, 1) := by decide +kernel
theorem dX6_readOrder_22 : decode cX6_readOrder 22 = .ok (.iadd, 1) := by decide +kernel
theorem dX6_readOrder_23 : decode cX6_readOrder 23 = .ok (.putfield 19, 3) := by decide +kernel
theorem dX6_readOrder_26 : decode cX6_readOrder 26 = .ok (.aload_n 0, 1) := by decide +kernel
theorem dX6_readOrder_27 : decode cX6_readOrder 27 = .ok (.getfield 32, 3) := by decide +kernel
theorem dX6_readOrder_30 : decode cX6_readOrder 30 = .ok (.bipush 119, 2) := by decide +kernel
theorem dX6_readOrder_32 : decode cX6_readOrder 32 = .ok (.if_icmp .eq 32, 3) := by decide +kernel
theorem dX6_readOrder_35 : decode cX6_readOrder 35 = .ok (.aload_n 0, 1) := by decide +kernel
theorem dX6_readOrder_36 : decode cX6_readOrder 36 = .ok (.getfield 32, 3) := by decide +kernel
theorem dX6_readOrder_39 : decode cX6_readOrder 39 = .ok (.bipush 100, 2) := by decide +kernel
theorem dX6_readOrder_41 : decode cX6_readOrder 41 = .ok (.if_icmp .eq 23, 3) := by decide +kernel
theorem dX6_readOrder_44 : decode cX6_readOrder 44 = .ok (.aload_n 0, 1) := by decide +kernel
theorem dX6_readOrder_45 : decode cX6_readOrder 45 = .ok (.getfield 32, 3) := by decide +kernel
theorem dX6_readOrder_48 : decode cX6_readOrder 48 = .ok (.bipush 99, 2) := by decide +kernel
theorem dX6_readOrder_50 : decode cX6_readOrder 50 = .ok (.if_icmp .eq 14, 3) := by decide +kernel
theorem dX6_readOrder_53 : decode cX6_readOrder 53 = .ok (.aload_n 0, 1) := by decide +kernel
theorem dX6_readOrder_54 : decode cX6_readOrder 54 = .ok (.getfield 32, 3) := by decide +kernel
theorem dX6_readOrder_57 : decode cX6_readOrder 57 = .ok (.bipush 122, 2) := by decide +kernel
theorem dX6_readOrder_59 : decode cX6_readOrder 59 = .ok (.if_icmp .eq 5, 3) := by decide +kernel
theorem dX6_readOrder_62 : decode cX6_readOrder 62 = .ok (.iconst 0, 1) := by decide +kernel
theorem dX6_readOrder_63 : decode cX6_readOrder 63 = .ok (.ireturn, 1) := by decide +kernel
theorem dX6_readOrder_64 : decode cX6_readOrder 64 = .ok (.aload_n 0, 1) := by decide +kernel
theorem dX6_readOrder_65 : decode cX6_readOrder 65 = .ok (.aload_n 0, 1) := by decide +kernel
theorem dX6_readOrder_66 : decode cX6_readOrder 66 = .ok (.invokevirtual 35, 3) := by decide +kernel
theorem dX6_readOrder_69 : decode cX6_readOrder 69 = .ok (.putfield 38, 3) := by decide +kernel
theorem dX6_readOrder_72 : decode cX6_readOrder 72 = .ok (.aload_n 0, 1) := by decide +kernel
theorem dX6_readOrder_73 : decode cX6_readOrder 73 = .ok (.getfield 38, 3) := by decide +kernel
theorem dX6_readOrder_76 : decode cX6_readOrder 76 = .ok (.iconst (-1), 1) := by decide +kernel
theorem dX6_readOrder_77 : decode cX6_readOrder 77 = .ok (.if_icmp .eq 28, 3) := by decide +kernel
theorem dX6_readOrder_80 : decode cX6_readOrder 80 = .ok (.aload_n 0, 1) := by decide +kernel
theorem dX6_readOrder_81 : decode cX6_readOrder 81 = .ok (.getfield 32, 3) := by decide +kernel
theorem dX6_readOrder_84 : decode cX6_readOrder 84 = .ok (.bipush 119, 2) := by decide +kernel
theorem dX6_readOrder_86 : decode cX6_readOrder 86 = .ok (.if_icmp .ne 10, 3) := by decide +kernel
theorem dX6_readOrder_89 : decode cX6_readOrder 89 = .ok (.aload_n 0, 1) := by decide +kernel
theorem dX6_readOrder_90 : decode cX6_readOrder 90 = .ok (.invokevirtual 41, 3) := by decide +kernel
theorem dX6_readOrder_93 : decode cX6_readOrder 93 = .ok (.ifCond .eq 12, 3) := by decide +kernel
theorem dX6_readOrder_96 : decode cX6_readOrder 96 = .ok (.aload_n 0, 1) := by decide +kernel
theorem dX6_readOrder_97 : decode cX6_readOrder 97 = .ok (.bipush 59, 2) := by decide +kernel
theorem dX6_readOrder_99 : decode cX6_readOrder 99 = .ok (.invokevirtual 45, 3) := by decide +kernel
theorem dX6_readOrder_102 : decode cX6_readOrder 102 = .ok (.ifCond .ne 5, 3) := by decide +kernel
theorem dX6_readOrder_105 : decode cX6_readOrder 105 = .ok (.iconst 0, 1) := by decide +kernel
theorem dX6_readOrder_106 : decode cX6_readOrder 106 = .ok (.ireturn, 1) := by decide +kernel
theorem dX6_readOrder_107 : decode cX6_readOrder 107 = .ok (.aload_n 0, 1) := by decide +kernel
theorem dX6_readOrder_108 : decode cX6_readOrder 108 = .ok (.dup, 1) := by decide +kernel
theorem dX6_readOrder_109 : decode cX6_readOrder 109 = .ok (.getfield 25, 3) := by decide +kernel
theorem dX6_readOrder_112 : decode cX6_readOrder 112 = .ok (.iconst 1, 1) := by decide +kernel
theorem dX6_readOrder_113 : decode cX6_readOrder 113 = .ok (.iadd, 1) := by decide +kernel
theorem dX6_readOrder_114 : decode cX6_readOrder 114 = .ok (.putfield 25, 3) := by decide +kernel
theorem dX6_readOrder_117 : decode cX6_readOrder 117 = .ok (.iconst 1, 1) := by decide +kernel
theorem dX6_readOrder_118 : decode cX6_readOrder 118 = .ok (.ireturn, 1) := by decide +kernel
theorem dX6_readStyleAndLength_0 : decode cX6_readStyleAndLength 0 = .ok (.aload_n 0, 1) := by decide +kernel
theorem dX6_readStyleAndLength_1 : decode cX6_readStyleAndLength 1 = .ok (.bipush 44, 2) := by decide +kernel
theorem dX6_readStyleAndLength_3 : decode cX6_readStyleAndLength 3 = .ok (.invokevirtual 45, 3) := by decide +kernel
theorem dX6_readStyleAndLength_6 : decode cX6_readStyleAndLength 6 = .ok (.ifCond .ne 5, 3) := by decide +kernel
theorem dX6_readStyleAndLength_9 : decode cX6_readStyleAndLength 9 = .ok (.iconst 0, 1) := by decide +kernel
theorem dX6_readStyleAndLength_10 : decode cX6_readStyleAndLength 10 = .ok (.ireturn, 1) := by decide +kernel
theorem dX6_readStyleAndLength_11 : decode cX6_readStyleAndLength 11 = .ok (.aload_n 0, 1) := by decide +kernel
theorem dX6_readStyleAndLength_12 : decode cX6_readStyleAndLength 12 = .ok (.aload_n 0, 1) := by decide +kernel
theorem dX6_readStyleAndLength_13 : decode cX6_readStyleAndLength 13 = .ok (.invokevirtual 35, 3) := by decide +kernel
theorem dX6_readStyleAndLength_16 : decode cX6_readStyleAndLength 16 = .ok (.putfield 49, 3) := by decide +kernel
theorem dX6_readStyleAndLength_19 : decode cX6_readStyleAndLength 19 = .ok (.aload_n 0, 1) := by decide +kernel
theorem dX6_readStyleAndLength_20 : decode cX6_readStyleAndLength 20 = .ok (.getfield 49, 3) := by decide +kernel
theorem dX6_readStyleAndLength_23 : decode cX6_readStyleAndLength 23 = .ok (.iconst (-1), 1) := by decide +kernel
theorem dX6_readStyleAndLength_24 : decode cX6_readStyleAndLength 24 = .ok (.if_icmp .eq 12, 3) := by decide +kernel
theorem dX6_readStyleAndLength_27 : decode cX6_readStyleAndLength 27 = .ok (.aload_n 0, 1) := by decide +kernel
theorem dX6_readStyleAndLength_28 : decode cX6_readStyleAndLength 28 = .ok (.bipush 44, 2) := by decide +kernel
theorem dX6_readStyleAndLength_30 : decode cX6_readStyleAndLength 30 = .ok (.invokevirtual 45, 3) := by decide +kernel
theorem dX6_readStyleAndLength_33 : decode cX6_readStyleAndLength 33 = .ok (.ifCond .ne 5, 3) := by decide +kernel
theorem dX6_readStyleAndLength_36 : decode cX6_readStyleAndLength 36 = .ok (.iconst 0, 1) := by decide +kernel
theorem dX6_readStyleAndLength_37 : decode cX6_readStyleAndLength 37 = .ok (.ireturn, 1) := by decide +kernel
theorem dX6_readStyleAndLength_38 : decode cX6_readStyleAndLength 38 = .ok (.aload_n 0, 1) := by decide +kernel
theorem dX6_readStyleAndLength_39 : decode cX6_readStyleAndLength 39 = .ok (.aload_n 0, 1) := by decide +kernel
theorem dX6_readStyleAndLength_40 : decode cX6_readStyleAndLength 40 = .ok (.invokevirtual 35, 3) := by decide +kernel
theorem dX6_readStyleAndLength_43 : decode cX6_readStyleAndLength 43 = .ok (.putfield 52, 3) := by decide +kernel
theorem dX6_readStyleAndLength_46 : decode cX6_readStyleAndLength 46 = .ok (.aload_n 0, 1) := by decide +kernel
theorem dX6_readStyleAndLength_47 : decode cX6_readStyleAndLength 47 = .ok (.getfield 52, 3) := by decide +kernel
theorem dX6_readStyleAndLength_50 : decode cX6_readStyleAndLength 50 = .ok (.iconst (-1), 1) := by decide +kernel
theorem dX6_readStyleAndLength_51 : decode cX6_readStyleAndLength 51 = .ok (.if_icmp .eq 7, 3) := by decide +kernel
theorem dX6_readStyleAndLength_54 : decode cX6_readStyleAndLength 54 = .ok (.iconst 1, 1) := by decide +kernel
theorem dX6_readStyleAndLength_55 : decode cX6_readStyleAndLength 55 = .ok (.goto 4, 3) := by decide +kernel
theorem dX6_readStyleAndLength_58 : decode cX6_readStyleAndLength 58 = .ok (.iconst 0, 1) := by decide +kernel
theorem dX6_readStyleAndLength_59 : decode cX6_readStyleAndLength 59 = .ok (.ireturn, 1) := by decide +kernel
theorem dX6_numbersFit_0 : decode cX6_numbersFit 0 = .ok (.aload_n 0, 1) := by decide +kernel
theorem dX6_numbersFit_1 : decode cX6_numbersFit 1 = .ok (.getfield 32, 3) := by decide +kernel
theorem dX6_numbersFit_4 : decode cX6_numbersFit 4 = .ok (.lookupswitch 107 #[(100, 77), (119, 36), (122, 92)], 36) := by decide +kernel
theorem dX6_numbersFit_40 : decode cX6_numbersFit 40 = .ok (.aload_n 0, 1) := by decide +kernel
theorem dX6_numbersFit_41 : decode cX6_numbersFit 41 = .ok (.getfield 38, 3) := by decide +kernel
theorem dX6_numbersFit_44 : decode cX6_numbersFit 44 = .ok (.bipush 30, 2) := by decide +kernel
theorem dX6_numbersFit_46 : decode cX6_numbersFit 46 = .ok (.if_icmp .ge 33, 3) := by decide +kernel
theorem dX6_numbersFit_49 : decode cX6_numbersFit 49 = .ok (.aload_n 0, 1) := by decide +kernel
theorem dX6_numbersFit_50 : decode cX6_numbersFit 50 = .ok (.getfield 49, 3) := by decide +kernel
theorem dX6_numbersFit_53 : decode cX6_numbersFit 53 = .ok (.bipush 10, 2) := by decide +kernel
theorem dX6_numbersFit_55 : decode cX6_numbersFit 55 = .ok (.if_icmp .ge 24, 3) := by decide +kernel
theorem dX6_numbersFit_58 : decode cX6_numbersFit 58 = .ok (.aload_n 0, 1) := by decide +kernel
theorem dX6_numbersFit_59 : decode cX6_numbersFit 59 = .ok (.getfield 52, 3) := by decide +kernel
theorem dX6_numbersFit_62 : decode cX6_numbersFit 62 = .ok (.iconst 1, 1) := by decide +kernel
theorem dX6_numbersFit_63 : decode cX6_numbersFit 63 = .ok (.if_icmp .lt 16, 3) := by decide +kernel
theorem dX6_numbersFit_66 : decode cX6_numbersFit 66 = .ok (.aload_n 0, 1) := by decide +kernel
theorem dX6_numbersFit_67 : decode cX6_numbersFit 67 = .ok (.getfield 52, 3) := by decide +kernel
theorem dX6_numbersFit_70 : decode cX6_numbersFit 70 = .ok (.bipush 12, 2) := by decide +kernel
theorem dX6_numbersFit_72 : decode cX6_numbersFit 72 = .ok (.if_icmp .gt 7, 3) := by decide +kernel
theorem dX6_numbersFit_75 : decode cX6_numbersFit 75 = .ok (.iconst 1, 1) := by decide +kernel
theorem dX6_numbersFit_76 : decode cX6_numbersFit 76 = .ok (.goto 4, 3) := by decide +kernel
theorem dX6_numbersFit_79 : decode cX6_numbersFit 79 = .ok (.iconst 0, 1) := by decide +kernel
theorem dX6_numbersFit_80 : decode cX6_numbersFit 80 = .ok (.ireturn, 1) := by decide +kernel
theorem dX6_numbersFit_81 : decode cX6_numbersFit 81 = .ok (.aload_n 0, 1) := by decide +kernel
theorem dX6_numbersFit_82 : decode cX6_numbersFit 82 = .ok (.getfield 38, 3) := by decide +kernel
theorem dX6_numbersFit_85 : decode cX6_numbersFit 85 = .ok (.bipush 30, 2) := by decide +kernel
theorem dX6_numbersFit_87 : decode cX6_numbersFit 87 = .ok (.if_icmp .ge 7, 3) := by decide +kernel
theorem dX6_numbersFit_90 : decode cX6_numbersFit 90 = .ok (.iconst 1, 1) := by decide +kernel
theorem dX6_numbersFit_91 : decode cX6_numbersFit 91 = .ok (.goto 4, 3) := by decide +kernel
theorem dX6_numbersFit_94 : decode cX6_numbersFit 94 = .ok (.iconst 0, 1) := by decide +kernel
theorem dX6_numbersFit_95 : decode cX6_numbersFit 95 = .ok (.ireturn, 1) := by decide +kernel
theorem dX6_numbersFit_96 : decode cX6_numbersFit 96 = .ok (.aload_n 0, 1) := by decide +kernel
theorem dX6_numbersFit_97 : decode cX6_numbersFit 97 = .ok (.getfield 38, 3) := by decide +kernel
theorem dX6_numbersFit_100 : decode cX6_numbersFit 100 = .ok (.bipush 40, 2) := by decide +kernel
theorem dX6_numbersFit_102 : decode cX6_numbersFit 102 = .ok (.if_icmp .ge 7, 3) := by decide +kernel
theorem dX6_numbersFit_105 : decode cX6_numbersFit 105 = .ok (.iconst 1, 1) := by decide +kernel
theorem dX6_numbersFit_106 : decode cX6_numbersFit 106 = .ok (.goto 4, 3) := by decide +kernel
theorem dX6_numbersFit_109 : decode cX6_numbersFit 109 = .ok (.iconst 0, 1) := by decide +kernel
theorem dX6_numbersFit_110 : decode cX6_numbersFit 110 = .ok (.ireturn, 1) := by decide +kernel
theorem dX6_numbersFit_111 : decode cX6_numbersFit 111 = .ok (.iconst 1, 1) := by decide +kernel
theorem dX6_numbersFit_112 : decode cX6_numbersFit 112 = .ok (.ireturn, 1) := by decide +kernel
theorem dX6_signHere_0 : decode cX6_signHere 0 = .ok (.aload_n 0, 1) := by decide +kernel
theorem dX6_signHere_1 : decode cX6_signHere 1 = .ok (.getfield 19, 3) := by decide +kernel
theorem dX6_signHere_4 : decode cX6_signHere 4 = .ok (.ifCond .lt 35, 3) := by decide +kernel
theorem dX6_signHere_7 : decode cX6_signHere 7 = .ok (.aload_n 0, 1) := by decide +kernel
theorem dX6_signHere_8 : decode cX6_signHere 8 = .ok (.getfield 19, 3) := by decide +kernel
theorem dX6_signHere_11 : decode cX6_signHere 11 = .ok (.aload_n 0, 1) := by decide +kernel
theorem dX6_signHere_12 : decode cX6_signHere 12 = .ok (.getfield 15, 3) := by decide +kernel
theorem dX6_signHere_15 : decode cX6_signHere 15 = .ok (.if_icmp .ge 24, 3) := by decide +kernel
theorem dX6_signHere_18 : decode cX6_signHere 18 = .ok (.aload_n 0, 1) := by decide +kernel
theorem dX6_signHere_19 : decode cX6_signHere 19 = .ok (.getfield 19, 3) := by decide +kernel
theorem dX6_signHere_22 : decode cX6_signHere 22 = .ok (.bipush 60, 2) := by decide +kernel
theorem dX6_signHere_24 : decode cX6_signHere 24 = .ok (.if_icmp .ge 15, 3) := by decide +kernel
theorem dX6_signHere_27 : decode cX6_signHere 27 = .ok (.aload_n 0, 1) := by decide +kernel
theorem dX6_signHere_28 : decode cX6_signHere 28 = .ok (.getfield 9, 3) := by decide +kernel
theorem dX6_signHere_31 : decode cX6_signHere 31 = .ok (.aload_n 0, 1) := by decide +kernel
theorem dX6_signHere_32 : decode cX6_signHere 32 = .ok (.getfield 19, 3) := by decide +kernel
theorem dX6_signHere_35 : decode cX6_signHere 35 = .ok (.iaload, 1) := by decide +kernel
theorem dX6_signHere_36 : decode cX6_signHere 36 = .ok (.goto 4, 3) := by decide +kernel
theorem dX6_signHere_39 : decode cX6_signHere 39 = .ok (.iconst (-1), 1) := by decide +kernel
theorem dX6_signHere_40 : decode cX6_signHere 40 = .ok (.ireturn, 1) := by decide +kernel
theorem dX6_passes_0 : decode cX6_passes 0 = .ok (.aload_n 0, 1) := by decide +kernel
theorem dX6_passes_1 : decode cX6_passes 1 = .ok (.invokevirtual 28, 3) := by decide +kernel
theorem dX6_passes_4 : decode cX6_passes 4 = .ok (.iload_n 1, 1) := by decide +kernel
theorem dX6_passes_5 : decode cX6_passes 5 = .ok (.if_icmp .eq 5, 3) := by decide +kernel
theorem dX6_passes_8 : decode cX6_passes 8 = .ok (.iconst 0, 1) := by decide +kernel
theorem dX6_passes_9 : decode cX6_passes 9 = .ok (.ireturn, 1) := by decide +kernel
theorem dX6_passes_10 : decode cX6_passes 10 = .ok (.aload_n 0, 1) := by decide +kernel
theorem dX6_passes_11 : decode cX6_passes 11 = .ok (.dup, 1) := by decide +kernel
theorem dX6_passes_12 : decode cX6_passes 12 = .ok (.getfield 19, 3) := by decide +kernel
theorem dX6_passes_15 : decode cX6_passes 15 = .ok (.iconst 1, 1) := by decide +kernel
theorem dX6_passes_16 : decode cX6_passes 16 = .ok (.iadd, 1) := by decide +kernel
theorem dX6_passes_17 : decode cX6_passes 17 = .ok (.putfield 19, 3) := by decide +kernel
theorem dX6_passes_20 : decode cX6_passes 20 = .ok (.iconst 1, 1) := by decide +kernel
theorem dX6_passes_21 : decode cX6_passes 21 = .ok (.ireturn, 1) := by decide +kernel
theorem dX6_readNumber_0 : decode cX6_readNumber 0 = .ok (.aload_n 0, 1) := by decide +kernel
theorem dX6_readNumber_1 : decode cX6_readNumber 1 = .ok (.invokevirtual 55, 3) := by decide +kernel
theorem dX6_readNumber_4 : decode cX6_readNumber 4 = .ok (.istore_n 1, 1) := by decide +kernel
theorem dX6_readNumber_5 : decode cX6_readNumber 5 = .ok (.iload_n 1, 1) := by decide +kernel
theorem dX6_readNumber_6 : decode cX6_readNumber 6 = .ok (.iconst (-1), 1) := by decide +kernel
theorem dX6_readNumber_7 : decode cX6_readNumber 7 = .ok (.if_icmp .ne 7, 3) := by decide +kernel
theorem dX6_readNumber_10 : decode cX6_readNumber 10 = .ok (.iconst (-1), 1) := by decide +kernel
theorem dX6_readNumber_11 : decode cX6_readNumber 11 = .ok (.goto 7, 3) := by decide +kernel
theorem dX6_readNumber_14 : decode cX6_readNumber 14 = .ok (.aload_n 0, 1) := by decide +kernel
theorem dX6_readNumber_15 : decode cX6_readNumber 15 = .ok (.invokevirtual 55, 3) := by decide +kernel
theorem dX6_readNumber_18 : decode cX6_readNumber 18 = .ok (.istore_n 2, 1) := by decide +kernel
theorem dX6_readNumber_19 : decode cX6_readNumber 19 = .ok (.iload_n 2, 1) := by decide +kernel
theorem dX6_readNumber_20 : decode cX6_readNumber 20 = .ok (.iconst (-1), 1) := by decide +kernel
theorem dX6_readNumber_21 : decode cX6_readNumber 21 = .ok (.if_icmp .ne 7, 3) := by decide +kernel
theorem dX6_readNumber_24 : decode cX6_readNumber 24 = .ok (.iload_n 1, 1) := by decide +kernel
theorem dX6_readNumber_25 : decode cX6_readNumber 25 = .ok (.goto 9, 3) := by decide +kernel
theorem dX6_readNumber_28 : decode cX6_readNumber 28 = .ok (.bipush 10, 2) := by decide +kernel
theorem dX6_readNumber_30 : decode cX6_readNumber 30 = .ok (.iload_n 1, 1) := by decide +kernel
theorem dX6_readNumber_31 : decode cX6_readNumber 31 = .ok (.imul, 1) := by decide +kernel
theorem dX6_readNumber_32 : decode cX6_readNumber 32 = .ok (.iload_n 2, 1) := by decide +kernel
theorem dX6_readNumber_33 : decode cX6_readNumber 33 = .ok (.iadd, 1) := by decide +kernel
theorem dX6_readNumber_34 : decode cX6_readNumber 34 = .ok (.ireturn, 1) := by decide +kernel
theorem dX6_readDigit_0 : decode cX6_readDigit 0 = .ok (.aload_n 0, 1) := by decide +kernel
theorem dX6_readDigit_1 : decode cX6_readDigit 1 = .ok (.invokevirtual 28, 3) := by decide +kernel
theorem dX6_readDigit_4 : decode cX6_readDigit 4 = .ok (.istore_n 1, 1) := by decide +kernel
theorem dX6_readDigit_5 : decode cX6_readDigit 5 = .ok (.iload_n 1, 1) := by decide +kernel
theorem dX6_readDigit_6 : decode cX6_readDigit 6 = .ok (.bipush 48, 2) := by decide +kernel
theorem dX6_readDigit_8 : decode cX6_readDigit 8 = .ok (.if_icmp .lt 9, 3) := by decide +kernel
theorem dX6_readDigit_11 : decode cX6_readDigit 11 = .ok (.iload_n 1, 1) := by decide +kernel
theorem dX6_readDigit_12 : decode cX6_readDigit 12 = .ok (.bipush 57, 2) := by decide +kernel
theorem dX6_readDigit_14 : decode cX6_readDigit 14 = .ok (.if_icmp .le 5, 3) := by decide +kernel
theorem dX6_readDigit_17 : decode cX6_readDigit 17 = .ok (.iconst (-1), 1) := by decide +kernel
theorem dX6_readDigit_18 : decode cX6_readDigit 18 = .ok (.ireturn, 1) := by decide +kernel
theorem dX6_readDigit_19 : decode cX6_readDigit 19 = .ok (.aload_n 0, 1) := by decide +kernel
theorem dX6_readDigit_20 : decode cX6_readDigit 20 = .ok (.dup, 1) := by decide +kernel
theorem dX6_readDigit_21 : decode cX6_readDigit 21 = .ok (.getfield 19, 3) := by decide +kernel
theorem dX6_readDigit_24 : decode cX6_readDigit 24 = .ok (.iconst 1, 1) := by decide +kernel
theorem dX6_readDigit_25 : decode cX6_readDigit 25 = .ok (.iadd, 1) := by decide +kernel
theorem dX6_readDigit_26 : decode cX6_readDigit 26 = .ok (.putfield 19, 3) := by decide +kernel
theorem dX6_readDigit_29 : decode cX6_readDigit 29 = .ok (.iload_n 1, 1) := by decide +kernel
theorem dX6_readDigit_30 : decode cX6_readDigit 30 = .ok (.bipush 48, 2) := by decide +kernel
theorem dX6_readDigit_32 : decode cX6_readDigit 32 = .ok (.isub, 1) := by decide +kernel
theorem dX6_readDigit_33 : decode cX6_readDigit 33 = .ok (.ireturn, 1) := by decide +kernel
theorem dX7_init_0 : decode cX7_init 0 = .ok (.aload_n 0, 1) := by decide +kernel
theorem dX7_init_1 : decode cX7_init 1 = .ok (.invokespecial 1, 3) := by decide +kernel
theorem dX7_init_4 : decode cX7_init 4 = .ok (.aload_n 0, 1) := by decide +kernel
theorem dX7_init_5 : decode cX7_init 5 = .ok (.new 7, 3) := by decide +kernel
theorem dX7_init_8 : decode cX7_init 8 = .ok (.dup, 1) := by decide +kernel
theorem dX7_init_9 : decode cX7_init 9 = .ok (.invokespecial 9, 3) := by decide +kernel
theorem dX7_init_12 : decode cX7_init 12 = .ok (.putfield 10, 3) := by decide +kernel
theorem dX7_init_15 : decode cX7_init 15 = .ok (.aload_n 0, 1) := by decide +kernel
theorem dX7_init_16 : decode cX7_init 16 = .ok (.new 16, 3) := by decide +kernel
theorem dX7_init_19 : decode cX7_init 19 = .ok (.dup, 1) := by decide +kernel
theorem dX7_init_20 : decode cX7_init 20 = .ok (.invokespecial 18, 3) := by decide +kernel
theorem dX7_init_23 : decode cX7_init 23 = .ok (.putfield 19, 3) := by decide +kernel
theorem dX7_init_26 : decode cX7_init 26 = .ok (.aload_n 0, 1) := by decide +kernel
theorem dX7_init_27 : decode cX7_init 27 = .ok (.new 23, 3) := by decide +kernel
theorem dX7_init_30 : decode cX7_init 30 = .ok (.dup, 1) := by decide +kernel
theorem dX7_init_31 : decode cX7_init 31 = .ok (.invokespecial 25, 3) := by decide +kernel
theorem dX7_init_34 : decode cX7_init 34 = .ok (.putfield 26, 3) := by decide +kernel
theorem dX7_init_37 : decode cX7_init 37 = .ok (.aload_n 0, 1) := by decide +kernel
theorem dX7_init_38 : decode cX7_init 38 = .ok (.new 30, 3) := by decide +kernel
theorem dX7_init_41 : decode cX7_init 41 = .ok (.dup, 1) := by decide +kernel
theorem dX7_init_42 : decode cX7_init 42 = .ok (.invokespecial 32, 3) := by decide +kernel
theorem dX7_init_45 : decode cX7_init 45 = .ok (.putfield 33, 3) := by decide +kernel
theorem dX7_init_48 : decode cX7_init 48 = .ok (.aload_n 0, 1) := by decide +kernel
theorem dX7_init_49 : decode cX7_init 49 = .ok (.new 37, 3) := by decide +kernel
theorem dX7_init_52 : decode cX7_init 52 = .ok (.dup, 1) := by decide +kernel
theorem dX7_init_53 : decode cX7_init 53 = .ok (.invokespecial 39, 3) := by decide +kernel
theorem dX7_init_56 : decode cX7_init 56 = .ok (.putfield 40, 3) := by decide +kernel
theorem dX7_init_59 : decode cX7_init 59 = .ok (.return_, 1) := by decide +kernel
theorem dX7_write_0 : decode cX7_write 0 = .ok (.iload_n 1, 1) := by decide +kernel
theorem dX7_write_1 : decode cX7_write 1 = .ok (.invokestatic 44, 3) := by decide +kernel
theorem dX7_write_4 : decode cX7_write 4 = .ok (.ifCond .eq 28, 3) := by decide +kernel
theorem dX7_write_7 : decode cX7_write 7 = .ok (.iload_n 2, 1) := by decide +kernel
theorem dX7_write_8 : decode cX7_write 8 = .ok (.iconst 0, 1) := by decide +kernel
theorem dX7_write_9 : decode cX7_write 9 = .ok (.bipush 9, 2) := by decide +kernel
theorem dX7_write_11 : decode cX7_write 11 = .ok (.invokestatic 48, 3) := by decide +kernel
theorem dX7_write_14 : decode cX7_write 14 = .ok (.ifCond .eq 18, 3) := by decide +kernel
theorem dX7_write_17 : decode cX7_write 17 = .ok (.iload_n 3, 1) := by decide +kernel
theorem dX7_write_18 : decode cX7_write 18 = .ok (.invokestatic 52, 3) := by decide +kernel
theorem dX7_write_21 : decode cX7_write 21 = .ok (.ifCond .eq 11, 3) := by decide +kernel
theorem dX7_write_24 : decode cX7_write 24 = .ok (.iload 4, 2) := by decide +kernel
theorem dX7_write_26 : decode cX7_write 26 = .ok (.invokestatic 55, 3) := by decide +kernel
theorem dX7_write_29 : decode cX7_write 29 = .ok (.ifCond .ne 6, 3) := by decide +kernel
theorem dX7_write_32 : decode cX7_write 32 = .ok (.ldc 58, 2) := by decide +kernel
theorem dX7_write_34 : decode cX7_write 34 = .ok (.ireturn, 1) := by decide +kernel
theorem dX7_write_35 : decode cX7_write 35 = .ok (.aload_n 0, 1) := by decide +kernel
theorem dX7_write_36 : decode cX7_write 36 = .ok (.getfield 26, 3) := by decide +kernel
theorem dX7_write_39 : decode cX7_write 39 = .ok (.aload_n 0, 1) := by decide +kernel
theorem dX7_write_40 : decode cX7_write 40 = .ok (.getfield 10, 3) := by decide +kernel
theorem dX7_write_43 : decode cX7_write 43 = .ok (.invokevirtual 59, 3) := by decide +kernel
theorem dX7_write_46 : decode cX7_write 46 = .ok (.aload_n 0, 1) := by decide +kernel
theorem dX7_write_47 : decode cX7_write 47 = .ok (.aload_n 0, 1) := by decide +kernel
theorem dX7_write_48 : decode cX7_write 48 = .ok (.iload_n 1, 1) := by decide +kernel
theorem dX7_write_49 : decode cX7_write 49 = .ok (.iload_n 2, 1) := by decide +kernel
theorem dX7_write_50 : decode cX7_write 50 = .ok (.iload_n 3, 1) := by decide +kernel
theorem dX7_write_51 : decode cX7_write 51 = .ok (.iload 4, 2) := by decide +kernel
theorem dX7_write_53 : decode cX7_write 53 = .ok (.invokevirtual 63, 3) := by decide +kernel
theorem dX7_write_56 : decode cX7_write 56 = .ok (.invokevirtual 67, 3) := by decide +kernel
theorem dX7_write_59 : decode cX7_write 59 = .ok (.ireturn, 1) := by decide +kernel
theorem dX7_delete_0 : decode cX7_delete 0 = .ok (.iload_n 1, 1) := by decide +kernel
theorem dX7_delete_1 : decode cX7_delete 1 = .ok (.invokestatic 44, 3) := by decide +kernel
theorem dX7_delete_4 : decode cX7_delete 4 = .ok (.ifCond .ne 6, 3) := by decide +kernel
theorem dX7_delete_7 : decode cX7_delete 7 = .ok (.ldc 58, 2) := by decide +kernel
theorem dX7_delete_9 : decode cX7_delete 9 = .ok (.ireturn, 1) := by decide +kernel
theorem dX7_delete_10 : decode cX7_delete 10 = .ok (.aload_n 0, 1) := by decide +kernel
theorem dX7_delete_11 : decode cX7_delete 11 = .ok (.getfield 26, 3) := by decide +kernel
theorem dX7_delete_14 : decode cX7_delete 14 = .ok (.aload_n 0, 1) := by decide +kernel
theorem dX7_delete_15 : decode cX7_delete 15 = .ok (.getfield 10, 3) := by decide +kernel
theorem dX7_delete_18 : decode cX7_delete 18 = .ok (.invokevirtual 59, 3) := by decide +kernel
theorem dX7_delete_21 : decode cX7_delete 21 = .ok (.aload_n 0, 1) := by decide +kernel
theorem dX7_delete_22 : decode cX7_delete 22 = .ok (.aload_n 0, 1) := by decide +kernel
theorem dX7_delete_23 : decode cX7_delete 23 = .ok (.iload_n 1, 1) := by decide +kernel
theorem dX7_delete_24 : decode cX7_delete 24 = .ok (.invokevirtual 71, 3) := by decide +kernel
theorem dX7_delete_27 : decode cX7_delete 27 = .ok (.invokevirtual 67, 3) := by decide +kernel
theorem dX7_delete_30 : decode cX7_delete 30 = .ok (.ireturn, 1) := by decide +kernel
theorem dX7_wipe_0 : decode cX7_wipe 0 = .ok (.iload_n 1, 1) := by decide +kernel
theorem dX7_wipe_1 : decode cX7_wipe 1 = .ok (.invokestatic 74, 3) := by decide +kernel
theorem dX7_wipe_4 : decode cX7_wipe 4 = .ok (.ifCond .ne 6, 3) := by decide +kernel
theorem dX7_wipe_7 : decode cX7_wipe 7 = .ok (.ldc 58, 2) := by decide +kernel
theorem dX7_wipe_9 : decode cX7_wipe 9 = .ok (.ireturn, 1) := by decide +kernel
theorem dX7_wipe_10 : decode cX7_wipe 10 = .ok (.aload_n 0, 1) := by decide +kernel
theorem dX7_wipe_11 : decode cX7_wipe 11 = .ok (.getfield 26, 3) := by decide +kernel
theorem dX7_wipe_14 : decode cX7_wipe 14 = .ok (.aload_n 0, 1) := by decide +kernel
theorem dX7_wipe_15 : decode cX7_wipe 15 = .ok (.getfield 10, 3) := by decide +kernel
theorem dX7_wipe_18 : decode cX7_wipe 18 = .ok (.invokevirtual 59, 3) := by decide +kernel
theorem dX7_wipe_21 : decode cX7_wipe 21 = .ok (.aload_n 0, 1) := by decide +kernel
theorem dX7_wipe_22 : decode cX7_wipe 22 = .ok (.aload_n 0, 1) := by decide +kernel
theorem dX7_wipe_23 : decode cX7_wipe 23 = .ok (.iload_n 1, 1) := by decide +kernel
theorem dX7_wipe_24 : decode cX7_wipe 24 = .ok (.invokevirtual 77, 3) := by decide +kernel
theorem dX7_wipe_27 : decode cX7_wipe 27 = .ok (.invokevirtual 67, 3) := by decide +kernel
theorem dX7_wipe_30 : decode cX7_wipe 30 = .ok (.ireturn, 1) := by decide +kernel
theorem dX7_wipeAll_0 : decode cX7_wipeAll 0 = .ok (.aload_n 0, 1) := by decide +kernel
theorem dX7_wipeAll_1 : decode cX7_wipeAll 1 = .ok (.getfield 10, 3) := by decide +kernel
theorem dX7_wipeAll_4 : decode cX7_wipeAll 4 = .ok (.aload_n 0, 1) := by decide +kernel
theorem dX7_wipeAll_5 : decode cX7_wipeAll 5 = .ok (.getfield 10, 3) := by decide +kernel
theorem dX7_wipeAll_8 : decode cX7_wipeAll 8 = .ok (.invokevirtual 80, 3) := by decide +kernel
theorem dX7_wipeAll_11 : decode cX7_wipeAll 11 = .ok (.invokevirtual 84, 3) := by decide +kernel
theorem dX7_wipeAll_14 : decode cX7_wipeAll 14 = .ok (.istore_n 1, 1) := by decide +kernel
theorem dX7_wipeAll_15 : decode cX7_wipeAll 15 = .ok (.aload_n 0, 1) := by decide +kernel
theorem dX7_wipeAll_16 : decode cX7_wipeAll 16 = .ok (.getfield 26, 3) := by decide +kernel
theorem dX7_wipeAll_19 : decode cX7_wipeAll 19 = .ok (.aload_n 0, 1) := by decide +kernel
theorem dX7_wipeAll_20 : decode cX7_wipeAll 20 = .ok (.getfield 10, 3) := by decide +kernel
theorem dX7_wipeAll_23 : decode cX7_wipeAll 23 = .ok (.invokevirtual 59, 3) := by decide +kernel
theorem dX7_wipeAll_26 : decode cX7_wipeAll 26 = .ok (.iconst 0, 1) := by decide +kernel
theorem dX7_wipeAll_27 : decode cX7_wipeAll 27 = .ok (.istore_n 2, 1) := by decide +kernel
theorem dX7_wipeAll_28 : decode cX7_wipeAll 28 = .ok (.iload_n 2, 1) := by decide +kernel
theorem dX7_wipeAll_29 : decode cX7_wipeAll 29 = .ok (.bipush 40, 2) := by decide +kernel
theorem dX7_wipeAll_31 : decode cX7_wipeAll 31 = .ok (.if_icmp .ge 28, 3) := by decide +kernel
theorem dX7_wipeAll_34 : decode cX7_wipeAll 34 = .ok (.aload_n 0, 1) := by decide +kernel
theorem dX7_wipeAll_35 : decode cX7_wipeAll 35 = .ok (.getfield 10, 3) := by decide +kernel
theorem dX7_wipeAll_38 : decode cX7_wipeAll 38 = .ok (.iload_n 2, 1) := by decide +kernel
theorem dX7_wipeAll_39 : decode cX7_wipeAll 39 = .ok (.invokevirtual 88, 3) := by decide +kernel
theorem dX7_wipeAll_42 : decode cX7_wipeAll 42 = .ok (.ifCond .eq 11, 3) := by decide +kernel
theorem dX7_wipeAll_45 : decode cX7_wipeAll 45 = .ok (.aload_n 0, 1) := by decide +kernel
theorem dX7_wipeAll_46 : decode cX7_wipeAll 46 = .ok (.getfield 10, 3) := by decide +kernel
theorem dX7_wipeAll_49 : decode cX7_wipeAll 49 = .ok (.iload_n 2, 1) := by decide +kernel
theorem dX7_wipeAll_50 : decode cX7_wipeAll 50 = .ok (.invokevirtual 91, 3) := by decide +kernel
theorem dX7_wipeAll_53 : decode cX7_wipeAll 53 = .ok (.iinc 2 1, 3) := by decide +kernel
theorem dX7_wipeAll_56 : decode cX7_wipeAll 56 = .ok (.goto (-28), 3) := by decide +kernel
theorem dX7_wipeAll_59 : decode cX7_wipeAll 59 = .ok (.aload_n 0, 1) := by decide +kernel
theorem dX7_wipeAll_60 : decode cX7_wipeAll 60 = .ok (.getfield 10, 3) := by decide +kernel
theorem dX7_wipeAll_63 : decode cX7_wipeAll 63 = .ok (.getfield 95, 3) := by decide +kernel
theorem dX7_wipeAll_66 : decode cX7_wipeAll 66 = .ok (.invokevirtual 99, 3) := by decide +kernel
theorem dX7_wipeAll_69 : decode cX7_wipeAll 69 = .ok (.aload_n 0, 1) := by decide +kernel
theorem dX7_wipeAll_70 : decode cX7_wipeAll 70 = .ok (.iload_n 1, 1) := by decide +kernel
theorem dX7_wipeAll_71 : decode cX7_wipeAll 71 = .ok (.invokevirtual 67, 3) := by decide +kernel
theorem dX7_wipeAll_74 : decode cX7_wipeAll 74 = .ok (.ireturn, 1) := by decide +kernel
theorem dX7_fileOf_0 : decode cX7_fileOf 0 = .ok (.iload_n 1, 1) := by decide +kernel
theorem dX7_fileOf_1 : decode cX7_fileOf 1 = .ok (.invokestatic 44, 3) := by decide +kernel
theorem dX7_fileOf_4 : decode cX7_fileOf 4 = .ok (.ifCond .eq 19, 3) := by decide +kernel
theorem dX7_fileOf_7 : decode cX7_fileOf 7 = .ok (.iload_n 2, 1) := by decide +kernel
theorem dX7_fileOf_8 : decode cX7_fileOf 8 = .ok (.iconst 0, 1) := by decide +kernel
theorem dX7_fileOf_9 : decode cX7_fileOf 9 = .ok (.iconst 4, 1) := by decide +kernel
theorem dX7_fileOf_10 : decode cX7_fileOf 10 = .ok (.invokestatic 48, 3) := by decide +kernel
theorem dX7_fileOf_13 : decode cX7_fileOf 13 = .ok (.ifCond .ne 13, 3) := by decide +kernel
theorem dX7_fileOf_16 : decode cX7_fileOf 16 = .ok (.iload_n 2, 1) := by decide +kernel
theorem dX7_fileOf_17 : decode cX7_fileOf 17 = .ok (.invokestatic 104, 3) := by decide +kernel
theorem dX7_fileOf_20 : decode cX7_fileOf 20 = .ok (.ifCond .ne 6, 3) := by decide +kernel
theorem dX7_fileOf_23 : decode cX7_fileOf 23 = .ok (.ldc 58, 2) := by decide +kernel
theorem dX7_fileOf_25 : decode cX7_fileOf 25 = .ok (.ireturn, 1) := by decide +kernel
theorem dX7_fileOf_26 : decode cX7_fileOf 26 = .ok (.aload_n 0, 1) := by decide +kernel
theorem dX7_fileOf_27 : decode cX7_fileOf 27 = .ok (.getfield 10, 3) := by decide +kernel
theorem dX7_fileOf_30 : decode cX7_fileOf 30 = .ok (.iload_n 1, 1) := by decide +kernel
theorem dX7_fileOf_31 : decode cX7_fileOf 31 = .ok (.invokevirtual 107, 3) := by decide +kernel
theorem dX7_fileOf_34 : decode cX7_fileOf 34 = .ok (.ifCond .ne 6, 3) := by decide +kernel
theorem dX7_fileOf_37 : decode cX7_fileOf 37 = .ok (.ldc 110, 2) := by decide +kernel
theorem dX7_fileOf_39 : decode cX7_fileOf 39 = .ok (.ireturn, 1) := by decide +kernel
theorem dX7_fileOf_40 : decode cX7_fileOf 40 = .ok (.aload_n 0, 1) := by decide +kernel
theorem dX7_fileOf_41 : decode cX7_fileOf 41 = .ok (.getfield 10, 3) := by decide +kernel
theorem dX7_fileOf_44 : decode cX7_fileOf 44 = .ok (.iload_n 1, 1) := by decide +kernel
theorem dX7_fileOf_45 : decode cX7_fileOf 45 = .ok (.iconst 0, 1) := by decide +kernel
theorem dX7_fileOf_46 : decode cX7_fileOf 46 = .ok (.invokevirtual 111, 3) := by decide +kernel
theorem dX7_fileOf_49 : decode cX7_fileOf 49 = .ok (.istore_n 3, 1) := by decide +kernel
theorem dX7_fileOf_50 : decode cX7_fileOf 50 = .ok (.aload_n 0, 1) := by decide +kernel
theorem dX7_fileOf_51 : decode cX7_fileOf 51 = .ok (.getfield 10, 3) := by decide +kernel
theorem dX7_fileOf_54 : decode cX7_fileOf 54 = .ok (.iload_n 3, 1) := by decide +kernel
theorem dX7_fileOf_55 : decode cX7_fileOf 55 = .ok (.invokevirtual 115, 3) := by decide +kernel
theorem dX7_fileOf_58 : decode cX7_fileOf 58 = .ok (.istore 4, 2) := by decide +kernel
theorem dX7_fileOf_60 : decode cX7_fileOf 60 = .ok (.iload_n 2, 1) := by decide +kernel
theorem dX7_fileOf_61 : decode cX7_fileOf 61 = .ok (.tableswitch 79 0 4 #[35, 44, 47, 49, 62], 35) := by decide +kernel
theorem dX7_fileOf_96 : decode cX7_fileOf 96 = .ok (.aload_n 0, 1) := by decide +kernel
theorem dX7_fileOf_97 : decode cX7_fileOf 97 = .ok (.getfield 10, 3) := by decide +kernel
theorem dX7_fileOf_100 : decode cX7_fileOf 100 = .ok (.iload_n 3, 1) := by decide +kernel
theorem dX7_fileOf_101 : decode cX7_fileOf 101 = .ok (.invokevirtual 118, 3) := by decide +kernel
theorem dX7_fileOf_104 : decode cX7_fileOf 104 = .ok (.ireturn, 1) := by decide +kernel
theorem dX7_fileOf_105 : decode cX7_fileOf 105 = .ok (.iload 4, 2) := by decide +kernel
theorem dX7_fileOf_107 : decode cX7_fileOf 107 = .ok (.ireturn, 1) := by decide +kernel
theorem dX7_fileOf_108 : decode cX7_fileOf 108 = .ok (.iload_n 3, 1) := by decide +kernel
theorem dX7_fileOf_109 : decode cX7_fileOf 109 = .ok (.ireturn, 1) := by decide +kernel
theorem dX7_fileOf_110 : decode cX7_fileOf 110 = .ok (.aload_n 0, 1) := by decide +kernel
theorem dX7_fileOf_111 : decode cX7_fileOf 111 = .ok (.getfield 10, 3) := by decide +kernel
theorem dX7_fileOf_114 : decode cX7_fileOf 114 = .ok (.iload_n 1, 1) := by decide +kernel
theorem dX7_fileOf_115 : decode cX7_fileOf 115 = .ok (.iload 4, 2) := by decide +kernel
theorem dX7_fileOf_117 : decode cX7_fileOf 117 = .ok (.iconst 1, 1) := by decide +kernel
theorem dX7_fileOf_118 : decode cX7_fileOf 118 = .ok (.isub, 1) := by decide +kernel
theorem dX7_fileOf_119 : decode cX7_fileOf 119 = .ok (.invokevirtual 111, 3) := by decide +kernel
theorem dX7_fileOf_122 : decode cX7_fileOf 122 = .ok (.ireturn, 1) := by decide +kernel
theorem dX7_fileOf_123 : decode cX7_fileOf 123 = .ok (.aload_n 0, 1) := by decide +kernel
theorem dX7_fileOf_124 : decode cX7_fileOf 124 = .ok (.getfield 10, 3) := by decide +kernel
theorem dX7_fileOf_127 : decode cX7_fileOf 127 = .ok (.iload_n 3, 1) := by decide +kernel
theorem dX7_fileOf_128 : decode cX7_fileOf 128 = .ok (.invokevirtual 121, 3) := by decide +kernel
theorem dX7_fileOf_131 : decode cX7_fileOf 131 = .ok (.ifCond .eq 7, 3) := by decide +kernel
theorem dX7_fileOf_134 : decode cX7_fileOf 134 = .ok (.iconst 1, 1) := by decide +kernel
theorem dX7_fileOf_135 : decode cX7_fileOf 135 = .ok (.goto 4, 3) := by decide +kernel
theorem dX7_fileOf_138 : decode cX7_fileOf 138 = .ok (.iconst 0, 1) := by decide +kernel
theorem dX7_fileOf_139 : decode cX7_fileOf 139 = .ok (.ireturn, 1) := by decide +kernel
theorem dX7_fileOf_140 : decode cX7_fileOf 140 = .ok (.aload_n 0, 1) := by decide +kernel
theorem dX7_fileOf_141 : decode cX7_fileOf 141 = .ok (.getfield 10, 3) := by decide +kernel
theorem dX7_fileOf_144 : decode cX7_fileOf 144 = .ok (.iload_n 1, 1) := by decide +kernel
theorem dX7_fileOf_145 : decode cX7_fileOf 145 = .ok (.iload_n 2, 1) := by decide +kernel
theorem dX7_fileOf_146 : decode cX7_fileOf 146 = .ok (.bipush 10, 2) := by decide +kernel
theorem dX7_fileOf_148 : decode cX7_fileOf 148 = .ok (.isub, 1) := by decide +kernel
theorem dX7_fileOf_149 : decode cX7_fileOf 149 = .ok (.invokevirtual 111, 3) := by decide +kernel
theorem dX7_fileOf_152 : decode cX7_fileOf 152 = .ok (.invokestatic 124, 3) := by decide +kernel
theorem dX7_fileOf_155 : decode cX7_fileOf 155 = .ok (.ireturn, 1) := by decide +kernel
theorem dX7_pageOf_0 : decode cX7_pageOf 0 = .ok (.iload_n 1, 1) := by decide +kernel
theorem dX7_pageOf_1 : decode cX7_pageOf 1 = .ok (.invokestatic 74, 3) := by decide +kernel
theorem dX7_pageOf_4 : decode cX7_pageOf 4 = .ok (.ifCond .eq 13, 3) := by decide +kernel
theorem dX7_pageOf_7 : decode cX7_pageOf 7 = .ok (.iload_n 2, 1) := by decide +kernel
theorem dX7_pageOf_8 : decode cX7_pageOf 8 = .ok (.iconst 0, 1) := by decide +kernel
theorem dX7_pageOf_9 : decode cX7_pageOf 9 = .ok (.bipush 6, 2) := by decide +kernel
theorem dX7_pageOf_11 : decode cX7_pageOf 11 = .ok (.invokestatic 48, 3) := by decide +kernel
theorem dX7_pageOf_14 : decode cX7_pageOf 14 = .ok (.ifCond .ne 6, 3) := by decide +kernel
theorem dX7_pageOf_17 : decode cX7_pageOf 17 = .ok (.ldc 58, 2) := by decide +kernel
theorem dX7_pageOf_19 : decode cX7_pageOf 19 = .ok (.ireturn, 1) := by decide +kernel
theorem dX7_pageOf_20 : decode cX7_pageOf 20 = .ok (.iload_n 2, 1) := by decide +kernel
theorem dX7_pageOf_21 : decode cX7_pageOf 21 = .ok (.tableswitch 113 0 5 #[39, 56, 65, 77, 89, 101], 39) := by decide +kernel
theorem dX7_pageOf_60 : decode cX7_pageOf 60 = .ok (.aload_n 0, 1) := by decide +kernel
theorem dX7_pageOf_61 : decode cX7_pageOf 61 = .ok (.getfield 10, 3) := by decide +kernel
theorem dX7_pageOf_64 : decode cX7_pageOf 64 = .ok (.iload_n 1, 1) := by decide +kernel
theorem dX7_pageOf_65 : decode cX7_pageOf 65 = .ok (.invokevirtual 88, 3) := by decide +kernel
theorem dX7_pageOf_68 : decode cX7_pageOf 68 = .ok (.ifCond .eq 7, 3) := by decide +kernel
theorem dX7_pageOf_71 : decode cX7_pageOf 71 = .ok (.iconst 1, 1) := by decide +kernel
theorem dX7_pageOf_72 : decode cX7_pageOf 72 = .ok (.goto 4, 3) := by decide +kernel
theorem dX7_pageOf_75 : decode cX7_pageOf 75 = .ok (.iconst 0, 1) := by decide +kernel
theorem dX7_pageOf_76 : decode cX7_pageOf 76 = .ok (.ireturn, 1) := by decide +kernel
theorem dX7_pageOf_77 : decode cX7_pageOf 77 = .ok (.aload_n 0, 1) := by decide +kernel
theorem dX7_pageOf_78 : decode cX7_pageOf 78 = .ok (.getfield 10, 3) := by decide +kernel
theorem dX7_pageOf_81 : decode cX7_pageOf 81 = .ok (.iload_n 1, 1) := by decide +kernel
theorem dX7_pageOf_82 : decode cX7_pageOf 82 = .ok (.invokevirtual 127, 3) := by decide +kernel
theorem dX7_pageOf_85 : decode cX7_pageOf 85 = .ok (.ireturn, 1) := by decide +kernel
theorem dX7_pageOf_86 : decode cX7_pageOf 86 = .ok (.aload_n 0, 1) := by decide +kernel
theorem dX7_pageOf_87 : decode cX7_pageOf 87 = .ok (.getfield 10, 3) := by decide +kernel
theorem dX7_pageOf_90 : decode cX7_pageOf 90 = .ok (.iload_n 1, 1) := by decide +kernel
theorem dX7_pageOf_91 : decode cX7_pageOf 91 = .ok (.invokevirtual 118, 3) := by decide +kernel
theorem dX7_pageOf_94 : decode cX7_pageOf 94 = .ok (.invokestatic 124, 3) := by decide +kernel
theorem dX7_pageOf_97 : decode cX7_pageOf 97 = .ok (.ireturn, 1) := by decide +kernel
theorem dX7_pageOf_98 : decode cX7_pageOf 98 = .ok (.aload_n 0, 1) := by decide +kernel
theorem dX7_pageOf_99 : decode cX7_pageOf 99 = .ok (.getfield 10, 3) := by decide +kernel
theorem dX7_pageOf_102 : decode cX7_pageOf 102 = .ok (.iload_n 1, 1) := by decide +kernel
theorem dX7_pageOf_103 : decode cX7_pageOf 103 = .ok (.invokevirtual 115, 3) := by decide +kernel
theorem dX7_pageOf_106 : decode cX7_pageOf 106 = .ok (.invokestatic 124, 3) := by decide +kernel
theorem dX7_pageOf_109 : decode cX7_pageOf 109 = .ok (.ireturn, 1) := by decide +kernel
theorem dX7_pageOf_110 : decode cX7_pageOf 110 = .ok (.aload_n 0, 1) := by decide +kernel
theorem dX7_pageOf_111 : decode cX7_pageOf 111 = .ok (.getfield 10, 3) := by decide +kernel
theorem dX7_pageOf_114 : decode cX7_pageOf 114 = .ok (.iload_n 1, 1) := by decide +kernel
theorem dX7_pageOf_115 : decode cX7_pageOf 115 = .ok (.invokevirtual 130, 3) := by decide +kernel
theorem dX7_pageOf_118 : decode cX7_pageOf 118 = .ok (.invokestatic 124, 3) := by decide +kernel
theorem dX7_pageOf_121 : decode cX7_pageOf 121 = .ok (.ireturn, 1) := by decide +kernel
theorem dX7_pageOf_122 : decode cX7_pageOf 122 = .ok (.aload_n 0, 1) := by decide +kernel
theorem dX7_pageOf_123 : decode cX7_pageOf 123 = .ok (.getfield 10, 3) := by decide +kernel
theorem dX7_pageOf_126 : decode cX7_pageOf 126 = .ok (.iload_n 1, 1) := by decide +kernel
theorem dX7_pageOf_127 : decode cX7_pageOf 127 = .ok (.invokevirtual 133, 3) := by decide +kernel
theorem dX7_pageOf_130 : decode cX7_pageOf 130 = .ok (.invokestatic 124, 3) := by decide +kernel
theorem dX7_pageOf_133 : decode cX7_pageOf 133 = .ok (.ireturn, 1) := by decide +kernel
theorem dX7_pageOf_134 : decode cX7_pageOf 134 = .ok (.aload_n 0, 1) := by decide +kernel
theorem dX7_pageOf_135 : decode cX7_pageOf 135 = .ok (.getfield 19, 3) := by decide +kernel
theorem dX7_pageOf_138 : decode cX7_pageOf 138 = .ok (.aload_n 0, 1) := by decide +kernel
theorem dX7_pageOf_139 : decode cX7_pageOf 139 = .ok (.getfield 10, 3) := by decide +kernel
theorem dX7_pageOf_142 : decode cX7_pageOf 142 = .ok (.aload_n 0, 1) := by decide +kernel
theorem dX7_pageOf_143 : decode cX7_pageOf 143 = .ok (.getfield 10, 3) := by decide +kernel
theorem dX7_pageOf_146 : decode cX7_pageOf 146 = .ok (.invokevirtual 80, 3) := by decide +kernel
theorem dX7_pageOf_149 : decode cX7_pageOf 149 = .ok (.invokevirtual 136, 3) := by decide +kernel
theorem dX7_pageOf_152 : decode cX7_pageOf 152 = .ok (.aload_n 0, 1) := by decide +kernel
theorem dX7_pageOf_153 : decode cX7_pageOf 153 = .ok (.getfield 19, 3) := by decide +kernel
theorem dX7_pageOf_156 : decode cX7_pageOf 156 = .ok (.iload_n 1, 1) := by decide +kernel
theorem dX7_pageOf_157 : decode cX7_pageOf 157 = .ok (.invokevirtual 140, 3) := by decide +kernel
theorem dX7_pageOf_160 : decode cX7_pageOf 160 = .ok (.ireturn, 1) := by decide +kernel
theorem dX7_journalOf_0 : decode cX7_journalOf 0 = .ok (.iload_n 1, 1) := by decide +kernel
theorem dX7_journalOf_1 : decode cX7_journalOf 1 = .ok (.ifCond .lt 12, 3) := by decide +kernel
theorem dX7_journalOf_4 : decode cX7_journalOf 4 = .ok (.iload_n 2, 1) := by decide +kernel
theorem dX7_journalOf_5 : decode cX7_journalOf 5 = .ok (.iconst 0, 1) := by decide +kernel
theorem dX7_journalOf_6 : decode cX7_journalOf 6 = .ok (.iconst 2, 1) := by decide +kernel
theorem dX7_journalOf_7 : decode cX7_journalOf 7 = .ok (.invokestatic 48, 3) := by decide +kernel
theorem dX7_journalOf_10 : decode cX7_journalOf 10 = .ok (.ifCond .ne 6, 3) := by decide +kernel
theorem dX7_journalOf_13 : decode cX7_journalOf 13 = .ok (.ldc 58, 2) := by decide +kernel
theorem dX7_journalOf_15 : decode cX7_journalOf 15 = .ok (.ireturn, 1) := by decide +kernel
theorem dX7_journalOf_16 : decode cX7_journalOf 16 = .ok (.aload_n 0, 1) := by decide +kernel
theorem dX7_journalOf_17 : decode cX7_journalOf 17 = .ok (.getfield 10, 3) := by decide +kernel
theorem dX7_journalOf_20 : decode cX7_journalOf 20 = .ok (.getfield 95, 3) := by decide +kernel
theorem dX7_journalOf_23 : decode cX7_journalOf 23 = .ok (.astore_n 3, 1) := by decide +kernel
theorem dX7_journalOf_24 : decode cX7_journalOf 24 = .ok (.iload_n 2, 1) := by decide +kernel
theorem dX7_journalOf_25 : decode cX7_journalOf 25 = .ok (.lookupswitch 45 #[(0, 27), (1, 36)], 27) := by decide +kernel
theorem dX7_journalOf_52 : decode cX7_journalOf 52 = .ok (.aload_n 3, 1) := by decide +kernel
theorem dX7_journalOf_53 : decode cX7_journalOf 53 = .ok (.iload_n 1, 1) := by decide +kernel
theorem dX7_journalOf_54 : decode cX7_journalOf 54 = .ok (.invokevirtual 143, 3) := by decide +kernel
theorem dX7_journalOf_57 : decode cX7_journalOf 57 = .ok (.invokestatic 124, 3) := by decide +kernel
theorem dX7_journalOf_60 : decode cX7_journalOf 60 = .ok (.ireturn, 1) := by decide +kernel
theorem dX7_journalOf_61 : decode cX7_journalOf 61 = .ok (.aload_n 3, 1) := by decide +kernel
theorem dX7_journalOf_62 : decode cX7_journalOf 62 = .ok (.iload_n 1, 1) := by decide +kernel
theorem dX7_journalOf_63 : decode cX7_journalOf 63 = .ok (.invokevirtual 146, 3) := by decide +kernel
theorem dX7_journalOf_66 : decode cX7_journalOf 66 = .ok (.invokestatic 124, 3) := by decide +kernel
theorem dX7_journalOf_69 : decode cX7_journalOf 69 = .ok (.ireturn, 1) := by decide +kernel
theorem dX7_journalOf_70 : decode cX7_journalOf 70 = .ok (.aload_n 3, 1) := by decide +kernel
theorem dX7_journalOf_71 : decode cX7_journalOf 71 = .ok (.iload_n 1, 1) := by decide +kernel
theorem dX7_journalOf_72 : decode cX7_journalOf 72 = .ok (.invokevirtual 149, 3) := by decide +kernel
theorem dX7_journalOf_75 : decode cX7_journalOf 75 = .ok (.invokestatic 124, 3) := by decide +kernel
theorem dX7_journalOf_78 : decode cX7_journalOf 78 = .ok (.ireturn, 1) := by decide +kernel
theorem dX7_guessOf_0 : decode cX7_guessOf 0 = .ok (.iload_n 1, 1) := by decide +kernel
theorem dX7_guessOf_1 : decode cX7_guessOf 1 = .ok (.ifCond .lt 20, 3) := by decide +kernel
theorem dX7_guessOf_4 : decode cX7_guessOf 4 = .ok (.iload_n 2, 1) := by decide +kernel
theorem dX7_guessOf_5 : decode cX7_guessOf 5 = .ok (.iconst 0, 1) := by decide +kernel
theorem dX7_guessOf_6 : decode cX7_guessOf 6 = .ok (.bipush 7, 2) := by decide +kernel
theorem dX7_guessOf_8 : decode cX7_guessOf 8 = .ok (.invokestatic 48, 3) := by decide +kernel
theorem dX7_guessOf_11 : decode cX7_guessOf 11 = .ok (.ifCond .ne 13, 3) := by decide +kernel
theorem dX7_guessOf_14 : decode cX7_guessOf 14 = .ok (.iload_n 2, 1) := by decide +kernel
theorem dX7_guessOf_15 : decode cX7_guessOf 15 = .ok (.invokestatic 104, 3) := by decide +kernel
theorem dX7_guessOf_18 : decode cX7_guessOf 18 = .ok (.ifCond .ne 6, 3) := by decide +kernel
theorem dX7_guessOf_21 : decode cX7_guessOf 21 = .ok (.ldc 58, 2) := by decide +kernel
theorem dX7_guessOf_23 : decode cX7_guessOf 23 = .ok (.ireturn, 1) := by decide +kernel
theorem dX7_guessOf_24 : decode cX7_guessOf 24 = .ok (.aload_n 0, 1) := by decide +kernel
theorem dX7_guessOf_25 : decode cX7_guessOf 25 = .ok (.getfield 19, 3) := by decide +kernel
theorem dX7_guessOf_28 : decode cX7_guessOf 28 = .ok (.aload_n 0, 1) := by decide +kernel
theorem dX7_guessOf_29 : decode cX7_guessOf 29 = .ok (.getfield 10, 3) := by decide +kernel
theorem dX7_guessOf_32 : decode cX7_guessOf 32 = .ok (.aload_n 0, 1) := by decide +kernel
theorem dX7_guessOf_33 : decode cX7_guessOf 33 = .ok (.getfield 10, 3) := by decide +kernel
theorem dX7_guessOf_36 : decode cX7_guessOf 36 = .ok (.invokevirtual 80, 3) := by decide +kernel
theorem dX7_guessOf_39 : decode cX7_guessOf 39 = .ok (.invokevirtual 136, 3) := by decide +kernel
theorem dX7_guessOf_42 : decode cX7_guessOf 42 = .ok (.iload_n 1, 1) := by decide +kernel
theorem dX7_guessOf_43 : decode cX7_guessOf 43 = .ok (.aload_n 0, 1) := by decide +kernel
theorem dX7_guessOf_44 : decode cX7_guessOf 44 = .ok (.getfield 19, 3) := by decide +kernel
theorem dX7_guessOf_47 : decode cX7_guessOf 47 = .ok (.getfield 152, 3) := by decide +kernel
theorem dX7_guessOf_50 : decode cX7_guessOf 50 = .ok (.if_icmp .lt 6, 3) := by decide +kernel
theorem dX7_guessOf_53 : decode cX7_guessOf 53 = .ok (.ldc 110, 2) := by decide +kernel
theorem dX7_guessOf_55 : decode cX7_guessOf 55 = .ok (.ireturn, 1) := by decide +kernel
theorem dX7_guessOf_56 : decode cX7_guessOf 56 = .ok (.aload_n 0, 1) := by decide +kernel
theorem dX7_guessOf_57 : decode cX7_guessOf 57 = .ok (.getfield 19, 3) := by decide +kernel
theorem dX7_guessOf_60 : decode cX7_guessOf 60 = .ok (.aload_n 0, 1) := by decide +kernel
theorem dX7_guessOf_61 : decode cX7_guessOf 61 = .ok (.getfield 10, 3) := by decide +kernel
theorem dX7_guessOf_64 : decode cX7_guessOf 64 = .ok (.iload_n 1, 1) := by decide +kernel
theorem dX7_guessOf_65 : decode cX7_guessOf 65 = .ok (.invokevirtual 156, 3) := by decide +kernel
theorem dX7_guessOf_68 : decode cX7_guessOf 68 = .ok (.astore_n 3, 1) := by decide +kernel
theorem dX7_guessOf_69 : decode cX7_guessOf 69 = .ok (.iload_n 2, 1) := by decide +kernel
theorem dX7_guessOf_70 : decode cX7_guessOf 70 = .ok (.tableswitch 99 0 7 #[46, 54, 62, 67, 72, 80, 85, 90], 46) := by decide +kernel
theorem dX7_guessOf_116 : decode cX7_guessOf 116 = .ok (.aload_n 3, 1) := by decide +kernel
theorem dX7_guessOf_117 : decode cX7_guessOf 117 = .ok (.getfield 160, 3) := by decide +kernel
theorem dX7_guessOf_120 : decode cX7_guessOf 120 = .ok (.bipush 100, 2) := by decide +kernel
theorem dX7_guessOf_122 : decode cX7_guessOf 122 = .ok (.iadd, 1) := by decide +kernel
theorem dX7_guessOf_123 : decode cX7_guessOf 123 = .ok (.ireturn, 1) := by decide +kernel
theorem dX7_guessOf_124 : decode cX7_guessOf 124 = .ok (.aload_n 3, 1) := by decide +kernel
theorem dX7_guessOf_125 : decode cX7_guessOf 125 = .ok (.getfield 165, 3) := by decide +kernel
theorem dX7_guessOf_128 : decode cX7_guessOf 128 = .ok (.getfield 168, 3) := by decide +kernel
theorem dX7_guessOf_131 : decode cX7_guessOf 131 = .ok (.ireturn, 1) := by decide +kernel
theorem dX7_guessOf_132 : decode cX7_guessOf 132 = .ok (.aload_n 3, 1) := by decide +kernel
theorem dX7_guessOf_133 : decode cX7_guessOf 133 = .ok (.getfield 169, 3) := by decide +kernel
theorem dX7_guessOf_136 : decode cX7_guessOf 136 = .ok (.ireturn, 1) := by decide +kernel
theorem dX7_guessOf_137 : decode cX7_guessOf 137 = .ok (.aload_n 3, 1) := by decide +kernel
theorem dX7_guessOf_138 : decode cX7_guessOf 138 = .ok (.getfield 172, 3) := by decide +kernel
theorem dX7_guessOf_141 : decode cX7_guessOf 141 = .ok (.ireturn, 1) := by decide +kernel
theorem dX7_guessOf_142 : decode cX7_guessOf 142 = .ok (.aload_n 3, 1) := by decide +kernel
theorem dX7_guessOf_143 : decode cX7_guessOf 143 = .ok (.getfield 175, 3) := by decide +kernel
theorem dX7_guessOf_146 : decode cX7_guessOf 146 = .ok (.invokestatic 124, 3) := by decide +kernel
theorem dX7_guessOf_149 : decode cX7_guessOf 149 = .ok (.ireturn, 1) := by decide +kernel
theorem dX7_guessOf_150 : decode cX7_guessOf 150 = .ok (.aload_n 3, 1) := by decide +kernel
theorem dX7_guessOf_151 : decode cX7_guessOf 151 = .ok (.getfield 178, 3) := by decide +kernel
theorem dX7_guessOf_154 : decode cX7_guessOf 154 = .ok (.ireturn, 1) := by decide +kernel
theorem dX7_guessOf_155 : decode cX7_guessOf 155 = .ok (.aload_n 3, 1) := by decide +kernel
theorem dX7_guessOf_156 : decode cX7_guessOf 156 = .ok (.getfield 181, 3) := by decide +kernel
theorem dX7_guessOf_159 : decode cX7_guessOf 159 = .ok (.ireturn, 1) := by decide +kernel
theorem dX7_guessOf_160 : decode cX7_guessOf 160 = .ok (.aload_n 0, 1) := by decide +kernel
theorem dX7_guessOf_161 : decode cX7_guessOf 161 = .ok (.getfield 19, 3) := by decide +kernel
theorem dX7_guessOf_164 : decode cX7_guessOf 164 = .ok (.iload_n 1, 1) := by decide +kernel
theorem dX7_guessOf_165 : decode cX7_guessOf 165 = .ok (.invokevirtual 184, 3) := by decide +kernel
theorem dX7_guessOf_168 : decode cX7_guessOf 168 = .ok (.ireturn, 1) := by decide +kernel
theorem dX7_guessOf_169 : decode cX7_guessOf 169 = .ok (.aload_n 3, 1) := by decide +kernel
theorem dX7_guessOf_170 : decode cX7_guessOf 170 = .ok (.getfield 165, 3) := by decide +kernel
theorem dX7_guessOf_173 : decode cX7_guessOf 173 = .ok (.iload_n 2, 1) := by decide +kernel
theorem dX7_guessOf_174 : decode cX7_guessOf 174 = .ok (.bipush 10, 2) := by decide +kernel
theorem dX7_guessOf_176 : decode cX7_guessOf 176 = .ok (.isub, 1) := by decide +kernel
theorem dX7_guessOf_177 : decode cX7_guessOf 177 = .ok (.invokevirtual 187, 3) := by decide +kernel
theorem dX7_guessOf_180 : decode cX7_guessOf 180 = .ok (.invokestatic 124, 3) := by decide +kernel
theorem dX7_guessOf_183 : decode cX7_guessOf 183 = .ok (.ireturn, 1) := by decide +kernel
theorem dX7_claim_0 : decode cX7_claim 0 = .ok (.iload_n 1, 1) := by decide +kernel
theorem dX7_claim_1 : decode cX7_claim 1 = .ok (.ifCond .lt 15, 3) := by decide +kernel
theorem dX7_claim_4 : decode cX7_claim 4 = .ok (.iload_n 2, 1) := by decide +kernel
theorem dX7_claim_5 : decode cX7_claim 5 = .ok (.iconst (-1), 1) := by decide +kernel
theorem dX7_claim_6 : decode cX7_claim 6 = .ok (.if_icmp .eq 13, 3) := by decide +kernel
theorem dX7_claim_9 : decode cX7_claim 9 = .ok (.iload_n 2, 1) := by decide +kernel
theorem dX7_claim_10 : decode cX7_claim 10 = .ok (.invokestatic 44, 3) := by decide +kernel
theorem dX7_claim_13 : decode cX7_claim 13 = .ok (.ifCond .ne 6, 3) := by decide +kernel
theorem dX7_claim_16 : decode cX7_claim 16 = .ok (.ldc 58, 2) := by decide +kernel
theorem dX7_claim_18 : decode cX7_claim 18 = .ok (.ireturn, 1) := by decide +kernel
theorem dX7_claim_19 : decode cX7_claim 19 = .ok (.aload_n 0, 1) := by decide +kernel
theorem dX7_claim_20 : decode cX7_claim 20 = .ok (.getfield 26, 3) := by decide +kernel
theorem dX7_claim_23 : decode cX7_claim 23 = .ok (.aload_n 0, 1) := by decide +kernel
theorem dX7_claim_24 : decode cX7_claim 24 = .ok (.getfield 10, 3) := by decide +kernel
theorem dX7_claim_27 : decode cX7_claim 27 = .ok (.invokevirtual 59, 3) := by decide +kernel
theorem dX7_claim_30 : decode cX7_claim 30 = .ok (.aload_n 0, 1) := by decide +kernel
theorem dX7_claim_31 : decode cX7_claim 31 = .ok (.aload_n 0, 1) := by decide +kernel
theorem dX7_claim_32 : decode cX7_claim 32 = .ok (.iload_n 1, 1) := by decide +kernel
theorem dX7_claim_33 : decode cX7_claim 33 = .ok (.iload_n 2, 1) := by decide +kernel
theorem dX7_claim_34 : decode cX7_claim 34 = .ok (.invokevirtual 190, 3) := by decide +kernel
theorem dX7_claim_37 : decode cX7_claim 37 = .ok (.invokevirtual 67, 3) := by decide +kernel
theorem dX7_claim_40 : decode cX7_claim 40 = .ok (.ireturn, 1) := by decide +kernel
theorem dX7_bestGuesses_0 : decode cX7_bestGuesses 0 = .ok (.iload_n 1, 1) := by decide +kernel
theorem dX7_bestGuesses_1 : decode cX7_bestGuesses 1 = .ok (.iconst 0, 1) := by decide +kernel
theorem dX7_bestGuesses_2 : decode cX7_bestGuesses 2 = .ok (.iconst 1, 1) := by decide +kernel
theorem dX7_bestGuesses_3 : decode cX7_bestGuesses 3 = .ok (.invokestatic 48, 3) := by decide +kernel
theorem dX7_bestGuesses_6 : decode cX7_bestGuesses 6 = .ok (.ifCond .ne 6, 3) := by decide +kernel
theorem dX7_bestGuesses_9 : decode cX7_bestGuesses 9 = .ok (.ldc 58, 2) := by decide +kernel
theorem dX7_bestGuesses_11 : decode cX7_bestGuesses 11 = .ok (.ireturn, 1) := by decide +kernel
theorem dX7_bestGuesses_12 : decode cX7_bestGuesses 12 = .ok (.aload_n 0, 1) := by decide +kernel
theorem dX7_bestGuesses_13 : decode cX7_bestGuesses 13 = .ok (.getfield 19, 3) := by decide +kernel
theorem dX7_bestGuesses_16 : decode cX7_bestGuesses 16 = .ok (.aload_n 0, 1) := by decide +kernel
theorem dX7_bestGuesses_17 : decode cX7_bestGuesses 17 = .ok (.getfield 10, 3) := by decide +kernel
theorem dX7_bestGuesses_20 : decode cX7_bestGuesses 20 = .ok (.aload_n 0, 1) := by decide +kernel
theorem dX7_bestGuesses_21 : decode cX7_bestGuesses 21 = .ok (.getfield 10, 3) := by decide +kernel
theorem dX7_bestGuesses_24 : decode cX7_bestGuesses 24 = .ok (.invokevirtual 80, 3) := by decide +kernel
theorem dX7_bestGuesses_27 : decode cX7_bestGuesses 27 = .ok (.invokevirtual 136, 3) := by decide +kernel
theorem dX7_bestGuesses_30 : decode cX7_bestGuesses 30 = .ok (.aload_n 0, 1) := by decide +kernel
theorem dX7_bestGuesses_31 : decode cX7_bestGuesses 31 = .ok (.getfield 19, 3) := by decide +kernel
theorem dX7_bestGuesses_34 : decode cX7_bestGuesses 34 = .ok (.invokevirtual 193, 3) := by decide +kernel
theorem dX7_bestGuesses_37 : decode cX7_bestGuesses 37 = .ok (.iload_n 1, 1) := by decide +kernel
theorem dX7_bestGuesses_38 : decode cX7_bestGuesses 38 = .ok (.ifCond .ne 13, 3) := by decide +kernel
theorem dX7_bestGuesses_41 : decode cX7_bestGuesses 41 = .ok (.aload_n 0, 1) := by decide +kernel
theorem dX7_bestGuesses_42 : decode cX7_bestGuesses 42 = .ok (.getfield 19, 3) := by decide +kernel
theorem dX7_bestGuesses_45 : decode cX7_bestGuesses 45 = .ok (.getfield 196, 3) := by decide +kernel
theorem dX7_bestGuesses_48 : decode cX7_bestGuesses 48 = .ok (.goto 10, 3) := by decide +kernel
theorem dX7_bestGuesses_51 : decode cX7_bestGuesses 51 = .ok (.aload_n 0, 1) := by decide +kernel
theorem dX7_bestGuesses_52 : decode cX7_bestGuesses 52 = .ok (.getfield 19, 3) := by decide +kernel
theorem dX7_bestGuesses_55 : decode cX7_bestGuesses 55 = .ok (.getfield 199, 3) := by decide +kernel
theorem dX7_bestGuesses_58 : decode cX7_bestGuesses 58 = .ok (.ireturn, 1) := by decide +kernel
theorem dX7_would_0 : decode cX7_would 0 = .ok (.iload_n 1, 1) := by decide +kernel
theorem dX7_would_1 : decode cX7_would 1 = .ok (.invokestatic 52, 3) := by decide +kernel
theorem dX7_would_4 : decode cX7_would 4 = .ok (.ifCond .eq 19, 3) := by decide +kernel
theorem dX7_would_7 : decode cX7_would 7 = .ok (.iload_n 2, 1) := by decide +kernel
theorem dX7_would_8 : decode cX7_would 8 = .ok (.invokestatic 55, 3) := by decide +kernel
theorem dX7_would_11 : decode cX7_would 11 = .ok (.ifCond .eq 12, 3) := by decide +kernel
theorem dX7_would_14 : decode cX7_would 14 = .ok (.iload_n 3, 1) := by decide +kernel
theorem dX7_would_15 : decode cX7_would 15 = .ok (.iconst 0, 1) := by decide +kernel
theorem dX7_would_16 : decode cX7_would 16 = .ok (.iconst 3, 1) := by decide +kernel
theorem dX7_would_17 : decode cX7_would 17 = .ok (.invokestatic 48, 3) := by decide +kernel
theorem dX7_would_20 : decode cX7_would 20 = .ok (.ifCond .ne 6, 3) := by decide +kernel
theorem dX7_would_23 : decode cX7_would 23 = .ok (.ldc 58, 2) := by decide +kernel
theorem dX7_would_25 : decode cX7_would 25 = .ok (.ireturn, 1) := by decide +kernel
theorem dX7_would_26 : decode cX7_would 26 = .ok (.aload_n 0, 1) := by decide +kernel
theorem dX7_would_27 : decode cX7_would 27 = .ok (.getfield 10, 3) := by decide +kernel
theorem dX7_would_30 : decode cX7_would 30 = .ok (.invokevirtual 202, 3) := by decide +kernel
theorem dX7_would_33 : decode cX7_would 33 = .ok (.iload_n 1, 1) := by decide +kernel
theorem dX7_would_34 : decode cX7_would 34 = .ok (.if_icmp .ge 6, 3) := by decide +kernel
theorem dX7_would_37 : decode cX7_would 37 = .ok (.ldc 206, 2) := by decide +kernel
theorem dX7_would_39 : decode cX7_would 39 = .ok (.ireturn, 1) := by decide +kernel
theorem dX7_would_40 : decode cX7_would 40 = .ok (.aload_n 0, 1) := by decide +kernel
theorem dX7_would_41 : decode cX7_would 41 = .ok (.getfield 40, 3) := by decide +kernel
theorem dX7_would_44 : decode cX7_would 44 = .ok (.aload_n 0, 1) := by decide +kernel
theorem dX7_would_45 : decode cX7_would 45 = .ok (.getfield 10, 3) := by decide +kernel
theorem dX7_would_48 : decode cX7_would 48 = .ok (.iload_n 1, 1) := by decide +kernel
theorem dX7_would_49 : decode cX7_would 49 = .ok (.iload_n 2, 1) := by decide +kernel
theorem dX7_would_50 : decode cX7_would 50 = .ok (.invokevirtual 207, 3) := by decide +kernel
theorem dX7_would_53 : decode cX7_would 53 = .ok (.iload_n 3, 1) := by decide +kernel
theorem dX7_would_54 : decode cX7_would 54 = .ok (.ifCond .ne 12, 3) := by decide +kernel
theorem dX7_would_57 : decode cX7_would 57 = .ok (.aload_n 0, 1) := by decide +kernel
theorem dX7_would_58 : decode cX7_would 58 = .ok (.getfield 40, 3) := by decide +kernel
theorem dX7_would_61 : decode cX7_would 61 = .ok (.iconst 0, 1) := by decide +kernel
theorem dX7_would_62 : decode cX7_would 62 = .ok (.invokevirtual 187, 3) := by decide +kernel
theorem dX7_would_65 : decode cX7_would 65 = .ok (.ireturn, 1) := by decide +kernel
theorem dX7_would_66 : decode cX7_would 66 = .ok (.iload_n 3, 1) := by decide +kernel
theorem dX7_would_67 : decode cX7_would 67 = .ok (.iconst 1, 1) := by decide +kernel
theorem dX7_would_68 : decode cX7_would 68 = .ok (.if_icmp .ne 18, 3) := by decide +kernel
theorem dX7_would_71 : decode cX7_would 71 = .ok (.aload_n 0, 1) := by decide +kernel
theorem dX7_would_72 : decode cX7_would 72 = .ok (.getfield 10, 3) := by decide +kernel
theorem dX7_would_75 : decode cX7_would 75 = .ok (.aload_n 0, 1) := by decide +kernel
theorem dX7_would_76 : decode cX7_would 76 = .ok (.getfield 40, 3) := by decide +kernel
theorem dX7_would_79 : decode cX7_would 79 = .ok (.invokevirtual 211, 3) := by decide +kernel
theorem dX7_would_82 : decode cX7_would 82 = .ok (.invokevirtual 84, 3) := by decide +kernel
theorem dX7_would_85 : decode cX7_would 85 = .ok (.ireturn, 1) := by decide +kernel
theorem dX7_would_86 : decode cX7_would 86 = .ok (.aload_n 0, 1) := by decide +kernel
theorem dX7_would_87 : decode cX7_would 87 = .ok (.getfield 19, 3) := by decide +kernel
theorem dX7_would_90 : decode cX7_would 90 = .ok (.aload_n 0, 1) := by decide +kernel
theorem dX7_would_91 : decode cX7_would 91 = .ok (.getfield 10, 3) := by decide +kernel
theorem dX7_would_94 : decode cX7_would 94 = .ok (.aload_n 0, 1) := by decide +kernel
theorem dX7_would_95 : decode cX7_would 95 = .ok (.getfield 10, 3) := by decide +kernel
theorem dX7_would_98 : decode cX7_would 98 = .ok (.invokevirtual 80, 3) := by decide +kernel
theorem dX7_would_101 : decode cX7_would 101 = .ok (.aload_n 0, 1) := by decide +kernel
theorem dX7_would_102 : decode cX7_would 102 = .ok (.getfield 40, 3) := by decide +kernel
theorem dX7_would_105 : decode cX7_would 105 = .ok (.invokevirtual 211, 3) := by decide +kernel
theorem dX7_would_108 : decode cX7_would 108 = .ok (.ldc2_w 214, 3) := by decide +kernel
theorem dX7_would_111 : decode cX7_would 111 = .ok (.lxor, 1) := by decide +kernel
theorem dX7_would_112 : decode cX7_would 112 = .ok (.land, 1) := by decide +kernel
theorem dX7_would_113 : decode cX7_would 113 = .ok (.invokevirtual 136, 3) := by decide +kernel
theorem dX7_would_116 : decode cX7_would 116 = .ok (.iload_n 3, 1) := by decide +kernel
theorem dX7_would_117 : decode cX7_would 117 = .ok (.iconst 2, 1) := by decide +kernel
theorem dX7_would_118 : decode cX7_would 118 = .ok (.if_icmp .ne 13, 3) := by decide +kernel
theorem dX7_would_121 : decode cX7_would 121 = .ok (.aload_n 0, 1) := by decide +kernel
theorem dX7_would_122 : decode cX7_would 122 = .ok (.getfield 19, 3) := by decide +kernel
theorem dX7_would_125 : decode cX7_would 125 = .ok (.getfield 152, 3) := by decide +kernel
theorem dX7_would_128 : decode cX7_would 128 = .ok (.goto 14, 3) := by decide +kernel
theorem dX7_would_131 : decode cX7_would 131 = .ok (.aload_n 0, 1) := by decide +kernel
theorem dX7_would_132 : decode cX7_would 132 = .ok (.getfield 19, 3) := by decide +kernel
theorem dX7_would_135 : decode cX7_would 135 = .ok (.invokevirtual 216, 3) := by decide +kernel
theorem dX7_would_138 : decode cX7_would 138 = .ok (.sipush 3000, 3) := by decide +kernel
theorem dX7_would_141 : decode cX7_would 141 = .ok (.iadd, 1) := by decide +kernel
theorem dX7_would_142 : decode cX7_would 142 = .ok (.ireturn, 1) := by decide +kernel
theorem dX7_gentlest_0 : decode cX7_gentlest 0 = .ok (.iload_n 1, 1) := by decide +kernel
theorem dX7_gentlest_1 : decode cX7_gentlest 1 = .ok (.invokestatic 52, 3) := by decide +kernel
theorem dX7_gentlest_4 : decode cX7_gentlest 4 = .ok (.ifCond .ne 6, 3) := by decide +kernel
theorem dX7_gentlest_7 : decode cX7_gentlest 7 = .ok (.ldc 58, 2) := by decide +kernel
theorem dX7_gentlest_9 : decode cX7_gentlest 9 = .ok (.ireturn, 1) := by decide +kernel
theorem dX7_gentlest_10 : decode cX7_gentlest 10 = .ok (.aload_n 0, 1) := by decide +kernel
theorem dX7_gentlest_11 : decode cX7_gentlest 11 = .ok (.getfield 10, 3) := by decide +kernel
theorem dX7_gentlest_14 : decode cX7_gentlest 14 = .ok (.invokevirtual 202, 3) := by decide +kernel
theorem dX7_gentlest_17 : decode cX7_gentlest 17 = .ok (.iload_n 1, 1) := by decide +kernel
theorem dX7_gentlest_18 : decode cX7_gentlest 18 = .ok (.if_icmp .ge 6, 3) := by decide +kernel
theorem dX7_gentlest_21 : decode cX7_gentlest 21 = .ok (.ldc 206, 2) := by decide +kernel
theorem dX7_gentlest_23 : decode cX7_gentlest 23 = .ok (.ireturn, 1) := by decide +kernel
theorem dX7_gentlest_24 : decode cX7_gentlest 24 = .ok (.iconst 0, 1) := by decide +kernel
theorem dX7_gentlest_25 : decode cX7_gentlest 25 = .ok (.istore_n 2, 1) := by decide +kernel
theorem dX7_gentlest_26 : decode cX7_gentlest 26 = .ok (.iconst 0, 1) := by decide +kernel
theorem dX7_gentlest_27 : decode cX7_gentlest 27 = .ok (.istore_n 3, 1) := by decide +kernel
theorem dX7_gentlest_28 : decode cX7_gentlest 28 = .ok (.iconst 0, 1) := by decide +kernel
theorem dX7_gentlest_29 : decode cX7_gentlest 29 = .ok (.istore 4, 2) := by decide +kernel
theorem dX7_gentlest_31 : decode cX7_gentlest 31 = .ok (.iload 4, 2) := by decide +kernel
theorem dX7_gentlest_33 : decode cX7_gentlest 33 = .ok (.iconst 3, 1) := by decide +kernel
theorem dX7_gentlest_34 : decode cX7_gentlest 34 = .ok (.if_icmp .ge 79, 3) := by decide +kernel
theorem dX7_gentlest_37 : decode cX7_gentlest 37 = .ok (.aload_n 0, 1) := by decide +kernel
theorem dX7_gentlest_38 : decode cX7_gentlest 38 = .ok (.getfield 40, 3) := by decide +kernel
theorem dX7_gentlest_41 : decode cX7_gentlest 41 = .ok (.aload_n 0, 1) := by decide +kernel
theorem dX7_gentlest_42 : decode cX7_gentlest 42 = .ok (.getfield 10, 3) := by decide +kernel
theorem dX7_gentlest_45 : decode cX7_gentlest 45 = .ok (.iload_n 1, 1) := by decide +kernel
theorem dX7_gentlest_46 : decode cX7_gentlest 46 = .ok (.iload 4, 2) := by decide +kernel
theorem dX7_gentlest_48 : decode cX7_gentlest 48 = .ok (.invokevirtual 207, 3) := by decide +kernel
theorem dX7_gentlest_51 : decode cX7_gentlest 51 = .ok (.aload_n 0, 1) := by decide +kernel
theorem dX7_gentlest_52 : decode cX7_gentlest 52 = .ok (.getfield 19, 3) := by decide +kernel
theorem dX7_gentlest_55 : decode cX7_gentlest 55 = .ok (.aload_n 0, 1) := by decide +kernel
theorem dX7_gentlest_56 : decode cX7_gentlest 56 = .ok (.getfield 10, 3) := by decide +kernel
theorem dX7_gentlest_59 : decode cX7_gentlest 59 = .ok (.aload_n 0, 1) := by decide +kernel
theorem dX7_gentlest_60 : decode cX7_gentlest 60 = .ok (.getfield 10, 3) := by decide +kernel
theorem dX7_gentlest_63 : decode cX7_gentlest 63 = .ok (.invokevirtual 80, 3) := by decide +kernel
theorem dX7_gentlest_66 : decode cX7_gentlest 66 = .ok (.aload_n 0, 1) := by decide +kernel
theorem dX7_gentlest_67 : decode cX7_gentlest 67 = .ok (.getfield 40, 3) := by decide +kernel
theorem dX7_gentlest_70 : decode cX7_gentlest 70 = .ok (.invokevirtual 211, 3) := by decide +kernel
theorem dX7_gentlest_73 : decode cX7_gentlest 73 = .ok (.ldc2_w 214, 3) := by decide +kernel
theorem dX7_gentlest_76 : decode cX7_gentlest 76 = .ok (.lxor, 1) := by decide +kernel
theorem dX7_gentlest_77 : decode cX7_gentlest 77 = .ok (.land, 1) := by decide +kernel
theorem dX7_gentlest_78 : decode cX7_gentlest 78 = .ok (.invokevirtual 136, 3) := by decide +kernel
theorem dX7_gentlest_81 : decode cX7_gentlest 81 = .ok (.aload_n 0, 1) := by decide +kernel
theorem dX7_gentlest_82 : decode cX7_gentlest 82 = .ok (.getfield 19, 3) := by decide +kernel
theorem dX7_gentlest_85 : decode cX7_gentlest 85 = .ok (.invokevirtual 216, 3) := by decide +kernel
theorem dX7_gentlest_88 : decode cX7_gentlest 88 = .ok (.istore 5, 2) := by decide +kernel
theorem dX7_gentlest_90 : decode cX7_gentlest 90 = .ok (.iload 4, 2) := by decide +kernel
theorem dX7_gentlest_92 : decode cX7_gentlest 92 = .ok (.ifCond .eq 9, 3) := by decide +kernel
theorem dX7_gentlest_95 : decode cX7_gentlest 95 = .ok (.iload 5, 2) := by decide +kernel
theorem dX7_gentlest_97 : decode cX7_gentlest 97 = .ok (.iload_n 3, 1) := by decide +kernel
theorem dX7_gentlest_98 : decode cX7_gentlest 98 = .ok (.if_icmp .le 9, 3) := by decide +kernel
theorem dX7_gentlest_101 : decode cX7_gentlest 101 = .ok (.iload 4, 2) := by decide +kernel
theorem dX7_gentlest_103 : decode cX7_gentlest 103 = .ok (.istore_n 2, 1) := by decide +kernel
theorem dX7_gentlest_104 : decode cX7_gentlest 104 = .ok (.iload 5, 2) := by decide +kernel
theorem dX7_gentlest_106 : decode cX7_gentlest 106 = .ok (.istore_n 3, 1) := by decide +kernel
theorem dX7_gentlest_107 : decode cX7_gentlest 107 = .ok (.iinc 4 1, 3) := by decide +kernel
theorem dX7_gentlest_110 : decode cX7_gentlest 110 = .ok (.goto (-79), 3) := by decide +kernel
theorem dX7_gentlest_113 : decode cX7_gentlest 113 = .ok (.iload_n 2, 1) := by decide +kernel
theorem dX7_gentlest_114 : decode cX7_gentlest 114 = .ok (.ireturn, 1) := by decide +kernel
theorem dX7_count_0 : decode cX7_count 0 = .ok (.iload_n 1, 1) := by decide +kernel
theorem dX7_count_1 : decode cX7_count 1 = .ok (.tableswitch 221 0 12 #[67, 75, 83, 98, 124, 135, 165, 173, 181, 189, 197, 205, 213], 67) := by decide +kernel
theorem dX7_count_68 : decode cX7_count 68 = .ok (.aload_n 0, 1) := by decide +kernel
theorem dX7_count_69 : decode cX7_count 69 = .ok (.getfield 10, 3) := by decide +kernel
theorem dX7_count_72 : decode cX7_count 72 = .ok (.invokevirtual 202, 3) := by decide +kernel
theorem dX7_count_75 : decode cX7_count 75 = .ok (.ireturn, 1) := by decide +kernel
theorem dX7_count_76 : decode cX7_count 76 = .ok (.aload_n 0, 1) := by decide +kernel
theorem dX7_count_77 : decode cX7_count 77 = .ok (.getfield 10, 3) := by decide +kernel
theorem dX7_count_80 : decode cX7_count 80 = .ok (.invokevirtual 219, 3) := by decide +kernel
theorem dX7_count_83 : decode cX7_count 83 = .ok (.ireturn, 1) := by decide +kernel
theorem dX7_count_84 : decode cX7_count 84 = .ok (.aload_n 0, 1) := by decide +kernel
theorem dX7_count_85 : decode cX7_count 85 = .ok (.getfield 10, 3) := by decide +kernel
theorem dX7_count_88 : decode cX7_count 88 = .ok (.aload_n 0, 1) := by decide +kernel
theorem dX7_count_89 : decode cX7_count 89 = .ok (.getfield 10, 3) := by decide +kernel
theorem dX7_count_92 : decode cX7_count 92 = .ok (.invokevirtual 80, 3) := by decide +kernel
theorem dX7_count_95 : decode cX7_count 95 = .ok (.invokevirtual 84, 3) := by decide +kernel
theorem dX7_count_98 : decode cX7_count 98 = .ok (.ireturn, 1) := by decide +kernel
theorem dX7_count_99 : decode cX7_count 99 = .ok (.aload_n 0, 1) := by decide +kernel
theorem dX7_count_100 : decode cX7_count 100 = .ok (.getfield 19, 3) := by decide +kernel
theorem dX7_count_103 : decode cX7_count 103 = .ok (.aload_n 0, 1) := by decide +kernel
theorem dX7_count_104 : decode cX7_count 104 = .ok (.getfield 10, 3) := by decide +kernel
theorem dX7_count_107 : decode cX7_count 107 = .ok (.aload_n 0, 1) := by decide +kernel
theorem dX7_count_108 : decode cX7_count 108 = .ok (.getfield 10, 3) := by decide +kernel
theorem dX7_count_111 : decode cX7_count 111 = .ok (.invokevirtual 80, 3) := by decide +kernel
theorem dX7_count_114 : decode cX7_count 114 = .ok (.invokevirtual 136, 3) := by decide +kernel
theorem dX7_count_117 : decode cX7_count 117 = .ok (.aload_n 0, 1) := by decide +kernel
theorem dX7_count_118 : decode cX7_count 118 = .ok (.getfield 19, 3) := by decide +kernel
theorem dX7_count_121 : decode cX7_count 121 = .ok (.getfield 152, 3) := by decide +kernel
theorem dX7_count_124 : decode cX7_count 124 = .ok (.ireturn, 1) := by decide +kernel
theorem dX7_count_125 : decode cX7_count 125 = .ok (.aload_n 0, 1) := by decide +kernel
theorem dX7_count_126 : decode cX7_count 126 = .ok (.getfield 10, 3) := by decide +kernel
theorem dX7_count_129 : decode cX7_count 129 = .ok (.getfield 95, 3) := by decide +kernel
theorem dX7_count_132 : decode cX7_count 132 = .ok (.getfield 222, 3) := by decide +kernel
theorem dX7_count_135 : decode cX7_count 135 = .ok (.ireturn, 1) := by decide +kernel
theorem dX7_count_136 : decode cX7_count 136 = .ok (.aload_n 0, 1) := by decide +kernel
theorem dX7_count_137 : decode cX7_count 137 = .ok (.getfield 19, 3) := by decide +kernel
theorem dX7_count_140 : decode cX7_count 140 = .ok (.aload_n 0, 1) := by decide +kernel
theorem dX7_count_141 : decode cX7_count 141 = .ok (.getfield 10, 3) := by decide +kernel
theorem dX7_count_144 : decode cX7_count 144 = .ok (.aload_n 0, 1) := by decide +kernel
theorem dX7_count_145 : decode cX7_count 145 = .ok (.getfield 10, 3) := by decide +kernel
theorem dX7_count_148 : decode cX7_count 148 = .ok (.invokevirtual 80, 3) := by decide +kernel
theorem dX7_count_151 : decode cX7_count 151 = .ok (.invokevirtual 136, 3) := by decide +kernel
theorem dX7_count_154 : decode cX7_count 154 = .ok (.aload_n 0, 1) := by decide +kernel
theorem dX7_count_155 : decode cX7_count 155 = .ok (.getfield 19, 3) := by decide +kernel
theorem dX7_count_158 : decode cX7_count 158 = .ok (.invokevirtual 216, 3) := by decide +kernel
theorem dX7_count_161 : decode cX7_count 161 = .ok (.sipush 3000, 3) := by decide +kernel
theorem dX7_count_164 : decode cX7_count 164 = .ok (.iadd, 1) := by decide +kernel
theorem dX7_count_165 : decode cX7_count 165 = .ok (.ireturn, 1) := by decide +kernel
theorem dX7_count_166 : decode cX7_count 166 = .ok (.aload_n 0, 1) := by decide +kernel
theorem dX7_count_167 : decode cX7_count 167 = .ok (.getfield 10, 3) := by decide +kernel
theorem dX7_count_170 : decode cX7_count 170 = .ok (.getfield 223, 3) := by decide +kernel
theorem dX7_count_173 : decode cX7_count 173 = .ok (.ireturn, 1) := by decide +kernel
theorem dX7_count_174 : decode cX7_count 174 = .ok (.aload_n 0, 1) := by decide +kernel
theorem dX7_count_175 : decode cX7_count 175 = .ok (.getfield 10, 3) := by decide +kernel
theorem dX7_count_178 : decode cX7_count 178 = .ok (.getfield 226, 3) := by decide +kernel
theorem dX7_count_181 : decode cX7_count 181 = .ok (.ireturn, 1) := by decide +kernel
theorem dX7_count_182 : decode cX7_count 182 = .ok (.aload_n 0, 1) := by decide +kernel
theorem dX7_count_183 : decode cX7_count 183 = .ok (.getfield 10, 3) := by decide +kernel
theorem dX7_count_186 : decode cX7_count 186 = .ok (.getfield 229, 3) := by decide +kernel
theorem dX7_count_189 : decode cX7_count 189 = .ok (.ireturn, 1) := by decide +kernel
theorem dX7_count_190 : decode cX7_count 190 = .ok (.aload_n 0, 1) := by decide +kernel
theorem dX7_count_191 : decode cX7_count 191 = .ok (.getfield 10, 3) := by decide +kernel
theorem dX7_count_194 : decode cX7_count 194 = .ok (.invokevirtual 232, 3) := by decide +kernel
theorem dX7_count_197 : decode cX7_count 197 = .ok (.ireturn, 1) := by decide +kernel
theorem dX7_count_198 : decode cX7_count 198 = .ok (.aload_n 0, 1) := by decide +kernel
theorem dX7_count_199 : decode cX7_count 199 = .ok (.getfield 10, 3) := by decide +kernel
theorem dX7_count_202 : decode cX7_count 202 = .ok (.invokevirtual 235, 3) := by decide +kernel
theorem dX7_count_205 : decode cX7_count 205 = .ok (.ireturn, 1) := by decide +kernel
theorem dX7_count_206 : decode cX7_count 206 = .ok (.aload_n 0, 1) := by decide +kernel
theorem dX7_count_207 : decode cX7_count 207 = .ok (.getfield 26, 3) := by decide +kernel
theorem dX7_count_210 : decode cX7_count 210 = .ok (.getfield 238, 3) := by decide +kernel
theorem dX7_count_213 : decode cX7_count 213 = .ok (.ireturn, 1) := by decide +kernel
theorem dX7_count_214 : decode cX7_count 214 = .ok (.aload_n 0, 1) := by decide +kernel
theorem dX7_count_215 : decode cX7_count 215 = .ok (.getfield 33, 3) := by decide +kernel
theorem dX7_count_218 : decode cX7_count 218 = .ok (.getfield 239, 3) := by decide +kernel
theorem dX7_count_221 : decode cX7_count 221 = .ok (.ireturn, 1) := by decide +kernel
theorem dX7_count_222 : decode cX7_count 222 = .ok (.ldc 58, 2) := by decide +kernel
theorem dX7_count_224 : decode cX7_count 224 = .ok (.ireturn, 1) := by decide +kernel
theorem dX7_undo_0 : decode cX7_undo 0 = .ok (.aload_n 0, 1) := by decide +kernel
theorem dX7_undo_1 : decode cX7_undo 1 = .ok (.getfield 26, 3) := by decide +kernel
theorem dX7_undo_4 : decode cX7_undo 4 = .ok (.getfield 238, 3) := by decide +kernel
theorem dX7_undo_7 : decode cX7_undo 7 = .ok (.ifCond .ne 6, 3) := by decide +kernel
theorem dX7_undo_10 : decode cX7_undo 10 = .ok (.ldc 242, 2) := by decide +kernel
theorem dX7_undo_12 : decode cX7_undo 12 = .ok (.ireturn, 1) := by decide +kernel
theorem dX7_undo_13 : decode cX7_undo 13 = .ok (.aload_n 0, 1) := by decide +kernel
theorem dX7_undo_14 : decode cX7_undo 14 = .ok (.getfield 26, 3) := by decide +kernel
theorem dX7_undo_17 : decode cX7_undo 17 = .ok (.aload_n 0, 1) := by decide +kernel
theorem dX7_undo_18 : decode cX7_undo 18 = .ok (.getfield 10, 3) := by decide +kernel
theorem dX7_undo_21 : decode cX7_undo 21 = .ok (.invokevirtual 243, 3) := by decide +kernel
theorem dX7_undo_24 : decode cX7_undo 24 = .ok (.aload_n 0, 1) := by decide +kernel
theorem dX7_undo_25 : decode cX7_undo 25 = .ok (.getfield 26, 3) := by decide +kernel
theorem dX7_undo_28 : decode cX7_undo 28 = .ok (.getfield 238, 3) := by decide +kernel
theorem dX7_undo_31 : decode cX7_undo 31 = .ok (.ireturn, 1) := by decide +kernel
theorem dX7_type_0 : decode cX7_type 0 = .ok (.iload_n 1, 1) := by decide +kernel
theorem dX7_type_1 : decode cX7_type 1 = .ok (.bipush 32, 2) := by decide +kernel
theorem dX7_type_3 : decode cX7_type 3 = .ok (.bipush 126, 2) := by decide +kernel
theorem dX7_type_5 : decode cX7_type 5 = .ok (.invokestatic 48, 3) := by decide +kernel
theorem dX7_type_8 : decode cX7_type 8 = .ok (.ifCond .ne 6, 3) := by decide +kernel
theorem dX7_type_11 : decode cX7_type 11 = .ok (.ldc 58, 2) := by decide +kernel
theorem dX7_type_13 : decode cX7_type 13 = .ok (.ireturn, 1) := by decide +kernel
theorem dX7_type_14 : decode cX7_type 14 = .ok (.aload_n 0, 1) := by decide +kernel
theorem dX7_type_15 : decode cX7_type 15 = .ok (.getfield 33, 3) := by decide +kernel
theorem dX7_type_18 : decode cX7_type 18 = .ok (.getfield 239, 3) := by decide +kernel
theorem dX7_type_21 : decode cX7_type 21 = .ok (.bipush 60, 2) := by decide +kernel
theorem dX7_type_23 : decode cX7_type 23 = .ok (.if_icmp .lt 6, 3) := by decide +kernel
theorem dX7_type_26 : decode cX7_type 26 = .ok (.ldc 206, 2) := by decide +kernel
theorem dX7_type_28 : decode cX7_type 28 = .ok (.ireturn, 1) := by decide +kernel
theorem dX7_type_29 : decode cX7_type 29 = .ok (.aload_n 0, 1) := by decide +kernel
theorem dX7_type_30 : decode cX7_type 30 = .ok (.getfield 33, 3) := by decide +kernel
theorem dX7_type_33 : decode cX7_type 33 = .ok (.iload_n 1, 1) := by decide +kernel
theorem dX7_type_34 : decode cX7_type 34 = .ok (.invokevirtual 246, 3) := by decide +kernel
theorem dX7_type_37 : decode cX7_type 37 = .ok (.aload_n 0, 1) := by decide +kernel
theorem dX7_type_38 : decode cX7_type 38 = .ok (.getfield 33, 3) := by decide +kernel
theorem dX7_type_41 : decode cX7_type 41 = .ok (.getfield 239, 3) := by decide +kernel
theorem dX7_type_44 : decode cX7_type 44 = .ok (.ireturn, 1) := by decide +kernel
theorem dX7_clearText_0 : decode cX7_clearText 0 = .ok (.aload_n 0, 1) := by decide +kernel
theorem dX7_clearText_1 : decode cX7_clearText 1 = .ok (.getfield 33, 3) := by decide +kernel
theorem dX7_clearText_4 : decode cX7_clearText 4 = .ok (.getfield 239, 3) := by decide +kernel
theorem dX7_clearText_7 : decode cX7_clearText 7 = .ok (.istore_n 1, 1) := by decide +kernel
theorem dX7_clearText_8 : decode cX7_clearText 8 = .ok (.aload_n 0, 1) := by decide +kernel
theorem dX7_clearText_9 : decode cX7_clearText 9 = .ok (.getfield 33, 3) := by decide +kernel
theorem dX7_clearText_12 : decode cX7_clearText 12 = .ok (.iconst 0, 1) := by decide +kernel
theorem dX7_clearText_13 : decode cX7_clearText 13 = .ok (.putfield 239, 3) := by decide +kernel
theorem dX7_clearText_16 : decode cX7_clearText 16 = .ok (.iload_n 1, 1) := by decide +kernel
theorem dX7_clearText_17 : decode cX7_clearText 17 = .ok (.ireturn, 1) := by decide +kernel
theorem dX7_fault_0 : decode cX7_fault 0 = .ok (.iload_n 1, 1) := by decide +kernel
theorem dX7_fault_1 : decode cX7_fault 1 = .ok (.iconst 0, 1) := by decide +kernel
theorem dX7_fault_2 : decode cX7_fault 2 = .ok (.iconst 1, 1) := by decide +kernel
theorem dX7_fault_3 : decode cX7_fault 3 = .ok (.invokestatic 48, 3) := by decide +kernel
theorem dX7_fault_6 : decode cX7_fault 6 = .ok (.ifCond .ne 6, 3) := by decide +kernel
theorem dX7_fault_9 : decode cX7_fault 9 = .ok (.ldc 58, 2) := by decide +kernel
theorem dX7_fault_11 : decode cX7_fault 11 = .ok (.ireturn, 1) := by decide +kernel
theorem dX7_fault_12 : decode cX7_fault 12 = .ok (.aload_n 0, 1) := by decide +kernel
theorem dX7_fault_13 : decode cX7_fault 13 = .ok (.getfield 26, 3) := by decide +kernel
theorem dX7_fault_16 : decode cX7_fault 16 = .ok (.aload_n 0, 1) := by decide +kernel
theorem dX7_fault_17 : decode cX7_fault 17 = .ok (.getfield 10, 3) := by decide +kernel
theorem dX7_fault_20 : decode cX7_fault 20 = .ok (.invokevirtual 59, 3) := by decide +kernel
theorem dX7_fault_23 : decode cX7_fault 23 = .ok (.aload_n 0, 1) := by decide +kernel
theorem dX7_fault_24 : decode cX7_fault 24 = .ok (.invokevirtual 249, 3) := by decide +kernel
theorem dX7_fault_27 : decode cX7_fault 27 = .ok (.istore_n 2, 1) := by decide +kernel
theorem dX7_fault_28 : decode cX7_fault 28 = .ok (.aload_n 0, 1) := by decide +kernel
theorem dX7_fault_29 : decode cX7_fault 29 = .ok (.getfield 26, 3) := by decide +kernel
theorem dX7_fault_32 : decode cX7_fault 32 = .ok (.aload_n 0, 1) := by decide +kernel
theorem dX7_fault_33 : decode cX7_fault 33 = .ok (.getfield 10, 3) := by decide +kernel
theorem dX7_fault_36 : decode cX7_fault 36 = .ok (.invokevirtual 252, 3) := by decide +kernel
theorem dX7_fault_39 : decode cX7_fault 39 = .ok (.iload_n 2, 1) := by decide +kernel
theorem dX7_fault_40 : decode cX7_fault 40 = .ok (.ifCond .ne 6, 3) := by decide +kernel
theorem dX7_fault_43 : decode cX7_fault 43 = .ok (.ldc 110, 2) := by decide +kernel
theorem dX7_fault_45 : decode cX7_fault 45 = .ok (.ireturn, 1) := by decide +kernel
theorem dX7_fault_46 : decode cX7_fault 46 = .ok (.iload_n 1, 1) := by decide +kernel
theorem dX7_fault_47 : decode cX7_fault 47 = .ok (.ifCond .ne 13, 3) := by decide +kernel
theorem dX7_fault_50 : decode cX7_fault 50 = .ok (.aload_n 0, 1) := by decide +kernel
theorem dX7_fault_51 : decode cX7_fault 51 = .ok (.getfield 33, 3) := by decide +kernel
theorem dX7_fault_54 : decode cX7_fault 54 = .ok (.getfield 255, 3) := by decide +kernel
theorem dX7_fault_57 : decode cX7_fault 57 = .ok (.goto 4, 3) := by decide +kernel
theorem dX7_fault_60 : decode cX7_fault 60 = .ok (.iload_n 2, 1) := by decide +kernel
theorem dX7_fault_61 : decode cX7_fault 61 = .ok (.ireturn, 1) := by decide +kernel
theorem dX7_play_0 : decode cX7_play 0 = .ok (.aload_n 0, 1) := by decide +kernel
theorem dX7_play_1 : decode cX7_play 1 = .ok (.getfield 26, 3) := by decide +kernel
theorem dX7_play_4 : decode cX7_play 4 = .ok (.aload_n 0, 1) := by decide +kernel
theorem dX7_play_5 : decode cX7_play 5 = .ok (.getfield 10, 3) := by decide +kernel
theorem dX7_play_8 : decode cX7_play 8 = .ok (.invokevirtual 59, 3) := by decide +kernel
theorem dX7_play_11 : decode cX7_play 11 = .ok (.aload_n 0, 1) := by decide +kernel
theorem dX7_play_12 : decode cX7_play 12 = .ok (.invokevirtual 249, 3) := by decide +kernel
theorem dX7_play_15 : decode cX7_play 15 = .ok (.ifCond .eq 17, 3) := by decide +kernel
theorem dX7_play_18 : decode cX7_play 18 = .ok (.aload_n 0, 1) := by decide +kernel
theorem dX7_play_19 : decode cX7_play 19 = .ok (.getfield 26, 3) := by decide +kernel
theorem dX7_play_22 : decode cX7_play 22 = .ok (.aload_n 0, 1) := by decide +kernel
theorem dX7_play_23 : decode cX7_play 23 = .ok (.getfield 10, 3) := by decide +kernel
theorem dX7_play_26 : decode cX7_play 26 = .ok (.invokevirtual 252, 3) := by decide +kernel
theorem dX7_play_29 : decode cX7_play 29 = .ok (.ldc 242, 2) := by decide +kernel
theorem dX7_play_31 : decode cX7_play 31 = .ok (.ireturn, 1) := by decide +kernel
theorem dX7_play_32 : decode cX7_play 32 = .ok (.aload_n 0, 1) := by decide +kernel
theorem dX7_play_33 : decode cX7_play 33 = .ok (.aload_n 0, 1) := by decide +kernel
theorem dX7_play_34 : decode cX7_play 34 = .ok (.getfield 33, 3) := by decide +kernel
theorem dX7_play_37 : decode cX7_play 37 = .ok (.getfield 258, 3) := by decide +kernel
theorem dX7_play_40 : decode cX7_play 40 = .ok (.invokevirtual 67, 3) := by decide +kernel
theorem dX7_play_43 : decode cX7_play 43 = .ok (.ireturn, 1) := by decide +kernel
theorem dX7_within_0 : decode cX7_within 0 = .ok (.iload_n 0, 1) := by decide +kernel
theorem dX7_within_1 : decode cX7_within 1 = .ok (.iload_n 1, 1) := by decide +kernel
theorem dX7_within_2 : decode cX7_within 2 = .ok (.if_icmp .lt 12, 3) := by decide +kernel
theorem dX7_within_5 : decode cX7_within 5 = .ok (.iload_n 0, 1) := by decide +kernel
theorem dX7_within_6 : decode cX7_within 6 = .ok (.iload_n 2, 1) := by decide +kernel
theorem dX7_within_7 : decode cX7_within 7 = .ok (.if_icmp .gt 7, 3) := by decide +kernel
theorem dX7_within_10 : decode cX7_within 10 = .ok (.iconst 1, 1) := by decide +kernel
theorem dX7_within_11 : decode cX7_within 11 = .ok (.goto 4, 3) := by decide +kernel
theorem dX7_within_14 : decode cX7_within 14 = .ok (.iconst 0, 1) := by decide +kernel
theorem dX7_within_15 : decode cX7_within 15 = .ok (.ireturn, 1) := by decide +kernel
theorem dX7_isName_0 : decode cX7_isName 0 = .ok (.iload_n 0, 1) := by decide +kernel
theorem dX7_isName_1 : decode cX7_isName 1 = .ok (.iconst 0, 1) := by decide +kernel
theorem dX7_isName_2 : decode cX7_isName 2 = .ok (.bipush 29, 2) := by decide +kernel
theorem dX7_isName_4 : decode cX7_isName 4 = .ok (.invokestatic 48, 3) := by decide +kernel
theorem dX7_isName_7 : decode cX7_isName 7 = .ok (.ireturn, 1) := by decide +kernel
theorem dX7_isPage_0 : decode cX7_isPage 0 = .ok (.iload_n 0, 1) := by decide +kernel
theorem dX7_isPage_1 : decode cX7_isPage 1 = .ok (.iconst 0, 1) := by decide +kernel
theorem dX7_isPage_2 : decode cX7_isPage 2 = .ok (.bipush 39, 2) := by decide +kernel
theorem dX7_isPage_4 : decode cX7_isPage 4 = .ok (.invokestatic 48, 3) := by decide +kernel
theorem dX7_isPage_7 : decode cX7_isPage 7 = .ok (.ireturn, 1) := by decide +kernel
theorem dX7_isLength_0 : decode cX7_isLength 0 = .ok (.iload_n 0, 1) := by decide +kernel
theorem dX7_isLength_1 : decode cX7_isLength 1 = .ok (.iconst 1, 1) := by decide +kernel
theorem dX7_isLength_2 : decode cX7_isLength 2 = .ok (.bipush 12, 2) := by decide +kernel
theorem dX7_isLength_4 : decode cX7_isLength 4 = .ok (.invokestatic 48, 3) := by decide +kernel
theorem dX7_isLength_7 : decode cX7_isLength 7 = .ok (.ireturn, 1) := by decide +kernel
theorem dX7_isLayout_0 : decode cX7_isLayout 0 = .ok (.iload_n 0, 1) := by decide +kernel
theorem dX7_isLayout_1 : decode cX7_isLayout 1 = .ok (.iconst 0, 1) := by decide +kernel
theorem dX7_isLayout_2 : decode cX7_isLayout 2 = .ok (.iconst 2, 1) := by decide +kernel
theorem dX7_isLayout_3 : decode cX7_isLayout 3 = .ok (.invokestatic 48, 3) := by decide +kernel
theorem dX7_isLayout_6 : decode cX7_isLayout 6 = .ok (.ireturn, 1) := by decide +kernel
theorem dX7_asksPage_0 : decode cX7_asksPage 0 = .ok (.iload_n 0, 1) := by decide +kernel
theorem dX7_asksPage_1 : decode cX7_asksPage 1 = .ok (.bipush 10, 2) := by decide +kernel
theorem dX7_asksPage_3 : decode cX7_asksPage 3 = .ok (.bipush 21, 2) := by decide +kernel
theorem dX7_asksPage_5 : decode cX7_asksPage 5 = .ok (.invokestatic 48, 3) := by decide +kernel
theorem dX7_asksPage_8 : decode cX7_asksPage 8 = .ok (.ireturn, 1) := by decide +kernel
theorem dX7_found_0 : decode cX7_found 0 = .ok (.iload_n 0, 1) := by decide +kernel
theorem dX7_found_1 : decode cX7_found 1 = .ok (.iconst (-1), 1) := by decide +kernel
theorem dX7_found_2 : decode cX7_found 2 = .ok (.if_icmp .ne 8, 3) := by decide +kernel
theorem dX7_found_5 : decode cX7_found 5 = .ok (.ldc 110, 2) := by decide +kernel
theorem dX7_found_7 : decode cX7_found 7 = .ok (.goto 4, 3) := by decide +kernel
theorem dX7_found_10 : decode cX7_found 10 = .ok (.iload_n 0, 1) := by decide +kernel
theorem dX7_found_11 : decode cX7_found 11 = .ok (.ireturn, 1) := by decide +kernel
theorem dX7_settled_0 : decode cX7_settled 0 = .ok (.iload_n 1, 1) := by decide +kernel
theorem dX7_settled_1 : decode cX7_settled 1 = .ok (.ifCond .lt 10, 3) := by decide +kernel
theorem dX7_settled_4 : decode cX7_settled 4 = .ok (.aload_n 0, 1) := by decide +kernel
theorem dX7_settled_5 : decode cX7_settled 5 = .ok (.getfield 26, 3) := by decide +kernel
theorem dX7_settled_8 : decode cX7_settled 8 = .ok (.invokevirtual 261, 3) := by decide +kernel
theorem dX7_settled_11 : decode cX7_settled 11 = .ok (.iload_n 1, 1) := by decide +kernel
theorem dX7_settled_12 : decode cX7_settled 12 = .ok (.ireturn, 1) := by decide +kernel
theorem dX7_writeFile_0 : decode cX7_writeFile 0 = .ok (.aload_n 0, 1) := by decide +kernel
theorem dX7_writeFile_1 : decode cX7_writeFile 1 = .ok (.getfield 10, 3) := by decide +kernel
theorem dX7_writeFile_4 : decode cX7_writeFile 4 = .ok (.iload_n 1, 1) := by decide +kernel
theorem dX7_writeFile_5 : decode cX7_writeFile 5 = .ok (.invokevirtual 107, 3) := by decide +kernel
theorem dX7_writeFile_8 : decode cX7_writeFile 8 = .ok (.ifCond .eq 6, 3) := by decide +kernel
theorem dX7_writeFile_11 : decode cX7_writeFile 11 = .ok (.ldc 242, 2) := by decide +kernel
theorem dX7_writeFile_13 : decode cX7_writeFile 13 = .ok (.ireturn, 1) := by decide +kernel
theorem dX7_writeFile_14 : decode cX7_writeFile 14 = .ok (.aload_n 0, 1) := by decide +kernel
theorem dX7_writeFile_15 : decode cX7_writeFile 15 = .ok (.getfield 10, 3) := by decide +kernel
theorem dX7_writeFile_18 : decode cX7_writeFile 18 = .ok (.invokevirtual 202, 3) := by decide +kernel
theorem dX7_writeFile_21 : decode cX7_writeFile 21 = .ok (.iload_n 3, 1) := by decide +kernel
theorem dX7_writeFile_22 : decode cX7_writeFile 22 = .ok (.if_icmp .ge 6, 3) := by decide +kernel
theorem dX7_writeFile_25 : decode cX7_writeFile 25 = .ok (.ldc 206, 2) := by decide +kernel
theorem dX7_writeFile_27 : decode cX7_writeFile 27 = .ok (.ireturn, 1) := by decide +kernel
theorem dX7_writeFile_28 : decode cX7_writeFile 28 = .ok (.aload_n 0, 1) := by decide +kernel
theorem dX7_writeFile_29 : decode cX7_writeFile 29 = .ok (.getfield 40, 3) := by decide +kernel
theorem dX7_writeFile_32 : decode cX7_writeFile 32 = .ok (.aload_n 0, 1) := by decide +kernel
theorem dX7_writeFile_33 : decode cX7_writeFile 33 = .ok (.getfield 10, 3) := by decide +kernel
theorem dX7_writeFile_36 : decode cX7_writeFile 36 = .ok (.iload_n 3, 1) := by decide +kernel
theorem dX7_writeFile_37 : decode cX7_writeFile 37 = .ok (.iload 4, 2) := by decide +kernel
theorem dX7_writeFile_39 : decode cX7_writeFile 39 = .ok (.invokevirtual 207, 3) := by decide +kernel
theorem dX7_writeFile_42 : decode cX7_writeFile 42 = .ok (.aload_n 0, 1) := by decide +kernel
theorem dX7_writeFile_43 : decode cX7_writeFile 43 = .ok (.getfield 10, 3) := by decide +kernel
theorem dX7_writeFile_46 : decode cX7_writeFile 46 = .ok (.iload_n 1, 1) := by decide +kernel
theorem dX7_writeFile_47 : decode cX7_writeFile 47 = .ok (.iload_n 2, 1) := by decide +kernel
theorem dX7_writeFile_48 : decode cX7_writeFile 48 = .ok (.aload_n 0, 1) := by decide +kernel
theorem dX7_writeFile_49 : decode cX7_writeFile 49 = .ok (.getfield 40, 3) := by decide +kernel
theorem dX7_writeFile_52 : decode cX7_writeFile 52 = .ok (.invokevirtual 264, 3) := by decide +kernel
theorem dX7_writeFile_55 : decode cX7_writeFile 55 = .ok (.aload_n 0, 1) := by decide +kernel
theorem dX7_writeFile_56 : decode cX7_writeFile 56 = .ok (.getfield 10, 3) := by decide +kernel
theorem dX7_writeFile_59 : decode cX7_writeFile 59 = .ok (.dup, 1) := by decide +kernel
theorem dX7_writeFile_60 : decode cX7_writeFile 60 = .ok (.getfield 223, 3) := by decide +kernel
theorem dX7_writeFile_63 : decode cX7_writeFile 63 = .ok (.iconst 1, 1) := by decide +kernel
theorem dX7_writeFile_64 : decode cX7_writeFile 64 = .ok (.iadd, 1) := by decide +kernel
theorem dX7_writeFile_65 : decode cX7_writeFile 65 = .ok (.putfield 223, 3) := by decide +kernel
theorem dX7_writeFile_68 : decode cX7_writeFile 68 = .ok (.aload_n 0, 1) := by decide +kernel
theorem dX7_writeFile_69 : decode cX7_writeFile 69 = .ok (.getfield 40, 3) := by decide +kernel
theorem dX7_writeFile_72 : decode cX7_writeFile 72 = .ok (.iconst 0, 1) := by decide +kernel
theorem dX7_writeFile_73 : decode cX7_writeFile 73 = .ok (.invokevirtual 187, 3) := by decide +kernel
theorem dX7_writeFile_76 : decode cX7_writeFile 76 = .ok (.ireturn, 1) := by decide +kernel
theorem dX7_deleteFile_0 : decode cX7_deleteFile 0 = .ok (.aload_n 0, 1) := by decide +kernel
theorem dX7_deleteFile_1 : decode cX7_deleteFile 1 = .ok (.getfield 10, 3) := by decide +kernel
theorem dX7_deleteFile_4 : decode cX7_deleteFile 4 = .ok (.iload_n 1, 1) := by decide +kernel
theorem dX7_deleteFile_5 : decode cX7_deleteFile 5 = .ok (.invokevirtual 107, 3) := by decide +kernel
theorem dX7_deleteFile_8 : decode cX7_deleteFile 8 = .ok (.ifCond .ne 6, 3) := by decide +kernel
theorem dX7_deleteFile_11 : decode cX7_deleteFile 11 = .ok (.ldc 242, 2) := by decide +kernel
theorem dX7_deleteFile_13 : decode cX7_deleteFile 13 = .ok (.ireturn, 1) := by decide +kernel
theorem dX7_deleteFile_14 : decode cX7_deleteFile 14 = .ok (.aload_n 0, 1) := by decide +kernel
theorem dX7_deleteFile_15 : decode cX7_deleteFile 15 = .ok (.getfield 10, 3) := by decide +kernel
theorem dX7_deleteFile_18 : decode cX7_deleteFile 18 = .ok (.iload_n 1, 1) := by decide +kernel
theorem dX7_deleteFile_19 : decode cX7_deleteFile 19 = .ok (.invokevirtual 268, 3) := by decide +kernel
theorem dX7_deleteFile_22 : decode cX7_deleteFile 22 = .ok (.aload_n 0, 1) := by decide +kernel
theorem dX7_deleteFile_23 : decode cX7_deleteFile 23 = .ok (.getfield 10, 3) := by decide +kernel
theorem dX7_deleteFile_26 : decode cX7_deleteFile 26 = .ok (.dup, 1) := by decide +kernel
theorem dX7_deleteFile_27 : decode cX7_deleteFile 27 = .ok (.getfield 226, 3) := by decide +kernel
theorem dX7_deleteFile_30 : decode cX7_deleteFile 30 = .ok (.iconst 1, 1) := by decide +kernel
theorem dX7_deleteFile_31 : decode cX7_deleteFile 31 = .ok (.iadd, 1) := by decide +kernel
theorem dX7_deleteFile_32 : decode cX7_deleteFile 32 = .ok (.putfield 226, 3) := by decide +kernel
theorem dX7_deleteFile_35 : decode cX7_deleteFile 35 = .ok (.aload_n 0, 1) := by decide +kernel
theorem dX7_deleteFile_36 : decode cX7_deleteFile 36 = .ok (.getfield 10, 3) := by decide +kernel
theorem dX7_deleteFile_39 : decode cX7_deleteFile 39 = .ok (.invokevirtual 202, 3) := by decide +kernel
theorem dX7_deleteFile_42 : decode cX7_deleteFile 42 = .ok (.ireturn, 1) := by decide +kernel
theorem dX7_wipePage_0 : decode cX7_wipePage 0 = .ok (.aload_n 0, 1) := by decide +kernel
theorem dX7_wipePage_1 : decode cX7_wipePage 1 = .ok (.getfield 10, 3) := by decide +kernel
theorem dX7_wipePage_4 : decode cX7_wipePage 4 = .ok (.iload_n 1, 1) := by decide +kernel
theorem dX7_wipePage_5 : decode cX7_wipePage 5 = .ok (.invokevirtual 88, 3) := by decide +kernel
theorem dX7_wipePage_8 : decode cX7_wipePage 8 = .ok (.ifCond .ne 6, 3) := by decide +kernel
theorem dX7_wipePage_11 : decode cX7_wipePage 11 = .ok (.ldc 242, 2) := by decide +kernel
theorem dX7_wipePage_13 : decode cX7_wipePage 13 = .ok (.ireturn, 1) := by decide +kernel
theorem dX7_wipePage_14 : decode cX7_wipePage 14 = .ok (.aload_n 0, 1) := by decide +kernel
theorem dX7_wipePage_15 : decode cX7_wipePage 15 = .ok (.getfield 10, 3) := by decide +kernel
theorem dX7_wipePage_18 : decode cX7_wipePage 18 = .ok (.iload_n 1, 1) := by decide +kernel
theorem dX7_wipePage_19 : decode cX7_wipePage 19 = .ok (.invokevirtual 127, 3) := by decide +kernel
theorem dX7_wipePage_22 : decode cX7_wipePage 22 = .ok (.istore_n 2, 1) := by decide +kernel
theorem dX7_wipePage_23 : decode cX7_wipePage 23 = .ok (.aload_n 0, 1) := by decide +kernel
theorem dX7_wipePage_24 : decode cX7_wipePage 24 = .ok (.getfield 10, 3) := by decide +kernel
theorem dX7_wipePage_27 : decode cX7_wipePage 27 = .ok (.iload_n 1, 1) := by decide +kernel
theorem dX7_wipePage_28 : decode cX7_wipePage 28 = .ok (.invokevirtual 91, 3) := by decide +kernel
theorem dX7_wipePage_31 : decode cX7_wipePage 31 = .ok (.iload_n 2, 1) := by decide +kernel
theorem dX7_wipePage_32 : decode cX7_wipePage 32 = .ok (.ireturn, 1) := by decide +kernel
theorem dX7_claimGuess_0 : decode cX7_claimGuess 0 = .ok (.aload_n 0, 1) := by decide +kernel
theorem dX7_claimGuess_1 : decode cX7_claimGuess 1 = .ok (.getfield 19, 3) := by decide +kernel
theorem dX7_claimGuess_4 : decode cX7_claimGuess 4 = .ok (.aload_n 0, 1) := by decide +kernel
theorem dX7_claimGuess_5 : decode cX7_claimGuess 5 = .ok (.getfield 10, 3) := by decide +kernel
theorem dX7_claimGuess_8 : decode cX7_claimGuess 8 = .ok (.aload_n 0, 1) := by decide +kernel
theorem dX7_claimGuess_9 : decode cX7_claimGuess 9 = .ok (.getfield 10, 3) := by decide +kernel
theorem dX7_claimGuess_12 : decode cX7_claimGuess 12 = .ok (.invokevirtual 80, 3) := by decide +kernel
theorem dX7_claimGuess_15 : decode cX7_claimGuess 15 = .ok (.invokevirtual 136, 3) := by decide +kernel
theorem dX7_claimGuess_18 : decode cX7_claimGuess 18 = .ok (.iload_n 1, 1) := by decide +kernel
theorem dX7_claimGuess_19 : decode cX7_claimGuess 19 = .ok (.aload_n 0, 1) := by decide +kernel
theorem dX7_claimGuess_20 : decode cX7_claimGuess 20 = .ok (.getfield 19, 3) := by decide +kernel
theorem dX7_claimGuess_23 : decode cX7_claimGuess 23 = .ok (.getfield 152, 3) := by decide +kernel
theorem dX7_claimGuess_26 : decode cX7_claimGuess 26 = .ok (.if_icmp .lt 6, 3) := by decide +kernel
theorem dX7_claimGuess_29 : decode cX7_claimGuess 29 = .ok (.ldc 242, 2) := by decide +kernel
theorem dX7_claimGuess_31 : decode cX7_claimGuess 31 = .ok (.ireturn, 1) := by decide +kernel
theorem dX7_claimGuess_32 : decode cX7_claimGuess 32 = .ok (.aload_n 0, 1) := by decide +kernel
theorem dX7_claimGuess_33 : decode cX7_claimGuess 33 = .ok (.getfield 19, 3) := by decide +kernel
theorem dX7_claimGuess_36 : decode cX7_claimGuess 36 = .ok (.aload_n 0, 1) := by decide +kernel
theorem dX7_claimGuess_37 : decode cX7_claimGuess 37 = .ok (.getfield 10, 3) := by decide +kernel
theorem dX7_claimGuess_40 : decode cX7_claimGuess 40 = .ok (.iload_n 1, 1) := by decide +kernel
theorem dX7_claimGuess_41 : decode cX7_claimGuess 41 = .ok (.invokevirtual 156, 3) := by decide +kernel
theorem dX7_claimGuess_44 : decode cX7_claimGuess 44 = .ok (.astore_n 3, 1) := by decide +kernel
theorem dX7_claimGuess_45 : decode cX7_claimGuess 45 = .ok (.iload_n 2, 1) := by decide +kernel
theorem dX7_claimGuess_46 : decode cX7_claimGuess 46 = .ok (.iconst (-1), 1) := by decide +kernel
theorem dX7_claimGuess_47 : decode cX7_claimGuess 47 = .ok (.if_icmp .ne 10, 3) := by decide +kernel
theorem dX7_claimGuess_50 : decode cX7_claimGuess 50 = .ok (.aload_n 3, 1) := by decide +kernel
theorem dX7_claimGuess_51 : decode cX7_claimGuess 51 = .ok (.getfield 175, 3) := by decide +kernel
theorem dX7_claimGuess_54 : decode cX7_claimGuess 54 = .ok (.goto 4, 3) := by decide +kernel
theorem dX7_claimGuess_57 : decode cX7_claimGuess 57 = .ok (.iload_n 2, 1) := by decide +kernel
theorem dX7_claimGuess_58 : decode cX7_claimGuess 58 = .ok (.istore 4, 2) := by decide +kernel
theorem dX7_claimGuess_60 : decode cX7_claimGuess 60 = .ok (.iload 4, 2) := by decide +kernel
theorem dX7_claimGuess_62 : decode cX7_claimGuess 62 = .ok (.iconst (-1), 1) := by decide +kernel
theorem dX7_claimGuess_63 : decode cX7_claimGuess 63 = .ok (.if_icmp .eq 15, 3) := by decide +kernel
theorem dX7_claimGuess_66 : decode cX7_claimGuess 66 = .ok (.aload_n 0, 1) := by decide +kernel
theorem dX7_claimGuess_67 : decode cX7_claimGuess 67 = .ok (.getfield 10, 3) := by decide +kernel
theorem dX7_claimGuess_70 : decode cX7_claimGuess 70 = .ok (.iload 4, 2) := by decide +kernel
theorem dX7_claimGuess_72 : decode cX7_claimGuess 72 = .ok (.invokevirtual 107, 3) := by decide +kernel
theorem dX7_claimGuess_75 : decode cX7_claimGuess 75 = .ok (.ifCond .eq 6, 3) := by decide +kernel
theorem dX7_claimGuess_78 : decode cX7_claimGuess 78 = .ok (.ldc 242, 2) := by decide +kernel
theorem dX7_claimGuess_80 : decode cX7_claimGuess 80 = .ok (.ireturn, 1) := by decide +kernel
theorem dX7_claimGuess_81 : decode cX7_claimGuess 81 = .ok (.aload_n 0, 1) := by decide +kernel
theorem dX7_claimGuess_82 : decode cX7_claimGuess 82 = .ok (.getfield 10, 3) := by decide +kernel
theorem dX7_claimGuess_85 : decode cX7_claimGuess 85 = .ok (.iload 4, 2) := by decide +kernel
theorem dX7_claimGuess_87 : decode cX7_claimGuess 87 = .ok (.aload_n 3, 1) := by decide +kernel
theorem dX7_claimGuess_88 : decode cX7_claimGuess 88 = .ok (.getfield 172, 3) := by decide +kernel
theorem dX7_claimGuess_91 : decode cX7_claimGuess 91 = .ok (.aload_n 3, 1) := by decide +kernel
theorem dX7_claimGuess_92 : decode cX7_claimGuess 92 = .ok (.getfield 165, 3) := by decide +kernel
theorem dX7_claimGuess_95 : decode cX7_claimGuess 95 = .ok (.invokevirtual 264, 3) := by decide +kernel
theorem dX7_claimGuess_98 : decode cX7_claimGuess 98 = .ok (.aload_n 0, 1) := by decide +kernel
theorem dX7_claimGuess_99 : decode cX7_claimGuess 99 = .ok (.getfield 10, 3) := by decide +kernel
theorem dX7_claimGuess_102 : decode cX7_claimGuess 102 = .ok (.dup, 1) := by decide +kernel
theorem dX7_claimGuess_103 : decode cX7_claimGuess 103 = .ok (.getfield 229, 3) := by decide +kernel
theorem dX7_claimGuess_106 : decode cX7_claimGuess 106 = .ok (.iconst 1, 1) := by decide +kernel
theorem dX7_claimGuess_107 : decode cX7_claimGuess 107 = .ok (.iadd, 1) := by decide +kernel
theorem dX7_claimGuess_108 : decode cX7_claimGuess 108 = .ok (.putfield 229, 3) := by decide +kernel
theorem dX7_claimGuess_111 : decode cX7_claimGuess 111 = .ok (.aload_n 3, 1) := by decide +kernel
theorem dX7_claimGuess_112 : decode cX7_claimGuess 112 = .ok (.getfield 165, 3) := by decide +kernel
theorem dX7_claimGuess_115 : decode cX7_claimGuess 115 = .ok (.getfield 168, 3) := by decide +kernel
theorem dX7_claimGuess_118 : decode cX7_claimGuess 118 = .ok (.ireturn, 1) := by decide +kernel
theorem dX7_runOrders_0 : decode cX7_runOrders 0 = .ok (.aload_n 0, 1) := by decide +kernel
theorem dX7_runOrders_1 : decode cX7_runOrders 1 = .ok (.getfield 33, 3) := by decide +kernel
theorem dX7_runOrders_4 : decode cX7_runOrders 4 = .ok (.invokevirtual 271, 3) := by decide +kernel
theorem dX7_runOrders_7 : decode cX7_runOrders 7 = .ok (.iconst 0, 1) := by decide +kernel
theorem dX7_runOrders_8 : decode cX7_runOrders 8 = .ok (.istore_n 1, 1) := by decide +kernel
theorem dX7_runOrders_9 : decode cX7_runOrders 9 = .ok (.iconst 0, 1) := by decide +kernel
theorem dX7_runOrders_10 : decode cX7_runOrders 10 = .ok (.istore_n 2, 1) := by decide +kernel
theorem dX7_runOrders_11 : decode cX7_runOrders 11 = .ok (.iload_n 2, 1) := by decide +kernel
theorem dX7_runOrders_12 : decode cX7_runOrders 12 = .ok (.bipush 60, 2) := by decide +kernel
theorem dX7_runOrders_14 : decode cX7_runOrders 14 = .ok (.if_icmp .ge 62, 3) := by decide +kernel
theorem dX7_runOrders_17 : decode cX7_runOrders 17 = .ok (.iload_n 1, 1) := by decide +kernel
theorem dX7_runOrders_18 : decode cX7_runOrders 18 = .ok (.ifCond .ne 58, 3) := by decide +kernel
theorem dX7_runOrders_21 : decode cX7_runOrders 21 = .ok (.aload_n 0, 1) := by decide +kernel
theorem dX7_runOrders_22 : decode cX7_runOrders 22 = .ok (.getfield 33, 3) := by decide +kernel
theorem dX7_runOrders_25 : decode cX7_runOrders 25 = .ok (.invokevirtual 274, 3) := by decide +kernel
theorem dX7_runOrders_28 : decode cX7_runOrders 28 = .ok (.ifCond .eq 48, 3) := by decide +kernel
theorem dX7_runOrders_31 : decode cX7_runOrders 31 = .ok (.aload_n 0, 1) := by decide +kernel
theorem dX7_runOrders_32 : decode cX7_runOrders 32 = .ok (.getfield 33, 3) := by decide +kernel
theorem dX7_runOrders_35 : decode cX7_runOrders 35 = .ok (.invokevirtual 278, 3) := by decide +kernel
theorem dX7_runOrders_38 : decode cX7_runOrders 38 = .ok (.ifCond .ne 8, 3) := by decide +kernel
theorem dX7_runOrders_41 : decode cX7_runOrders 41 = .ok (.iconst 1, 1) := by decide +kernel
theorem dX7_runOrders_42 : decode cX7_runOrders 42 = .ok (.istore_n 1, 1) := by decide +kernel
theorem dX7_runOrders_43 : decode cX7_runOrders 43 = .ok (.goto 27, 3) := by decide +kernel
theorem dX7_runOrders_46 : decode cX7_runOrders 46 = .ok (.aload_n 0, 1) := by decide +kernel
theorem dX7_runOrders_47 : decode cX7_runOrders 47 = .ok (.getfield 33, 3) := by decide +kernel
theorem dX7_runOrders_50 : decode cX7_runOrders 50 = .ok (.invokevirtual 281, 3) := by decide +kernel
theorem dX7_runOrders_53 : decode cX7_runOrders 53 = .ok (.ifCond .ne 8, 3) := by decide +kernel
theorem dX7_runOrders_56 : decode cX7_runOrders 56 = .ok (.iconst 2, 1) := by decide +kernel
theorem dX7_runOrders_57 : decode cX7_runOrders 57 = .ok (.istore_n 1, 1) := by decide +kernel
theorem dX7_runOrders_58 : decode cX7_runOrders 58 = .ok (.goto 12, 3) := by decide +kernel
theorem dX7_runOrders_61 : decode cX7_runOrders 61 = .ok (.aload_n 0, 1) := by decide +kernel
theorem dX7_runOrders_62 : decode cX7_runOrders 62 = .ok (.invokevirtual 284, 3) := by decide +kernel
theorem dX7_runOrders_65 : decode cX7_runOrders 65 = .ok (.ifCond .ge 5, 3) := by decide +kernel
theorem dX7_runOrders_68 : decode cX7_runOrders 68 = .ok (.iconst 3, 1) := by decide +kernel
theorem dX7_runOrders_69 : decode cX7_runOrders 69 = .ok (.istore_n 1, 1) := by decide +kernel
theorem dX7_runOrders_70 : decode cX7_runOrders 70 = .ok (.iinc 2 1, 3) := by decide +kernel
theorem dX7_runOrders_73 : decode cX7_runOrders 73 = .ok (.goto (-62), 3) := by decide +kernel
theorem dX7_runOrders_76 : decode cX7_runOrders 76 = .ok (.iload_n 1, 1) := by decide +kernel
theorem dX7_runOrders_77 : decode cX7_runOrders 77 = .ok (.ireturn, 1) := by decide +kernel
theorem dX7_doOrder_0 : decode cX7_doOrder 0 = .ok (.aload_n 0, 1) := by decide +kernel
theorem dX7_doOrder_1 : decode cX7_doOrder 1 = .ok (.getfield 33, 3) := by decide +kernel
theorem dX7_doOrder_4 : decode cX7_doOrder 4 = .ok (.getfield 287, 3) := by decide +kernel
theorem dX7_doOrder_7 : decode cX7_doOrder 7 = .ok (.lookupswitch 85 #[(99, 72), (100, 60), (119, 33)], 33) := by decide +kernel
theorem dX7_doOrder_40 : decode cX7_doOrder 40 = .ok (.aload_n 0, 1) := by decide +kernel
theorem dX7_doOrder_41 : decode cX7_doOrder 41 = .ok (.aload_n 0, 1) := by decide +kernel
theorem dX7_doOrder_42 : decode cX7_doOrder 42 = .ok (.getfield 33, 3) := by decide +kernel
theorem dX7_doOrder_45 : decode cX7_doOrder 45 = .ok (.getfield 290, 3) := by decide +kernel
theorem dX7_doOrder_48 : decode cX7_doOrder 48 = .ok (.aload_n 0, 1) := by decide +kernel
theorem dX7_doOrder_49 : decode cX7_doOrder 49 = .ok (.getfield 33, 3) := by decide +kernel
theorem dX7_doOrder_52 : decode cX7_doOrder 52 = .ok (.getfield 293, 3) := by decide +kernel
theorem dX7_doOrder_55 : decode cX7_doOrder 55 = .ok (.aload_n 0, 1) := by decide +kernel
theorem dX7_doOrder_56 : decode cX7_doOrder 56 = .ok (.getfield 33, 3) := by decide +kernel
theorem dX7_doOrder_59 : decode cX7_doOrder 59 = .ok (.getfield 294, 3) := by decide +kernel
theorem dX7_doOrder_62 : decode cX7_doOrder 62 = .ok (.iconst 0, 1) := by decide +kernel
theorem dX7_doOrder_63 : decode cX7_doOrder 63 = .ok (.invokevirtual 63, 3) := by decide +kernel
theorem dX7_doOrder_66 : decode cX7_doOrder 66 = .ok (.ireturn, 1) := by decide +kernel
theorem dX7_doOrder_67 : decode cX7_doOrder 67 = .ok (.aload_n 0, 1) := by decide +kernel
theorem dX7_doOrder_68 : decode cX7_doOrder 68 = .ok (.aload_n 0, 1) := by decide +kernel
theorem dX7_doOrder_69 : decode cX7_doOrder 69 = .ok (.getfield 33, 3) := by decide +kernel
theorem dX7_doOrder_72 : decode cX7_doOrder 72 = .ok (.getfield 290, 3) := by decide +kernel
theorem dX7_doOrder_75 : decode cX7_doOrder 75 = .ok (.invokevirtual 71, 3) := by decide +kernel
theorem dX7_doOrder_78 : decode cX7_doOrder 78 = .ok (.ireturn, 1) := by decide +kernel
theorem dX7_doOrder_79 : decode cX7_doOrder 79 = .ok (.aload_n 0, 1) := by decide +kernel
theorem dX7_doOrder_80 : decode cX7_doOrder 80 = .ok (.aload_n 0, 1) := by decide +kernel
theorem dX7_doOrder_81 : decode cX7_doOrder 81 = .ok (.getfield 33, 3) := by decide +kernel
theorem dX7_doOrder_84 : decode cX7_doOrder 84 = .ok (.getfield 290, 3) := by decide +kernel
theorem dX7_doOrder_87 : decode cX7_doOrder 87 = .ok (.iconst (-1), 1) := by decide +kernel
theorem dX7_doOrder_88 : decode cX7_doOrder 88 = .ok (.invokevirtual 190, 3) := by decide +kernel
theorem dX7_doOrder_91 : decode cX7_doOrder 91 = .ok (.ireturn, 1) := by decide +kernel
theorem dX7_doOrder_92 : decode cX7_doOrder 92 = .ok (.aload_n 0, 1) := by decide +kernel
theorem dX7_doOrder_93 : decode cX7_doOrder 93 = .ok (.aload_n 0, 1) := by decide +kernel
theorem dX7_doOrder_94 : decode cX7_doOrder 94 = .ok (.getfield 33, 3) := by decide +kernel
theorem dX7_doOrder_97 : decode cX7_doOrder 97 = .ok (.getfield 290, 3) := by decide +kernel
theorem dX7_doOrder_100 : decode cX7_doOrder 100 = .ok (.invokevirtual 77, 3) := by decide +kernel
theorem dX7_doOrder_103 : decode cX7_doOrder 103 = .ok (.ireturn, 1) := by decide +kernel
theorem dX8_init_0 : decode cX8_init 0 = .ok (.aload_n 0, 1) := by decide +kernel
theorem dX8_init_1 : decode cX8_init 1 = .ok (.invokespecial 1, 3) := by decide +kernel
theorem dX8_init_4 : decode cX8_init 4 = .ok (.aload_n 0, 1) := by decide +kernel
theorem dX8_init_5 : decode cX8_init 5 = .ok (.sipush 252, 3) := by decide +kernel
theorem dX8_init_8 : decode cX8_init 8 = .ok (.newarray .int, 2) := by decide +kernel
theorem dX8_init_10 : decode cX8_init 10 = .ok (.putfield 7, 3) := by decide +kernel
theorem dX8_init_13 : decode cX8_init 13 = .ok (.aload_n 0, 1) := by decide +kernel
theorem dX8_init_14 : decode cX8_init 14 = .ok (.sipush 1008, 3) := by decide +kernel
theorem dX8_init_17 : decode cX8_init 17 = .ok (.newarray .int, 2) := by decide +kernel
theorem dX8_init_19 : decode cX8_init 19 = .ok (.putfield 13, 3) := by decide +kernel
theorem dX8_init_22 : decode cX8_init 22 = .ok (.aload_n 0, 1) := by decide +kernel
theorem dX8_init_23 : decode cX8_init 23 = .ok (.sipush 252, 3) := by decide +kernel
theorem dX8_init_26 : decode cX8_init 26 = .ok (.newarray .int, 2) := by decide +kernel
theorem dX8_init_28 : decode cX8_init 28 = .ok (.putfield 16, 3) := by decide +kernel
theorem dX8_init_31 : decode cX8_init 31 = .ok (.aload_n 0, 1) := by decide +kernel
theorem dX8_init_32 : decode cX8_init 32 = .ok (.sipush 252, 3) := by decide +kernel
theorem dX8_init_35 : decode cX8_init 35 = .ok (.newarray .int, 2) := by decide +kernel
