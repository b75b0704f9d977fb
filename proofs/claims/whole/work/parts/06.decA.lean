theorem dX0_init_0 : decode cX0_init 0 = .ok (.aload_n 0, 1) := by decide +kernel
theorem dX0_init_1 : decode cX0_init 1 = .ok (.invokespecial 3, 3) := by decide +kernel
theorem dX0_init_4 : decode cX0_init 4 = .ok (.aload_n 0, 1) := by decide +kernel
theorem dX0_init_5 : decode cX0_init 5 = .ok (.bipush 6, 2) := by decide +kernel
theorem dX0_init_7 : decode cX0_init 7 = .ok (.newarray .int, 2) := by decide +kernel
theorem dX0_init_9 : decode cX0_init 9 = .ok (.putfield 9, 3) := by decide +kernel
theorem dX0_init_12 : decode cX0_init 12 = .ok (.aload_n 0, 1) := by decide +kernel
theorem dX0_init_13 : decode cX0_init 13 = .ok (.sipush 1000, 3) := by decide +kernel
theorem dX0_init_16 : decode cX0_init 16 = .ok (.newarray .int, 2) := by decide +kernel
theorem dX0_init_18 : decode cX0_init 18 = .ok (.putfield 15, 3) := by decide +kernel
theorem dX0_init_21 : decode cX0_init 21 = .ok (.aload_n 0, 1) := by decide +kernel
theorem dX0_init_22 : decode cX0_init 22 = .ok (.sipush 1000, 3) := by decide +kernel
theorem dX0_init_25 : decode cX0_init 25 = .ok (.newarray .int, 2) := by decide +kernel
theorem dX0_init_27 : decode cX0_init 27 = .ok (.putfield 18, 3) := by decide +kernel
theorem dX0_init_30 : decode cX0_init 30 = .ok (.aload_n 0, 1) := by decide +kernel
theorem dX0_init_31 : decode cX0_init 31 = .ok (.iconst 0, 1) := by decide +kernel
theorem dX0_init_32 : decode cX0_init 32 = .ok (.putfield 21, 3) := by decide +kernel
theorem dX0_init_35 : decode cX0_init 35 = .ok (.aload_n 0, 1) := by decide +kernel
theorem dX0_init_36 : decode cX0_init 36 = .ok (.iconst 0, 1) := by decide +kernel
theorem dX0_init_37 : decode cX0_init 37 = .ok (.putfield 25, 3) := by decide +kernel
theorem dX0_init_40 : decode cX0_init 40 = .ok (.aload_n 0, 1) := by decide +kernel
theorem dX0_init_41 : decode cX0_init 41 = .ok (.iconst 0, 1) := by decide +kernel
theorem dX0_init_42 : decode cX0_init 42 = .ok (.putfield 28, 3) := by decide +kernel
theorem dX0_init_45 : decode cX0_init 45 = .ok (.return_, 1) := by decide +kernel
theorem dX0_append_0 : decode cX0_append 0 = .ok (.aload_n 0, 1) := by decide +kernel
theorem dX0_append_1 : decode cX0_append 1 = .ok (.getfield 25, 3) := by decide +kernel
theorem dX0_append_4 : decode cX0_append 4 = .ok (.bipush 6, 2) := by decide +kernel
theorem dX0_append_6 : decode cX0_append 6 = .ok (.if_icmp .ge 23, 3) := by decide +kernel
theorem dX0_append_9 : decode cX0_append 9 = .ok (.aload_n 0, 1) := by decide +kernel
theorem dX0_append_10 : decode cX0_append 10 = .ok (.getfield 9, 3) := by decide +kernel
theorem dX0_append_13 : decode cX0_append 13 = .ok (.aload_n 0, 1) := by decide +kernel
theorem dX0_append_14 : decode cX0_append 14 = .ok (.getfield 25, 3) := by decide +kernel
theorem dX0_append_17 : decode cX0_append 17 = .ok (.iload_n 1, 1) := by decide +kernel
theorem dX0_append_18 : decode cX0_append 18 = .ok (.iastore, 1) := by decide +kernel
theorem dX0_append_19 : decode cX0_append 19 = .ok (.aload_n 0, 1) := by decide +kernel
theorem dX0_append_20 : decode cX0_append 20 = .ok (.dup, 1) := by decide +kernel
theorem dX0_append_21 : decode cX0_append 21 = .ok (.getfield 25, 3) := by decide +kernel
theorem dX0_append_24 : decode cX0_append 24 = .ok (.iconst 1, 1) := by decide +kernel
theorem dX0_append_25 : decode cX0_append 25 = .ok (.iadd, 1) := by decide +kernel
theorem dX0_append_26 : decode cX0_append 26 = .ok (.putfield 25, 3) := by decide +kernel
theorem dX0_append_29 : decode cX0_append 29 = .ok (.return_, 1) := by decide +kernel
theorem dX0_layAlong_0 : decode cX0_layAlong 0 = .ok (.aload_n 0, 1) := by decide +kernel
theorem dX0_layAlong_1 : decode cX0_layAlong 1 = .ok (.iconst 0, 1) := by decide +kernel
theorem dX0_layAlong_2 : decode cX0_layAlong 2 = .ok (.putfield 21, 3) := by decide +kernel
theorem dX0_layAlong_5 : decode cX0_layAlong 5 = .ok (.iconst 0, 1) := by decide +kernel
theorem dX0_layAlong_6 : decode cX0_layAlong 6 = .ok (.istore_n 2, 1) := by decide +kernel
theorem dX0_layAlong_7 : decode cX0_layAlong 7 = .ok (.iconst 0, 1) := by decide +kernel
theorem dX0_layAlong_8 : decode cX0_layAlong 8 = .ok (.istore_n 3, 1) := by decide +kernel
theorem dX0_layAlong_9 : decode cX0_layAlong 9 = .ok (.iload_n 3, 1) := by decide +kernel
theorem dX0_layAlong_10 : decode cX0_layAlong 10 = .ok (.aload_n 0, 1) := by decide +kernel
theorem dX0_layAlong_11 : decode cX0_layAlong 11 = .ok (.getfield 25, 3) := by decide +kernel
theorem dX0_layAlong_14 : decode cX0_layAlong 14 = .ok (.if_icmp .ge 18, 3) := by decide +kernel
theorem dX0_layAlong_17 : decode cX0_layAlong 17 = .ok (.iload_n 2, 1) := by decide +kernel
theorem dX0_layAlong_18 : decode cX0_layAlong 18 = .ok (.aload_n 0, 1) := by decide +kernel
theorem dX0_layAlong_19 : decode cX0_layAlong 19 = .ok (.getfield 9, 3) := by decide +kernel
theorem dX0_layAlong_22 : decode cX0_layAlong 22 = .ok (.iload_n 3, 1) := by decide +kernel
theorem dX0_layAlong_23 : decode cX0_layAlong 23 = .ok (.iaload, 1) := by decide +kernel
theorem dX0_layAlong_24 : decode cX0_layAlong 24 = .ok (.iadd, 1) := by decide +kernel
theorem dX0_layAlong_25 : decode cX0_layAlong 25 = .ok (.istore_n 2, 1) := by decide +kernel
theorem dX0_layAlong_26 : decode cX0_layAlong 26 = .ok (.iinc 3 1, 3) := by decide +kernel
theorem dX0_layAlong_29 : decode cX0_layAlong 29 = .ok (.goto (-20), 3) := by decide +kernel
theorem dX0_layAlong_32 : decode cX0_layAlong 32 = .ok (.iload_n 2, 1) := by decide +kernel
theorem dX0_layAlong_33 : decode cX0_layAlong 33 = .ok (.ifCond .gt 5, 3) := by decide +kernel
theorem dX0_layAlong_36 : decode cX0_layAlong 36 = .ok (.iconst 0, 1) := by decide +kernel
theorem dX0_layAlong_37 : decode cX0_layAlong 37 = .ok (.ireturn, 1) := by decide +kernel
theorem dX0_layAlong_38 : decode cX0_layAlong 38 = .ok (.aload_n 0, 1) := by decide +kernel
theorem dX0_layAlong_39 : decode cX0_layAlong 39 = .ok (.getfield 28, 3) := by decide +kernel
theorem dX0_layAlong_42 : decode cX0_layAlong 42 = .ok (.iload_n 2, 1) := by decide +kernel
theorem dX0_layAlong_43 : decode cX0_layAlong 43 = .ok (.irem, 1) := by decide +kernel
theorem dX0_layAlong_44 : decode cX0_layAlong 44 = .ok (.ineg, 1) := by decide +kernel
theorem dX0_layAlong_45 : decode cX0_layAlong 45 = .ok (.istore_n 3, 1) := by decide +kernel
theorem dX0_layAlong_46 : decode cX0_layAlong 46 = .ok (.iconst 0, 1) := by decide +kernel
theorem dX0_layAlong_47 : decode cX0_layAlong 47 = .ok (.istore 4, 2) := by decide +kernel
theorem dX0_layAlong_49 : decode cX0_layAlong 49 = .ok (.iload 4, 2) := by decide +kernel
theorem dX0_layAlong_51 : decode cX0_layAlong 51 = .ok (.sipush 2000, 3) := by decide +kernel
theorem dX0_layAlong_54 : decode cX0_layAlong 54 = .ok (.if_icmp .ge 24, 3) := by decide +kernel
theorem dX0_layAlong_57 : decode cX0_layAlong 57 = .ok (.iload_n 3, 1) := by decide +kernel
theorem dX0_layAlong_58 : decode cX0_layAlong 58 = .ok (.iload_n 1, 1) := by decide +kernel
theorem dX0_layAlong_59 : decode cX0_layAlong 59 = .ok (.if_icmp .ge 19, 3) := by decide +kernel
theorem dX0_layAlong_62 : decode cX0_layAlong 62 = .ok (.aload_n 0, 1) := by decide +kernel
theorem dX0_layAlong_63 : decode cX0_layAlong 63 = .ok (.iload_n 3, 1) := by decide +kernel
theorem dX0_layAlong_64 : decode cX0_layAlong 64 = .ok (.iload_n 1, 1) := by decide +kernel
theorem dX0_layAlong_65 : decode cX0_layAlong 65 = .ok (.invokevirtual 31, 3) := by decide +kernel
theorem dX0_layAlong_68 : decode cX0_layAlong 68 = .ok (.iload_n 3, 1) := by decide +kernel
theorem dX0_layAlong_69 : decode cX0_layAlong 69 = .ok (.iload_n 2, 1) := by decide +kernel
theorem dX0_layAlong_70 : decode cX0_layAlong 70 = .ok (.iadd, 1) := by decide +kernel
theorem dX0_layAlong_71 : decode cX0_layAlong 71 = .ok (.istore_n 3, 1) := by decide +kernel
theorem dX0_layAlong_72 : decode cX0_layAlong 72 = .ok (.iinc 4 1, 3) := by decide +kernel
theorem dX0_layAlong_75 : decode cX0_layAlong 75 = .ok (.goto (-26), 3) := by decide +kernel
theorem dX0_layAlong_78 : decode cX0_layAlong 78 = .ok (.aload_n 0, 1) := by decide +kernel
theorem dX0_layAlong_79 : decode cX0_layAlong 79 = .ok (.getfield 21, 3) := by decide +kernel
theorem dX0_layAlong_82 : decode cX0_layAlong 82 = .ok (.ireturn, 1) := by decide +kernel
theorem dX0_layPattern_0 : decode cX0_layPattern 0 = .ok (.iload_n 1, 1) := by decide +kernel
theorem dX0_layPattern_1 : decode cX0_layPattern 1 = .ok (.istore_n 3, 1) := by decide +kernel
theorem dX0_layPattern_2 : decode cX0_layPattern 2 = .ok (.iconst 0, 1) := by decide +kernel
theorem dX0_layPattern_3 : decode cX0_layPattern 3 = .ok (.istore 4, 2) := by decide +kernel
theorem dX0_layPattern_5 : decode cX0_layPattern 5 = .ok (.iload 4, 2) := by decide +kernel
theorem dX0_layPattern_7 : decode cX0_layPattern 7 = .ok (.iconst 1, 1) := by decide +kernel
theorem dX0_layPattern_8 : decode cX0_layPattern 8 = .ok (.iadd, 1) := by decide +kernel
theorem dX0_layPattern_9 : decode cX0_layPattern 9 = .ok (.aload_n 0, 1) := by decide +kernel
theorem dX0_layPattern_10 : decode cX0_layPattern 10 = .ok (.getfield 25, 3) := by decide +kernel
theorem dX0_layPattern_13 : decode cX0_layPattern 13 = .ok (.if_icmp .ge 48, 3) := by decide +kernel
theorem dX0_layPattern_16 : decode cX0_layPattern 16 = .ok (.iload_n 3, 1) := by decide +kernel
theorem dX0_layPattern_17 : decode cX0_layPattern 17 = .ok (.aload_n 0, 1) := by decide +kernel
theorem dX0_layPattern_18 : decode cX0_layPattern 18 = .ok (.getfield 9, 3) := by decide +kernel
theorem dX0_layPattern_21 : decode cX0_layPattern 21 = .ok (.iload 4, 2) := by decide +kernel
theorem dX0_layPattern_23 : decode cX0_layPattern 23 = .ok (.iaload, 1) := by decide +kernel
theorem dX0_layPattern_24 : decode cX0_layPattern 24 = .ok (.iadd, 1) := by decide +kernel
theorem dX0_layPattern_25 : decode cX0_layPattern 25 = .ok (.istore 5, 2) := by decide +kernel
theorem dX0_layPattern_27 : decode cX0_layPattern 27 = .ok (.aload_n 0, 1) := by decide +kernel
theorem dX0_layPattern_28 : decode cX0_layPattern 28 = .ok (.iload_n 3, 1) := by decide +kernel
theorem dX0_layPattern_29 : decode cX0_layPattern 29 = .ok (.iconst 0, 1) := by decide +kernel
theorem dX0_layPattern_30 : decode cX0_layPattern 30 = .ok (.invokestatic 35, 3) := by decide +kernel
theorem dX0_layPattern_33 : decode cX0_layPattern 33 = .ok (.iload 5, 2) := by decide +kernel
theorem dX0_layPattern_35 : decode cX0_layPattern 35 = .ok (.iload_n 2, 1) := by decide +kernel
theorem dX0_layPattern_36 : decode cX0_layPattern 36 = .ok (.invokestatic 41, 3) := by decide +kernel
theorem dX0_layPattern_39 : decode cX0_layPattern 39 = .ok (.invokevirtual 44, 3) := by decide +kernel
theorem dX0_layPattern_42 : decode cX0_layPattern 42 = .ok (.iload 5, 2) := by decide +kernel
theorem dX0_layPattern_44 : decode cX0_layPattern 44 = .ok (.aload_n 0, 1) := by decide +kernel
theorem dX0_layPattern_45 : decode cX0_layPattern 45 = .ok (.getfield 9, 3) := by decide +kernel
theorem dX0_layPattern_48 : decode cX0_layPattern 48 = .ok (.iload 4, 2) := by decide +kernel
theorem dX0_layPattern_50 : decode cX0_layPattern 50 = .ok (.iconst 1, 1) := by decide +kernel
theorem dX0_layPattern_51 : decode cX0_layPattern 51 = .ok (.iadd, 1) := by decide +kernel
theorem dX0_layPattern_52 : decode cX0_layPattern 52 = .ok (.iaload, 1) := by decide +kernel
theorem dX0_layPattern_53 : decode cX0_layPattern 53 = .ok (.iadd, 1) := by decide +kernel
theorem dX0_layPattern_54 : decode cX0_layPattern 54 = .ok (.istore_n 3, 1) := by decide +kernel
theorem dX0_layPattern_55 : decode cX0_layPattern 55 = .ok (.iinc 4 2, 3) := by decide +kernel
theorem dX0_layPattern_58 : decode cX0_layPattern 58 = .ok (.goto (-53), 3) := by decide +kernel
theorem dX0_layPattern_61 : decode cX0_layPattern 61 = .ok (.return_, 1) := by decide +kernel
theorem dX0_keep_0 : decode cX0_keep 0 = .ok (.iload_n 1, 1) := by decide +kernel
theorem dX0_keep_1 : decode cX0_keep 1 = .ok (.iload_n 2, 1) := by decide +kernel
theorem dX0_keep_2 : decode cX0_keep 2 = .ok (.if_icmp .ge 13, 3) := by decide +kernel
theorem dX0_keep_5 : decode cX0_keep 5 = .ok (.aload_n 0, 1) := by decide +kernel
theorem dX0_keep_6 : decode cX0_keep 6 = .ok (.getfield 21, 3) := by decide +kernel
theorem dX0_keep_9 : decode cX0_keep 9 = .ok (.sipush 1000, 3) := by decide +kernel
theorem dX0_keep_12 : decode cX0_keep 12 = .ok (.if_icmp .le 4, 3) := by decide +kernel
theorem dX0_keep_15 : decode cX0_keep 15 = .ok (.return_, 1) := by decide +kernel
theorem dX0_keep_16 : decode cX0_keep 16 = .ok (.aload_n 0, 1) := by decide +kernel
theorem dX0_keep_17 : decode cX0_keep 17 = .ok (.getfield 21, 3) := by decide +kernel
theorem dX0_keep_20 : decode cX0_keep 20 = .ok (.sipush 1000, 3) := by decide +kernel
theorem dX0_keep_23 : decode cX0_keep 23 = .ok (.if_icmp .ge 23, 3) := by decide +kernel
theorem dX0_keep_26 : decode cX0_keep 26 = .ok (.aload_n 0, 1) := by decide +kernel
theorem dX0_keep_27 : decode cX0_keep 27 = .ok (.getfield 15, 3) := by decide +kernel
theorem dX0_keep_30 : decode cX0_keep 30 = .ok (.aload_n 0, 1) := by decide +kernel
theorem dX0_keep_31 : decode cX0_keep 31 = .ok (.getfield 21, 3) := by decide +kernel
theorem dX0_keep_34 : decode cX0_keep 34 = .ok (.iload_n 1, 1) := by decide +kernel
theorem dX0_keep_35 : decode cX0_keep 35 = .ok (.iastore, 1) := by decide +kernel
theorem dX0_keep_36 : decode cX0_keep 36 = .ok (.aload_n 0, 1) := by decide +kernel
theorem dX0_keep_37 : decode cX0_keep 37 = .ok (.getfield 18, 3) := by decide +kernel
theorem dX0_keep_40 : decode cX0_keep 40 = .ok (.aload_n 0, 1) := by decide +kernel
theorem dX0_keep_41 : decode cX0_keep 41 = .ok (.getfield 21, 3) := by decide +kernel
theorem dX0_keep_44 : decode cX0_keep 44 = .ok (.iload_n 2, 1) := by decide +kernel
theorem dX0_keep_45 : decode cX0_keep 45 = .ok (.iastore, 1) := by decide +kernel
theorem dX0_keep_46 : decode cX0_keep 46 = .ok (.aload_n 0, 1) := by decide +kernel
theorem dX0_keep_47 : decode cX0_keep 47 = .ok (.dup, 1) := by decide +kernel
theorem dX0_keep_48 : decode cX0_keep 48 = .ok (.getfield 21, 3) := by decide +kernel
theorem dX0_keep_51 : decode cX0_keep 51 = .ok (.iconst 1, 1) := by decide +kernel
theorem dX0_keep_52 : decode cX0_keep 52 = .ok (.iadd, 1) := by decide +kernel
theorem dX0_keep_53 : decode cX0_keep 53 = .ok (.putfield 21, 3) := by decide +kernel
theorem dX0_keep_56 : decode cX0_keep 56 = .ok (.return_, 1) := by decide +kernel
theorem dX0_has_0 : decode cX0_has 0 = .ok (.iload_n 1, 1) := by decide +kernel
theorem dX0_has_1 : decode cX0_has 1 = .ok (.ifCond .lt 22, 3) := by decide +kernel
theorem dX0_has_4 : decode cX0_has 4 = .ok (.iload_n 1, 1) := by decide +kernel
theorem dX0_has_5 : decode cX0_has 5 = .ok (.aload_n 0, 1) := by decide +kernel
theorem dX0_has_6 : decode cX0_has 6 = .ok (.getfield 21, 3) := by decide +kernel
theorem dX0_has_9 : decode cX0_has 9 = .ok (.if_icmp .ge 14, 3) := by decide +kernel
theorem dX0_has_12 : decode cX0_has 12 = .ok (.iload_n 1, 1) := by decide +kernel
theorem dX0_has_13 : decode cX0_has 13 = .ok (.sipush 1000, 3) := by decide +kernel
theorem dX0_has_16 : decode cX0_has 16 = .ok (.if_icmp .ge 7, 3) := by decide +kernel
theorem dX0_has_19 : decode cX0_has 19 = .ok (.iconst 1, 1) := by decide +kernel
theorem dX0_has_20 : decode cX0_has 20 = .ok (.goto 4, 3) := by decide +kernel
theorem dX0_has_23 : decode cX0_has 23 = .ok (.iconst 0, 1) := by decide +kernel
theorem dX0_has_24 : decode cX0_has 24 = .ok (.ireturn, 1) := by decide +kernel
theorem dX0_beginOf_0 : decode cX0_beginOf 0 = .ok (.aload_n 0, 1) := by decide +kernel
theorem dX0_beginOf_1 : decode cX0_beginOf 1 = .ok (.iload_n 1, 1) := by decide +kernel
theorem dX0_beginOf_2 : decode cX0_beginOf 2 = .ok (.invokevirtual 47, 3) := by decide +kernel
theorem dX0_beginOf_5 : decode cX0_beginOf 5 = .ok (.ifCond .eq 12, 3) := by decide +kernel
theorem dX0_beginOf_8 : decode cX0_beginOf 8 = .ok (.aload_n 0, 1) := by decide +kernel
theorem dX0_beginOf_9 : decode cX0_beginOf 9 = .ok (.getfield 15, 3) := by decide +kernel
theorem dX0_beginOf_12 : decode cX0_beginOf 12 = .ok (.iload_n 1, 1) := by decide +kernel
theorem dX0_beginOf_13 : decode cX0_beginOf 13 = .ok (.iaload, 1) := by decide +kernel
theorem dX0_beginOf_14 : decode cX0_beginOf 14 = .ok (.goto 5, 3) := by decide +kernel
theorem dX0_beginOf_17 : decode cX0_beginOf 17 = .ok (.ldc 51, 2) := by decide +kernel
theorem dX0_beginOf_19 : decode cX0_beginOf 19 = .ok (.ireturn, 1) := by decide +kernel
theorem dX0_endOf_0 : decode cX0_endOf 0 = .ok (.aload_n 0, 1) := by decide +kernel
theorem dX0_endOf_1 : decode cX0_endOf 1 = .ok (.iload_n 1, 1) := by decide +kernel
theorem dX0_endOf_2 : decode cX0_endOf 2 = .ok (.invokevirtual 47, 3) := by decide +kernel
theorem dX0_endOf_5 : decode cX0_endOf 5 = .ok (.ifCond .eq 12, 3) := by decide +kernel
theorem dX0_endOf_8 : decode cX0_endOf 8 = .ok (.aload_n 0, 1) := by decide +kernel
theorem dX0_endOf_9 : decode cX0_endOf 9 = .ok (.getfield 18, 3) := by decide +kernel
theorem dX0_endOf_12 : decode cX0_endOf 12 = .ok (.iload_n 1, 1) := by decide +kernel
theorem dX0_endOf_13 : decode cX0_endOf 13 = .ok (.iaload, 1) := by decide +kernel
theorem dX0_endOf_14 : decode cX0_endOf 14 = .ok (.goto 5, 3) := by decide +kernel
theorem dX0_endOf_17 : decode cX0_endOf 17 = .ok (.ldc 51, 2) := by decide +kernel
theorem dX0_endOf_19 : decode cX0_endOf 19 = .ok (.ireturn, 1) := by decide +kernel
theorem dX1_init_0 : decode cX1_init 0 = .ok (.aload_n 0, 1) := by decide +kernel
theorem dX1_init_1 : decode cX1_init 1 = .ok (.invokespecial 3, 3) := by decide +kernel
theorem dX1_init_4 : decode cX1_init 4 = .ok (.aload_n 0, 1) := by decide +kernel
theorem dX1_init_5 : decode cX1_init 5 = .ok (.sipush 1536, 3) := by decide +kernel
theorem dX1_init_8 : decode cX1_init 8 = .ok (.newarray .int, 2) := by decide +kernel
theorem dX1_init_10 : decode cX1_init 10 = .ok (.putfield 9, 3) := by decide +kernel
theorem dX1_init_13 : decode cX1_init 13 = .ok (.aload_n 0, 1) := by decide +kernel
theorem dX1_init_14 : decode cX1_init 14 = .ok (.sipush 1536, 3) := by decide +kernel
theorem dX1_init_17 : decode cX1_init 17 = .ok (.newarray .int, 2) := by decide +kernel
theorem dX1_init_19 : decode cX1_init 19 = .ok (.putfield 15, 3) := by decide +kernel
theorem dX1_init_22 : decode cX1_init 22 = .ok (.aload_n 0, 1) := by decide +kernel
theorem dX1_init_23 : decode cX1_init 23 = .ok (.sipush 1536, 3) := by decide +kernel
theorem dX1_init_26 : decode cX1_init 26 = .ok (.newarray .int, 2) := by decide +kernel
theorem dX1_init_28 : decode cX1_init 28 = .ok (.putfield 18, 3) := by decide +kernel
theorem dX1_init_31 : decode cX1_init 31 = .ok (.aload_n 0, 1) := by decide +kernel
theorem dX1_init_32 : decode cX1_init 32 = .ok (.sipush 1536, 3) := by decide +kernel
theorem dX1_init_35 : decode cX1_init 35 = .ok (.newarray .int, 2) := by decide +kernel
theorem dX1_init_37 : decode cX1_init 37 = .ok (.putfield 21, 3) := by decide +kernel
theorem dX1_init_40 : decode cX1_init 40 = .ok (.aload_n 0, 1) := by decide +kernel
theorem dX1_init_41 : decode cX1_init 41 = .ok (.bipush 25, 2) := by decide +kernel
theorem dX1_init_43 : decode cX1_init 43 = .ok (.newarray .int, 2) := by decide +kernel
theorem dX1_init_45 : decode cX1_init 45 = .ok (.putfield 24, 3) := by decide +kernel
theorem dX1_init_48 : decode cX1_init 48 = .ok (.aload_n 0, 1) := by decide +kernel
theorem dX1_init_49 : decode cX1_init 49 = .ok (.bipush 24, 2) := by decide +kernel
theorem dX1_init_51 : decode cX1_init 51 = .ok (.newarray .boolean, 2) := by decide +kernel
theorem dX1_init_53 : decode cX1_init 53 = .ok (.putfield 27, 3) := by decide +kernel
theorem dX1_init_56 : decode cX1_init 56 = .ok (.aload_n 0, 1) := by decide +kernel
theorem dX1_init_57 : decode cX1_init 57 = .ok (.new 31, 3) := by decide +kernel
theorem dX1_init_60 : decode cX1_init 60 = .ok (.dup, 1) := by decide +kernel
theorem dX1_init_61 : decode cX1_init 61 = .ok (.invokespecial 33, 3) := by decide +kernel
theorem dX1_init_64 : decode cX1_init 64 = .ok (.putfield 34, 3) := by decide +kernel
theorem dX1_init_67 : decode cX1_init 67 = .ok (.aload_n 0, 1) := by decide +kernel
theorem dX1_init_68 : decode cX1_init 68 = .ok (.iconst 0, 1) := by decide +kernel
theorem dX1_init_69 : decode cX1_init 69 = .ok (.putfield 38, 3) := by decide +kernel
theorem dX1_init_72 : decode cX1_init 72 = .ok (.aload_n 0, 1) := by decide +kernel
theorem dX1_init_73 : decode cX1_init 73 = .ok (.iconst 0, 1) := by decide +kernel
theorem dX1_init_74 : decode cX1_init 74 = .ok (.putfield 42, 3) := by decide +kernel
theorem dX1_init_77 : decode cX1_init 77 = .ok (.return_, 1) := by decide +kernel
theorem dX1_flatten_0 : decode cX1_flatten 0 = .ok (.aload_n 0, 1) := by decide +kernel
theorem dX1_flatten_1 : decode cX1_flatten 1 = .ok (.iconst 0, 1) := by decide +kernel
theorem dX1_flatten_2 : decode cX1_flatten 2 = .ok (.putfield 38, 3) := by decide +kernel
theorem dX1_flatten_5 : decode cX1_flatten 5 = .ok (.aload_n 0, 1) := by decide +kernel
theorem dX1_flatten_6 : decode cX1_flatten 6 = .ok (.iconst 0, 1) := by decide +kernel
theorem dX1_flatten_7 : decode cX1_flatten 7 = .ok (.putfield 42, 3) := by decide +kernel
theorem dX1_flatten_10 : decode cX1_flatten 10 = .ok (.aload_n 0, 1) := by decide +kernel
theorem dX1_flatten_11 : decode cX1_flatten 11 = .ok (.getfield 24, 3) := by decide +kernel
theorem dX1_flatten_14 : decode cX1_flatten 14 = .ok (.iconst 0, 1) := by decide +kernel
theorem dX1_flatten_15 : decode cX1_flatten 15 = .ok (.iconst 0, 1) := by decide +kernel
theorem dX1_flatten_16 : decode cX1_flatten 16 = .ok (.iastore, 1) := by decide +kernel
theorem dX1_flatten_17 : decode cX1_flatten 17 = .ok (.iconst 0, 1) := by decide +kernel
theorem dX1_flatten_18 : decode cX1_flatten 18 = .ok (.istore_n 3, 1) := by decide +kernel
theorem dX1_flatten_19 : decode cX1_flatten 19 = .ok (.iload_n 3, 1) := by decide +kernel
theorem dX1_flatten_20 : decode cX1_flatten 20 = .ok (.aload_n 1, 1) := by decide +kernel
theorem dX1_flatten_21 : decode cX1_flatten 21 = .ok (.getfield 45, 3) := by decide +kernel
theorem dX1_flatten_24 : decode cX1_flatten 24 = .ok (.if_icmp .ge 101, 3) := by decide +kernel
theorem dX1_flatten_27 : decode cX1_flatten 27 = .ok (.aload_n 1, 1) := by decide +kernel
theorem dX1_flatten_28 : decode cX1_flatten 28 = .ok (.iload_n 3, 1) := by decide +kernel
theorem dX1_flatten_29 : decode cX1_flatten 29 = .ok (.invokevirtual 48, 3) := by decide +kernel
theorem dX1_flatten_32 : decode cX1_flatten 32 = .ok (.istore 4, 2) := by decide +kernel
theorem dX1_flatten_34 : decode cX1_flatten 34 = .ok (.iload 4, 2) := by decide +kernel
theorem dX1_flatten_36 : decode cX1_flatten 36 = .ok (.ifCond .ne 21, 3) := by decide +kernel
theorem dX1_flatten_39 : decode cX1_flatten 39 = .ok (.aload_n 0, 1) := by decide +kernel
theorem dX1_flatten_40 : decode cX1_flatten 40 = .ok (.iload_n 3, 1) := by decide +kernel
theorem dX1_flatten_41 : decode cX1_flatten 41 = .ok (.aload_n 1, 1) := by decide +kernel
theorem dX1_flatten_42 : decode cX1_flatten 42 = .ok (.iload_n 3, 1) := by decide +kernel
theorem dX1_flatten_43 : decode cX1_flatten 43 = .ok (.invokevirtual 52, 3) := by decide +kernel
theorem dX1_flatten_46 : decode cX1_flatten 46 = .ok (.aload_n 1, 1) := by decide +kernel
theorem dX1_flatten_47 : decode cX1_flatten 47 = .ok (.iload_n 3, 1) := by decide +kernel
theorem dX1_flatten_48 : decode cX1_flatten 48 = .ok (.invokevirtual 55, 3) := by decide +kernel
theorem dX1_flatten_51 : decode cX1_flatten 51 = .ok (.invokevirtual 58, 3) := by decide +kernel
theorem dX1_flatten_54 : decode cX1_flatten 54 = .ok (.goto 40, 3) := by decide +kernel
theorem dX1_flatten_57 : decode cX1_flatten 57 = .ok (.iload 4, 2) := by decide +kernel
theorem dX1_flatten_59 : decode cX1_flatten 59 = .ok (.iconst 2, 1) := by decide +kernel
theorem dX1_flatten_60 : decode cX1_flatten 60 = .ok (.if_icmp .eq 9, 3) := by decide +kernel
theorem dX1_flatten_63 : decode cX1_flatten 63 = .ok (.iload 4, 2) := by decide +kernel
theorem dX1_flatten_65 : decode cX1_flatten 65 = .ok (.iconst 3, 1) := by decide +kernel
theorem dX1_flatten_66 : decode cX1_flatten 66 = .ok (.if_icmp .ne 13, 3) := by decide +kernel
theorem dX1_flatten_69 : decode cX1_flatten 69 = .ok (.aload_n 0, 1) := by decide +kernel
theorem dX1_flatten_70 : decode cX1_flatten 70 = .ok (.aload_n 1, 1) := by decide +kernel
theorem dX1_flatten_71 : decode cX1_flatten 71 = .ok (.iload_n 3, 1) := by decide +kernel
theorem dX1_flatten_72 : decode cX1_flatten 72 = .ok (.iload_n 2, 1) := by decide +kernel
theorem dX1_flatten_73 : decode cX1_flatten 73 = .ok (.invokevirtual 62, 3) := by decide +kernel
theorem dX1_flatten_76 : decode cX1_flatten 76 = .ok (.goto 18, 3) := by decide +kernel
theorem dX1_flatten_79 : decode cX1_flatten 79 = .ok (.aload_n 0, 1) := by decide +kernel
theorem dX1_flatten_80 : decode cX1_flatten 80 = .ok (.iload_n 3, 1) := by decide +kernel
theorem dX1_flatten_81 : decode cX1_flatten 81 = .ok (.aload_n 1, 1) := by decide +kernel
theorem dX1_flatten_82 : decode cX1_flatten 82 = .ok (.iload_n 3, 1) := by decide +kernel
theorem dX1_flatten_83 : decode cX1_flatten 83 = .ok (.invokevirtual 52, 3) := by decide +kernel
theorem dX1_flatten_86 : decode cX1_flatten 86 = .ok (.aload_n 1, 1) := by decide +kernel
theorem dX1_flatten_87 : decode cX1_flatten 87 = .ok (.iload_n 3, 1) := by decide +kernel
theorem dX1_flatten_88 : decode cX1_flatten 88 = .ok (.invokevirtual 55, 3) := by decide +kernel
theorem dX1_flatten_91 : decode cX1_flatten 91 = .ok (.invokevirtual 66, 3) := by decide +kernel
theorem dX1_flatten_94 : decode cX1_flatten 94 = .ok (.iload 4, 2) := by decide +kernel
theorem dX1_flatten_96 : decode cX1_flatten 96 = .ok (.iconst 4, 1) := by decide +kernel
theorem dX1_flatten_97 : decode cX1_flatten 97 = .ok (.if_icmp .ne 22, 3) := by decide +kernel
theorem dX1_flatten_100 : decode cX1_flatten 100 = .ok (.aload_n 0, 1) := by decide +kernel
theorem dX1_flatten_101 : decode cX1_flatten 101 = .ok (.getfield 42, 3) := by decide +kernel
theorem dX1_flatten_104 : decode cX1_flatten 104 = .ok (.ifCond .le 15, 3) := by decide +kernel
theorem dX1_flatten_107 : decode cX1_flatten 107 = .ok (.aload_n 0, 1) := by decide +kernel
theorem dX1_flatten_108 : decode cX1_flatten 108 = .ok (.getfield 27, 3) := by decide +kernel
theorem dX1_flatten_111 : decode cX1_flatten 111 = .ok (.aload_n 0, 1) := by decide +kernel
theorem dX1_flatten_112 : decode cX1_flatten 112 = .ok (.getfield 42, 3) := by decide +kernel
theorem dX1_flatten_115 : decode cX1_flatten 115 = .ok (.iconst 1, 1) := by decide +kernel
theorem dX1_flatten_116 : decode cX1_flatten 116 = .ok (.isub, 1) := by decide +kernel
theorem dX1_flatten_117 : decode cX1_flatten 117 = .ok (.iconst 1, 1) := by decide +kernel
theorem dX1_flatten_118 : decode cX1_flatten 118 = .ok (.bastore, 1) := by decide +kernel
theorem dX1_flatten_119 : decode cX1_flatten 119 = .ok (.iinc 3 1, 3) := by decide +kernel
theorem dX1_flatten_122 : decode cX1_flatten 122 = .ok (.goto (-103), 3) := by decide +kernel
theorem dX1_flatten_125 : decode cX1_flatten 125 = .ok (.return_, 1) := by decide +kernel
theorem dX1_beginContour_0 : decode cX1_beginContour 0 = .ok (.aload_n 0, 1) := by decide +kernel
theorem dX1_beginContour_1 : decode cX1_beginContour 1 = .ok (.getfield 42, 3) := by decide +kernel
theorem dX1_beginContour_4 : decode cX1_beginContour 4 = .ok (.bipush 24, 2) := by decide +kernel
theorem dX1_beginContour_6 : decode cX1_beginContour 6 = .ok (.if_icmp .lt 4, 3) := by decide +kernel
theorem dX1_beginContour_9 : decode cX1_beginContour 9 = .ok (.return_, 1) := by decide +kernel
theorem dX1_beginContour_10 : decode cX1_beginContour 10 = .ok (.aload_n 0, 1) := by decide +kernel
theorem dX1_beginContour_11 : decode cX1_beginContour 11 = .ok (.getfield 27, 3) := by decide +kernel
theorem dX1_beginContour_14 : decode cX1_beginContour 14 = .ok (.aload_n 0, 1) := by decide +kernel
theorem dX1_beginContour_15 : decode cX1_beginContour 15 = .ok (.getfield 42, 3) := by decide +kernel
theorem dX1_beginContour_18 : decode cX1_beginContour 18 = .ok (.iconst 0, 1) := by decide +kernel
theorem dX1_beginContour_19 : decode cX1_beginContour 19 = .ok (.bastore, 1) := by decide +kernel
theorem dX1_beginContour_20 : decode cX1_beginContour 20 = .ok (.aload_n 0, 1) := by decide +kernel
theorem dX1_beginContour_21 : decode cX1_beginContour 21 = .ok (.dup, 1) := by decide +kernel
theorem dX1_beginContour_22 : decode cX1_beginContour 22 = .ok (.getfield 42, 3) := by decide +kernel
theorem dX1_beginContour_25 : decode cX1_beginContour 25 = .ok (.iconst 1, 1) := by decide +kernel
theorem dX1_beginContour_26 : decode cX1_beginContour 26 = .ok (.iadd, 1) := by decide +kernel
theorem dX1_beginContour_27 : decode cX1_beginContour 27 = .ok (.putfield 42, 3) := by decide +kernel
theorem dX1_beginContour_30 : decode cX1_beginContour 30 = .ok (.aload_n 0, 1) := by decide +kernel
theorem dX1_beginContour_31 : decode cX1_beginContour 31 = .ok (.iload_n 1, 1) := by decide +kernel
theorem dX1_beginContour_32 : decode cX1_beginContour 32 = .ok (.iload_n 2, 1) := by decide +kernel
theorem dX1_beginContour_33 : decode cX1_beginContour 33 = .ok (.iload_n 3, 1) := by decide +kernel
theorem dX1_beginContour_34 : decode cX1_beginContour 34 = .ok (.iconst 0, 1) := by decide +kernel
theorem dX1_beginContour_35 : decode cX1_beginContour 35 = .ok (.invokevirtual 69, 3) := by decide +kernel
theorem dX1_beginContour_38 : decode cX1_beginContour 38 = .ok (.return_, 1) := by decide +kernel
theorem dX1_addCurve_0 : decode cX1_addCurve 0 = .ok (.aload_n 0, 1) := by decide +kernel
theorem dX1_addCurve_1 : decode cX1_addCurve 1 = .ok (.getfield 34, 3) := by decide +kernel
theorem dX1_addCurve_4 : decode cX1_addCurve 4 = .ok (.aload_n 1, 1) := by decide +kernel
theorem dX1_addCurve_5 : decode cX1_addCurve 5 = .ok (.iload_n 2, 1) := by decide +kernel
theorem dX1_addCurve_6 : decode cX1_addCurve 6 = .ok (.aload_n 1, 1) := by decide +kernel
theorem dX1_addCurve_7 : decode cX1_addCurve 7 = .ok (.iload_n 2, 1) := by decide +kernel
theorem dX1_addCurve_8 : decode cX1_addCurve 8 = .ok (.iconst 1, 1) := by decide +kernel
theorem dX1_addCurve_9 : decode cX1_addCurve 9 = .ok (.isub, 1) := by decide +kernel
theorem dX1_addCurve_10 : decode cX1_addCurve 10 = .ok (.invokevirtual 52, 3) := by decide +kernel
theorem dX1_addCurve_13 : decode cX1_addCurve 13 = .ok (.aload_n 1, 1) := by decide +kernel
theorem dX1_addCurve_14 : decode cX1_addCurve 14 = .ok (.iload_n 2, 1) := by decide +kernel
theorem dX1_addCurve_15 : decode cX1_addCurve 15 = .ok (.iconst 1, 1) := by decide +kernel
theorem dX1_addCurve_16 : decode cX1_addCurve 16 = .ok (.isub, 1) := by decide +kernel
theorem dX1_addCurve_17 : decode cX1_addCurve 17 = .ok (.invokevirtual 55, 3) := by decide +kernel
theorem dX1_addCurve_20 : decode cX1_addCurve 20 = .ok (.invokevirtual 73, 3) := by decide +kernel
theorem dX1_addCurve_23 : decode cX1_addCurve 23 = .ok (.iconst 0, 1) := by decide +kernel
theorem dX1_addCurve_24 : decode cX1_addCurve 24 = .ok (.istore 4, 2) := by decide +kernel
theorem dX1_addCurve_26 : decode cX1_addCurve 26 = .ok (.iload 4, 2) := by decide +kernel
theorem dX1_addCurve_28 : decode cX1_addCurve 28 = .ok (.bipush 64, 2) := by decide +kernel
theorem dX1_addCurve_30 : decode cX1_addCurve 30 = .ok (.if_icmp .ge 53, 3) := by decide +kernel
theorem dX1_addCurve_33 : decode cX1_addCurve 33 = .ok (.aload_n 0, 1) := by decide +kernel
theorem dX1_addCurve_34 : decode cX1_addCurve 34 = .ok (.getfield 34, 3) := by decide +kernel
theorem dX1_addCurve_37 : decode cX1_addCurve 37 = .ok (.invokevirtual 77, 3) := by decide +kernel
theorem dX1_addCurve_40 : decode cX1_addCurve 40 = .ok (.ifCond .eq 43, 3) := by decide +kernel
theorem dX1_addCurve_43 : decode cX1_addCurve 43 = .ok (.aload_n 0, 1) := by decide +kernel
theorem dX1_addCurve_44 : decode cX1_addCurve 44 = .ok (.getfield 34, 3) := by decide +kernel
theorem dX1_addCurve_47 : decode cX1_addCurve 47 = .ok (.iload_n 3, 1) := by decide +kernel
theorem dX1_addCurve_48 : decode cX1_addCurve 48 = .ok (.invokevirtual 81, 3) := by decide +kernel
theorem dX1_addCurve_51 : decode cX1_addCurve 51 = .ok (.aload_n 0, 1) := by decide +kernel
theorem dX1_addCurve_52 : decode cX1_addCurve 52 = .ok (.iload_n 2, 1) := by decide +kernel
theorem dX1_addCurve_53 : decode cX1_addCurve 53 = .ok (.aload_n 0, 1) := by decide +kernel
theorem dX1_addCurve_54 : decode cX1_addCurve 54 = .ok (.getfield 34, 3) := by decide +kernel
theorem dX1_addCurve_57 : decode cX1_addCurve 57 = .ok (.invokevirtual 85, 3) := by decide +kernel
theorem dX1_addCurve_60 : decode cX1_addCurve 60 = .ok (.aload_n 0, 1) := by decide +kernel
theorem dX1_addCurve_61 : decode cX1_addCurve 61 = .ok (.getfield 34, 3) := by decide +kernel
theorem dX1_addCurve_64 : decode cX1_addCurve 64 = .ok (.invokevirtual 89, 3) := by decide +kernel
theorem dX1_addCurve_67 : decode cX1_addCurve 67 = .ok (.invokevirtual 66, 3) := by decide +kernel
theorem dX1_addCurve_70 : decode cX1_addCurve 70 = .ok (.aload_n 0, 1) := by decide +kernel
theorem dX1_addCurve_71 : decode cX1_addCurve 71 = .ok (.getfield 34, 3) := by decide +kernel
theorem dX1_addCurve_74 : decode cX1_addCurve 74 = .ok (.invokevirtual 92, 3) := by decide +kernel
theorem dX1_addCurve_77 : decode cX1_addCurve 77 = .ok (.iinc 4 1, 3) := by decide +kernel
theorem dX1_addCurve_80 : decode cX1_addCurve 80 = .ok (.goto (-54), 3) := by decide +kernel
theorem dX1_addCurve_83 : decode cX1_addCurve 83 = .ok (.return_, 1) := by decide +kernel
theorem dX1_addVertex_0 : decode cX1_addVertex 0 = .ok (.aload_n 0, 1) := by decide +kernel
theorem dX1_addVertex_1 : decode cX1_addVertex 1 = .ok (.getfield 38, 3) := by decide +kernel
theorem dX1_addVertex_4 : decode cX1_addVertex 4 = .ok (.iconst 1, 1) := by decide +kernel
theorem dX1_addVertex_5 : decode cX1_addVertex 5 = .ok (.if_icmp .ge 4, 3) := by decide +kernel
theorem dX1_addVertex_8 : decode cX1_addVertex 8 = .ok (.return_, 1) := by decide +kernel
theorem dX1_addVertex_9 : decode cX1_addVertex 9 = .ok (.iload_n 2, 1) := by decide +kernel
theorem dX1_addVertex_10 : decode cX1_addVertex 10 = .ok (.aload_n 0, 1) := by decide +kernel
theorem dX1_addVertex_11 : decode cX1_addVertex 11 = .ok (.getfield 9, 3) := by decide +kernel
theorem dX1_addVertex_14 : decode cX1_addVertex 14 = .ok (.aload_n 0, 1) := by decide +kernel
theorem dX1_addVertex_15 : decode cX1_addVertex 15 = .ok (.getfield 38, 3) := by decide +kernel
theorem dX1_addVertex_18 : decode cX1_addVertex 18 = .ok (.iconst 1, 1) := by decide +kernel
theorem dX1_addVertex_19 : decode cX1_addVertex 19 = .ok (.isub, 1) := by decide +kernel
theorem dX1_addVertex_20 : decode cX1_addVertex 20 = .ok (.iaload, 1) := by decide +kernel
theorem dX1_addVertex_21 : decode cX1_addVertex 21 = .ok (.isub, 1) := by decide +kernel
theorem dX1_addVertex_22 : decode cX1_addVertex 22 = .ok (.istore 4, 2) := by decide +kernel
theorem dX1_addVertex_24 : decode cX1_addVertex 24 = .ok (.iload_n 3, 1) := by decide +kernel
theorem dX1_addVertex_25 : decode cX1_addVertex 25 = .ok (.aload_n 0, 1) := by decide +kernel
theorem dX1_addVertex_26 : decode cX1_addVertex 26 = .ok (.getfield 15, 3) := by decide +kernel
theorem dX1_addVertex_29 : decode cX1_addVertex 29 = .ok (.aload_n 0, 1) := by decide +kernel
theorem dX1_addVertex_30 : decode cX1_addVertex 30 = .ok (.getfield 38, 3) := by decide +kernel
theorem dX1_addVertex_33 : decode cX1_addVertex 33 = .ok (.iconst 1, 1) := by decide +kernel
theorem dX1_addVertex_34 : decode cX1_addVertex 34 = .ok (.isub, 1) := by decide +kernel
theorem dX1_addVertex_35 : decode cX1_addVertex 35 = .ok (.iaload, 1) := by decide +kernel
theorem dX1_addVertex_36 : decode cX1_addVertex 36 = .ok (.isub, 1) := by decide +kernel
theorem dX1_addVertex_37 : decode cX1_addVertex 37 = .ok (.istore 5, 2) := by decide +kernel
theorem dX1_addVertex_39 : decode cX1_addVertex 39 = .ok (.iload 4, 2) := by decide +kernel
theorem dX1_addVertex_41 : decode cX1_addVertex 41 = .ok (.ifCond .ne 8, 3) := by decide +kernel
theorem dX1_addVertex_44 : decode cX1_addVertex 44 = .ok (.iload 5, 2) := by decide +kernel
theorem dX1_addVertex_46 : decode cX1_addVertex 46 = .ok (.ifCond .eq 29, 3) := by decide +kernel
theorem dX1_addVertex_49 : decode cX1_addVertex 49 = .ok (.aload_n 0, 1) := by decide +kernel
theorem dX1_addVertex_50 : decode cX1_addVertex 50 = .ok (.iload_n 1, 1) := by decide +kernel
theorem dX1_addVertex_51 : decode cX1_addVertex 51 = .ok (.iload_n 2, 1) := by decide +kernel
theorem dX1_addVertex_52 : decode cX1_addVertex 52 = .ok (.iload_n 3, 1) := by decide +kernel
theorem dX1_addVertex_53 : decode cX1_addVertex 53 = .ok (.aload_n 0, 1) := by decide +kernel
theorem dX1_addVertex_54 : decode cX1_addVertex 54 = .ok (.getfield 18, 3) := by decide +kernel
theorem dX1_addVertex_57 : decode cX1_addVertex 57 = .ok (.aload_n 0, 1) := by decide +kernel
theorem dX1_addVertex_58 : decode cX1_addVertex 58 = .ok (.getfield 38, 3) := by decide +kernel
theorem dX1_addVertex_61 : decode cX1_addVertex 61 = .ok (.iconst 1, 1) := by decide +kernel
theorem dX1_addVertex_62 : decode cX1_addVertex 62 = .ok (.isub, 1) := by decide +kernel
theorem dX1_addVertex_63 : decode cX1_addVertex 63 = .ok (.iaload, 1) := by decide +kernel
theorem dX1_addVertex_64 : decode cX1_addVertex 64 = .ok (.iload 4, 2) := by decide +kernel
theorem dX1_addVertex_66 : decode cX1_addVertex 66 = .ok (.iload 5, 2) := by decide +kernel
theorem dX1_addVertex_68 : decode cX1_addVertex 68 = .ok (.invokestatic 95, 3) := by decide +kernel
theorem dX1_addVertex_71 : decode cX1_addVertex 71 = .ok (.iadd, 1) := by decide +kernel
theorem dX1_addVertex_72 : decode cX1_addVertex 72 = .ok (.invokevirtual 69, 3) := by decide +kernel
theorem dX1_addVertex_75 : decode cX1_addVertex 75 = .ok (.return_, 1) := by decide +kernel
theorem dX1_append_0 : decode cX1_append 0 = .ok (.aload_n 0, 1) := by decide +kernel
theorem dX1_append_1 : decode cX1_append 1 = .ok (.getfield 38, 3) := by decide +kernel
theorem dX1_append_4 : decode cX1_append 4 = .ok (.sipush 1536, 3) := by decide +kernel
theorem dX1_append_7 : decode cX1_append 7 = .ok (.if_icmp .lt 4, 3) := by decide +kernel
theorem dX1_append_10 : decode cX1_append 10 = .ok (.return_, 1) := by decide +kernel
theorem dX1_append_11 : decode cX1_append 11 = .ok (.aload_n 0, 1) := by decide +kernel
theorem dX1_append_12 : decode cX1_append 12 = .ok (.getfield 9, 3) := by decide +kernel
theorem dX1_append_15 : decode cX1_append 15 = .ok (.aload_n 0, 1) := by decide +kernel
theorem dX1_append_16 : decode cX1_append 16 = .ok (.getfield 38, 3) := by decide +kernel
theorem dX1_append_19 : decode cX1_append 19 = .ok (.iload_n 2, 1) := by decide +kernel
theorem dX1_append_20 : decode cX1_append 20 = .ok (.iastore, 1) := by decide +kernel
theorem dX1_append_21 : decode cX1_append 21 = .ok (.aload_n 0, 1) := by decide +kernel
theorem dX1_append_22 : decode cX1_append 22 = .ok (.getfield 15, 3) := by decide +kernel
theorem dX1_append_25 : decode cX1_append 25 = .ok (.aload_n 0, 1) := by decide +kernel
theorem dX1_append_26 : decode cX1_append 26 = .ok (.getfield 38, 3) := by decide +kernel
theorem dX1_append_29 : decode cX1_append 29 = .ok (.iload_n 3, 1) := by decide +kernel
theorem dX1_append_30 : decode cX1_append 30 = .ok (.iastore, 1) := by decide +kernel
theorem dX1_append_31 : decode cX1_append 31 = .ok (.aload_n 0, 1) := by decide +kernel
theorem dX1_append_32 : decode cX1_append 32 = .ok (.getfield 18, 3) := by decide +kernel
theorem dX1_append_35 : decode cX1_append 35 = .ok (.aload_n 0, 1) := by decide +kernel
theorem dX1_append_36 : decode cX1_append 36 = .ok (.getfield 38, 3) := by decide +kernel
theorem dX1_append_39 : decode cX1_append 39 = .ok (.iload 4, 2) := by decide +kernel
theorem dX1_append_41 : decode cX1_append 41 = .ok (.iastore, 1) := by decide +kernel
theorem dX1_append_42 : decode cX1_append 42 = .ok (.aload_n 0, 1) := by decide +kernel
theorem dX1_append_43 : decode cX1_append 43 = .ok (.getfield 21, 3) := by decide +kernel
theorem dX1_append_46 : decode cX1_append 46 = .ok (.aload_n 0, 1) := by decide +kernel
theorem dX1_append_47 : decode cX1_append 47 = .ok (.getfield 38, 3) := by decide +kernel
theorem dX1_append_50 : decode cX1_append 50 = .ok (.iload_n 1, 1) := by decide +kernel
theorem dX1_append_51 : decode cX1_append 51 = .ok (.iastore, 1) := by decide +kernel
theorem dX1_append_52 : decode cX1_append 52 = .ok (.aload_n 0, 1) := by decide +kernel
theorem dX1_append_53 : decode cX1_append 53 = .ok (.dup, 1) := by decide +kernel
theorem dX1_append_54 : decode cX1_append 54 = .ok (.getfield 38, 3) := by decide +kernel
theorem dX1_append_57 : decode cX1_append 57 = .ok (.iconst 1, 1) := by decide +kernel
theorem dX1_append_58 : decode cX1_append 58 = .ok (.iadd, 1) := by decide +kernel
theorem dX1_append_59 : decode cX1_append 59 = .ok (.putfield 38, 3) := by decide +kernel
theorem dX1_append_62 : decode cX1_append 62 = .ok (.aload_n 0, 1) := by decide +kernel
theorem dX1_append_63 : decode cX1_append 63 = .ok (.getfield 24, 3) := by decide +kernel
theorem dX1_append_66 : decode cX1_append 66 = .ok (.aload_n 0, 1) := by decide +kernel
theorem dX1_append_67 : decode cX1_append 67 = .ok (.getfield 42, 3) := by decide +kernel
theorem dX1_append_70 : decode cX1_append 70 = .ok (.aload_n 0, 1) := by decide +kernel
theorem dX1_append_71 : decode cX1_append 71 = .ok (.getfield 38, 3) := by decide +kernel
theorem dX1_append_74 : decode cX1_append 74 = .ok (.iastore, 1) := by decide +kernel
theorem dX1_append_75 : decode cX1_append 75 = .ok (.return_, 1) := by decide +kernel
theorem dX1_segmentLength_0 : decode cX1_segmentLength 0 = .ok (.ldc2_w 99, 3) := by decide +kernel
theorem dX1_segmentLength_3 : decode cX1_segmentLength 3 = .ok (.iload_n 0, 1) := by decide +kernel
theorem dX1_segmentLength_4 : decode cX1_segmentLength 4 = .ok (.i2l, 1) := by decide +kernel
theorem dX1_segmentLength_5 : decode cX1_segmentLength 5 = .ok (.iload_n 0, 1) := by decide +kernel
theorem dX1_segmentLength_6 : decode cX1_segmentLength 6 = .ok (.i2l, 1) := by decide +kernel
theorem dX1_segmentLength_7 : decode cX1_segmentLength 7 = .ok (.lmul, 1) := by decide +kernel
theorem dX1_segmentLength_8 : decode cX1_segmentLength 8 = .ok (.iload_n 1, 1) := by decide +kernel
theorem dX1_segmentLength_9 : decode cX1_segmentLength 9 = .ok (.i2l, 1) := by decide +kernel
theorem dX1_segmentLength_10 : decode cX1_segmentLength 10 = .ok (.iload_n 1, 1) := by decide +kernel
theorem dX1_segmentLength_11 : decode cX1_segmentLength 11 = .ok (.i2l, 1) := by decide +kernel
theorem dX1_segmentLength_12 : decode cX1_segmentLength 12 = .ok (.lmul, 1) := by decide +kernel
theorem dX1_segmentLength_13 : decode cX1_segmentLength 13 = .ok (.ladd, 1) := by decide +kernel
theorem dX1_segmentLength_14 : decode cX1_segmentLength 14 = .ok (.lmul, 1) := by decide +kernel
theorem dX1_segmentLength_15 : decode cX1_segmentLength 15 = .ok (.lstore_n 2, 1) := by decide +kernel
theorem dX1_segmentLength_16 : decode cX1_segmentLength 16 = .ok (.lconst 0, 1) := by decide +kernel
theorem dX1_segmentLength_17 : decode cX1_segmentLength 17 = .ok (.lstore 4, 2) := by decide +kernel
theorem dX1_segmentLength_19 : decode cX1_segmentLength 19 = .ok (.bipush 17, 2) := by decide +kernel
theorem dX1_segmentLength_21 : decode cX1_segmentLength 21 = .ok (.istore 6, 2) := by decide +kernel
theorem dX1_segmentLength_23 : decode cX1_segmentLength 23 = .ok (.iload 6, 2) := by decide +kernel
theorem dX1_segmentLength_25 : decode cX1_segmentLength 25 = .ok (.ifCond .lt 32, 3) := by decide +kernel
theorem dX1_segmentLength_28 : decode cX1_segmentLength 28 = .ok (.lload 4, 2) := by decide +kernel
theorem dX1_segmentLength_30 : decode cX1_segmentLength 30 = .ok (.lconst 1, 1) := by decide +kernel
theorem dX1_segmentLength_31 : decode cX1_segmentLength 31 = .ok (.iload 6, 2) := by decide +kernel
theorem dX1_segmentLength_33 : decode cX1_segmentLength 33 = .ok (.lshl, 1) := by decide +kernel
theorem dX1_segmentLength_34 : decode cX1_segmentLength 34 = .ok (.ladd, 1) := by decide +kernel
theorem dX1_segmentLength_35 : decode cX1_segmentLength 35 = .ok (.lstore 7, 2) := by decide +kernel
theorem dX1_segmentLength_37 : decode cX1_segmentLength 37 = .ok (.lload 7, 2) := by decide +kernel
theorem dX1_segmentLength_39 : decode cX1_segmentLength 39 = .ok (.lload 7, 2) := by decide +kernel
theorem dX1_segmentLength_41 : decode cX1_segmentLength 41 = .ok (.lmul, 1) := by decide +kernel
theorem dX1_segmentLength_42 : decode cX1_segmentLength 42 = .ok (.lload_n 2, 1) := by decide +kernel
theorem dX1_segmentLength_43 : decode cX1_segmentLength 43 = .ok (.lcmp, 1) := by decide +kernel
theorem dX1_segmentLength_44 : decode cX1_segmentLength 44 = .ok (.ifCond .gt 7, 3) := by decide +kernel
theorem dX1_segmentLength_47 : decode cX1_segmentLength 47 = .ok (.lload 7, 2) := by decide +kernel
theorem dX1_segmentLength_49 : decode cX1_segmentLength 49 = .ok (.lstore 4, 2) := by decide +kernel
theorem dX1_segmentLength_51 : decode cX1_segmentLength 51 = .ok (.iinc 6 (-1), 3) := by decide +kernel
theorem dX1_segmentLength_54 : decode cX1_segmentLength 54 = .ok (.goto (-31), 3) := by decide +kernel
theorem dX1_segmentLength_57 : decode cX1_segmentLength 57 = .ok (.lload 4, 2) := by decide +kernel
theorem dX1_segmentLength_59 : decode cX1_segmentLength 59 = .ok (.l2i, 1) := by decide +kernel
theorem dX1_segmentLength_60 : decode cX1_segmentLength 60 = .ok (.ireturn, 1) := by decide +kernel
theorem dX1_firstOf_0 : decode cX1_firstOf 0 = .ok (.iload_n 1, 1) := by decide +kernel
theorem dX1_firstOf_1 : decode cX1_firstOf 1 = .ok (.ifCond .lt 20, 3) := by decide +kernel
theorem dX1_firstOf_4 : decode cX1_firstOf 4 = .ok (.iload_n 1, 1) := by decide +kernel
theorem dX1_firstOf_5 : decode cX1_firstOf 5 = .ok (.aload_n 0, 1) := by decide +kernel
theorem dX1_firstOf_6 : decode cX1_firstOf 6 = .ok (.getfield 42, 3) := by decide +kernel
theorem dX1_firstOf_9 : decode cX1_firstOf 9 = .ok (.if_icmp .gt 12, 3) := by decide +kernel
theorem dX1_firstOf_12 : decode cX1_firstOf 12 = .ok (.aload_n 0, 1) := by decide +kernel
theorem dX1_firstOf_13 : decode cX1_firstOf 13 = .ok (.getfield 24, 3) := by decide +kernel
theorem dX1_firstOf_16 : decode cX1_firstOf 16 = .ok (.iload_n 1, 1) := by decide +kernel
theorem dX1_firstOf_17 : decode cX1_firstOf 17 = .ok (.iaload, 1) := by decide +kernel
theorem dX1_firstOf_18 : decode cX1_firstOf 18 = .ok (.goto 7, 3) := by decide +kernel
theorem dX1_firstOf_21 : decode cX1_firstOf 21 = .ok (.aload_n 0, 1) := by decide +kernel
theorem dX1_firstOf_22 : decode cX1_firstOf 22 = .ok (.getfield 38, 3) := by decide +kernel
theorem dX1_firstOf_25 : decode cX1_firstOf 25 = .ok (.ireturn, 1) := by decide +kernel
theorem dX1_verticesIn_0 : decode cX1_verticesIn 0 = .ok (.aload_n 0, 1) := by decide +kernel
theorem dX1_verticesIn_1 : decode cX1_verticesIn 1 = .ok (.iload_n 2, 1) := by decide +kernel
theorem dX1_verticesIn_2 : decode cX1_verticesIn 2 = .ok (.invokevirtual 101, 3) := by decide +kernel
theorem dX1_verticesIn_5 : decode cX1_verticesIn 5 = .ok (.aload_n 0, 1) := by decide +kernel
theorem dX1_verticesIn_6 : decode cX1_verticesIn 6 = .ok (.iload_n 1, 1) := by decide +kernel
theorem dX1_verticesIn_7 : decode cX1_verticesIn 7 = .ok (.invokevirtual 101, 3) := by decide +kernel
theorem dX1_verticesIn_10 : decode cX1_verticesIn 10 = .ok (.isub, 1) := by decide +kernel
theorem dX1_verticesIn_11 : decode cX1_verticesIn 11 = .ok (.ireturn, 1) := by decide +kernel
theorem dX1_segmentsIn_0 : decode cX1_segmentsIn 0 = .ok (.aload_n 0, 1) := by decide +kernel
theorem dX1_segmentsIn_1 : decode cX1_segmentsIn 1 = .ok (.iload_n 1, 1) := by decide +kernel
theorem dX1_segmentsIn_2 : decode cX1_segmentsIn 2 = .ok (.iload_n 2, 1) := by decide +kernel
theorem dX1_segmentsIn_3 : decode cX1_segmentsIn 3 = .ok (.invokevirtual 104, 3) := by decide +kernel
theorem dX1_segmentsIn_6 : decode cX1_segmentsIn 6 = .ok (.iload_n 2, 1) := by decide +kernel
theorem dX1_segmentsIn_7 : decode cX1_segmentsIn 7 = .ok (.iload_n 1, 1) := by decide +kernel
theorem dX1_segmentsIn_8 : decode cX1_segmentsIn 8 = .ok (.isub, 1) := by decide +kernel
theorem dX1_segmentsIn_9 : decode cX1_segmentsIn 9 = .ok (.isub, 1) := by decide +kernel
theorem dX1_segmentsIn_10 : decode cX1_segmentsIn 10 = .ok (.ireturn, 1) := by decide +kernel
theorem dX1_lengthIn_0 : decode cX1_lengthIn 0 = .ok (.iconst 0, 1) := by decide +kernel
theorem dX1_lengthIn_1 : decode cX1_lengthIn 1 = .ok (.istore_n 3, 1) := by decide +kernel
theorem dX1_lengthIn_2 : decode cX1_lengthIn 2 = .ok (.iload_n 1, 1) := by decide +kernel
theorem dX1_lengthIn_3 : decode cX1_lengthIn 3 = .ok (.istore 4, 2) := by decide +kernel
theorem dX1_lengthIn_5 : decode cX1_lengthIn 5 = .ok (.iload 4, 2) := by decide +kernel
theorem dX1_lengthIn_7 : decode cX1_lengthIn 7 = .ok (.iload_n 2, 1) := by decide +kernel
theorem dX1_lengthIn_8 : decode cX1_lengthIn 8 = .ok (.if_icmp .ge 18, 3) := by decide +kernel
theorem dX1_lengthIn_11 : decode cX1_lengthIn 11 = .ok (.iload_n 3, 1) := by decide +kernel
theorem dX1_lengthIn_12 : decode cX1_lengthIn 12 = .ok (.aload_n 0, 1) := by decide +kernel
theorem dX1_lengthIn_13 : decode cX1_lengthIn 13 = .ok (.iload 4, 2) := by decide +kernel
theorem dX1_lengthIn_15 : decode cX1_lengthIn 15 = .ok (.invokevirtual 107, 3) := by decide +kernel
theorem dX1_lengthIn_18 : decode cX1_lengthIn 18 = .ok (.iadd, 1) := by decide +kernel
theorem dX1_lengthIn_19 : decode cX1_lengthIn 19 = .ok (.istore_n 3, 1) := by decide +kernel
theorem dX1_lengthIn_20 : decode cX1_lengthIn 20 = .ok (.iinc 4 1, 3) := by decide +kernel
theorem dX1_lengthIn_23 : decode cX1_lengthIn 23 = .ok (.goto (-18), 3) := by decide +kernel
theorem dX1_lengthIn_26 : decode cX1_lengthIn 26 = .ok (.iload_n 3, 1) := by decide +kernel
theorem dX1_lengthIn_27 : decode cX1_lengthIn 27 = .ok (.ireturn, 1) := by decide +kernel
theorem dX1_has_0 : decode cX1_has 0 = .ok (.iload_n 1, 1) := by decide +kernel
theorem dX1_has_1 : decode cX1_has 1 = .ok (.ifCond .lt 15, 3) := by decide +kernel
theorem dX1_has_4 : decode cX1_has 4 = .ok (.iload_n 1, 1) := by decide +kernel
theorem dX1_has_5 : decode cX1_has 5 = .ok (.aload_n 0, 1) := by decide +kernel
theorem dX1_has_6 : decode cX1_has 6 = .ok (.getfield 42, 3) := by decide +kernel
theorem dX1_has_9 : decode cX1_has 9 = .ok (.if_icmp .ge 7, 3) := by decide +kernel
theorem dX1_has_12 : decode cX1_has 12 = .ok (.iconst 1, 1) := by decide +kernel
theorem dX1_has_13 : decode cX1_has 13 = .ok (.goto 4, 3) := by decide +kernel
theorem dX1_has_16 : decode cX1_has 16 = .ok (.iconst 0, 1) := by decide +kernel
theorem dX1_has_17 : decode cX1_has 17 = .ok (.ireturn, 1) := by decide +kernel
theorem dX1_hasSegments_0 : decode cX1_hasSegments 0 = .ok (.aload_n 0, 1) := by decide +kernel
theorem dX1_hasSegments_1 : decode cX1_hasSegments 1 = .ok (.iload_n 1, 1) := by decide +kernel
theorem dX1_hasSegments_2 : decode cX1_hasSegments 2 = .ok (.invokevirtual 110, 3) := by decide +kernel
theorem dX1_hasSegments_5 : decode cX1_hasSegments 5 = .ok (.ifCond .eq 18, 3) := by decide +kernel
theorem dX1_hasSegments_8 : decode cX1_hasSegments 8 = .ok (.aload_n 0, 1) := by decide +kernel
theorem dX1_hasSegments_9 : decode cX1_hasSegments 9 = .ok (.iload_n 1, 1) := by decide +kernel
theorem dX1_hasSegments_10 : decode cX1_hasSegments 10 = .ok (.iload_n 1, 1) := by decide +kernel
theorem dX1_hasSegments_11 : decode cX1_hasSegments 11 = .ok (.iconst 1, 1) := by decide +kernel
theorem dX1_hasSegments_12 : decode cX1_hasSegments 12 = .ok (.iadd, 1) := by decide +kernel
theorem dX1_hasSegments_13 : decode cX1_hasSegments 13 = .ok (.invokevirtual 114, 3) := by decide +kernel
theorem dX1_hasSegments_16 : decode cX1_hasSegments 16 = .ok (.ifCond .le 7, 3) := by decide +kernel
theorem dX1_hasSegments_19 : decode cX1_hasSegments 19 = .ok (.iconst 1, 1) := by decide +kernel
theorem dX1_hasSegments_20 : decode cX1_hasSegments 20 = .ok (.goto 4, 3) := by decide +kernel
theorem dX1_hasSegments_23 : decode cX1_hasSegments 23 = .ok (.iconst 0, 1) := by decide +kernel
theorem dX1_hasSegments_24 : decode cX1_hasSegments 24 = .ok (.ireturn, 1) := by decide +kernel
theorem dX1_isClosed_0 : decode cX1_isClosed 0 = .ok (.aload_n 0, 1) := by decide +kernel
theorem dX1_isClosed_1 : decode cX1_isClosed 1 = .ok (.iload_n 1, 1) := by decide +kernel
theorem dX1_isClosed_2 : decode cX1_isClosed 2 = .ok (.invokevirtual 110, 3) := by decide +kernel
theorem dX1_isClosed_5 : decode cX1_isClosed 5 = .ok (.ifCond .eq 16, 3) := by decide +kernel
theorem dX1_isClosed_8 : decode cX1_isClosed 8 = .ok (.aload_n 0, 1) := by decide +kernel
theorem dX1_isClosed_9 : decode cX1_isClosed 9 = .ok (.getfield 27, 3) := by decide +kernel
theorem dX1_isClosed_12 : decode cX1_isClosed 12 = .ok (.iload_n 1, 1) := by decide +kernel
theorem dX1_isClosed_13 : decode cX1_isClosed 13 = .ok (.baload, 1) := by decide +kernel
theorem dX1_isClosed_14 : decode cX1_isClosed 14 = .ok (.ifCond .eq 7, 3) := by decide +kernel
theorem dX1_isClosed_17 : decode cX1_isClosed 17 = .ok (.iconst 1, 1) := by decide +kernel
theorem dX1_isClosed_18 : decode cX1_isClosed 18 = .ok (.goto 4, 3) := by decide +kernel
theorem dX1_isClosed_21 : decode cX1_isClosed 21 = .ok (.iconst 0, 1) := by decide +kernel
theorem dX1_isClosed_22 : decode cX1_isClosed 22 = .ok (.ireturn, 1) := by decide +kernel
theorem dX1_isVertex_0 : decode cX1_isVertex 0 = .ok (.iload_n 1, 1) := by decide +kernel
theorem dX1_isVertex_1 : decode cX1_isVertex 1 = .ok (.ifCond .lt 15, 3) := by decide +kernel
theorem dX1_isVertex_4 : decode cX1_isVertex 4 = .ok (.iload_n 1, 1) := by decide +kernel
theorem dX1_isVertex_5 : decode cX1_isVertex 5 = .ok (.aload_n 0, 1) := by decide +kernel
theorem dX1_isVertex_6 : decode cX1_isVertex 6 = .ok (.getfield 38, 3) := by decide +kernel
theorem dX1_isVertex_9 : decode cX1_isVertex 9 = .ok (.if_icmp .ge 7, 3) := by decide +kernel
theorem dX1_isVertex_12 : decode cX1_isVertex 12 = .ok (.iconst 1, 1) := by decide +kernel
theorem dX1_isVertex_13 : decode cX1_isVertex 13 = .ok (.goto 4, 3) := by decide +kernel
theorem dX1_isVertex_16 : decode cX1_isVertex 16 = .ok (.iconst 0, 1) := by decide +kernel
theorem dX1_isVertex_17 : decode cX1_isVertex 17 = .ok (.ireturn, 1) := by decide +kernel
theorem dX1_lengthOf_0 : decode cX1_lengthOf 0 = .ok (.aload_n 0, 1) := by decide +kernel
theorem dX1_lengthOf_1 : decode cX1_lengthOf 1 = .ok (.iload_n 1, 1) := by decide +kernel
theorem dX1_lengthOf_2 : decode cX1_lengthOf 2 = .ok (.iconst 1, 1) := by decide +kernel
theorem dX1_lengthOf_3 : decode cX1_lengthOf 3 = .ok (.iadd, 1) := by decide +kernel
theorem dX1_lengthOf_4 : decode cX1_lengthOf 4 = .ok (.invokevirtual 101, 3) := by decide +kernel
theorem dX1_lengthOf_7 : decode cX1_lengthOf 7 = .ok (.iconst 1, 1) := by decide +kernel
theorem dX1_lengthOf_8 : decode cX1_lengthOf 8 = .ok (.isub, 1) := by decide +kernel
theorem dX1_lengthOf_9 : decode cX1_lengthOf 9 = .ok (.istore_n 2, 1) := by decide +kernel
theorem dX1_lengthOf_10 : decode cX1_lengthOf 10 = .ok (.aload_n 0, 1) := by decide +kernel
theorem dX1_lengthOf_11 : decode cX1_lengthOf 11 = .ok (.iload_n 1, 1) := by decide +kernel
theorem dX1_lengthOf_12 : decode cX1_lengthOf 12 = .ok (.invokevirtual 110, 3) := by decide +kernel
theorem dX1_lengthOf_15 : decode cX1_lengthOf 15 = .ok (.ifCond .eq 20, 3) := by decide +kernel
theorem dX1_lengthOf_18 : decode cX1_lengthOf 18 = .ok (.aload_n 0, 1) := by decide +kernel
theorem dX1_lengthOf_19 : decode cX1_lengthOf 19 = .ok (.iload_n 2, 1) := by decide +kernel
theorem dX1_lengthOf_20 : decode cX1_lengthOf 20 = .ok (.invokevirtual 117, 3) := by decide +kernel
theorem dX1_lengthOf_23 : decode cX1_lengthOf 23 = .ok (.ifCond .eq 12, 3) := by decide +kernel
theorem dX1_lengthOf_26 : decode cX1_lengthOf 26 = .ok (.aload_n 0, 1) := by decide +kernel
theorem dX1_lengthOf_27 : decode cX1_lengthOf 27 = .ok (.getfield 18, 3) := by decide +kernel
theorem dX1_lengthOf_30 : decode cX1_lengthOf 30 = .ok (.iload_n 2, 1) := by decide +kernel
theorem dX1_lengthOf_31 : decode cX1_lengthOf 31 = .ok (.iaload, 1) := by decide +kernel
theorem dX1_lengthOf_32 : decode cX1_lengthOf 32 = .ok (.goto 4, 3) := by decide +kernel
theorem dX1_lengthOf_35 : decode cX1_lengthOf 35 = .ok (.iconst 0, 1) := by decide +kernel
theorem dX1_lengthOf_36 : decode cX1_lengthOf 36 = .ok (.ireturn, 1) := by decide +kernel
theorem dX1_lengthMadeBy_0 : decode cX1_lengthMadeBy 0 = .ok (.iconst 0, 1) := by decide +kernel
theorem dX1_lengthMadeBy_1 : decode cX1_lengthMadeBy 1 = .ok (.istore_n 2, 1) := by decide +kernel
theorem dX1_lengthMadeBy_2 : decode cX1_lengthMadeBy 2 = .ok (.iconst 1, 1) := by decide +kernel
theorem dX1_lengthMadeBy_3 : decode cX1_lengthMadeBy 3 = .ok (.istore_n 3, 1) := by decide +kernel
theorem dX1_lengthMadeBy_4 : decode cX1_lengthMadeBy 4 = .ok (.iload_n 3, 1) := by decide +kernel
theorem dX1_lengthMadeBy_5 : decode cX1_lengthMadeBy 5 = .ok (.aload_n 0, 1) := by decide +kernel
theorem dX1_lengthMadeBy_6 : decode cX1_lengthMadeBy 6 = .ok (.getfield 38, 3) := by decide +kernel
theorem dX1_lengthMadeBy_9 : decode cX1_lengthMadeBy 9 = .ok (.if_icmp .ge 46, 3) := by decide +kernel
theorem dX1_lengthMadeBy_12 : decode cX1_lengthMadeBy 12 = .ok (.aload_n 0, 1) := by decide +kernel
theorem dX1_lengthMadeBy_13 : decode cX1_lengthMadeBy 13 = .ok (.getfield 21, 3) := by decide +kernel
theorem dX1_lengthMadeBy_16 : decode cX1_lengthMadeBy 16 = .ok (.iload_n 3, 1) := by decide +kernel
theorem dX1_lengthMadeBy_17 : decode cX1_lengthMadeBy 17 = .ok (.iaload, 1) := by decide +kernel
theorem dX1_lengthMadeBy_18 : decode cX1_lengthMadeBy 18 = .ok (.iload_n 1, 1) := by decide +kernel
theorem dX1_lengthMadeBy_19 : decode cX1_lengthMadeBy 19 = .ok (.if_icmp .ne 30, 3) := by decide +kernel
theorem dX1_lengthMadeBy_22 : decode cX1_lengthMadeBy 22 = .ok (.aload_n 0, 1) := by decide +kernel
theorem dX1_lengthMadeBy_23 : decode cX1_lengthMadeBy 23 = .ok (.getfield 18, 3) := by decide +kernel
theorem dX1_lengthMadeBy_26 : decode cX1_lengthMadeBy 26 = .ok (.iload_n 3, 1) := by decide +kernel
theorem dX1_lengthMadeBy_27 : decode cX1_lengthMadeBy 27 = .ok (.iaload, 1) := by decide +kernel
theorem dX1_lengthMadeBy_28 : decode cX1_lengthMadeBy 28 = .ok (.ifCond .le 21, 3) := by decide +kernel
theorem dX1_lengthMadeBy_31 : decode cX1_lengthMadeBy 31 = .ok (.iload_n 2, 1) := by decide +kernel
theorem dX1_lengthMadeBy_32 : decode cX1_lengthMadeBy 32 = .ok (.aload_n 0, 1) := by decide +kernel
theorem dX1_lengthMadeBy_33 : decode cX1_lengthMadeBy 33 = .ok (.getfield 18, 3) := by decide +kernel
theorem dX1_lengthMadeBy_36 : decode cX1_lengthMadeBy 36 = .ok (.iload_n 3, 1) := by decide +kernel
theorem dX1_lengthMadeBy_37 : decode cX1_lengthMadeBy 37 = .ok (.iaload, 1) := by decide +kernel
theorem dX1_lengthMadeBy_38 : decode cX1_lengthMadeBy 38 = .ok (.aload_n 0, 1) := by decide +kernel
theorem dX1_lengthMadeBy_39 : decode cX1_lengthMadeBy 39 = .ok (.getfield 18, 3) := by decide +kernel
theorem dX1_lengthMadeBy_42 : decode cX1_lengthMadeBy 42 = .ok (.iload_n 3, 1) := by decide +kernel
theorem dX1_lengthMadeBy_43 : decode cX1_lengthMadeBy 43 = .ok (.iconst 1, 1) := by decide +kernel
theorem dX1_lengthMadeBy_44 : decode cX1_lengthMadeBy 44 = .ok (.isub, 1) := by decide +kernel
theorem dX1_lengthMadeBy_45 : decode cX1_lengthMadeBy 45 = .ok (.iaload, 1) := by decide +kernel
theorem dX1_lengthMadeBy_46 : decode cX1_lengthMadeBy 46 = .ok (.isub, 1) := by decide +kernel
theorem dX1_lengthMadeBy_47 : decode cX1_lengthMadeBy 47 = .ok (.iadd, 1) := by decide +kernel
theorem dX1_lengthMadeBy_48 : decode cX1_lengthMadeBy 48 = .ok (.istore_n 2, 1) := by decide +kernel
theorem dX1_lengthMadeBy_49 : decode cX1_lengthMadeBy 49 = .ok (.iinc 3 1, 3) := by decide +kernel
theorem dX1_lengthMadeBy_52 : decode cX1_lengthMadeBy 52 = .ok (.goto (-48), 3) := by decide +kernel
theorem dX1_lengthMadeBy_55 : decode cX1_lengthMadeBy 55 = .ok (.iload_n 2, 1) := by decide +kernel
theorem dX1_lengthMadeBy_56 : decode cX1_lengthMadeBy 56 = .ok (.ireturn, 1) := by decide +kernel
theorem dX1_vertexNumber_0 : decode cX1_vertexNumber 0 = .ok (.aload_n 0, 1) := by decide +kernel
theorem dX1_vertexNumber_1 : decode cX1_vertexNumber 1 = .ok (.iload_n 1, 1) := by decide +kernel
theorem dX1_vertexNumber_2 : decode cX1_vertexNumber 2 = .ok (.invokevirtual 117, 3) := by decide +kernel
theorem dX1_vertexNumber_5 : decode cX1_vertexNumber 5 = .ok (.ifCond .ne 6, 3) := by decide +kernel
theorem dX1_vertexNumber_8 : decode cX1_vertexNumber 8 = .ok (.ldc 120, 2) := by decide +kernel
theorem dX1_vertexNumber_10 : decode cX1_vertexNumber 10 = .ok (.ireturn, 1) := by decide +kernel
theorem dX1_vertexNumber_11 : decode cX1_vertexNumber 11 = .ok (.iload_n 2, 1) := by decide +kernel
theorem dX1_vertexNumber_12 : decode cX1_vertexNumber 12 = .ok (.tableswitch 49 0 2 #[28, 35, 42], 28) := by decide +kernel
theorem dX1_vertexNumber_40 : decode cX1_vertexNumber 40 = .ok (.aload_n 0, 1) := by decide +kernel
theorem dX1_vertexNumber_41 : decode cX1_vertexNumber 41 = .ok (.getfield 9, 3) := by decide +kernel
theorem dX1_vertexNumber_44 : decode cX1_vertexNumber 44 = .ok (.iload_n 1, 1) := by decide +kernel
theorem dX1_vertexNumber_45 : decode cX1_vertexNumber 45 = .ok (.iaload, 1) := by decide +kernel
theorem dX1_vertexNumber_46 : decode cX1_vertexNumber 46 = .ok (.ireturn, 1) := by decide +kernel
theorem dX1_vertexNumber_47 : decode cX1_vertexNumber 47 = .ok (.aload_n 0, 1) := by decide +kernel
theorem dX1_vertexNumber_48 : decode cX1_vertexNumber 48 = .ok (.getfield 15, 3) := by decide +kernel
theorem dX1_vertexNumber_51 : decode cX1_vertexNumber 51 = .ok (.iload_n 1, 1) := by decide +kernel
theorem dX1_vertexNumber_52 : decode cX1_vertexNumber 52 = .ok (.iaload, 1) := by decide +kernel
theorem dX1_vertexNumber_53 : decode cX1_vertexNumber 53 = .ok (.ireturn, 1) := by decide +kernel
theorem dX1_vertexNumber_54 : decode cX1_vertexNumber 54 = .ok (.aload_n 0, 1) := by decide +kernel
theorem dX1_vertexNumber_55 : decode cX1_vertexNumber 55 = .ok (.getfield 18, 3) := by decide +kernel
theorem dX1_vertexNumber_58 : decode cX1_vertexNumber 58 = .ok (.iload_n 1, 1) := by decide +kernel
theorem dX1_vertexNumber_59 : decode cX1_vertexNumber 59 = .ok (.iaload, 1) := by decide +kernel
theorem dX1_vertexNumber_60 : decode cX1_vertexNumber 60 = .ok (.ireturn, 1) := by decide +kernel
theorem dX1_vertexNumber_61 : decode cX1_vertexNumber 61 = .ok (.ldc 121, 2) := by decide +kernel
theorem dX1_vertexNumber_63 : decode cX1_vertexNumber 63 = .ok (.ireturn, 1) := by decide +kernel
theorem dX1_segmentAt_0 : decode cX1_segmentAt 0 = .ok (.aload_n 0, 1) := by decide +kernel
theorem dX1_segmentAt_1 : decode cX1_segmentAt 1 = .ok (.iload_n 1, 1) := by decide +kernel
theorem dX1_segmentAt_2 : decode cX1_segmentAt 2 = .ok (.iconst 1, 1) := by decide +kernel
theorem dX1_segmentAt_3 : decode cX1_segmentAt 3 = .ok (.iadd, 1) := by decide +kernel
theorem dX1_segmentAt_4 : decode cX1_segmentAt 4 = .ok (.invokevirtual 101, 3) := by decide +kernel
theorem dX1_segmentAt_7 : decode cX1_segmentAt 7 = .ok (.istore_n 3, 1) := by decide +kernel
theorem dX1_segmentAt_8 : decode cX1_segmentAt 8 = .ok (.aload_n 0, 1) := by decide +kernel
theorem dX1_segmentAt_9 : decode cX1_segmentAt 9 = .ok (.iload_n 1, 1) := by decide +kernel
theorem dX1_segmentAt_10 : decode cX1_segmentAt 10 = .ok (.invokevirtual 101, 3) := by decide +kernel
theorem dX1_segmentAt_13 : decode cX1_segmentAt 13 = .ok (.iconst 1, 1) := by decide +kernel
theorem dX1_segmentAt_14 : decode cX1_segmentAt 14 = .ok (.iadd, 1) := by decide +kernel
theorem dX1_segmentAt_15 : decode cX1_segmentAt 15 = .ok (.istore 4, 2) := by decide +kernel
theorem dX1_segmentAt_17 : decode cX1_segmentAt 17 = .ok (.iload 4, 2) := by decide +kernel
theorem dX1_segmentAt_19 : decode cX1_segmentAt 19 = .ok (.iload_n 3, 1) := by decide +kernel
theorem dX1_segmentAt_20 : decode cX1_segmentAt 20 = .ok (.if_icmp .ge 23, 3) := by decide +kernel
theorem dX1_segmentAt_23 : decode cX1_segmentAt 23 = .ok (.aload_n 0, 1) := by decide +kernel
theorem dX1_segmentAt_24 : decode cX1_segmentAt 24 = .ok (.getfield 18, 3) := by decide +kernel
theorem dX1_segmentAt_27 : decode cX1_segmentAt 27 = .ok (.iload 4, 2) := by decide +kernel
theorem dX1_segmentAt_29 : decode cX1_segmentAt 29 = .ok (.iaload, 1) := by decide +kernel
theorem dX1_segmentAt_30 : decode cX1_segmentAt 30 = .ok (.iload_n 2, 1) := by decide +kernel
theorem dX1_segmentAt_31 : decode cX1_segmentAt 31 = .ok (.if_icmp .lt 6, 3) := by decide +kernel
theorem dX1_segmentAt_34 : decode cX1_segmentAt 34 = .ok (.iload 4, 2) := by decide +kernel
theorem dX1_segmentAt_36 : decode cX1_segmentAt 36 = .ok (.ireturn, 1) := by decide +kernel
theorem dX1_segmentAt_37 : decode cX1_segmentAt 37 = .ok (.iinc 4 1, 3) := by decide +kernel
theorem dX1_segmentAt_40 : decode cX1_segmentAt 40 = .ok (.goto (-23), 3) := by decide +kernel
theorem dX1_segmentAt_43 : decode cX1_segmentAt 43 = .ok (.iload_n 3, 1) := by decide +kernel
theorem dX1_segmentAt_44 : decode cX1_segmentAt 44 = .ok (.iconst 1, 1) := by decide +kernel
theorem dX1_segmentAt_45 : decode cX1_segmentAt 45 = .ok (.isub, 1) := by decide +kernel
theorem dX1_segmentAt_46 : decode cX1_segmentAt 46 = .ok (.ireturn, 1) := by decide +kernel
theorem dX1_pointNumber_0 : decode cX1_pointNumber 0 = .ok (.aload_n 0, 1) := by decide +kernel
theorem dX1_pointNumber_1 : decode cX1_pointNumber 1 = .ok (.iload_n 1, 1) := by decide +kernel
theorem dX1_pointNumber_2 : decode cX1_pointNumber 2 = .ok (.iload_n 2, 1) := by decide +kernel
theorem dX1_pointNumber_3 : decode cX1_pointNumber 3 = .ok (.invokevirtual 122, 3) := by decide +kernel
theorem dX1_pointNumber_6 : decode cX1_pointNumber 6 = .ok (.istore 4, 2) := by decide +kernel
theorem dX1_pointNumber_8 : decode cX1_pointNumber 8 = .ok (.iload_n 3, 1) := by decide +kernel
theorem dX1_pointNumber_9 : decode cX1_pointNumber 9 = .ok (.tableswitch 73 0 3 #[31, 43, 55, 62], 31) := by decide +kernel
theorem dX1_pointNumber_40 : decode cX1_pointNumber 40 = .ok (.aload_n 0, 1) := by decide +kernel
theorem dX1_pointNumber_41 : decode cX1_pointNumber 41 = .ok (.aload_n 0, 1) := by decide +kernel
theorem dX1_pointNumber_42 : decode cX1_pointNumber 42 = .ok (.getfield 9, 3) := by decide +kernel
theorem dX1_pointNumber_45 : decode cX1_pointNumber 45 = .ok (.iload 4, 2) := by decide +kernel
theorem dX1_pointNumber_47 : decode cX1_pointNumber 47 = .ok (.iload_n 2, 1) := by decide +kernel
theorem dX1_pointNumber_48 : decode cX1_pointNumber 48 = .ok (.invokevirtual 125, 3) := by decide +kernel
theorem dX1_pointNumber_51 : decode cX1_pointNumber 51 = .ok (.ireturn, 1) := by decide +kernel
theorem dX1_pointNumber_52 : decode cX1_pointNumber 52 = .ok (.aload_n 0, 1) := by decide +kernel
theorem dX1_pointNumber_53 : decode cX1_pointNumber 53 = .ok (.aload_n 0, 1) := by decide +kernel
theorem dX1_pointNumber_54 : decode cX1_pointNumber 54 = .ok (.getfield 15, 3) := by decide +kernel
theorem dX1_pointNumber_57 : decode cX1_pointNumber 57 = .ok (.iload 4, 2) := by decide +kernel
theorem dX1_pointNumber_59 : decode cX1_pointNumber 59 = .ok (.iload_n 2, 1) := by decide +kernel
theorem dX1_pointNumber_60 : decode cX1_pointNumber 60 = .ok (.invokevirtual 125, 3) := by decide +kernel
theorem dX1_pointNumber_63 : decode cX1_pointNumber 63 = .ok (.ireturn, 1) := by decide +kernel
theorem dX1_pointNumber_64 : decode cX1_pointNumber 64 = .ok (.iload 4, 2) := by decide +kernel
theorem dX1_pointNumber_66 : decode cX1_pointNumber 66 = .ok (.iload_n 1, 1) := by decide +kernel
theorem dX1_pointNumber_67 : decode cX1_pointNumber 67 = .ok (.invokestatic 129, 3) := by decide +kernel
theorem dX1_pointNumber_70 : decode cX1_pointNumber 70 = .ok (.ireturn, 1) := by decide +kernel
theorem dX1_pointNumber_71 : decode cX1_pointNumber 71 = .ok (.aload_n 0, 1) := by decide +kernel
theorem dX1_pointNumber_72 : decode cX1_pointNumber 72 = .ok (.aload_n 0, 1) := by decide +kernel
theorem dX1_pointNumber_73 : decode cX1_pointNumber 73 = .ok (.getfield 9, 3) := by decide +kernel
theorem dX1_pointNumber_76 : decode cX1_pointNumber 76 = .ok (.iload 4, 2) := by decide +kernel
theorem dX1_pointNumber_78 : decode cX1_pointNumber 78 = .ok (.invokevirtual 132, 3) := by decide +kernel
theorem dX1_pointNumber_81 : decode cX1_pointNumber 81 = .ok (.ireturn, 1) := by decide +kernel
theorem dX1_pointNumber_82 : decode cX1_pointNumber 82 = .ok (.aload_n 0, 1) := by decide +kernel
theorem dX1_pointNumber_83 : decode cX1_pointNumber 83 = .ok (.aload_n 0, 1) := by decide +kernel
theorem dX1_pointNumber_84 : decode cX1_pointNumber 84 = .ok (.getfield 15, 3) := by decide +kernel
theorem dX1_pointNumber_87 : decode cX1_pointNumber 87 = .ok (.iload 4, 2) := by decide +kernel
theorem dX1_pointNumber_89 : decode cX1_pointNumber 89 = .ok (.invokevirtual 132, 3) := by decide +kernel
theorem dX1_pointNumber_92 : decode cX1_pointNumber 92 = .ok (.ireturn, 1) := by decide +kernel
theorem dX1_numberOf_0 : decode cX1_numberOf 0 = .ok (.iload_n 0, 1) := by decide +kernel
theorem dX1_numberOf_1 : decode cX1_numberOf 1 = .ok (.iconst 1, 1) := by decide +kernel
theorem dX1_numberOf_2 : decode cX1_numberOf 2 = .ok (.isub, 1) := by decide +kernel
theorem dX1_numberOf_3 : decode cX1_numberOf 3 = .ok (.iload_n 1, 1) := by decide +kernel
theorem dX1_numberOf_4 : decode cX1_numberOf 4 = .ok (.isub, 1) := by decide +kernel
theorem dX1_numberOf_5 : decode cX1_numberOf 5 = .ok (.ireturn, 1) := by decide +kernel
theorem dX1_difference_0 : decode cX1_difference 0 = .ok (.iload_n 2, 1) := by decide +kernel
theorem dX1_difference_1 : decode cX1_difference 1 = .ok (.iconst 1, 1) := by decide +kernel
theorem dX1_difference_2 : decode cX1_difference 2 = .ok (.if_icmp .lt 23, 3) := by decide +kernel
theorem dX1_difference_5 : decode cX1_difference 5 = .ok (.iload_n 2, 1) := by decide +kernel
theorem dX1_difference_6 : decode cX1_difference 6 = .ok (.aload_n 0, 1) := by decide +kernel
theorem dX1_difference_7 : decode cX1_difference 7 = .ok (.getfield 38, 3) := by decide +kernel
theorem dX1_difference_10 : decode cX1_difference 10 = .ok (.if_icmp .ge 15, 3) := by decide +kernel
theorem dX1_difference_13 : decode cX1_difference 13 = .ok (.aload_n 1, 1) := by decide +kernel
theorem dX1_difference_14 : decode cX1_difference 14 = .ok (.iload_n 2, 1) := by decide +kernel
theorem dX1_difference_15 : decode cX1_difference 15 = .ok (.iaload, 1) := by decide +kernel
theorem dX1_difference_16 : decode cX1_difference 16 = .ok (.aload_n 1, 1) := by decide +kernel
theorem dX1_difference_17 : decode cX1_difference 17 = .ok (.iload_n 2, 1) := by decide +kernel
theorem dX1_difference_18 : decode cX1_difference 18 = .ok (.iconst 1, 1) := by decide +kernel
theorem dX1_difference_19 : decode cX1_difference 19 = .ok (.isub, 1) := by decide +kernel
theorem dX1_difference_20 : decode cX1_difference 20 = .ok (.iaload, 1) := by decide +kernel
theorem dX1_difference_21 : decode cX1_difference 21 = .ok (.isub, 1) := by decide +kernel
theorem dX1_difference_22 : decode cX1_difference 22 = .ok (.goto 4, 3) := by decide +kernel
theorem dX1_difference_25 : decode cX1_difference 25 = .ok (.iconst 0, 1) := by decide +kernel
theorem dX1_difference_26 : decode cX1_difference 26 = .ok (.ireturn, 1) := by decide +kernel
theorem dX1_along_0 : decode cX1_along 0 = .ok (.aload_n 0, 1) := by decide +kernel
theorem dX1_along_1 : decode cX1_along 1 = .ok (.aload_n 0, 1) := by decide +kernel
theorem dX1_along_2 : decode cX1_along 2 = .ok (.getfield 18, 3) := by decide +kernel
theorem dX1_along_5 : decode cX1_along 5 = .ok (.iload_n 2, 1) := by decide +kernel
theorem dX1_along_6 : decode cX1_along 6 = .ok (.invokevirtual 132, 3) := by decide +kernel
theorem dX1_along_9 : decode cX1_along 9 = .ok (.istore 4, 2) := by decide +kernel
theorem dX1_along_11 : decode cX1_along 11 = .ok (.iload 4, 2) := by decide +kernel
theorem dX1_along_13 : decode cX1_along 13 = .ok (.ifCond .ne 5, 3) := by decide +kernel
theorem dX1_along_16 : decode cX1_along 16 = .ok (.iconst 0, 1) := by decide +kernel
theorem dX1_along_17 : decode cX1_along 17 = .ok (.ireturn, 1) := by decide +kernel
theorem dX1_along_18 : decode cX1_along 18 = .ok (.aload_n 0, 1) := by decide +kernel
theorem dX1_along_19 : decode cX1_along 19 = .ok (.aload_n 1, 1) := by decide +kernel
theorem dX1_along_20 : decode cX1_along 20 = .ok (.iload_n 2, 1) := by decide +kernel
theorem dX1_along_21 : decode cX1_along 21 = .ok (.invokevirtual 132, 3) := by decide +kernel
theorem dX1_along_24 : decode cX1_along 24 = .ok (.i2l, 1) := by decide +kernel
theorem dX1_along_25 : decode cX1_along 25 = .ok (.iload_n 3, 1) := by decide +kernel
theorem dX1_along_26 : decode cX1_along 26 = .ok (.aload_n 0, 1) := by decide +kernel
theorem dX1_along_27 : decode cX1_along 27 = .ok (.getfield 18, 3) := by decide +kernel
theorem dX1_along_30 : decode cX1_along 30 = .ok (.iload_n 2, 1) := by decide +kernel
theorem dX1_along_31 : decode cX1_along 31 = .ok (.iconst 1, 1) := by decide +kernel
theorem dX1_along_32 : decode cX1_along 32 = .ok (.isub, 1) := by decide +kernel
theorem dX1_along_33 : decode cX1_along 33 = .ok (.iaload, 1) := by decide +kernel
theorem dX1_along_34 : decode cX1_along 34 = .ok (.isub, 1) := by decide +kernel
theorem dX1_along_35 : decode cX1_along 35 = .ok (.i2l, 1) := by decide +kernel
theorem dX1_along_36 : decode cX1_along 36 = .ok (.lmul, 1) := by decide +kernel
theorem dX1_along_37 : decode cX1_along 37 = .ok (.iload 4, 2) := by decide +kernel
theorem dX1_along_39 : decode cX1_along 39 = .ok (.i2l, 1) := by decide +kernel
theorem dX1_along_40 : decode cX1_along 40 = .ok (.ldiv, 1) := by decide +kernel
theorem dX1_along_41 : decode cX1_along 41 = .ok (.lstore 5, 2) := by decide +kernel
theorem dX1_along_43 : decode cX1_along 43 = .ok (.aload_n 1, 1) := by decide +kernel
theorem dX1_along_44 : decode cX1_along 44 = .ok (.iload_n 2, 1) := by decide +kernel
theorem dX1_along_45 : decode cX1_along 45 = .ok (.iconst 1, 1) := by decide +kernel
theorem dX1_along_46 : decode cX1_along 46 = .ok (.isub, 1) := by decide +kernel
theorem dX1_along_47 : decode cX1_along 47 = .ok (.iaload, 1) := by decide +kernel
theorem dX1_along_48 : decode cX1_along 48 = .ok (.lload 5, 2) := by decide +kernel
theorem dX1_along_50 : decode cX1_along 50 = .ok (.l2i, 1) := by decide +kernel
theorem dX1_along_51 : decode cX1_along 51 = .ok (.iadd, 1) := by decide +kernel
theorem dX1_along_52 : decode cX1_along 52 = .ok (.ireturn, 1) := by decide +kernel
theorem dX1_isBackward_0 : decode cX1_isBackward 0 = .ok (.aload_n 0, 1) := by decide +kernel
theorem dX1_isBackward_1 : decode cX1_isBackward 1 = .ok (.aload_n 0, 1) := by decide +kernel
theorem dX1_isBackward_2 : decode cX1_isBackward 2 = .ok (.getfield 9, 3) := by decide +kernel
theorem dX1_isBackward_5 : decode cX1_isBackward 5 = .ok (.iload_n 1, 1) := by decide +kernel
theorem dX1_isBackward_6 : decode cX1_isBackward 6 = .ok (.invokevirtual 132, 3) := by decide +kernel
theorem dX1_isBackward_9 : decode cX1_isBackward 9 = .ok (.aload_n 0, 1) := by decide +kernel
theorem dX1_isBackward_10 : decode cX1_isBackward 10 = .ok (.aload_n 0, 1) := by decide +kernel
theorem dX1_isBackward_11 : decode cX1_isBackward 11 = .ok (.getfield 9, 3) := by decide +kernel
theorem dX1_isBackward_14 : decode cX1_isBackward 14 = .ok (.iload_n 2, 1) := by decide +kernel
theorem dX1_isBackward_15 : decode cX1_isBackward 15 = .ok (.invokevirtual 132, 3) := by decide +kernel
theorem dX1_isBackward_18 : decode cX1_isBackward 18 = .ok (.imul, 1) := by decide +kernel
theorem dX1_isBackward_19 : decode cX1_isBackward 19 = .ok (.aload_n 0, 1) := by decide +kernel
theorem dX1_isBackward_20 : decode cX1_isBackward 20 = .ok (.aload_n 0, 1) := by decide +kernel
theorem dX1_isBackward_21 : decode cX1_isBackward 21 = .ok (.getfield 15, 3) := by decide +kernel
theorem dX1_isBackward_24 : decode cX1_isBackward 24 = .ok (.iload_n 1, 1) := by decide +kernel
theorem dX1_isBackward_25 : decode cX1_isBackward 25 = .ok (.invokevirtual 132, 3) := by decide +kernel
theorem dX1_isBackward_28 : decode cX1_isBackward 28 = .ok (.aload_n 0, 1) := by decide +kernel
theorem dX1_isBackward_29 : decode cX1_isBackward 29 = .ok (.aload_n 0, 1) := by decide +kernel
theorem dX1_isBackward_30 : decode cX1_isBackward 30 = .ok (.getfield 15, 3) := by decide +kernel
theorem dX1_isBackward_33 : decode cX1_isBackward 33 = .ok (.iload_n 2, 1) := by decide +kernel
theorem dX1_isBackward_34 : decode cX1_isBackward 34 = .ok (.invokevirtual 132, 3) := by decide +kernel
theorem dX1_isBackward_37 : decode cX1_isBackward 37 = .ok (.imul, 1) := by decide +kernel
theorem dX1_isBackward_38 : decode cX1_isBackward 38 = .ok (.iadd, 1) := by decide +kernel
theorem dX1_isBackward_39 : decode cX1_isBackward 39 = .ok (.istore_n 3, 1) := by decide +kernel
theorem dX1_isBackward_40 : decode cX1_isBackward 40 = .ok (.iload_n 3, 1) := by decide +kernel
theorem dX1_isBackward_41 : decode cX1_isBackward 41 = .ok (.ifCond .ge 7, 3) := by decide +kernel
theorem dX1_isBackward_44 : decode cX1_isBackward 44 = .ok (.iconst 1, 1) := by decide +kernel
theorem dX1_isBackward_45 : decode cX1_isBackward 45 = .ok (.goto 4, 3) := by decide +kernel
theorem dX1_isBackward_48 : decode cX1_isBackward 48 = .ok (.iconst 0, 1) := by decide +kernel
theorem dX1_isBackward_49 : decode cX1_isBackward 49 = .ok (.ireturn, 1) := by decide +kernel
theorem dX1_nearestNumber_0 : decode cX1_nearestNumber 0 = .ok (.iconst 0, 1) := by decide +kernel
theorem dX1_nearestNumber_1 : decode cX1_nearestNumber 1 = .ok (.istore 4, 2) := by decide +kernel
theorem dX1_nearestNumber_3 : decode cX1_nearestNumber 3 = .ok (.iconst 0, 1) := by decide +kernel
theorem dX1_nearestNumber_4 : decode cX1_nearestNumber 4 = .ok (.istore 5, 2) := by decide +kernel
theorem dX1_nearestNumber_6 : decode cX1_nearestNumber 6 = .ok (.ldc 138, 2) := by decide +kernel
theorem dX1_nearestNumber_8 : decode cX1_nearestNumber 8 = .ok (.istore 6, 2) := by decide +kernel
theorem dX1_nearestNumber_10 : decode cX1_nearestNumber 10 = .ok (.iconst 0, 1) := by decide +kernel
theorem dX1_nearestNumber_11 : decode cX1_nearestNumber 11 = .ok (.istore 7, 2) := by decide +kernel
theorem dX1_nearestNumber_13 : decode cX1_nearestNumber 13 = .ok (.iload 7, 2) := by decide +kernel
theorem dX1_nearestNumber_15 : decode cX1_nearestNumber 15 = .ok (.aload_n 0, 1) := by decide +kernel
theorem dX1_nearestNumber_16 : decode cX1_nearestNumber 16 = .ok (.getfield 42, 3) := by decide +kernel
theorem dX1_nearestNumber_19 : decode cX1_nearestNumber 19 = .ok (.if_icmp .ge 69, 3) := by decide +kernel
theorem dX1_nearestNumber_22 : decode cX1_nearestNumber 22 = .ok (.aload_n 0, 1) := by decide +kernel
theorem dX1_nearestNumber_23 : decode cX1_nearestNumber 23 = .ok (.getfield 24, 3) := by decide +kernel
theorem dX1_nearestNumber_26 : decode cX1_nearestNumber 26 = .ok (.iload 7, 2) := by decide +kernel
theorem dX1_nearestNumber_28 : decode cX1_nearestNumber 28 = .ok (.iaload, 1) := by decide +kernel
theorem dX1_nearestNumber_29 : decode cX1_nearestNumber 29 = .ok (.iconst 1, 1) := by decide +kernel
theorem dX1_nearestNumber_30 : decode cX1_nearestNumber 30 = .ok (.iadd, 1) := by decide +kernel
theorem dX1_nearestNumber_31 : decode cX1_nearestNumber 31 = .ok (.istore 8, 2) := by decide +kernel
theorem dX1_nearestNumber_33 : decode cX1_nearestNumber 33 = .ok (.iload 8, 2) := by decide +kernel
theorem dX1_nearestNumber_35 : decode cX1_nearestNumber 35 = .ok (.aload_n 0, 1) := by decide +kernel
theorem dX1_nearestNumber_36 : decode cX1_nearestNumber 36 = .ok (.getfield 24, 3) := by decide +kernel
theorem dX1_nearestNumber_39 : decode cX1_nearestNumber 39 = .ok (.iload 7, 2) := by decide +kernel
theorem dX1_nearestNumber_41 : decode cX1_nearestNumber 41 = .ok (.iconst 1, 1) := by decide +kernel
theorem dX1_nearestNumber_42 : decode cX1_nearestNumber 42 = .ok (.iadd, 1) := by decide +kernel
theorem dX1_nearestNumber_43 : decode cX1_nearestNumber 43 = .ok (.iaload, 1) := by decide +kernel
theorem dX1_nearestNumber_44 : decode cX1_nearestNumber 44 = .ok (.if_icmp .ge 38, 3) := by decide +kernel
theorem dX1_nearestNumber_47 : decode cX1_nearestNumber 47 = .ok (.aload_n 0, 1) := by decide +kernel
theorem dX1_nearestNumber_48 : decode cX1_nearestNumber 48 = .ok (.iload 8, 2) := by decide +kernel
theorem dX1_nearestNumber_50 : decode cX1_nearestNumber 50 = .ok (.iload_n 1, 1) := by decide +kernel
theorem dX1_nearestNumber_51 : decode cX1_nearestNumber 51 = .ok (.iload_n 2, 1) := by decide +kernel
theorem dX1_nearestNumber_52 : decode cX1_nearestNumber 52 = .ok (.invokevirtual 139, 3) := by decide +kernel
theorem dX1_nearestNumber_55 : decode cX1_nearestNumber 55 = .ok (.istore 9, 2) := by decide +kernel
theorem dX1_nearestNumber_57 : decode cX1_nearestNumber 57 = .ok (.iload 9, 2) := by decide +kernel
theorem dX1_nearestNumber_59 : decode cX1_nearestNumber 59 = .ok (.iload 6, 2) := by decide +kernel
theorem dX1_nearestNumber_61 : decode cX1_nearestNumber 61 = .ok (.if_icmp .ge 15, 3) := by decide +kernel
theorem dX1_nearestNumber_64 : decode cX1_nearestNumber 64 = .ok (.iload 8, 2) := by decide +kernel
theorem dX1_nearestNumber_66 : decode cX1_nearestNumber 66 = .ok (.istore 4, 2) := by decide +kernel
theorem dX1_nearestNumber_68 : decode cX1_nearestNumber 68 = .ok (.iload 7, 2) := by decide +kernel
theorem dX1_nearestNumber_70 : decode cX1_nearestNumber 70 = .ok (.istore 5, 2) := by decide +kernel
theorem dX1_nearestNumber_72 : decode cX1_nearestNumber 72 = .ok (.iload 9, 2) := by decide +kernel
theorem dX1_nearestNumber_74 : decode cX1_nearestNumber 74 = .ok (.istore 6, 2) := by decide +kernel
theorem dX1_nearestNumber_76 : decode cX1_nearestNumber 76 = .ok (.iinc 8 1, 3) := by decide +kernel
theorem dX1_nearestNumber_79 : decode cX1_nearestNumber 79 = .ok (.goto (-46), 3) := by decide +kernel
theorem dX1_nearestNumber_82 : decode cX1_nearestNumber 82 = .ok (.iinc 7 1, 3) := by decide +kernel
theorem dX1_nearestNumber_85 : decode cX1_nearestNumber 85 = .ok (.goto (-72), 3) := by decide +kernel
theorem dX1_nearestNumber_88 : decode cX1_nearestNumber 88 = .ok (.iload_n 3, 1) := by decide +kernel
theorem dX1_nearestNumber_89 : decode cX1_nearestNumber 89 = .ok (.tableswitch 61 0 2 #[27, 40, 53], 27) := by decide +kernel
theorem dX1_nearestNumber_116 : decode cX1_nearestNumber 116 = .ok (.aload_n 0, 1) := by decide +kernel
theorem dX1_nearestNumber_117 : decode cX1_nearestNumber 117 = .ok (.aload_n 0, 1) := by decide +kernel
theorem dX1_nearestNumber_118 : decode cX1_nearestNumber 118 = .ok (.getfield 9, 3) := by decide +kernel
theorem dX1_nearestNumber_121 : decode cX1_nearestNumber 121 = .ok (.iload 4, 2) := by decide +kernel
theorem dX1_nearestNumber_123 : decode cX1_nearestNumber 123 = .ok (.iload_n 1, 1) := by decide +kernel
theorem dX1_nearestNumber_124 : decode cX1_nearestNumber 124 = .ok (.iload_n 2, 1) := by decide +kernel
theorem dX1_nearestNumber_125 : decode cX1_nearestNumber 125 = .ok (.invokevirtual 143, 3) := by decide +kernel
theorem dX1_nearestNumber_128 : decode cX1_nearestNumber 128 = .ok (.ireturn, 1) := by decide +kernel
theorem dX1_nearestNumber_129 : decode cX1_nearestNumber 129 = .ok (.aload_n 0, 1) := by decide +kernel
theorem dX1_nearestNumber_130 : decode cX1_nearestNumber 130 = .ok (.aload_n 0, 1) := by decide +kernel
theorem dX1_nearestNumber_131 : decode cX1_nearestNumber 131 = .ok (.getfield 15, 3) := by decide +kernel
theorem dX1_nearestNumber_134 : decode cX1_nearestNumber 134 = .ok (.iload 4, 2) := by decide +kernel
theorem dX1_nearestNumber_136 : decode cX1_nearestNumber 136 = .ok (.iload_n 1, 1) := by decide +kernel
theorem dX1_nearestNumber_137 : decode cX1_nearestNumber 137 = .ok (.iload_n 2, 1) := by decide +kernel
theorem dX1_nearestNumber_138 : decode cX1_nearestNumber 138 = .ok (.invokevirtual 143, 3) := by decide +kernel
theorem dX1_nearestNumber_141 : decode cX1_nearestNumber 141 = .ok (.ireturn, 1) := by decide +kernel
theorem dX1_nearestNumber_142 : decode cX1_nearestNumber 142 = .ok (.iload 4, 2) := by decide +kernel
theorem dX1_nearestNumber_144 : decode cX1_nearestNumber 144 = .ok (.iload 5, 2) := by decide +kernel
theorem dX1_nearestNumber_146 : decode cX1_nearestNumber 146 = .ok (.invokestatic 129, 3) := by decide +kernel
theorem dX1_nearestNumber_149 : decode cX1_nearestNumber 149 = .ok (.ireturn, 1) := by decide +kernel
theorem dX1_nearestNumber_150 : decode cX1_nearestNumber 150 = .ok (.iload 6, 2) := by decide +kernel
theorem dX1_nearestNumber_152 : decode cX1_nearestNumber 152 = .ok (.ireturn, 1) := by decide +kernel
theorem dX1_squareTo_0 : decode cX1_squareTo 0 = .ok (.aload_n 0, 1) := by decide +kernel
theorem dX1_squareTo_1 : decode cX1_squareTo 1 = .ok (.aload_n 0, 1) := by decide +kernel
theorem dX1_squareTo_2 : decode cX1_squareTo 2 = .ok (.getfield 9, 3) := by decide +kernel
theorem dX1_squareTo_5 : decode cX1_squareTo 5 = .ok (.iload_n 1, 1) := by decide +kernel
theorem dX1_squareTo_6 : decode cX1_squareTo 6 = .ok (.iload_n 2, 1) := by decide +kernel
theorem dX1_squareTo_7 : decode cX1_squareTo 7 = .ok (.iload_n 3, 1) := by decide +kernel
theorem dX1_squareTo_8 : decode cX1_squareTo 8 = .ok (.invokevirtual 143, 3) := by decide +kernel
theorem dX1_squareTo_11 : decode cX1_squareTo 11 = .ok (.iload_n 2, 1) := by decide +kernel
theorem dX1_squareTo_12 : decode cX1_squareTo 12 = .ok (.isub, 1) := by decide +kernel
theorem dX1_squareTo_13 : decode cX1_squareTo 13 = .ok (.istore 4, 2) := by decide +kernel
theorem dX1_squareTo_15 : decode cX1_squareTo 15 = .ok (.aload_n 0, 1) := by decide +kernel
theorem dX1_squareTo_16 : decode cX1_squareTo 16 = .ok (.aload_n 0, 1) := by decide +kernel
theorem dX1_squareTo_17 : decode cX1_squareTo 17 = .ok (.getfield 15, 3) := by decide +kernel
theorem dX1_squareTo_20 : decode cX1_squareTo 20 = .ok (.iload_n 1, 1) := by decide +kernel
theorem dX1_squareTo_21 : decode cX1_squareTo 21 = .ok (.iload_n 2, 1) := by decide +kernel
theorem dX1_squareTo_22 : decode cX1_squareTo 22 = .ok (.iload_n 3, 1) := by decide +kernel
theorem dX1_squareTo_23 : decode cX1_squareTo 23 = .ok (.invokevirtual 143, 3) := by decide +kernel
theorem dX1_squareTo_26 : decode cX1_squareTo 26 = .ok (.iload_n 3, 1) := by decide +kernel
theorem dX1_squareTo_27 : decode cX1_squareTo 27 = .ok (.isub, 1) := by decide +kernel
theorem dX1_squareTo_28 : decode cX1_squareTo 28 = .ok (.istore 5, 2) := by decide +kernel
theorem dX1_squareTo_30 : decode cX1_squareTo 30 = .ok (.iload 4, 2) := by decide +kernel
theorem dX1_squareTo_32 : decode cX1_squareTo 32 = .ok (.iload 4, 2) := by decide +kernel
theorem dX1_squareTo_34 : decode cX1_squareTo 34 = .ok (.imul, 1) := by decide +kernel
theorem dX1_squareTo_35 : decode cX1_squareTo 35 = .ok (.iload 5, 2) := by decide +kernel
theorem dX1_squareTo_37 : decode cX1_squareTo 37 = .ok (.iload 5, 2) := by decide +kernel
theorem dX1_squareTo_39 : decode cX1_squareTo 39 = .ok (.imul, 1) := by decide +kernel
theorem dX1_squareTo_40 : decode cX1_squareTo 40 = .ok (.iadd, 1) := by decide +kernel
theorem dX1_squareTo_41 : decode cX1_squareTo 41 = .ok (.ireturn, 1) := by decide +kernel
theorem dX1_nearestOn_0 : decode cX1_nearestOn 0 = .ok (.aload_n 0, 1) := by decide +kernel
theorem dX1_nearestOn_1 : decode cX1_nearestOn 1 = .ok (.aload_n 0, 1) := by decide +kernel
theorem dX1_nearestOn_2 : decode cX1_nearestOn 2 = .ok (.getfield 9, 3) := by decide +kernel
theorem dX1_nearestOn_5 : decode cX1_nearestOn 5 = .ok (.iload_n 2, 1) := by decide +kernel
theorem dX1_nearestOn_6 : decode cX1_nearestOn 6 = .ok (.invokevirtual 132, 3) := by decide +kernel
theorem dX1_nearestOn_9 : decode cX1_nearestOn 9 = .ok (.i2l, 1) := by decide +kernel
theorem dX1_nearestOn_10 : decode cX1_nearestOn 10 = .ok (.lstore 5, 2) := by decide +kernel
theorem dX1_nearestOn_12 : decode cX1_nearestOn 12 = .ok (.aload_n 0, 1) := by decide +kernel
theorem dX1_nearestOn_13 : decode cX1_nearestOn 13 = .ok (.aload_n 0, 1) := by decide +kernel
theorem dX1_nearestOn_14 : decode cX1_nearestOn 14 = .ok (.getfield 15, 3) := by decide +kernel
theorem dX1_nearestOn_17 : decode cX1_nearestOn 17 = .ok (.iload_n 2, 1) := by decide +kernel
theorem dX1_nearestOn_18 : decode cX1_nearestOn 18 = .ok (.invokevirtual 132, 3) := by decide +kernel
theorem dX1_nearestOn_21 : decode cX1_nearestOn 21 = .ok (.i2l, 1) := by decide +kernel
theorem dX1_nearestOn_22 : decode cX1_nearestOn 22 = .ok (.lstore 7, 2) := by decide +kernel
theorem dX1_nearestOn_24 : decode cX1_nearestOn 24 = .ok (.lload 5, 2) := by decide +kernel
theorem dX1_nearestOn_26 : decode cX1_nearestOn 26 = .ok (.lload 5, 2) := by decide +kernel
theorem dX1_nearestOn_28 : decode cX1_nearestOn 28 = .ok (.lmul, 1) := by decide +kernel
theorem dX1_nearestOn_29 : decode cX1_nearestOn 29 = .ok (.lload 7, 2) := by decide +kernel
theorem dX1_nearestOn_31 : decode cX1_nearestOn 31 = .ok (.lload 7, 2) := by decide +kernel
theorem dX1_nearestOn_33 : decode cX1_nearestOn 33 = .ok (.lmul, 1) := by decide +kernel
theorem dX1_nearestOn_34 : decode cX1_nearestOn 34 = .ok (.ladd, 1) := by decide +kernel
theorem dX1_nearestOn_35 : decode cX1_nearestOn 35 = .ok (.lstore 9, 2) := by decide +kernel
theorem dX1_nearestOn_37 : decode cX1_nearestOn 37 = .ok (.lload 9, 2) := by decide +kernel
theorem dX1_nearestOn_39 : decode cX1_nearestOn 39 = .ok (.lconst 0, 1) := by decide +kernel
theorem dX1_nearestOn_40 : decode cX1_nearestOn 40 = .ok (.lcmp, 1) := by decide +kernel
theorem dX1_nearestOn_41 : decode cX1_nearestOn 41 = .ok (.ifCond .ne 5, 3) := by decide +kernel
theorem dX1_nearestOn_44 : decode cX1_nearestOn 44 = .ok (.iconst 0, 1) := by decide +kernel
theorem dX1_nearestOn_45 : decode cX1_nearestOn 45 = .ok (.ireturn, 1) := by decide +kernel
theorem dX1_nearestOn_46 : decode cX1_nearestOn 46 = .ok (.lload 5, 2) := by decide +kernel
theorem dX1_nearestOn_48 : decode cX1_nearestOn 48 = .ok (.iload_n 3, 1) := by decide +kernel
theorem dX1_nearestOn_49 : decode cX1_nearestOn 49 = .ok (.aload_n 0, 1) := by decide +kernel
theorem dX1_nearestOn_50 : decode cX1_nearestOn 50 = .ok (.getfield 9, 3) := by decide +kernel
theorem dX1_nearestOn_53 : decode cX1_nearestOn 53 = .ok (.iload_n 2, 1) := by decide +kernel
theorem dX1_nearestOn_54 : decode cX1_nearestOn 54 = .ok (.iconst 1, 1) := by decide +kernel
theorem dX1_nearestOn_55 : decode cX1_nearestOn 55 = .ok (.isub, 1) := by decide +kernel
theorem dX1_nearestOn_56 : decode cX1_nearestOn 56 = .ok (.iaload, 1) := by decide +kernel
theorem dX1_nearestOn_57 : decode cX1_nearestOn 57 = .ok (.isub, 1) := by decide +kernel
theorem dX1_nearestOn_58 : decode cX1_nearestOn 58 = .ok (.i2l, 1) := by decide +kernel
theorem dX1_nearestOn_59 : decode cX1_nearestOn 59 = .ok (.lmul, 1) := by decide +kernel
theorem dX1_nearestOn_60 : decode cX1_nearestOn 60 = .ok (.lload 7, 2) := by decide +kernel
theorem dX1_nearestOn_62 : decode cX1_nearestOn 62 = .ok (.iload 4, 2) := by decide +kernel
theorem dX1_nearestOn_64 : decode cX1_nearestOn 64 = .ok (.aload_n 0, 1) := by decide +kernel
theorem dX1_nearestOn_65 : decode cX1_nearestOn 65 = .ok (.getfield 15, 3) := by decide +kernel
theorem dX1_nearestOn_68 : decode cX1_nearestOn 68 = .ok (.iload_n 2, 1) := by decide +kernel
theorem dX1_nearestOn_69 : decode cX1_nearestOn 69 = .ok (.iconst 1, 1) := by decide +kernel
theorem dX1_nearestOn_70 : decode cX1_nearestOn 70 = .ok (.isub, 1) := by decide +kernel
theorem dX1_nearestOn_71 : decode cX1_nearestOn 71 = .ok (.iaload, 1) := by decide +kernel
theorem dX1_nearestOn_72 : decode cX1_nearestOn 72 = .ok (.isub, 1) := by decide +kernel
theorem dX1_nearestOn_73 : decode cX1_nearestOn 73 = .ok (.i2l, 1) := by decide +kernel
theorem dX1_nearestOn_74 : decode cX1_nearestOn 74 = .ok (.lmul, 1) := by decide +kernel
theorem dX1_nearestOn_75 : decode cX1_nearestOn 75 = .ok (.ladd, 1) := by decide +kernel
theorem dX1_nearestOn_76 : decode cX1_nearestOn 76 = .ok (.lstore 11, 2) := by decide +kernel
theorem dX1_nearestOn_78 : decode cX1_nearestOn 78 = .ok (.lload 11, 2) := by decide +kernel
theorem dX1_nearestOn_80 : decode cX1_nearestOn 80 = .ok (.lconst 0, 1) := by decide +kernel
theorem dX1_nearestOn_81 : decode cX1_nearestOn 81 = .ok (.invokestatic 147, 3) := by decide +kernel
theorem dX1_nearestOn_84 : decode cX1_nearestOn 84 = .ok (.lload 9, 2) := by decide +kernel
theorem dX1_nearestOn_86 : decode cX1_nearestOn 86 = .ok (.invokestatic 153, 3) := by decide +kernel
theorem dX1_nearestOn_89 : decode cX1_nearestOn 89 = .ok (.lstore 11, 2) := by decide +kernel
theorem dX1_nearestOn_91 : decode cX1_nearestOn 91 = .ok (.aload_n 1, 1) := by decide +kernel
theorem dX1_nearestOn_92 : decode cX1_nearestOn 92 = .ok (.iload_n 2, 1) := by decide +kernel
theorem dX1_nearestOn_93 : decode cX1_nearestOn 93 = .ok (.iconst 1, 1) := by decide +kernel
theorem dX1_nearestOn_94 : decode cX1_nearestOn 94 = .ok (.isub, 1) := by decide +kernel
theorem dX1_nearestOn_95 : decode cX1_nearestOn 95 = .ok (.iaload, 1) := by decide +kernel
theorem dX1_nearestOn_96 : decode cX1_nearestOn 96 = .ok (.aload_n 0, 1) := by decide +kernel
theorem dX1_nearestOn_97 : decode cX1_nearestOn 97 = .ok (.aload_n 1, 1) := by decide +kernel
theorem dX1_nearestOn_98 : decode cX1_nearestOn 98 = .ok (.iload_n 2, 1) := by decide +kernel
theorem dX1_nearestOn_99 : decode cX1_nearestOn 99 = .ok (.invokevirtual 132, 3) := by decide +kernel
theorem dX1_nearestOn_102 : decode cX1_nearestOn 102 = .ok (.i2l, 1) := by decide +kernel
theorem dX1_nearestOn_103 : decode cX1_nearestOn 103 = .ok (.lload 11, 2) := by decide +kernel
theorem dX1_nearestOn_105 : decode cX1_nearestOn 105 = .ok (.lmul, 1) := by decide +kernel
theorem dX1_nearestOn_106 : decode cX1_nearestOn 106 = .ok (.lload 9, 2) := by decide +kernel
theorem dX1_nearestOn_108 : decode cX1_nearestOn 108 = .ok (.ldiv, 1) := by decide +kernel
theorem dX1_nearestOn_109 : decode cX1_nearestOn 109 = .ok (.l2i, 1) := by decide +kernel
theorem dX1_nearestOn_110 : decode cX1_nearestOn 110 = .ok (.iadd, 1) := by decide +kernel
theorem dX1_nearestOn_111 : decode cX1_nearestOn 111 = .ok (.ireturn, 1) := by decide +kernel
theorem dX1_vertexBefore_0 : decode cX1_vertexBefore 0 = .ok (.iload_n 1, 1) := by decide +kernel
theorem dX1_vertexBefore_1 : decode cX1_vertexBefore 1 = .ok (.aload_n 0, 1) := by decide +kernel
theorem dX1_vertexBefore_2 : decode cX1_vertexBefore 2 = .ok (.iload_n 2, 1) := by decide +kernel
theorem dX1_vertexBefore_3 : decode cX1_vertexBefore 3 = .ok (.invokevirtual 101, 3) := by decide +kernel
theorem dX1_vertexBefore_6 : decode cX1_vertexBefore 6 = .ok (.if_icmp .le 9, 3) := by decide +kernel
theorem dX1_vertexBefore_9 : decode cX1_vertexBefore 9 = .ok (.iload_n 1, 1) := by decide +kernel
theorem dX1_vertexBefore_10 : decode cX1_vertexBefore 10 = .ok (.iconst 1, 1) := by decide +kernel
theorem dX1_vertexBefore_11 : decode cX1_vertexBefore 11 = .ok (.isub, 1) := by decide +kernel
theorem dX1_vertexBefore_12 : decode cX1_vertexBefore 12 = .ok (.goto 12, 3) := by decide +kernel
theorem dX1_vertexBefore_15 : decode cX1_vertexBefore 15 = .ok (.aload_n 0, 1) := by decide +kernel
theorem dX1_vertexBefore_16 : decode cX1_vertexBefore 16 = .ok (.iload_n 2, 1) := by decide +kernel
theorem dX1_vertexBefore_17 : decode cX1_vertexBefore 17 = .ok (.iconst 1, 1) := by decide +kernel
theorem dX1_vertexBefore_18 : decode cX1_vertexBefore 18 = .ok (.iadd, 1) := by decide +kernel
theorem dX1_vertexBefore_19 : decode cX1_vertexBefore 19 = .ok (.invokevirtual 101, 3) := by decide +kernel
theorem dX1_vertexBefore_22 : decode cX1_vertexBefore 22 = .ok (.iconst 1, 1) := by decide +kernel
theorem dX1_vertexBefore_23 : decode cX1_vertexBefore 23 = .ok (.isub, 1) := by decide +kernel
theorem dX1_vertexBefore_24 : decode cX1_vertexBefore 24 = .ok (.ireturn, 1) := by decide +kernel
theorem dX1_windingAround_0 : decode cX1_windingAround 0 = .ok (.iconst 0, 1) := by decide +kernel
theorem dX1_windingAround_1 : decode cX1_windingAround 1 = .ok (.istore_n 3, 1) := by decide +kernel
theorem dX1_windingAround_2 : decode cX1_windingAround 2 = .ok (.iconst 0, 1) := by decide +kernel
theorem dX1_windingAround_3 : decode cX1_windingAround 3 = .ok (.istore 4, 2) := by decide +kernel
theorem dX1_windingAround_5 : decode cX1_windingAround 5 = .ok (.iload 4, 2) := by decide +kernel
theorem dX1_windingAround_7 : decode cX1_windingAround 7 = .ok (.aload_n 0, 1) := by decide +kernel
theorem dX1_windingAround_8 : decode cX1_windingAround 8 = .ok (.getfield 42, 3) := by decide +kernel
theorem dX1_windingAround_11 : decode cX1_windingAround 11 = .ok (.if_icmp .ge 57, 3) := by decide +kernel
theorem dX1_windingAround_14 : decode cX1_windingAround 14 = .ok (.aload_n 0, 1) := by decide +kernel
theorem dX1_windingAround_15 : decode cX1_windingAround 15 = .ok (.getfield 24, 3) := by decide +kernel
theorem dX1_windingAround_18 : decode cX1_windingAround 18 = .ok (.iload 4, 2) := by decide +kernel
theorem dX1_windingAround_20 : decode cX1_windingAround 20 = .ok (.iaload, 1) := by decide +kernel
theorem dX1_windingAround_21 : decode cX1_windingAround 21 = .ok (.istore 5, 2) := by decide +kernel
theorem dX1_windingAround_23 : decode cX1_windingAround 23 = .ok (.iload 5, 2) := by decide +kernel
theorem dX1_windingAround_25 : decode cX1_windingAround 25 = .ok (.aload_n 0, 1) := by decide +kernel
theorem dX1_windingAround_26 : decode cX1_windingAround 26 = .ok (.getfield 24, 3) := by decide +kernel
theorem dX1_windingAround_29 : decode cX1_windingAround 29 = .ok (.iload 4, 2) := by decide +kernel
theorem dX1_windingAround_31 : decode cX1_windingAround 31 = .ok (.iconst 1, 1) := by decide +kernel
theorem dX1_windingAround_32 : decode cX1_windingAround 32 = .ok (.iadd, 1) := by decide +kernel
theorem dX1_windingAround_33 : decode cX1_windingAround 33 = .ok (.iaload, 1) := by decide +kernel
theorem dX1_windingAround_34 : decode cX1_windingAround 34 = .ok (.if_icmp .ge 28, 3) := by decide +kernel
theorem dX1_windingAround_37 : decode cX1_windingAround 37 = .ok (.iload_n 3, 1) := by decide +kernel
theorem dX1_windingAround_38 : decode cX1_windingAround 38 = .ok (.aload_n 0, 1) := by decide +kernel
theorem dX1_windingAround_39 : decode cX1_windingAround 39 = .ok (.aload_n 0, 1) := by decide +kernel
theorem dX1_windingAround_40 : decode cX1_windingAround 40 = .ok (.iload 5, 2) := by decide +kernel
theorem dX1_windingAround_42 : decode cX1_windingAround 42 = .ok (.iload 4, 2) := by decide +kernel
theorem dX1_windingAround_44 : decode cX1_windingAround 44 = .ok (.invokevirtual 156, 3) := by decide +kernel
theorem dX1_windingAround_47 : decode cX1_windingAround 47 = .ok (.iload 5, 2) := by decide +kernel
theorem dX1_windingAround_49 : decode cX1_windingAround 49 = .ok (.iload_n 1, 1) := by decide +kernel
theorem dX1_windingAround_50 : decode cX1_windingAround 50 = .ok (.iload_n 2, 1) := by decide +kernel
theorem dX1_windingAround_51 : decode cX1_windingAround 51 = .ok (.invokevirtual 159, 3) := by decide +kernel
theorem dX1_windingAround_54 : decode cX1_windingAround 54 = .ok (.iadd, 1) := by decide +kernel
theorem dX1_windingAround_55 : decode cX1_windingAround 55 = .ok (.istore_n 3, 1) := by decide +kernel
theorem dX1_windingAround_56 : decode cX1_windingAround 56 = .ok (.iinc 5 1, 3) := by decide +kernel
theorem dX1_windingAround_59 : decode cX1_windingAround 59 = .ok (.goto (-36), 3) := by decide +kernel
theorem dX1_windingAround_62 : decode cX1_windingAround 62 = .ok (.iinc 4 1, 3) := by decide +kernel
theorem dX1_windingAround_65 : decode cX1_windingAround 65 = .ok (.goto (-60), 3) := by decide +kernel
theorem dX1_windingAround_68 : decode cX1_windingAround 68 = .ok (.iload_n 3, 1) := by decide +kernel
theorem dX1_windingAround_69 : decode cX1_windingAround 69 = .ok (.ireturn, 1) := by decide +kernel
theorem dX1_crossing_0 : decode cX1_crossing 0 = .ok (.aload_n 0, 1) := by decide +kernel
theorem dX1_crossing_1 : decode cX1_crossing 1 = .ok (.iload_n 1, 1) := by decide +kernel
theorem dX1_crossing_2 : decode cX1_crossing 2 = .ok (.invokevirtual 117, 3) := by decide +kernel
theorem dX1_crossing_5 : decode cX1_crossing 5 = .ok (.ifCond .eq 11, 3) := by decide +kernel
theorem dX1_crossing_8 : decode cX1_crossing 8 = .ok (.aload_n 0, 1) := by decide +kernel
theorem dX1_crossing_9 : decode cX1_crossing 9 = .ok (.iload_n 2, 1) := by decide +kernel
theorem dX1_crossing_10 : decode cX1_crossing 10 = .ok (.invokevirtual 117, 3) := by decide +kernel
theorem dX1_crossing_13 : decode cX1_crossing 13 = .ok (.ifCond .ne 5, 3) := by decide +kernel
theorem dX1_crossing_16 : decode cX1_crossing 16 = .ok (.iconst 0, 1) := by decide +kernel
theorem dX1_crossing_17 : decode cX1_crossing 17 = .ok (.ireturn, 1) := by decide +kernel
theorem dX1_crossing_18 : decode cX1_crossing 18 = .ok (.aload_n 0, 1) := by decide +kernel
theorem dX1_crossing_19 : decode cX1_crossing 19 = .ok (.getfield 15, 3) := by decide +kernel
theorem dX1_crossing_22 : decode cX1_crossing 22 = .ok (.iload_n 1, 1) := by decide +kernel
theorem dX1_crossing_23 : decode cX1_crossing 23 = .ok (.iaload, 1) := by decide +kernel
theorem dX1_crossing_24 : decode cX1_crossing 24 = .ok (.iload 4, 2) := by decide +kernel
theorem dX1_crossing_26 : decode cX1_crossing 26 = .ok (.if_icmp .gt 18, 3) := by decide +kernel
theorem dX1_crossing_29 : decode cX1_crossing 29 = .ok (.aload_n 0, 1) := by decide +kernel
theorem dX1_crossing_30 : decode cX1_crossing 30 = .ok (.getfield 15, 3) := by decide +kernel
theorem dX1_crossing_33 : decode cX1_crossing 33 = .ok (.iload_n 2, 1) := by decide +kernel
theorem dX1_crossing_34 : decode cX1_crossing 34 = .ok (.iaload, 1) := by decide +kernel
theorem dX1_crossing_35 : decode cX1_crossing 35 = .ok (.iload 4, 2) := by decide +kernel
theorem dX1_crossing_37 : decode cX1_crossing 37 = .ok (.if_icmp .le 7, 3) := by decide +kernel
theorem dX1_crossing_40 : decode cX1_crossing 40 = .ok (.iconst 1, 1) := by decide +kernel
theorem dX1_crossing_41 : decode cX1_crossing 41 = .ok (.goto 4, 3) := by decide +kernel
theorem dX1_crossing_44 : decode cX1_crossing 44 = .ok (.iconst 0, 1) := by decide +kernel
theorem dX1_crossing_45 : decode cX1_crossing 45 = .ok (.istore 5, 2) := by decide +kernel
theorem dX1_crossing_47 : decode cX1_crossing 47 = .ok (.aload_n 0, 1) := by decide +kernel
theorem dX1_crossing_48 : decode cX1_crossing 48 = .ok (.getfield 15, 3) := by decide +kernel
theorem dX1_crossing_51 : decode cX1_crossing 51 = .ok (.iload_n 2, 1) := by decide +kernel
theorem dX1_crossing_52 : decode cX1_crossing 52 = .ok (.iaload, 1) := by decide +kernel
theorem dX1_crossing_53 : decode cX1_crossing 53 = .ok (.iload 4, 2) := by decide +kernel
theorem dX1_crossing_55 : decode cX1_crossing 55 = .ok (.if_icmp .gt 18, 3) := by decide +kernel
theorem dX1_crossing_58 : decode cX1_crossing 58 = .ok (.aload_n 0, 1) := by decide +kernel
theorem dX1_crossing_59 : decode cX1_crossing 59 = .ok (.getfield 15, 3) := by decide +kernel
theorem dX1_crossing_62 : decode cX1_crossing 62 = .ok (.iload_n 1, 1) := by decide +kernel
theorem dX1_crossing_63 : decode cX1_crossing 63 = .ok (.iaload, 1) := by decide +kernel
theorem dX1_crossing_64 : decode cX1_crossing 64 = .ok (.iload 4, 2) := by decide +kernel
theorem dX1_crossing_66 : decode cX1_crossing 66 = .ok (.if_icmp .le 7, 3) := by decide +kernel
theorem dX1_crossing_69 : decode cX1_crossing 69 = .ok (.iconst 1, 1) := by decide +kernel
theorem dX1_crossing_70 : decode cX1_crossing 70 = .ok (.goto 4, 3) := by decide +kernel
theorem dX1_crossing_73 : decode cX1_crossing 73 = .ok (.iconst 0, 1) := by decide +kernel
theorem dX1_crossing_74 : decode cX1_crossing 74 = .ok (.istore 6, 2) := by decide +kernel
theorem dX1_crossing_76 : decode cX1_crossing 76 = .ok (.aload_n 0, 1) := by decide +kernel
theorem dX1_crossing_77 : decode cX1_crossing 77 = .ok (.getfield 9, 3) := by decide +kernel
theorem dX1_crossing_80 : decode cX1_crossing 80 = .ok (.iload_n 2, 1) := by decide +kernel
theorem dX1_crossing_81 : decode cX1_crossing 81 = .ok (.iaload, 1) := by decide +kernel
theorem dX1_crossing_82 : decode cX1_crossing 82 = .ok (.aload_n 0, 1) := by decide +kernel
theorem dX1_crossing_83 : decode cX1_crossing 83 = .ok (.getfield 9, 3) := by decide +kernel
theorem dX1_crossing_86 : decode cX1_crossing 86 = .ok (.iload_n 1, 1) := by decide +kernel
theorem dX1_crossing_87 : decode cX1_crossing 87 = .ok (.iaload, 1) := by decide +kernel
theorem dX1_crossing_88 : decode cX1_crossing 88 = .ok (.isub, 1) := by decide +kernel
theorem dX1_crossing_89 : decode cX1_crossing 89 = .ok (.iload 4, 2) := by decide +kernel
theorem dX1_crossing_91 : decode cX1_crossing 91 = .ok (.aload_n 0, 1) := by decide +kernel
theorem dX1_crossing_92 : decode cX1_crossing 92 = .ok (.getfield 15, 3) := by decide +kernel
theorem dX1_crossing_95 : decode cX1_crossing 95 = .ok (.iload_n 1, 1) := by decide +kernel
theorem dX1_crossing_96 : decode cX1_crossing 96 = .ok (.iaload, 1) := by decide +kernel
theorem dX1_crossing_97 : decode cX1_crossing 97 = .ok (.isub, 1) := by decide +kernel
theorem dX1_crossing_98 : decode cX1_crossing 98 = .ok (.imul, 1) := by decide +kernel
theorem dX1_crossing_99 : decode cX1_crossing 99 = .ok (.iload_n 3, 1) := by decide +kernel
theorem dX1_crossing_100 : decode cX1_crossing 100 = .ok (.aload_n 0, 1) := by decide +kernel
theorem dX1_crossing_101 : decode cX1_crossing 101 = .ok (.getfield 9, 3) := by decide +kernel
theorem dX1_crossing_104 : decode cX1_crossing 104 = .ok (.iload_n 1, 1) := by decide +kernel
theorem dX1_crossing_105 : decode cX1_crossing 105 = .ok (.iaload, 1) := by decide +kernel
theorem dX1_crossing_106 : decode cX1_crossing 106 = .ok (.isub, 1) := by decide +kernel
theorem dX1_crossing_107 : decode cX1_crossing 107 = .ok (.aload_n 0, 1) := by decide +kernel
theorem dX1_crossing_108 : decode cX1_crossing 108 = .ok (.getfield 15, 3) := by decide +kernel
theorem dX1_crossing_111 : decode cX1_crossing 111 = .ok (.iload_n 2, 1) := by decide +kernel
theorem dX1_crossing_112 : decode cX1_crossing 112 = .ok (.iaload, 1) := by decide +kernel
theorem dX1_crossing_113 : decode cX1_crossing 113 = .ok (.aload_n 0, 1) := by decide +kernel
theorem dX1_crossing_114 : decode cX1_crossing 114 = .ok (.getfield 15, 3) := by decide +kernel
theorem dX1_crossing_117 : decode cX1_crossing 117 = .ok (.iload_n 1, 1) := by decide +kernel
theorem dX1_crossing_118 : decode cX1_crossing 118 = .ok (.iaload, 1) := by decide +kernel
theorem dX1_crossing_119 : decode cX1_crossing 119 = .ok (.isub, 1) := by decide +kernel
theorem dX1_crossing_120 : decode cX1_crossing 120 = .ok (.imul, 1) := by decide +kernel
theorem dX1_crossing_121 : decode cX1_crossing 121 = .ok (.isub, 1) := by decide +kernel
theorem dX1_crossing_122 : decode cX1_crossing 122 = .ok (.istore 7, 2) := by decide +kernel
theorem dX1_crossing_124 : decode cX1_crossing 124 = .ok (.iload 5, 2) := by decide +kernel
theorem dX1_crossing_126 : decode cX1_crossing 126 = .ok (.ifCond .eq 10, 3) := by decide +kernel
theorem dX1_crossing_129 : decode cX1_crossing 129 = .ok (.iload 7, 2) := by decide +kernel
theorem dX1_crossing_131 : decode cX1_crossing 131 = .ok (.ifCond .le 5, 3) := by decide +kernel
theorem dX1_crossing_134 : decode cX1_crossing 134 = .ok (.iconst 1, 1) := by decide +kernel
theorem dX1_crossing_135 : decode cX1_crossing 135 = .ok (.ireturn, 1) := by decide +kernel
theorem dX1_crossing_136 : decode cX1_crossing 136 = .ok (.iload 6, 2) := by decide +kernel
theorem dX1_crossing_138 : decode cX1_crossing 138 = .ok (.ifCond .eq 12, 3) := by decide +kernel
theorem dX1_crossing_141 : decode cX1_crossing 141 = .ok (.iload 7, 2) := by decide +kernel
theorem dX1_crossing_143 : decode cX1_crossing 143 = .ok (.ifCond .ge 7, 3) := by decide +kernel
theorem dX1_crossing_146 : decode cX1_crossing 146 = .ok (.iconst (-1), 1) := by decide +kernel
theorem dX1_crossing_147 : decode cX1_crossing 147 = .ok (.goto 4, 3) := by decide +kernel
theorem dX1_crossing_150 : decode cX1_crossing 150 = .ok (.iconst 0, 1) := by decide +kernel
theorem dX1_crossing_151 : decode cX1_crossing 151 = .ok (.ireturn, 1) := by decide +kernel
theorem dX1_twiceTheArea_0 : decode cX1_twiceTheArea 0 = .ok (.lconst 0, 1) := by decide +kernel
theorem dX1_twiceTheArea_1 : decode cX1_twiceTheArea 1 = .ok (.lstore_n 2, 1) := by decide +kernel
theorem dX1_twiceTheArea_2 : decode cX1_twiceTheArea 2 = .ok (.aload_n 0, 1) := by decide +kernel
theorem dX1_twiceTheArea_3 : decode cX1_twiceTheArea 3 = .ok (.iload_n 1, 1) := by decide +kernel
theorem dX1_twiceTheArea_4 : decode cX1_twiceTheArea 4 = .ok (.invokevirtual 101, 3) := by decide +kernel
theorem dX1_twiceTheArea_7 : decode cX1_twiceTheArea 7 = .ok (.istore 4, 2) := by decide +kernel
theorem dX1_twiceTheArea_9 : decode cX1_twiceTheArea 9 = .ok (.iload 4, 2) := by decide +kernel
theorem dX1_twiceTheArea_11 : decode cX1_twiceTheArea 11 = .ok (.aload_n 0, 1) := by decide +kernel
theorem dX1_twiceTheArea_12 : decode cX1_twiceTheArea 12 = .ok (.iload_n 1, 1) := by decide +kernel
theorem dX1_twiceTheArea_13 : decode cX1_twiceTheArea 13 = .ok (.iconst 1, 1) := by decide +kernel
theorem dX1_twiceTheArea_14 : decode cX1_twiceTheArea 14 = .ok (.iadd, 1) := by decide +kernel
theorem dX1_twiceTheArea_15 : decode cX1_twiceTheArea 15 = .ok (.invokevirtual 101, 3) := by decide +kernel
theorem dX1_twiceTheArea_18 : decode cX1_twiceTheArea 18 = .ok (.if_icmp .ge 26, 3) := by decide +kernel
theorem dX1_twiceTheArea_21 : decode cX1_twiceTheArea 21 = .ok (.lload_n 2, 1) := by decide +kernel
theorem dX1_twiceTheArea_22 : decode cX1_twiceTheArea 22 = .ok (.aload_n 0, 1) := by decide +kernel
theorem dX1_twiceTheArea_23 : decode cX1_twiceTheArea 23 = .ok (.aload_n 0, 1) := by decide +kernel
theorem dX1_twiceTheArea_24 : decode cX1_twiceTheArea 24 = .ok (.iload 4, 2) := by decide +kernel
theorem dX1_twiceTheArea_26 : decode cX1_twiceTheArea 26 = .ok (.iload_n 1, 1) := by decide +kernel
theorem dX1_twiceTheArea_27 : decode cX1_twiceTheArea 27 = .ok (.invokevirtual 156, 3) := by decide +kernel
theorem dX1_twiceTheArea_30 : decode cX1_twiceTheArea 30 = .ok (.iload 4, 2) := by decide +kernel
theorem dX1_twiceTheArea_32 : decode cX1_twiceTheArea 32 = .ok (.invokevirtual 163, 3) := by decide +kernel
theorem dX1_twiceTheArea_35 : decode cX1_twiceTheArea 35 = .ok (.i2l, 1) := by decide +kernel
theorem dX1_twiceTheArea_36 : decode cX1_twiceTheArea 36 = .ok (.ladd, 1) := by decide +kernel
theorem dX1_twiceTheArea_37 : decode cX1_twiceTheArea 37 = .ok (.lstore_n 2, 1) := by decide +kernel
theorem dX1_twiceTheArea_38 : decode cX1_twiceTheArea 38 = .ok (.iinc 4 1, 3) := by decide +kernel
theorem dX1_twiceTheArea_41 : decode cX1_twiceTheArea 41 = .ok (.goto (-32), 3) := by decide +kernel
theorem dX1_twiceTheArea_44 : decode cX1_twiceTheArea 44 = .ok (.lload_n 2, 1) := by decide +kernel
theorem dX1_twiceTheArea_45 : decode cX1_twiceTheArea 45 = .ok (.lreturn, 1) := by decide +kernel
theorem dX1_turn_0 : decode cX1_turn 0 = .ok (.aload_n 0, 1) := by decide +kernel
theorem dX1_turn_1 : decode cX1_turn 1 = .ok (.iload_n 1, 1) := by decide +kernel
theorem dX1_turn_2 : decode cX1_turn 2 = .ok (.invokevirtual 117, 3) := by decide +kernel
theorem dX1_turn_5 : decode cX1_turn 5 = .ok (.ifCond .eq 41, 3) := by decide +kernel
theorem dX1_turn_8 : decode cX1_turn 8 = .ok (.aload_n 0, 1) := by decide +kernel
theorem dX1_turn_9 : decode cX1_turn 9 = .ok (.iload_n 2, 1) := by decide +kernel
theorem dX1_turn_10 : decode cX1_turn 10 = .ok (.invokevirtual 117, 3) := by decide +kernel
theorem dX1_turn_13 : decode cX1_turn 13 = .ok (.ifCond .eq 33, 3) := by decide +kernel
theorem dX1_turn_16 : decode cX1_turn 16 = .ok (.aload_n 0, 1) := by decide +kernel
theorem dX1_turn_17 : decode cX1_turn 17 = .ok (.getfield 9, 3) := by decide +kernel
theorem dX1_turn_20 : decode cX1_turn 20 = .ok (.iload_n 1, 1) := by decide +kernel
theorem dX1_turn_21 : decode cX1_turn 21 = .ok (.iaload, 1) := by decide +kernel
theorem dX1_turn_22 : decode cX1_turn 22 = .ok (.aload_n 0, 1) := by decide +kernel
theorem dX1_turn_23 : decode cX1_turn 23 = .ok (.getfield 15, 3) := by decide +kernel
theorem dX1_turn_26 : decode cX1_turn 26 = .ok (.iload_n 2, 1) := by decide +kernel
theorem dX1_turn_27 : decode cX1_turn 27 = .ok (.iaload, 1) := by decide +kernel
theorem dX1_turn_28 : decode cX1_turn 28 = .ok (.imul, 1) := by decide +kernel
theorem dX1_turn_29 : decode cX1_turn 29 = .ok (.aload_n 0, 1) := by decide +kernel
theorem dX1_turn_30 : decode cX1_turn 30 = .ok (.getfield 9, 3) := by decide +kernel
theorem dX1_turn_33 : decode cX1_turn 33 = .ok (.iload_n 2, 1) := by decide +kernel
theorem dX1_turn_34 : decode cX1_turn 34 = .ok (.iaload, 1) := by decide +kernel
theorem dX1_turn_35 : decode cX1_turn 35 = .ok (.aload_n 0, 1) := by decide +kernel
theorem dX1_turn_36 : decode cX1_turn 36 = .ok (.getfield 15, 3) := by decide +kernel
theorem dX1_turn_39 : decode cX1_turn 39 = .ok (.iload_n 1, 1) := by decide +kernel
theorem dX1_turn_40 : decode cX1_turn 40 = .ok (.iaload, 1) := by decide +kernel
theorem dX1_turn_41 : decode cX1_turn 41 = .ok (.imul, 1) := by decide +kernel
theorem dX1_turn_42 : decode cX1_turn 42 = .ok (.isub, 1) := by decide +kernel
theorem dX1_turn_43 : decode cX1_turn 43 = .ok (.goto 4, 3) := by decide +kernel
theorem dX1_turn_46 : decode cX1_turn 46 = .ok (.iconst 0, 1) := by decide +kernel
theorem dX1_turn_47 : decode cX1_turn 47 = .ok (.ireturn, 1) := by decide +kernel
theorem dX1_deviationScale_0 : decode cX1_deviationScale 0 = .ok (.aload_n 0, 1) := by decide +kernel
theorem dX1_deviationScale_1 : decode cX1_deviationScale 1 = .ok (.iload_n 1, 1) := by decide +kernel
theorem dX1_deviationScale_2 : decode cX1_deviationScale 2 = .ok (.invokevirtual 117, 3) := by decide +kernel
theorem dX1_deviationScale_5 : decode cX1_deviationScale 5 = .ok (.ifCond .eq 11, 3) := by decide +kernel
theorem dX1_deviationScale_8 : decode cX1_deviationScale 8 = .ok (.aload_n 0, 1) := by decide +kernel
theorem dX1_deviationScale_9 : decode cX1_deviationScale 9 = .ok (.iload_n 2, 1) := by decide +kernel
theorem dX1_deviationScale_10 : decode cX1_deviationScale 10 = .ok (.invokevirtual 117, 3) := by decide +kernel
theorem dX1_deviationScale_13 : decode cX1_deviationScale 13 = .ok (.ifCond .ne 5, 3) := by decide +kernel
theorem dX1_deviationScale_16 : decode cX1_deviationScale 16 = .ok (.lconst 1, 1) := by decide +kernel
theorem dX1_deviationScale_17 : decode cX1_deviationScale 17 = .ok (.lreturn, 1) := by decide +kernel
theorem dX1_deviationScale_18 : decode cX1_deviationScale 18 = .ok (.aload_n 0, 1) := by decide +kernel
theorem dX1_deviationScale_19 : decode cX1_deviationScale 19 = .ok (.getfield 9, 3) := by decide +kernel
theorem dX1_deviationScale_22 : decode cX1_deviationScale 22 = .ok (.iload_n 2, 1) := by decide +kernel
theorem dX1_deviationScale_23 : decode cX1_deviationScale 23 = .ok (.iaload, 1) := by decide +kernel
theorem dX1_deviationScale_24 : decode cX1_deviationScale 24 = .ok (.aload_n 0, 1) := by decide +kernel
theorem dX1_deviationScale_25 : decode cX1_deviationScale 25 = .ok (.getfield 9, 3) := by decide +kernel
theorem dX1_deviationScale_28 : decode cX1_deviationScale 28 = .ok (.iload_n 1, 1) := by decide +kernel
theorem dX1_deviationScale_29 : decode cX1_deviationScale 29 = .ok (.iaload, 1) := by decide +kernel
theorem dX1_deviationScale_30 : decode cX1_deviationScale 30 = .ok (.isub, 1) := by decide +kernel
theorem dX1_deviationScale_31 : decode cX1_deviationScale 31 = .ok (.i2l, 1) := by decide +kernel
theorem dX1_deviationScale_32 : decode cX1_deviationScale 32 = .ok (.lstore_n 3, 1) := by decide +kernel
theorem dX1_deviationScale_33 : decode cX1_deviationScale 33 = .ok (.aload_n 0, 1) := by decide +kernel
theorem dX1_deviationScale_34 : decode cX1_deviationScale 34 = .ok (.getfield 15, 3) := by decide +kernel
theorem dX1_deviationScale_37 : decode cX1_deviationScale 37 = .ok (.iload_n 2, 1) := by decide +kernel
theorem dX1_deviationScale_38 : decode cX1_deviationScale 38 = .ok (.iaload, 1) := by decide +kernel
theorem dX1_deviationScale_39 : decode cX1_deviationScale 39 = .ok (.aload_n 0, 1) := by decide +kernel
theorem dX1_deviationScale_40 : decode cX1_deviationScale 40 = .ok (.getfield 15, 3) := by decide +kernel
theorem dX1_deviationScale_43 : decode cX1_deviationScale 43 = .ok (.iload_n 1, 1) := by decide +kernel
theorem dX1_deviationScale_44 : decode cX1_deviationScale 44 = .ok (.iaload, 1) := by decide +kernel
theorem dX1_deviationScale_45 : decode cX1_deviationScale 45 = .ok (.isub, 1) := by decide +kernel
theorem dX1_deviationScale_46 : decode cX1_deviationScale 46 = .ok (.i2l, 1) := by decide +kernel
theorem dX1_deviationScale_47 : decode cX1_deviationScale 47 = .ok (.lstore 5, 2) := by decide +kernel
theorem dX1_deviationScale_49 : decode cX1_deviationScale 49 = .ok (.lload_n 3, 1) := by decide +kernel
theorem dX1_deviationScale_50 : decode cX1_deviationScale 50 = .ok (.lconst 0, 1) := by decide +kernel
theorem dX1_deviationScale_51 : decode cX1_deviationScale 51 = .ok (.lcmp, 1) := by decide +kernel
theorem dX1_deviationScale_52 : decode cX1_deviationScale 52 = .ok (.ifCond .ne 14, 3) := by decide +kernel
theorem dX1_deviationScale_55 : decode cX1_deviationScale 55 = .ok (.lload 5, 2) := by decide +kernel
theorem dX1_deviationScale_57 : decode cX1_deviationScale 57 = .ok (.lconst 0, 1) := by decide +kernel
theorem dX1_deviationScale_58 : decode cX1_deviationScale 58 = .ok (.lcmp, 1) := by decide +kernel
theorem dX1_deviationScale_59 : decode cX1_deviationScale 59 = .ok (.ifCond .ne 7, 3) := by decide +kernel
theorem dX1_deviationScale_62 : decode cX1_deviationScale 62 = .ok (.lconst 1, 1) := by decide +kernel
theorem dX1_deviationScale_63 : decode cX1_deviationScale 63 = .ok (.goto 12, 3) := by decide +kernel
theorem dX1_deviationScale_66 : decode cX1_deviationScale 66 = .ok (.lload_n 3, 1) := by decide +kernel
theorem dX1_deviationScale_67 : decode cX1_deviationScale 67 = .ok (.lload_n 3, 1) := by decide +kernel
theorem dX1_deviationScale_68 : decode cX1_deviationScale 68 = .ok (.lmul, 1) := by decide +kernel
theorem dX1_deviationScale_69 : decode cX1_deviationScale 69 = .ok (.lload 5, 2) := by decide +kernel
theorem dX1_deviationScale_71 : decode cX1_deviationScale 71 = .ok (.lload 5, 2) := by decide +kernel
theorem dX1_deviationScale_73 : decode cX1_deviationScale 73 = .ok (.lmul, 1) := by decide +kernel
theorem dX1_deviationScale_74 : decode cX1_deviationScale 74 = .ok (.ladd, 1) := by decide +kernel
theorem dX1_deviationScale_75 : decode cX1_deviationScale 75 = .ok (.lreturn, 1) := by decide +kernel
theorem dX1_deviation_0 : decode cX1_deviation 0 = .ok (.aload_n 0, 1) := by decide +kernel
theorem dX1_deviation_1 : decode cX1_deviation 1 = .ok (.iload_n 1, 1) := by decide +kernel
theorem dX1_deviation_2 : decode cX1_deviation 2 = .ok (.invokevirtual 117, 3) := by decide +kernel
theorem dX1_deviation_5 : decode cX1_deviation 5 = .ok (.ifCond .eq 19, 3) := by decide +kernel
theorem dX1_deviation_8 : decode cX1_deviation 8 = .ok (.aload_n 0, 1) := by decide +kernel
theorem dX1_deviation_9 : decode cX1_deviation 9 = .ok (.iload_n 2, 1) := by decide +kernel
theorem dX1_deviation_10 : decode cX1_deviation 10 = .ok (.invokevirtual 117, 3) := by decide +kernel
theorem dX1_deviation_13 : decode cX1_deviation 13 = .ok (.ifCond .eq 11, 3) := by decide +kernel
theorem dX1_deviation_16 : decode cX1_deviation 16 = .ok (.aload_n 0, 1) := by decide +kernel
theorem dX1_deviation_17 : decode cX1_deviation 17 = .ok (.iload_n 3, 1) := by decide +kernel
theorem dX1_deviation_18 : decode cX1_deviation 18 = .ok (.invokevirtual 117, 3) := by decide +kernel
theorem dX1_deviation_21 : decode cX1_deviation 21 = .ok (.ifCond .ne 5, 3) := by decide +kernel
theorem dX1_deviation_24 : decode cX1_deviation 24 = .ok (.lconst 0, 1) := by decide +kernel
theorem dX1_deviation_25 : decode cX1_deviation 25 = .ok (.lreturn, 1) := by decide +kernel
theorem dX1_deviation_26 : decode cX1_deviation 26 = .ok (.aload_n 0, 1) := by decide +kernel
theorem dX1_deviation_27 : decode cX1_deviation 27 = .ok (.getfield 9, 3) := by decide +kernel
theorem dX1_deviation_30 : decode cX1_deviation 30 = .ok (.iload_n 2, 1) := by decide +kernel
theorem dX1_deviation_31 : decode cX1_deviation 31 = .ok (.iaload, 1) := by decide +kernel
theorem dX1_deviation_32 : decode cX1_deviation 32 = .ok (.aload_n 0, 1) := by decide +kernel
theorem dX1_deviation_33 : decode cX1_deviation 33 = .ok (.getfield 9, 3) := by decide +kernel
theorem dX1_deviation_36 : decode cX1_deviation 36 = .ok (.iload_n 1, 1) := by decide +kernel
theorem dX1_deviation_37 : decode cX1_deviation 37 = .ok (.iaload, 1) := by decide +kernel
theorem dX1_deviation_38 : decode cX1_deviation 38 = .ok (.isub, 1) := by decide +kernel
theorem dX1_deviation_39 : decode cX1_deviation 39 = .ok (.i2l, 1) := by decide +kernel
theorem dX1_deviation_40 : decode cX1_deviation 40 = .ok (.lstore 4, 2) := by decide +kernel
theorem dX1_deviation_42 : decode cX1_deviation 42 = .ok (.aload_n 0, 1) := by decide +kernel
theorem dX1_deviation_43 : decode cX1_deviation 43 = .ok (.getfield 15, 3) := by decide +kernel
theorem dX1_deviation_46 : decode cX1_deviation 46 = .ok (.iload_n 2, 1) := by decide +kernel
theorem dX1_deviation_47 : decode cX1_deviation 47 = .ok (.iaload, 1) := by decide +kernel
theorem dX1_deviation_48 : decode cX1_deviation 48 = .ok (.aload_n 0, 1) := by decide +kernel
theorem dX1_deviation_49 : decode cX1_deviation 49 = .ok (.getfield 15, 3) := by decide +kernel
theorem dX1_deviation_52 : decode cX1_deviation 52 = .ok (.iload_n 1, 1) := by decide +kernel
theorem dX1_deviation_53 : decode cX1_deviation 53 = .ok (.iaload, 1) := by decide +kernel
theorem dX1_deviation_54 : decode cX1_deviation 54 = .ok (.isub, 1) := by decide +kernel
theorem dX1_deviation_55 : decode cX1_deviation 55 = .ok (.i2l, 1) := by decide +kernel
theorem dX1_deviation_56 : decode cX1_deviation 56 = .ok (.lstore 6, 2) := by decide +kernel
theorem dX1_deviation_58 : decode cX1_deviation 58 = .ok (.aload_n 0, 1) := by decide +kernel
theorem dX1_deviation_59 : decode cX1_deviation 59 = .ok (.getfield 9, 3) := by decide +kernel
theorem dX1_deviation_62 : decode cX1_deviation 62 = .ok (.iload_n 3, 1) := by decide +kernel
theorem dX1_deviation_63 : decode cX1_deviation 63 = .ok (.iaload, 1) := by decide +kernel
theorem dX1_deviation_64 : decode cX1_deviation 64 = .ok (.aload_n 0, 1) := by decide +kernel
theorem dX1_deviation_65 : decode cX1_deviation 65 = .ok (.getfield 9, 3) := by decide +kernel
theorem dX1_deviation_68 : decode cX1_deviation 68 = .ok (.iload_n 1, 1) := by decide +kernel
theorem dX1_deviation_69 : decode cX1_deviation 69 = .ok (.iaload, 1) := by decide +kernel
theorem dX1_deviation_70 : decode cX1_deviation 70 = .ok (.isub, 1) := by decide +kernel
theorem dX1_deviation_71 : decode cX1_deviation 71 = .ok (.i2l, 1) := by decide +kernel
theorem dX1_deviation_72 : decode cX1_deviation 72 = .ok (.lstore 8, 2) := by decide +kernel
theorem dX1_deviation_74 : decode cX1_deviation 74 = .ok (.aload_n 0, 1) := by decide +kernel
theorem dX1_deviation_75 : decode cX1_deviation 75 = .ok (.getfield 15, 3) := by decide +kernel
theorem dX1_deviation_78 : decode cX1_deviation 78 = .ok (.iload_n 3, 1) := by decide +kernel
theorem dX1_deviation_79 : decode cX1_deviation 79 = .ok (.iaload, 1) := by decide +kernel
theorem dX1_deviation_80 : decode cX1_deviation 80 = .ok (.aload_n 0, 1) := by decide +kernel
theorem dX1_deviation_81 : decode cX1_deviation 81 = .ok (.getfield 15, 3) := by decide +kernel
theorem dX1_deviation_84 : decode cX1_deviation 84 = .ok (.iload_n 1, 1) := by decide +kernel
theorem dX1_deviation_85 : decode cX1_deviation 85 = .ok (.iaload, 1) := by decide +kernel
theorem dX1_deviation_86 : decode cX1_deviation 86 = .ok (.isub, 1) := by decide +kernel
theorem dX1_deviation_87 : decode cX1_deviation 87 = .ok (.i2l, 1) := by decide +kernel
theorem dX1_deviation_88 : decode cX1_deviation 88 = .ok (.lstore 10, 2) := by decide +kernel
theorem dX1_deviation_90 : decode cX1_deviation 90 = .ok (.lload 4, 2) := by decide +kernel
theorem dX1_deviation_92 : decode cX1_deviation 92 = .ok (.lconst 0, 1) := by decide +kernel
theorem dX1_deviation_93 : decode cX1_deviation 93 = .ok (.lcmp, 1) := by decide +kernel
theorem dX1_deviation_94 : decode cX1_deviation 94 = .ok (.ifCond .ne 22, 3) := by decide +kernel
theorem dX1_deviation_97 : decode cX1_deviation 97 = .ok (.lload 6, 2) := by decide +kernel
theorem dX1_deviation_99 : decode cX1_deviation 99 = .ok (.lconst 0, 1) := by decide +kernel
theorem dX1_deviation_100 : decode cX1_deviation 100 = .ok (.lcmp, 1) := by decide +kernel
theorem dX1_deviation_101 : decode cX1_deviation 101 = .ok (.ifCond .ne 15, 3) := by decide +kernel
theorem dX1_deviation_104 : decode cX1_deviation 104 = .ok (.lload 8, 2) := by decide +kernel
theorem dX1_deviation_106 : decode cX1_deviation 106 = .ok (.lload 8, 2) := by decide +kernel
theorem dX1_deviation_108 : decode cX1_deviation 108 = .ok (.lmul, 1) := by decide +kernel
theorem dX1_deviation_109 : decode cX1_deviation 109 = .ok (.lload 10, 2) := by decide +kernel
theorem dX1_deviation_111 : decode cX1_deviation 111 = .ok (.lload 10, 2) := by decide +kernel
theorem dX1_deviation_113 : decode cX1_deviation 113 = .ok (.lmul, 1) := by decide +kernel
theorem dX1_deviation_114 : decode cX1_deviation 114 = .ok (.ladd, 1) := by decide +kernel
theorem dX1_deviation_115 : decode cX1_deviation 115 = .ok (.lreturn, 1) := by decide +kernel
theorem dX1_deviation_116 : decode cX1_deviation 116 = .ok (.lload 4, 2) := by decide +kernel
theorem dX1_deviation_118 : decode cX1_deviation 118 = .ok (.lload 10, 2) := by decide +kernel
theorem dX1_deviation_120 : decode cX1_deviation 120 = .ok (.lmul, 1) := by decide +kernel
theorem dX1_deviation_121 : decode cX1_deviation 121 = .ok (.lload 6, 2) := by decide +kernel
theorem dX1_deviation_123 : decode cX1_deviation 123 = .ok (.lload 8, 2) := by decide +kernel
theorem dX1_deviation_125 : decode cX1_deviation 125 = .ok (.lmul, 1) := by decide +kernel
theorem dX1_deviation_126 : decode cX1_deviation 126 = .ok (.lsub, 1) := by decide +kernel
theorem dX1_deviation_127 : decode cX1_deviation 127 = .ok (.lstore 12, 2) := by decide +kernel
theorem dX1_deviation_129 : decode cX1_deviation 129 = .ok (.lload 12, 2) := by decide +kernel
theorem dX1_deviation_131 : decode cX1_deviation 131 = .ok (.lload 12, 2) := by decide +kernel
theorem dX1_deviation_133 : decode cX1_deviation 133 = .ok (.lmul, 1) := by decide +kernel
theorem dX1_deviation_134 : decode cX1_deviation 134 = .ok (.lreturn, 1) := by decide +kernel
theorem dX1_boundOf_0 : decode cX1_boundOf 0 = .ok (.iload_n 3, 1) := by decide +kernel
theorem dX1_boundOf_1 : decode cX1_boundOf 1 = .ok (.iconst 2, 1) := by decide +kernel
theorem dX1_boundOf_2 : decode cX1_boundOf 2 = .ok (.irem, 1) := by decide +kernel
theorem dX1_boundOf_3 : decode cX1_boundOf 3 = .ok (.ifCond .ne 10, 3) := by decide +kernel
theorem dX1_boundOf_6 : decode cX1_boundOf 6 = .ok (.aload_n 0, 1) := by decide +kernel
theorem dX1_boundOf_7 : decode cX1_boundOf 7 = .ok (.getfield 9, 3) := by decide +kernel
theorem dX1_boundOf_10 : decode cX1_boundOf 10 = .ok (.goto 7, 3) := by decide +kernel
theorem dX1_boundOf_13 : decode cX1_boundOf 13 = .ok (.aload_n 0, 1) := by decide +kernel
theorem dX1_boundOf_14 : decode cX1_boundOf 14 = .ok (.getfield 15, 3) := by decide +kernel
theorem dX1_boundOf_17 : decode cX1_boundOf 17 = .ok (.astore 4, 2) := by decide +kernel
theorem dX1_boundOf_19 : decode cX1_boundOf 19 = .ok (.aload_n 0, 1) := by decide +kernel
theorem dX1_boundOf_20 : decode cX1_boundOf 20 = .ok (.iload_n 1, 1) := by decide +kernel
theorem dX1_boundOf_21 : decode cX1_boundOf 21 = .ok (.invokevirtual 117, 3) := by decide +kernel
theorem dX1_boundOf_24 : decode cX1_boundOf 24 = .ok (.ifCond .eq 10, 3) := by decide +kernel
theorem dX1_boundOf_27 : decode cX1_boundOf 27 = .ok (.aload 4, 2) := by decide +kernel
theorem dX1_boundOf_29 : decode cX1_boundOf 29 = .ok (.iload_n 1, 1) := by decide +kernel
theorem dX1_boundOf_30 : decode cX1_boundOf 30 = .ok (.iaload, 1) := by decide +kernel
theorem dX1_boundOf_31 : decode cX1_boundOf 31 = .ok (.goto 4, 3) := by decide +kernel
theorem dX1_boundOf_34 : decode cX1_boundOf 34 = .ok (.iconst 0, 1) := by decide +kernel
theorem dX1_boundOf_35 : decode cX1_boundOf 35 = .ok (.istore 5, 2) := by decide +kernel
theorem dX1_boundOf_37 : decode cX1_boundOf 37 = .ok (.iload_n 1, 1) := by decide +kernel
theorem dX1_boundOf_38 : decode cX1_boundOf 38 = .ok (.istore 6, 2) := by decide +kernel
theorem dX1_boundOf_40 : decode cX1_boundOf 40 = .ok (.iload 6, 2) := by decide +kernel
theorem dX1_boundOf_42 : decode cX1_boundOf 42 = .ok (.iload_n 2, 1) := by decide +kernel
theorem dX1_boundOf_43 : decode cX1_boundOf 43 = .ok (.if_icmp .ge 48, 3) := by decide +kernel
theorem dX1_boundOf_46 : decode cX1_boundOf 46 = .ok (.iload 6, 2) := by decide +kernel
theorem dX1_boundOf_48 : decode cX1_boundOf 48 = .ok (.aload_n 0, 1) := by decide +kernel
theorem dX1_boundOf_49 : decode cX1_boundOf 49 = .ok (.getfield 38, 3) := by decide +kernel
theorem dX1_boundOf_52 : decode cX1_boundOf 52 = .ok (.if_icmp .ge 39, 3) := by decide +kernel
theorem dX1_boundOf_55 : decode cX1_boundOf 55 = .ok (.iload_n 3, 1) := by decide +kernel
theorem dX1_boundOf_56 : decode cX1_boundOf 56 = .ok (.iconst 2, 1) := by decide +kernel
theorem dX1_boundOf_57 : decode cX1_boundOf 57 = .ok (.if_icmp .ge 16, 3) := by decide +kernel
theorem dX1_boundOf_60 : decode cX1_boundOf 60 = .ok (.iload 5, 2) := by decide +kernel
theorem dX1_boundOf_62 : decode cX1_boundOf 62 = .ok (.aload 4, 2) := by decide +kernel
theorem dX1_boundOf_64 : decode cX1_boundOf 64 = .ok (.iload 6, 2) := by decide +kernel
theorem dX1_boundOf_66 : decode cX1_boundOf 66 = .ok (.iaload, 1) := by decide +kernel
theorem dX1_boundOf_67 : decode cX1_boundOf 67 = .ok (.invokestatic 166, 3) := by decide +kernel
theorem dX1_boundOf_70 : decode cX1_boundOf 70 = .ok (.goto 13, 3) := by decide +kernel
theorem dX1_boundOf_73 : decode cX1_boundOf 73 = .ok (.iload 5, 2) := by decide +kernel
theorem dX1_boundOf_75 : decode cX1_boundOf 75 = .ok (.aload 4, 2) := by decide +kernel
theorem dX1_boundOf_77 : decode cX1_boundOf 77 = .ok (.iload 6, 2) := by decide +kernel
theorem dX1_boundOf_79 : decode cX1_boundOf 79 = .ok (.iaload, 1) := by decide +kernel
theorem dX1_boundOf_80 : decode cX1_boundOf 80 = .ok (.invokestatic 168, 3) := by decide +kernel
theorem dX1_boundOf_83 : decode cX1_boundOf 83 = .ok (.istore 5, 2) := by decide +kernel
theorem dX1_boundOf_85 : decode cX1_boundOf 85 = .ok (.iinc 6 1, 3) := by decide +kernel
theorem dX1_boundOf_88 : decode cX1_boundOf 88 = .ok (.goto (-48), 3) := by decide +kernel
theorem dX1_boundOf_91 : decode cX1_boundOf 91 = .ok (.iload 5, 2) := by decide +kernel
theorem dX1_boundOf_93 : decode cX1_boundOf 93 = .ok (.ireturn, 1) := by decide +kernel
theorem dX2_init_0 : decode cX2_init 0 = .ok (.aload_n 0, 1) := by decide +kernel
theorem dX2_init_1 : decode cX2_init 1 = .ok (.invokespecial 3, 3) := by decide +kernel
theorem dX2_init_4 : decode cX2_init 4 = .ok (.aload_n 0, 1) := by decide +kernel
theorem dX2_init_5 : decode cX2_init 5 = .ok (.bipush 7, 2) := by decide +kernel
theorem dX2_init_7 : decode cX2_init 7 = .ok (.bipush 8, 2) := by decide +kernel
theorem dX2_init_9 : decode cX2_init 9 = .ok (.multianewarray 9 2, 4) := by decide +kernel
theorem dX2_init_13 : decode cX2_init 13 = .ok (.putfield 11, 3) := by decide +kernel
theorem dX2_init_16 : decode cX2_init 16 = .ok (.aload_n 0, 1) := by decide +kernel
theorem dX2_init_17 : decode cX2_init 17 = .ok (.bipush 7, 2) := by decide +kernel
theorem dX2_init_19 : decode cX2_init 19 = .ok (.newarray .int, 2) := by decide +kernel
theorem dX2_init_21 : decode cX2_init 21 = .ok (.putfield 16, 3) := by decide +kernel
theorem dX2_init_24 : decode cX2_init 24 = .ok (.aload_n 0, 1) := by decide +kernel
theorem dX2_init_25 : decode cX2_init 25 = .ok (.iconst 0, 1) := by decide +kernel
theorem dX2_init_26 : decode cX2_init 26 = .ok (.putfield 20, 3) := by decide +kernel
theorem dX2_init_29 : decode cX2_init 29 = .ok (.aload_n 0, 1) := by decide +kernel
theorem dX2_init_30 : decode cX2_init 30 = .ok (.iconst 0, 1) := by decide +kernel
theorem dX2_init_31 : decode cX2_init 31 = .ok (.putfield 24, 3) := by decide +kernel
theorem dX2_init_34 : decode cX2_init 34 = .ok (.return_, 1) := by decide +kernel
theorem dX2_begin_0 : decode cX2_begin 0 = .ok (.aload_n 0, 1) := by decide +kernel
theorem dX2_begin_1 : decode cX2_begin 1 = .ok (.aload_n 1, 1) := by decide +kernel
theorem dX2_begin_2 : decode cX2_begin 2 = .ok (.iload_n 2, 1) := by decide +kernel
theorem dX2_begin_3 : decode cX2_begin 3 = .ok (.invokevirtual 27, 3) := by decide +kernel
theorem dX2_begin_6 : decode cX2_begin 6 = .ok (.putfield 24, 3) := by decide +kernel
theorem dX2_begin_9 : decode cX2_begin 9 = .ok (.aload_n 0, 1) := by decide +kernel
theorem dX2_begin_10 : decode cX2_begin 10 = .ok (.iconst 1, 1) := by decide +kernel
theorem dX2_begin_11 : decode cX2_begin 11 = .ok (.putfield 20, 3) := by decide +kernel
theorem dX2_begin_14 : decode cX2_begin 14 = .ok (.aload_n 0, 1) := by decide +kernel
theorem dX2_begin_15 : decode cX2_begin 15 = .ok (.getfield 16, 3) := by decide +kernel
theorem dX2_begin_18 : decode cX2_begin 18 = .ok (.iconst 0, 1) := by decide +kernel
theorem dX2_begin_19 : decode cX2_begin 19 = .ok (.iconst 0, 1) := by decide +kernel
theorem dX2_begin_20 : decode cX2_begin 20 = .ok (.iastore, 1) := by decide +kernel
theorem dX2_begin_21 : decode cX2_begin 21 = .ok (.aload_n 0, 1) := by decide +kernel
theorem dX2_begin_22 : decode cX2_begin 22 = .ok (.getfield 11, 3) := by decide +kernel
theorem dX2_begin_25 : decode cX2_begin 25 = .ok (.iconst 0, 1) := by decide +kernel
theorem dX2_begin_26 : decode cX2_begin 26 = .ok (.aaload, 1) := by decide +kernel
theorem dX2_begin_27 : decode cX2_begin 27 = .ok (.astore 5, 2) := by decide +kernel
theorem dX2_begin_29 : decode cX2_begin 29 = .ok (.aload 5, 2) := by decide +kernel
theorem dX2_begin_31 : decode cX2_begin 31 = .ok (.iconst 0, 1) := by decide +kernel
theorem dX2_begin_32 : decode cX2_begin 32 = .ok (.iload_n 3, 1) := by decide +kernel
theorem dX2_begin_33 : decode cX2_begin 33 = .ok (.iastore, 1) := by decide +kernel
theorem dX2_begin_34 : decode cX2_begin 34 = .ok (.aload 5, 2) := by decide +kernel
theorem dX2_begin_36 : decode cX2_begin 36 = .ok (.iconst 1, 1) := by decide +kernel
theorem dX2_begin_37 : decode cX2_begin 37 = .ok (.iload 4, 2) := by decide +kernel
theorem dX2_begin_39 : decode cX2_begin 39 = .ok (.iastore, 1) := by decide +kernel
theorem dX2_begin_40 : decode cX2_begin 40 = .ok (.iconst 0, 1) := by decide +kernel
theorem dX2_begin_41 : decode cX2_begin 41 = .ok (.istore 6, 2) := by decide +kernel
theorem dX2_begin_43 : decode cX2_begin 43 = .ok (.iload 6, 2) := by decide +kernel
theorem dX2_begin_45 : decode cX2_begin 45 = .ok (.iconst 2, 1) := by decide +kernel
theorem dX2_begin_46 : decode cX2_begin 46 = .ok (.aload_n 0, 1) := by decide +kernel
theorem dX2_begin_47 : decode cX2_begin 47 = .ok (.getfield 24, 3) := by decide +kernel
theorem dX2_begin_50 : decode cX2_begin 50 = .ok (.imul, 1) := by decide +kernel
theorem dX2_begin_51 : decode cX2_begin 51 = .ok (.if_icmp .ge 23, 3) := by decide +kernel
theorem dX2_begin_54 : decode cX2_begin 54 = .ok (.aload 5, 2) := by decide +kernel
theorem dX2_begin_56 : decode cX2_begin 56 = .ok (.iload 6, 2) := by decide +kernel
theorem dX2_begin_58 : decode cX2_begin 58 = .ok (.iconst 2, 1) := by decide +kernel
theorem dX2_begin_59 : decode cX2_begin 59 = .ok (.iadd, 1) := by decide +kernel
theorem dX2_begin_60 : decode cX2_begin 60 = .ok (.aload_n 1, 1) := by decide +kernel
theorem dX2_begin_61 : decode cX2_begin 61 = .ok (.iload_n 2, 1) := by decide +kernel
theorem dX2_begin_62 : decode cX2_begin 62 = .ok (.iload 6, 2) := by decide +kernel
theorem dX2_begin_64 : decode cX2_begin 64 = .ok (.invokevirtual 33, 3) := by decide +kernel
theorem dX2_begin_67 : decode cX2_begin 67 = .ok (.iastore, 1) := by decide +kernel
theorem dX2_begin_68 : decode cX2_begin 68 = .ok (.iinc 6 1, 3) := by decide +kernel
theorem dX2_begin_71 : decode cX2_begin 71 = .ok (.goto (-28), 3) := by decide +kernel
theorem dX2_begin_74 : decode cX2_begin 74 = .ok (.return_, 1) := by decide +kernel
theorem dX2_hasMore_0 : decode cX2_hasMore 0 = .ok (.aload_n 0, 1) := by decide +kernel
theorem dX2_hasMore_1 : decode cX2_hasMore 1 = .ok (.getfield 20, 3) := by decide +kernel
theorem dX2_hasMore_4 : decode cX2_hasMore 4 = .ok (.ifCond .le 7, 3) := by decide +kernel
theorem dX2_hasMore_7 : decode cX2_hasMore 7 = .ok (.iconst 1, 1) := by decide +kernel
theorem dX2_hasMore_8 : decode cX2_hasMore 8 = .ok (.goto 4, 3) := by decide +kernel
theorem dX2_hasMore_11 : decode cX2_hasMore 11 = .ok (.iconst 0, 1) := by decide +kernel
theorem dX2_hasMore_12 : decode cX2_hasMore 12 = .ok (.ireturn, 1) := by decide +kernel
theorem dX2_halveNext_0 : decode cX2_halveNext 0 = .ok (.aload_n 0, 1) := by decide +kernel
theorem dX2_halveNext_1 : decode cX2_halveNext 1 = .ok (.getfield 24, 3) := by decide +kernel
theorem dX2_halveNext_4 : decode cX2_halveNext 4 = .ok (.iconst 2, 1) := by decide +kernel
theorem dX2_halveNext_5 : decode cX2_halveNext 5 = .ok (.if_icmp .ne 9, 3) := by decide +kernel
theorem dX2_halveNext_8 : decode cX2_halveNext 8 = .ok (.iconst 4, 1) := by decide +kernel
theorem dX2_halveNext_9 : decode cX2_halveNext 9 = .ok (.iload_n 1, 1) := by decide +kernel
theorem dX2_halveNext_10 : decode cX2_halveNext 10 = .ok (.imul, 1) := by decide +kernel
theorem dX2_halveNext_11 : decode cX2_halveNext 11 = .ok (.goto 6, 3) := by decide +kernel
theorem dX2_halveNext_14 : decode cX2_halveNext 14 = .ok (.iconst 2, 1) := by decide +kernel
theorem dX2_halveNext_15 : decode cX2_halveNext 15 = .ok (.iload_n 1, 1) := by decide +kernel
theorem dX2_halveNext_16 : decode cX2_halveNext 16 = .ok (.imul, 1) := by decide +kernel
theorem dX2_halveNext_17 : decode cX2_halveNext 17 = .ok (.istore_n 2, 1) := by decide +kernel
theorem dX2_halveNext_18 : decode cX2_halveNext 18 = .ok (.iconst 0, 1) := by decide +kernel
theorem dX2_halveNext_19 : decode cX2_halveNext 19 = .ok (.istore_n 3, 1) := by decide +kernel
theorem dX2_halveNext_20 : decode cX2_halveNext 20 = .ok (.iload_n 3, 1) := by decide +kernel
theorem dX2_halveNext_21 : decode cX2_halveNext 21 = .ok (.bipush 6, 2) := by decide +kernel
theorem dX2_halveNext_23 : decode cX2_halveNext 23 = .ok (.if_icmp .ge 119, 3) := by decide +kernel
theorem dX2_halveNext_26 : decode cX2_halveNext 26 = .ok (.aload_n 0, 1) := by decide +kernel
theorem dX2_halveNext_27 : decode cX2_halveNext 27 = .ok (.getfield 20, 3) := by decide +kernel
theorem dX2_halveNext_30 : decode cX2_halveNext 30 = .ok (.iconst 1, 1) := by decide +kernel
theorem dX2_halveNext_31 : decode cX2_halveNext 31 = .ok (.isub, 1) := by decide +kernel
theorem dX2_halveNext_32 : decode cX2_halveNext 32 = .ok (.istore 4, 2) := by decide +kernel
theorem dX2_halveNext_34 : decode cX2_halveNext 34 = .ok (.iload 4, 2) := by decide +kernel
theorem dX2_halveNext_36 : decode cX2_halveNext 36 = .ok (.ifCond .lt 42, 3) := by decide +kernel
theorem dX2_halveNext_39 : decode cX2_halveNext 39 = .ok (.aload_n 0, 1) := by decide +kernel
theorem dX2_halveNext_40 : decode cX2_halveNext 40 = .ok (.getfield 16, 3) := by decide +kernel
theorem dX2_halveNext_43 : decode cX2_halveNext 43 = .ok (.iload 4, 2) := by decide +kernel
theorem dX2_halveNext_45 : decode cX2_halveNext 45 = .ok (.iaload, 1) := by decide +kernel
theorem dX2_halveNext_46 : decode cX2_halveNext 46 = .ok (.bipush 6, 2) := by decide +kernel
theorem dX2_halveNext_48 : decode cX2_halveNext 48 = .ok (.if_icmp .ge 30, 3) := by decide +kernel
theorem dX2_halveNext_51 : decode cX2_halveNext 51 = .ok (.aload_n 0, 1) := by decide +kernel
theorem dX2_halveNext_52 : decode cX2_halveNext 52 = .ok (.getfield 20, 3) := by decide +kernel
theorem dX2_halveNext_55 : decode cX2_halveNext 55 = .ok (.aload_n 0, 1) := by decide +kernel
theorem dX2_halveNext_56 : decode cX2_halveNext 56 = .ok (.getfield 11, 3) := by decide +kernel
theorem dX2_halveNext_59 : decode cX2_halveNext 59 = .ok (.arraylength, 1) := by decide +kernel
theorem dX2_halveNext_60 : decode cX2_halveNext 60 = .ok (.if_icmp .ge 18, 3) := by decide +kernel
theorem dX2_halveNext_63 : decode cX2_halveNext 63 = .ok (.aload_n 0, 1) := by decide +kernel
theorem dX2_halveNext_64 : decode cX2_halveNext 64 = .ok (.aload_n 0, 1) := by decide +kernel
theorem dX2_halveNext_65 : decode cX2_halveNext 65 = .ok (.getfield 11, 3) := by decide +kernel
theorem dX2_halveNext_68 : decode cX2_halveNext 68 = .ok (.iload 4, 2) := by decide +kernel
theorem dX2_halveNext_70 : decode cX2_halveNext 70 = .ok (.aaload, 1) := by decide +kernel
theorem dX2_halveNext_71 : decode cX2_halveNext 71 = .ok (.iload_n 2, 1) := by decide +kernel
theorem dX2_halveNext_72 : decode cX2_halveNext 72 = .ok (.invokevirtual 37, 3) := by decide +kernel
theorem dX2_halveNext_75 : decode cX2_halveNext 75 = .ok (.ifCond .eq 4, 3) := by decide +kernel
theorem dX2_halveNext_78 : decode cX2_halveNext 78 = .ok (.return_, 1) := by decide +kernel
theorem dX2_halveNext_79 : decode cX2_halveNext 79 = .ok (.aload_n 0, 1) := by decide +kernel
theorem dX2_halveNext_80 : decode cX2_halveNext 80 = .ok (.aload_n 0, 1) := by decide +kernel
theorem dX2_halveNext_81 : decode cX2_halveNext 81 = .ok (.getfield 11, 3) := by decide +kernel
theorem dX2_halveNext_84 : decode cX2_halveNext 84 = .ok (.iload 4, 2) := by decide +kernel
theorem dX2_halveNext_86 : decode cX2_halveNext 86 = .ok (.aaload, 1) := by decide +kernel
theorem dX2_halveNext_87 : decode cX2_halveNext 87 = .ok (.aload_n 0, 1) := by decide +kernel
theorem dX2_halveNext_88 : decode cX2_halveNext 88 = .ok (.getfield 11, 3) := by decide +kernel
theorem dX2_halveNext_91 : decode cX2_halveNext 91 = .ok (.iload 4, 2) := by decide +kernel
theorem dX2_halveNext_93 : decode cX2_halveNext 93 = .ok (.iconst 1, 1) := by decide +kernel
theorem dX2_halveNext_94 : decode cX2_halveNext 94 = .ok (.iadd, 1) := by decide +kernel
theorem dX2_halveNext_95 : decode cX2_halveNext 95 = .ok (.aaload, 1) := by decide +kernel
theorem dX2_halveNext_96 : decode cX2_halveNext 96 = .ok (.invokevirtual 41, 3) := by decide +kernel
theorem dX2_halveNext_99 : decode cX2_halveNext 99 = .ok (.aload_n 0, 1) := by decide +kernel
theorem dX2_halveNext_100 : decode cX2_halveNext 100 = .ok (.getfield 16, 3) := by decide +kernel
theorem dX2_halveNext_103 : decode cX2_halveNext 103 = .ok (.iload 4, 2) := by decide +kernel
theorem dX2_halveNext_105 : decode cX2_halveNext 105 = .ok (.dup2, 1) := by decide +kernel
theorem dX2_halveNext_106 : decode cX2_halveNext 106 = .ok (.iaload, 1) := by decide +kernel
theorem dX2_halveNext_107 : decode cX2_halveNext 107 = .ok (.iconst 1, 1) := by decide +kernel
theorem dX2_halveNext_108 : decode cX2_halveNext 108 = .ok (.iadd, 1) := by decide +kernel
theorem dX2_halveNext_109 : decode cX2_halveNext 109 = .ok (.iastore, 1) := by decide +kernel
theorem dX2_halveNext_110 : decode cX2_halveNext 110 = .ok (.aload_n 0, 1) := by decide +kernel
theorem dX2_halveNext_111 : decode cX2_halveNext 111 = .ok (.getfield 16, 3) := by decide +kernel
theorem dX2_halveNext_114 : decode cX2_halveNext 114 = .ok (.iload 4, 2) := by decide +kernel
theorem dX2_halveNext_116 : decode cX2_halveNext 116 = .ok (.iconst 1, 1) := by decide +kernel
theorem dX2_halveNext_117 : decode cX2_halveNext 117 = .ok (.iadd, 1) := by decide +kernel
theorem dX2_halveNext_118 : decode cX2_halveNext 118 = .ok (.aload_n 0, 1) := by decide +kernel
theorem dX2_halveNext_119 : decode cX2_halveNext 119 = .ok (.getfield 16, 3) := by decide +kernel
theorem dX2_halveNext_122 : decode cX2_halveNext 122 = .ok (.iload 4, 2) := by decide +kernel
theorem dX2_halveNext_124 : decode cX2_halveNext 124 = .ok (.iaload, 1) := by decide +kernel
theorem dX2_halveNext_125 : decode cX2_halveNext 125 = .ok (.iastore, 1) := by decide +kernel
theorem dX2_halveNext_126 : decode cX2_halveNext 126 = .ok (.aload_n 0, 1) := by decide +kernel
theorem dX2_halveNext_127 : decode cX2_halveNext 127 = .ok (.dup, 1) := by decide +kernel
theorem dX2_halveNext_128 : decode cX2_halveNext 128 = .ok (.getfield 20, 3) := by decide +kernel
theorem dX2_halveNext_131 : decode cX2_halveNext 131 = .ok (.iconst 1, 1) := by decide +kernel
theorem dX2_halveNext_132 : decode cX2_halveNext 132 = .ok (.iadd, 1) := by decide +kernel
theorem dX2_halveNext_133 : decode cX2_halveNext 133 = .ok (.putfield 20, 3) := by decide +kernel
theorem dX2_halveNext_136 : decode cX2_halveNext 136 = .ok (.iinc 3 1, 3) := by decide +kernel
theorem dX2_halveNext_139 : decode cX2_halveNext 139 = .ok (.goto (-119), 3) := by decide +kernel
theorem dX2_halveNext_142 : decode cX2_halveNext 142 = .ok (.return_, 1) := by decide +kernel
theorem dX2_nextX_0 : decode cX2_nextX 0 = .ok (.aload_n 0, 1) := by decide +kernel
theorem dX2_nextX_1 : decode cX2_nextX 1 = .ok (.getfield 20, 3) := by decide +kernel
theorem dX2_nextX_4 : decode cX2_nextX 4 = .ok (.ifCond .le 24, 3) := by decide +kernel
theorem dX2_nextX_7 : decode cX2_nextX 7 = .ok (.aload_n 0, 1) := by decide +kernel
theorem dX2_nextX_8 : decode cX2_nextX 8 = .ok (.getfield 11, 3) := by decide +kernel
theorem dX2_nextX_11 : decode cX2_nextX 11 = .ok (.aload_n 0, 1) := by decide +kernel
theorem dX2_nextX_12 : decode cX2_nextX 12 = .ok (.getfield 20, 3) := by decide +kernel
theorem dX2_nextX_15 : decode cX2_nextX 15 = .ok (.iconst 1, 1) := by decide +kernel
theorem dX2_nextX_16 : decode cX2_nextX 16 = .ok (.isub, 1) := by decide +kernel
theorem dX2_nextX_17 : decode cX2_nextX 17 = .ok (.aaload, 1) := by decide +kernel
theorem dX2_nextX_18 : decode cX2_nextX 18 = .ok (.iconst 2, 1) := by decide +kernel
theorem dX2_nextX_19 : decode cX2_nextX 19 = .ok (.aload_n 0, 1) := by decide +kernel
theorem dX2_nextX_20 : decode cX2_nextX 20 = .ok (.getfield 24, 3) := by decide +kernel
theorem dX2_nextX_23 : decode cX2_nextX 23 = .ok (.imul, 1) := by decide +kernel
theorem dX2_nextX_24 : decode cX2_nextX 24 = .ok (.iaload, 1) := by decide +kernel
theorem dX2_nextX_25 : decode cX2_nextX 25 = .ok (.goto 4, 3) := by decide +kernel
theorem dX2_nextX_28 : decode cX2_nextX 28 = .ok (.iconst 0, 1) := by decide +kernel
theorem dX2_nextX_29 : decode cX2_nextX 29 = .ok (.ireturn, 1) := by decide +kernel
theorem dX2_nextY_0 : decode cX2_nextY 0 = .ok (.aload_n 0, 1) := by decide +kernel
theorem dX2_nextY_1 : decode cX2_nextY 1 = .ok (.getfield 20, 3) := by decide +kernel
theorem dX2_nextY_4 : decode cX2_nextY 4 = .ok (.ifCond .le 26, 3) := by decide +kernel
theorem dX2_nextY_7 : decode cX2_nextY 7 = .ok (.aload_n 0, 1) := by decide +kernel
theorem dX2_nextY_8 : decode cX2_nextY 8 = .ok (.getfield 11, 3) := by decide +kernel
theorem dX2_nextY_11 : decode cX2_nextY 11 = .ok (.aload_n 0, 1) := by decide +kernel
theorem dX2_nextY_12 : decode cX2_nextY 12 = .ok (.getfield 20, 3) := by decide +kernel
theorem dX2_nextY_15 : decode cX2_nextY 15 = .ok (.iconst 1, 1) := by decide +kernel
theorem dX2_nextY_16 : decode cX2_nextY 16 = .ok (.isub, 1) := by decide +kernel
theorem dX2_nextY_17 : decode cX2_nextY 17 = .ok (.aaload, 1) := by decide +kernel
theorem dX2_nextY_18 : decode cX2_nextY 18 = .ok (.iconst 2, 1) := by decide +kernel
theorem dX2_nextY_19 : decode cX2_nextY 19 = .ok (.aload_n 0, 1) := by decide +kernel
theorem dX2_nextY_20 : decode cX2_nextY 20 = .ok (.getfield 24, 3) := by decide +kernel
theorem dX2_nextY_23 : decode cX2_nextY 23 = .ok (.imul, 1) := by decide +kernel
theorem dX2_nextY_24 : decode cX2_nextY 24 = .ok (.iconst 1, 1) := by decide +kernel
theorem dX2_nextY_25 : decode cX2_nextY 25 = .ok (.iadd, 1) := by decide +kernel
theorem dX2_nextY_26 : decode cX2_nextY 26 = .ok (.iaload, 1) := by decide +kernel
theorem dX2_nextY_27 : decode cX2_nextY 27 = .ok (.goto 4, 3) := by decide +kernel
theorem dX2_nextY_30 : decode cX2_nextY 30 = .ok (.iconst 0, 1) := by decide +kernel
theorem dX2_nextY_31 : decode cX2_nextY 31 = .ok (.ireturn, 1) := by decide +kernel
theorem dX2_dropNext_0 : decode cX2_dropNext 0 = .ok (.aload_n 0, 1) := by decide +kernel
theorem dX2_dropNext_1 : decode cX2_dropNext 1 = .ok (.getfield 20, 3) := by decide +kernel
theorem dX2_dropNext_4 : decode cX2_dropNext 4 = .ok (.ifCond .le 13, 3) := by decide +kernel
theorem dX2_dropNext_7 : decode cX2_dropNext 7 = .ok (.aload_n 0, 1) := by decide +kernel
theorem dX2_dropNext_8 : decode cX2_dropNext 8 = .ok (.dup, 1) := by decide +kernel
theorem dX2_dropNext_9 : decode cX2_dropNext 9 = .ok (.getfield 20, 3) := by decide +kernel
theorem dX2_dropNext_12 : decode cX2_dropNext 12 = .ok (.iconst 1, 1) := by decide +kernel
theorem dX2_dropNext_13 : decode cX2_dropNext 13 = .ok (.isub, 1) := by decide +kernel
theorem dX2_dropNext_14 : decode cX2_dropNext 14 = .ok (.putfield 20, 3) := by decide +kernel
theorem dX2_dropNext_17 : decode cX2_dropNext 17 = .ok (.return_, 1) := by decide +kernel
theorem dX2_isFlat_0 : decode cX2_isFlat 0 = .ok (.iconst 0, 1) := by decide +kernel
theorem dX2_isFlat_1 : decode cX2_isFlat 1 = .ok (.istore_n 3, 1) := by decide +kernel
theorem dX2_isFlat_2 : decode cX2_isFlat 2 = .ok (.iload_n 3, 1) := by decide +kernel
theorem dX2_isFlat_3 : decode cX2_isFlat 3 = .ok (.iconst 2, 1) := by decide +kernel
theorem dX2_isFlat_4 : decode cX2_isFlat 4 = .ok (.iadd, 1) := by decide +kernel
theorem dX2_isFlat_5 : decode cX2_isFlat 5 = .ok (.aload_n 0, 1) := by decide +kernel
theorem dX2_isFlat_6 : decode cX2_isFlat 6 = .ok (.getfield 24, 3) := by decide +kernel
theorem dX2_isFlat_9 : decode cX2_isFlat 9 = .ok (.if_icmp .gt 77, 3) := by decide +kernel
theorem dX2_isFlat_12 : decode cX2_isFlat 12 = .ok (.iconst 2, 1) := by decide +kernel
theorem dX2_isFlat_13 : decode cX2_isFlat 13 = .ok (.iload_n 3, 1) := by decide +kernel
theorem dX2_isFlat_14 : decode cX2_isFlat 14 = .ok (.imul, 1) := by decide +kernel
theorem dX2_isFlat_15 : decode cX2_isFlat 15 = .ok (.istore 4, 2) := by decide +kernel
theorem dX2_isFlat_17 : decode cX2_isFlat 17 = .ok (.aload_n 1, 1) := by decide +kernel
theorem dX2_isFlat_18 : decode cX2_isFlat 18 = .ok (.iload 4, 2) := by decide +kernel
theorem dX2_isFlat_20 : decode cX2_isFlat 20 = .ok (.iaload, 1) := by decide +kernel
theorem dX2_isFlat_21 : decode cX2_isFlat 21 = .ok (.iconst 2, 1) := by decide +kernel
theorem dX2_isFlat_22 : decode cX2_isFlat 22 = .ok (.aload_n 1, 1) := by decide +kernel
theorem dX2_isFlat_23 : decode cX2_isFlat 23 = .ok (.iload 4, 2) := by decide +kernel
theorem dX2_isFlat_25 : decode cX2_isFlat 25 = .ok (.iconst 2, 1) := by decide +kernel
theorem dX2_isFlat_26 : decode cX2_isFlat 26 = .ok (.iadd, 1) := by decide +kernel
theorem dX2_isFlat_27 : decode cX2_isFlat 27 = .ok (.iaload, 1) := by decide +kernel
theorem dX2_isFlat_28 : decode cX2_isFlat 28 = .ok (.imul, 1) := by decide +kernel
theorem dX2_isFlat_29 : decode cX2_isFlat 29 = .ok (.isub, 1) := by decide +kernel
theorem dX2_isFlat_30 : decode cX2_isFlat 30 = .ok (.aload_n 1, 1) := by decide +kernel
theorem dX2_isFlat_31 : decode cX2_isFlat 31 = .ok (.iload 4, 2) := by decide +kernel
theorem dX2_isFlat_33 : decode cX2_isFlat 33 = .ok (.iconst 4, 1) := by decide +kernel
theorem dX2_isFlat_34 : decode cX2_isFlat 34 = .ok (.iadd, 1) := by decide +kernel
theorem dX2_isFlat_35 : decode cX2_isFlat 35 = .ok (.iaload, 1) := by decide +kernel
theorem dX2_isFlat_36 : decode cX2_isFlat 36 = .ok (.iadd, 1) := by decide +kernel
theorem dX2_isFlat_37 : decode cX2_isFlat 37 = .ok (.invokestatic 45, 3) := by decide +kernel
theorem dX2_isFlat_40 : decode cX2_isFlat 40 = .ok (.istore 5, 2) := by decide +kernel
theorem dX2_isFlat_42 : decode cX2_isFlat 42 = .ok (.aload_n 1, 1) := by decide +kernel
theorem dX2_isFlat_43 : decode cX2_isFlat 43 = .ok (.iload 4, 2) := by decide +kernel
theorem dX2_isFlat_45 : decode cX2_isFlat 45 = .ok (.iconst 1, 1) := by decide +kernel
theorem dX2_isFlat_46 : decode cX2_isFlat 46 = .ok (.iadd, 1) := by decide +kernel
theorem dX2_isFlat_47 : decode cX2_isFlat 47 = .ok (.iaload, 1) := by decide +kernel
theorem dX2_isFlat_48 : decode cX2_isFlat 48 = .ok (.iconst 2, 1) := by decide +kernel
theorem dX2_isFlat_49 : decode cX2_isFlat 49 = .ok (.aload_n 1, 1) := by decide +kernel
theorem dX2_isFlat_50 : decode cX2_isFlat 50 = .ok (.iload 4, 2) := by decide +kernel
theorem dX2_isFlat_52 : decode cX2_isFlat 52 = .ok (.iconst 3, 1) := by decide +kernel
theorem dX2_isFlat_53 : decode cX2_isFlat 53 = .ok (.iadd, 1) := by decide +kernel
theorem dX2_isFlat_54 : decode cX2_isFlat 54 = .ok (.iaload, 1) := by decide +kernel
theorem dX2_isFlat_55 : decode cX2_isFlat 55 = .ok (.imul, 1) := by decide +kernel
theorem dX2_isFlat_56 : decode cX2_isFlat 56 = .ok (.isub, 1) := by decide +kernel
theorem dX2_isFlat_57 : decode cX2_isFlat 57 = .ok (.aload_n 1, 1) := by decide +kernel
theorem dX2_isFlat_58 : decode cX2_isFlat 58 = .ok (.iload 4, 2) := by decide +kernel
theorem dX2_isFlat_60 : decode cX2_isFlat 60 = .ok (.iconst 5, 1) := by decide +kernel
theorem dX2_isFlat_61 : decode cX2_isFlat 61 = .ok (.iadd, 1) := by decide +kernel
theorem dX2_isFlat_62 : decode cX2_isFlat 62 = .ok (.iaload, 1) := by decide +kernel
theorem dX2_isFlat_63 : decode cX2_isFlat 63 = .ok (.iadd, 1) := by decide +kernel
theorem dX2_isFlat_64 : decode cX2_isFlat 64 = .ok (.invokestatic 45, 3) := by decide +kernel
theorem dX2_isFlat_67 : decode cX2_isFlat 67 = .ok (.istore 6, 2) := by decide +kernel
theorem dX2_isFlat_69 : decode cX2_isFlat 69 = .ok (.iload 5, 2) := by decide +kernel
theorem dX2_isFlat_71 : decode cX2_isFlat 71 = .ok (.iload 6, 2) := by decide +kernel
theorem dX2_isFlat_73 : decode cX2_isFlat 73 = .ok (.iadd, 1) := by decide +kernel
theorem dX2_isFlat_74 : decode cX2_isFlat 74 = .ok (.iload_n 2, 1) := by decide +kernel
theorem dX2_isFlat_75 : decode cX2_isFlat 75 = .ok (.if_icmp .le 5, 3) := by decide +kernel
theorem dX2_isFlat_78 : decode cX2_isFlat 78 = .ok (.iconst 0, 1) := by decide +kernel
theorem dX2_isFlat_79 : decode cX2_isFlat 79 = .ok (.ireturn, 1) := by decide +kernel
theorem dX2_isFlat_80 : decode cX2_isFlat 80 = .ok (.iinc 3 1, 3) := by decide +kernel
theorem dX2_isFlat_83 : decode cX2_isFlat 83 = .ok (.goto (-81), 3) := by decide +kernel
theorem dX2_isFlat_86 : decode cX2_isFlat 86 = .ok (.iconst 1, 1) := by decide +kernel
theorem dX2_isFlat_87 : decode cX2_isFlat 87 = .ok (.ireturn, 1) := by decide +kernel
theorem dX2_halve_0 : decode cX2_halve 0 = .ok (.aload_n 2, 1) := by decide +kernel
theorem dX2_halve_1 : decode cX2_halve 1 = .ok (.iconst 0, 1) := by decide +kernel
theorem dX2_halve_2 : decode cX2_halve 2 = .ok (.aload_n 1, 1) := by decide +kernel
theorem dX2_halve_3 : decode cX2_halve 3 = .ok (.iconst 0, 1) := by decide +kernel
theorem dX2_halve_4 : decode cX2_halve 4 = .ok (.iaload, 1) := by decide +kernel
theorem dX2_halve_5 : decode cX2_halve 5 = .ok (.iastore, 1) := by decide +kernel
theorem dX2_halve_6 : decode cX2_halve 6 = .ok (.aload_n 2, 1) := by decide +kernel
theorem dX2_halve_7 : decode cX2_halve 7 = .ok (.iconst 1, 1) := by decide +kernel
theorem dX2_halve_8 : decode cX2_halve 8 = .ok (.aload_n 1, 1) := by decide +kernel
theorem dX2_halve_9 : decode cX2_halve 9 = .ok (.iconst 1, 1) := by decide +kernel
theorem dX2_halve_10 : decode cX2_halve 10 = .ok (.iaload, 1) := by decide +kernel
theorem dX2_halve_11 : decode cX2_halve 11 = .ok (.iastore, 1) := by decide +kernel
theorem dX2_halve_12 : decode cX2_halve 12 = .ok (.iconst 1, 1) := by decide +kernel
theorem dX2_halve_13 : decode cX2_halve 13 = .ok (.istore_n 3, 1) := by decide +kernel
theorem dX2_halve_14 : decode cX2_halve 14 = .ok (.iload_n 3, 1) := by decide +kernel
theorem dX2_halve_15 : decode cX2_halve 15 = .ok (.aload_n 0, 1) := by decide +kernel
theorem dX2_halve_16 : decode cX2_halve 16 = .ok (.getfield 24, 3) := by decide +kernel
theorem dX2_halve_19 : decode cX2_halve 19 = .ok (.if_icmp .gt 68, 3) := by decide +kernel
theorem dX2_halve_22 : decode cX2_halve 22 = .ok (.iconst 0, 1) := by decide +kernel
theorem dX2_halve_23 : decode cX2_halve 23 = .ok (.istore 4, 2) := by decide +kernel
theorem dX2_halve_25 : decode cX2_halve 25 = .ok (.iload 4, 2) := by decide +kernel
theorem dX2_halve_27 : decode cX2_halve 27 = .ok (.iconst 2, 1) := by decide +kernel
theorem dX2_halve_28 : decode cX2_halve 28 = .ok (.aload_n 0, 1) := by decide +kernel
theorem dX2_halve_29 : decode cX2_halve 29 = .ok (.getfield 24, 3) := by decide +kernel
theorem dX2_halve_32 : decode cX2_halve 32 = .ok (.iconst 1, 1) := by decide +kernel
theorem dX2_halve_33 : decode cX2_halve 33 = .ok (.iadd, 1) := by decide +kernel
theorem dX2_halve_34 : decode cX2_halve 34 = .ok (.iload_n 3, 1) := by decide +kernel
theorem dX2_halve_35 : decode cX2_halve 35 = .ok (.isub, 1) := by decide +kernel
theorem dX2_halve_36 : decode cX2_halve 36 = .ok (.imul, 1) := by decide +kernel
theorem dX2_halve_37 : decode cX2_halve 37 = .ok (.if_icmp .ge 26, 3) := by decide +kernel
theorem dX2_halve_40 : decode cX2_halve 40 = .ok (.aload_n 1, 1) := by decide +kernel
theorem dX2_halve_41 : decode cX2_halve 41 = .ok (.iload 4, 2) := by decide +kernel
theorem dX2_halve_43 : decode cX2_halve 43 = .ok (.aload_n 1, 1) := by decide +kernel
theorem dX2_halve_44 : decode cX2_halve 44 = .ok (.iload 4, 2) := by decide +kernel
theorem dX2_halve_46 : decode cX2_halve 46 = .ok (.iaload, 1) := by decide +kernel
theorem dX2_halve_47 : decode cX2_halve 47 = .ok (.aload_n 1, 1) := by decide +kernel
theorem dX2_halve_48 : decode cX2_halve 48 = .ok (.iload 4, 2) := by decide +kernel
theorem dX2_halve_50 : decode cX2_halve 50 = .ok (.iconst 2, 1) := by decide +kernel
theorem dX2_halve_51 : decode cX2_halve 51 = .ok (.iadd, 1) := by decide +kernel
theorem dX2_halve_52 : decode cX2_halve 52 = .ok (.iaload, 1) := by decide +kernel
theorem dX2_halve_53 : decode cX2_halve 53 = .ok (.iadd, 1) := by decide +kernel
theorem dX2_halve_54 : decode cX2_halve 54 = .ok (.iconst 1, 1) := by decide +kernel
theorem dX2_halve_55 : decode cX2_halve 55 = .ok (.ishr, 1) := by decide +kernel
theorem dX2_halve_56 : decode cX2_halve 56 = .ok (.iastore, 1) := by decide +kernel
theorem dX2_halve_57 : decode cX2_halve 57 = .ok (.iinc 4 1, 3) := by decide +kernel
theorem dX2_halve_60 : decode cX2_halve 60 = .ok (.goto (-35), 3) := by decide +kernel
theorem dX2_halve_63 : decode cX2_halve 63 = .ok (.aload_n 2, 1) := by decide +kernel
theorem dX2_halve_64 : decode cX2_halve 64 = .ok (.iconst 2, 1) := by decide +kernel
theorem dX2_halve_65 : decode cX2_halve 65 = .ok (.iload_n 3, 1) := by decide +kernel
theorem dX2_halve_66 : decode cX2_halve 66 = .ok (.imul, 1) := by decide +kernel
theorem dX2_halve_67 : decode cX2_halve 67 = .ok (.aload_n 1, 1) := by decide +kernel
theorem dX2_halve_68 : decode cX2_halve 68 = .ok (.iconst 0, 1) := by decide +kernel
theorem dX2_halve_69 : decode cX2_halve 69 = .ok (.iaload, 1) := by decide +kernel
theorem dX2_halve_70 : decode cX2_halve 70 = .ok (.iastore, 1) := by decide +kernel
theorem dX2_halve_71 : decode cX2_halve 71 = .ok (.aload_n 2, 1) := by decide +kernel
theorem dX2_halve_72 : decode cX2_halve 72 = .ok (.iconst 2, 1) := by decide +kernel
theorem dX2_halve_73 : decode cX2_halve 73 = .ok (.iload_n 3, 1) := by decide +kernel
theorem dX2_halve_74 : decode cX2_halve 74 = .ok (.imul, 1) := by decide +kernel
theorem dX2_halve_75 : decode cX2_halve 75 = .ok (.iconst 1, 1) := by decide +kernel
theorem dX2_halve_76 : decode cX2_halve 76 = .ok (.iadd, 1) := by decide +kernel
theorem dX2_halve_77 : decode cX2_halve 77 = .ok (.aload_n 1, 1) := by decide +kernel
theorem dX2_halve_78 : decode cX2_halve 78 = .ok (.iconst 1, 1) := by decide +kernel
theorem dX2_halve_79 : decode cX2_halve 79 = .ok (.iaload, 1) := by decide +kernel
theorem dX2_halve_80 : decode cX2_halve 80 = .ok (.iastore, 1) := by decide +kernel
theorem dX2_halve_81 : decode cX2_halve 81 = .ok (.iinc 3 1, 3) := by decide +kernel
theorem dX2_halve_84 : decode cX2_halve 84 = .ok (.goto (-70), 3) := by decide +kernel
theorem dX2_halve_87 : decode cX2_halve 87 = .ok (.return_, 1) := by decide +kernel
theorem dX3_init_0 : decode cX3_init 0 = .ok (.aload_n 0, 1) := by decide +kernel
theorem dX3_init_1 : decode cX3_init 1 = .ok (.invokespecial 3, 3) := by decide +kernel
theorem dX3_init_4 : decode cX3_init 4 = .ok (.aload_n 0, 1) := by decide +kernel
theorem dX3_init_5 : decode cX3_init 5 = .ok (.bipush 24, 2) := by decide +kernel
theorem dX3_init_7 : decode cX3_init 7 = .ok (.newarray .int, 2) := by decide +kernel
theorem dX3_init_9 : decode cX3_init 9 = .ok (.putfield 9, 3) := by decide +kernel
theorem dX3_init_12 : decode cX3_init 12 = .ok (.aload_n 0, 1) := by decide +kernel
theorem dX3_init_13 : decode cX3_init 13 = .ok (.bipush 26, 2) := by decide +kernel
theorem dX3_init_15 : decode cX3_init 15 = .ok (.newarray .int, 2) := by decide +kernel
theorem dX3_init_17 : decode cX3_init 17 = .ok (.putfield 15, 3) := by decide +kernel
theorem dX3_init_20 : decode cX3_init 20 = .ok (.aload_n 0, 1) := by decide +kernel
theorem dX3_init_21 : decode cX3_init 21 = .ok (.sipush 676, 3) := by decide +kernel
theorem dX3_init_24 : decode cX3_init 24 = .ok (.newarray .int, 2) := by decide +kernel
theorem dX3_init_26 : decode cX3_init 26 = .ok (.putfield 18, 3) := by decide +kernel
theorem dX3_init_29 : decode cX3_init 29 = .ok (.aload_n 0, 1) := by decide +kernel
theorem dX3_init_30 : decode cX3_init 30 = .ok (.bipush 24, 2) := by decide +kernel
theorem dX3_init_32 : decode cX3_init 32 = .ok (.newarray .int, 2) := by decide +kernel
theorem dX3_init_34 : decode cX3_init 34 = .ok (.putfield 21, 3) := by decide +kernel
theorem dX3_init_37 : decode cX3_init 37 = .ok (.aload_n 0, 1) := by decide +kernel
theorem dX3_init_38 : decode cX3_init 38 = .ok (.bipush 24, 2) := by decide +kernel
theorem dX3_init_40 : decode cX3_init 40 = .ok (.newarray .int, 2) := by decide +kernel
theorem dX3_init_42 : decode cX3_init 42 = .ok (.putfield 24, 3) := by decide +kernel
theorem dX3_init_45 : decode cX3_init 45 = .ok (.aload_n 0, 1) := by decide +kernel
theorem dX3_init_46 : decode cX3_init 46 = .ok (.iconst 0, 1) := by decide +kernel
theorem dX3_init_47 : decode cX3_init 47 = .ok (.putfield 27, 3) := by decide +kernel
theorem dX3_init_50 : decode cX3_init 50 = .ok (.aload_n 0, 1) := by decide +kernel
theorem dX3_init_51 : decode cX3_init 51 = .ok (.iconst 0, 1) := by decide +kernel
theorem dX3_init_52 : decode cX3_init 52 = .ok (.putfield 31, 3) := by decide +kernel
theorem dX3_init_55 : decode cX3_init 55 = .ok (.aload_n 0, 1) := by decide +kernel
theorem dX3_init_56 : decode cX3_init 56 = .ok (.iconst 0, 1) := by decide +kernel
theorem dX3_init_57 : decode cX3_init 57 = .ok (.putfield 34, 3) := by decide +kernel
theorem dX3_init_60 : decode cX3_init 60 = .ok (.aload_n 0, 1) := by decide +kernel
theorem dX3_init_61 : decode cX3_init 61 = .ok (.iconst 0, 1) := by decide +kernel
theorem dX3_init_62 : decode cX3_init 62 = .ok (.putfield 37, 3) := by decide +kernel
theorem dX3_init_65 : decode cX3_init 65 = .ok (.aload_n 0, 1) := by decide +kernel
theorem dX3_init_66 : decode cX3_init 66 = .ok (.iconst 0, 1) := by decide +kernel
theorem dX3_init_67 : decode cX3_init 67 = .ok (.putfield 40, 3) := by decide +kernel
theorem dX3_init_70 : decode cX3_init 70 = .ok (.iconst 0, 1) := by decide +kernel
theorem dX3_init_71 : decode cX3_init 71 = .ok (.istore_n 1, 1) := by decide +kernel
theorem dX3_init_72 : decode cX3_init 72 = .ok (.iload_n 1, 1) := by decide +kernel
theorem dX3_init_73 : decode cX3_init 73 = .ok (.bipush 26, 2) := by decide +kernel
theorem dX3_init_75 : decode cX3_init 75 = .ok (.if_icmp .ge 18, 3) := by decide +kernel
theorem dX3_init_78 : decode cX3_init 78 = .ok (.aload_n 0, 1) := by decide +kernel
theorem dX3_init_79 : decode cX3_init 79 = .ok (.getfield 15, 3) := by decide +kernel
theorem dX3_init_82 : decode cX3_init 82 = .ok (.iload_n 1, 1) := by decide +kernel
theorem dX3_init_83 : decode cX3_init 83 = .ok (.sipush 160, 3) := by decide +kernel
theorem dX3_init_86 : decode cX3_init 86 = .ok (.iastore, 1) := by decide +kernel
theorem dX3_init_87 : decode cX3_init 87 = .ok (.iinc 1 1, 3) := by decide +kernel
theorem dX3_init_90 : decode cX3_init 90 = .ok (.goto (-18), 3) := by decide +kernel
theorem dX3_init_93 : decode cX3_init 93 = .ok (.return_, 1) := by decide +kernel
theorem dX3_append_0 : decode cX3_append 0 = .ok (.aload_n 0, 1) := by decide +kernel
theorem dX3_append_1 : decode cX3_append 1 = .ok (.getfield 27, 3) := by decide +kernel
theorem dX3_append_4 : decode cX3_append 4 = .ok (.bipush 24, 2) := by decide +kernel
theorem dX3_append_6 : decode cX3_append 6 = .ok (.if_icmp .ge 30, 3) := by decide +kernel
theorem dX3_append_9 : decode cX3_append 9 = .ok (.iload_n 1, 1) := by decide +kernel
theorem dX3_append_10 : decode cX3_append 10 = .ok (.invokestatic 43, 3) := by decide +kernel
theorem dX3_append_13 : decode cX3_append 13 = .ok (.ifCond .eq 23, 3) := by decide +kernel
theorem dX3_append_16 : decode cX3_append 16 = .ok (.aload_n 0, 1) := by decide +kernel
theorem dX3_append_17 : decode cX3_append 17 = .ok (.getfield 9, 3) := by decide +kernel
theorem dX3_append_20 : decode cX3_append 20 = .ok (.aload_n 0, 1) := by decide +kernel
theorem dX3_append_21 : decode cX3_append 21 = .ok (.getfield 27, 3) := by decide +kernel
theorem dX3_append_24 : decode cX3_append 24 = .ok (.iload_n 1, 1) := by decide +kernel
theorem dX3_append_25 : decode cX3_append 25 = .ok (.iastore, 1) := by decide +kernel
theorem dX3_append_26 : decode cX3_append 26 = .ok (.aload_n 0, 1) := by decide +kernel
theorem dX3_append_27 : decode cX3_append 27 = .ok (.dup, 1) := by decide +kernel
theorem dX3_append_28 : decode cX3_append 28 = .ok (.getfield 27, 3) := by decide +kernel
theorem dX3_append_31 : decode cX3_append 31 = .ok (.iconst 1, 1) := by decide +kernel
theorem dX3_append_32 : decode cX3_append 32 = .ok (.iadd, 1) := by decide +kernel
theorem dX3_append_33 : decode cX3_append 33 = .ok (.putfield 27, 3) := by decide +kernel
theorem dX3_append_36 : decode cX3_append 36 = .ok (.return_, 1) := by decide +kernel
theorem dX3_changeWidth_0 : decode cX3_changeWidth 0 = .ok (.iload_n 1, 1) := by decide +kernel
theorem dX3_changeWidth_1 : decode cX3_changeWidth 1 = .ok (.invokestatic 43, 3) := by decide +kernel
theorem dX3_changeWidth_4 : decode cX3_changeWidth 4 = .ok (.ifCond .ne 6, 3) := by decide +kernel
theorem dX3_changeWidth_7 : decode cX3_changeWidth 7 = .ok (.ldc 47, 2) := by decide +kernel
theorem dX3_changeWidth_9 : decode cX3_changeWidth 9 = .ok (.ireturn, 1) := by decide +kernel
theorem dX3_changeWidth_10 : decode cX3_changeWidth 10 = .ok (.aload_n 0, 1) := by decide +kernel
theorem dX3_changeWidth_11 : decode cX3_changeWidth 11 = .ok (.getfield 15, 3) := by decide +kernel
theorem dX3_changeWidth_14 : decode cX3_changeWidth 14 = .ok (.iload_n 1, 1) := by decide +kernel
theorem dX3_changeWidth_15 : decode cX3_changeWidth 15 = .ok (.iaload, 1) := by decide +kernel
theorem dX3_changeWidth_16 : decode cX3_changeWidth 16 = .ok (.istore_n 3, 1) := by decide +kernel
theorem dX3_changeWidth_17 : decode cX3_changeWidth 17 = .ok (.aload_n 0, 1) := by decide +kernel
theorem dX3_changeWidth_18 : decode cX3_changeWidth 18 = .ok (.getfield 15, 3) := by decide +kernel
theorem dX3_changeWidth_21 : decode cX3_changeWidth 21 = .ok (.iload_n 1, 1) := by decide +kernel
theorem dX3_changeWidth_22 : decode cX3_changeWidth 22 = .ok (.iload_n 2, 1) := by decide +kernel
theorem dX3_changeWidth_23 : decode cX3_changeWidth 23 = .ok (.iastore, 1) := by decide +kernel
theorem dX3_changeWidth_24 : decode cX3_changeWidth 24 = .ok (.iload_n 3, 1) := by decide +kernel
theorem dX3_changeWidth_25 : decode cX3_changeWidth 25 = .ok (.ireturn, 1) := by decide +kernel
theorem dX3_kerningOf_0 : decode cX3_kerningOf 0 = .ok (.iload_n 1, 1) := by decide +kernel
theorem dX3_kerningOf_1 : decode cX3_kerningOf 1 = .ok (.invokestatic 43, 3) := by decide +kernel
theorem dX3_kerningOf_4 : decode cX3_kerningOf 4 = .ok (.ifCond .eq 24, 3) := by decide +kernel
theorem dX3_kerningOf_7 : decode cX3_kerningOf 7 = .ok (.iload_n 2, 1) := by decide +kernel
theorem dX3_kerningOf_8 : decode cX3_kerningOf 8 = .ok (.invokestatic 43, 3) := by decide +kernel
theorem dX3_kerningOf_11 : decode cX3_kerningOf 11 = .ok (.ifCond .eq 17, 3) := by decide +kernel
theorem dX3_kerningOf_14 : decode cX3_kerningOf 14 = .ok (.aload_n 0, 1) := by decide +kernel
theorem dX3_kerningOf_15 : decode cX3_kerningOf 15 = .ok (.getfield 18, 3) := by decide +kernel
theorem dX3_kerningOf_18 : decode cX3_kerningOf 18 = .ok (.iload_n 1, 1) := by decide +kernel
theorem dX3_kerningOf_19 : decode cX3_kerningOf 19 = .ok (.bipush 26, 2) := by decide +kernel
theorem dX3_kerningOf_21 : decode cX3_kerningOf 21 = .ok (.imul, 1) := by decide +kernel
theorem dX3_kerningOf_22 : decode cX3_kerningOf 22 = .ok (.iload_n 2, 1) := by decide +kernel
theorem dX3_kerningOf_23 : decode cX3_kerningOf 23 = .ok (.iadd, 1) := by decide +kernel
theorem dX3_kerningOf_24 : decode cX3_kerningOf 24 = .ok (.iaload, 1) := by decide +kernel
theorem dX3_kerningOf_25 : decode cX3_kerningOf 25 = .ok (.goto 4, 3) := by decide +kernel
theorem dX3_kerningOf_28 : decode cX3_kerningOf 28 = .ok (.iconst 0, 1) := by decide +kernel
theorem dX3_kerningOf_29 : decode cX3_kerningOf 29 = .ok (.ireturn, 1) := by decide +kernel
theorem dX3_pairsBeside_0 : decode cX3_pairsBeside 0 = .ok (.aload_n 0, 1) := by decide +kernel
theorem dX3_pairsBeside_1 : decode cX3_pairsBeside 1 = .ok (.iload_n 1, 1) := by decide +kernel
theorem dX3_pairsBeside_2 : decode cX3_pairsBeside 2 = .ok (.iload_n 2, 1) := by decide +kernel
theorem dX3_pairsBeside_3 : decode cX3_pairsBeside 3 = .ok (.invokevirtual 48, 3) := by decide +kernel
theorem dX3_pairsBeside_6 : decode cX3_pairsBeside 6 = .ok (.ifCond .ne 10, 3) := by decide +kernel
theorem dX3_pairsBeside_9 : decode cX3_pairsBeside 9 = .ok (.aload_n 0, 1) := by decide +kernel
theorem dX3_pairsBeside_10 : decode cX3_pairsBeside 10 = .ok (.getfield 31, 3) := by decide +kernel
theorem dX3_pairsBeside_13 : decode cX3_pairsBeside 13 = .ok (.goto 9, 3) := by decide +kernel
theorem dX3_pairsBeside_16 : decode cX3_pairsBeside 16 = .ok (.aload_n 0, 1) := by decide +kernel
theorem dX3_pairsBeside_17 : decode cX3_pairsBeside 17 = .ok (.getfield 31, 3) := by decide +kernel
theorem dX3_pairsBeside_20 : decode cX3_pairsBeside 20 = .ok (.iconst 1, 1) := by decide +kernel
theorem dX3_pairsBeside_21 : decode cX3_pairsBeside 21 = .ok (.isub, 1) := by decide +kernel
theorem dX3_pairsBeside_22 : decode cX3_pairsBeside 22 = .ok (.ireturn, 1) := by decide +kernel
theorem dX3_changeKerning_0 : decode cX3_changeKerning 0 = .ok (.iload_n 1, 1) := by decide +kernel
theorem dX3_changeKerning_1 : decode cX3_changeKerning 1 = .ok (.invokestatic 43, 3) := by decide +kernel
theorem dX3_changeKerning_4 : decode cX3_changeKerning 4 = .ok (.ifCond .eq 10, 3) := by decide +kernel
theorem dX3_changeKerning_7 : decode cX3_changeKerning 7 = .ok (.iload_n 2, 1) := by decide +kernel
theorem dX3_changeKerning_8 : decode cX3_changeKerning 8 = .ok (.invokestatic 43, 3) := by decide +kernel
theorem dX3_changeKerning_11 : decode cX3_changeKerning 11 = .ok (.ifCond .ne 6, 3) := by decide +kernel
theorem dX3_changeKerning_14 : decode cX3_changeKerning 14 = .ok (.ldc 47, 2) := by decide +kernel
theorem dX3_changeKerning_16 : decode cX3_changeKerning 16 = .ok (.ireturn, 1) := by decide +kernel
theorem dX3_changeKerning_17 : decode cX3_changeKerning 17 = .ok (.aload_n 0, 1) := by decide +kernel
theorem dX3_changeKerning_18 : decode cX3_changeKerning 18 = .ok (.aload_n 0, 1) := by decide +kernel
theorem dX3_changeKerning_19 : decode cX3_changeKerning 19 = .ok (.iload_n 1, 1) := by decide +kernel
theorem dX3_changeKerning_20 : decode cX3_changeKerning 20 = .ok (.iload_n 2, 1) := by decide +kernel
theorem dX3_changeKerning_21 : decode cX3_changeKerning 21 = .ok (.invokevirtual 52, 3) := by decide +kernel
theorem dX3_changeKerning_24 : decode cX3_changeKerning 24 = .ok (.iload_n 3, 1) := by decide +kernel
theorem dX3_changeKerning_25 : decode cX3_changeKerning 25 = .ok (.ifCond .ne 7, 3) := by decide +kernel
theorem dX3_changeKerning_28 : decode cX3_changeKerning 28 = .ok (.iconst 0, 1) := by decide +kernel
theorem dX3_changeKerning_29 : decode cX3_changeKerning 29 = .ok (.goto 4, 3) := by decide +kernel
theorem dX3_changeKerning_32 : decode cX3_changeKerning 32 = .ok (.iconst 1, 1) := by decide +kernel
theorem dX3_changeKerning_33 : decode cX3_changeKerning 33 = .ok (.iadd, 1) := by decide +kernel
theorem dX3_changeKerning_34 : decode cX3_changeKerning 34 = .ok (.putfield 31, 3) := by decide +kernel
theorem dX3_changeKerning_37 : decode cX3_changeKerning 37 = .ok (.aload_n 0, 1) := by decide +kernel
theorem dX3_changeKerning_38 : decode cX3_changeKerning 38 = .ok (.getfield 18, 3) := by decide +kernel
theorem dX3_changeKerning_41 : decode cX3_changeKerning 41 = .ok (.iload_n 1, 1) := by decide +kernel
theorem dX3_changeKerning_42 : decode cX3_changeKerning 42 = .ok (.bipush 26, 2) := by decide +kernel
theorem dX3_changeKerning_44 : decode cX3_changeKerning 44 = .ok (.imul, 1) := by decide +kernel
theorem dX3_changeKerning_45 : decode cX3_changeKerning 45 = .ok (.iload_n 2, 1) := by decide +kernel
theorem dX3_changeKerning_46 : decode cX3_changeKerning 46 = .ok (.iadd, 1) := by decide +kernel
theorem dX3_changeKerning_47 : decode cX3_changeKerning 47 = .ok (.iload_n 3, 1) := by decide +kernel
theorem dX3_changeKerning_48 : decode cX3_changeKerning 48 = .ok (.iastore, 1) := by decide +kernel
theorem dX3_changeKerning_49 : decode cX3_changeKerning 49 = .ok (.aload_n 0, 1) := by decide +kernel
theorem dX3_changeKerning_50 : decode cX3_changeKerning 50 = .ok (.getfield 31, 3) := by decide +kernel
theorem dX3_changeKerning_53 : decode cX3_changeKerning 53 = .ok (.ireturn, 1) := by decide +kernel
theorem dX3_letterAt_0 : decode cX3_letterAt 0 = .ok (.iload_n 1, 1) := by decide +kernel
theorem dX3_letterAt_1 : decode cX3_letterAt 1 = .ok (.ifCond .lt 20, 3) := by decide +kernel
theorem dX3_letterAt_4 : decode cX3_letterAt 4 = .ok (.iload_n 1, 1) := by decide +kernel
theorem dX3_letterAt_5 : decode cX3_letterAt 5 = .ok (.aload_n 0, 1) := by decide +kernel
theorem dX3_letterAt_6 : decode cX3_letterAt 6 = .ok (.getfield 27, 3) := by decide +kernel
theorem dX3_letterAt_9 : decode cX3_letterAt 9 = .ok (.if_icmp .ge 12, 3) := by decide +kernel
theorem dX3_letterAt_12 : decode cX3_letterAt 12 = .ok (.aload_n 0, 1) := by decide +kernel
theorem dX3_letterAt_13 : decode cX3_letterAt 13 = .ok (.getfield 9, 3) := by decide +kernel
theorem dX3_letterAt_16 : decode cX3_letterAt 16 = .ok (.iload_n 1, 1) := by decide +kernel
theorem dX3_letterAt_17 : decode cX3_letterAt 17 = .ok (.iaload, 1) := by decide +kernel
theorem dX3_letterAt_18 : decode cX3_letterAt 18 = .ok (.goto 4, 3) := by decide +kernel
theorem dX3_letterAt_21 : decode cX3_letterAt 21 = .ok (.iconst (-1), 1) := by decide +kernel
theorem dX3_letterAt_22 : decode cX3_letterAt 22 = .ok (.ireturn, 1) := by decide +kernel
theorem dX3_widthAt_0 : decode cX3_widthAt 0 = .ok (.aload_n 0, 1) := by decide +kernel
theorem dX3_widthAt_1 : decode cX3_widthAt 1 = .ok (.iload_n 1, 1) := by decide +kernel
theorem dX3_widthAt_2 : decode cX3_widthAt 2 = .ok (.invokevirtual 55, 3) := by decide +kernel
theorem dX3_widthAt_5 : decode cX3_widthAt 5 = .ok (.istore_n 2, 1) := by decide +kernel
theorem dX3_widthAt_6 : decode cX3_widthAt 6 = .ok (.iload_n 2, 1) := by decide +kernel
theorem dX3_widthAt_7 : decode cX3_widthAt 7 = .ok (.invokestatic 43, 3) := by decide +kernel
theorem dX3_widthAt_10 : decode cX3_widthAt 10 = .ok (.ifCond .eq 12, 3) := by decide +kernel
theorem dX3_widthAt_13 : decode cX3_widthAt 13 = .ok (.aload_n 0, 1) := by decide +kernel
theorem dX3_widthAt_14 : decode cX3_widthAt 14 = .ok (.getfield 15, 3) := by decide +kernel
theorem dX3_widthAt_17 : decode cX3_widthAt 17 = .ok (.iload_n 2, 1) := by decide +kernel
theorem dX3_widthAt_18 : decode cX3_widthAt 18 = .ok (.iaload, 1) := by decide +kernel
theorem dX3_widthAt_19 : decode cX3_widthAt 19 = .ok (.goto 4, 3) := by decide +kernel
theorem dX3_widthAt_22 : decode cX3_widthAt 22 = .ok (.iconst 0, 1) := by decide +kernel
theorem dX3_widthAt_23 : decode cX3_widthAt 23 = .ok (.ireturn, 1) := by decide +kernel
theorem dX3_stepAfter_0 : decode cX3_stepAfter 0 = .ok (.aload_n 0, 1) := by decide +kernel
theorem dX3_stepAfter_1 : decode cX3_stepAfter 1 = .ok (.iload_n 1, 1) := by decide +kernel
theorem dX3_stepAfter_2 : decode cX3_stepAfter 2 = .ok (.invokevirtual 59, 3) := by decide +kernel
theorem dX3_stepAfter_5 : decode cX3_stepAfter 5 = .ok (.aload_n 0, 1) := by decide +kernel
theorem dX3_stepAfter_6 : decode cX3_stepAfter 6 = .ok (.getfield 37, 3) := by decide +kernel
theorem dX3_stepAfter_9 : decode cX3_stepAfter 9 = .ok (.iadd, 1) := by decide +kernel
theorem dX3_stepAfter_10 : decode cX3_stepAfter 10 = .ok (.aload_n 0, 1) := by decide +kernel
theorem dX3_stepAfter_11 : decode cX3_stepAfter 11 = .ok (.aload_n 0, 1) := by decide +kernel
theorem dX3_stepAfter_12 : decode cX3_stepAfter 12 = .ok (.iload_n 1, 1) := by decide +kernel
theorem dX3_stepAfter_13 : decode cX3_stepAfter 13 = .ok (.invokevirtual 55, 3) := by decide +kernel
theorem dX3_stepAfter_16 : decode cX3_stepAfter 16 = .ok (.aload_n 0, 1) := by decide +kernel
theorem dX3_stepAfter_17 : decode cX3_stepAfter 17 = .ok (.iload_n 1, 1) := by decide +kernel
theorem dX3_stepAfter_18 : decode cX3_stepAfter 18 = .ok (.iconst 1, 1) := by decide +kernel
theorem dX3_stepAfter_19 : decode cX3_stepAfter 19 = .ok (.iadd, 1) := by decide +kernel
theorem dX3_stepAfter_20 : decode cX3_stepAfter 20 = .ok (.invokevirtual 55, 3) := by decide +kernel
theorem dX3_stepAfter_23 : decode cX3_stepAfter 23 = .ok (.invokevirtual 48, 3) := by decide +kernel
theorem dX3_stepAfter_26 : decode cX3_stepAfter 26 = .ok (.iadd, 1) := by decide +kernel
theorem dX3_stepAfter_27 : decode cX3_stepAfter 27 = .ok (.ireturn, 1) := by decide +kernel
theorem dX3_layOn_0 : decode cX3_layOn 0 = .ok (.aload_n 0, 1) := by decide +kernel
theorem dX3_layOn_1 : decode cX3_layOn 1 = .ok (.getfield 40, 3) := by decide +kernel
theorem dX3_layOn_4 : decode cX3_layOn 4 = .ok (.iconst 3, 1) := by decide +kernel
theorem dX3_layOn_5 : decode cX3_layOn 5 = .ok (.if_icmp .ne 12, 3) := by decide +kernel
theorem dX3_layOn_8 : decode cX3_layOn 8 = .ok (.aload_n 0, 1) := by decide +kernel
theorem dX3_layOn_9 : decode cX3_layOn 9 = .ok (.aload_n 1, 1) := by decide +kernel
theorem dX3_layOn_10 : decode cX3_layOn 10 = .ok (.iload_n 2, 1) := by decide +kernel
theorem dX3_layOn_11 : decode cX3_layOn 11 = .ok (.invokevirtual 62, 3) := by decide +kernel
theorem dX3_layOn_14 : decode cX3_layOn 14 = .ok (.goto 9, 3) := by decide +kernel
theorem dX3_layOn_17 : decode cX3_layOn 17 = .ok (.aload_n 0, 1) := by decide +kernel
theorem dX3_layOn_18 : decode cX3_layOn 18 = .ok (.aload_n 1, 1) := by decide +kernel
theorem dX3_layOn_19 : decode cX3_layOn 19 = .ok (.iload_n 2, 1) := by decide +kernel
theorem dX3_layOn_20 : decode cX3_layOn 20 = .ok (.invokevirtual 66, 3) := by decide +kernel
theorem dX3_layOn_23 : decode cX3_layOn 23 = .ok (.return_, 1) := by decide +kernel
theorem dX3_layOnOne_0 : decode cX3_layOnOne 0 = .ok (.aload_n 1, 1) := by decide +kernel
theorem dX3_layOnOne_1 : decode cX3_layOnOne 1 = .ok (.iload_n 2, 1) := by decide +kernel
theorem dX3_layOnOne_2 : decode cX3_layOnOne 2 = .ok (.invokevirtual 69, 3) := by decide +kernel
theorem dX3_layOnOne_5 : decode cX3_layOnOne 5 = .ok (.istore_n 3, 1) := by decide +kernel
theorem dX3_layOnOne_6 : decode cX3_layOnOne 6 = .ok (.aload_n 0, 1) := by decide +kernel
theorem dX3_layOnOne_7 : decode cX3_layOnOne 7 = .ok (.getfield 40, 3) := by decide +kernel
theorem dX3_layOnOne_10 : decode cX3_layOnOne 10 = .ok (.iconst 2, 1) := by decide +kernel
theorem dX3_layOnOne_11 : decode cX3_layOnOne 11 = .ok (.if_icmp .ne 19, 3) := by decide +kernel
theorem dX3_layOnOne_14 : decode cX3_layOnOne 14 = .ok (.aload_n 1, 1) := by decide +kernel
theorem dX3_layOnOne_15 : decode cX3_layOnOne 15 = .ok (.iload_n 2, 1) := by decide +kernel
theorem dX3_layOnOne_16 : decode cX3_layOnOne 16 = .ok (.invokevirtual 74, 3) := by decide +kernel
theorem dX3_layOnOne_19 : decode cX3_layOnOne 19 = .ok (.ifCond .eq 11, 3) := by decide +kernel
theorem dX3_layOnOne_22 : decode cX3_layOnOne 22 = .ok (.iload_n 3, 1) := by decide +kernel
theorem dX3_layOnOne_23 : decode cX3_layOnOne 23 = .ok (.ifCond .eq 7, 3) := by decide +kernel
theorem dX3_layOnOne_26 : decode cX3_layOnOne 26 = .ok (.iconst 1, 1) := by decide +kernel
theorem dX3_layOnOne_27 : decode cX3_layOnOne 27 = .ok (.goto 4, 3) := by decide +kernel
theorem dX3_layOnOne_30 : decode cX3_layOnOne 30 = .ok (.iconst 0, 1) := by decide +kernel
theorem dX3_layOnOne_31 : decode cX3_layOnOne 31 = .ok (.istore 4, 2) := by decide +kernel
theorem dX3_layOnOne_33 : decode cX3_layOnOne 33 = .ok (.aload_n 0, 1) := by decide +kernel
theorem dX3_layOnOne_34 : decode cX3_layOnOne 34 = .ok (.invokevirtual 77, 3) := by decide +kernel
theorem dX3_layOnOne_37 : decode cX3_layOnOne 37 = .ok (.istore 5, 2) := by decide +kernel
theorem dX3_layOnOne_39 : decode cX3_layOnOne 39 = .ok (.aload_n 0, 1) := by decide +kernel
theorem dX3_layOnOne_40 : decode cX3_layOnOne 40 = .ok (.getfield 40, 3) := by decide +kernel
theorem dX3_layOnOne_43 : decode cX3_layOnOne 43 = .ok (.iconst 1, 1) := by decide +kernel
theorem dX3_layOnOne_44 : decode cX3_layOnOne 44 = .ok (.if_icmp .ne 21, 3) := by decide +kernel
theorem dX3_layOnOne_47 : decode cX3_layOnOne 47 = .ok (.iload 5, 2) := by decide +kernel
theorem dX3_layOnOne_49 : decode cX3_layOnOne 49 = .ok (.iload_n 3, 1) := by decide +kernel
theorem dX3_layOnOne_50 : decode cX3_layOnOne 50 = .ok (.if_icmp .le 15, 3) := by decide +kernel
theorem dX3_layOnOne_53 : decode cX3_layOnOne 53 = .ok (.aload_n 0, 1) := by decide +kernel
theorem dX3_layOnOne_54 : decode cX3_layOnOne 54 = .ok (.getfield 34, 3) := by decide +kernel
theorem dX3_layOnOne_57 : decode cX3_layOnOne 57 = .ok (.iload_n 3, 1) := by decide +kernel
theorem dX3_layOnOne_58 : decode cX3_layOnOne 58 = .ok (.if_icmp .ge 7, 3) := by decide +kernel
theorem dX3_layOnOne_61 : decode cX3_layOnOne 61 = .ok (.iconst 1, 1) := by decide +kernel
theorem dX3_layOnOne_62 : decode cX3_layOnOne 62 = .ok (.goto 4, 3) := by decide +kernel
theorem dX3_layOnOne_65 : decode cX3_layOnOne 65 = .ok (.iconst 0, 1) := by decide +kernel
theorem dX3_layOnOne_66 : decode cX3_layOnOne 66 = .ok (.istore 6, 2) := by decide +kernel
theorem dX3_layOnOne_68 : decode cX3_layOnOne 68 = .ok (.aload_n 0, 1) := by decide +kernel
theorem dX3_layOnOne_69 : decode cX3_layOnOne 69 = .ok (.getfield 34, 3) := by decide +kernel
theorem dX3_layOnOne_72 : decode cX3_layOnOne 72 = .ok (.istore 7, 2) := by decide +kernel
theorem dX3_layOnOne_74 : decode cX3_layOnOne 74 = .ok (.iconst 0, 1) := by decide +kernel
theorem dX3_layOnOne_75 : decode cX3_layOnOne 75 = .ok (.istore 8, 2) := by decide +kernel
theorem dX3_layOnOne_77 : decode cX3_layOnOne 77 = .ok (.iload 8, 2) := by decide +kernel
theorem dX3_layOnOne_79 : decode cX3_layOnOne 79 = .ok (.aload_n 0, 1) := by decide +kernel
theorem dX3_layOnOne_80 : decode cX3_layOnOne 80 = .ok (.getfield 27, 3) := by decide +kernel
theorem dX3_layOnOne_83 : decode cX3_layOnOne 83 = .ok (.if_icmp .ge 116, 3) := by decide +kernel
theorem dX3_layOnOne_86 : decode cX3_layOnOne 86 = .ok (.iload 7, 2) := by decide +kernel
theorem dX3_layOnOne_88 : decode cX3_layOnOne 88 = .ok (.aload_n 0, 1) := by decide +kernel
theorem dX3_layOnOne_89 : decode cX3_layOnOne 89 = .ok (.iload 8, 2) := by decide +kernel
theorem dX3_layOnOne_91 : decode cX3_layOnOne 91 = .ok (.invokevirtual 59, 3) := by decide +kernel
theorem dX3_layOnOne_94 : decode cX3_layOnOne 94 = .ok (.iconst 2, 1) := by decide +kernel
theorem dX3_layOnOne_95 : decode cX3_layOnOne 95 = .ok (.idiv, 1) := by decide +kernel
theorem dX3_layOnOne_96 : decode cX3_layOnOne 96 = .ok (.iadd, 1) := by decide +kernel
theorem dX3_layOnOne_97 : decode cX3_layOnOne 97 = .ok (.istore 9, 2) := by decide +kernel
theorem dX3_layOnOne_99 : decode cX3_layOnOne 99 = .ok (.iload 4, 2) := by decide +kernel
theorem dX3_layOnOne_101 : decode cX3_layOnOne 101 = .ok (.ifCond .eq 14, 3) := by decide +kernel
theorem dX3_layOnOne_104 : decode cX3_layOnOne 104 = .ok (.iload 9, 2) := by decide +kernel
theorem dX3_layOnOne_106 : decode cX3_layOnOne 106 = .ok (.iload_n 3, 1) := by decide +kernel
theorem dX3_layOnOne_107 : decode cX3_layOnOne 107 = .ok (.invokestatic 81, 3) := by decide +kernel
theorem dX3_layOnOne_110 : decode cX3_layOnOne 110 = .ok (.istore 9, 2) := by decide +kernel
theorem dX3_layOnOne_112 : decode cX3_layOnOne 112 = .ok (.goto 19, 3) := by decide +kernel
theorem dX3_layOnOne_115 : decode cX3_layOnOne 115 = .ok (.iload 6, 2) := by decide +kernel
theorem dX3_layOnOne_117 : decode cX3_layOnOne 117 = .ok (.ifCond .eq 14, 3) := by decide +kernel
theorem dX3_layOnOne_120 : decode cX3_layOnOne 120 = .ok (.aload_n 0, 1) := by decide +kernel
theorem dX3_layOnOne_121 : decode cX3_layOnOne 121 = .ok (.iload 9, 2) := by decide +kernel
theorem dX3_layOnOne_123 : decode cX3_layOnOne 123 = .ok (.iload_n 3, 1) := by decide +kernel
theorem dX3_layOnOne_124 : decode cX3_layOnOne 124 = .ok (.iload 5, 2) := by decide +kernel
theorem dX3_layOnOne_126 : decode cX3_layOnOne 126 = .ok (.invokevirtual 86, 3) := by decide +kernel
theorem dX3_layOnOne_129 : decode cX3_layOnOne 129 = .ok (.istore 9, 2) := by decide +kernel
theorem dX3_layOnOne_131 : decode cX3_layOnOne 131 = .ok (.aload_n 1, 1) := by decide +kernel
theorem dX3_layOnOne_132 : decode cX3_layOnOne 132 = .ok (.iload_n 2, 1) := by decide +kernel
theorem dX3_layOnOne_133 : decode cX3_layOnOne 133 = .ok (.invokevirtual 90, 3) := by decide +kernel
theorem dX3_layOnOne_136 : decode cX3_layOnOne 136 = .ok (.ifCond .eq 17, 3) := by decide +kernel
theorem dX3_layOnOne_139 : decode cX3_layOnOne 139 = .ok (.iload 9, 2) := by decide +kernel
theorem dX3_layOnOne_141 : decode cX3_layOnOne 141 = .ok (.iconst 0, 1) := by decide +kernel
theorem dX3_layOnOne_142 : decode cX3_layOnOne 142 = .ok (.iload_n 3, 1) := by decide +kernel
theorem dX3_layOnOne_143 : decode cX3_layOnOne 143 = .ok (.invokestatic 93, 3) := by decide +kernel
theorem dX3_layOnOne_146 : decode cX3_layOnOne 146 = .ok (.ifCond .eq 7, 3) := by decide +kernel
theorem dX3_layOnOne_149 : decode cX3_layOnOne 149 = .ok (.iconst 1, 1) := by decide +kernel
theorem dX3_layOnOne_150 : decode cX3_layOnOne 150 = .ok (.goto 4, 3) := by decide +kernel
theorem dX3_layOnOne_153 : decode cX3_layOnOne 153 = .ok (.iconst 0, 1) := by decide +kernel
theorem dX3_layOnOne_154 : decode cX3_layOnOne 154 = .ok (.istore 10, 2) := by decide +kernel
theorem dX3_layOnOne_156 : decode cX3_layOnOne 156 = .ok (.aload_n 0, 1) := by decide +kernel
theorem dX3_layOnOne_157 : decode cX3_layOnOne 157 = .ok (.getfield 21, 3) := by decide +kernel
theorem dX3_layOnOne_160 : decode cX3_layOnOne 160 = .ok (.iload 8, 2) := by decide +kernel
theorem dX3_layOnOne_162 : decode cX3_layOnOne 162 = .ok (.iload 9, 2) := by decide +kernel
theorem dX3_layOnOne_164 : decode cX3_layOnOne 164 = .ok (.iastore, 1) := by decide +kernel
theorem dX3_layOnOne_165 : decode cX3_layOnOne 165 = .ok (.aload_n 0, 1) := by decide +kernel
theorem dX3_layOnOne_166 : decode cX3_layOnOne 166 = .ok (.getfield 24, 3) := by decide +kernel
theorem dX3_layOnOne_169 : decode cX3_layOnOne 169 = .ok (.iload 8, 2) := by decide +kernel
theorem dX3_layOnOne_171 : decode cX3_layOnOne 171 = .ok (.iload 10, 2) := by decide +kernel
theorem dX3_layOnOne_173 : decode cX3_layOnOne 173 = .ok (.ifCond .eq 7, 3) := by decide +kernel
theorem dX3_layOnOne_176 : decode cX3_layOnOne 176 = .ok (.iload_n 2, 1) := by decide +kernel
theorem dX3_layOnOne_177 : decode cX3_layOnOne 177 = .ok (.goto 4, 3) := by decide +kernel
theorem dX3_layOnOne_180 : decode cX3_layOnOne 180 = .ok (.iconst (-1), 1) := by decide +kernel
theorem dX3_layOnOne_181 : decode cX3_layOnOne 181 = .ok (.iastore, 1) := by decide +kernel
theorem dX3_layOnOne_182 : decode cX3_layOnOne 182 = .ok (.iload 7, 2) := by decide +kernel
theorem dX3_layOnOne_184 : decode cX3_layOnOne 184 = .ok (.aload_n 0, 1) := by decide +kernel
theorem dX3_layOnOne_185 : decode cX3_layOnOne 185 = .ok (.iload 8, 2) := by decide +kernel
theorem dX3_layOnOne_187 : decode cX3_layOnOne 187 = .ok (.invokevirtual 97, 3) := by decide +kernel
theorem dX3_layOnOne_190 : decode cX3_layOnOne 190 = .ok (.iadd, 1) := by decide +kernel
theorem dX3_layOnOne_191 : decode cX3_layOnOne 191 = .ok (.istore 7, 2) := by decide +kernel
theorem dX3_layOnOne_193 : decode cX3_layOnOne 193 = .ok (.iinc 8 1, 3) := by decide +kernel
theorem dX3_layOnOne_196 : decode cX3_layOnOne 196 = .ok (.goto (-119), 3) := by decide +kernel
theorem dX3_layOnOne_199 : decode cX3_layOnOne 199 = .ok (.return_, 1) := by decide +kernel
theorem dX3_endOfAll_0 : decode cX3_endOfAll 0 = .ok (.aload_n 0, 1) := by decide +kernel
theorem dX3_endOfAll_1 : decode cX3_endOfAll 1 = .ok (.getfield 34, 3) := by decide +kernel
theorem dX3_endOfAll_4 : decode cX3_endOfAll 4 = .ok (.istore_n 1, 1) := by decide +kernel
theorem dX3_endOfAll_5 : decode cX3_endOfAll 5 = .ok (.iconst 0, 1) := by decide +kernel
theorem dX3_endOfAll_6 : decode cX3_endOfAll 6 = .ok (.istore_n 2, 1) := by decide +kernel
theorem dX3_endOfAll_7 : decode cX3_endOfAll 7 = .ok (.iload_n 2, 1) := by decide +kernel
theorem dX3_endOfAll_8 : decode cX3_endOfAll 8 = .ok (.iconst 1, 1) := by decide +kernel
theorem dX3_endOfAll_9 : decode cX3_endOfAll 9 = .ok (.iadd, 1) := by decide +kernel
theorem dX3_endOfAll_10 : decode cX3_endOfAll 10 = .ok (.aload_n 0, 1) := by decide +kernel
theorem dX3_endOfAll_11 : decode cX3_endOfAll 11 = .ok (.getfield 27, 3) := by decide +kernel
theorem dX3_endOfAll_14 : decode cX3_endOfAll 14 = .ok (.if_icmp .ge 17, 3) := by decide +kernel
theorem dX3_endOfAll_17 : decode cX3_endOfAll 17 = .ok (.iload_n 1, 1) := by decide +kernel
theorem dX3_endOfAll_18 : decode cX3_endOfAll 18 = .ok (.aload_n 0, 1) := by decide +kernel
theorem dX3_endOfAll_19 : decode cX3_endOfAll 19 = .ok (.iload_n 2, 1) := by decide +kernel
theorem dX3_endOfAll_20 : decode cX3_endOfAll 20 = .ok (.invokevirtual 97, 3) := by decide +kernel
theorem dX3_endOfAll_23 : decode cX3_endOfAll 23 = .ok (.iadd, 1) := by decide +kernel
theorem dX3_endOfAll_24 : decode cX3_endOfAll 24 = .ok (.istore_n 1, 1) := by decide +kernel
theorem dX3_endOfAll_25 : decode cX3_endOfAll 25 = .ok (.iinc 2 1, 3) := by decide +kernel
theorem dX3_endOfAll_28 : decode cX3_endOfAll 28 = .ok (.goto (-21), 3) := by decide +kernel
theorem dX3_endOfAll_31 : decode cX3_endOfAll 31 = .ok (.aload_n 0, 1) := by decide +kernel
theorem dX3_endOfAll_32 : decode cX3_endOfAll 32 = .ok (.getfield 27, 3) := by decide +kernel
theorem dX3_endOfAll_35 : decode cX3_endOfAll 35 = .ok (.ifCond .ne 7, 3) := by decide +kernel
theorem dX3_endOfAll_38 : decode cX3_endOfAll 38 = .ok (.iload_n 1, 1) := by decide +kernel
theorem dX3_endOfAll_39 : decode cX3_endOfAll 39 = .ok (.goto 15, 3) := by decide +kernel
theorem dX3_endOfAll_42 : decode cX3_endOfAll 42 = .ok (.iload_n 1, 1) := by decide +kernel
theorem dX3_endOfAll_43 : decode cX3_endOfAll 43 = .ok (.aload_n 0, 1) := by decide +kernel
theorem dX3_endOfAll_44 : decode cX3_endOfAll 44 = .ok (.aload_n 0, 1) := by decide +kernel
theorem dX3_endOfAll_45 : decode cX3_endOfAll 45 = .ok (.getfield 27, 3) := by decide +kernel
theorem dX3_endOfAll_48 : decode cX3_endOfAll 48 = .ok (.iconst 1, 1) := by decide +kernel
theorem dX3_endOfAll_49 : decode cX3_endOfAll 49 = .ok (.isub, 1) := by decide +kernel
theorem dX3_endOfAll_50 : decode cX3_endOfAll 50 = .ok (.invokevirtual 59, 3) := by decide +kernel
theorem dX3_endOfAll_53 : decode cX3_endOfAll 53 = .ok (.iadd, 1) := by decide +kernel
theorem dX3_endOfAll_54 : decode cX3_endOfAll 54 = .ok (.ireturn, 1) := by decide +kernel
theorem dX3_squeeze_0 : decode cX3_squeeze 0 = .ok (.iload_n 3, 1) := by decide +kernel
theorem dX3_squeeze_1 : decode cX3_squeeze 1 = .ok (.aload_n 0, 1) := by decide +kernel
theorem dX3_squeeze_2 : decode cX3_squeeze 2 = .ok (.getfield 34, 3) := by decide +kernel
theorem dX3_squeeze_5 : decode cX3_squeeze 5 = .ok (.isub, 1) := by decide +kernel
theorem dX3_squeeze_6 : decode cX3_squeeze 6 = .ok (.istore 4, 2) := by decide +kernel
theorem dX3_squeeze_8 : decode cX3_squeeze 8 = .ok (.iload 4, 2) := by decide +kernel
theorem dX3_squeeze_10 : decode cX3_squeeze 10 = .ok (.ifCond .gt 5, 3) := by decide +kernel
theorem dX3_squeeze_13 : decode cX3_squeeze 13 = .ok (.iload_n 1, 1) := by decide +kernel
theorem dX3_squeeze_14 : decode cX3_squeeze 14 = .ok (.ireturn, 1) := by decide +kernel
theorem dX3_squeeze_15 : decode cX3_squeeze 15 = .ok (.aload_n 0, 1) := by decide +kernel
theorem dX3_squeeze_16 : decode cX3_squeeze 16 = .ok (.getfield 34, 3) := by decide +kernel
theorem dX3_squeeze_19 : decode cX3_squeeze 19 = .ok (.iload_n 1, 1) := by decide +kernel
theorem dX3_squeeze_20 : decode cX3_squeeze 20 = .ok (.aload_n 0, 1) := by decide +kernel
theorem dX3_squeeze_21 : decode cX3_squeeze 21 = .ok (.getfield 34, 3) := by decide +kernel
theorem dX3_squeeze_24 : decode cX3_squeeze 24 = .ok (.isub, 1) := by decide +kernel
theorem dX3_squeeze_25 : decode cX3_squeeze 25 = .ok (.i2l, 1) := by decide +kernel
theorem dX3_squeeze_26 : decode cX3_squeeze 26 = .ok (.iload_n 2, 1) := by decide +kernel
theorem dX3_squeeze_27 : decode cX3_squeeze 27 = .ok (.aload_n 0, 1) := by decide +kernel
theorem dX3_squeeze_28 : decode cX3_squeeze 28 = .ok (.getfield 34, 3) := by decide +kernel
theorem dX3_squeeze_31 : decode cX3_squeeze 31 = .ok (.isub, 1) := by decide +kernel
theorem dX3_squeeze_32 : decode cX3_squeeze 32 = .ok (.i2l, 1) := by decide +kernel
theorem dX3_squeeze_33 : decode cX3_squeeze 33 = .ok (.lmul, 1) := by decide +kernel
theorem dX3_squeeze_34 : decode cX3_squeeze 34 = .ok (.iload 4, 2) := by decide +kernel
theorem dX3_squeeze_36 : decode cX3_squeeze 36 = .ok (.i2l, 1) := by decide +kernel
theorem dX3_squeeze_37 : decode cX3_squeeze 37 = .ok (.ldiv, 1) := by decide +kernel
theorem dX3_squeeze_38 : decode cX3_squeeze 38 = .ok (.l2i, 1) := by decide +kernel
theorem dX3_squeeze_39 : decode cX3_squeeze 39 = .ok (.iadd, 1) := by decide +kernel
theorem dX3_squeeze_40 : decode cX3_squeeze 40 = .ok (.ireturn, 1) := by decide +kernel
theorem dX3_layMovingOn_0 : decode cX3_layMovingOn 0 = .ok (.iload_n 2, 1) := by decide +kernel
theorem dX3_layMovingOn_1 : decode cX3_layMovingOn 1 = .ok (.istore_n 3, 1) := by decide +kernel
theorem dX3_layMovingOn_2 : decode cX3_layMovingOn 2 = .ok (.aload_n 0, 1) := by decide +kernel
theorem dX3_layMovingOn_3 : decode cX3_layMovingOn 3 = .ok (.getfield 34, 3) := by decide +kernel
theorem dX3_layMovingOn_6 : decode cX3_layMovingOn 6 = .ok (.istore 4, 2) := by decide +kernel
theorem dX3_layMovingOn_8 : decode cX3_layMovingOn 8 = .ok (.iconst 0, 1) := by decide +kernel
theorem dX3_layMovingOn_9 : decode cX3_layMovingOn 9 = .ok (.istore 5, 2) := by decide +kernel
theorem dX3_layMovingOn_11 : decode cX3_layMovingOn 11 = .ok (.iload 5, 2) := by decide +kernel
theorem dX3_layMovingOn_13 : decode cX3_layMovingOn 13 = .ok (.aload_n 0, 1) := by decide +kernel
theorem dX3_layMovingOn_14 : decode cX3_layMovingOn 14 = .ok (.getfield 27, 3) := by decide +kernel
theorem dX3_layMovingOn_17 : decode cX3_layMovingOn 17 = .ok (.if_icmp .ge 109, 3) := by decide +kernel
theorem dX3_layMovingOn_20 : decode cX3_layMovingOn 20 = .ok (.aload_n 0, 1) := by decide +kernel
theorem dX3_layMovingOn_21 : decode cX3_layMovingOn 21 = .ok (.iload 5, 2) := by decide +kernel
theorem dX3_layMovingOn_23 : decode cX3_layMovingOn 23 = .ok (.invokevirtual 59, 3) := by decide +kernel
theorem dX3_layMovingOn_26 : decode cX3_layMovingOn 26 = .ok (.istore 6, 2) := by decide +kernel
theorem dX3_layMovingOn_28 : decode cX3_layMovingOn 28 = .ok (.iload_n 3, 1) := by decide +kernel
theorem dX3_layMovingOn_29 : decode cX3_layMovingOn 29 = .ok (.aload_n 1, 1) := by decide +kernel
theorem dX3_layMovingOn_30 : decode cX3_layMovingOn 30 = .ok (.getfield 100, 3) := by decide +kernel
theorem dX3_layMovingOn_33 : decode cX3_layMovingOn 33 = .ok (.if_icmp .ge 33, 3) := by decide +kernel
theorem dX3_layMovingOn_36 : decode cX3_layMovingOn 36 = .ok (.aload_n 1, 1) := by decide +kernel
theorem dX3_layMovingOn_37 : decode cX3_layMovingOn 37 = .ok (.iload_n 3, 1) := by decide +kernel
theorem dX3_layMovingOn_38 : decode cX3_layMovingOn 38 = .ok (.invokevirtual 90, 3) := by decide +kernel
theorem dX3_layMovingOn_41 : decode cX3_layMovingOn 41 = .ok (.ifCond .eq 16, 3) := by decide +kernel
theorem dX3_layMovingOn_44 : decode cX3_layMovingOn 44 = .ok (.iload 4, 2) := by decide +kernel
theorem dX3_layMovingOn_46 : decode cX3_layMovingOn 46 = .ok (.iload 6, 2) := by decide +kernel
theorem dX3_layMovingOn_48 : decode cX3_layMovingOn 48 = .ok (.iadd, 1) := by decide +kernel
theorem dX3_layMovingOn_49 : decode cX3_layMovingOn 49 = .ok (.aload_n 1, 1) := by decide +kernel
theorem dX3_layMovingOn_50 : decode cX3_layMovingOn 50 = .ok (.iload_n 3, 1) := by decide +kernel
theorem dX3_layMovingOn_51 : decode cX3_layMovingOn 51 = .ok (.invokevirtual 69, 3) := by decide +kernel
theorem dX3_layMovingOn_54 : decode cX3_layMovingOn 54 = .ok (.if_icmp .le 12, 3) := by decide +kernel
theorem dX3_layMovingOn_57 : decode cX3_layMovingOn 57 = .ok (.iinc 3 1, 3) := by decide +kernel
theorem dX3_layMovingOn_60 : decode cX3_layMovingOn 60 = .ok (.iconst 0, 1) := by decide +kernel
theorem dX3_layMovingOn_61 : decode cX3_layMovingOn 61 = .ok (.istore 4, 2) := by decide +kernel
theorem dX3_layMovingOn_63 : decode cX3_layMovingOn 63 = .ok (.goto (-35), 3) := by decide +kernel
theorem dX3_layMovingOn_66 : decode cX3_layMovingOn 66 = .ok (.iload 4, 2) := by decide +kernel
theorem dX3_layMovingOn_68 : decode cX3_layMovingOn 68 = .ok (.iload 6, 2) := by decide +kernel
theorem dX3_layMovingOn_70 : decode cX3_layMovingOn 70 = .ok (.iconst 2, 1) := by decide +kernel
theorem dX3_layMovingOn_71 : decode cX3_layMovingOn 71 = .ok (.idiv, 1) := by decide +kernel
theorem dX3_layMovingOn_72 : decode cX3_layMovingOn 72 = .ok (.iadd, 1) := by decide +kernel
theorem dX3_layMovingOn_73 : decode cX3_layMovingOn 73 = .ok (.istore 7, 2) := by decide +kernel
theorem dX3_layMovingOn_75 : decode cX3_layMovingOn 75 = .ok (.aload_n 0, 1) := by decide +kernel
theorem dX3_layMovingOn_76 : decode cX3_layMovingOn 76 = .ok (.getfield 21, 3) := by decide +kernel
theorem dX3_layMovingOn_79 : decode cX3_layMovingOn 79 = .ok (.iload 5, 2) := by decide +kernel
theorem dX3_layMovingOn_81 : decode cX3_layMovingOn 81 = .ok (.iload 7, 2) := by decide +kernel
theorem dX3_layMovingOn_83 : decode cX3_layMovingOn 83 = .ok (.iastore, 1) := by decide +kernel
theorem dX3_layMovingOn_84 : decode cX3_layMovingOn 84 = .ok (.aload_n 0, 1) := by decide +kernel
theorem dX3_layMovingOn_85 : decode cX3_layMovingOn 85 = .ok (.getfield 24, 3) := by decide +kernel
theorem dX3_layMovingOn_88 : decode cX3_layMovingOn 88 = .ok (.iload 5, 2) := by decide +kernel
theorem dX3_layMovingOn_90 : decode cX3_layMovingOn 90 = .ok (.aload_n 1, 1) := by decide +kernel
theorem dX3_layMovingOn_91 : decode cX3_layMovingOn 91 = .ok (.iload_n 3, 1) := by decide +kernel
theorem dX3_layMovingOn_92 : decode cX3_layMovingOn 92 = .ok (.invokevirtual 103, 3) := by decide +kernel
theorem dX3_layMovingOn_95 : decode cX3_layMovingOn 95 = .ok (.ifCond .eq 12, 3) := by decide +kernel
theorem dX3_layMovingOn_98 : decode cX3_layMovingOn 98 = .ok (.iload 7, 2) := by decide +kernel
theorem dX3_layMovingOn_100 : decode cX3_layMovingOn 100 = .ok (.ifCond .lt 7, 3) := by decide +kernel
theorem dX3_layMovingOn_103 : decode cX3_layMovingOn 103 = .ok (.iload_n 3, 1) := by decide +kernel
theorem dX3_layMovingOn_104 : decode cX3_layMovingOn 104 = .ok (.goto 4, 3) := by decide +kernel
theorem dX3_layMovingOn_107 : decode cX3_layMovingOn 107 = .ok (.iconst (-1), 1) := by decide +kernel
theorem dX3_layMovingOn_108 : decode cX3_layMovingOn 108 = .ok (.iastore, 1) := by decide +kernel
theorem dX3_layMovingOn_109 : decode cX3_layMovingOn 109 = .ok (.iload 4, 2) := by decide +kernel
theorem dX3_layMovingOn_111 : decode cX3_layMovingOn 111 = .ok (.aload_n 0, 1) := by decide +kernel
theorem dX3_layMovingOn_112 : decode cX3_layMovingOn 112 = .ok (.iload 5, 2) := by decide +kernel
theorem dX3_layMovingOn_114 : decode cX3_layMovingOn 114 = .ok (.invokevirtual 97, 3) := by decide +kernel
theorem dX3_layMovingOn_117 : decode cX3_layMovingOn 117 = .ok (.iadd, 1) := by decide +kernel
theorem dX3_layMovingOn_118 : decode cX3_layMovingOn 118 = .ok (.istore 4, 2) := by decide +kernel
theorem dX3_layMovingOn_120 : decode cX3_layMovingOn 120 = .ok (.iinc 5 1, 3) := by decide +kernel
theorem dX3_layMovingOn_123 : decode cX3_layMovingOn 123 = .ok (.goto (-112), 3) := by decide +kernel
theorem dX3_layMovingOn_126 : decode cX3_layMovingOn 126 = .ok (.return_, 1) := by decide +kernel
theorem dX3_placeNumber_0 : decode cX3_placeNumber 0 = .ok (.iload_n 2, 1) := by decide +kernel
theorem dX3_placeNumber_1 : decode cX3_placeNumber 1 = .ok (.ifCond .lt 21, 3) := by decide +kernel
theorem dX3_placeNumber_4 : decode cX3_placeNumber 4 = .ok (.iload_n 2, 1) := by decide +kernel
theorem dX3_placeNumber_5 : decode cX3_placeNumber 5 = .ok (.aload_n 0, 1) := by decide +kernel
theorem dX3_placeNumber_6 : decode cX3_placeNumber 6 = .ok (.getfield 27, 3) := by decide +kernel
theorem dX3_placeNumber_9 : decode cX3_placeNumber 9 = .ok (.if_icmp .ge 13, 3) := by decide +kernel
theorem dX3_placeNumber_12 : decode cX3_placeNumber 12 = .ok (.aload_n 0, 1) := by decide +kernel
theorem dX3_placeNumber_13 : decode cX3_placeNumber 13 = .ok (.getfield 24, 3) := by decide +kernel
theorem dX3_placeNumber_16 : decode cX3_placeNumber 16 = .ok (.iload_n 2, 1) := by decide +kernel
theorem dX3_placeNumber_17 : decode cX3_placeNumber 17 = .ok (.iaload, 1) := by decide +kernel
theorem dX3_placeNumber_18 : decode cX3_placeNumber 18 = .ok (.iconst (-1), 1) := by decide +kernel
theorem dX3_placeNumber_19 : decode cX3_placeNumber 19 = .ok (.if_icmp .ne 6, 3) := by decide +kernel
theorem dX3_placeNumber_22 : decode cX3_placeNumber 22 = .ok (.ldc 106, 2) := by decide +kernel
theorem dX3_placeNumber_24 : decode cX3_placeNumber 24 = .ok (.ireturn, 1) := by decide +kernel
theorem dX3_placeNumber_25 : decode cX3_placeNumber 25 = .ok (.iload_n 3, 1) := by decide +kernel
theorem dX3_placeNumber_26 : decode cX3_placeNumber 26 = .ok (.lookupswitch 40 #[(0, 26), (1, 33)], 26) := by decide +kernel
theorem dX3_placeNumber_52 : decode cX3_placeNumber 52 = .ok (.aload_n 0, 1) := by decide +kernel
theorem dX3_placeNumber_53 : decode cX3_placeNumber 53 = .ok (.getfield 24, 3) := by decide +kernel
theorem dX3_placeNumber_56 : decode cX3_placeNumber 56 = .ok (.iload_n 2, 1) := by decide +kernel
theorem dX3_placeNumber_57 : decode cX3_placeNumber 57 = .ok (.iaload, 1) := by decide +kernel
theorem dX3_placeNumber_58 : decode cX3_placeNumber 58 = .ok (.ireturn, 1) := by decide +kernel
theorem dX3_placeNumber_59 : decode cX3_placeNumber 59 = .ok (.aload_n 0, 1) := by decide +kernel
theorem dX3_placeNumber_60 : decode cX3_placeNumber 60 = .ok (.getfield 21, 3) := by decide +kernel
theorem dX3_placeNumber_63 : decode cX3_placeNumber 63 = .ok (.iload_n 2, 1) := by decide +kernel
theorem dX3_placeNumber_64 : decode cX3_placeNumber 64 = .ok (.iaload, 1) := by decide +kernel
theorem dX3_placeNumber_65 : decode cX3_placeNumber 65 = .ok (.ireturn, 1) := by decide +kernel
theorem dX3_placeNumber_66 : decode cX3_placeNumber 66 = .ok (.aload_n 1, 1) := by decide +kernel
theorem dX3_placeNumber_67 : decode cX3_placeNumber 67 = .ok (.aload_n 0, 1) := by decide +kernel
theorem dX3_placeNumber_68 : decode cX3_placeNumber 68 = .ok (.getfield 24, 3) := by decide +kernel
theorem dX3_placeNumber_71 : decode cX3_placeNumber 71 = .ok (.iload_n 2, 1) := by decide +kernel
theorem dX3_placeNumber_72 : decode cX3_placeNumber 72 = .ok (.iaload, 1) := by decide +kernel
theorem dX3_placeNumber_73 : decode cX3_placeNumber 73 = .ok (.aload_n 0, 1) := by decide +kernel
theorem dX3_placeNumber_74 : decode cX3_placeNumber 74 = .ok (.getfield 21, 3) := by decide +kernel
theorem dX3_placeNumber_77 : decode cX3_placeNumber 77 = .ok (.iload_n 2, 1) := by decide +kernel
theorem dX3_placeNumber_78 : decode cX3_placeNumber 78 = .ok (.iaload, 1) := by decide +kernel
theorem dX3_placeNumber_79 : decode cX3_placeNumber 79 = .ok (.iload_n 3, 1) := by decide +kernel
theorem dX3_placeNumber_80 : decode cX3_placeNumber 80 = .ok (.iconst 2, 1) := by decide +kernel
theorem dX3_placeNumber_81 : decode cX3_placeNumber 81 = .ok (.isub, 1) := by decide +kernel
theorem dX3_placeNumber_82 : decode cX3_placeNumber 82 = .ok (.invokevirtual 107, 3) := by decide +kernel
theorem dX3_placeNumber_85 : decode cX3_placeNumber 85 = .ok (.ireturn, 1) := by decide +kernel
theorem dX3_lettersPlaced_0 : decode cX3_lettersPlaced 0 = .ok (.iconst 0, 1) := by decide +kernel
theorem dX3_lettersPlaced_1 : decode cX3_lettersPlaced 1 = .ok (.istore_n 1, 1) := by decide +kernel
theorem dX3_lettersPlaced_2 : decode cX3_lettersPlaced 2 = .ok (.iconst 0, 1) := by decide +kernel
theorem dX3_lettersPlaced_3 : decode cX3_lettersPlaced 3 = .ok (.istore_n 2, 1) := by decide +kernel
theorem dX3_lettersPlaced_4 : decode cX3_lettersPlaced 4 = .ok (.iload_n 2, 1) := by decide +kernel
theorem dX3_lettersPlaced_5 : decode cX3_lettersPlaced 5 = .ok (.aload_n 0, 1) := by decide +kernel
theorem dX3_lettersPlaced_6 : decode cX3_lettersPlaced 6 = .ok (.getfield 27, 3) := by decide +kernel
theorem dX3_lettersPlaced_9 : decode cX3_lettersPlaced 9 = .ok (.if_icmp .ge 22, 3) := by decide +kernel
theorem dX3_lettersPlaced_12 : decode cX3_lettersPlaced 12 = .ok (.aload_n 0, 1) := by decide +kernel
theorem dX3_lettersPlaced_13 : decode cX3_lettersPlaced 13 = .ok (.getfield 24, 3) := by decide +kernel
theorem dX3_lettersPlaced_16 : decode cX3_lettersPlaced 16 = .ok (.iload_n 2, 1) := by decide +kernel
theorem dX3_lettersPlaced_17 : decode cX3_lettersPlaced 17 = .ok (.iaload, 1) := by decide +kernel
theorem dX3_lettersPlaced_18 : decode cX3_lettersPlaced 18 = .ok (.iconst (-1), 1) := by decide +kernel
theorem dX3_lettersPlaced_19 : decode cX3_lettersPlaced 19 = .ok (.if_icmp .eq 6, 3) := by decide +kernel
theorem dX3_lettersPlaced_22 : decode cX3_lettersPlaced 22 = .ok (.iinc 1 1, 3) := by decide +kernel
theorem dX3_lettersPlaced_25 : decode cX3_lettersPlaced 25 = .ok (.iinc 2 1, 3) := by decide +kernel
theorem dX3_lettersPlaced_28 : decode cX3_lettersPlaced 28 = .ok (.goto (-24), 3) := by decide +kernel
theorem dX3_lettersPlaced_31 : decode cX3_lettersPlaced 31 = .ok (.iload_n 1, 1) := by decide +kernel
theorem dX3_lettersPlaced_32 : decode cX3_lettersPlaced 32 = .ok (.ireturn, 1) := by decide +kernel
theorem dX3_turnsBackward_0 : decode cX3_turnsBackward 0 = .ok (.iconst 0, 1) := by decide +kernel
theorem dX3_turnsBackward_1 : decode cX3_turnsBackward 1 = .ok (.istore_n 2, 1) := by decide +kernel
theorem dX3_turnsBackward_2 : decode cX3_turnsBackward 2 = .ok (.iconst (-1), 1) := by decide +kernel
theorem dX3_turnsBackward_3 : decode cX3_turnsBackward 3 = .ok (.istore_n 3, 1) := by decide +kernel
theorem dX3_turnsBackward_4 : decode cX3_turnsBackward 4 = .ok (.iconst 0, 1) := by decide +kernel
theorem dX3_turnsBackward_5 : decode cX3_turnsBackward 5 = .ok (.istore 4, 2) := by decide +kernel
theorem dX3_turnsBackward_7 : decode cX3_turnsBackward 7 = .ok (.iconst 0, 1) := by decide +kernel
theorem dX3_turnsBackward_8 : decode cX3_turnsBackward 8 = .ok (.istore 5, 2) := by decide +kernel
theorem dX3_turnsBackward_10 : decode cX3_turnsBackward 10 = .ok (.iload 5, 2) := by decide +kernel
theorem dX3_turnsBackward_12 : decode cX3_turnsBackward 12 = .ok (.aload_n 0, 1) := by decide +kernel
theorem dX3_turnsBackward_13 : decode cX3_turnsBackward 13 = .ok (.getfield 27, 3) := by decide +kernel
theorem dX3_turnsBackward_16 : decode cX3_turnsBackward 16 = .ok (.if_icmp .ge 77, 3) := by decide +kernel
theorem dX3_turnsBackward_19 : decode cX3_turnsBackward 19 = .ok (.aload_n 0, 1) := by decide +kernel
theorem dX3_turnsBackward_20 : decode cX3_turnsBackward 20 = .ok (.getfield 24, 3) := by decide +kernel
theorem dX3_turnsBackward_23 : decode cX3_turnsBackward 23 = .ok (.iload 5, 2) := by decide +kernel
theorem dX3_turnsBackward_25 : decode cX3_turnsBackward 25 = .ok (.iaload, 1) := by decide +kernel
theorem dX3_turnsBackward_26 : decode cX3_turnsBackward 26 = .ok (.iconst (-1), 1) := by decide +kernel
theorem dX3_turnsBackward_27 : decode cX3_turnsBackward 27 = .ok (.if_icmp .eq 60, 3) := by decide +kernel
theorem dX3_turnsBackward_30 : decode cX3_turnsBackward 30 = .ok (.aload_n 1, 1) := by decide +kernel
theorem dX3_turnsBackward_31 : decode cX3_turnsBackward 31 = .ok (.aload_n 0, 1) := by decide +kernel
theorem dX3_turnsBackward_32 : decode cX3_turnsBackward 32 = .ok (.getfield 24, 3) := by decide +kernel
theorem dX3_turnsBackward_35 : decode cX3_turnsBackward 35 = .ok (.iload 5, 2) := by decide +kernel
theorem dX3_turnsBackward_37 : decode cX3_turnsBackward 37 = .ok (.iaload, 1) := by decide +kernel
theorem dX3_turnsBackward_38 : decode cX3_turnsBackward 38 = .ok (.aload_n 0, 1) := by decide +kernel
theorem dX3_turnsBackward_39 : decode cX3_turnsBackward 39 = .ok (.getfield 21, 3) := by decide +kernel
theorem dX3_turnsBackward_42 : decode cX3_turnsBackward 42 = .ok (.iload 5, 2) := by decide +kernel
theorem dX3_turnsBackward_44 : decode cX3_turnsBackward 44 = .ok (.iaload, 1) := by decide +kernel
theorem dX3_turnsBackward_45 : decode cX3_turnsBackward 45 = .ok (.invokevirtual 110, 3) := by decide +kernel
theorem dX3_turnsBackward_48 : decode cX3_turnsBackward 48 = .ok (.istore 6, 2) := by decide +kernel
theorem dX3_turnsBackward_50 : decode cX3_turnsBackward 50 = .ok (.aload_n 0, 1) := by decide +kernel
theorem dX3_turnsBackward_51 : decode cX3_turnsBackward 51 = .ok (.getfield 24, 3) := by decide +kernel
theorem dX3_turnsBackward_54 : decode cX3_turnsBackward 54 = .ok (.iload 5, 2) := by decide +kernel
theorem dX3_turnsBackward_56 : decode cX3_turnsBackward 56 = .ok (.iaload, 1) := by decide +kernel
theorem dX3_turnsBackward_57 : decode cX3_turnsBackward 57 = .ok (.iload_n 3, 1) := by decide +kernel
theorem dX3_turnsBackward_58 : decode cX3_turnsBackward 58 = .ok (.if_icmp .ne 17, 3) := by decide +kernel
theorem dX3_turnsBackward_61 : decode cX3_turnsBackward 61 = .ok (.aload_n 1, 1) := by decide +kernel
theorem dX3_turnsBackward_62 : decode cX3_turnsBackward 62 = .ok (.iload 6, 2) := by decide +kernel
theorem dX3_turnsBackward_64 : decode cX3_turnsBackward 64 = .ok (.iload 4, 2) := by decide +kernel
theorem dX3_turnsBackward_66 : decode cX3_turnsBackward 66 = .ok (.invokevirtual 113, 3) := by decide +kernel
theorem dX3_turnsBackward_69 : decode cX3_turnsBackward 69 = .ok (.ifCond .eq 6, 3) := by decide +kernel
theorem dX3_turnsBackward_72 : decode cX3_turnsBackward 72 = .ok (.iinc 2 1, 3) := by decide +kernel
theorem dX3_turnsBackward_75 : decode cX3_turnsBackward 75 = .ok (.aload_n 0, 1) := by decide +kernel
theorem dX3_turnsBackward_76 : decode cX3_turnsBackward 76 = .ok (.getfield 24, 3) := by decide +kernel
theorem dX3_turnsBackward_79 : decode cX3_turnsBackward 79 = .ok (.iload 5, 2) := by decide +kernel
theorem dX3_turnsBackward_81 : decode cX3_turnsBackward 81 = .ok (.iaload, 1) := by decide +kernel
theorem dX3_turnsBackward_82 : decode cX3_turnsBackward 82 = .ok (.istore_n 3, 1) := by decide +kernel
theorem dX3_turnsBackward_83 : decode cX3_turnsBackward 83 = .ok (.iload 6, 2) := by decide +kernel
theorem dX3_turnsBackward_85 : decode cX3_turnsBackward 85 = .ok (.istore 4, 2) := by decide +kernel
theorem dX3_turnsBackward_87 : decode cX3_turnsBackward 87 = .ok (.iinc 5 1, 3) := by decide +kernel
theorem dX3_turnsBackward_90 : decode cX3_turnsBackward 90 = .ok (.goto (-80), 3) := by decide +kernel
theorem dX3_turnsBackward_93 : decode cX3_turnsBackward 93 = .ok (.iload_n 2, 1) := by decide +kernel
theorem dX3_turnsBackward_94 : decode cX3_turnsBackward 94 = .ok (.ireturn, 1) := by decide +kernel
theorem dX4_init_0 : decode cX4_init 0 = .ok (.aload_n 0, 1) := by decide +kernel
theorem dX4_init_1 : decode cX4_init 1 = .ok (.invokespecial 3, 3) := by decide +kernel
theorem dX4_init_4 : decode cX4_init 4 = .ok (.aload_n 0, 1) := by decide +kernel
theorem dX4_init_5 : decode cX4_init 5 = .ok (.bipush 120, 2) := by decide +kernel
theorem dX4_init_7 : decode cX4_init 7 = .ok (.newarray .char, 2) := by decide +kernel
theorem dX4_init_9 : decode cX4_init 9 = .ok (.putfield 9, 3) := by decide +kernel
theorem dX4_init_12 : decode cX4_init 12 = .ok (.aload_n 0, 1) := by decide +kernel
theorem dX4_init_13 : decode cX4_init 13 = .ok (.new 15, 3) := by decide +kernel
theorem dX4_init_16 : decode cX4_init 16 = .ok (.dup, 1) := by decide +kernel
theorem dX4_init_17 : decode cX4_init 17 = .ok (.invokespecial 17, 3) := by decide +kernel
theorem dX4_init_20 : decode cX4_init 20 = .ok (.putfield 18, 3) := by decide +kernel
theorem dX4_init_23 : decode cX4_init 23 = .ok (.aload_n 0, 1) := by decide +kernel
theorem dX4_init_24 : decode cX4_init 24 = .ok (.iconst 0, 1) := by decide +kernel
theorem dX4_init_25 : decode cX4_init 25 = .ok (.putfield 22, 3) := by decide +kernel
theorem dX4_init_28 : decode cX4_init 28 = .ok (.return_, 1) := by decide +kernel
theorem dX4_append_0 : decode cX4_append 0 = .ok (.aload_n 0, 1) := by decide +kernel
theorem dX4_append_1 : decode cX4_append 1 = .ok (.getfield 22, 3) := by decide +kernel
theorem dX4_append_4 : decode cX4_append 4 = .ok (.bipush 120, 2) := by decide +kernel
theorem dX4_append_6 : decode cX4_append 6 = .ok (.if_icmp .ge 23, 3) := by decide +kernel
theorem dX4_append_9 : decode cX4_append 9 = .ok (.aload_n 0, 1) := by decide +kernel
theorem dX4_append_10 : decode cX4_append 10 = .ok (.getfield 9, 3) := by decide +kernel
theorem dX4_append_13 : decode cX4_append 13 = .ok (.aload_n 0, 1) := by decide +kernel
theorem dX4_append_14 : decode cX4_append 14 = .ok (.getfield 22, 3) := by decide +kernel
theorem dX4_append_17 : decode cX4_append 17 = .ok (.iload_n 1, 1) := by decide +kernel
theorem dX4_append_18 : decode cX4_append 18 = .ok (.castore, 1) := by decide +kernel
theorem dX4_append_19 : decode cX4_append 19 = .ok (.aload_n 0, 1) := by decide +kernel
theorem dX4_append_20 : decode cX4_append 20 = .ok (.dup, 1) := by decide +kernel
theorem dX4_append_21 : decode cX4_append 21 = .ok (.getfield 22, 3) := by decide +kernel
theorem dX4_append_24 : decode cX4_append 24 = .ok (.iconst 1, 1) := by decide +kernel
theorem dX4_append_25 : decode cX4_append 25 = .ok (.iadd, 1) := by decide +kernel
theorem dX4_append_26 : decode cX4_append 26 = .ok (.putfield 22, 3) := by decide +kernel
theorem dX4_append_29 : decode cX4_append 29 = .ok (.return_, 1) := by decide +kernel
theorem dX4_readInto_0 : decode cX4_readInto 0 = .ok (.aload_n 1, 1) := by decide +kernel
theorem dX4_readInto_1 : decode cX4_readInto 1 = .ok (.invokevirtual 26, 3) := by decide +kernel
theorem dX4_readInto_4 : decode cX4_readInto 4 = .ok (.aload_n 0, 1) := by decide +kernel
theorem dX4_readInto_5 : decode cX4_readInto 5 = .ok (.getfield 18, 3) := by decide +kernel
theorem dX4_readInto_8 : decode cX4_readInto 8 = .ok (.invokevirtual 31, 3) := by decide +kernel
theorem dX4_readInto_11 : decode cX4_readInto 11 = .ok (.iconst 0, 1) := by decide +kernel
theorem dX4_readInto_12 : decode cX4_readInto 12 = .ok (.istore_n 2, 1) := by decide +kernel
theorem dX4_readInto_13 : decode cX4_readInto 13 = .ok (.iload_n 2, 1) := by decide +kernel
theorem dX4_readInto_14 : decode cX4_readInto 14 = .ok (.aload_n 0, 1) := by decide +kernel
theorem dX4_readInto_15 : decode cX4_readInto 15 = .ok (.getfield 22, 3) := by decide +kernel
theorem dX4_readInto_18 : decode cX4_readInto 18 = .ok (.if_icmp .ge 28, 3) := by decide +kernel
theorem dX4_readInto_21 : decode cX4_readInto 21 = .ok (.aload_n 0, 1) := by decide +kernel
theorem dX4_readInto_22 : decode cX4_readInto 22 = .ok (.getfield 18, 3) := by decide +kernel
theorem dX4_readInto_25 : decode cX4_readInto 25 = .ok (.aload_n 0, 1) := by decide +kernel
theorem dX4_readInto_26 : decode cX4_readInto 26 = .ok (.getfield 9, 3) := by decide +kernel
theorem dX4_readInto_29 : decode cX4_readInto 29 = .ok (.iload_n 2, 1) := by decide +kernel
theorem dX4_readInto_30 : decode cX4_readInto 30 = .ok (.caload, 1) := by decide +kernel
theorem dX4_readInto_31 : decode cX4_readInto 31 = .ok (.aload_n 1, 1) := by decide +kernel
theorem dX4_readInto_32 : decode cX4_readInto 32 = .ok (.invokevirtual 34, 3) := by decide +kernel
theorem dX4_readInto_35 : decode cX4_readInto 35 = .ok (.ifCond .ne 5, 3) := by decide +kernel
theorem dX4_readInto_38 : decode cX4_readInto 38 = .ok (.iload_n 2, 1) := by decide +kernel
theorem dX4_readInto_39 : decode cX4_readInto 39 = .ok (.ireturn, 1) := by decide +kernel
theorem dX4_readInto_40 : decode cX4_readInto 40 = .ok (.iinc 2 1, 3) := by decide +kernel
theorem dX4_readInto_43 : decode cX4_readInto 43 = .ok (.goto (-30), 3) := by decide +kernel
theorem dX4_readInto_46 : decode cX4_readInto 46 = .ok (.aload_n 0, 1) := by decide +kernel
theorem dX4_readInto_47 : decode cX4_readInto 47 = .ok (.getfield 18, 3) := by decide +kernel
theorem dX4_readInto_50 : decode cX4_readInto 50 = .ok (.invokevirtual 38, 3) := by decide +kernel
theorem dX4_readInto_53 : decode cX4_readInto 53 = .ok (.ifCond .ne 8, 3) := by decide +kernel
theorem dX4_readInto_56 : decode cX4_readInto 56 = .ok (.aload_n 0, 1) := by decide +kernel
theorem dX4_readInto_57 : decode cX4_readInto 57 = .ok (.getfield 22, 3) := by decide +kernel
theorem dX4_readInto_60 : decode cX4_readInto 60 = .ok (.ireturn, 1) := by decide +kernel
theorem dX4_readInto_61 : decode cX4_readInto 61 = .ok (.aload_n 0, 1) := by decide +kernel
theorem dX4_readInto_62 : decode cX4_readInto 62 = .ok (.getfield 18, 3) := by decide +kernel
theorem dX4_readInto_65 : decode cX4_readInto 65 = .ok (.aload_n 1, 1) := by decide +kernel
theorem dX4_readInto_66 : decode cX4_readInto 66 = .ok (.invokevirtual 42, 3) := by decide +kernel
theorem dX4_readInto_69 : decode cX4_readInto 69 = .ok (.ldc 46, 2) := by decide +kernel
theorem dX4_readInto_71 : decode cX4_readInto 71 = .ok (.ireturn, 1) := by decide +kernel
theorem dX4_commandsRead_0 : decode cX4_commandsRead 0 = .ok (.aload_n 0, 1) := by decide +kernel
theorem dX4_commandsRead_1 : decode cX4_commandsRead 1 = .ok (.getfield 18, 3) := by decide +kernel
theorem dX4_commandsRead_4 : decode cX4_commandsRead 4 = .ok (.getfield 47, 3) := by decide +kernel
theorem dX4_commandsRead_7 : decode cX4_commandsRead 7 = .ok (.ireturn, 1) := by decide +kernel
theorem dX5_init_0 : decode cX5_init 0 = .ok (.aload_n 0, 1) := by decide +kernel
theorem dX5_init_1 : decode cX5_init 1 = .ok (.invokespecial 3, 3) := by decide +kernel
theorem dX5_init_4 : decode cX5_init 4 = .ok (.aload_n 0, 1) := by decide +kernel
theorem dX5_init_5 : decode cX5_init 5 = .ok (.bipush 24, 2) := by decide +kernel
theorem dX5_init_7 : decode cX5_init 7 = .ok (.newarray .int, 2) := by decide +kernel
theorem dX5_init_9 : decode cX5_init 9 = .ok (.putfield 9, 3) := by decide +kernel
theorem dX5_init_12 : decode cX5_init 12 = .ok (.aload_n 0, 1) := by decide +kernel
theorem dX5_init_13 : decode cX5_init 13 = .ok (.sipush 144, 3) := by decide +kernel
theorem dX5_init_16 : decode cX5_init 16 = .ok (.newarray .int, 2) := by decide +kernel
theorem dX5_init_18 : decode cX5_init 18 = .ok (.putfield 15, 3) := by decide +kernel
theorem dX5_init_21 : decode cX5_init 21 = .ok (.aload_n 0, 1) := by decide +kernel
theorem dX5_init_22 : decode cX5_init 22 = .ok (.iconst 0, 1) := by decide +kernel
theorem dX5_init_23 : decode cX5_init 23 = .ok (.putfield 18, 3) := by decide +kernel
theorem dX5_init_26 : decode cX5_init 26 = .ok (.aload_n 0, 1) := by decide +kernel
theorem dX5_init_27 : decode cX5_init 27 = .ok (.iconst 0, 1) := by decide +kernel
theorem dX5_init_28 : decode cX5_init 28 = .ok (.putfield 22, 3) := by decide +kernel
theorem dX5_init_31 : decode cX5_init 31 = .ok (.return_, 1) := by decide +kernel
theorem dX5_clear_0 : decode cX5_clear 0 = .ok (.aload_n 0, 1) := by decide +kernel
theorem dX5_clear_1 : decode cX5_clear 1 = .ok (.iconst 0, 1) := by decide +kernel
theorem dX5_clear_2 : decode cX5_clear 2 = .ok (.putfield 18, 3) := by decide +kernel
theorem dX5_clear_5 : decode cX5_clear 5 = .ok (.aload_n 0, 1) := by decide +kernel
theorem dX5_clear_6 : decode cX5_clear 6 = .ok (.iconst 0, 1) := by decide +kernel
theorem dX5_clear_7 : decode cX5_clear 7 = .ok (.putfield 22, 3) := by decide +kernel
theorem dX5_clear_10 : decode cX5_clear 10 = .ok (.return_, 1) := by decide +kernel
theorem dX5_add_0 : decode cX5_add 0 = .ok (.aload_n 0, 1) := by decide +kernel
theorem dX5_add_1 : decode cX5_add 1 = .ok (.getfield 18, 3) := by decide +kernel
theorem dX5_add_4 : decode cX5_add 4 = .ok (.bipush 6, 2) := by decide +kernel
theorem dX5_add_6 : decode cX5_add 6 = .ok (.imul, 1) := by decide +kernel
theorem dX5_add_7 : decode cX5_add 7 = .ok (.istore 8, 2) := by decide +kernel
theorem dX5_add_9 : decode cX5_add 9 = .ok (.aload_n 0, 1) := by decide +kernel
theorem dX5_add_10 : decode cX5_add 10 = .ok (.iload_n 1, 1) := by decide +kernel
theorem dX5_add_11 : decode cX5_add 11 = .ok (.invokevirtual 25, 3) := by decide +kernel
theorem dX5_add_14 : decode cX5_add 14 = .ok (.ifCond .ne 4, 3) := by decide +kernel
theorem dX5_add_17 : decode cX5_add 17 = .ok (.return_, 1) := by decide +kernel
theorem dX5_add_18 : decode cX5_add 18 = .ok (.aload_n 0, 1) := by decide +kernel
theorem dX5_add_19 : decode cX5_add 19 = .ok (.getfield 15, 3) := by decide +kernel
theorem dX5_add_22 : decode cX5_add 22 = .ok (.iload 8, 2) := by decide +kernel
theorem dX5_add_24 : decode cX5_add 24 = .ok (.iload_n 2, 1) := by decide +kernel
theorem dX5_add_25 : decode cX5_add 25 = .ok (.iastore, 1) := by decide +kernel
theorem dX5_add_26 : decode cX5_add 26 = .ok (.aload_n 0, 1) := by decide +kernel
theorem dX5_add_27 : decode cX5_add 27 = .ok (.getfield 15, 3) := by decide +kernel
theorem dX5_add_30 : decode cX5_add 30 = .ok (.iload 8, 2) := by decide +kernel
theorem dX5_add_32 : decode cX5_add 32 = .ok (.iconst 1, 1) := by decide +kernel
theorem dX5_add_33 : decode cX5_add 33 = .ok (.iadd, 1) := by decide +kernel
theorem dX5_add_34 : decode cX5_add 34 = .ok (.iload_n 3, 1) := by decide +kernel
theorem dX5_add_35 : decode cX5_add 35 = .ok (.iastore, 1) := by decide +kernel
theorem dX5_add_36 : decode cX5_add 36 = .ok (.aload_n 0, 1) := by decide +kernel
theorem dX5_add_37 : decode cX5_add 37 = .ok (.getfield 15, 3) := by decide +kernel
theorem dX5_add_40 : decode cX5_add 40 = .ok (.iload 8, 2) := by decide +kernel
theorem dX5_add_42 : decode cX5_add 42 = .ok (.iconst 2, 1) := by decide +kernel
theorem dX5_add_43 : decode cX5_add 43 = .ok (.iadd, 1) := by decide +kernel
theorem dX5_add_44 : decode cX5_add 44 = .ok (.iload 4, 2) := by decide +kernel
theorem dX5_add_46 : decode cX5_add 46 = .ok (.iastore, 1) := by decide +kernel
theorem dX5_add_47 : decode cX5_add 47 = .ok (.aload_n 0, 1) := by decide +kernel
theorem dX5_add_48 : decode cX5_add 48 = .ok (.getfield 15, 3) := by decide +kernel
theorem dX5_add_51 : decode cX5_add 51 = .ok (.iload 8, 2) := by decide +kernel
theorem dX5_add_53 : decode cX5_add 53 = .ok (.iconst 3, 1) := by decide +kernel
theorem dX5_add_54 : decode cX5_add 54 = .ok (.iadd, 1) := by decide +kernel
theorem dX5_add_55 : decode cX5_add 55 = .ok (.iload 5, 2) := by decide +kernel
theorem dX5_add_57 : decode cX5_add 57 = .ok (.iastore, 1) := by decide +kernel
theorem dX5_add_58 : decode cX5_add 58 = .ok (.aload_n 0, 1) := by decide +kernel
theorem dX5_add_59 : decode cX5_add 59 = .ok (.getfield 15, 3) := by decide +kernel
theorem dX5_add_62 : decode cX5_add 62 = .ok (.iload 8, 2) := by decide +kernel
theorem dX5_add_64 : decode cX5_add 64 = .ok (.iconst 4, 1) := by decide +kernel
theorem dX5_add_65 : decode cX5_add 65 = .ok (.iadd, 1) := by decide +kernel
theorem dX5_add_66 : decode cX5_add 66 = .ok (.iload 6, 2) := by decide +kernel
theorem dX5_add_68 : decode cX5_add 68 = .ok (.iastore, 1) := by decide +kernel
theorem dX5_add_69 : decode cX5_add 69 = .ok (.aload_n 0, 1) := by decide +kernel
theorem dX5_add_70 : decode cX5_add 70 = .ok (.getfield 15, 3) := by decide +kernel
theorem dX5_add_73 : decode cX5_add 73 = .ok (.iload 8, 2) := by decide +kernel
theorem dX5_add_75 : decode cX5_add 75 = .ok (.iconst 5, 1) := by decide +kernel
theorem dX5_add_76 : decode cX5_add 76 = .ok (.iadd, 1) := by decide +kernel
theorem dX5_add_77 : decode cX5_add 77 = .ok (.iload 7, 2) := by decide +kernel
theorem dX5_add_79 : decode cX5_add 79 = .ok (.iastore, 1) := by decide +kernel
theorem dX5_add_80 : decode cX5_add 80 = .ok (.return_, 1) := by decide +kernel
theorem dX5_addKind_0 : decode cX5_addKind 0 = .ok (.aload_n 0, 1) := by decide +kernel
theorem dX5_addKind_1 : decode cX5_addKind 1 = .ok (.getfield 18, 3) := by decide +kernel
theorem dX5_addKind_4 : decode cX5_addKind 4 = .ok (.bipush 24, 2) := by decide +kernel
theorem dX5_addKind_6 : decode cX5_addKind 6 = .ok (.if_icmp .lt 5, 3) := by decide +kernel
theorem dX5_addKind_9 : decode cX5_addKind 9 = .ok (.iconst 0, 1) := by decide +kernel
theorem dX5_addKind_10 : decode cX5_addKind 10 = .ok (.ireturn, 1) := by decide +kernel
theorem dX5_addKind_11 : decode cX5_addKind 11 = .ok (.aload_n 0, 1) := by decide +kernel
theorem dX5_addKind_12 : decode cX5_addKind 12 = .ok (.getfield 9, 3) := by decide +kernel
theorem dX5_addKind_15 : decode cX5_addKind 15 = .ok (.aload_n 0, 1) := by decide +kernel
theorem dX5_addKind_16 : decode cX5_addKind 16 = .ok (.getfield 18, 3) := by decide +kernel
theorem dX5_addKind_19 : decode cX5_addKind 19 = .ok (.iload_n 1, 1) := by decide +kernel
theorem dX5_addKind_20 : decode cX5_addKind 20 = .ok (.iastore, 1) := by decide +kernel
theorem dX5_addKind_21 : decode cX5_addKind 21 = .ok (.aload_n 0, 1) := by decide +kernel
theorem dX5_addKind_22 : decode cX5_addKind 22 = .ok (.dup, 1) := by decide +kernel
theorem dX5_addKind_23 : decode cX5_addKind 23 = .ok (.getfield 18, 3) := by decide +kernel
theorem dX5_addKind_26 : decode cX5_addKind 26 = .ok (.iconst 1, 1) := by decide +kernel
theorem dX5_addKind_27 : decode cX5_addKind 27 = .ok (.iadd, 1) := by decide +kernel
theorem dX5_addKind_28 : decode cX5_addKind 28 = .ok (.putfield 18, 3) := by decide +kernel
theorem dX5_addKind_31 : decode cX5_addKind 31 = .ok (.iload_n 1, 1) := by decide +kernel
theorem dX5_addKind_32 : decode cX5_addKind 32 = .ok (.ifCond .ne 13, 3) := by decide +kernel
theorem dX5_addKind_35 : decode cX5_addKind 35 = .ok (.aload_n 0, 1) := by decide +kernel
theorem dX5_addKind_36 : decode cX5_addKind 36 = .ok (.dup, 1) := by decide +kernel
theorem dX5_addKind_37 : decode cX5_addKind 37 = .ok (.getfield 22, 3) := by decide +kernel
theorem dX5_addKind_40 : decode cX5_addKind 40 = .ok (.iconst 1, 1) := by decide +kernel
theorem dX5_addKind_41 : decode cX5_addKind 41 = .ok (.iadd, 1) := by decide +kernel
theorem dX5_addKind_42 : decode cX5_addKind 42 = .ok (.putfield 22, 3) := by decide +kernel
theorem dX5_addKind_45 : decode cX5_addKind 45 = .ok (.iconst 1, 1) := by decide +kernel
theorem dX5_addKind_46 : decode cX5_addKind 46 = .ok (.ireturn, 1) := by decide +kernel
theorem dX5_dropLast_0 : decode cX5_dropLast 0 = .ok (.aload_n 0, 1) := by decide +kernel
theorem dX5_dropLast_1 : decode cX5_dropLast 1 = .ok (.getfield 18, 3) := by decide +kernel
theorem dX5_dropLast_4 : decode cX5_dropLast 4 = .ok (.ifCond .ne 4, 3) := by decide +kernel
theorem dX5_dropLast_7 : decode cX5_dropLast 7 = .ok (.return_, 1) := by decide +kernel
theorem dX5_dropLast_8 : decode cX5_dropLast 8 = .ok (.aload_n 0, 1) := by decide +kernel
theorem dX5_dropLast_9 : decode cX5_dropLast 9 = .ok (.dup, 1) := by decide +kernel
theorem dX5_dropLast_10 : decode cX5_dropLast 10 = .ok (.getfield 18, 3) := by decide +kernel
theorem dX5_dropLast_13 : decode cX5_dropLast 13 = .ok (.iconst 1, 1) := by decide +kernel
theorem dX5_dropLast_14 : decode cX5_dropLast 14 = .ok (.isub, 1) := by decide +kernel
theorem dX5_dropLast_15 : decode cX5_dropLast 15 = .ok (.putfield 18, 3) := by decide +kernel
theorem dX5_dropLast_18 : decode cX5_dropLast 18 = .ok (.aload_n 0, 1) := by decide +kernel
theorem dX5_dropLast_19 : decode cX5_dropLast 19 = .ok (.getfield 9, 3) := by decide +kernel
theorem dX5_dropLast_22 : decode cX5_dropLast 22 = .ok (.aload_n 0, 1) := by decide +kernel
theorem dX5_dropLast_23 : decode cX5_dropLast 23 = .ok (.getfield 18, 3) := by decide +kernel
theorem dX5_dropLast_26 : decode cX5_dropLast 26 = .ok (.iaload, 1) := by decide +kernel
theorem dX5_dropLast_27 : decode cX5_dropLast 27 = .ok (.ifCond .ne 13, 3) := by decide +kernel
theorem dX5_dropLast_30 : decode cX5_dropLast 30 = .ok (.aload_n 0, 1) := by decide +kernel
theorem dX5_dropLast_31 : decode cX5_dropLast 31 = .ok (.dup, 1) := by decide +kernel
theorem dX5_dropLast_32 : decode cX5_dropLast 32 = .ok (.getfield 22, 3) := by decide +kernel
theorem dX5_dropLast_35 : decode cX5_dropLast 35 = .ok (.iconst 1, 1) := by decide +kernel
theorem dX5_dropLast_36 : decode cX5_dropLast 36 = .ok (.isub, 1) := by decide +kernel
theorem dX5_dropLast_37 : decode cX5_dropLast 37 = .ok (.putfield 22, 3) := by decide +kernel
theorem dX5_dropLast_40 : decode cX5_dropLast 40 = .ok (.return_, 1) := by decide +kernel
theorem dX5_become_0 : decode cX5_become 0 = .ok (.aload_n 0, 1) := by decide +kernel
theorem dX5_become_1 : decode cX5_become 1 = .ok (.aload_n 1, 1) := by decide +kernel
theorem dX5_become_2 : decode cX5_become 2 = .ok (.getfield 18, 3) := by decide +kernel
theorem dX5_become_5 : decode cX5_become 5 = .ok (.putfield 18, 3) := by decide +kernel
theorem dX5_become_8 : decode cX5_become 8 = .ok (.aload_n 0, 1) := by decide +kernel
theorem dX5_become_9 : decode cX5_become 9 = .ok (.aload_n 1, 1) := by decide +kernel
theorem dX5_become_10 : decode cX5_become 10 = .ok (.getfield 22, 3) := by decide +kernel
theorem dX5_become_13 : decode cX5_become 13 = .ok (.putfield 22, 3) := by decide +kernel
theorem dX5_become_16 : decode cX5_become 16 = .ok (.aload_n 1, 1) := by decide +kernel
theorem dX5_become_17 : decode cX5_become 17 = .ok (.getfield 9, 3) := by decide +kernel
theorem dX5_become_20 : decode cX5_become 20 = .ok (.iconst 0, 1) := by decide +kernel
theorem dX5_become_21 : decode cX5_become 21 = .ok (.aload_n 0, 1) := by decide +kernel
theorem dX5_become_22 : decode cX5_become 22 = .ok (.getfield 9, 3) := by decide +kernel
theorem dX5_become_25 : decode cX5_become 25 = .ok (.iconst 0, 1) := by decide +kernel
theorem dX5_become_26 : decode cX5_become 26 = .ok (.aload_n 0, 1) := by decide +kernel
theorem dX5_become_27 : decode cX5_become 27 = .ok (.getfield 9, 3) := by decide +kernel
theorem dX5_become_30 : decode cX5_become 30 = .ok (.arraylength, 1) := by decide +kernel
theorem dX5_become_31 : decode cX5_become 31 = .ok (.invokestatic 29, 3) := by decide +kernel
theorem dX5_become_34 : decode cX5_become 34 = .ok (.aload_n 1, 1) := by decide +kernel
theorem dX5_become_35 : decode cX5_become 35 = .ok (.getfield 15, 3) := by decide +kernel
theorem dX5_become_38 : decode cX5_become 38 = .ok (.iconst 0, 1) := by decide +kernel
theorem dX5_become_39 : decode cX5_become 39 = .ok (.aload_n 0, 1) := by decide +kernel
theorem dX5_become_40 : decode cX5_become 40 = .ok (.getfield 15, 3) := by decide +kernel
theorem dX5_become_43 : decode cX5_become 43 = .ok (.iconst 0, 1) := by decide +kernel
theorem dX5_become_44 : decode cX5_become 44 = .ok (.aload_n 0, 1) := by decide +kernel
theorem dX5_become_45 : decode cX5_become 45 = .ok (.getfield 15, 3) := by decide +kernel
theorem dX5_become_48 : decode cX5_become 48 = .ok (.arraylength, 1) := by decide +kernel
theorem dX5_become_49 : decode cX5_become 49 = .ok (.invokestatic 29, 3) := by decide +kernel
theorem dX5_become_52 : decode cX5_become 52 = .ok (.return_, 1) := by decide +kernel
theorem dX5_isOpen_0 : decode cX5_isOpen 0 = .ok (.aload_n 0, 1) := by decide +kernel
theorem dX5_isOpen_1 : decode cX5_isOpen 1 = .ok (.getfield 18, 3) := by decide +kernel
theorem dX5_isOpen_4 : decode cX5_isOpen 4 = .ok (.ifCond .le 22, 3) := by decide +kernel
theorem dX5_isOpen_7 : decode cX5_isOpen 7 = .ok (.aload_n 0, 1) := by decide +kernel
theorem dX5_isOpen_8 : decode cX5_isOpen 8 = .ok (.getfield 9, 3) := by decide +kernel
theorem dX5_isOpen_11 : decode cX5_isOpen 11 = .ok (.aload_n 0, 1) := by decide +kernel
theorem dX5_isOpen_12 : decode cX5_isOpen 12 = .ok (.getfield 18, 3) := by decide +kernel
theorem dX5_isOpen_15 : decode cX5_isOpen 15 = .ok (.iconst 1, 1) := by decide +kernel
theorem dX5_isOpen_16 : decode cX5_isOpen 16 = .ok (.isub, 1) := by decide +kernel
theorem dX5_isOpen_17 : decode cX5_isOpen 17 = .ok (.iaload, 1) := by decide +kernel
theorem dX5_isOpen_18 : decode cX5_isOpen 18 = .ok (.iconst 4, 1) := by decide +kernel
theorem dX5_isOpen_19 : decode cX5_isOpen 19 = .ok (.if_icmp .eq 7, 3) := by decide +kernel
theorem dX5_isOpen_22 : decode cX5_isOpen 22 = .ok (.iconst 1, 1) := by decide +kernel
theorem dX5_isOpen_23 : decode cX5_isOpen 23 = .ok (.goto 4, 3) := by decide +kernel
theorem dX5_isOpen_26 : decode cX5_isOpen 26 = .ok (.iconst 0, 1) := by decide +kernel
theorem dX5_isOpen_27 : decode cX5_isOpen 27 = .ok (.ireturn, 1) := by decide +kernel
theorem dX5_kindOf_0 : decode cX5_kindOf 0 = .ok (.iload_n 1, 1) := by decide +kernel
theorem dX5_kindOf_1 : decode cX5_kindOf 1 = .ok (.ifCond .lt 20, 3) := by decide +kernel
theorem dX5_kindOf_4 : decode cX5_kindOf 4 = .ok (.iload_n 1, 1) := by decide +kernel
theorem dX5_kindOf_5 : decode cX5_kindOf 5 = .ok (.aload_n 0, 1) := by decide +kernel
theorem dX5_kindOf_6 : decode cX5_kindOf 6 = .ok (.getfield 18, 3) := by decide +kernel
theorem dX5_kindOf_9 : decode cX5_kindOf 9 = .ok (.if_icmp .ge 12, 3) := by decide +kernel
theorem dX5_kindOf_12 : decode cX5_kindOf 12 = .ok (.aload_n 0, 1) := by decide +kernel
theorem dX5_kindOf_13 : decode cX5_kindOf 13 = .ok (.getfield 9, 3) := by decide +kernel
theorem dX5_kindOf_16 : decode cX5_kindOf 16 = .ok (.iload_n 1, 1) := by decide +kernel
theorem dX5_kindOf_17 : decode cX5_kindOf 17 = .ok (.iaload, 1) := by decide +kernel
theorem dX5_kindOf_18 : decode cX5_kindOf 18 = .ok (.goto 4, 3) := by decide +kernel
theorem dX5_kindOf_21 : decode cX5_kindOf 21 = .ok (.iconst 0, 1) := by decide +kernel
theorem dX5_kindOf_22 : decode cX5_kindOf 22 = .ok (.ireturn, 1) := by decide +kernel
theorem dX5_pointsOf_0 : decode cX5_pointsOf 0 = .ok (.getstatic 35, 3) := by decide +kernel
theorem dX5_pointsOf_3 : decode cX5_pointsOf 3 = .ok (.aload_n 0, 1) := by decide +kernel
theorem dX5_pointsOf_4 : decode cX5_pointsOf 4 = .ok (.iload_n 1, 1) := by decide +kernel
theorem dX5_pointsOf_5 : decode cX5_pointsOf 5 = .ok (.invokevirtual 38, 3) := by decide +kernel
theorem dX5_pointsOf_8 : decode cX5_pointsOf 8 = .ok (.iaload, 1) := by decide +kernel
theorem dX5_pointsOf_9 : decode cX5_pointsOf 9 = .ok (.ireturn, 1) := by decide +kernel
theorem dX5_numberOf_0 : decode cX5_numberOf 0 = .ok (.iload_n 1, 1) := by decide +kernel
theorem dX5_numberOf_1 : decode cX5_numberOf 1 = .ok (.ifCond .lt 25, 3) := by decide +kernel
theorem dX5_numberOf_4 : decode cX5_numberOf 4 = .ok (.iload_n 1, 1) := by decide +kernel
theorem dX5_numberOf_5 : decode cX5_numberOf 5 = .ok (.aload_n 0, 1) := by decide +kernel
theorem dX5_numberOf_6 : decode cX5_numberOf 6 = .ok (.getfield 18, 3) := by decide +kernel
theorem dX5_numberOf_9 : decode cX5_numberOf 9 = .ok (.if_icmp .ge 17, 3) := by decide +kernel
theorem dX5_numberOf_12 : decode cX5_numberOf 12 = .ok (.iload_n 2, 1) := by decide +kernel
theorem dX5_numberOf_13 : decode cX5_numberOf 13 = .ok (.ifCond .lt 13, 3) := by decide +kernel
theorem dX5_numberOf_16 : decode cX5_numberOf 16 = .ok (.iload_n 2, 1) := by decide +kernel
theorem dX5_numberOf_17 : decode cX5_numberOf 17 = .ok (.bipush 6, 2) := by decide +kernel
theorem dX5_numberOf_19 : decode cX5_numberOf 19 = .ok (.if_icmp .ge 7, 3) := by decide +kernel
theorem dX5_numberOf_22 : decode cX5_numberOf 22 = .ok (.iconst 1, 1) := by decide +kernel
theorem dX5_numberOf_23 : decode cX5_numberOf 23 = .ok (.goto 4, 3) := by decide +kernel
theorem dX5_numberOf_26 : decode cX5_numberOf 26 = .ok (.iconst 0, 1) := by decide +kernel
theorem dX5_numberOf_27 : decode cX5_numberOf 27 = .ok (.istore_n 3, 1) := by decide +kernel
theorem dX5_numberOf_28 : decode cX5_numberOf 28 = .ok (.iload_n 3, 1) := by decide +kernel
theorem dX5_numberOf_29 : decode cX5_numberOf 29 = .ok (.ifCond .eq 17, 3) := by decide +kernel
theorem dX5_numberOf_32 : decode cX5_numberOf 32 = .ok (.aload_n 0, 1) := by decide +kernel
theorem dX5_numberOf_33 : decode cX5_numberOf 33 = .ok (.getfield 15, 3) := by decide +kernel
theorem dX5_numberOf_36 : decode cX5_numberOf 36 = .ok (.iload_n 1, 1) := by decide +kernel
theorem dX5_numberOf_37 : decode cX5_numberOf 37 = .ok (.bipush 6, 2) := by decide +kernel
theorem dX5_numberOf_39 : decode cX5_numberOf 39 = .ok (.imul, 1) := by decide +kernel
theorem dX5_numberOf_40 : decode cX5_numberOf 40 = .ok (.iload_n 2, 1) := by decide +kernel
theorem dX5_numberOf_41 : decode cX5_numberOf 41 = .ok (.iadd, 1) := by decide +kernel
theorem dX5_numberOf_42 : decode cX5_numberOf 42 = .ok (.iaload, 1) := by decide +kernel
theorem dX5_numberOf_43 : decode cX5_numberOf 43 = .ok (.goto 4, 3) := by decide +kernel
theorem dX5_numberOf_46 : decode cX5_numberOf 46 = .ok (.iconst 0, 1) := by decide +kernel
theorem dX5_numberOf_47 : decode cX5_numberOf 47 = .ok (.ireturn, 1) := by decide +kernel
theorem dX5_endX_0 : decode cX5_endX 0 = .ok (.aload_n 0, 1) := by decide +kernel
theorem dX5_endX_1 : decode cX5_endX 1 = .ok (.iload_n 1, 1) := by decide +kernel
theorem dX5_endX_2 : decode cX5_endX 2 = .ok (.iconst 2, 1) := by decide +kernel
theorem dX5_endX_3 : decode cX5_endX 3 = .ok (.aload_n 0, 1) := by decide +kernel
theorem dX5_endX_4 : decode cX5_endX 4 = .ok (.iload_n 1, 1) := by decide +kernel
theorem dX5_endX_5 : decode cX5_endX 5 = .ok (.invokevirtual 42, 3) := by decide +kernel
theorem dX5_endX_8 : decode cX5_endX 8 = .ok (.imul, 1) := by decide +kernel
theorem dX5_endX_9 : decode cX5_endX 9 = .ok (.iconst 2, 1) := by decide +kernel
theorem dX5_endX_10 : decode cX5_endX 10 = .ok (.isub, 1) := by decide +kernel
theorem dX5_endX_11 : decode cX5_endX 11 = .ok (.invokevirtual 45, 3) := by decide +kernel
theorem dX5_endX_14 : decode cX5_endX 14 = .ok (.ireturn, 1) := by decide +kernel
theorem dX5_endY_0 : decode cX5_endY 0 = .ok (.aload_n 0, 1) := by decide +kernel
theorem dX5_endY_1 : decode cX5_endY 1 = .ok (.iload_n 1, 1) := by decide +kernel
theorem dX5_endY_2 : decode cX5_endY 2 = .ok (.iconst 2, 1) := by decide +kernel
theorem dX5_endY_3 : decode cX5_endY 3 = .ok (.aload_n 0, 1) := by decide +kernel
theorem dX5_endY_4 : decode cX5_endY 4 = .ok (.iload_n 1, 1) := by decide +kernel
theorem dX5_endY_5 : decode cX5_endY 5 = .ok (.invokevirtual 42, 3) := by decide +kernel
theorem dX5_endY_8 : decode cX5_endY 8 = .ok (.imul, 1) := by decide +kernel
theorem dX5_endY_9 : decode cX5_endY 9 = .ok (.iconst 1, 1) := by decide +kernel
theorem dX5_endY_10 : decode cX5_endY 10 = .ok (.isub, 1) := by decide +kernel
theorem dX5_endY_11 : decode cX5_endY 11 = .ok (.invokevirtual 45, 3) := by decide +kernel
theorem dX5_endY_14 : decode cX5_endY 14 = .ok (.ireturn, 1) := by decide +kernel
theorem dX5_control_0 : decode cX5_control 0 = .ok (.iload_n 2, 1) := by decide +kernel
theorem dX5_control_1 : decode cX5_control 1 = .ok (.iconst 2, 1) := by decide +kernel
theorem dX5_control_2 : decode cX5_control 2 = .ok (.aload_n 0, 1) := by decide +kernel
theorem dX5_control_3 : decode cX5_control 3 = .ok (.iload_n 1, 1) := by decide +kernel
theorem dX5_control_4 : decode cX5_control 4 = .ok (.invokevirtual 42, 3) := by decide +kernel
theorem dX5_control_7 : decode cX5_control 7 = .ok (.imul, 1) := by decide +kernel
theorem dX5_control_8 : decode cX5_control 8 = .ok (.iconst 2, 1) := by decide +kernel
theorem dX5_control_9 : decode cX5_control 9 = .ok (.isub, 1) := by decide +kernel
theorem dX5_control_10 : decode cX5_control 10 = .ok (.if_icmp .ge 12, 3) := by decide +kernel
theorem dX5_control_13 : decode cX5_control 13 = .ok (.aload_n 0, 1) := by decide +kernel
theorem dX5_control_14 : decode cX5_control 14 = .ok (.iload_n 1, 1) := by decide +kernel
theorem dX5_control_15 : decode cX5_control 15 = .ok (.iload_n 2, 1) := by decide +kernel
theorem dX5_control_16 : decode cX5_control 16 = .ok (.invokevirtual 45, 3) := by decide +kernel
theorem dX5_control_19 : decode cX5_control 19 = .ok (.goto 5, 3) := by decide +kernel
theorem dX5_control_22 : decode cX5_control 22 = .ok (.ldc 49, 2) := by decide +kernel
theorem dX5_control_24 : decode cX5_control 24 = .ok (.ireturn, 1) := by decide +kernel
theorem dX5_contourOf_0 : decode cX5_contourOf 0 = .ok (.iconst 0, 1) := by decide +kernel
theorem dX5_contourOf_1 : decode cX5_contourOf 1 = .ok (.istore_n 2, 1) := by decide +kernel
theorem dX5_contourOf_2 : decode cX5_contourOf 2 = .ok (.iconst 0, 1) := by decide +kernel
theorem dX5_contourOf_3 : decode cX5_contourOf 3 = .ok (.istore_n 3, 1) := by decide +kernel
theorem dX5_contourOf_4 : decode cX5_contourOf 4 = .ok (.iload_n 3, 1) := by decide +kernel
theorem dX5_contourOf_5 : decode cX5_contourOf 5 = .ok (.aload_n 0, 1) := by decide +kernel
theorem dX5_contourOf_6 : decode cX5_contourOf 6 = .ok (.getfield 18, 3) := by decide +kernel
theorem dX5_contourOf_9 : decode cX5_contourOf 9 = .ok (.if_icmp .ge 26, 3) := by decide +kernel
theorem dX5_contourOf_12 : decode cX5_contourOf 12 = .ok (.iload_n 3, 1) := by decide +kernel
theorem dX5_contourOf_13 : decode cX5_contourOf 13 = .ok (.iload_n 1, 1) := by decide +kernel
theorem dX5_contourOf_14 : decode cX5_contourOf 14 = .ok (.if_icmp .gt 21, 3) := by decide +kernel
theorem dX5_contourOf_17 : decode cX5_contourOf 17 = .ok (.aload_n 0, 1) := by decide +kernel
theorem dX5_contourOf_18 : decode cX5_contourOf 18 = .ok (.getfield 9, 3) := by decide +kernel
theorem dX5_contourOf_21 : decode cX5_contourOf 21 = .ok (.iload_n 3, 1) := by decide +kernel
theorem dX5_contourOf_22 : decode cX5_contourOf 22 = .ok (.iaload, 1) := by decide +kernel
theorem dX5_contourOf_23 : decode cX5_contourOf 23 = .ok (.ifCond .ne 6, 3) := by decide +kernel
theorem dX5_contourOf_26 : decode cX5_contourOf 26 = .ok (.iinc 2 1, 3) := by decide +kernel
theorem dX5_contourOf_29 : decode cX5_contourOf 29 = .ok (.iinc 3 1, 3) := by decide +kernel
theorem dX5_contourOf_32 : decode cX5_contourOf 32 = .ok (.goto (-28), 3) := by decide +kernel
theorem dX5_contourOf_35 : decode cX5_contourOf 35 = .ok (.iload_n 2, 1) := by decide +kernel
theorem dX5_contourOf_36 : decode cX5_contourOf 36 = .ok (.iconst 1, 1) := by decide +kernel
theorem dX5_contourOf_37 : decode cX5_contourOf 37 = .ok (.isub, 1) := by decide +kernel
theorem dX5_contourOf_38 : decode cX5_contourOf 38 = .ok (.ireturn, 1) := by decide +kernel
theorem dX5_firstOf_0 : decode cX5_firstOf 0 = .ok (.iconst 0, 1) := by decide +kernel
theorem dX5_firstOf_1 : decode cX5_firstOf 1 = .ok (.istore_n 2, 1) := by decide +kernel
theorem dX5_firstOf_2 : decode cX5_firstOf 2 = .ok (.iconst 0, 1) := by decide +kernel
theorem dX5_firstOf_3 : decode cX5_firstOf 3 = .ok (.istore_n 3, 1) := by decide +kernel
theorem dX5_firstOf_4 : decode cX5_firstOf 4 = .ok (.iload_n 3, 1) := by decide +kernel
theorem dX5_firstOf_5 : decode cX5_firstOf 5 = .ok (.aload_n 0, 1) := by decide +kernel
theorem dX5_firstOf_6 : decode cX5_firstOf 6 = .ok (.getfield 18, 3) := by decide +kernel
theorem dX5_firstOf_9 : decode cX5_firstOf 9 = .ok (.if_icmp .ge 28, 3) := by decide +kernel
theorem dX5_firstOf_12 : decode cX5_firstOf 12 = .ok (.aload_n 0, 1) := by decide +kernel
theorem dX5_firstOf_13 : decode cX5_firstOf 13 = .ok (.getfield 9, 3) := by decide +kernel
theorem dX5_firstOf_16 : decode cX5_firstOf 16 = .ok (.iload_n 3, 1) := by decide +kernel
theorem dX5_firstOf_17 : decode cX5_firstOf 17 = .ok (.iaload, 1) := by decide +kernel
theorem dX5_firstOf_18 : decode cX5_firstOf 18 = .ok (.ifCond .ne 13, 3) := by decide +kernel
theorem dX5_firstOf_21 : decode cX5_firstOf 21 = .ok (.iload_n 2, 1) := by decide +kernel
theorem dX5_firstOf_22 : decode cX5_firstOf 22 = .ok (.iload_n 1, 1) := by decide +kernel
theorem dX5_firstOf_23 : decode cX5_firstOf 23 = .ok (.if_icmp .ne 5, 3) := by decide +kernel
theorem dX5_firstOf_26 : decode cX5_firstOf 26 = .ok (.iload_n 3, 1) := by decide +kernel
theorem dX5_firstOf_27 : decode cX5_firstOf 27 = .ok (.ireturn, 1) := by decide +kernel
theorem dX5_firstOf_28 : decode cX5_firstOf 28 = .ok (.iinc 2 1, 3) := by decide +kernel
theorem dX5_firstOf_31 : decode cX5_firstOf 31 = .ok (.iinc 3 1, 3) := by decide +kernel
theorem dX5_firstOf_34 : decode cX5_firstOf 34 = .ok (.goto (-30), 3) := by decide +kernel
theorem dX5_firstOf_37 : decode cX5_firstOf 37 = .ok (.aload_n 0, 1) := by decide +kernel
theorem dX5_firstOf_38 : decode cX5_firstOf 38 = .ok (.getfield 18, 3) := by decide +kernel
theorem dX5_firstOf_41 : decode cX5_firstOf 41 = .ok (.ireturn, 1) := by decide +kernel
theorem dX5_behind_0 : decode cX5_behind 0 = .ok (.aload_n 0, 1) := by decide +kernel
theorem dX5_behind_1 : decode cX5_behind 1 = .ok (.iload_n 1, 1) := by decide +kernel
theorem dX5_behind_2 : decode cX5_behind 2 = .ok (.iconst 1, 1) := by decide +kernel
theorem dX5_behind_3 : decode cX5_behind 3 = .ok (.iadd, 1) := by decide +kernel
theorem dX5_behind_4 : decode cX5_behind 4 = .ok (.invokevirtual 50, 3) := by decide +kernel
theorem dX5_behind_7 : decode cX5_behind 7 = .ok (.ireturn, 1) := by decide +kernel
theorem dX5_areClosed_0 : decode cX5_areClosed 0 = .ok (.iload_n 1, 1) := by decide +kernel
theorem dX5_areClosed_1 : decode cX5_areClosed 1 = .ok (.istore_n 3, 1) := by decide +kernel
theorem dX5_areClosed_2 : decode cX5_areClosed 2 = .ok (.iload_n 3, 1) := by decide +kernel
theorem dX5_areClosed_3 : decode cX5_areClosed 3 = .ok (.iload_n 2, 1) := by decide +kernel
theorem dX5_areClosed_4 : decode cX5_areClosed 4 = .ok (.if_icmp .ge 26, 3) := by decide +kernel
theorem dX5_areClosed_7 : decode cX5_areClosed 7 = .ok (.aload_n 0, 1) := by decide +kernel
theorem dX5_areClosed_8 : decode cX5_areClosed 8 = .ok (.aload_n 0, 1) := by decide +kernel
theorem dX5_areClosed_9 : decode cX5_areClosed 9 = .ok (.iload_n 3, 1) := by decide +kernel
theorem dX5_areClosed_10 : decode cX5_areClosed 10 = .ok (.invokevirtual 53, 3) := by decide +kernel
theorem dX5_areClosed_13 : decode cX5_areClosed 13 = .ok (.iconst 1, 1) := by decide +kernel
theorem dX5_areClosed_14 : decode cX5_areClosed 14 = .ok (.isub, 1) := by decide +kernel
theorem dX5_areClosed_15 : decode cX5_areClosed 15 = .ok (.invokevirtual 38, 3) := by decide +kernel
theorem dX5_areClosed_18 : decode cX5_areClosed 18 = .ok (.iconst 4, 1) := by decide +kernel
theorem dX5_areClosed_19 : decode cX5_areClosed 19 = .ok (.if_icmp .eq 5, 3) := by decide +kernel
theorem dX5_areClosed_22 : decode cX5_areClosed 22 = .ok (.iconst 0, 1) := by decide +kernel
theorem dX5_areClosed_23 : decode cX5_areClosed 23 = .ok (.ireturn, 1) := by decide +kernel
theorem dX5_areClosed_24 : decode cX5_areClosed 24 = .ok (.iinc 3 1, 3) := by decide +kernel
theorem dX5_areClosed_27 : decode cX5_areClosed 27 = .ok (.goto (-25), 3) := by decide +kernel
theorem dX5_areClosed_30 : decode cX5_areClosed 30 = .ok (.iconst 1, 1) := by decide +kernel
theorem dX5_areClosed_31 : decode cX5_areClosed 31 = .ok (.ireturn, 1) := by decide +kernel
theorem dX5_isInRange_0 : decode cX5_isInRange 0 = .ok (.iconst 0, 1) := by decide +kernel
theorem dX5_isInRange_1 : decode cX5_isInRange 1 = .ok (.istore_n 1, 1) := by decide +kernel
theorem dX5_isInRange_2 : decode cX5_isInRange 2 = .ok (.iload_n 1, 1) := by decide +kernel
theorem dX5_isInRange_3 : decode cX5_isInRange 3 = .ok (.aload_n 0, 1) := by decide +kernel
theorem dX5_isInRange_4 : decode cX5_isInRange 4 = .ok (.getfield 18, 3) := by decide +kernel
theorem dX5_isInRange_7 : decode cX5_isInRange 7 = .ok (.if_icmp .ge 44, 3) := by decide +kernel
theorem dX5_isInRange_10 : decode cX5_isInRange 10 = .ok (.iconst 2, 1) := by decide +kernel
theorem dX5_isInRange_11 : decode cX5_isInRange 11 = .ok (.aload_n 0, 1) := by decide +kernel
theorem dX5_isInRange_12 : decode cX5_isInRange 12 = .ok (.iload_n 1, 1) := by decide +kernel
theorem dX5_isInRange_13 : decode cX5_isInRange 13 = .ok (.invokevirtual 42, 3) := by decide +kernel
theorem dX5_isInRange_16 : decode cX5_isInRange 16 = .ok (.imul, 1) := by decide +kernel
theorem dX5_isInRange_17 : decode cX5_isInRange 17 = .ok (.istore_n 2, 1) := by decide +kernel
theorem dX5_isInRange_18 : decode cX5_isInRange 18 = .ok (.iconst 0, 1) := by decide +kernel
theorem dX5_isInRange_19 : decode cX5_isInRange 19 = .ok (.istore_n 3, 1) := by decide +kernel
theorem dX5_isInRange_20 : decode cX5_isInRange 20 = .ok (.iload_n 3, 1) := by decide +kernel
theorem dX5_isInRange_21 : decode cX5_isInRange 21 = .ok (.iload_n 2, 1) := by decide +kernel
theorem dX5_isInRange_22 : decode cX5_isInRange 22 = .ok (.if_icmp .ge 23, 3) := by decide +kernel
theorem dX5_isInRange_25 : decode cX5_isInRange 25 = .ok (.aload_n 0, 1) := by decide +kernel
theorem dX5_isInRange_26 : decode cX5_isInRange 26 = .ok (.iload_n 1, 1) := by decide +kernel
theorem dX5_isInRange_27 : decode cX5_isInRange 27 = .ok (.iload_n 3, 1) := by decide +kernel
theorem dX5_isInRange_28 : decode cX5_isInRange 28 = .ok (.invokevirtual 45, 3) := by decide +kernel
theorem dX5_isInRange_31 : decode cX5_isInRange 31 = .ok (.invokestatic 56, 3) := by decide +kernel
theorem dX5_isInRange_34 : decode cX5_isInRange 34 = .ok (.ifCond .ne 5, 3) := by decide +kernel
theorem dX5_isInRange_37 : decode cX5_isInRange 37 = .ok (.iconst 0, 1) := by decide +kernel
theorem dX5_isInRange_38 : decode cX5_isInRange 38 = .ok (.ireturn, 1) := by decide +kernel
theorem dX5_isInRange_39 : decode cX5_isInRange 39 = .ok (.iinc 3 1, 3) := by decide +kernel
theorem dX5_isInRange_42 : decode cX5_isInRange 42 = .ok (.goto (-22), 3) := by decide +kernel
theorem dX5_isInRange_45 : decode cX5_isInRange 45 = .ok (.iinc 1 1, 3) := by decide +kernel
theorem dX5_isInRange_48 : decode cX5_isInRange 48 = .ok (.goto (-46), 3) := by decide +kernel
theorem dX5_isInRange_51 : decode cX5_isInRange 51 = .ok (.iconst 1, 1) := by decide +kernel
theorem dX5_isInRange_52 : decode cX5_isInRange 52 = .ok (.ireturn, 1) := by decide +kernel
theorem dX5_becomeTransformed_0 : decode cX5_becomeTransformed 0 = .ok (.aload_n 0, 1) := by decide +kernel
theorem dX5_becomeTransformed_1 : decode cX5_becomeTransformed 1 = .ok (.aload_n 1, 1) := by decide +kernel
theorem dX5_becomeTransformed_2 : decode cX5_becomeTransformed 2 = .ok (.invokevirtual 59, 3) := by decide +kernel
theorem dX5_becomeTransformed_5 : decode cX5_becomeTransformed 5 = .ok (.iconst 0, 1) := by decide +kernel
theorem dX5_becomeTransformed_6 : decode cX5_becomeTransformed 6 = .ok (.istore 8, 2) := by decide +kernel
theorem dX5_becomeTransformed_8 : decode cX5_becomeTransformed 8 = .ok (.iload 8, 2) := by decide +kernel
theorem dX5_becomeTransformed_10 : decode cX5_becomeTransformed 10 = .ok (.aload_n 0, 1) := by decide +kernel
theorem dX5_becomeTransformed_11 : decode cX5_becomeTransformed 11 = .ok (.getfield 18, 3) := by decide +kernel
theorem dX5_becomeTransformed_14 : decode cX5_becomeTransformed 14 = .ok (.bipush 6, 2) := by decide +kernel
theorem dX5_becomeTransformed_16 : decode cX5_becomeTransformed 16 = .ok (.imul, 1) := by decide +kernel
theorem dX5_becomeTransformed_17 : decode cX5_becomeTransformed 17 = .ok (.if_icmp .ge 77, 3) := by decide +kernel
theorem dX5_becomeTransformed_20 : decode cX5_becomeTransformed 20 = .ok (.aload_n 0, 1) := by decide +kernel
theorem dX5_becomeTransformed_21 : decode cX5_becomeTransformed 21 = .ok (.getfield 15, 3) := by decide +kernel
theorem dX5_becomeTransformed_24 : decode cX5_becomeTransformed 24 = .ok (.iload 8, 2) := by decide +kernel
theorem dX5_becomeTransformed_26 : decode cX5_becomeTransformed 26 = .ok (.iaload, 1) := by decide +kernel
theorem dX5_becomeTransformed_27 : decode cX5_becomeTransformed 27 = .ok (.istore 9, 2) := by decide +kernel
theorem dX5_becomeTransformed_29 : decode cX5_becomeTransformed 29 = .ok (.aload_n 0, 1) := by decide +kernel
theorem dX5_becomeTransformed_30 : decode cX5_becomeTransformed 30 = .ok (.getfield 15, 3) := by decide +kernel
theorem dX5_becomeTransformed_33 : decode cX5_becomeTransformed 33 = .ok (.iload 8, 2) := by decide +kernel
theorem dX5_becomeTransformed_35 : decode cX5_becomeTransformed 35 = .ok (.iconst 1, 1) := by decide +kernel
theorem dX5_becomeTransformed_36 : decode cX5_becomeTransformed 36 = .ok (.iadd, 1) := by decide +kernel
theorem dX5_becomeTransformed_37 : decode cX5_becomeTransformed 37 = .ok (.iaload, 1) := by decide +kernel
theorem dX5_becomeTransformed_38 : decode cX5_becomeTransformed 38 = .ok (.istore 10, 2) := by decide +kernel
theorem dX5_becomeTransformed_40 : decode cX5_becomeTransformed 40 = .ok (.aload_n 0, 1) := by decide +kernel
theorem dX5_becomeTransformed_41 : decode cX5_becomeTransformed 41 = .ok (.getfield 15, 3) := by decide +kernel
theorem dX5_becomeTransformed_44 : decode cX5_becomeTransformed 44 = .ok (.iload 8, 2) := by decide +kernel
theorem dX5_becomeTransformed_46 : decode cX5_becomeTransformed 46 = .ok (.iload_n 2, 1) := by decide +kernel
theorem dX5_becomeTransformed_47 : decode cX5_becomeTransformed 47 = .ok (.iload 9, 2) := by decide +kernel
theorem dX5_becomeTransformed_49 : decode cX5_becomeTransformed 49 = .ok (.imul, 1) := by decide +kernel
theorem dX5_becomeTransformed_50 : decode cX5_becomeTransformed 50 = .ok (.iload 4, 2) := by decide +kernel
theorem dX5_becomeTransformed_52 : decode cX5_becomeTransformed 52 = .ok (.iload 10, 2) := by decide +kernel
theorem dX5_becomeTransformed_54 : decode cX5_becomeTransformed 54 = .ok (.imul, 1) := by decide +kernel
theorem dX5_becomeTransformed_55 : decode cX5_becomeTransformed 55 = .ok (.iadd, 1) := by decide +kernel
theorem dX5_becomeTransformed_56 : decode cX5_becomeTransformed 56 = .ok (.bipush 8, 2) := by decide +kernel
theorem dX5_becomeTransformed_58 : decode cX5_becomeTransformed 58 = .ok (.ishr, 1) := by decide +kernel
theorem dX5_becomeTransformed_59 : decode cX5_becomeTransformed 59 = .ok (.iload 6, 2) := by decide +kernel
theorem dX5_becomeTransformed_61 : decode cX5_becomeTransformed 61 = .ok (.iadd, 1) := by decide +kernel
theorem dX5_becomeTransformed_62 : decode cX5_becomeTransformed 62 = .ok (.iastore, 1) := by decide +kernel
theorem dX5_becomeTransformed_63 : decode cX5_becomeTransformed 63 = .ok (.aload_n 0, 1) := by decide +kernel
theorem dX5_becomeTransformed_64 : decode cX5_becomeTransformed 64 = .ok (.getfield 15, 3) := by decide +kernel
theorem dX5_becomeTransformed_67 : decode cX5_becomeTransformed 67 = .ok (.iload 8, 2) := by decide +kernel
theorem dX5_becomeTransformed_69 : decode cX5_becomeTransformed 69 = .ok (.iconst 1, 1) := by decide +kernel
theorem dX5_becomeTransformed_70 : decode cX5_becomeTransformed 70 = .ok (.iadd, 1) := by decide +kernel
theorem dX5_becomeTransformed_71 : decode cX5_becomeTransformed 71 = .ok (.iload_n 3, 1) := by decide +kernel
theorem dX5_becomeTransformed_72 : decode cX5_becomeTransformed 72 = .ok (.iload 9, 2) := by decide +kernel
theorem dX5_becomeTransformed_74 : decode cX5_becomeTransformed 74 = .ok (.imul, 1) := by decide +kernel
theorem dX5_becomeTransformed_75 : decode cX5_becomeTransformed 75 = .ok (.iload 5, 2) := by decide +kernel
theorem dX5_becomeTransformed_77 : decode cX5_becomeTransformed 77 = .ok (.iload 10, 2) := by decide +kernel
theorem dX5_becomeTransformed_79 : decode cX5_becomeTransformed 79 = .ok (.imul, 1) := by decide +kernel
theorem dX5_becomeTransformed_80 : decode cX5_becomeTransformed 80 = .ok (.iadd, 1) := by decide +kernel
theorem dX5_becomeTransformed_81 : decode cX5_becomeTransformed 81 = .ok (.bipush 8, 2) := by decide +kernel
theorem dX5_becomeTransformed_83 : decode cX5_becomeTransformed 83 = .ok (.ishr, 1) := by decide +kernel
theorem dX5_becomeTransformed_84 : decode cX5_becomeTransformed 84 = .ok (.iload 7, 2) := by decide +kernel
theorem dX5_becomeTransformed_86 : decode cX5_becomeTransformed 86 = .ok (.iadd, 1) := by decide +kernel
theorem dX5_becomeTransformed_87 : decode cX5_becomeTransformed 87 = .ok (.iastore, 1) := by decide +kernel
theorem dX5_becomeTransformed_88 : decode cX5_becomeTransformed 88 = .ok (.iinc 8 2, 3) := by decide +kernel
theorem dX5_becomeTransformed_91 : decode cX5_becomeTransformed 91 = .ok (.goto (-83), 3) := by decide +kernel
theorem dX5_becomeTransformed_94 : decode cX5_becomeTransformed 94 = .ok (.return_, 1) := by decide +kernel
theorem dX5_becomeReversed_0 : decode cX5_becomeReversed 0 = .ok (.aload_n 0, 1) := by decide +kernel
theorem dX5_becomeReversed_1 : decode cX5_becomeReversed 1 = .ok (.invokevirtual 63, 3) := by decide +kernel
theorem dX5_becomeReversed_4 : decode cX5_becomeReversed 4 = .ok (.aload_n 1, 1) := by decide +kernel
theorem dX5_becomeReversed_5 : decode cX5_becomeReversed 5 = .ok (.iload_n 2, 1) := by decide +kernel
theorem dX5_becomeReversed_6 : decode cX5_becomeReversed 6 = .ok (.invokevirtual 50, 3) := by decide +kernel
theorem dX5_becomeReversed_9 : decode cX5_becomeReversed 9 = .ok (.istore_n 3, 1) := by decide +kernel
theorem dX5_becomeReversed_10 : decode cX5_becomeReversed 10 = .ok (.aload_n 1, 1) := by decide +kernel
theorem dX5_becomeReversed_11 : decode cX5_becomeReversed 11 = .ok (.iload_n 2, 1) := by decide +kernel
theorem dX5_becomeReversed_12 : decode cX5_becomeReversed 12 = .ok (.invokevirtual 53, 3) := by decide +kernel
theorem dX5_becomeReversed_15 : decode cX5_becomeReversed 15 = .ok (.istore 4, 2) := by decide +kernel
theorem dX5_becomeReversed_17 : decode cX5_becomeReversed 17 = .ok (.aload_n 1, 1) := by decide +kernel
theorem dX5_becomeReversed_18 : decode cX5_becomeReversed 18 = .ok (.iload 4, 2) := by decide +kernel
theorem dX5_becomeReversed_20 : decode cX5_becomeReversed 20 = .ok (.iconst 1, 1) := by decide +kernel
theorem dX5_becomeReversed_21 : decode cX5_becomeReversed 21 = .ok (.isub, 1) := by decide +kernel
theorem dX5_becomeReversed_22 : decode cX5_becomeReversed 22 = .ok (.invokevirtual 38, 3) := by decide +kernel
theorem dX5_becomeReversed_25 : decode cX5_becomeReversed 25 = .ok (.iconst 4, 1) := by decide +kernel
theorem dX5_becomeReversed_26 : decode cX5_becomeReversed 26 = .ok (.if_icmp .ne 7, 3) := by decide +kernel
theorem dX5_becomeReversed_29 : decode cX5_becomeReversed 29 = .ok (.iconst 1, 1) := by decide +kernel
theorem dX5_becomeReversed_30 : decode cX5_becomeReversed 30 = .ok (.goto 4, 3) := by decide +kernel
theorem dX5_becomeReversed_33 : decode cX5_becomeReversed 33 = .ok (.iconst 0, 1) := by decide +kernel
theorem dX5_becomeReversed_34 : decode cX5_becomeReversed 34 = .ok (.istore 5, 2) := by decide +kernel
theorem dX5_becomeReversed_36 : decode cX5_becomeReversed 36 = .ok (.iload 5, 2) := by decide +kernel
theorem dX5_becomeReversed_38 : decode cX5_becomeReversed 38 = .ok (.ifCond .eq 10, 3) := by decide +kernel
theorem dX5_becomeReversed_41 : decode cX5_becomeReversed 41 = .ok (.iload 4, 2) := by decide +kernel
theorem dX5_becomeReversed_43 : decode cX5_becomeReversed 43 = .ok (.iconst 2, 1) := by decide +kernel
theorem dX5_becomeReversed_44 : decode cX5_becomeReversed 44 = .ok (.isub, 1) := by decide +kernel
theorem dX5_becomeReversed_45 : decode cX5_becomeReversed 45 = .ok (.goto 7, 3) := by decide +kernel
theorem dX5_becomeReversed_48 : decode cX5_becomeReversed 48 = .ok (.iload 4, 2) := by decide +kernel
theorem dX5_becomeReversed_50 : decode cX5_becomeReversed 50 = .ok (.iconst 1, 1) := by decide +kernel
theorem dX5_becomeReversed_51 : decode cX5_becomeReversed 51 = .ok (.isub, 1) := by decide +kernel
theorem dX5_becomeReversed_52 : decode cX5_becomeReversed 52 = .ok (.istore 6, 2) := by decide +kernel
theorem dX5_becomeReversed_54 : decode cX5_becomeReversed 54 = .ok (.aload_n 0, 1) := by decide +kernel
theorem dX5_becomeReversed_55 : decode cX5_becomeReversed 55 = .ok (.aload_n 1, 1) := by decide +kernel
theorem dX5_becomeReversed_56 : decode cX5_becomeReversed 56 = .ok (.iconst 0, 1) := by decide +kernel
theorem dX5_becomeReversed_57 : decode cX5_becomeReversed 57 = .ok (.iload_n 3, 1) := by decide +kernel
theorem dX5_becomeReversed_58 : decode cX5_becomeReversed 58 = .ok (.invokevirtual 66, 3) := by decide +kernel
theorem dX5_becomeReversed_61 : decode cX5_becomeReversed 61 = .ok (.aload_n 0, 1) := by decide +kernel
theorem dX5_becomeReversed_62 : decode cX5_becomeReversed 62 = .ok (.iconst 0, 1) := by decide +kernel
theorem dX5_becomeReversed_63 : decode cX5_becomeReversed 63 = .ok (.aload_n 1, 1) := by decide +kernel
theorem dX5_becomeReversed_64 : decode cX5_becomeReversed 64 = .ok (.iload 6, 2) := by decide +kernel
theorem dX5_becomeReversed_66 : decode cX5_becomeReversed 66 = .ok (.invokevirtual 70, 3) := by decide +kernel
theorem dX5_becomeReversed_69 : decode cX5_becomeReversed 69 = .ok (.aload_n 1, 1) := by decide +kernel
theorem dX5_becomeReversed_70 : decode cX5_becomeReversed 70 = .ok (.iload 6, 2) := by decide +kernel
theorem dX5_becomeReversed_72 : decode cX5_becomeReversed 72 = .ok (.invokevirtual 73, 3) := by decide +kernel
theorem dX5_becomeReversed_75 : decode cX5_becomeReversed 75 = .ok (.iconst 0, 1) := by decide +kernel
theorem dX5_becomeReversed_76 : decode cX5_becomeReversed 76 = .ok (.iconst 0, 1) := by decide +kernel
theorem dX5_becomeReversed_77 : decode cX5_becomeReversed 77 = .ok (.iconst 0, 1) := by decide +kernel
theorem dX5_becomeReversed_78 : decode cX5_becomeReversed 78 = .ok (.iconst 0, 1) := by decide +kernel
theorem dX5_becomeReversed_79 : decode cX5_becomeReversed 79 = .ok (.invokevirtual 76, 3) := by decide +kernel
theorem dX5_becomeReversed_82 : decode cX5_becomeReversed 82 = .ok (.iload 6, 2) := by decide +kernel
theorem dX5_becomeReversed_84 : decode cX5_becomeReversed 84 = .ok (.istore 7, 2) := by decide +kernel
theorem dX5_becomeReversed_86 : decode cX5_becomeReversed 86 = .ok (.iload 7, 2) := by decide +kernel
theorem dX5_becomeReversed_88 : decode cX5_becomeReversed 88 = .ok (.iload_n 3, 1) := by decide +kernel
theorem dX5_becomeReversed_89 : decode cX5_becomeReversed 89 = .ok (.if_icmp .le 16, 3) := by decide +kernel
theorem dX5_becomeReversed_92 : decode cX5_becomeReversed 92 = .ok (.aload_n 0, 1) := by decide +kernel
theorem dX5_becomeReversed_93 : decode cX5_becomeReversed 93 = .ok (.aload_n 1, 1) := by decide +kernel
theorem dX5_becomeReversed_94 : decode cX5_becomeReversed 94 = .ok (.iload 7, 2) := by decide +kernel
theorem dX5_becomeReversed_96 : decode cX5_becomeReversed 96 = .ok (.invokevirtual 80, 3) := by decide +kernel
theorem dX5_becomeReversed_99 : decode cX5_becomeReversed 99 = .ok (.iinc 7 (-1), 3) := by decide +kernel
theorem dX5_becomeReversed_102 : decode cX5_becomeReversed 102 = .ok (.goto (-16), 3) := by decide +kernel
theorem dX5_becomeReversed_105 : decode cX5_becomeReversed 105 = .ok (.iload 5, 2) := by decide +kernel
theorem dX5_becomeReversed_107 : decode cX5_becomeReversed 107 = .ok (.ifCond .eq 24, 3) := by decide +kernel
theorem dX5_becomeReversed_110 : decode cX5_becomeReversed 110 = .ok (.aload_n 0, 1) := by decide +kernel
theorem dX5_becomeReversed_111 : decode cX5_becomeReversed 111 = .ok (.iconst 4, 1) := by decide +kernel
theorem dX5_becomeReversed_112 : decode cX5_becomeReversed 112 = .ok (.aload_n 1, 1) := by decide +kernel
theorem dX5_becomeReversed_113 : decode cX5_becomeReversed 113 = .ok (.iload 6, 2) := by decide +kernel
theorem dX5_becomeReversed_115 : decode cX5_becomeReversed 115 = .ok (.invokevirtual 70, 3) := by decide +kernel
theorem dX5_becomeReversed_118 : decode cX5_becomeReversed 118 = .ok (.aload_n 1, 1) := by decide +kernel
theorem dX5_becomeReversed_119 : decode cX5_becomeReversed 119 = .ok (.iload 6, 2) := by decide +kernel
theorem dX5_becomeReversed_121 : decode cX5_becomeReversed 121 = .ok (.invokevirtual 73, 3) := by decide +kernel
theorem dX5_becomeReversed_124 : decode cX5_becomeReversed 124 = .ok (.iconst 0, 1) := by decide +kernel
theorem dX5_becomeReversed_125 : decode cX5_becomeReversed 125 = .ok (.iconst 0, 1) := by decide +kernel
theorem dX5_becomeReversed_126 : decode cX5_becomeReversed 126 = .ok (.iconst 0, 1) := by decide +kernel
theorem dX5_becomeReversed_127 : decode cX5_becomeReversed 127 = .ok (.iconst 0, 1) := by decide +kernel
theorem dX5_becomeReversed_128 : decode cX5_becomeReversed 128 = .ok (.invokevirtual 76, 3) := by decide +kernel
theorem dX5_becomeReversed_131 : decode cX5_becomeReversed 131 = .ok (.aload_n 0, 1) := by decide +kernel
theorem dX5_becomeReversed_132 : decode cX5_becomeReversed 132 = .ok (.aload_n 1, 1) := by decide +kernel
theorem dX5_becomeReversed_133 : decode cX5_becomeReversed 133 = .ok (.iload 4, 2) := by decide +kernel
theorem dX5_becomeReversed_135 : decode cX5_becomeReversed 135 = .ok (.aload_n 1, 1) := by decide +kernel
theorem dX5_becomeReversed_136 : decode cX5_becomeReversed 136 = .ok (.getfield 18, 3) := by decide +kernel
theorem dX5_becomeReversed_139 : decode cX5_becomeReversed 139 = .ok (.invokevirtual 66, 3) := by decide +kernel
theorem dX5_becomeReversed_142 : decode cX5_becomeReversed 142 = .ok (.return_, 1) := by decide +kernel
theorem dX5_addCopies_0 : decode cX5_addCopies 0 = .ok (.iload_n 2, 1) := by decide +kernel
theorem dX5_addCopies_1 : decode cX5_addCopies 1 = .ok (.istore 4, 2) := by decide +kernel
theorem dX5_addCopies_3 : decode cX5_addCopies 3 = .ok (.iload 4, 2) := by decide +kernel
theorem dX5_addCopies_5 : decode cX5_addCopies 5 = .ok (.iload_n 3, 1) := by decide +kernel
theorem dX5_addCopies_6 : decode cX5_addCopies 6 = .ok (.if_icmp .ge 61, 3) := by decide +kernel
theorem dX5_addCopies_9 : decode cX5_addCopies 9 = .ok (.aload_n 0, 1) := by decide +kernel
theorem dX5_addCopies_10 : decode cX5_addCopies 10 = .ok (.aload_n 1, 1) := by decide +kernel
theorem dX5_addCopies_11 : decode cX5_addCopies 11 = .ok (.iload 4, 2) := by decide +kernel
theorem dX5_addCopies_13 : decode cX5_addCopies 13 = .ok (.invokevirtual 38, 3) := by decide +kernel
theorem dX5_addCopies_16 : decode cX5_addCopies 16 = .ok (.aload_n 1, 1) := by decide +kernel
theorem dX5_addCopies_17 : decode cX5_addCopies 17 = .ok (.iload 4, 2) := by decide +kernel
theorem dX5_addCopies_19 : decode cX5_addCopies 19 = .ok (.iconst 0, 1) := by decide +kernel
theorem dX5_addCopies_20 : decode cX5_addCopies 20 = .ok (.invokevirtual 45, 3) := by decide +kernel
theorem dX5_addCopies_23 : decode cX5_addCopies 23 = .ok (.aload_n 1, 1) := by decide +kernel
theorem dX5_addCopies_24 : decode cX5_addCopies 24 = .ok (.iload 4, 2) := by decide +kernel
theorem dX5_addCopies_26 : decode cX5_addCopies 26 = .ok (.iconst 1, 1) := by decide +kernel
theorem dX5_addCopies_27 : decode cX5_addCopies 27 = .ok (.invokevirtual 45, 3) := by decide +kernel
theorem dX5_addCopies_30 : decode cX5_addCopies 30 = .ok (.aload_n 1, 1) := by decide +kernel
theorem dX5_addCopies_31 : decode cX5_addCopies 31 = .ok (.iload 4, 2) := by decide +kernel
theorem dX5_addCopies_33 : decode cX5_addCopies 33 = .ok (.iconst 2, 1) := by decide +kernel
theorem dX5_addCopies_34 : decode cX5_addCopies 34 = .ok (.invokevirtual 45, 3) := by decide +kernel
theorem dX5_addCopies_37 : decode cX5_addCopies 37 = .ok (.aload_n 1, 1) := by decide +kernel
theorem dX5_addCopies_38 : decode cX5_addCopies 38 = .ok (.iload 4, 2) := by decide +kernel
theorem dX5_addCopies_40 : decode cX5_addCopies 40 = .ok (.iconst 3, 1) := by decide +kernel
theorem dX5_addCopies_41 : decode cX5_addCopies 41 = .ok (.invokevirtual 45, 3) := by decide +kernel
theorem dX5_addCopies_44 : decode cX5_addCopies 44 = .ok (.aload_n 1, 1) := by decide +kernel
theorem dX5_addCopies_45 : decode cX5_addCopies 45 = .ok (.iload 4, 2) := by decide +kernel
theorem dX5_addCopies_47 : decode cX5_addCopies 47 = .ok (.iconst 4, 1) := by decide +kernel
theorem dX5_addCopies_48 : decode cX5_addCopies 48 = .ok (.invokevirtual 45, 3) := by decide +kernel
theorem dX5_addCopies_51 : decode cX5_addCopies 51 = .ok (.aload_n 1, 1) := by decide +kernel
theorem dX5_addCopies_52 : decode cX5_addCopies 52 = .ok (.iload 4, 2) := by decide +kernel
theorem dX5_addCopies_54 : decode cX5_addCopies 54 = .ok (.iconst 5, 1) := by decide +kernel
theorem dX5_addCopies_55 : decode cX5_addCopies 55 = .ok (.invokevirtual 45, 3) := by decide +kernel
theorem dX5_addCopies_58 : decode cX5_addCopies 58 = .ok (.invokevirtual 76, 3) := by decide +kernel
theorem dX5_addCopies_61 : decode cX5_addCopies 61 = .ok (.iinc 4 1, 3) := by decide +kernel
theorem dX5_addCopies_64 : decode cX5_addCopies 64 = .ok (.goto (-61), 3) := by decide +kernel
theorem dX5_addCopies_67 : decode cX5_addCopies 67 = .ok (.return_, 1) := by decide +kernel
theorem dX5_addBackward_0 : decode cX5_addBackward 0 = .ok (.aload_n 1, 1) := by decide +kernel
theorem dX5_addBackward_1 : decode cX5_addBackward 1 = .ok (.iload_n 2, 1) := by decide +kernel
theorem dX5_addBackward_2 : decode cX5_addBackward 2 = .ok (.iconst 1, 1) := by decide +kernel
theorem dX5_addBackward_3 : decode cX5_addBackward 3 = .ok (.isub, 1) := by decide +kernel
theorem dX5_addBackward_4 : decode cX5_addBackward 4 = .ok (.invokevirtual 70, 3) := by decide +kernel
theorem dX5_addBackward_7 : decode cX5_addBackward 7 = .ok (.istore_n 3, 1) := by decide +kernel
theorem dX5_addBackward_8 : decode cX5_addBackward 8 = .ok (.aload_n 1, 1) := by decide +kernel
theorem dX5_addBackward_9 : decode cX5_addBackward 9 = .ok (.iload_n 2, 1) := by decide +kernel
theorem dX5_addBackward_10 : decode cX5_addBackward 10 = .ok (.iconst 1, 1) := by decide +kernel
theorem dX5_addBackward_11 : decode cX5_addBackward 11 = .ok (.isub, 1) := by decide +kernel
theorem dX5_addBackward_12 : decode cX5_addBackward 12 = .ok (.invokevirtual 73, 3) := by decide +kernel
theorem dX5_addBackward_15 : decode cX5_addBackward 15 = .ok (.istore 4, 2) := by decide +kernel
theorem dX5_addBackward_17 : decode cX5_addBackward 17 = .ok (.aload_n 1, 1) := by decide +kernel
theorem dX5_addBackward_18 : decode cX5_addBackward 18 = .ok (.iload_n 2, 1) := by decide +kernel
theorem dX5_addBackward_19 : decode cX5_addBackward 19 = .ok (.invokevirtual 38, 3) := by decide +kernel
theorem dX5_addBackward_22 : decode cX5_addBackward 22 = .ok (.istore 5, 2) := by decide +kernel
theorem dX5_addBackward_24 : decode cX5_addBackward 24 = .ok (.iload 5, 2) := by decide +kernel
theorem dX5_addBackward_26 : decode cX5_addBackward 26 = .ok (.iconst 3, 1) := by decide +kernel
theorem dX5_addBackward_27 : decode cX5_addBackward 27 = .ok (.if_icmp .ne 38, 3) := by decide +kernel
theorem dX5_addBackward_30 : decode cX5_addBackward 30 = .ok (.aload_n 0, 1) := by decide +kernel
theorem dX5_addBackward_31 : decode cX5_addBackward 31 = .ok (.iconst 3, 1) := by decide +kernel
theorem dX5_addBackward_32 : decode cX5_addBackward 32 = .ok (.aload_n 1, 1) := by decide +kernel
theorem dX5_addBackward_33 : decode cX5_addBackward 33 = .ok (.iload_n 2, 1) := by decide +kernel
theorem dX5_addBackward_34 : decode cX5_addBackward 34 = .ok (.iconst 2, 1) := by decide +kernel
theorem dX5_addBackward_35 : decode cX5_addBackward 35 = .ok (.invokevirtual 45, 3) := by decide +kernel
theorem dX5_addBackward_38 : decode cX5_addBackward 38 = .ok (.aload_n 1, 1) := by decide +kernel
theorem dX5_addBackward_39 : decode cX5_addBackward 39 = .ok (.iload_n 2, 1) := by decide +kernel
theorem dX5_addBackward_40 : decode cX5_addBackward 40 = .ok (.iconst 3, 1) := by decide +kernel
theorem dX5_addBackward_41 : decode cX5_addBackward 41 = .ok (.invokevirtual 45, 3) := by decide +kernel
theorem dX5_addBackward_44 : decode cX5_addBackward 44 = .ok (.aload_n 1, 1) := by decide +kernel
theorem dX5_addBackward_45 : decode cX5_addBackward 45 = .ok (.iload_n 2, 1) := by decide +kernel
theorem dX5_addBackward_46 : decode cX5_addBackward 46 = .ok (.iconst 0, 1) := by decide +kernel
theorem dX5_addBackward_47 : decode cX5_addBackward 47 = .ok (.invokevirtual 45, 3) := by decide +kernel
theorem dX5_addBackward_50 : decode cX5_addBackward 50 = .ok (.aload_n 1, 1) := by decide +kernel
theorem dX5_addBackward_51 : decode cX5_addBackward 51 = .ok (.iload_n 2, 1) := by decide +kernel
theorem dX5_addBackward_52 : decode cX5_addBackward 52 = .ok (.iconst 1, 1) := by decide +kernel
theorem dX5_addBackward_53 : decode cX5_addBackward 53 = .ok (.invokevirtual 45, 3) := by decide +kernel
theorem dX5_addBackward_56 : decode cX5_addBackward 56 = .ok (.iload_n 3, 1) := by decide +kernel
theorem dX5_addBackward_57 : decode cX5_addBackward 57 = .ok (.iload 4, 2) := by decide +kernel
theorem dX5_addBackward_59 : decode cX5_addBackward 59 = .ok (.invokevirtual 76, 3) := by decide +kernel
theorem dX5_addBackward_62 : decode cX5_addBackward 62 = .ok (.goto 47, 3) := by decide +kernel
theorem dX5_addBackward_65 : decode cX5_addBackward 65 = .ok (.iload 5, 2) := by decide +kernel
theorem dX5_addBackward_67 : decode cX5_addBackward 67 = .ok (.iconst 2, 1) := by decide +kernel
theorem dX5_addBackward_68 : decode cX5_addBackward 68 = .ok (.if_icmp .ne 28, 3) := by decide +kernel
theorem dX5_addBackward_71 : decode cX5_addBackward 71 = .ok (.aload_n 0, 1) := by decide +kernel
theorem dX5_addBackward_72 : decode cX5_addBackward 72 = .ok (.iconst 2, 1) := by decide +kernel
theorem dX5_addBackward_73 : decode cX5_addBackward 73 = .ok (.aload_n 1, 1) := by decide +kernel
theorem dX5_addBackward_74 : decode cX5_addBackward 74 = .ok (.iload_n 2, 1) := by decide +kernel
theorem dX5_addBackward_75 : decode cX5_addBackward 75 = .ok (.iconst 0, 1) := by decide +kernel
theorem dX5_addBackward_76 : decode cX5_addBackward 76 = .ok (.invokevirtual 45, 3) := by decide +kernel
theorem dX5_addBackward_79 : decode cX5_addBackward 79 = .ok (.aload_n 1, 1) := by decide +kernel
theorem dX5_addBackward_80 : decode cX5_addBackward 80 = .ok (.iload_n 2, 1) := by decide +kernel
theorem dX5_addBackward_81 : decode cX5_addBackward 81 = .ok (.iconst 1, 1) := by decide +kernel
theorem dX5_addBackward_82 : decode cX5_addBackward 82 = .ok (.invokevirtual 45, 3) := by decide +kernel
theorem dX5_addBackward_85 : decode cX5_addBackward 85 = .ok (.iload_n 3, 1) := by decide +kernel
theorem dX5_addBackward_86 : decode cX5_addBackward 86 = .ok (.iload 4, 2) := by decide +kernel
theorem dX5_addBackward_88 : decode cX5_addBackward 88 = .ok (.iconst 0, 1) := by decide +kernel
theorem dX5_addBackward_89 : decode cX5_addBackward 89 = .ok (.iconst 0, 1) := by decide +kernel
theorem dX5_addBackward_90 : decode cX5_addBackward 90 = .ok (.invokevirtual 76, 3) := by decide +kernel
theorem dX5_addBackward_93 : decode cX5_addBackward 93 = .ok (.goto 16, 3) := by decide +kernel
theorem dX5_addBackward_96 : decode cX5_addBackward 96 = .ok (.aload_n 0, 1) := by decide +kernel
theorem dX5_addBackward_97 : decode cX5_addBackward 97 = .ok (.iload 5, 2) := by decide +kernel
theorem dX5_addBackward_99 : decode cX5_addBackward 99 = .ok (.iload_n 3, 1) := by decide +kernel
theorem dX5_addBackward_100 : decode cX5_addBackward 100 = .ok (.iload 4, 2) := by decide +kernel
theorem dX5_addBackward_102 : decode cX5_addBackward 102 = .ok (.iconst 0, 1) := by decide +kernel
theorem dX5_addBackward_103 : decode cX5_addBackward 103 = .ok (.iconst 0, 1) := by decide +kernel
theorem dX5_addBackward_104 : decode cX5_addBackward 104 = .ok (.iconst 0, 1) := by decide +kernel
theorem dX5_addBackward_105 : decode cX5_addBackward 105 = .ok (.iconst 0, 1) := by decide +kernel
theorem dX5_addBackward_106 : decode cX5_addBackward 106 = .ok (.invokevirtual 76, 3) := by decide +kernel
theorem dX5_addBackward_109 : decode cX5_addBackward 109 = .ok (.return_, 1) := by decide +kernel
theorem dX6_init_0 : decode cX6_init 0 = .ok (.aload_n 0, 1) := by decide +kernel
theorem dX6_init_1 : decode cX6_init 1 = .ok (.invokespecial 3, 3) := by decide +kernel
theorem dX6_init_4 : decode cX6_init 4 = .ok (.aload_n 0, 1) := by decide +kernel
theorem dX6_init_5 : decode cX6_init 5 = .ok (.bipush 6, 2) := by decide +kernel
theorem dX6_init_7 : decode cX6_init 7 = .ok (.newarray .int, 2) := by decide +kernel
theorem dX6_init_9 : decode cX6_init 9 = .ok (.putfield 9, 3) := by decide +kernel
theorem dX6_init_12 : decode cX6_init 12 = .ok (.aload_n 0, 1) := by decide +kernel
theorem dX6_init_13 : decode cX6_init 13 = .ok (.invokevirtual 15, 3) := by decide +kernel
theorem dX6_init_16 : decode cX6_init 16 = .ok (.return_, 1) := by decide +kernel
theorem dX6_begin_0 : decode cX6_begin 0 = .ok (.aload_n 0, 1) := by decide +kernel
theorem dX6_begin_1 : decode cX6_begin 1 = .ok (.iconst (-1), 1) := by decide +kernel
theorem dX6_begin_2 : decode cX6_begin 2 = .ok (.putfield 18, 3) := by decide +kernel
theorem dX6_begin_5 : decode cX6_begin 5 = .ok (.aload_n 0, 1) := by decide +kernel
theorem dX6_begin_6 : decode cX6_begin 6 = .ok (.iconst 0, 1) := by decide +kernel
theorem dX6_begin_7 : decode cX6_begin 7 = .ok (.putfield 22, 3) := by decide +kernel
theorem dX6_begin_10 : decode cX6_begin 10 = .ok (.aload_n 0, 1) := by decide +kernel
theorem dX6_begin_11 : decode cX6_begin 11 = .ok (.iconst 0, 1) := by decide +kernel
theorem dX6_begin_12 : decode cX6_begin 12 = .ok (.putfield 26, 3) := by decide +kernel
theorem dX6_begin_15 : decode cX6_begin 15 = .ok (.aload_n 0, 1) := by decide +kernel
theorem dX6_begin_16 : decode cX6_begin 16 = .ok (.iconst 0, 1) := by decide +kernel
theorem dX6_begin_17 : decode cX6_begin 17 = .ok (.putfield 29, 3) := by decide +kernel
theorem dX6_begin_20 : decode cX6_begin 20 = .ok (.aload_n 0, 1) := by decide +kernel
theorem dX6_begin_21 : decode cX6_begin 21 = .ok (.iconst 0, 1) := by decide +kernel
theorem dX6_begin_22 : decode cX6_begin 22 = .ok (.putfield 32, 3) := by decide +kernel
theorem dX6_begin_25 : decode cX6_begin 25 = .ok (.aload_n 0, 1) := by decide +kernel
theorem dX6_begin_26 : decode cX6_begin 26 = .ok (.iconst 0, 1) := by decide +kernel
theorem dX6_begin_27 : decode cX6_begin 27 = .ok (.putfield 35, 3) := by decide +kernel
theorem dX6_begin_30 : decode cX6_begin 30 = .ok (.aload_n 0, 1) := by decide +kernel
theorem dX6_begin_31 : decode cX6_begin 31 = .ok (.iconst 0, 1) := by decide +kernel
theorem dX6_begin_32 : decode cX6_begin 32 = .ok (.putfield 38, 3) := by decide +kernel
theorem dX6_begin_35 : decode cX6_begin 35 = .ok (.aload_n 0, 1) := by decide +kernel
theorem dX6_begin_36 : decode cX6_begin 36 = .ok (.iconst 0, 1) := by decide +kernel
theorem dX6_begin_37 : decode cX6_begin 37 = .ok (.putfield 41, 3) := by decide +kernel
theorem dX6_begin_40 : decode cX6_begin 40 = .ok (.aload_n 0, 1) := by decide +kernel
theorem dX6_begin_41 : decode cX6_begin 41 = .ok (.iconst 0, 1) := by decide +kernel
theorem dX6_begin_42 : decode cX6_begin 42 = .ok (.putfield 44, 3) := by decide +kernel
theorem dX6_begin_45 : decode cX6_begin 45 = .ok (.aload_n 0, 1) := by decide +kernel
theorem dX6_begin_46 : decode cX6_begin 46 = .ok (.invokevirtual 47, 3) := by decide +kernel
theorem dX6_begin_49 : decode cX6_begin 49 = .ok (.return_, 1) := by decide +kernel
theorem dX6_beginNumber_0 : decode cX6_beginNumber 0 = .ok (.aload_n 0, 1) := by decide +kernel
theorem dX6_beginNumber_1 : decode cX6_beginNumber 1 = .ok (.iconst 0, 1) := by decide +kernel
theorem dX6_beginNumber_2 : decode cX6_beginNumber 2 = .ok (.putfield 50, 3) := by decide +kernel
theorem dX6_beginNumber_5 : decode cX6_beginNumber 5 = .ok (.aload_n 0, 1) := by decide +kernel
theorem dX6_beginNumber_6 : decode cX6_beginNumber 6 = .ok (.iconst 0, 1) := by decide +kernel
theorem dX6_beginNumber_7 : decode cX6_beginNumber 7 = .ok (.putfield 53, 3) := by decide +kernel
theorem dX6_beginNumber_10 : decode cX6_beginNumber 10 = .ok (.aload_n 0, 1) := by decide +kernel
theorem dX6_beginNumber_11 : decode cX6_beginNumber 11 = .ok (.iconst 0, 1) := by decide +kernel
theorem dX6_beginNumber_12 : decode cX6_beginNumber 12 = .ok (.putfield 56, 3) := by decide +kernel
theorem dX6_beginNumber_15 : decode cX6_beginNumber 15 = .ok (.return_, 1) := by decide +kernel
theorem dX6_takes_0 : decode cX6_takes 0 = .ok (.iload_n 1, 1) := by decide +kernel
theorem dX6_takes_1 : decode cX6_takes 1 = .ok (.bipush 48, 2) := by decide +kernel
theorem dX6_takes_3 : decode cX6_takes 3 = .ok (.if_icmp .lt 18, 3) := by decide +kernel
theorem dX6_takes_6 : decode cX6_takes 6 = .ok (.iload_n 1, 1) := by decide +kernel
theorem dX6_takes_7 : decode cX6_takes 7 = .ok (.bipush 57, 2) := by decide +kernel
theorem dX6_takes_9 : decode cX6_takes 9 = .ok (.if_icmp .gt 12, 3) := by decide +kernel
theorem dX6_takes_12 : decode cX6_takes 12 = .ok (.aload_n 0, 1) := by decide +kernel
theorem dX6_takes_13 : decode cX6_takes 13 = .ok (.iload_n 1, 1) := by decide +kernel
theorem dX6_takes_14 : decode cX6_takes 14 = .ok (.bipush 48, 2) := by decide +kernel
theorem dX6_takes_16 : decode cX6_takes 16 = .ok (.isub, 1) := by decide +kernel
theorem dX6_takes_17 : decode cX6_takes 17 = .ok (.invokevirtual 59, 3) := by decide +kernel
theorem dX6_takes_20 : decode cX6_takes 20 = .ok (.ireturn, 1) := by decide +kernel
theorem dX6_takes_21 : decode cX6_takes 21 = .ok (.iload_n 1, 1) := by decide +kernel
theorem dX6_takes_22 : decode cX6_takes 22 = .ok (.bipush 45, 2) := by decide +kernel
theorem dX6_takes_24 : decode cX6_takes 24 = .ok (.if_icmp .ne 8, 3) := by decide +kernel
theorem dX6_takes_27 : decode cX6_takes 27 = .ok (.aload_n 0, 1) := by decide +kernel
theorem dX6_takes_28 : decode cX6_takes 28 = .ok (.invokevirtual 63, 3) := by decide +kernel
theorem dX6_takes_31 : decode cX6_takes 31 = .ok (.ireturn, 1) := by decide +kernel
theorem dX6_takes_32 : decode cX6_takes 32 = .ok (.iload_n 1, 1) := by decide +kernel
theorem dX6_takes_33 : decode cX6_takes 33 = .ok (.bipush 44, 2) := by decide +kernel
theorem dX6_takes_35 : decode cX6_takes 35 = .ok (.if_icmp .ne 8, 3) := by decide +kernel
theorem dX6_takes_38 : decode cX6_takes 38 = .ok (.aload_n 0, 1) := by decide +kernel
theorem dX6_takes_39 : decode cX6_takes 39 = .ok (.invokevirtual 67, 3) := by decide +kernel
theorem dX6_takes_42 : decode cX6_takes 42 = .ok (.ireturn, 1) := by decide +kernel
theorem dX6_takes_43 : decode cX6_takes 43 = .ok (.aload_n 0, 1) := by decide +kernel
theorem dX6_takes_44 : decode cX6_takes 44 = .ok (.iload_n 1, 1) := by decide +kernel
theorem dX6_takes_45 : decode cX6_takes 45 = .ok (.aload_n 2, 1) := by decide +kernel
theorem dX6_takes_46 : decode cX6_takes 46 = .ok (.invokevirtual 70, 3) := by decide +kernel
theorem dX6_takes_49 : decode cX6_takes 49 = .ok (.ireturn, 1) := by decide +kernel
theorem dX6_takesDigit_0 : decode cX6_takesDigit 0 = .ok (.aload_n 0, 1) := by decide +kernel
theorem dX6_takesDigit_1 : decode cX6_takesDigit 1 = .ok (.getfield 53, 3) := by decide +kernel
theorem dX6_takesDigit_4 : decode cX6_takesDigit 4 = .ok (.ifCond .le 14, 3) := by decide +kernel
theorem dX6_takesDigit_7 : decode cX6_takesDigit 7 = .ok (.aload_n 0, 1) := by decide +kernel
theorem dX6_takesDigit_8 : decode cX6_takesDigit 8 = .ok (.getfield 50, 3) := by decide +kernel
theorem dX6_takesDigit_11 : decode cX6_takesDigit 11 = .ok (.ifCond .ne 7, 3) := by decide +kernel
theorem dX6_takesDigit_14 : decode cX6_takesDigit 14 = .ok (.iconst 1, 1) := by decide +kernel
theorem dX6_takesDigit_15 : decode cX6_takesDigit 15 = .ok (.goto 4, 3) := by decide +kernel
theorem dX6_takesDigit_18 : decode cX6_takesDigit 18 = .ok (.iconst 0, 1) := by decide +kernel
theorem dX6_takesDigit_19 : decode cX6_takesDigit 19 = .ok (.istore_n 2, 1) := by decide +kernel
theorem dX6_takesDigit_20 : decode cX6_takesDigit 20 = .ok (.bipush 10, 2) := by decide +kernel
theorem dX6_takesDigit_22 : decode cX6_takesDigit 22 = .ok (.aload_n 0, 1) := by decide +kernel
theorem dX6_takesDigit_23 : decode cX6_takesDigit 23 = .ok (.getfield 50, 3) := by decide +kernel
theorem dX6_takesDigit_26 : decode cX6_takesDigit 26 = .ok (.imul, 1) := by decide +kernel
theorem dX6_takesDigit_27 : decode cX6_takesDigit 27 = .ok (.iload_n 1, 1) := by decide +kernel
theorem dX6_takesDigit_28 : decode cX6_takesDigit 28 = .ok (.iadd, 1) := by decide +kernel
theorem dX6_takesDigit_29 : decode cX6_takesDigit 29 = .ok (.istore_n 3, 1) := by decide +kernel
theorem dX6_takesDigit_30 : decode cX6_takesDigit 30 = .ok (.aload_n 0, 1) := by decide +kernel
theorem dX6_takesDigit_31 : decode cX6_takesDigit 31 = .ok (.getfield 29, 3) := by decide +kernel
theorem dX6_takesDigit_34 : decode cX6_takesDigit 34 = .ok (.aload_n 0, 1) := by decide +kernel
theorem dX6_takesDigit_35 : decode cX6_takesDigit 35 = .ok (.getfield 26, 3) := by decide +kernel
theorem dX6_takesDigit_38 : decode cX6_takesDigit 38 = .ok (.if_icmp .ge 14, 3) := by decide +kernel
theorem dX6_takesDigit_41 : decode cX6_takesDigit 41 = .ok (.iload_n 2, 1) := by decide +kernel
theorem dX6_takesDigit_42 : decode cX6_takesDigit 42 = .ok (.ifCond .ne 10, 3) := by decide +kernel
theorem dX6_takesDigit_45 : decode cX6_takesDigit 45 = .ok (.iload_n 3, 1) := by decide +kernel
theorem dX6_takesDigit_46 : decode cX6_takesDigit 46 = .ok (.sipush 4000, 3) := by decide +kernel
theorem dX6_takesDigit_49 : decode cX6_takesDigit 49 = .ok (.if_icmp .le 5, 3) := by decide +kernel
theorem dX6_takesDigit_52 : decode cX6_takesDigit 52 = .ok (.iconst 0, 1) := by decide +kernel
theorem dX6_takesDigit_53 : decode cX6_takesDigit 53 = .ok (.ireturn, 1) := by decide +kernel
theorem dX6_takesDigit_54 : decode cX6_takesDigit 54 = .ok (.aload_n 0, 1) := by decide +kernel
theorem dX6_takesDigit_55 : decode cX6_takesDigit 55 = .ok (.iload_n 3, 1) := by decide +kernel
theorem dX6_takesDigit_56 : decode cX6_takesDigit 56 = .ok (.putfield 50, 3) := by decide +kernel
theorem dX6_takesDigit_59 : decode cX6_takesDigit 59 = .ok (.aload_n 0, 1) := by decide +kernel
theorem dX6_takesDigit_60 : decode cX6_takesDigit 60 = .ok (.dup, 1) := by decide +kernel
theorem dX6_takesDigit_61 : decode cX6_takesDigit 61 = .ok (.getfield 53, 3) := by decide +kernel
theorem dX6_takesDigit_64 : decode cX6_takesDigit 64 = .ok (.iconst 1, 1) := by decide +kernel
theorem dX6_takesDigit_65 : decode cX6_takesDigit 65 = .ok (.iadd, 1) := by decide +kernel
theorem dX6_takesDigit_66 : decode cX6_takesDigit 66 = .ok (.putfield 53, 3) := by decide +kernel
theorem dX6_takesDigit_69 : decode cX6_takesDigit 69 = .ok (.iconst 1, 1) := by decide +kernel
theorem dX6_takesDigit_70 : decode cX6_takesDigit 70 = .ok (.ireturn, 1) := by decide +kernel
theorem dX6_takesMinus_0 : decode cX6_takesMinus 0 = .ok (.aload_n 0, 1) := by decide +kernel
theorem dX6_takesMinus_1 : decode cX6_takesMinus 1 = .ok (.getfield 29, 3) := by decide +kernel
theorem dX6_takesMinus_4 : decode cX6_takesMinus 4 = .ok (.aload_n 0, 1) := by decide +kernel
theorem dX6_takesMinus_5 : decode cX6_takesMinus 5 = .ok (.getfield 26, 3) := by decide +kernel
theorem dX6_takesMinus_8 : decode cX6_takesMinus 8 = .ok (.if_icmp .ge 17, 3) := by decide +kernel
theorem dX6_takesMinus_11 : decode cX6_takesMinus 11 = .ok (.aload_n 0, 1) := by decide +kernel
theorem dX6_takesMinus_12 : decode cX6_takesMinus 12 = .ok (.getfield 56, 3) := by decide +kernel
theorem dX6_takesMinus_15 : decode cX6_takesMinus 15 = .ok (.ifCond .ne 10, 3) := by decide +kernel
theorem dX6_takesMinus_18 : decode cX6_takesMinus 18 = .ok (.aload_n 0, 1) := by decide +kernel
theorem dX6_takesMinus_19 : decode cX6_takesMinus 19 = .ok (.getfield 53, 3) := by decide +kernel
theorem dX6_takesMinus_22 : decode cX6_takesMinus 22 = .ok (.ifCond .le 5, 3) := by decide +kernel
theorem dX6_takesMinus_25 : decode cX6_takesMinus 25 = .ok (.iconst 0, 1) := by decide +kernel
theorem dX6_takesMinus_26 : decode cX6_takesMinus 26 = .ok (.ireturn, 1) := by decide +kernel
theorem dX6_takesMinus_27 : decode cX6_takesMinus 27 = .ok (.aload_n 0, 1) := by decide +kernel
theorem dX6_takesMinus_28 : decode cX6_takesMinus 28 = .ok (.iconst 1, 1) := by decide +kernel
theorem dX6_takesMinus_29 : decode cX6_takesMinus 29 = .ok (.putfield 56, 3) := by decide +kernel
theorem dX6_takesMinus_32 : decode cX6_takesMinus 32 = .ok (.iconst 1, 1) := by decide +kernel
theorem dX6_takesMinus_33 : decode cX6_takesMinus 33 = .ok (.ireturn, 1) := by decide +kernel
theorem dX6_takesComma_0 : decode cX6_takesComma 0 = .ok (.aload_n 0, 1) := by decide +kernel
theorem dX6_takesComma_1 : decode cX6_takesComma 1 = .ok (.getfield 53, 3) := by decide +kernel
theorem dX6_takesComma_4 : decode cX6_takesComma 4 = .ok (.ifCond .eq 16, 3) := by decide +kernel
theorem dX6_takesComma_7 : decode cX6_takesComma 7 = .ok (.aload_n 0, 1) := by decide +kernel
theorem dX6_takesComma_8 : decode cX6_takesComma 8 = .ok (.getfield 29, 3) := by decide +kernel
theorem dX6_takesComma_11 : decode cX6_takesComma 11 = .ok (.iconst 1, 1) := by decide +kernel
theorem dX6_takesComma_12 : decode cX6_takesComma 12 = .ok (.iadd, 1) := by decide +kernel
theorem dX6_takesComma_13 : decode cX6_takesComma 13 = .ok (.aload_n 0, 1) := by decide +kernel
theorem dX6_takesComma_14 : decode cX6_takesComma 14 = .ok (.getfield 26, 3) := by decide +kernel
theorem dX6_takesComma_17 : decode cX6_takesComma 17 = .ok (.if_icmp .lt 5, 3) := by decide +kernel
theorem dX6_takesComma_20 : decode cX6_takesComma 20 = .ok (.iconst 0, 1) := by decide +kernel
theorem dX6_takesComma_21 : decode cX6_takesComma 21 = .ok (.ireturn, 1) := by decide +kernel
theorem dX6_takesComma_22 : decode cX6_takesComma 22 = .ok (.aload_n 0, 1) := by decide +kernel
theorem dX6_takesComma_23 : decode cX6_takesComma 23 = .ok (.invokevirtual 74, 3) := by decide +kernel
theorem dX6_takesComma_26 : decode cX6_takesComma 26 = .ok (.iconst 1, 1) := by decide +kernel
theorem dX6_takesComma_27 : decode cX6_takesComma 27 = .ok (.ireturn, 1) := by decide +kernel
theorem dX6_takesKind_0 : decode cX6_takesKind 0 = .ok (.ldc 77, 2) := by decide +kernel
theorem dX6_takesKind_2 : decode cX6_takesKind 2 = .ok (.iload_n 1, 1) := by decide +kernel
theorem dX6_takesKind_3 : decode cX6_takesKind 3 = .ok (.invokevirtual 79, 3) := by decide +kernel
theorem dX6_takesKind_6 : decode cX6_takesKind 6 = .ok (.ifCond .ge 7, 3) := by decide +kernel
theorem dX6_takesKind_9 : decode cX6_takesKind 9 = .ok (.iconst 1, 1) := by decide +kernel
theorem dX6_takesKind_10 : decode cX6_takesKind 10 = .ok (.goto 4, 3) := by decide +kernel
theorem dX6_takesKind_13 : decode cX6_takesKind 13 = .ok (.iconst 0, 1) := by decide +kernel
theorem dX6_takesKind_14 : decode cX6_takesKind 14 = .ok (.istore_n 3, 1) := by decide +kernel
theorem dX6_takesKind_15 : decode cX6_takesKind 15 = .ok (.iload_n 3, 1) := by decide +kernel
theorem dX6_takesKind_16 : decode cX6_takesKind 16 = .ok (.ifCond .eq 12, 3) := by decide +kernel
theorem dX6_takesKind_19 : decode cX6_takesKind 19 = .ok (.ldc 85, 2) := by decide +kernel
theorem dX6_takesKind_21 : decode cX6_takesKind 21 = .ok (.iload_n 1, 1) := by decide +kernel
theorem dX6_takesKind_22 : decode cX6_takesKind 22 = .ok (.invokevirtual 79, 3) := by decide +kernel
theorem dX6_takesKind_25 : decode cX6_takesKind 25 = .ok (.goto 9, 3) := by decide +kernel
theorem dX6_takesKind_28 : decode cX6_takesKind 28 = .ok (.ldc 77, 2) := by decide +kernel
theorem dX6_takesKind_30 : decode cX6_takesKind 30 = .ok (.iload_n 1, 1) := by decide +kernel
theorem dX6_takesKind_31 : decode cX6_takesKind 31 = .ok (.invokevirtual 79, 3) := by decide +kernel
theorem dX6_takesKind_34 : decode cX6_takesKind 34 = .ok (.istore 4, 2) := by decide +kernel
theorem dX6_takesKind_36 : decode cX6_takesKind 36 = .ok (.iload 4, 2) := by decide +kernel
theorem dX6_takesKind_38 : decode cX6_takesKind 38 = .ok (.ifCond .lt 12, 3) := by decide +kernel
theorem dX6_takesKind_41 : decode cX6_takesKind 41 = .ok (.aload_n 0, 1) := by decide +kernel
theorem dX6_takesKind_42 : decode cX6_takesKind 42 = .ok (.iload 4, 2) := by decide +kernel
theorem dX6_takesKind_44 : decode cX6_takesKind 44 = .ok (.invokevirtual 87, 3) := by decide +kernel
theorem dX6_takesKind_47 : decode cX6_takesKind 47 = .ok (.ifCond .ne 5, 3) := by decide +kernel
theorem dX6_takesKind_50 : decode cX6_takesKind 50 = .ok (.iconst 0, 1) := by decide +kernel
theorem dX6_takesKind_51 : decode cX6_takesKind 51 = .ok (.ireturn, 1) := by decide +kernel
theorem dX6_takesKind_52 : decode cX6_takesKind 52 = .ok (.aload_n 0, 1) := by decide +kernel
theorem dX6_takesKind_53 : decode cX6_takesKind 53 = .ok (.aload_n 2, 1) := by decide +kernel
theorem dX6_takesKind_54 : decode cX6_takesKind 54 = .ok (.invokevirtual 90, 3) := by decide +kernel
theorem dX6_takesKind_57 : decode cX6_takesKind 57 = .ok (.aload_n 0, 1) := by decide +kernel
theorem dX6_takesKind_58 : decode cX6_takesKind 58 = .ok (.iload 4, 2) := by decide +kernel
theorem dX6_takesKind_60 : decode cX6_takesKind 60 = .ok (.putfield 18, 3) := by decide +kernel
theorem dX6_takesKind_63 : decode cX6_takesKind 63 = .ok (.aload_n 0, 1) := by decide +kernel
theorem dX6_takesKind_64 : decode cX6_takesKind 64 = .ok (.iload_n 3, 1) := by decide +kernel
theorem dX6_takesKind_65 : decode cX6_takesKind 65 = .ok (.putfield 22, 3) := by decide +kernel
theorem dX6_takesKind_68 : decode cX6_takesKind 68 = .ok (.aload_n 0, 1) := by decide +kernel
theorem dX6_takesKind_69 : decode cX6_takesKind 69 = .ok (.aload_n 0, 1) := by decide +kernel
theorem dX6_takesKind_70 : decode cX6_takesKind 70 = .ok (.getfield 18, 3) := by decide +kernel
theorem dX6_takesKind_73 : decode cX6_takesKind 73 = .ok (.iconst 4, 1) := by decide +kernel
theorem dX6_takesKind_74 : decode cX6_takesKind 74 = .ok (.if_icmp .ne 7, 3) := by decide +kernel
theorem dX6_takesKind_77 : decode cX6_takesKind 77 = .ok (.iconst 0, 1) := by decide +kernel
theorem dX6_takesKind_78 : decode cX6_takesKind 78 = .ok (.goto 13, 3) := by decide +kernel
theorem dX6_takesKind_81 : decode cX6_takesKind 81 = .ok (.iconst 2, 1) := by decide +kernel
theorem dX6_takesKind_82 : decode cX6_takesKind 82 = .ok (.getstatic 94, 3) := by decide +kernel
theorem dX6_takesKind_85 : decode cX6_takesKind 85 = .ok (.aload_n 0, 1) := by decide +kernel
theorem dX6_takesKind_86 : decode cX6_takesKind 86 = .ok (.getfield 18, 3) := by decide +kernel
theorem dX6_takesKind_89 : decode cX6_takesKind 89 = .ok (.iaload, 1) := by decide +kernel
theorem dX6_takesKind_90 : decode cX6_takesKind 90 = .ok (.imul, 1) := by decide +kernel
theorem dX6_takesKind_91 : decode cX6_takesKind 91 = .ok (.putfield 26, 3) := by decide +kernel
theorem dX6_takesKind_94 : decode cX6_takesKind 94 = .ok (.aload_n 0, 1) := by decide +kernel
theorem dX6_takesKind_95 : decode cX6_takesKind 95 = .ok (.iconst 0, 1) := by decide +kernel
theorem dX6_takesKind_96 : decode cX6_takesKind 96 = .ok (.putfield 29, 3) := by decide +kernel
theorem dX6_takesKind_99 : decode cX6_takesKind 99 = .ok (.aload_n 0, 1) := by decide +kernel
theorem dX6_takesKind_100 : decode cX6_takesKind 100 = .ok (.invokevirtual 47, 3) := by decide +kernel
theorem dX6_takesKind_103 : decode cX6_takesKind 103 = .ok (.iconst 1, 1) := by decide +kernel
theorem dX6_takesKind_104 : decode cX6_takesKind 104 = .ok (.ireturn, 1) := by decide +kernel
theorem dX6_canBegin_0 : decode cX6_canBegin 0 = .ok (.aload_n 0, 1) := by decide +kernel
theorem dX6_canBegin_1 : decode cX6_canBegin 1 = .ok (.getfield 18, 3) := by decide +kernel
theorem dX6_canBegin_4 : decode cX6_canBegin 4 = .ok (.iconst (-1), 1) := by decide +kernel
theorem dX6_canBegin_5 : decode cX6_canBegin 5 = .ok (.if_icmp .ne 13, 3) := by decide +kernel
theorem dX6_canBegin_8 : decode cX6_canBegin 8 = .ok (.iload_n 1, 1) := by decide +kernel
theorem dX6_canBegin_9 : decode cX6_canBegin 9 = .ok (.ifCond .ne 7, 3) := by decide +kernel
theorem dX6_canBegin_12 : decode cX6_canBegin 12 = .ok (.iconst 1, 1) := by decide +kernel
theorem dX6_canBegin_13 : decode cX6_canBegin 13 = .ok (.goto 4, 3) := by decide +kernel
theorem dX6_canBegin_16 : decode cX6_canBegin 16 = .ok (.iconst 0, 1) := by decide +kernel
theorem dX6_canBegin_17 : decode cX6_canBegin 17 = .ok (.ireturn, 1) := by decide +kernel
theorem dX6_canBegin_18 : decode cX6_canBegin 18 = .ok (.aload_n 0, 1) := by decide +kernel
theorem dX6_canBegin_19 : decode cX6_canBegin 19 = .ok (.invokevirtual 97, 3) := by decide +kernel
theorem dX6_canBegin_22 : decode cX6_canBegin 22 = .ok (.ifCond .eq 19, 3) := by decide +kernel
theorem dX6_canBegin_25 : decode cX6_canBegin 25 = .ok (.aload_n 0, 1) := by decide +kernel
theorem dX6_canBegin_26 : decode cX6_canBegin 26 = .ok (.getfield 18, 3) := by decide +kernel
theorem dX6_canBegin_29 : decode cX6_canBegin 29 = .ok (.iconst 4, 1) := by decide +kernel
theorem dX6_canBegin_30 : decode cX6_canBegin 30 = .ok (.if_icmp .ne 7, 3) := by decide +kernel
theorem dX6_canBegin_33 : decode cX6_canBegin 33 = .ok (.iload_n 1, 1) := by decide +kernel
theorem dX6_canBegin_34 : decode cX6_canBegin 34 = .ok (.ifCond .ne 7, 3) := by decide +kernel
theorem dX6_canBegin_37 : decode cX6_canBegin 37 = .ok (.iconst 1, 1) := by decide +kernel
theorem dX6_canBegin_38 : decode cX6_canBegin 38 = .ok (.goto 4, 3) := by decide +kernel
theorem dX6_canBegin_41 : decode cX6_canBegin 41 = .ok (.iconst 0, 1) := by decide +kernel
theorem dX6_canBegin_42 : decode cX6_canBegin 42 = .ok (.ireturn, 1) := by decide +kernel
theorem dX6_isWhole_0 : decode cX6_isWhole 0 = .ok (.aload_n 0, 1) := by decide +kernel
theorem dX6_isWhole_1 : decode cX6_isWhole 1 = .ok (.getfield 18, 3) := by decide +kernel
theorem dX6_isWhole_4 : decode cX6_isWhole 4 = .ok (.iconst (-1), 1) := by decide +kernel
theorem dX6_isWhole_5 : decode cX6_isWhole 5 = .ok (.if_icmp .ne 5, 3) := by decide +kernel
theorem dX6_isWhole_8 : decode cX6_isWhole 8 = .ok (.iconst 0, 1) := by decide +kernel
theorem dX6_isWhole_9 : decode cX6_isWhole 9 = .ok (.ireturn, 1) := by decide +kernel
theorem dX6_isWhole_10 : decode cX6_isWhole 10 = .ok (.aload_n 0, 1) := by decide +kernel
theorem dX6_isWhole_11 : decode cX6_isWhole 11 = .ok (.getfield 18, 3) := by decide +kernel
theorem dX6_isWhole_14 : decode cX6_isWhole 14 = .ok (.iconst 4, 1) := by decide +kernel
theorem dX6_isWhole_15 : decode cX6_isWhole 15 = .ok (.if_icmp .eq 23, 3) := by decide +kernel
theorem dX6_isWhole_18 : decode cX6_isWhole 18 = .ok (.aload_n 0, 1) := by decide +kernel
theorem dX6_isWhole_19 : decode cX6_isWhole 19 = .ok (.getfield 53, 3) := by decide +kernel
theorem dX6_isWhole_22 : decode cX6_isWhole 22 = .ok (.ifCond .le 20, 3) := by decide +kernel
theorem dX6_isWhole_25 : decode cX6_isWhole 25 = .ok (.aload_n 0, 1) := by decide +kernel
theorem dX6_isWhole_26 : decode cX6_isWhole 26 = .ok (.getfield 29, 3) := by decide +kernel
theorem dX6_isWhole_29 : decode cX6_isWhole 29 = .ok (.iconst 1, 1) := by decide +kernel
theorem dX6_isWhole_30 : decode cX6_isWhole 30 = .ok (.iadd, 1) := by decide +kernel
theorem dX6_isWhole_31 : decode cX6_isWhole 31 = .ok (.aload_n 0, 1) := by decide +kernel
theorem dX6_isWhole_32 : decode cX6_isWhole 32 = .ok (.getfield 26, 3) := by decide +kernel
theorem dX6_isWhole_35 : decode cX6_isWhole 35 = .ok (.if_icmp .ne 7, 3) := by decide +kernel
theorem dX6_isWhole_38 : decode cX6_isWhole 38 = .ok (.iconst 1, 1) := by decide +kernel
theorem dX6_isWhole_39 : decode cX6_isWhole 39 = .ok (.goto 4, 3) := by decide +kernel
theorem dX6_isWhole_42 : decode cX6_isWhole 42 = .ok (.iconst 0, 1) := by decide +kernel
theorem dX6_isWhole_43 : decode cX6_isWhole 43 = .ok (.ireturn, 1) := by decide +kernel
theorem dX6_finishNumber_0 : decode cX6_finishNumber 0 = .ok (.aload_n 0, 1) := by decide +kernel
theorem dX6_finishNumber_1 : decode cX6_finishNumber 1 = .ok (.getfield 29, 3) := by decide +kernel
theorem dX6_finishNumber_4 : decode cX6_finishNumber 4 = .ok (.bipush 6, 2) := by decide +kernel
theorem dX6_finishNumber_6 : decode cX6_finishNumber 6 = .ok (.if_icmp .ge 41, 3) := by decide +kernel
theorem dX6_finishNumber_9 : decode cX6_finishNumber 9 = .ok (.aload_n 0, 1) := by decide +kernel
theorem dX6_finishNumber_10 : decode cX6_finishNumber 10 = .ok (.getfield 9, 3) := by decide +kernel
theorem dX6_finishNumber_13 : decode cX6_finishNumber 13 = .ok (.aload_n 0, 1) := by decide +kernel
theorem dX6_finishNumber_14 : decode cX6_finishNumber 14 = .ok (.getfield 29, 3) := by decide +kernel
theorem dX6_finishNumber_17 : decode cX6_finishNumber 17 = .ok (.aload_n 0, 1) := by decide +kernel
theorem dX6_finishNumber_18 : decode cX6_finishNumber 18 = .ok (.getfield 56, 3) := by decide +kernel
theorem dX6_finishNumber_21 : decode cX6_finishNumber 21 = .ok (.ifCond .eq 11, 3) := by decide +kernel
theorem dX6_finishNumber_24 : decode cX6_finishNumber 24 = .ok (.aload_n 0, 1) := by decide +kernel
theorem dX6_finishNumber_25 : decode cX6_finishNumber 25 = .ok (.getfield 50, 3) := by decide +kernel
theorem dX6_finishNumber_28 : decode cX6_finishNumber 28 = .ok (.ineg, 1) := by decide +kernel
theorem dX6_finishNumber_29 : decode cX6_finishNumber 29 = .ok (.goto 7, 3) := by decide +kernel
theorem dX6_finishNumber_32 : decode cX6_finishNumber 32 = .ok (.aload_n 0, 1) := by decide +kernel
theorem dX6_finishNumber_33 : decode cX6_finishNumber 33 = .ok (.getfield 50, 3) := by decide +kernel
theorem dX6_finishNumber_36 : decode cX6_finishNumber 36 = .ok (.iastore, 1) := by decide +kernel
theorem dX6_finishNumber_37 : decode cX6_finishNumber 37 = .ok (.aload_n 0, 1) := by decide +kernel
theorem dX6_finishNumber_38 : decode cX6_finishNumber 38 = .ok (.dup, 1) := by decide +kernel
theorem dX6_finishNumber_39 : decode cX6_finishNumber 39 = .ok (.getfield 29, 3) := by decide +kernel
theorem dX6_finishNumber_42 : decode cX6_finishNumber 42 = .ok (.iconst 1, 1) := by decide +kernel
theorem dX6_finishNumber_43 : decode cX6_finishNumber 43 = .ok (.iadd, 1) := by decide +kernel
theorem dX6_finishNumber_44 : decode cX6_finishNumber 44 = .ok (.putfield 29, 3) := by decide +kernel
theorem dX6_finishNumber_47 : decode cX6_finishNumber 47 = .ok (.aload_n 0, 1) := by decide +kernel
theorem dX6_finishNumber_48 : decode cX6_finishNumber 48 = .ok (.invokevirtual 47, 3) := by decide +kernel
theorem dX6_finishNumber_51 : decode cX6_finishNumber 51 = .ok (.return_, 1) := by decide +kernel
theorem dX6_finishCommand_0 : decode cX6_finishCommand 0 = .ok (.aload_n 0, 1) := by decide +kernel
theorem dX6_finishCommand_1 : decode cX6_finishCommand 1 = .ok (.getfield 18, 3) := by decide +kernel
theorem dX6_finishCommand_4 : decode cX6_finishCommand 4 = .ok (.iconst (-1), 1) := by decide +kernel
theorem dX6_finishCommand_5 : decode cX6_finishCommand 5 = .ok (.if_icmp .ne 4, 3) := by decide +kernel
theorem dX6_finishCommand_8 : decode cX6_finishCommand 8 = .ok (.return_, 1) := by decide +kernel
theorem dX6_finishCommand_9 : decode cX6_finishCommand 9 = .ok (.aload_n 0, 1) := by decide +kernel
theorem dX6_finishCommand_10 : decode cX6_finishCommand 10 = .ok (.dup, 1) := by decide +kernel
theorem dX6_finishCommand_11 : decode cX6_finishCommand 11 = .ok (.getfield 44, 3) := by decide +kernel
theorem dX6_finishCommand_14 : decode cX6_finishCommand 14 = .ok (.iconst 1, 1) := by decide +kernel
theorem dX6_finishCommand_15 : decode cX6_finishCommand 15 = .ok (.iadd, 1) := by decide +kernel
theorem dX6_finishCommand_16 : decode cX6_finishCommand 16 = .ok (.putfield 44, 3) := by decide +kernel
theorem dX6_finishCommand_19 : decode cX6_finishCommand 19 = .ok (.aload_n 0, 1) := by decide +kernel
theorem dX6_finishCommand_20 : decode cX6_finishCommand 20 = .ok (.getfield 18, 3) := by decide +kernel
theorem dX6_finishCommand_23 : decode cX6_finishCommand 23 = .ok (.iconst 4, 1) := by decide +kernel
theorem dX6_finishCommand_24 : decode cX6_finishCommand 24 = .ok (.if_icmp .ne 37, 3) := by decide +kernel
theorem dX6_finishCommand_27 : decode cX6_finishCommand 27 = .ok (.aload_n 0, 1) := by decide +kernel
theorem dX6_finishCommand_28 : decode cX6_finishCommand 28 = .ok (.aload_n 0, 1) := by decide +kernel
theorem dX6_finishCommand_29 : decode cX6_finishCommand 29 = .ok (.getfield 38, 3) := by decide +kernel
theorem dX6_finishCommand_32 : decode cX6_finishCommand 32 = .ok (.putfield 32, 3) := by decide +kernel
theorem dX6_finishCommand_35 : decode cX6_finishCommand 35 = .ok (.aload_n 0, 1) := by decide +kernel
theorem dX6_finishCommand_36 : decode cX6_finishCommand 36 = .ok (.aload_n 0, 1) := by decide +kernel
theorem dX6_finishCommand_37 : decode cX6_finishCommand 37 = .ok (.getfield 41, 3) := by decide +kernel
theorem dX6_finishCommand_40 : decode cX6_finishCommand 40 = .ok (.putfield 35, 3) := by decide +kernel
theorem dX6_finishCommand_43 : decode cX6_finishCommand 43 = .ok (.aload_n 1, 1) := by decide +kernel
theorem dX6_finishCommand_44 : decode cX6_finishCommand 44 = .ok (.iconst 4, 1) := by decide +kernel
theorem dX6_finishCommand_45 : decode cX6_finishCommand 45 = .ok (.aload_n 0, 1) := by decide +kernel
theorem dX6_finishCommand_46 : decode cX6_finishCommand 46 = .ok (.getfield 32, 3) := by decide +kernel
theorem dX6_finishCommand_49 : decode cX6_finishCommand 49 = .ok (.aload_n 0, 1) := by decide +kernel
theorem dX6_finishCommand_50 : decode cX6_finishCommand 50 = .ok (.getfield 35, 3) := by decide +kernel
theorem dX6_finishCommand_53 : decode cX6_finishCommand 53 = .ok (.iconst 0, 1) := by decide +kernel
theorem dX6_finishCommand_54 : decode cX6_finishCommand 54 = .ok (.iconst 0, 1) := by decide +kernel
theorem dX6_finishCommand_55 : decode cX6_finishCommand 55 = .ok (.iconst 0, 1) := by decide +kernel
theorem dX6_finishCommand_56 : decode cX6_finishCommand 56 = .ok (.iconst 0, 1) := by decide +kernel
theorem dX6_finishCommand_57 : decode cX6_finishCommand 57 = .ok (.invokevirtual 100, 3) := by decide +kernel
theorem dX6_finishCommand_60 : decode cX6_finishCommand 60 = .ok (.return_, 1) := by decide +kernel
theorem dX6_finishCommand_61 : decode cX6_finishCommand 61 = .ok (.aload_n 0, 1) := by decide +kernel
theorem dX6_finishCommand_62 : decode cX6_finishCommand 62 = .ok (.invokevirtual 74, 3) := by decide +kernel
theorem dX6_finishCommand_65 : decode cX6_finishCommand 65 = .ok (.aload_n 0, 1) := by decide +kernel
theorem dX6_finishCommand_66 : decode cX6_finishCommand 66 = .ok (.getfield 22, 3) := by decide +kernel
theorem dX6_finishCommand_69 : decode cX6_finishCommand 69 = .ok (.ifCond .eq 7, 3) := by decide +kernel
theorem dX6_finishCommand_72 : decode cX6_finishCommand 72 = .ok (.aload_n 0, 1) := by decide +kernel
theorem dX6_finishCommand_73 : decode cX6_finishCommand 73 = .ok (.invokevirtual 106, 3) := by decide +kernel
theorem dX6_finishCommand_76 : decode cX6_finishCommand 76 = .ok (.aload_n 0, 1) := by decide +kernel
theorem dX6_finishCommand_77 : decode cX6_finishCommand 77 = .ok (.aload_n 0, 1) := by decide +kernel
theorem dX6_finishCommand_78 : decode cX6_finishCommand 78 = .ok (.getfield 26, 3) := by decide +kernel
theorem dX6_finishCommand_81 : decode cX6_finishCommand 81 = .ok (.iconst 2, 1) := by decide +kernel
theorem dX6_finishCommand_82 : decode cX6_finishCommand 82 = .ok (.if_icmp .lt 26, 3) := by decide +kernel
theorem dX6_finishCommand_85 : decode cX6_finishCommand 85 = .ok (.aload_n 0, 1) := by decide +kernel
theorem dX6_finishCommand_86 : decode cX6_finishCommand 86 = .ok (.getfield 26, 3) := by decide +kernel
theorem dX6_finishCommand_89 : decode cX6_finishCommand 89 = .ok (.bipush 6, 2) := by decide +kernel
theorem dX6_finishCommand_91 : decode cX6_finishCommand 91 = .ok (.if_icmp .gt 17, 3) := by decide +kernel
theorem dX6_finishCommand_94 : decode cX6_finishCommand 94 = .ok (.aload_n 0, 1) := by decide +kernel
theorem dX6_finishCommand_95 : decode cX6_finishCommand 95 = .ok (.getfield 9, 3) := by decide +kernel
theorem dX6_finishCommand_98 : decode cX6_finishCommand 98 = .ok (.aload_n 0, 1) := by decide +kernel
theorem dX6_finishCommand_99 : decode cX6_finishCommand 99 = .ok (.getfield 26, 3) := by decide +kernel
theorem dX6_finishCommand_102 : decode cX6_finishCommand 102 = .ok (.iconst 2, 1) := by decide +kernel
theorem dX6_finishCommand_103 : decode cX6_finishCommand 103 = .ok (.isub, 1) := by decide +kernel
theorem dX6_finishCommand_104 : decode cX6_finishCommand 104 = .ok (.iaload, 1) := by decide +kernel
theorem dX6_finishCommand_105 : decode cX6_finishCommand 105 = .ok (.goto 4, 3) := by decide +kernel
theorem dX6_finishCommand_108 : decode cX6_finishCommand 108 = .ok (.iconst 0, 1) := by decide +kernel
theorem dX6_finishCommand_109 : decode cX6_finishCommand 109 = .ok (.putfield 32, 3) := by decide +kernel
theorem dX6_finishCommand_112 : decode cX6_finishCommand 112 = .ok (.aload_n 0, 1) := by decide +kernel
theorem dX6_finishCommand_113 : decode cX6_finishCommand 113 = .ok (.aload_n 0, 1) := by decide +kernel
theorem dX6_finishCommand_114 : decode cX6_finishCommand 114 = .ok (.getfield 26, 3) := by decide +kernel
theorem dX6_finishCommand_117 : decode cX6_finishCommand 117 = .ok (.iconst 2, 1) := by decide +kernel
theorem dX6_finishCommand_118 : decode cX6_finishCommand 118 = .ok (.if_icmp .lt 26, 3) := by decide +kernel
theorem dX6_finishCommand_121 : decode cX6_finishCommand 121 = .ok (.aload_n 0, 1) := by decide +kernel
theorem dX6_finishCommand_122 : decode cX6_finishCommand 122 = .ok (.getfield 26, 3) := by decide +kernel
theorem dX6_finishCommand_125 : decode cX6_finishCommand 125 = .ok (.bipush 6, 2) := by decide +kernel
theorem dX6_finishCommand_127 : decode cX6_finishCommand 127 = .ok (.if_icmp .gt 17, 3) := by decide +kernel
theorem dX6_finishCommand_130 : decode cX6_finishCommand 130 = .ok (.aload_n 0, 1) := by decide +kernel
theorem dX6_finishCommand_131 : decode cX6_finishCommand 131 = .ok (.getfield 9, 3) := by decide +kernel
theorem dX6_finishCommand_134 : decode cX6_finishCommand 134 = .ok (.aload_n 0, 1) := by decide +kernel
theorem dX6_finishCommand_135 : decode cX6_finishCommand 135 = .ok (.getfield 26, 3) := by decide +kernel
theorem dX6_finishCommand_138 : decode cX6_finishCommand 138 = .ok (.iconst 1, 1) := by decide +kernel
theorem dX6_finishCommand_139 : decode cX6_finishCommand 139 = .ok (.isub, 1) := by decide +kernel
theorem dX6_finishCommand_140 : decode cX6_finishCommand 140 = .ok (.iaload, 1) := by decide +kernel
theorem dX6_finishCommand_141 : decode cX6_finishCommand 141 = .ok (.goto 4, 3) := by decide +kernel
theorem dX6_finishCommand_144 : decode cX6_finishCommand 144 = .ok (.iconst 0, 1) := by decide +kernel
theorem dX6_finishCommand_145 : decode cX6_finishCommand 145 = .ok (.putfield 35, 3) := by decide +kernel
theorem dX6_finishCommand_148 : decode cX6_finishCommand 148 = .ok (.aload_n 0, 1) := by decide +kernel
theorem dX6_finishCommand_149 : decode cX6_finishCommand 149 = .ok (.getfield 18, 3) := by decide +kernel
theorem dX6_finishCommand_152 : decode cX6_finishCommand 152 = .ok (.ifCond .ne 19, 3) := by decide +kernel
theorem dX6_finishCommand_155 : decode cX6_finishCommand 155 = .ok (.aload_n 0, 1) := by decide +kernel
theorem dX6_finishCommand_156 : decode cX6_finishCommand 156 = .ok (.aload_n 0, 1) := by decide +kernel
theorem dX6_finishCommand_157 : decode cX6_finishCommand 157 = .ok (.getfield 32, 3) := by decide +kernel
theorem dX6_finishCommand_160 : decode cX6_finishCommand 160 = .ok (.putfield 38, 3) := by decide +kernel
theorem dX6_finishCommand_163 : decode cX6_finishCommand 163 = .ok (.aload_n 0, 1) := by decide +kernel
theorem dX6_finishCommand_164 : decode cX6_finishCommand 164 = .ok (.aload_n 0, 1) := by decide +kernel
theorem dX6_finishCommand_165 : decode cX6_finishCommand 165 = .ok (.getfield 35, 3) := by decide +kernel
theorem dX6_finishCommand_168 : decode cX6_finishCommand 168 = .ok (.putfield 41, 3) := by decide +kernel
theorem dX6_finishCommand_171 : decode cX6_finishCommand 171 = .ok (.aload_n 1, 1) := by decide +kernel
theorem dX6_finishCommand_172 : decode cX6_finishCommand 172 = .ok (.aload_n 0, 1) := by decide +kernel
theorem dX6_finishCommand_173 : decode cX6_finishCommand 173 = .ok (.getfield 18, 3) := by decide +kernel
theorem dX6_finishCommand_176 : decode cX6_finishCommand 176 = .ok (.aload_n 0, 1) := by decide +kernel
theorem dX6_finishCommand_177 : decode cX6_finishCommand 177 = .ok (.getfield 9, 3) := by decide +kernel
theorem dX6_finishCommand_180 : decode cX6_finishCommand 180 = .ok (.iconst 0, 1) := by decide +kernel
theorem dX6_finishCommand_181 : decode cX6_finishCommand 181 = .ok (.iaload, 1) := by decide +kernel
theorem dX6_finishCommand_182 : decode cX6_finishCommand 182 = .ok (.aload_n 0, 1) := by decide +kernel
theorem dX6_finishCommand_183 : decode cX6_finishCommand 183 = .ok (.getfield 9, 3) := by decide +kernel
theorem dX6_finishCommand_186 : decode cX6_finishCommand 186 = .ok (.iconst 1, 1) := by decide +kernel
theorem dX6_finishCommand_187 : decode cX6_finishCommand 187 = .ok (.iaload, 1) := by decide +kernel
theorem dX6_finishCommand_188 : decode cX6_finishCommand 188 = .ok (.aload_n 0, 1) := by decide +kernel
theorem dX6_finishCommand_189 : decode cX6_finishCommand 189 = .ok (.getfield 9, 3) := by decide +kernel
theorem dX6_finishCommand_192 : decode cX6_finishCommand 192 = .ok (.iconst 2, 1) := by decide +kernel
theorem dX6_finishCommand_193 : decode cX6_finishCommand 193 = .ok (.iaload, 1) := by decide +kernel
theorem dX6_finishCommand_194 : decode cX6_finishCommand 194 = .ok (.aload_n 0, 1) := by decide +kernel
theorem dX6_finishCommand_195 : decode cX6_finishCommand 195 = .ok (.getfield 9, 3) := by decide +kernel
theorem dX6_finishCommand_198 : decode cX6_finishCommand 198 = .ok (.iconst 3, 1) := by decide +kernel
theorem dX6_finishCommand_199 : decode cX6_finishCommand 199 = .ok (.iaload, 1) := by decide +kernel
theorem dX6_finishCommand_200 : decode cX6_finishCommand 200 = .ok (.aload_n 0, 1) := by decide +kernel
theorem dX6_finishCommand_201 : decode cX6_finishCommand 201 = .ok (.getfield 9, 3) := by decide +kernel
theorem dX6_finishCommand_204 : decode cX6_finishCommand 204 = .ok (.iconst 4, 1) := by decide +kernel
theorem dX6_finishCommand_205 : decode cX6_finishCommand 205 = .ok (.iaload, 1) := by decide +kernel
theorem dX6_finishCommand_206 : decode cX6_finishCommand 206 = .ok (.aload_n 0, 1) := by decide +kernel
theorem dX6_finishCommand_207 : decode cX6_finishCommand 207 = .ok (.getfield 9, 3) := by decide +kernel
theorem dX6_finishCommand_210 : decode cX6_finishCommand 210 = .ok (.iconst 5, 1) := by decide +kernel
theorem dX6_finishCommand_211 : decode cX6_finishCommand 211 = .ok (.iaload, 1) := by decide +kernel
theorem dX6_finishCommand_212 : decode cX6_finishCommand 212 = .ok (.invokevirtual 100, 3) := by decide +kernel
theorem dX6_finishCommand_215 : decode cX6_finishCommand 215 = .ok (.return_, 1) := by decide +kernel
theorem dX6_shiftNumbers_0 : decode cX6_shiftNumbers 0 = .ok (.iconst 0, 1) := by decide +kernel
theorem dX6_shiftNumbers_1 : decode cX6_shiftNumbers 1 = .ok (.istore_n 1, 1) := by decide +kernel
theorem dX6_shiftNumbers_2 : decode cX6_shiftNumbers 2 = .ok (.iload_n 1, 1) := by decide +kernel
theorem dX6_shiftNumbers_3 : decode cX6_shiftNumbers 3 = .ok (.aload_n 0, 1) := by decide +kernel
theorem dX6_shiftNumbers_4 : decode cX6_shiftNumbers 4 = .ok (.getfield 26, 3) := by decide +kernel
theorem dX6_shiftNumbers_7 : decode cX6_shiftNumbers 7 = .ok (.if_icmp .ge 41, 3) := by decide +kernel
theorem dX6_shiftNumbers_10 : decode cX6_shiftNumbers 10 = .ok (.iload_n 1, 1) := by decide +kernel
theorem dX6_shiftNumbers_11 : decode cX6_shiftNumbers 11 = .ok (.bipush 6, 2) := by decide +kernel
theorem dX6_shiftNumbers_13 : decode cX6_shiftNumbers 13 = .ok (.if_icmp .ge 35, 3) := by decide +kernel
theorem dX6_shiftNumbers_16 : decode cX6_shiftNumbers 16 = .ok (.aload_n 0, 1) := by decide +kernel
theorem dX6_shiftNumbers_17 : decode cX6_shiftNumbers 17 = .ok (.getfield 9, 3) := by decide +kernel
theorem dX6_shiftNumbers_20 : decode cX6_shiftNumbers 20 = .ok (.iload_n 1, 1) := by decide +kernel
theorem dX6_shiftNumbers_21 : decode cX6_shiftNumbers 21 = .ok (.dup2, 1) := by decide +kernel
theorem dX6_shiftNumbers_22 : decode cX6_shiftNumbers 22 = .ok (.iaload, 1) := by decide +kernel
theorem dX6_shiftNumbers_23 : decode cX6_shiftNumbers 23 = .ok (.iload_n 1, 1) := by decide +kernel
theorem dX6_shiftNumbers_24 : decode cX6_shiftNumbers 24 = .ok (.iconst 2, 1) := by decide +kernel
theorem dX6_shiftNumbers_25 : decode cX6_shiftNumbers 25 = .ok (.irem, 1) := by decide +kernel
theorem dX6_shiftNumbers_26 : decode cX6_shiftNumbers 26 = .ok (.ifCond .ne 10, 3) := by decide +kernel
theorem dX6_shiftNumbers_29 : decode cX6_shiftNumbers 29 = .ok (.aload_n 0, 1) := by decide +kernel
theorem dX6_shiftNumbers_30 : decode cX6_shiftNumbers 30 = .ok (.getfield 32, 3) := by decide +kernel
theorem dX6_shiftNumbers_33 : decode cX6_shiftNumbers 33 = .ok (.goto 7, 3) := by decide +kernel
theorem dX6_shiftNumbers_36 : decode cX6_shiftNumbers 36 = .ok (.aload_n 0, 1) := by decide +kernel
theorem dX6_shiftNumbers_37 : decode cX6_shiftNumbers 37 = .ok (.getfield 35, 3) := by decide +kernel
theorem dX6_shiftNumbers_40 : decode cX6_shiftNumbers 40 = .ok (.iadd, 1) := by decide +kernel
theorem dX6_shiftNumbers_41 : decode cX6_shiftNumbers 41 = .ok (.iastore, 1) := by decide +kernel
theorem dX6_shiftNumbers_42 : decode cX6_shiftNumbers 42 = .ok (.iinc 1 1, 3) := by decide +kernel
theorem dX6_shiftNumbers_45 : decode cX6_shiftNumbers 45 = .ok (.goto (-43), 3) := by decide +kernel
theorem dX6_shiftNumbers_48 : decode cX6_shiftNumbers 48 = .ok (.return_, 1) := by decide +kernel
theorem dX7_init_0 : decode cX7_init 0 = .ok (.aload_n 0, 1) := by decide +kernel
theorem dX7_init_1 : decode cX7_init 1 = .ok (.invokespecial 3, 3) := by decide +kernel
theorem dX7_init_4 : decode cX7_init 4 = .ok (.aload_n 0, 1) := by decide +kernel
theorem dX7_init_5 : decode cX7_init 5 = .ok (.sipush 1536, 3) := by decide +kernel
theorem dX7_init_8 : decode cX7_init 8 = .ok (.newarray .boolean, 2) := by decide +kernel
theorem dX7_init_10 : decode cX7_init 10 = .ok (.putfield 9, 3) := by decide +kernel
theorem dX7_init_13 : decode cX7_init 13 = .ok (.aload_n 0, 1) := by decide +kernel
theorem dX7_init_14 : decode cX7_init 14 = .ok (.iconst 0, 1) := by decide +kernel
theorem dX7_init_15 : decode cX7_init 15 = .ok (.putfield 15, 3) := by decide +kernel
theorem dX7_init_18 : decode cX7_init 18 = .ok (.aload_n 0, 1) := by decide +kernel
theorem dX7_init_19 : decode cX7_init 19 = .ok (.iconst 0, 1) := by decide +kernel
theorem dX7_init_20 : decode cX7_init 20 = .ok (.putfield 19, 3) := by decide +kernel
theorem dX7_init_23 : decode cX7_init 23 = .ok (.return_, 1) := by decide +kernel
theorem dX7_simplify_0 : decode cX7_simplify 0 = .ok (.aload_n 0, 1) := by decide +kernel
theorem dX7_simplify_1 : decode cX7_simplify 1 = .ok (.aload_n 1, 1) := by decide +kernel
theorem dX7_simplify_2 : decode cX7_simplify 2 = .ok (.iload_n 2, 1) := by decide +kernel
theorem dX7_simplify_3 : decode cX7_simplify 3 = .ok (.invokevirtual 22, 3) := by decide +kernel
theorem dX7_simplify_6 : decode cX7_simplify 6 = .ok (.putfield 15, 3) := by decide +kernel
theorem dX7_simplify_9 : decode cX7_simplify 9 = .ok (.aload_n 0, 1) := by decide +kernel
theorem dX7_simplify_10 : decode cX7_simplify 10 = .ok (.aload_n 1, 1) := by decide +kernel
theorem dX7_simplify_11 : decode cX7_simplify 11 = .ok (.iload_n 2, 1) := by decide +kernel
theorem dX7_simplify_12 : decode cX7_simplify 12 = .ok (.iload_n 2, 1) := by decide +kernel
theorem dX7_simplify_13 : decode cX7_simplify 13 = .ok (.iconst 1, 1) := by decide +kernel
theorem dX7_simplify_14 : decode cX7_simplify 14 = .ok (.iadd, 1) := by decide +kernel
theorem dX7_simplify_15 : decode cX7_simplify 15 = .ok (.invokevirtual 28, 3) := by decide +kernel
theorem dX7_simplify_18 : decode cX7_simplify 18 = .ok (.putfield 19, 3) := by decide +kernel
theorem dX7_simplify_21 : decode cX7_simplify 21 = .ok (.iconst 0, 1) := by decide +kernel
theorem dX7_simplify_22 : decode cX7_simplify 22 = .ok (.istore 4, 2) := by decide +kernel
theorem dX7_simplify_24 : decode cX7_simplify 24 = .ok (.iload 4, 2) := by decide +kernel
theorem dX7_simplify_26 : decode cX7_simplify 26 = .ok (.aload_n 0, 1) := by decide +kernel
theorem dX7_simplify_27 : decode cX7_simplify 27 = .ok (.getfield 19, 3) := by decide +kernel
theorem dX7_simplify_30 : decode cX7_simplify 30 = .ok (.if_icmp .ge 37, 3) := by decide +kernel
theorem dX7_simplify_33 : decode cX7_simplify 33 = .ok (.aload_n 0, 1) := by decide +kernel
theorem dX7_simplify_34 : decode cX7_simplify 34 = .ok (.getfield 9, 3) := by decide +kernel
theorem dX7_simplify_37 : decode cX7_simplify 37 = .ok (.iload 4, 2) := by decide +kernel
theorem dX7_simplify_39 : decode cX7_simplify 39 = .ok (.iload 4, 2) := by decide +kernel
theorem dX7_simplify_41 : decode cX7_simplify 41 = .ok (.ifCond .eq 14, 3) := by decide +kernel
theorem dX7_simplify_44 : decode cX7_simplify 44 = .ok (.iload 4, 2) := by decide +kernel
theorem dX7_simplify_46 : decode cX7_simplify 46 = .ok (.aload_n 0, 1) := by decide +kernel
theorem dX7_simplify_47 : decode cX7_simplify 47 = .ok (.getfield 19, 3) := by decide +kernel
theorem dX7_simplify_50 : decode cX7_simplify 50 = .ok (.iconst 1, 1) := by decide +kernel
theorem dX7_simplify_51 : decode cX7_simplify 51 = .ok (.isub, 1) := by decide +kernel
theorem dX7_simplify_52 : decode cX7_simplify 52 = .ok (.if_icmp .ne 7, 3) := by decide +kernel
theorem dX7_simplify_55 : decode cX7_simplify 55 = .ok (.iconst 1, 1) := by decide +kernel
theorem dX7_simplify_56 : decode cX7_simplify 56 = .ok (.goto 4, 3) := by decide +kernel
theorem dX7_simplify_59 : decode cX7_simplify 59 = .ok (.iconst 0, 1) := by decide +kernel
theorem dX7_simplify_60 : decode cX7_simplify 60 = .ok (.bastore, 1) := by decide +kernel
theorem dX7_simplify_61 : decode cX7_simplify 61 = .ok (.iinc 4 1, 3) := by decide +kernel
theorem dX7_simplify_64 : decode cX7_simplify 64 = .ok (.goto (-40), 3) := by decide +kernel
theorem dX7_simplify_67 : decode cX7_simplify 67 = .ok (.iconst 0, 1) := by decide +kernel
theorem dX7_simplify_68 : decode cX7_simplify 68 = .ok (.istore 4, 2) := by decide +kernel
theorem dX7_simplify_70 : decode cX7_simplify 70 = .ok (.iconst 0, 1) := by decide +kernel
theorem dX7_simplify_71 : decode cX7_simplify 71 = .ok (.istore 5, 2) := by decide +kernel
theorem dX7_simplify_73 : decode cX7_simplify 73 = .ok (.iload 5, 2) := by decide +kernel
theorem dX7_simplify_75 : decode cX7_simplify 75 = .ok (.iconst 2, 1) := by decide +kernel
theorem dX7_simplify_76 : decode cX7_simplify 76 = .ok (.aload_n 0, 1) := by decide +kernel
theorem dX7_simplify_77 : decode cX7_simplify 77 = .ok (.getfield 19, 3) := by decide +kernel
theorem dX7_simplify_80 : decode cX7_simplify 80 = .ok (.imul, 1) := by decide +kernel
theorem dX7_simplify_81 : decode cX7_simplify 81 = .ok (.if_icmp .ge 62, 3) := by decide +kernel
theorem dX7_simplify_84 : decode cX7_simplify 84 = .ok (.iload 4, 2) := by decide +kernel
theorem dX7_simplify_86 : decode cX7_simplify 86 = .ok (.aload_n 0, 1) := by decide +kernel
theorem dX7_simplify_87 : decode cX7_simplify 87 = .ok (.getfield 19, 3) := by decide +kernel
theorem dX7_simplify_90 : decode cX7_simplify 90 = .ok (.iconst 1, 1) := by decide +kernel
theorem dX7_simplify_91 : decode cX7_simplify 91 = .ok (.isub, 1) := by decide +kernel
theorem dX7_simplify_92 : decode cX7_simplify 92 = .ok (.if_icmp .ge 51, 3) := by decide +kernel
theorem dX7_simplify_95 : decode cX7_simplify 95 = .ok (.aload_n 0, 1) := by decide +kernel
theorem dX7_simplify_96 : decode cX7_simplify 96 = .ok (.iload 4, 2) := by decide +kernel
theorem dX7_simplify_98 : decode cX7_simplify 98 = .ok (.invokevirtual 32, 3) := by decide +kernel
theorem dX7_simplify_101 : decode cX7_simplify 101 = .ok (.istore 6, 2) := by decide +kernel
theorem dX7_simplify_103 : decode cX7_simplify 103 = .ok (.aload_n 0, 1) := by decide +kernel
theorem dX7_simplify_104 : decode cX7_simplify 104 = .ok (.aload_n 1, 1) := by decide +kernel
theorem dX7_simplify_105 : decode cX7_simplify 105 = .ok (.iload 4, 2) := by decide +kernel
theorem dX7_simplify_107 : decode cX7_simplify 107 = .ok (.iload 6, 2) := by decide +kernel
theorem dX7_simplify_109 : decode cX7_simplify 109 = .ok (.iload_n 3, 1) := by decide +kernel
theorem dX7_simplify_110 : decode cX7_simplify 110 = .ok (.invokevirtual 35, 3) := by decide +kernel
theorem dX7_simplify_113 : decode cX7_simplify 113 = .ok (.istore 7, 2) := by decide +kernel
theorem dX7_simplify_115 : decode cX7_simplify 115 = .ok (.iload 7, 2) := by decide +kernel
theorem dX7_simplify_117 : decode cX7_simplify 117 = .ok (.iload 4, 2) := by decide +kernel
theorem dX7_simplify_119 : decode cX7_simplify 119 = .ok (.if_icmp .le 14, 3) := by decide +kernel
theorem dX7_simplify_122 : decode cX7_simplify 122 = .ok (.aload_n 0, 1) := by decide +kernel
theorem dX7_simplify_123 : decode cX7_simplify 123 = .ok (.getfield 9, 3) := by decide +kernel
theorem dX7_simplify_126 : decode cX7_simplify 126 = .ok (.iload 7, 2) := by decide +kernel
theorem dX7_simplify_128 : decode cX7_simplify 128 = .ok (.iconst 1, 1) := by decide +kernel
theorem dX7_simplify_129 : decode cX7_simplify 129 = .ok (.bastore, 1) := by decide +kernel
theorem dX7_simplify_130 : decode cX7_simplify 130 = .ok (.goto 7, 3) := by decide +kernel
theorem dX7_simplify_133 : decode cX7_simplify 133 = .ok (.iload 6, 2) := by decide +kernel
theorem dX7_simplify_135 : decode cX7_simplify 135 = .ok (.istore 4, 2) := by decide +kernel
theorem dX7_simplify_137 : decode cX7_simplify 137 = .ok (.iinc 5 1, 3) := by decide +kernel
theorem dX7_simplify_140 : decode cX7_simplify 140 = .ok (.goto (-67), 3) := by decide +kernel
theorem dX7_simplify_143 : decode cX7_simplify 143 = .ok (.return_, 1) := by decide +kernel
theorem dX7_nextKept_0 : decode cX7_nextKept 0 = .ok (.iload_n 1, 1) := by decide +kernel
theorem dX7_nextKept_1 : decode cX7_nextKept 1 = .ok (.iconst 1, 1) := by decide +kernel
theorem dX7_nextKept_2 : decode cX7_nextKept 2 = .ok (.iadd, 1) := by decide +kernel
theorem dX7_nextKept_3 : decode cX7_nextKept 3 = .ok (.istore_n 2, 1) := by decide +kernel
theorem dX7_nextKept_4 : decode cX7_nextKept 4 = .ok (.iload_n 2, 1) := by decide +kernel
theorem dX7_nextKept_5 : decode cX7_nextKept 5 = .ok (.aload_n 0, 1) := by decide +kernel
theorem dX7_nextKept_6 : decode cX7_nextKept 6 = .ok (.getfield 19, 3) := by decide +kernel
theorem dX7_nextKept_9 : decode cX7_nextKept 9 = .ok (.if_icmp .ge 20, 3) := by decide +kernel
theorem dX7_nextKept_12 : decode cX7_nextKept 12 = .ok (.aload_n 0, 1) := by decide +kernel
theorem dX7_nextKept_13 : decode cX7_nextKept 13 = .ok (.getfield 9, 3) := by decide +kernel
theorem dX7_nextKept_16 : decode cX7_nextKept 16 = .ok (.iload_n 2, 1) := by decide +kernel
theorem dX7_nextKept_17 : decode cX7_nextKept 17 = .ok (.baload, 1) := by decide +kernel
theorem dX7_nextKept_18 : decode cX7_nextKept 18 = .ok (.ifCond .eq 5, 3) := by decide +kernel
theorem dX7_nextKept_21 : decode cX7_nextKept 21 = .ok (.iload_n 2, 1) := by decide +kernel
theorem dX7_nextKept_22 : decode cX7_nextKept 22 = .ok (.ireturn, 1) := by decide +kernel
theorem dX7_nextKept_23 : decode cX7_nextKept 23 = .ok (.iinc 2 1, 3) := by decide +kernel
theorem dX7_nextKept_26 : decode cX7_nextKept 26 = .ok (.goto (-22), 3) := by decide +kernel
theorem dX7_nextKept_29 : decode cX7_nextKept 29 = .ok (.aload_n 0, 1) := by decide +kernel
theorem dX7_nextKept_30 : decode cX7_nextKept 30 = .ok (.getfield 19, 3) := by decide +kernel
theorem dX7_nextKept_33 : decode cX7_nextKept 33 = .ok (.iconst 1, 1) := by decide +kernel
theorem dX7_nextKept_34 : decode cX7_nextKept 34 = .ok (.isub, 1) := by decide +kernel
theorem dX7_nextKept_35 : decode cX7_nextKept 35 = .ok (.ireturn, 1) := by decide +kernel
theorem dX7_worstBetween_0 : decode cX7_worstBetween 0 = .ok (.iload 4, 2) := by decide +kernel
theorem dX7_worstBetween_2 : decode cX7_worstBetween 2 = .ok (.i2l, 1) := by decide +kernel
theorem dX7_worstBetween_3 : decode cX7_worstBetween 3 = .ok (.iload 4, 2) := by decide +kernel
theorem dX7_worstBetween_5 : decode cX7_worstBetween 5 = .ok (.i2l, 1) := by decide +kernel
theorem dX7_worstBetween_6 : decode cX7_worstBetween 6 = .ok (.lmul, 1) := by decide +kernel
theorem dX7_worstBetween_7 : decode cX7_worstBetween 7 = .ok (.aload_n 1, 1) := by decide +kernel
theorem dX7_worstBetween_8 : decode cX7_worstBetween 8 = .ok (.aload_n 0, 1) := by decide +kernel
theorem dX7_worstBetween_9 : decode cX7_worstBetween 9 = .ok (.getfield 15, 3) := by decide +kernel
theorem dX7_worstBetween_12 : decode cX7_worstBetween 12 = .ok (.iload_n 2, 1) := by decide +kernel
theorem dX7_worstBetween_13 : decode cX7_worstBetween 13 = .ok (.iadd, 1) := by decide +kernel
theorem dX7_worstBetween_14 : decode cX7_worstBetween 14 = .ok (.aload_n 0, 1) := by decide +kernel
theorem dX7_worstBetween_15 : decode cX7_worstBetween 15 = .ok (.getfield 15, 3) := by decide +kernel
theorem dX7_worstBetween_18 : decode cX7_worstBetween 18 = .ok (.iload_n 3, 1) := by decide +kernel
theorem dX7_worstBetween_19 : decode cX7_worstBetween 19 = .ok (.iadd, 1) := by decide +kernel
theorem dX7_worstBetween_20 : decode cX7_worstBetween 20 = .ok (.invokevirtual 39, 3) := by decide +kernel
theorem dX7_worstBetween_23 : decode cX7_worstBetween 23 = .ok (.lmul, 1) := by decide +kernel
theorem dX7_worstBetween_24 : decode cX7_worstBetween 24 = .ok (.lstore 5, 2) := by decide +kernel
theorem dX7_worstBetween_26 : decode cX7_worstBetween 26 = .ok (.iload_n 2, 1) := by decide +kernel
theorem dX7_worstBetween_27 : decode cX7_worstBetween 27 = .ok (.istore 7, 2) := by decide +kernel
theorem dX7_worstBetween_29 : decode cX7_worstBetween 29 = .ok (.iload_n 2, 1) := by decide +kernel
theorem dX7_worstBetween_30 : decode cX7_worstBetween 30 = .ok (.iconst 1, 1) := by decide +kernel
theorem dX7_worstBetween_31 : decode cX7_worstBetween 31 = .ok (.iadd, 1) := by decide +kernel
theorem dX7_worstBetween_32 : decode cX7_worstBetween 32 = .ok (.istore 8, 2) := by decide +kernel
theorem dX7_worstBetween_34 : decode cX7_worstBetween 34 = .ok (.iload 8, 2) := by decide +kernel
theorem dX7_worstBetween_36 : decode cX7_worstBetween 36 = .ok (.iload_n 3, 1) := by decide +kernel
theorem dX7_worstBetween_37 : decode cX7_worstBetween 37 = .ok (.if_icmp .ge 50, 3) := by decide +kernel
theorem dX7_worstBetween_40 : decode cX7_worstBetween 40 = .ok (.aload_n 1, 1) := by decide +kernel
theorem dX7_worstBetween_41 : decode cX7_worstBetween 41 = .ok (.aload_n 0, 1) := by decide +kernel
theorem dX7_worstBetween_42 : decode cX7_worstBetween 42 = .ok (.getfield 15, 3) := by decide +kernel
theorem dX7_worstBetween_45 : decode cX7_worstBetween 45 = .ok (.iload_n 2, 1) := by decide +kernel
theorem dX7_worstBetween_46 : decode cX7_worstBetween 46 = .ok (.iadd, 1) := by decide +kernel
theorem dX7_worstBetween_47 : decode cX7_worstBetween 47 = .ok (.aload_n 0, 1) := by decide +kernel
theorem dX7_worstBetween_48 : decode cX7_worstBetween 48 = .ok (.getfield 15, 3) := by decide +kernel
theorem dX7_worstBetween_51 : decode cX7_worstBetween 51 = .ok (.iload_n 3, 1) := by decide +kernel
theorem dX7_worstBetween_52 : decode cX7_worstBetween 52 = .ok (.iadd, 1) := by decide +kernel
theorem dX7_worstBetween_53 : decode cX7_worstBetween 53 = .ok (.aload_n 0, 1) := by decide +kernel
theorem dX7_worstBetween_54 : decode cX7_worstBetween 54 = .ok (.getfield 15, 3) := by decide +kernel
theorem dX7_worstBetween_57 : decode cX7_worstBetween 57 = .ok (.iload 8, 2) := by decide +kernel
theorem dX7_worstBetween_59 : decode cX7_worstBetween 59 = .ok (.iadd, 1) := by decide +kernel
theorem dX7_worstBetween_60 : decode cX7_worstBetween 60 = .ok (.invokevirtual 43, 3) := by decide +kernel
theorem dX7_worstBetween_63 : decode cX7_worstBetween 63 = .ok (.lstore 9, 2) := by decide +kernel
theorem dX7_worstBetween_65 : decode cX7_worstBetween 65 = .ok (.lload 9, 2) := by decide +kernel
theorem dX7_worstBetween_67 : decode cX7_worstBetween 67 = .ok (.lload 5, 2) := by decide +kernel
theorem dX7_worstBetween_69 : decode cX7_worstBetween 69 = .ok (.lcmp, 1) := by decide +kernel
theorem dX7_worstBetween_70 : decode cX7_worstBetween 70 = .ok (.ifCond .le 11, 3) := by decide +kernel
theorem dX7_worstBetween_73 : decode cX7_worstBetween 73 = .ok (.lload 9, 2) := by decide +kernel
theorem dX7_worstBetween_75 : decode cX7_worstBetween 75 = .ok (.lstore 5, 2) := by decide +kernel
theorem dX7_worstBetween_77 : decode cX7_worstBetween 77 = .ok (.iload 8, 2) := by decide +kernel
theorem dX7_worstBetween_79 : decode cX7_worstBetween 79 = .ok (.istore 7, 2) := by decide +kernel
theorem dX7_worstBetween_81 : decode cX7_worstBetween 81 = .ok (.iinc 8 1, 3) := by decide +kernel
theorem dX7_worstBetween_84 : decode cX7_worstBetween 84 = .ok (.goto (-50), 3) := by decide +kernel
theorem dX7_worstBetween_87 : decode cX7_worstBetween 87 = .ok (.iload 7, 2) := by decide +kernel
theorem dX7_worstBetween_89 : decode cX7_worstBetween 89 = .ok (.ireturn, 1) := by decide +kernel
theorem dX7_kept_0 : decode cX7_kept 0 = .ok (.iconst 0, 1) := by decide +kernel
theorem dX7_kept_1 : decode cX7_kept 1 = .ok (.istore_n 1, 1) := by decide +kernel
theorem dX7_kept_2 : decode cX7_kept 2 = .ok (.iconst 0, 1) := by decide +kernel
theorem dX7_kept_3 : decode cX7_kept 3 = .ok (.istore_n 2, 1) := by decide +kernel
theorem dX7_kept_4 : decode cX7_kept 4 = .ok (.iload_n 2, 1) := by decide +kernel
theorem dX7_kept_5 : decode cX7_kept 5 = .ok (.aload_n 0, 1) := by decide +kernel
theorem dX7_kept_6 : decode cX7_kept 6 = .ok (.getfield 19, 3) := by decide +kernel
theorem dX7_kept_9 : decode cX7_kept 9 = .ok (.if_icmp .ge 21, 3) := by decide +kernel
theorem dX7_kept_12 : decode cX7_kept 12 = .ok (.aload_n 0, 1) := by decide +kernel
theorem dX7_kept_13 : decode cX7_kept 13 = .ok (.getfield 9, 3) := by decide +kernel
theorem dX7_kept_16 : decode cX7_kept 16 = .ok (.iload_n 2, 1) := by decide +kernel
theorem dX7_kept_17 : decode cX7_kept 17 = .ok (.baload, 1) := by decide +kernel
theorem dX7_kept_18 : decode cX7_kept 18 = .ok (.ifCond .eq 6, 3) := by decide +kernel
theorem dX7_kept_21 : decode cX7_kept 21 = .ok (.iinc 1 1, 3) := by decide +kernel
theorem dX7_kept_24 : decode cX7_kept 24 = .ok (.iinc 2 1, 3) := by decide +kernel
theorem dX7_kept_27 : decode cX7_kept 27 = .ok (.goto (-23), 3) := by decide +kernel
theorem dX7_kept_30 : decode cX7_kept 30 = .ok (.iload_n 1, 1) := by decide +kernel
theorem dX7_kept_31 : decode cX7_kept 31 = .ok (.ireturn, 1) := by decide +kernel
theorem dX7_keptVertex_0 : decode cX7_keptVertex 0 = .ok (.iconst 0, 1) := by decide +kernel
theorem dX7_keptVertex_1 : decode cX7_keptVertex 1 = .ok (.istore_n 2, 1) := by decide +kernel
theorem dX7_keptVertex_2 : decode cX7_keptVertex 2 = .ok (.iconst 0, 1) := by decide +kernel
theorem dX7_keptVertex_3 : decode cX7_keptVertex 3 = .ok (.istore_n 3, 1) := by decide +kernel
theorem dX7_keptVertex_4 : decode cX7_keptVertex 4 = .ok (.iload_n 3, 1) := by decide +kernel
theorem dX7_keptVertex_5 : decode cX7_keptVertex 5 = .ok (.aload_n 0, 1) := by decide +kernel
theorem dX7_keptVertex_6 : decode cX7_keptVertex 6 = .ok (.getfield 19, 3) := by decide +kernel
theorem dX7_keptVertex_9 : decode cX7_keptVertex 9 = .ok (.if_icmp .ge 28, 3) := by decide +kernel
theorem dX7_keptVertex_12 : decode cX7_keptVertex 12 = .ok (.aload_n 0, 1) := by decide +kernel
theorem dX7_keptVertex_13 : decode cX7_keptVertex 13 = .ok (.getfield 9, 3) := by decide +kernel
theorem dX7_keptVertex_16 : decode cX7_keptVertex 16 = .ok (.iload_n 3, 1) := by decide +kernel
theorem dX7_keptVertex_17 : decode cX7_keptVertex 17 = .ok (.baload, 1) := by decide +kernel
theorem dX7_keptVertex_18 : decode cX7_keptVertex 18 = .ok (.ifCond .eq 13, 3) := by decide +kernel
theorem dX7_keptVertex_21 : decode cX7_keptVertex 21 = .ok (.iload_n 2, 1) := by decide +kernel
theorem dX7_keptVertex_22 : decode cX7_keptVertex 22 = .ok (.iload_n 1, 1) := by decide +kernel
theorem dX7_keptVertex_23 : decode cX7_keptVertex 23 = .ok (.if_icmp .ne 5, 3) := by decide +kernel
theorem dX7_keptVertex_26 : decode cX7_keptVertex 26 = .ok (.iload_n 3, 1) := by decide +kernel
theorem dX7_keptVertex_27 : decode cX7_keptVertex 27 = .ok (.ireturn, 1) := by decide +kernel
theorem dX7_keptVertex_28 : decode cX7_keptVertex 28 = .ok (.iinc 2 1, 3) := by decide +kernel
theorem dX7_keptVertex_31 : decode cX7_keptVertex 31 = .ok (.iinc 3 1, 3) := by decide +kernel
theorem dX7_keptVertex_34 : decode cX7_keptVertex 34 = .ok (.goto (-30), 3) := by decide +kernel
theorem dX7_keptVertex_37 : decode cX7_keptVertex 37 = .ok (.ldc 47, 2) := by decide +kernel
theorem dX7_keptVertex_39 : decode cX7_keptVertex 39 = .ok (.ireturn, 1) := by decide +kernel
theorem dX8_init_0 : decode cX8_init 0 = .ok (.aload_n 0, 1) := by decide +kernel
theorem dX8_init_1 : decode cX8_init 1 = .ok (.invokespecial 3, 3) := by decide +kernel
theorem dX8_init_4 : decode cX8_init 4 = .ok (.aload_n 0, 1) := by decide +kernel
theorem dX8_init_5 : decode cX8_init 5 = .ok (.sipush 864, 3) := by decide +kernel
theorem dX8_init_8 : decode cX8_init 8 = .ok (.newarray .char, 2) := by decide +kernel
theorem dX8_init_10 : decode cX8_init 10 = .ok (.putfield 9, 3) := by decide +kernel
theorem dX8_init_13 : decode cX8_init 13 = .ok (.aload_n 0, 1) := by decide +kernel
theorem dX8_init_14 : decode cX8_init 14 = .ok (.iconst 0, 1) := by decide +kernel
theorem dX8_init_15 : decode cX8_init 15 = .ok (.putfield 15, 3) := by decide +kernel
theorem dX8_init_18 : decode cX8_init 18 = .ok (.return_, 1) := by decide +kernel
theorem dX8_characterAt_0 : decode cX8_characterAt 0 = .ok (.iload_n 1, 1) := by decide +kernel
theorem dX8_characterAt_1 : decode cX8_characterAt 1 = .ok (.ifCond .lt 20, 3) := by decide +kernel
theorem dX8_characterAt_4 : decode cX8_characterAt 4 = .ok (.iload_n 1, 1) := by decide +kernel
theorem dX8_characterAt_5 : decode cX8_characterAt 5 = .ok (.aload_n 0, 1) := by decide +kernel
theorem dX8_characterAt_6 : decode cX8_characterAt 6 = .ok (.getfield 15, 3) := by decide +kernel
theorem dX8_characterAt_9 : decode cX8_characterAt 9 = .ok (.if_icmp .ge 12, 3) := by decide +kernel
theorem dX8_characterAt_12 : decode cX8_characterAt 12 = .ok (.aload_n 0, 1) := by decide +kernel
theorem dX8_characterAt_13 : decode cX8_characterAt 13 = .ok (.getfield 9, 3) := by decide +kernel
theorem dX8_characterAt_16 : decode cX8_characterAt 16 = .ok (.iload_n 1, 1) := by decide +kernel
theorem dX8_characterAt_17 : decode cX8_characterAt 17 = .ok (.caload, 1) := by decide +kernel
theorem dX8_characterAt_18 : decode cX8_characterAt 18 = .ok (.goto 5, 3) := by decide +kernel
theorem dX8_characterAt_21 : decode cX8_characterAt 21 = .ok (.ldc 19, 2) := by decide +kernel
theorem dX8_characterAt_23 : decode cX8_characterAt 23 = .ok (.ireturn, 1) := by decide +kernel
theorem dX8_spellOut_0 : decode cX8_spellOut 0 = .ok (.aload_n 0, 1) := by decide +kernel
theorem dX8_spellOut_1 : decode cX8_spellOut 1 = .ok (.iconst 0, 1) := by decide +kernel
theorem dX8_spellOut_2 : decode cX8_spellOut 2 = .ok (.putfield 15, 3) := by decide +kernel
theorem dX8_spellOut_5 : decode cX8_spellOut 5 = .ok (.iconst 0, 1) := by decide +kernel
theorem dX8_spellOut_6 : decode cX8_spellOut 6 = .ok (.istore_n 2, 1) := by decide +kernel
theorem dX8_spellOut_7 : decode cX8_spellOut 7 = .ok (.iload_n 2, 1) := by decide +kernel
theorem dX8_spellOut_8 : decode cX8_spellOut 8 = .ok (.aload_n 1, 1) := by decide +kernel
theorem dX8_spellOut_9 : decode cX8_spellOut 9 = .ok (.getfield 20, 3) := by decide +kernel
theorem dX8_spellOut_12 : decode cX8_spellOut 12 = .ok (.if_icmp .ge 36, 3) := by decide +kernel
theorem dX8_spellOut_15 : decode cX8_spellOut 15 = .ok (.aload_n 1, 1) := by decide +kernel
theorem dX8_spellOut_16 : decode cX8_spellOut 16 = .ok (.iload_n 2, 1) := by decide +kernel
theorem dX8_spellOut_17 : decode cX8_spellOut 17 = .ok (.invokevirtual 23, 3) := by decide +kernel
theorem dX8_spellOut_20 : decode cX8_spellOut 20 = .ok (.istore_n 3, 1) := by decide +kernel
theorem dX8_spellOut_21 : decode cX8_spellOut 21 = .ok (.aload_n 0, 1) := by decide +kernel
theorem dX8_spellOut_22 : decode cX8_spellOut 22 = .ok (.ldc 27, 2) := by decide +kernel
theorem dX8_spellOut_24 : decode cX8_spellOut 24 = .ok (.iload_n 3, 1) := by decide +kernel
theorem dX8_spellOut_25 : decode cX8_spellOut 25 = .ok (.invokevirtual 29, 3) := by decide +kernel
theorem dX8_spellOut_28 : decode cX8_spellOut 28 = .ok (.invokevirtual 35, 3) := by decide +kernel
theorem dX8_spellOut_31 : decode cX8_spellOut 31 = .ok (.iload_n 3, 1) := by decide +kernel
theorem dX8_spellOut_32 : decode cX8_spellOut 32 = .ok (.iconst 4, 1) := by decide +kernel
theorem dX8_spellOut_33 : decode cX8_spellOut 33 = .ok (.if_icmp .eq 9, 3) := by decide +kernel
theorem dX8_spellOut_36 : decode cX8_spellOut 36 = .ok (.aload_n 0, 1) := by decide +kernel
theorem dX8_spellOut_37 : decode cX8_spellOut 37 = .ok (.aload_n 1, 1) := by decide +kernel
theorem dX8_spellOut_38 : decode cX8_spellOut 38 = .ok (.iload_n 2, 1) := by decide +kernel
theorem dX8_spellOut_39 : decode cX8_spellOut 39 = .ok (.invokevirtual 39, 3) := by decide +kernel
theorem dX8_spellOut_42 : decode cX8_spellOut 42 = .ok (.iinc 2 1, 3) := by decide +kernel
theorem dX8_spellOut_45 : decode cX8_spellOut 45 = .ok (.goto (-38), 3) := by decide +kernel
theorem dX8_spellOut_48 : decode cX8_spellOut 48 = .ok (.return_, 1) := by decide +kernel
theorem dX8_spellNumbers_0 : decode cX8_spellNumbers 0 = .ok (.iconst 2, 1) := by decide +kernel
theorem dX8_spellNumbers_1 : decode cX8_spellNumbers 1 = .ok (.aload_n 1, 1) := by decide +kernel
theorem dX8_spellNumbers_2 : decode cX8_spellNumbers 2 = .ok (.iload_n 2, 1) := by decide +kernel
theorem dX8_spellNumbers_3 : decode cX8_spellNumbers 3 = .ok (.invokevirtual 43, 3) := by decide +kernel
theorem dX8_spellNumbers_6 : decode cX8_spellNumbers 6 = .ok (.imul, 1) := by decide +kernel
theorem dX8_spellNumbers_7 : decode cX8_spellNumbers 7 = .ok (.istore_n 3, 1) := by decide +kernel
theorem dX8_spellNumbers_8 : decode cX8_spellNumbers 8 = .ok (.iconst 0, 1) := by decide +kernel
theorem dX8_spellNumbers_9 : decode cX8_spellNumbers 9 = .ok (.istore 4, 2) := by decide +kernel
theorem dX8_spellNumbers_11 : decode cX8_spellNumbers 11 = .ok (.iload 4, 2) := by decide +kernel
theorem dX8_spellNumbers_13 : decode cX8_spellNumbers 13 = .ok (.iload_n 3, 1) := by decide +kernel
theorem dX8_spellNumbers_14 : decode cX8_spellNumbers 14 = .ok (.if_icmp .ge 31, 3) := by decide +kernel
theorem dX8_spellNumbers_17 : decode cX8_spellNumbers 17 = .ok (.iload 4, 2) := by decide +kernel
theorem dX8_spellNumbers_19 : decode cX8_spellNumbers 19 = .ok (.ifCond .le 9, 3) := by decide +kernel
theorem dX8_spellNumbers_22 : decode cX8_spellNumbers 22 = .ok (.aload_n 0, 1) := by decide +kernel
theorem dX8_spellNumbers_23 : decode cX8_spellNumbers 23 = .ok (.bipush 44, 2) := by decide +kernel
theorem dX8_spellNumbers_25 : decode cX8_spellNumbers 25 = .ok (.invokevirtual 35, 3) := by decide +kernel
theorem dX8_spellNumbers_28 : decode cX8_spellNumbers 28 = .ok (.aload_n 0, 1) := by decide +kernel
theorem dX8_spellNumbers_29 : decode cX8_spellNumbers 29 = .ok (.aload_n 1, 1) := by decide +kernel
theorem dX8_spellNumbers_30 : decode cX8_spellNumbers 30 = .ok (.iload_n 2, 1) := by decide +kernel
theorem dX8_spellNumbers_31 : decode cX8_spellNumbers 31 = .ok (.iload 4, 2) := by decide +kernel
theorem dX8_spellNumbers_33 : decode cX8_spellNumbers 33 = .ok (.invokevirtual 46, 3) := by decide +kernel
theorem dX8_spellNumbers_36 : decode cX8_spellNumbers 36 = .ok (.invokevirtual 50, 3) := by decide +kernel
theorem dX8_spellNumbers_39 : decode cX8_spellNumbers 39 = .ok (.iinc 4 1, 3) := by decide +kernel
theorem dX8_spellNumbers_42 : decode cX8_spellNumbers 42 = .ok (.goto (-31), 3) := by decide +kernel
theorem dX8_spellNumbers_45 : decode cX8_spellNumbers 45 = .ok (.return_, 1) := by decide +kernel
theorem dX8_spellNumber_0 : decode cX8_spellNumber 0 = .ok (.iload_n 1, 1) := by decide +kernel
theorem dX8_spellNumber_1 : decode cX8_spellNumber 1 = .ok (.ifCond .ge 9, 3) := by decide +kernel
theorem dX8_spellNumber_4 : decode cX8_spellNumber 4 = .ok (.aload_n 0, 1) := by decide +kernel
theorem dX8_spellNumber_5 : decode cX8_spellNumber 5 = .ok (.bipush 45, 2) := by decide +kernel
theorem dX8_spellNumber_7 : decode cX8_spellNumber 7 = .ok (.invokevirtual 35, 3) := by decide +kernel
theorem dX8_spellNumber_10 : decode cX8_spellNumber 10 = .ok (.iload_n 1, 1) := by decide +kernel
theorem dX8_spellNumber_11 : decode cX8_spellNumber 11 = .ok (.invokestatic 54, 3) := by decide +kernel
theorem dX8_spellNumber_14 : decode cX8_spellNumber 14 = .ok (.istore_n 2, 1) := by decide +kernel
theorem dX8_spellNumber_15 : decode cX8_spellNumber 15 = .ok (.sipush 1000, 3) := by decide +kernel
theorem dX8_spellNumber_18 : decode cX8_spellNumber 18 = .ok (.istore_n 3, 1) := by decide +kernel
theorem dX8_spellNumber_19 : decode cX8_spellNumber 19 = .ok (.iload_n 3, 1) := by decide +kernel
theorem dX8_spellNumber_20 : decode cX8_spellNumber 20 = .ok (.ifCond .le 35, 3) := by decide +kernel
theorem dX8_spellNumber_23 : decode cX8_spellNumber 23 = .ok (.iload_n 2, 1) := by decide +kernel
theorem dX8_spellNumber_24 : decode cX8_spellNumber 24 = .ok (.iload_n 3, 1) := by decide +kernel
theorem dX8_spellNumber_25 : decode cX8_spellNumber 25 = .ok (.if_icmp .ge 8, 3) := by decide +kernel
theorem dX8_spellNumber_28 : decode cX8_spellNumber 28 = .ok (.iload_n 3, 1) := by decide +kernel
theorem dX8_spellNumber_29 : decode cX8_spellNumber 29 = .ok (.iconst 1, 1) := by decide +kernel
theorem dX8_spellNumber_30 : decode cX8_spellNumber 30 = .ok (.if_icmp .ne 17, 3) := by decide +kernel
theorem dX8_spellNumber_33 : decode cX8_spellNumber 33 = .ok (.aload_n 0, 1) := by decide +kernel
theorem dX8_spellNumber_34 : decode cX8_spellNumber 34 = .ok (.bipush 48, 2) := by decide +kernel
theorem dX8_spellNumber_36 : decode cX8_spellNumber 36 = .ok (.iload_n 2, 1) := by decide +kernel
theorem dX8_spellNumber_37 : decode cX8_spellNumber 37 = .ok (.iload_n 3, 1) := by decide +kernel
theorem dX8_spellNumber_38 : decode cX8_spellNumber 38 = .ok (.idiv, 1) := by decide +kernel
theorem dX8_spellNumber_39 : decode cX8_spellNumber 39 = .ok (.bipush 10, 2) := by decide +kernel
theorem dX8_spellNumber_41 : decode cX8_spellNumber 41 = .ok (.irem, 1) := by decide +kernel
theorem dX8_spellNumber_42 : decode cX8_spellNumber 42 = .ok (.iadd, 1) := by decide +kernel
theorem dX8_spellNumber_43 : decode cX8_spellNumber 43 = .ok (.i2c, 1) := by decide +kernel
theorem dX8_spellNumber_44 : decode cX8_spellNumber 44 = .ok (.invokevirtual 35, 3) := by decide +kernel
theorem dX8_spellNumber_47 : decode cX8_spellNumber 47 = .ok (.iload_n 3, 1) := by decide +kernel
theorem dX8_spellNumber_48 : decode cX8_spellNumber 48 = .ok (.bipush 10, 2) := by decide +kernel
theorem dX8_spellNumber_50 : decode cX8_spellNumber 50 = .ok (.idiv, 1) := by decide +kernel
theorem dX8_spellNumber_51 : decode cX8_spellNumber 51 = .ok (.istore_n 3, 1) := by decide +kernel
theorem dX8_spellNumber_52 : decode cX8_spellNumber 52 = .ok (.goto (-33), 3) := by decide +kernel
theorem dX8_spellNumber_55 : decode cX8_spellNumber 55 = .ok (.return_, 1) := by decide +kernel
theorem dX8_append_0 : decode cX8_append 0 = .ok (.aload_n 0, 1) := by decide +kernel
theorem dX8_append_1 : decode cX8_append 1 = .ok (.getfield 15, 3) := by decide +kernel
theorem dX8_append_4 : decode cX8_append 4 = .ok (.aload_n 0, 1) := by decide +kernel
theorem dX8_append_5 : decode cX8_append 5 = .ok (.getfield 9, 3) := by decide +kernel
theorem dX8_append_8 : decode cX8_append 8 = .ok (.arraylength, 1) := by decide +kernel
theorem dX8_append_9 : decode cX8_append 9 = .ok (.if_icmp .ge 23, 3) := by decide +kernel
theorem dX8_append_12 : decode cX8_append 12 = .ok (.aload_n 0, 1) := by decide +kernel
theorem dX8_append_13 : decode cX8_append 13 = .ok (.getfield 9, 3) := by decide +kernel
theorem dX8_append_16 : decode cX8_append 16 = .ok (.aload_n 0, 1) := by decide +kernel
theorem dX8_append_17 : decode cX8_append 17 = .ok (.getfield 15, 3) := by decide +kernel
theorem dX8_append_20 : decode cX8_append 20 = .ok (.iload_n 1, 1) := by decide +kernel
theorem dX8_append_21 : decode cX8_append 21 = .ok (.castore, 1) := by decide +kernel
theorem dX8_append_22 : decode cX8_append 22 = .ok (.aload_n 0, 1) := by decide +kernel
theorem dX8_append_23 : decode cX8_append 23 = .ok (.dup, 1) := by decide +kernel
theorem dX8_append_24 : decode cX8_append 24 = .ok (.getfield 15, 3) := by decide +kernel
theorem dX8_append_27 : decode cX8_append 27 = .ok (.iconst 1, 1) := by decide +kernel
theorem dX8_append_28 : decode cX8_append 28 = .ok (.iadd, 1) := by decide +kernel
theorem dX8_append_29 : decode cX8_append 29 = .ok (.putfield 15, 3) := by decide +kernel
theorem dX8_append_32 : decode cX8_append 32 = .ok (.return_, 1) := by decide +kernel
theorem dX9_init_0 : decode cX9_init 0 = .ok (.aload_n 0, 1) := by decide +kernel
theorem dX9_init_1 : decode cX9_init 1 = .ok (.invokespecial 3, 3) := by decide +kernel
theorem dX9_init_4 : decode cX9_init 4 = .ok (.aload_n 0, 1) := by decide +kernel
theorem dX9_init_5 : decode cX9_init 5 = .ok (.new 9, 3) := by decide +kernel
theorem dX9_init_8 : decode cX9_init 8 = .ok (.dup, 1) := by decide +kernel
theorem dX9_init_9 : decode cX9_init 9 = .ok (.invokespecial 11, 3) := by decide +kernel
theorem dX9_init_12 : decode cX9_init 12 = .ok (.putfield 12, 3) := by decide +kernel
theorem dX9_init_15 : decode cX9_init 15 = .ok (.aload_n 0, 1) := by decide +kernel
theorem dX9_init_16 : decode cX9_init 16 = .ok (.new 9, 3) := by decide +kernel
theorem dX9_init_19 : decode cX9_init 19 = .ok (.dup, 1) := by decide +kernel
theorem dX9_init_20 : decode cX9_init 20 = .ok (.invokespecial 11, 3) := by decide +kernel
theorem dX9_init_23 : decode cX9_init 23 = .ok (.putfield 16, 3) := by decide +kernel
theorem dX9_init_26 : decode cX9_init 26 = .ok (.aload_n 0, 1) := by decide +kernel
theorem dX9_init_27 : decode cX9_init 27 = .ok (.new 9, 3) := by decide +kernel
theorem dX9_init_30 : decode cX9_init 30 = .ok (.dup, 1) := by decide +kernel
theorem dX9_init_31 : decode cX9_init 31 = .ok (.invokespecial 11, 3) := by decide +kernel
theorem dX9_init_34 : decode cX9_init 34 = .ok (.putfield 19, 3) := by decide +kernel
theorem dX9_init_37 : decode cX9_init 37 = .ok (.aload_n 0, 1) := by decide +kernel
theorem dX9_init_38 : decode cX9_init 38 = .ok (.new 9, 3) := by decide +kernel
theorem dX9_init_41 : decode cX9_init 41 = .ok (.dup, 1) := by decide +kernel
theorem dX9_init_42 : decode cX9_init 42 = .ok (.invokespecial 11, 3) := by decide +kernel
theorem dX9_init_45 : decode cX9_init 45 = .ok (.putfield 22, 3) := by decide +kernel
theorem dX9_init_48 : decode cX9_init 48 = .ok (.aload_n 0, 1) := by decide +kernel
theorem dX9_init_49 : decode cX9_init 49 = .ok (.iconst 2, 1) := by decide +kernel
theorem dX9_init_50 : decode cX9_init 50 = .ok (.newarray .int, 2) := by decide +kernel
theorem dX9_init_52 : decode cX9_init 52 = .ok (.putfield 25, 3) := by decide +kernel
theorem dX9_init_55 : decode cX9_init 55 = .ok (.aload_n 0, 1) := by decide +kernel
theorem dX9_init_56 : decode cX9_init 56 = .ok (.new 29, 3) := by decide +kernel
theorem dX9_init_59 : decode cX9_init 59 = .ok (.dup, 1) := by decide +kernel
theorem dX9_init_60 : decode cX9_init 60 = .ok (.invokespecial 31, 3) := by decide +kernel
theorem dX9_init_63 : decode cX9_init 63 = .ok (.putfield 32, 3) := by decide +kernel
theorem dX9_init_66 : decode cX9_init 66 = .ok (.aload_n 0, 1) := by decide +kernel
theorem dX9_init_67 : decode cX9_init 67 = .ok (.new 36, 3) := by decide +kernel
theorem dX9_init_70 : decode cX9_init 70 = .ok (.dup, 1) := by decide +kernel
theorem dX9_init_71 : decode cX9_init 71 = .ok (.invokespecial 38, 3) := by decide +kernel
theorem dX9_init_74 : decode cX9_init 74 = .ok (.putfield 39, 3) := by decide +kernel
theorem dX9_init_77 : decode cX9_init 77 = .ok (.aload_n 0, 1) := by decide +kernel
theorem dX9_init_78 : decode cX9_init 78 = .ok (.new 43, 3) := by decide +kernel
theorem dX9_init_81 : decode cX9_init 81 = .ok (.dup, 1) := by decide +kernel
theorem dX9_init_82 : decode cX9_init 82 = .ok (.invokespecial 45, 3) := by decide +kernel
theorem dX9_init_85 : decode cX9_init 85 = .ok (.putfield 46, 3) := by decide +kernel
theorem dX9_init_88 : decode cX9_init 88 = .ok (.aload_n 0, 1) := by decide +kernel
theorem dX9_init_89 : decode cX9_init 89 = .ok (.new 50, 3) := by decide +kernel
theorem dX9_init_92 : decode cX9_init 92 = .ok (.dup, 1) := by decide +kernel
theorem dX9_init_93 : decode cX9_init 93 = .ok (.invokespecial 52, 3) := by decide +kernel
theorem dX9_init_96 : decode cX9_init 96 = .ok (.putfield 53, 3) := by decide +kernel
theorem dX9_init_99 : decode cX9_init 99 = .ok (.aload_n 0, 1) := by decide +kernel
theorem dX9_init_100 : decode cX9_init 100 = .ok (.new 57, 3) := by decide +kernel
theorem dX9_init_103 : decode cX9_init 103 = .ok (.dup, 1) := by decide +kernel
theorem dX9_init_104 : decode cX9_init 104 = .ok (.invokespecial 59, 3) := by decide +kernel
theorem dX9_init_107 : decode cX9_init 107 = .ok (.putfield 60, 3) := by decide +kernel
theorem dX9_init_110 : decode cX9_init 110 = .ok (.aload_n 0, 1) := by decide +kernel
theorem dX9_init_111 : decode cX9_init 111 = .ok (.new 64, 3) := by decide +kernel
theorem dX9_init_114 : decode cX9_init 114 = .ok (.dup, 1) := by decide +kernel
theorem dX9_init_115 : decode cX9_init 115 = .ok (.invokespecial 66, 3) := by decide +kernel
theorem dX9_init_118 : decode cX9_init 118 = .ok (.putfield 67, 3) := by decide +kernel
theorem dX9_init_121 : decode cX9_init 121 = .ok (.aload_n 0, 1) := by decide +kernel
theorem dX9_init_122 : decode cX9_init 122 = .ok (.iconst 4, 1) := by decide +kernel
theorem dX9_init_123 : decode cX9_init 123 = .ok (.putfield 71, 3) := by decide +kernel
theorem dX9_init_126 : decode cX9_init 126 = .ok (.aload_n 0, 1) := by decide +kernel
theorem dX9_init_127 : decode cX9_init 127 = .ok (.iconst 0, 1) := by decide +kernel
theorem dX9_init_128 : decode cX9_init 128 = .ok (.putfield 75, 3) := by decide +kernel
theorem dX9_init_131 : decode cX9_init 131 = .ok (.return_, 1) := by decide +kernel
theorem dX9_move_0 : decode cX9_move 0 = .ok (.iload_n 1, 1) := by decide +kernel
theorem dX9_move_1 : decode cX9_move 1 = .ok (.invokestatic 79, 3) := by decide +kernel
theorem dX9_move_4 : decode cX9_move 4 = .ok (.ifCond .eq 10, 3) := by decide +kernel
theorem dX9_move_7 : decode cX9_move 7 = .ok (.iload_n 2, 1) := by decide +kernel
theorem dX9_move_8 : decode cX9_move 8 = .ok (.invokestatic 79, 3) := by decide +kernel
theorem dX9_move_11 : decode cX9_move 11 = .ok (.ifCond .ne 6, 3) := by decide +kernel
theorem dX9_move_14 : decode cX9_move 14 = .ok (.ldc 83, 2) := by decide +kernel
theorem dX9_move_16 : decode cX9_move 16 = .ok (.ireturn, 1) := by decide +kernel
theorem dX9_move_17 : decode cX9_move 17 = .ok (.aload_n 0, 1) := by decide +kernel
theorem dX9_move_18 : decode cX9_move 18 = .ok (.iconst 0, 1) := by decide +kernel
theorem dX9_move_19 : decode cX9_move 19 = .ok (.iload_n 1, 1) := by decide +kernel
theorem dX9_move_20 : decode cX9_move 20 = .ok (.iload_n 2, 1) := by decide +kernel
theorem dX9_move_21 : decode cX9_move 21 = .ok (.iconst 0, 1) := by decide +kernel
theorem dX9_move_22 : decode cX9_move 22 = .ok (.iconst 0, 1) := by decide +kernel
theorem dX9_move_23 : decode cX9_move 23 = .ok (.iconst 0, 1) := by decide +kernel
theorem dX9_move_24 : decode cX9_move 24 = .ok (.iconst 0, 1) := by decide +kernel
theorem dX9_move_25 : decode cX9_move 25 = .ok (.invokevirtual 84, 3) := by decide +kernel
theorem dX9_move_28 : decode cX9_move 28 = .ok (.ireturn, 1) := by decide +kernel
theorem dX9_line_0 : decode cX9_line 0 = .ok (.iload_n 1, 1) := by decide +kernel
theorem dX9_line_1 : decode cX9_line 1 = .ok (.invokestatic 79, 3) := by decide +kernel
theorem dX9_line_4 : decode cX9_line 4 = .ok (.ifCond .eq 10, 3) := by decide +kernel
theorem dX9_line_7 : decode cX9_line 7 = .ok (.iload_n 2, 1) := by decide +kernel
theorem dX9_line_8 : decode cX9_line 8 = .ok (.invokestatic 79, 3) := by decide +kernel
theorem dX9_line_11 : decode cX9_line 11 = .ok (.ifCond .ne 6, 3) := by decide +kernel
theorem dX9_line_14 : decode cX9_line 14 = .ok (.ldc 83, 2) := by decide +kernel
theorem dX9_line_16 : decode cX9_line 16 = .ok (.ireturn, 1) := by decide +kernel
theorem dX9_line_17 : decode cX9_line 17 = .ok (.aload_n 0, 1) := by decide +kernel
theorem dX9_line_18 : decode cX9_line 18 = .ok (.iconst 1, 1) := by decide +kernel
theorem dX9_line_19 : decode cX9_line 19 = .ok (.iload_n 1, 1) := by decide +kernel
theorem dX9_line_20 : decode cX9_line 20 = .ok (.iload_n 2, 1) := by decide +kernel
theorem dX9_line_21 : decode cX9_line 21 = .ok (.iconst 0, 1) := by decide +kernel
theorem dX9_line_22 : decode cX9_line 22 = .ok (.iconst 0, 1) := by decide +kernel
theorem dX9_line_23 : decode cX9_line 23 = .ok (.iconst 0, 1) := by decide +kernel
theorem dX9_line_24 : decode cX9_line 24 = .ok (.iconst 0, 1) := by decide +kernel
theorem dX9_line_25 : decode cX9_line 25 = .ok (.invokevirtual 88, 3) := by decide +kernel
theorem dX9_line_28 : decode cX9_line 28 = .ok (.ireturn, 1) := by decide +kernel
theorem dX9_quad_0 : decode cX9_quad 0 = .ok (.iload_n 1, 1) := by decide +kernel
theorem dX9_quad_1 : decode cX9_quad 1 = .ok (.invokestatic 79, 3) := by decide +kernel
theorem dX9_quad_4 : decode cX9_quad 4 = .ok (.ifCond .eq 25, 3) := by decide +kernel
theorem dX9_quad_7 : decode cX9_quad 7 = .ok (.iload_n 2, 1) := by decide +kernel
theorem dX9_quad_8 : decode cX9_quad 8 = .ok (.invokestatic 79, 3) := by decide +kernel
theorem dX9_quad_11 : decode cX9_quad 11 = .ok (.ifCond .eq 18, 3) := by decide +kernel
theorem dX9_quad_14 : decode cX9_quad 14 = .ok (.iload_n 3, 1) := by decide +kernel
theorem dX9_quad_15 : decode cX9_quad 15 = .ok (.invokestatic 79, 3) := by decide +kernel
theorem dX9_quad_18 : decode cX9_quad 18 = .ok (.ifCond .eq 11, 3) := by decide +kernel
theorem dX9_quad_21 : decode cX9_quad 21 = .ok (.iload 4, 2) := by decide +kernel
theorem dX9_quad_23 : decode cX9_quad 23 = .ok (.invokestatic 79, 3) := by decide +kernel
theorem dX9_quad_26 : decode cX9_quad 26 = .ok (.ifCond .ne 6, 3) := by decide +kernel
theorem dX9_quad_29 : decode cX9_quad 29 = .ok (.ldc 83, 2) := by decide +kernel
theorem dX9_quad_31 : decode cX9_quad 31 = .ok (.ireturn, 1) := by decide +kernel
theorem dX9_quad_32 : decode cX9_quad 32 = .ok (.aload_n 0, 1) := by decide +kernel
theorem dX9_quad_33 : decode cX9_quad 33 = .ok (.iconst 2, 1) := by decide +kernel
theorem dX9_quad_34 : decode cX9_quad 34 = .ok (.iload_n 1, 1) := by decide +kernel
theorem dX9_quad_35 : decode cX9_quad 35 = .ok (.iload_n 2, 1) := by decide +kernel
theorem dX9_quad_36 : decode cX9_quad 36 = .ok (.iload_n 3, 1) := by decide +kernel
theorem dX9_quad_37 : decode cX9_quad 37 = .ok (.iload 4, 2) := by decide +kernel
theorem dX9_quad_39 : decode cX9_quad 39 = .ok (.iconst 0, 1) := by decide +kernel
theorem dX9_quad_40 : decode cX9_quad 40 = .ok (.iconst 0, 1) := by decide +kernel
theorem dX9_quad_41 : decode cX9_quad 41 = .ok (.invokevirtual 88, 3) := by decide +kernel
theorem dX9_quad_44 : decode cX9_quad 44 = .ok (.ireturn, 1) := by decide +kernel
theorem dX9_cubic_0 : decode cX9_cubic 0 = .ok (.iload_n 1, 1) := by decide +kernel
theorem dX9_cubic_1 : decode cX9_cubic 1 = .ok (.invokestatic 79, 3) := by decide +kernel
theorem dX9_cubic_4 : decode cX9_cubic 4 = .ok (.ifCond .eq 41, 3) := by decide +kernel
theorem dX9_cubic_7 : decode cX9_cubic 7 = .ok (.iload_n 2, 1) := by decide +kernel
theorem dX9_cubic_8 : decode cX9_cubic 8 = .ok (.invokestatic 79, 3) := by decide +kernel
theorem dX9_cubic_11 : decode cX9_cubic 11 = .ok (.ifCond .eq 34, 3) := by decide +kernel
theorem dX9_cubic_14 : decode cX9_cubic 14 = .ok (.iload_n 3, 1) := by decide +kernel
theorem dX9_cubic_15 : decode cX9_cubic 15 = .ok (.invokestatic 79, 3) := by decide +kernel
theorem dX9_cubic_18 : decode cX9_cubic 18 = .ok (.ifCond .eq 27, 3) := by decide +kernel
theorem dX9_cubic_21 : decode cX9_cubic 21 = .ok (.iload 4, 2) := by decide +kernel
theorem dX9_cubic_23 : decode cX9_cubic 23 = .ok (.invokestatic 79, 3) := by decide +kernel
theorem dX9_cubic_26 : decode cX9_cubic 26 = .ok (.ifCond .eq 19, 3) := by decide +kernel
theorem dX9_cubic_29 : decode cX9_cubic 29 = .ok (.iload 5, 2) := by decide +kernel
theorem dX9_cubic_31 : decode cX9_cubic 31 = .ok (.invokestatic 79, 3) := by decide +kernel
theorem dX9_cubic_34 : decode cX9_cubic 34 = .ok (.ifCond .eq 11, 3) := by decide +kernel
theorem dX9_cubic_37 : decode cX9_cubic 37 = .ok (.iload 6, 2) := by decide +kernel
theorem dX9_cubic_39 : decode cX9_cubic 39 = .ok (.invokestatic 79, 3) := by decide +kernel
theorem dX9_cubic_42 : decode cX9_cubic 42 = .ok (.ifCond .ne 6, 3) := by decide +kernel
theorem dX9_cubic_45 : decode cX9_cubic 45 = .ok (.ldc 83, 2) := by decide +kernel
theorem dX9_cubic_47 : decode cX9_cubic 47 = .ok (.ireturn, 1) := by decide +kernel
theorem dX9_cubic_48 : decode cX9_cubic 48 = .ok (.aload_n 0, 1) := by decide +kernel
theorem dX9_cubic_49 : decode cX9_cubic 49 = .ok (.iconst 3, 1) := by decide +kernel
theorem dX9_cubic_50 : decode cX9_cubic 50 = .ok (.iload_n 1, 1) := by decide +kernel
theorem dX9_cubic_51 : decode cX9_cubic 51 = .ok (.iload_n 2, 1) := by decide +kernel
theorem dX9_cubic_52 : decode cX9_cubic 52 = .ok (.iload_n 3, 1) := by decide +kernel
theorem dX9_cubic_53 : decode cX9_cubic 53 = .ok (.iload 4, 2) := by decide +kernel
theorem dX9_cubic_55 : decode cX9_cubic 55 = .ok (.iload 5, 2) := by decide +kernel
theorem dX9_cubic_57 : decode cX9_cubic 57 = .ok (.iload 6, 2) := by decide +kernel
theorem dX9_cubic_59 : decode cX9_cubic 59 = .ok (.invokevirtual 88, 3) := by decide +kernel
theorem dX9_cubic_62 : decode cX9_cubic 62 = .ok (.ireturn, 1) := by decide +kernel
theorem dX9_close_0 : decode cX9_close 0 = .ok (.aload_n 0, 1) := by decide +kernel
theorem dX9_close_1 : decode cX9_close 1 = .ok (.getfield 12, 3) := by decide +kernel
theorem dX9_close_4 : decode cX9_close 4 = .ok (.aload_n 0, 1) := by decide +kernel
theorem dX9_close_5 : decode cX9_close 5 = .ok (.getfield 12, 3) := by decide +kernel
theorem dX9_close_8 : decode cX9_close 8 = .ok (.getfield 91, 3) := by decide +kernel
theorem dX9_close_11 : decode cX9_close 11 = .ok (.iconst 1, 1) := by decide +kernel
theorem dX9_close_12 : decode cX9_close 12 = .ok (.isub, 1) := by decide +kernel
theorem dX9_close_13 : decode cX9_close 13 = .ok (.invokevirtual 94, 3) := by decide +kernel
theorem dX9_close_16 : decode cX9_close 16 = .ok (.istore_n 1, 1) := by decide +kernel
theorem dX9_close_17 : decode cX9_close 17 = .ok (.aload_n 0, 1) := by decide +kernel
theorem dX9_close_18 : decode cX9_close 18 = .ok (.iconst 4, 1) := by decide +kernel
theorem dX9_close_19 : decode cX9_close 19 = .ok (.aload_n 0, 1) := by decide +kernel
theorem dX9_close_20 : decode cX9_close 20 = .ok (.getfield 12, 3) := by decide +kernel
theorem dX9_close_23 : decode cX9_close 23 = .ok (.iload_n 1, 1) := by decide +kernel
theorem dX9_close_24 : decode cX9_close 24 = .ok (.invokevirtual 98, 3) := by decide +kernel
theorem dX9_close_27 : decode cX9_close 27 = .ok (.aload_n 0, 1) := by decide +kernel
theorem dX9_close_28 : decode cX9_close 28 = .ok (.getfield 12, 3) := by decide +kernel
theorem dX9_close_31 : decode cX9_close 31 = .ok (.iload_n 1, 1) := by decide +kernel
theorem dX9_close_32 : decode cX9_close 32 = .ok (.invokevirtual 101, 3) := by decide +kernel
theorem dX9_close_35 : decode cX9_close 35 = .ok (.iconst 0, 1) := by decide +kernel
theorem dX9_close_36 : decode cX9_close 36 = .ok (.iconst 0, 1) := by decide +kernel
theorem dX9_close_37 : decode cX9_close 37 = .ok (.iconst 0, 1) := by decide +kernel
theorem dX9_close_38 : decode cX9_close 38 = .ok (.iconst 0, 1) := by decide +kernel
theorem dX9_close_39 : decode cX9_close 39 = .ok (.invokevirtual 88, 3) := by decide +kernel
theorem dX9_close_42 : decode cX9_close 42 = .ok (.ireturn, 1) := by decide +kernel
theorem dX9_removeLast_0 : decode cX9_removeLast 0 = .ok (.aload_n 0, 1) := by decide +kernel
theorem dX9_removeLast_1 : decode cX9_removeLast 1 = .ok (.getfield 12, 3) := by decide +kernel
theorem dX9_removeLast_4 : decode cX9_removeLast 4 = .ok (.getfield 104, 3) := by decide +kernel
theorem dX9_removeLast_7 : decode cX9_removeLast 7 = .ok (.ifCond .ne 6, 3) := by decide +kernel
theorem dX9_removeLast_10 : decode cX9_removeLast 10 = .ok (.ldc 107, 2) := by decide +kernel
theorem dX9_removeLast_12 : decode cX9_removeLast 12 = .ok (.ireturn, 1) := by decide +kernel
theorem dX9_removeLast_13 : decode cX9_removeLast 13 = .ok (.aload_n 0, 1) := by decide +kernel
theorem dX9_removeLast_14 : decode cX9_removeLast 14 = .ok (.getfield 12, 3) := by decide +kernel
theorem dX9_removeLast_17 : decode cX9_removeLast 17 = .ok (.invokevirtual 108, 3) := by decide +kernel
theorem dX9_removeLast_20 : decode cX9_removeLast 20 = .ok (.aload_n 0, 1) := by decide +kernel
theorem dX9_removeLast_21 : decode cX9_removeLast 21 = .ok (.iconst 1, 1) := by decide +kernel
theorem dX9_removeLast_22 : decode cX9_removeLast 22 = .ok (.putfield 75, 3) := by decide +kernel
theorem dX9_removeLast_25 : decode cX9_removeLast 25 = .ok (.aload_n 0, 1) := by decide +kernel
theorem dX9_removeLast_26 : decode cX9_removeLast 26 = .ok (.getfield 12, 3) := by decide +kernel
theorem dX9_removeLast_29 : decode cX9_removeLast 29 = .ok (.getfield 104, 3) := by decide +kernel
theorem dX9_removeLast_32 : decode cX9_removeLast 32 = .ok (.ireturn, 1) := by decide +kernel
theorem dX9_command_0 : decode cX9_command 0 = .ok (.iload_n 1, 1) := by decide +kernel
theorem dX9_command_1 : decode cX9_command 1 = .ok (.ifCond .lt 14, 3) := by decide +kernel
theorem dX9_command_4 : decode cX9_command 4 = .ok (.iload_n 1, 1) := by decide +kernel
theorem dX9_command_5 : decode cX9_command 5 = .ok (.aload_n 0, 1) := by decide +kernel
theorem dX9_command_6 : decode cX9_command 6 = .ok (.getfield 12, 3) := by decide +kernel
theorem dX9_command_9 : decode cX9_command 9 = .ok (.getfield 104, 3) := by decide +kernel
theorem dX9_command_12 : decode cX9_command 12 = .ok (.if_icmp .lt 6, 3) := by decide +kernel
theorem dX9_command_15 : decode cX9_command 15 = .ok (.ldc 111, 2) := by decide +kernel
theorem dX9_command_17 : decode cX9_command 17 = .ok (.ireturn, 1) := by decide +kernel
theorem dX9_command_18 : decode cX9_command 18 = .ok (.iload_n 2, 1) := by decide +kernel
theorem dX9_command_19 : decode cX9_command 19 = .ok (.tableswitch 106 0 8 #[49, 58, 67, 76, 85, 94, 94, 94, 94], 49) := by decide +kernel
theorem dX9_command_68 : decode cX9_command 68 = .ok (.aload_n 0, 1) := by decide +kernel
theorem dX9_command_69 : decode cX9_command 69 = .ok (.getfield 12, 3) := by decide +kernel
theorem dX9_command_72 : decode cX9_command 72 = .ok (.iload_n 1, 1) := by decide +kernel
theorem dX9_command_73 : decode cX9_command 73 = .ok (.invokevirtual 112, 3) := by decide +kernel
theorem dX9_command_76 : decode cX9_command 76 = .ok (.ireturn, 1) := by decide +kernel
theorem dX9_command_77 : decode cX9_command 77 = .ok (.aload_n 0, 1) := by decide +kernel
theorem dX9_command_78 : decode cX9_command 78 = .ok (.getfield 12, 3) := by decide +kernel
theorem dX9_command_81 : decode cX9_command 81 = .ok (.iload_n 1, 1) := by decide +kernel
theorem dX9_command_82 : decode cX9_command 82 = .ok (.invokevirtual 115, 3) := by decide +kernel
theorem dX9_command_85 : decode cX9_command 85 = .ok (.ireturn, 1) := by decide +kernel
theorem dX9_command_86 : decode cX9_command 86 = .ok (.aload_n 0, 1) := by decide +kernel
theorem dX9_command_87 : decode cX9_command 87 = .ok (.invokevirtual 118, 3) := by decide +kernel
theorem dX9_command_90 : decode cX9_command 90 = .ok (.iload_n 1, 1) := by decide +kernel
theorem dX9_command_91 : decode cX9_command 91 = .ok (.invokevirtual 122, 3) := by decide +kernel
theorem dX9_command_94 : decode cX9_command 94 = .ok (.ireturn, 1) := by decide +kernel
theorem dX9_command_95 : decode cX9_command 95 = .ok (.aload_n 0, 1) := by decide +kernel
theorem dX9_command_96 : decode cX9_command 96 = .ok (.getfield 12, 3) := by decide +kernel
theorem dX9_command_99 : decode cX9_command 99 = .ok (.iload_n 1, 1) := by decide +kernel
theorem dX9_command_100 : decode cX9_command 100 = .ok (.invokevirtual 98, 3) := by decide +kernel
theorem dX9_command_103 : decode cX9_command 103 = .ok (.ireturn, 1) := by decide +kernel
theorem dX9_command_104 : decode cX9_command 104 = .ok (.aload_n 0, 1) := by decide +kernel
theorem dX9_command_105 : decode cX9_command 105 = .ok (.getfield 12, 3) := by decide +kernel
theorem dX9_command_108 : decode cX9_command 108 = .ok (.iload_n 1, 1) := by decide +kernel
theorem dX9_command_109 : decode cX9_command 109 = .ok (.invokevirtual 101, 3) := by decide +kernel
theorem dX9_command_112 : decode cX9_command 112 = .ok (.ireturn, 1) := by decide +kernel
theorem dX9_command_113 : decode cX9_command 113 = .ok (.aload_n 0, 1) := by decide +kernel
theorem dX9_command_114 : decode cX9_command 114 = .ok (.getfield 12, 3) := by decide +kernel
theorem dX9_command_117 : decode cX9_command 117 = .ok (.iload_n 1, 1) := by decide +kernel
theorem dX9_command_118 : decode cX9_command 118 = .ok (.iload_n 2, 1) := by decide +kernel
theorem dX9_command_119 : decode cX9_command 119 = .ok (.iconst 5, 1) := by decide +kernel
theorem dX9_command_120 : decode cX9_command 120 = .ok (.isub, 1) := by decide +kernel
theorem dX9_command_121 : decode cX9_command 121 = .ok (.invokevirtual 125, 3) := by decide +kernel
theorem dX9_command_124 : decode cX9_command 124 = .ok (.ireturn, 1) := by decide +kernel
theorem dX9_command_125 : decode cX9_command 125 = .ok (.ldc 83, 2) := by decide +kernel
theorem dX9_command_127 : decode cX9_command 127 = .ok (.ireturn, 1) := by decide +kernel
theorem dX9_setTolerance_0 : decode cX9_setTolerance 0 = .ok (.iload_n 1, 1) := by decide +kernel
theorem dX9_setTolerance_1 : decode cX9_setTolerance 1 = .ok (.iconst 1, 1) := by decide +kernel
theorem dX9_setTolerance_2 : decode cX9_setTolerance 2 = .ok (.sipush 1000, 3) := by decide +kernel
theorem dX9_setTolerance_5 : decode cX9_setTolerance 5 = .ok (.invokestatic 129, 3) := by decide +kernel
theorem dX9_setTolerance_8 : decode cX9_setTolerance 8 = .ok (.ifCond .ne 6, 3) := by decide +kernel
theorem dX9_setTolerance_11 : decode cX9_setTolerance 11 = .ok (.ldc 83, 2) := by decide +kernel
theorem dX9_setTolerance_13 : decode cX9_setTolerance 13 = .ok (.ireturn, 1) := by decide +kernel
theorem dX9_setTolerance_14 : decode cX9_setTolerance 14 = .ok (.aload_n 0, 1) := by decide +kernel
theorem dX9_setTolerance_15 : decode cX9_setTolerance 15 = .ok (.getfield 71, 3) := by decide +kernel
theorem dX9_setTolerance_18 : decode cX9_setTolerance 18 = .ok (.istore_n 2, 1) := by decide +kernel
theorem dX9_setTolerance_19 : decode cX9_setTolerance 19 = .ok (.aload_n 0, 1) := by decide +kernel
theorem dX9_setTolerance_20 : decode cX9_setTolerance 20 = .ok (.iload_n 1, 1) := by decide +kernel
theorem dX9_setTolerance_21 : decode cX9_setTolerance 21 = .ok (.putfield 71, 3) := by decide +kernel
theorem dX9_setTolerance_24 : decode cX9_setTolerance 24 = .ok (.aload_n 0, 1) := by decide +kernel
theorem dX9_setTolerance_25 : decode cX9_setTolerance 25 = .ok (.iconst 1, 1) := by decide +kernel
theorem dX9_setTolerance_26 : decode cX9_setTolerance 26 = .ok (.putfield 75, 3) := by decide +kernel
theorem dX9_setTolerance_29 : decode cX9_setTolerance 29 = .ok (.iload_n 2, 1) := by decide +kernel
theorem dX9_setTolerance_30 : decode cX9_setTolerance 30 = .ok (.ireturn, 1) := by decide +kernel
theorem dX9_reverse_0 : decode cX9_reverse 0 = .ok (.aload_n 0, 1) := by decide +kernel
theorem dX9_reverse_1 : decode cX9_reverse 1 = .ok (.iload_n 1, 1) := by decide +kernel
theorem dX9_reverse_2 : decode cX9_reverse 2 = .ok (.invokevirtual 133, 3) := by decide +kernel
theorem dX9_reverse_5 : decode cX9_reverse 5 = .ok (.ifCond .ne 6, 3) := by decide +kernel
theorem dX9_reverse_8 : decode cX9_reverse 8 = .ok (.ldc 111, 2) := by decide +kernel
theorem dX9_reverse_10 : decode cX9_reverse 10 = .ok (.ireturn, 1) := by decide +kernel
theorem dX9_reverse_11 : decode cX9_reverse 11 = .ok (.aload_n 0, 1) := by decide +kernel
theorem dX9_reverse_12 : decode cX9_reverse 12 = .ok (.getfield 16, 3) := by decide +kernel
theorem dX9_reverse_15 : decode cX9_reverse 15 = .ok (.aload_n 0, 1) := by decide +kernel
theorem dX9_reverse_16 : decode cX9_reverse 16 = .ok (.getfield 12, 3) := by decide +kernel
theorem dX9_reverse_19 : decode cX9_reverse 19 = .ok (.iload_n 1, 1) := by decide +kernel
theorem dX9_reverse_20 : decode cX9_reverse 20 = .ok (.invokevirtual 136, 3) := by decide +kernel
theorem dX9_reverse_23 : decode cX9_reverse 23 = .ok (.aload_n 0, 1) := by decide +kernel
theorem dX9_reverse_24 : decode cX9_reverse 24 = .ok (.getfield 12, 3) := by decide +kernel
theorem dX9_reverse_27 : decode cX9_reverse 27 = .ok (.aload_n 0, 1) := by decide +kernel
theorem dX9_reverse_28 : decode cX9_reverse 28 = .ok (.getfield 16, 3) := by decide +kernel
theorem dX9_reverse_31 : decode cX9_reverse 31 = .ok (.invokevirtual 140, 3) := by decide +kernel
theorem dX9_reverse_34 : decode cX9_reverse 34 = .ok (.aload_n 0, 1) := by decide +kernel
theorem dX9_reverse_35 : decode cX9_reverse 35 = .ok (.iconst 1, 1) := by decide +kernel
theorem dX9_reverse_36 : decode cX9_reverse 36 = .ok (.putfield 75, 3) := by decide +kernel
theorem dX9_reverse_39 : decode cX9_reverse 39 = .ok (.aload_n 0, 1) := by decide +kernel
theorem dX9_reverse_40 : decode cX9_reverse 40 = .ok (.getfield 12, 3) := by decide +kernel
theorem dX9_reverse_43 : decode cX9_reverse 43 = .ok (.iload_n 1, 1) := by decide +kernel
theorem dX9_reverse_44 : decode cX9_reverse 44 = .ok (.invokevirtual 144, 3) := by decide +kernel
theorem dX9_reverse_47 : decode cX9_reverse 47 = .ok (.aload_n 0, 1) := by decide +kernel
theorem dX9_reverse_48 : decode cX9_reverse 48 = .ok (.getfield 12, 3) := by decide +kernel
theorem dX9_reverse_51 : decode cX9_reverse 51 = .ok (.iload_n 1, 1) := by decide +kernel
theorem dX9_reverse_52 : decode cX9_reverse 52 = .ok (.invokevirtual 94, 3) := by decide +kernel
theorem dX9_reverse_55 : decode cX9_reverse 55 = .ok (.isub, 1) := by decide +kernel
theorem dX9_reverse_56 : decode cX9_reverse 56 = .ok (.ireturn, 1) := by decide +kernel
theorem dX9_transform_0 : decode cX9_transform 0 = .ok (.iload_n 1, 1) := by decide +kernel
theorem dX9_transform_1 : decode cX9_transform 1 = .ok (.sipush (-1024), 3) := by decide +kernel
theorem dX9_transform_4 : decode cX9_transform 4 = .ok (.sipush 1024, 3) := by decide +kernel
theorem dX9_transform_7 : decode cX9_transform 7 = .ok (.invokestatic 129, 3) := by decide +kernel
theorem dX9_transform_10 : decode cX9_transform 10 = .ok (.ifCond .eq 47, 3) := by decide +kernel
theorem dX9_transform_13 : decode cX9_transform 13 = .ok (.iload_n 2, 1) := by decide +kernel
theorem dX9_transform_14 : decode cX9_transform 14 = .ok (.sipush (-1024), 3) := by decide +kernel
theorem dX9_transform_17 : decode cX9_transform 17 = .ok (.sipush 1024, 3) := by decide +kernel
theorem dX9_transform_20 : decode cX9_transform 20 = .ok (.invokestatic 129, 3) := by decide +kernel
theorem dX9_transform_23 : decode cX9_transform 23 = .ok (.ifCond .eq 34, 3) := by decide +kernel
theorem dX9_transform_26 : decode cX9_transform 26 = .ok (.iload_n 3, 1) := by decide +kernel
theorem dX9_transform_27 : decode cX9_transform 27 = .ok (.sipush (-1024), 3) := by decide +kernel
theorem dX9_transform_30 : decode cX9_transform 30 = .ok (.sipush 1024, 3) := by decide +kernel
theorem dX9_transform_33 : decode cX9_transform 33 = .ok (.invokestatic 129, 3) := by decide +kernel
theorem dX9_transform_36 : decode cX9_transform 36 = .ok (.ifCond .eq 21, 3) := by decide +kernel
theorem dX9_transform_39 : decode cX9_transform 39 = .ok (.iload 4, 2) := by decide +kernel
theorem dX9_transform_41 : decode cX9_transform 41 = .ok (.sipush (-1024), 3) := by decide +kernel
theorem dX9_transform_44 : decode cX9_transform 44 = .ok (.sipush 1024, 3) := by decide +kernel
theorem dX9_transform_47 : decode cX9_transform 47 = .ok (.invokestatic 129, 3) := by decide +kernel
theorem dX9_transform_50 : decode cX9_transform 50 = .ok (.ifCond .eq 7, 3) := by decide +kernel
theorem dX9_transform_53 : decode cX9_transform 53 = .ok (.iconst 1, 1) := by decide +kernel
theorem dX9_transform_54 : decode cX9_transform 54 = .ok (.goto 4, 3) := by decide +kernel
theorem dX9_transform_57 : decode cX9_transform 57 = .ok (.iconst 0, 1) := by decide +kernel
theorem dX9_transform_58 : decode cX9_transform 58 = .ok (.istore 7, 2) := by decide +kernel
theorem dX9_transform_60 : decode cX9_transform 60 = .ok (.iload 7, 2) := by decide +kernel
theorem dX9_transform_62 : decode cX9_transform 62 = .ok (.ifCond .eq 31, 3) := by decide +kernel
theorem dX9_transform_65 : decode cX9_transform 65 = .ok (.iload 5, 2) := by decide +kernel
theorem dX9_transform_67 : decode cX9_transform 67 = .ok (.sipush (-8000), 3) := by decide +kernel
theorem dX9_transform_70 : decode cX9_transform 70 = .ok (.sipush 8000, 3) := by decide +kernel
theorem dX9_transform_73 : decode cX9_transform 73 = .ok (.invokestatic 129, 3) := by decide +kernel
theorem dX9_transform_76 : decode cX9_transform 76 = .ok (.ifCond .eq 17, 3) := by decide +kernel
theorem dX9_transform_79 : decode cX9_transform 79 = .ok (.iload 6, 2) := by decide +kernel
theorem dX9_transform_81 : decode cX9_transform 81 = .ok (.sipush (-8000), 3) := by decide +kernel
theorem dX9_transform_84 : decode cX9_transform 84 = .ok (.sipush 8000, 3) := by decide +kernel
theorem dX9_transform_87 : decode cX9_transform 87 = .ok (.invokestatic 129, 3) := by decide +kernel
theorem dX9_transform_90 : decode cX9_transform 90 = .ok (.ifCond .ne 6, 3) := by decide +kernel
theorem dX9_transform_93 : decode cX9_transform 93 = .ok (.ldc 83, 2) := by decide +kernel
theorem dX9_transform_95 : decode cX9_transform 95 = .ok (.ireturn, 1) := by decide +kernel
theorem dX9_transform_96 : decode cX9_transform 96 = .ok (.aload_n 0, 1) := by decide +kernel
theorem dX9_transform_97 : decode cX9_transform 97 = .ok (.getfield 16, 3) := by decide +kernel
theorem dX9_transform_100 : decode cX9_transform 100 = .ok (.aload_n 0, 1) := by decide +kernel
theorem dX9_transform_101 : decode cX9_transform 101 = .ok (.getfield 12, 3) := by decide +kernel
theorem dX9_transform_104 : decode cX9_transform 104 = .ok (.iload_n 1, 1) := by decide +kernel
theorem dX9_transform_105 : decode cX9_transform 105 = .ok (.iload_n 2, 1) := by decide +kernel
theorem dX9_transform_106 : decode cX9_transform 106 = .ok (.iload_n 3, 1) := by decide +kernel
theorem dX9_transform_107 : decode cX9_transform 107 = .ok (.iload 4, 2) := by decide +kernel
theorem dX9_transform_109 : decode cX9_transform 109 = .ok (.iload 5, 2) := by decide +kernel
theorem dX9_transform_111 : decode cX9_transform 111 = .ok (.iload 6, 2) := by decide +kernel
theorem dX9_transform_113 : decode cX9_transform 113 = .ok (.invokevirtual 147, 3) := by decide +kernel
theorem dX9_transform_116 : decode cX9_transform 116 = .ok (.aload_n 0, 1) := by decide +kernel
theorem dX9_transform_117 : decode cX9_transform 117 = .ok (.getfield 16, 3) := by decide +kernel
theorem dX9_transform_120 : decode cX9_transform 120 = .ok (.invokevirtual 151, 3) := by decide +kernel
theorem dX9_transform_123 : decode cX9_transform 123 = .ok (.ifCond .ne 6, 3) := by decide +kernel
theorem dX9_transform_126 : decode cX9_transform 126 = .ok (.ldc 107, 2) := by decide +kernel
theorem dX9_transform_128 : decode cX9_transform 128 = .ok (.ireturn, 1) := by decide +kernel
theorem dX9_transform_129 : decode cX9_transform 129 = .ok (.aload_n 0, 1) := by decide +kernel
theorem dX9_transform_130 : decode cX9_transform 130 = .ok (.getfield 12, 3) := by decide +kernel
theorem dX9_transform_133 : decode cX9_transform 133 = .ok (.aload_n 0, 1) := by decide +kernel
theorem dX9_transform_134 : decode cX9_transform 134 = .ok (.getfield 16, 3) := by decide +kernel
theorem dX9_transform_137 : decode cX9_transform 137 = .ok (.invokevirtual 140, 3) := by decide +kernel
theorem dX9_transform_140 : decode cX9_transform 140 = .ok (.aload_n 0, 1) := by decide +kernel
theorem dX9_transform_141 : decode cX9_transform 141 = .ok (.iconst 1, 1) := by decide +kernel
theorem dX9_transform_142 : decode cX9_transform 142 = .ok (.putfield 75, 3) := by decide +kernel
theorem dX9_transform_145 : decode cX9_transform 145 = .ok (.aload_n 0, 1) := by decide +kernel
theorem dX9_transform_146 : decode cX9_transform 146 = .ok (.getfield 12, 3) := by decide +kernel
theorem dX9_transform_149 : decode cX9_transform 149 = .ok (.getfield 104, 3) := by decide +kernel
theorem dX9_transform_152 : decode cX9_transform 152 = .ok (.ireturn, 1) := by decide +kernel
theorem dX9_say_0 : decode cX9_say 0 = .ok (.iload_n 1, 1) := by decide +kernel
theorem dX9_say_1 : decode cX9_say 1 = .ok (.bipush 33, 2) := by decide +kernel
theorem dX9_say_3 : decode cX9_say 3 = .ok (.bipush 126, 2) := by decide +kernel
theorem dX9_say_5 : decode cX9_say 5 = .ok (.invokestatic 129, 3) := by decide +kernel
theorem dX9_say_8 : decode cX9_say 8 = .ok (.ifCond .ne 6, 3) := by decide +kernel
theorem dX9_say_11 : decode cX9_say 11 = .ok (.ldc 83, 2) := by decide +kernel
theorem dX9_say_13 : decode cX9_say 13 = .ok (.ireturn, 1) := by decide +kernel
theorem dX9_say_14 : decode cX9_say 14 = .ok (.aload_n 0, 1) := by decide +kernel
theorem dX9_say_15 : decode cX9_say 15 = .ok (.getfield 60, 3) := by decide +kernel
theorem dX9_say_18 : decode cX9_say 18 = .ok (.getfield 155, 3) := by decide +kernel
theorem dX9_say_21 : decode cX9_say 21 = .ok (.bipush 120, 2) := by decide +kernel
theorem dX9_say_23 : decode cX9_say 23 = .ok (.if_icmp .lt 6, 3) := by decide +kernel
theorem dX9_say_26 : decode cX9_say 26 = .ok (.ldc 156, 2) := by decide +kernel
theorem dX9_say_28 : decode cX9_say 28 = .ok (.ireturn, 1) := by decide +kernel
theorem dX9_say_29 : decode cX9_say 29 = .ok (.aload_n 0, 1) := by decide +kernel
theorem dX9_say_30 : decode cX9_say 30 = .ok (.getfield 60, 3) := by decide +kernel
theorem dX9_say_33 : decode cX9_say 33 = .ok (.iload_n 1, 1) := by decide +kernel
theorem dX9_say_34 : decode cX9_say 34 = .ok (.i2c, 1) := by decide +kernel
theorem dX9_say_35 : decode cX9_say 35 = .ok (.invokevirtual 157, 3) := by decide +kernel
theorem dX9_say_38 : decode cX9_say 38 = .ok (.aload_n 0, 1) := by decide +kernel
theorem dX9_say_39 : decode cX9_say 39 = .ok (.getfield 60, 3) := by decide +kernel
theorem dX9_say_42 : decode cX9_say 42 = .ok (.getfield 155, 3) := by decide +kernel
theorem dX9_say_45 : decode cX9_say 45 = .ok (.ireturn, 1) := by decide +kernel
theorem dX9_wipe_0 : decode cX9_wipe 0 = .ok (.aload_n 0, 1) := by decide +kernel
theorem dX9_wipe_1 : decode cX9_wipe 1 = .ok (.getfield 60, 3) := by decide +kernel
theorem dX9_wipe_4 : decode cX9_wipe 4 = .ok (.getfield 155, 3) := by decide +kernel
theorem dX9_wipe_7 : decode cX9_wipe 7 = .ok (.istore_n 1, 1) := by decide +kernel
theorem dX9_wipe_8 : decode cX9_wipe 8 = .ok (.aload_n 0, 1) := by decide +kernel
theorem dX9_wipe_9 : decode cX9_wipe 9 = .ok (.getfield 60, 3) := by decide +kernel
theorem dX9_wipe_12 : decode cX9_wipe 12 = .ok (.iconst 0, 1) := by decide +kernel
theorem dX9_wipe_13 : decode cX9_wipe 13 = .ok (.putfield 155, 3) := by decide +kernel
theorem dX9_wipe_16 : decode cX9_wipe 16 = .ok (.iload_n 1, 1) := by decide +kernel
theorem dX9_wipe_17 : decode cX9_wipe 17 = .ok (.ireturn, 1) := by decide +kernel
theorem dX9_fault_0 : decode cX9_fault 0 = .ok (.aload_n 0, 1) := by decide +kernel
theorem dX9_fault_1 : decode cX9_fault 1 = .ok (.getfield 60, 3) := by decide +kernel
theorem dX9_fault_4 : decode cX9_fault 4 = .ok (.aload_n 0, 1) := by decide +kernel
theorem dX9_fault_5 : decode cX9_fault 5 = .ok (.getfield 16, 3) := by decide +kernel
theorem dX9_fault_8 : decode cX9_fault 8 = .ok (.invokevirtual 160, 3) := by decide +kernel
theorem dX9_fault_11 : decode cX9_fault 11 = .ok (.ireturn, 1) := by decide +kernel
theorem dX9_load_0 : decode cX9_load 0 = .ok (.aload_n 0, 1) := by decide +kernel
theorem dX9_load_1 : decode cX9_load 1 = .ok (.getfield 60, 3) := by decide +kernel
theorem dX9_load_4 : decode cX9_load 4 = .ok (.aload_n 0, 1) := by decide +kernel
theorem dX9_load_5 : decode cX9_load 5 = .ok (.getfield 16, 3) := by decide +kernel
theorem dX9_load_8 : decode cX9_load 8 = .ok (.invokevirtual 160, 3) := by decide +kernel
theorem dX9_load_11 : decode cX9_load 11 = .ok (.ldc 164, 2) := by decide +kernel
theorem dX9_load_13 : decode cX9_load 13 = .ok (.if_icmp .eq 6, 3) := by decide +kernel
theorem dX9_load_16 : decode cX9_load 16 = .ok (.ldc 165, 2) := by decide +kernel
theorem dX9_load_18 : decode cX9_load 18 = .ok (.ireturn, 1) := by decide +kernel
theorem dX9_load_19 : decode cX9_load 19 = .ok (.aload_n 0, 1) := by decide +kernel
theorem dX9_load_20 : decode cX9_load 20 = .ok (.getfield 60, 3) := by decide +kernel
theorem dX9_load_23 : decode cX9_load 23 = .ok (.invokevirtual 166, 3) := by decide +kernel
theorem dX9_load_26 : decode cX9_load 26 = .ok (.bipush 24, 2) := by decide +kernel
theorem dX9_load_28 : decode cX9_load 28 = .ok (.if_icmp .le 6, 3) := by decide +kernel
theorem dX9_load_31 : decode cX9_load 31 = .ok (.ldc 156, 2) := by decide +kernel
theorem dX9_load_33 : decode cX9_load 33 = .ok (.ireturn, 1) := by decide +kernel
theorem dX9_load_34 : decode cX9_load 34 = .ok (.aload_n 0, 1) := by decide +kernel
theorem dX9_load_35 : decode cX9_load 35 = .ok (.getfield 16, 3) := by decide +kernel
theorem dX9_load_38 : decode cX9_load 38 = .ok (.invokevirtual 151, 3) := by decide +kernel
theorem dX9_load_41 : decode cX9_load 41 = .ok (.ifCond .ne 6, 3) := by decide +kernel
theorem dX9_load_44 : decode cX9_load 44 = .ok (.ldc 107, 2) := by decide +kernel
theorem dX9_load_46 : decode cX9_load 46 = .ok (.ireturn, 1) := by decide +kernel
theorem dX9_load_47 : decode cX9_load 47 = .ok (.aload_n 0, 1) := by decide +kernel
theorem dX9_load_48 : decode cX9_load 48 = .ok (.getfield 12, 3) := by decide +kernel
theorem dX9_load_51 : decode cX9_load 51 = .ok (.aload_n 0, 1) := by decide +kernel
theorem dX9_load_52 : decode cX9_load 52 = .ok (.getfield 16, 3) := by decide +kernel
theorem dX9_load_55 : decode cX9_load 55 = .ok (.invokevirtual 140, 3) := by decide +kernel
theorem dX9_load_58 : decode cX9_load 58 = .ok (.aload_n 0, 1) := by decide +kernel
theorem dX9_load_59 : decode cX9_load 59 = .ok (.iconst 1, 1) := by decide +kernel
theorem dX9_load_60 : decode cX9_load 60 = .ok (.putfield 75, 3) := by decide +kernel
theorem dX9_load_63 : decode cX9_load 63 = .ok (.aload_n 0, 1) := by decide +kernel
theorem dX9_load_64 : decode cX9_load 64 = .ok (.getfield 60, 3) := by decide +kernel
theorem dX9_load_67 : decode cX9_load 67 = .ok (.iconst 0, 1) := by decide +kernel
theorem dX9_load_68 : decode cX9_load 68 = .ok (.putfield 155, 3) := by decide +kernel
theorem dX9_load_71 : decode cX9_load 71 = .ok (.aload_n 0, 1) := by decide +kernel
theorem dX9_load_72 : decode cX9_load 72 = .ok (.getfield 12, 3) := by decide +kernel
theorem dX9_load_75 : decode cX9_load 75 = .ok (.getfield 104, 3) := by decide +kernel
theorem dX9_load_78 : decode cX9_load 78 = .ok (.ireturn, 1) := by decide +kernel
theorem dX9_spell_0 : decode cX9_spell 0 = .ok (.aload_n 0, 1) := by decide +kernel
theorem dX9_spell_1 : decode cX9_spell 1 = .ok (.getfield 67, 3) := by decide +kernel
theorem dX9_spell_4 : decode cX9_spell 4 = .ok (.aload_n 0, 1) := by decide +kernel
theorem dX9_spell_5 : decode cX9_spell 5 = .ok (.getfield 12, 3) := by decide +kernel
theorem dX9_spell_8 : decode cX9_spell 8 = .ok (.invokevirtual 170, 3) := by decide +kernel
theorem dX9_spell_11 : decode cX9_spell 11 = .ok (.iload_n 1, 1) := by decide +kernel
theorem dX9_spell_12 : decode cX9_spell 12 = .ok (.iconst (-1), 1) := by decide +kernel
theorem dX9_spell_13 : decode cX9_spell 13 = .ok (.if_icmp .ne 11, 3) := by decide +kernel
theorem dX9_spell_16 : decode cX9_spell 16 = .ok (.aload_n 0, 1) := by decide +kernel
theorem dX9_spell_17 : decode cX9_spell 17 = .ok (.getfield 67, 3) := by decide +kernel
theorem dX9_spell_20 : decode cX9_spell 20 = .ok (.getfield 173, 3) := by decide +kernel
theorem dX9_spell_23 : decode cX9_spell 23 = .ok (.ireturn, 1) := by decide +kernel
theorem dX9_spell_24 : decode cX9_spell 24 = .ok (.aload_n 0, 1) := by decide +kernel
theorem dX9_spell_25 : decode cX9_spell 25 = .ok (.getfield 67, 3) := by decide +kernel
theorem dX9_spell_28 : decode cX9_spell 28 = .ok (.iload_n 1, 1) := by decide +kernel
theorem dX9_spell_29 : decode cX9_spell 29 = .ok (.invokevirtual 174, 3) := by decide +kernel
theorem dX9_spell_32 : decode cX9_spell 32 = .ok (.ireturn, 1) := by decide +kernel
theorem dX9_measure_0 : decode cX9_measure 0 = .ok (.iload_n 1, 1) := by decide +kernel
theorem dX9_measure_1 : decode cX9_measure 1 = .ok (.iconst (-1), 1) := by decide +kernel
theorem dX9_measure_2 : decode cX9_measure 2 = .ok (.if_icmp .eq 14, 3) := by decide +kernel
theorem dX9_measure_5 : decode cX9_measure 5 = .ok (.aload_n 0, 1) := by decide +kernel
theorem dX9_measure_6 : decode cX9_measure 6 = .ok (.iload_n 1, 1) := by decide +kernel
theorem dX9_measure_7 : decode cX9_measure 7 = .ok (.invokevirtual 133, 3) := by decide +kernel
theorem dX9_measure_10 : decode cX9_measure 10 = .ok (.ifCond .ne 6, 3) := by decide +kernel
theorem dX9_measure_13 : decode cX9_measure 13 = .ok (.ldc 111, 2) := by decide +kernel
theorem dX9_measure_15 : decode cX9_measure 15 = .ok (.ireturn, 1) := by decide +kernel
theorem dX9_measure_16 : decode cX9_measure 16 = .ok (.aload_n 0, 1) := by decide +kernel
theorem dX9_measure_17 : decode cX9_measure 17 = .ok (.invokevirtual 118, 3) := by decide +kernel
theorem dX9_measure_20 : decode cX9_measure 20 = .ok (.astore_n 3, 1) := by decide +kernel
theorem dX9_measure_21 : decode cX9_measure 21 = .ok (.iload_n 1, 1) := by decide +kernel
theorem dX9_measure_22 : decode cX9_measure 22 = .ok (.iconst (-1), 1) := by decide +kernel
theorem dX9_measure_23 : decode cX9_measure 23 = .ok (.if_icmp .ne 7, 3) := by decide +kernel
theorem dX9_measure_26 : decode cX9_measure 26 = .ok (.iconst 0, 1) := by decide +kernel
theorem dX9_measure_27 : decode cX9_measure 27 = .ok (.goto 4, 3) := by decide +kernel
theorem dX9_measure_30 : decode cX9_measure 30 = .ok (.iload_n 1, 1) := by decide +kernel
theorem dX9_measure_31 : decode cX9_measure 31 = .ok (.istore 4, 2) := by decide +kernel
theorem dX9_measure_33 : decode cX9_measure 33 = .ok (.iload_n 1, 1) := by decide +kernel
theorem dX9_measure_34 : decode cX9_measure 34 = .ok (.iconst (-1), 1) := by decide +kernel
theorem dX9_measure_35 : decode cX9_measure 35 = .ok (.if_icmp .ne 13, 3) := by decide +kernel
theorem dX9_measure_38 : decode cX9_measure 38 = .ok (.aload_n 0, 1) := by decide +kernel
theorem dX9_measure_39 : decode cX9_measure 39 = .ok (.getfield 12, 3) := by decide +kernel
theorem dX9_measure_42 : decode cX9_measure 42 = .ok (.getfield 91, 3) := by decide +kernel
theorem dX9_measure_45 : decode cX9_measure 45 = .ok (.goto 6, 3) := by decide +kernel
theorem dX9_measure_48 : decode cX9_measure 48 = .ok (.iload_n 1, 1) := by decide +kernel
theorem dX9_measure_49 : decode cX9_measure 49 = .ok (.iconst 1, 1) := by decide +kernel
theorem dX9_measure_50 : decode cX9_measure 50 = .ok (.iadd, 1) := by decide +kernel
theorem dX9_measure_51 : decode cX9_measure 51 = .ok (.istore 5, 2) := by decide +kernel
theorem dX9_measure_53 : decode cX9_measure 53 = .ok (.iload_n 2, 1) := by decide +kernel
theorem dX9_measure_54 : decode cX9_measure 54 = .ok (.tableswitch 77 0 3 #[30, 39, 48, 57], 30) := by decide +kernel
theorem dX9_measure_84 : decode cX9_measure 84 = .ok (.aload_n 3, 1) := by decide +kernel
theorem dX9_measure_85 : decode cX9_measure 85 = .ok (.iload 4, 2) := by decide +kernel
theorem dX9_measure_87 : decode cX9_measure 87 = .ok (.iload 5, 2) := by decide +kernel
theorem dX9_measure_89 : decode cX9_measure 89 = .ok (.invokevirtual 177, 3) := by decide +kernel
theorem dX9_measure_92 : decode cX9_measure 92 = .ok (.ireturn, 1) := by decide +kernel
theorem dX9_measure_93 : decode cX9_measure 93 = .ok (.aload_n 3, 1) := by decide +kernel
theorem dX9_measure_94 : decode cX9_measure 94 = .ok (.iload 4, 2) := by decide +kernel
theorem dX9_measure_96 : decode cX9_measure 96 = .ok (.iload 5, 2) := by decide +kernel
theorem dX9_measure_98 : decode cX9_measure 98 = .ok (.invokevirtual 180, 3) := by decide +kernel
theorem dX9_measure_101 : decode cX9_measure 101 = .ok (.ireturn, 1) := by decide +kernel
theorem dX9_measure_102 : decode cX9_measure 102 = .ok (.aload_n 3, 1) := by decide +kernel
theorem dX9_measure_103 : decode cX9_measure 103 = .ok (.iload 4, 2) := by decide +kernel
theorem dX9_measure_105 : decode cX9_measure 105 = .ok (.iload 5, 2) := by decide +kernel
theorem dX9_measure_107 : decode cX9_measure 107 = .ok (.invokevirtual 183, 3) := by decide +kernel
theorem dX9_measure_110 : decode cX9_measure 110 = .ok (.ireturn, 1) := by decide +kernel
theorem dX9_measure_111 : decode cX9_measure 111 = .ok (.aload_n 0, 1) := by decide +kernel
theorem dX9_measure_112 : decode cX9_measure 112 = .ok (.getfield 12, 3) := by decide +kernel
theorem dX9_measure_115 : decode cX9_measure 115 = .ok (.iload 4, 2) := by decide +kernel
theorem dX9_measure_117 : decode cX9_measure 117 = .ok (.iload 5, 2) := by decide +kernel
theorem dX9_measure_119 : decode cX9_measure 119 = .ok (.invokevirtual 186, 3) := by decide +kernel
theorem dX9_measure_122 : decode cX9_measure 122 = .ok (.ifCond .eq 7, 3) := by decide +kernel
theorem dX9_measure_125 : decode cX9_measure 125 = .ok (.iconst 1, 1) := by decide +kernel
theorem dX9_measure_126 : decode cX9_measure 126 = .ok (.goto 4, 3) := by decide +kernel
theorem dX9_measure_129 : decode cX9_measure 129 = .ok (.iconst 0, 1) := by decide +kernel
theorem dX9_measure_130 : decode cX9_measure 130 = .ok (.ireturn, 1) := by decide +kernel
theorem dX9_measure_131 : decode cX9_measure 131 = .ok (.ldc 83, 2) := by decide +kernel
theorem dX9_measure_133 : decode cX9_measure 133 = .ok (.ireturn, 1) := by decide +kernel
theorem dX9_vertex_0 : decode cX9_vertex 0 = .ok (.aload_n 0, 1) := by decide +kernel
theorem dX9_vertex_1 : decode cX9_vertex 1 = .ok (.iload_n 1, 1) := by decide +kernel
theorem dX9_vertex_2 : decode cX9_vertex 2 = .ok (.invokevirtual 133, 3) := by decide +kernel
theorem dX9_vertex_5 : decode cX9_vertex 5 = .ok (.ifCond .ne 6, 3) := by decide +kernel
theorem dX9_vertex_8 : decode cX9_vertex 8 = .ok (.ldc 111, 2) := by decide +kernel
theorem dX9_vertex_10 : decode cX9_vertex 10 = .ok (.ireturn, 1) := by decide +kernel
theorem dX9_vertex_11 : decode cX9_vertex 11 = .ok (.aload_n 0, 1) := by decide +kernel
theorem dX9_vertex_12 : decode cX9_vertex 12 = .ok (.invokevirtual 118, 3) := by decide +kernel
theorem dX9_vertex_15 : decode cX9_vertex 15 = .ok (.astore 4, 2) := by decide +kernel
theorem dX9_vertex_17 : decode cX9_vertex 17 = .ok (.iload_n 2, 1) := by decide +kernel
theorem dX9_vertex_18 : decode cX9_vertex 18 = .ok (.ifCond .lt 16, 3) := by decide +kernel
theorem dX9_vertex_21 : decode cX9_vertex 21 = .ok (.iload_n 2, 1) := by decide +kernel
theorem dX9_vertex_22 : decode cX9_vertex 22 = .ok (.aload 4, 2) := by decide +kernel
theorem dX9_vertex_24 : decode cX9_vertex 24 = .ok (.iload_n 1, 1) := by decide +kernel
theorem dX9_vertex_25 : decode cX9_vertex 25 = .ok (.iload_n 1, 1) := by decide +kernel
theorem dX9_vertex_26 : decode cX9_vertex 26 = .ok (.iconst 1, 1) := by decide +kernel
theorem dX9_vertex_27 : decode cX9_vertex 27 = .ok (.iadd, 1) := by decide +kernel
theorem dX9_vertex_28 : decode cX9_vertex 28 = .ok (.invokevirtual 177, 3) := by decide +kernel
theorem dX9_vertex_31 : decode cX9_vertex 31 = .ok (.if_icmp .lt 6, 3) := by decide +kernel
theorem dX9_vertex_34 : decode cX9_vertex 34 = .ok (.ldc 111, 2) := by decide +kernel
theorem dX9_vertex_36 : decode cX9_vertex 36 = .ok (.ireturn, 1) := by decide +kernel
theorem dX9_vertex_37 : decode cX9_vertex 37 = .ok (.aload 4, 2) := by decide +kernel
theorem dX9_vertex_39 : decode cX9_vertex 39 = .ok (.aload 4, 2) := by decide +kernel
theorem dX9_vertex_41 : decode cX9_vertex 41 = .ok (.iload_n 1, 1) := by decide +kernel
theorem dX9_vertex_42 : decode cX9_vertex 42 = .ok (.invokevirtual 190, 3) := by decide +kernel
theorem dX9_vertex_45 : decode cX9_vertex 45 = .ok (.iload_n 2, 1) := by decide +kernel
theorem dX9_vertex_46 : decode cX9_vertex 46 = .ok (.iadd, 1) := by decide +kernel
theorem dX9_vertex_47 : decode cX9_vertex 47 = .ok (.iload_n 3, 1) := by decide +kernel
theorem dX9_vertex_48 : decode cX9_vertex 48 = .ok (.invokevirtual 191, 3) := by decide +kernel
theorem dX9_vertex_51 : decode cX9_vertex 51 = .ok (.ireturn, 1) := by decide +kernel
theorem dX9_at_0 : decode cX9_at 0 = .ok (.aload_n 0, 1) := by decide +kernel
theorem dX9_at_1 : decode cX9_at 1 = .ok (.iload_n 1, 1) := by decide +kernel
theorem dX9_at_2 : decode cX9_at 2 = .ok (.invokevirtual 133, 3) := by decide +kernel
theorem dX9_at_5 : decode cX9_at 5 = .ok (.ifCond .ne 6, 3) := by decide +kernel
theorem dX9_at_8 : decode cX9_at 8 = .ok (.ldc 111, 2) := by decide +kernel
theorem dX9_at_10 : decode cX9_at 10 = .ok (.ireturn, 1) := by decide +kernel
theorem dX9_at_11 : decode cX9_at 11 = .ok (.iload_n 3, 1) := by decide +kernel
theorem dX9_at_12 : decode cX9_at 12 = .ok (.iconst 0, 1) := by decide +kernel
theorem dX9_at_13 : decode cX9_at 13 = .ok (.iconst 4, 1) := by decide +kernel
theorem dX9_at_14 : decode cX9_at 14 = .ok (.invokestatic 129, 3) := by decide +kernel
theorem dX9_at_17 : decode cX9_at 17 = .ok (.ifCond .ne 6, 3) := by decide +kernel
theorem dX9_at_20 : decode cX9_at 20 = .ok (.ldc 83, 2) := by decide +kernel
theorem dX9_at_22 : decode cX9_at 22 = .ok (.ireturn, 1) := by decide +kernel
theorem dX9_at_23 : decode cX9_at 23 = .ok (.aload_n 0, 1) := by decide +kernel
theorem dX9_at_24 : decode cX9_at 24 = .ok (.invokevirtual 118, 3) := by decide +kernel
theorem dX9_at_27 : decode cX9_at 27 = .ok (.astore 4, 2) := by decide +kernel
theorem dX9_at_29 : decode cX9_at 29 = .ok (.aload 4, 2) := by decide +kernel
theorem dX9_at_31 : decode cX9_at 31 = .ok (.iload_n 1, 1) := by decide +kernel
theorem dX9_at_32 : decode cX9_at 32 = .ok (.invokevirtual 194, 3) := by decide +kernel
theorem dX9_at_35 : decode cX9_at 35 = .ok (.ifCond .eq 17, 3) := by decide +kernel
theorem dX9_at_38 : decode cX9_at 38 = .ok (.iload_n 2, 1) := by decide +kernel
theorem dX9_at_39 : decode cX9_at 39 = .ok (.iconst 0, 1) := by decide +kernel
theorem dX9_at_40 : decode cX9_at 40 = .ok (.aload 4, 2) := by decide +kernel
theorem dX9_at_42 : decode cX9_at 42 = .ok (.iload_n 1, 1) := by decide +kernel
theorem dX9_at_43 : decode cX9_at 43 = .ok (.invokevirtual 197, 3) := by decide +kernel
theorem dX9_at_46 : decode cX9_at 46 = .ok (.invokestatic 129, 3) := by decide +kernel
theorem dX9_at_49 : decode cX9_at 49 = .ok (.ifCond .ne 6, 3) := by decide +kernel
theorem dX9_at_52 : decode cX9_at 52 = .ok (.ldc 107, 2) := by decide +kernel
theorem dX9_at_54 : decode cX9_at 54 = .ok (.ireturn, 1) := by decide +kernel
theorem dX9_at_55 : decode cX9_at 55 = .ok (.aload 4, 2) := by decide +kernel
theorem dX9_at_57 : decode cX9_at 57 = .ok (.iload_n 1, 1) := by decide +kernel
theorem dX9_at_58 : decode cX9_at 58 = .ok (.iload_n 2, 1) := by decide +kernel
theorem dX9_at_59 : decode cX9_at 59 = .ok (.iload_n 3, 1) := by decide +kernel
theorem dX9_at_60 : decode cX9_at 60 = .ok (.invokevirtual 200, 3) := by decide +kernel
theorem dX9_at_63 : decode cX9_at 63 = .ok (.ireturn, 1) := by decide +kernel
theorem dX9_nearest_0 : decode cX9_nearest 0 = .ok (.iload_n 1, 1) := by decide +kernel
theorem dX9_nearest_1 : decode cX9_nearest 1 = .ok (.invokestatic 79, 3) := by decide +kernel
theorem dX9_nearest_4 : decode cX9_nearest 4 = .ok (.ifCond .eq 19, 3) := by decide +kernel
theorem dX9_nearest_7 : decode cX9_nearest 7 = .ok (.iload_n 2, 1) := by decide +kernel
theorem dX9_nearest_8 : decode cX9_nearest 8 = .ok (.invokestatic 79, 3) := by decide +kernel
theorem dX9_nearest_11 : decode cX9_nearest 11 = .ok (.ifCond .eq 12, 3) := by decide +kernel
theorem dX9_nearest_14 : decode cX9_nearest 14 = .ok (.iload_n 3, 1) := by decide +kernel
theorem dX9_nearest_15 : decode cX9_nearest 15 = .ok (.iconst 0, 1) := by decide +kernel
theorem dX9_nearest_16 : decode cX9_nearest 16 = .ok (.iconst 3, 1) := by decide +kernel
theorem dX9_nearest_17 : decode cX9_nearest 17 = .ok (.invokestatic 129, 3) := by decide +kernel
theorem dX9_nearest_20 : decode cX9_nearest 20 = .ok (.ifCond .ne 6, 3) := by decide +kernel
theorem dX9_nearest_23 : decode cX9_nearest 23 = .ok (.ldc 83, 2) := by decide +kernel
theorem dX9_nearest_25 : decode cX9_nearest 25 = .ok (.ireturn, 1) := by decide +kernel
theorem dX9_nearest_26 : decode cX9_nearest 26 = .ok (.aload_n 0, 1) := by decide +kernel
theorem dX9_nearest_27 : decode cX9_nearest 27 = .ok (.invokevirtual 118, 3) := by decide +kernel
theorem dX9_nearest_30 : decode cX9_nearest 30 = .ok (.astore 4, 2) := by decide +kernel
theorem dX9_nearest_32 : decode cX9_nearest 32 = .ok (.aload 4, 2) := by decide +kernel
theorem dX9_nearest_34 : decode cX9_nearest 34 = .ok (.iconst 0, 1) := by decide +kernel
theorem dX9_nearest_35 : decode cX9_nearest 35 = .ok (.aload_n 0, 1) := by decide +kernel
theorem dX9_nearest_36 : decode cX9_nearest 36 = .ok (.getfield 12, 3) := by decide +kernel
theorem dX9_nearest_39 : decode cX9_nearest 39 = .ok (.getfield 91, 3) := by decide +kernel
theorem dX9_nearest_42 : decode cX9_nearest 42 = .ok (.invokevirtual 180, 3) := by decide +kernel
theorem dX9_nearest_45 : decode cX9_nearest 45 = .ok (.ifCond .ne 6, 3) := by decide +kernel
theorem dX9_nearest_48 : decode cX9_nearest 48 = .ok (.ldc 107, 2) := by decide +kernel
theorem dX9_nearest_50 : decode cX9_nearest 50 = .ok (.ireturn, 1) := by decide +kernel
theorem dX9_nearest_51 : decode cX9_nearest 51 = .ok (.aload 4, 2) := by decide +kernel
theorem dX9_nearest_53 : decode cX9_nearest 53 = .ok (.iload_n 1, 1) := by decide +kernel
theorem dX9_nearest_54 : decode cX9_nearest 54 = .ok (.iload_n 2, 1) := by decide +kernel
theorem dX9_nearest_55 : decode cX9_nearest 55 = .ok (.iload_n 3, 1) := by decide +kernel
theorem dX9_nearest_56 : decode cX9_nearest 56 = .ok (.invokevirtual 204, 3) := by decide +kernel
theorem dX9_nearest_59 : decode cX9_nearest 59 = .ok (.ireturn, 1) := by decide +kernel
theorem dX9_winding_0 : decode cX9_winding 0 = .ok (.iload_n 1, 1) := by decide +kernel
theorem dX9_winding_1 : decode cX9_winding 1 = .ok (.invokestatic 79, 3) := by decide +kernel
theorem dX9_winding_4 : decode cX9_winding 4 = .ok (.ifCond .eq 10, 3) := by decide +kernel
theorem dX9_winding_7 : decode cX9_winding 7 = .ok (.iload_n 2, 1) := by decide +kernel
theorem dX9_winding_8 : decode cX9_winding 8 = .ok (.invokestatic 79, 3) := by decide +kernel
theorem dX9_winding_11 : decode cX9_winding 11 = .ok (.ifCond .ne 6, 3) := by decide +kernel
theorem dX9_winding_14 : decode cX9_winding 14 = .ok (.ldc 83, 2) := by decide +kernel
theorem dX9_winding_16 : decode cX9_winding 16 = .ok (.ireturn, 1) := by decide +kernel
theorem dX9_winding_17 : decode cX9_winding 17 = .ok (.aload_n 0, 1) := by decide +kernel
theorem dX9_winding_18 : decode cX9_winding 18 = .ok (.invokevirtual 118, 3) := by decide +kernel
theorem dX9_winding_21 : decode cX9_winding 21 = .ok (.iload_n 1, 1) := by decide +kernel
theorem dX9_winding_22 : decode cX9_winding 22 = .ok (.iload_n 2, 1) := by decide +kernel
theorem dX9_winding_23 : decode cX9_winding 23 = .ok (.invokevirtual 207, 3) := by decide +kernel
theorem dX9_winding_26 : decode cX9_winding 26 = .ok (.ireturn, 1) := by decide +kernel
theorem dX9_area_0 : decode cX9_area 0 = .ok (.aload_n 0, 1) := by decide +kernel
theorem dX9_area_1 : decode cX9_area 1 = .ok (.iload_n 1, 1) := by decide +kernel
theorem dX9_area_2 : decode cX9_area 2 = .ok (.invokevirtual 133, 3) := by decide +kernel
theorem dX9_area_5 : decode cX9_area 5 = .ok (.ifCond .ne 7, 3) := by decide +kernel
theorem dX9_area_8 : decode cX9_area 8 = .ok (.ldc2_w 210, 3) := by decide +kernel
theorem dX9_area_11 : decode cX9_area 11 = .ok (.lreturn, 1) := by decide +kernel
theorem dX9_area_12 : decode cX9_area 12 = .ok (.aload_n 0, 1) := by decide +kernel
theorem dX9_area_13 : decode cX9_area 13 = .ok (.invokevirtual 118, 3) := by decide +kernel
theorem dX9_area_16 : decode cX9_area 16 = .ok (.iload_n 1, 1) := by decide +kernel
theorem dX9_area_17 : decode cX9_area 17 = .ok (.invokevirtual 212, 3) := by decide +kernel
theorem dX9_area_20 : decode cX9_area 20 = .ok (.lreturn, 1) := by decide +kernel
theorem dX9_bound_0 : decode cX9_bound 0 = .ok (.iload_n 1, 1) := by decide +kernel
theorem dX9_bound_1 : decode cX9_bound 1 = .ok (.iconst (-1), 1) := by decide +kernel
theorem dX9_bound_2 : decode cX9_bound 2 = .ok (.if_icmp .ne 21, 3) := by decide +kernel
theorem dX9_bound_5 : decode cX9_bound 5 = .ok (.aload_n 0, 1) := by decide +kernel
theorem dX9_bound_6 : decode cX9_bound 6 = .ok (.getfield 12, 3) := by decide +kernel
theorem dX9_bound_9 : decode cX9_bound 9 = .ok (.getfield 91, 3) := by decide +kernel
theorem dX9_bound_12 : decode cX9_bound 12 = .ok (.ifCond .le 7, 3) := by decide +kernel
theorem dX9_bound_15 : decode cX9_bound 15 = .ok (.iconst 1, 1) := by decide +kernel
theorem dX9_bound_16 : decode cX9_bound 16 = .ok (.goto 12, 3) := by decide +kernel
theorem dX9_bound_19 : decode cX9_bound 19 = .ok (.iconst 0, 1) := by decide +kernel
theorem dX9_bound_20 : decode cX9_bound 20 = .ok (.goto 8, 3) := by decide +kernel
theorem dX9_bound_23 : decode cX9_bound 23 = .ok (.aload_n 0, 1) := by decide +kernel
theorem dX9_bound_24 : decode cX9_bound 24 = .ok (.iload_n 1, 1) := by decide +kernel
theorem dX9_bound_25 : decode cX9_bound 25 = .ok (.invokevirtual 133, 3) := by decide +kernel
theorem dX9_bound_28 : decode cX9_bound 28 = .ok (.istore_n 3, 1) := by decide +kernel
theorem dX9_bound_29 : decode cX9_bound 29 = .ok (.iload_n 3, 1) := by decide +kernel
theorem dX9_bound_30 : decode cX9_bound 30 = .ok (.ifCond .ne 6, 3) := by decide +kernel
theorem dX9_bound_33 : decode cX9_bound 33 = .ok (.ldc 111, 2) := by decide +kernel
theorem dX9_bound_35 : decode cX9_bound 35 = .ok (.ireturn, 1) := by decide +kernel
theorem dX9_bound_36 : decode cX9_bound 36 = .ok (.iload_n 2, 1) := by decide +kernel
theorem dX9_bound_37 : decode cX9_bound 37 = .ok (.iconst 0, 1) := by decide +kernel
theorem dX9_bound_38 : decode cX9_bound 38 = .ok (.iconst 3, 1) := by decide +kernel
theorem dX9_bound_39 : decode cX9_bound 39 = .ok (.invokestatic 129, 3) := by decide +kernel
theorem dX9_bound_42 : decode cX9_bound 42 = .ok (.ifCond .ne 6, 3) := by decide +kernel
theorem dX9_bound_45 : decode cX9_bound 45 = .ok (.ldc 83, 2) := by decide +kernel
theorem dX9_bound_47 : decode cX9_bound 47 = .ok (.ireturn, 1) := by decide +kernel
theorem dX9_bound_48 : decode cX9_bound 48 = .ok (.aload_n 0, 1) := by decide +kernel
theorem dX9_bound_49 : decode cX9_bound 49 = .ok (.invokevirtual 118, 3) := by decide +kernel
theorem dX9_bound_52 : decode cX9_bound 52 = .ok (.astore 4, 2) := by decide +kernel
theorem dX9_bound_54 : decode cX9_bound 54 = .ok (.iload_n 1, 1) := by decide +kernel
theorem dX9_bound_55 : decode cX9_bound 55 = .ok (.iconst (-1), 1) := by decide +kernel
theorem dX9_bound_56 : decode cX9_bound 56 = .ok (.if_icmp .ne 7, 3) := by decide +kernel
theorem dX9_bound_59 : decode cX9_bound 59 = .ok (.iconst 0, 1) := by decide +kernel
theorem dX9_bound_60 : decode cX9_bound 60 = .ok (.goto 4, 3) := by decide +kernel
theorem dX9_bound_63 : decode cX9_bound 63 = .ok (.iload_n 1, 1) := by decide +kernel
theorem dX9_bound_64 : decode cX9_bound 64 = .ok (.istore 5, 2) := by decide +kernel
theorem dX9_bound_66 : decode cX9_bound 66 = .ok (.iload_n 1, 1) := by decide +kernel
theorem dX9_bound_67 : decode cX9_bound 67 = .ok (.iconst (-1), 1) := by decide +kernel
theorem dX9_bound_68 : decode cX9_bound 68 = .ok (.if_icmp .ne 13, 3) := by decide +kernel
theorem dX9_bound_71 : decode cX9_bound 71 = .ok (.aload_n 0, 1) := by decide +kernel
theorem dX9_bound_72 : decode cX9_bound 72 = .ok (.getfield 12, 3) := by decide +kernel
theorem dX9_bound_75 : decode cX9_bound 75 = .ok (.getfield 91, 3) := by decide +kernel
theorem dX9_bound_78 : decode cX9_bound 78 = .ok (.goto 6, 3) := by decide +kernel
theorem dX9_bound_81 : decode cX9_bound 81 = .ok (.iload_n 1, 1) := by decide +kernel
theorem dX9_bound_82 : decode cX9_bound 82 = .ok (.iconst 1, 1) := by decide +kernel
theorem dX9_bound_83 : decode cX9_bound 83 = .ok (.iadd, 1) := by decide +kernel
theorem dX9_bound_84 : decode cX9_bound 84 = .ok (.istore 6, 2) := by decide +kernel
theorem dX9_bound_86 : decode cX9_bound 86 = .ok (.aload 4, 2) := by decide +kernel
theorem dX9_bound_88 : decode cX9_bound 88 = .ok (.aload 4, 2) := by decide +kernel
theorem dX9_bound_90 : decode cX9_bound 90 = .ok (.iload 5, 2) := by decide +kernel
theorem dX9_bound_92 : decode cX9_bound 92 = .ok (.invokevirtual 190, 3) := by decide +kernel
theorem dX9_bound_95 : decode cX9_bound 95 = .ok (.aload 4, 2) := by decide +kernel
theorem dX9_bound_97 : decode cX9_bound 97 = .ok (.iload 6, 2) := by decide +kernel
theorem dX9_bound_99 : decode cX9_bound 99 = .ok (.invokevirtual 190, 3) := by decide +kernel
theorem dX9_bound_102 : decode cX9_bound 102 = .ok (.iload_n 2, 1) := by decide +kernel
theorem dX9_bound_103 : decode cX9_bound 103 = .ok (.invokevirtual 216, 3) := by decide +kernel
theorem dX9_bound_106 : decode cX9_bound 106 = .ok (.ireturn, 1) := by decide +kernel
theorem dX9_simplified_0 : decode cX9_simplified 0 = .ok (.aload_n 0, 1) := by decide +kernel
theorem dX9_simplified_1 : decode cX9_simplified 1 = .ok (.iload_n 1, 1) := by decide +kernel
theorem dX9_simplified_2 : decode cX9_simplified 2 = .ok (.invokevirtual 133, 3) := by decide +kernel
theorem dX9_simplified_5 : decode cX9_simplified 5 = .ok (.ifCond .ne 6, 3) := by decide +kernel
theorem dX9_simplified_8 : decode cX9_simplified 8 = .ok (.ldc 111, 2) := by decide +kernel
theorem dX9_simplified_10 : decode cX9_simplified 10 = .ok (.ireturn, 1) := by decide +kernel
theorem dX9_simplified_11 : decode cX9_simplified 11 = .ok (.iload_n 2, 1) := by decide +kernel
theorem dX9_simplified_12 : decode cX9_simplified 12 = .ok (.iconst 0, 1) := by decide +kernel
theorem dX9_simplified_13 : decode cX9_simplified 13 = .ok (.sipush 1000, 3) := by decide +kernel
theorem dX9_simplified_16 : decode cX9_simplified 16 = .ok (.invokestatic 129, 3) := by decide +kernel
theorem dX9_simplified_19 : decode cX9_simplified 19 = .ok (.ifCond .ne 6, 3) := by decide +kernel
theorem dX9_simplified_22 : decode cX9_simplified 22 = .ok (.ldc 83, 2) := by decide +kernel
theorem dX9_simplified_24 : decode cX9_simplified 24 = .ok (.ireturn, 1) := by decide +kernel
theorem dX9_simplified_25 : decode cX9_simplified 25 = .ok (.aload_n 0, 1) := by decide +kernel
theorem dX9_simplified_26 : decode cX9_simplified 26 = .ok (.getfield 39, 3) := by decide +kernel
theorem dX9_simplified_29 : decode cX9_simplified 29 = .ok (.aload_n 0, 1) := by decide +kernel
theorem dX9_simplified_30 : decode cX9_simplified 30 = .ok (.invokevirtual 118, 3) := by decide +kernel
theorem dX9_simplified_33 : decode cX9_simplified 33 = .ok (.iload_n 1, 1) := by decide +kernel
theorem dX9_simplified_34 : decode cX9_simplified 34 = .ok (.iload_n 2, 1) := by decide +kernel
theorem dX9_simplified_35 : decode cX9_simplified 35 = .ok (.invokevirtual 219, 3) := by decide +kernel
theorem dX9_simplified_38 : decode cX9_simplified 38 = .ok (.iload_n 3, 1) := by decide +kernel
theorem dX9_simplified_39 : decode cX9_simplified 39 = .ok (.iconst (-1), 1) := by decide +kernel
theorem dX9_simplified_40 : decode cX9_simplified 40 = .ok (.if_icmp .ne 13, 3) := by decide +kernel
theorem dX9_simplified_43 : decode cX9_simplified 43 = .ok (.aload_n 0, 1) := by decide +kernel
theorem dX9_simplified_44 : decode cX9_simplified 44 = .ok (.getfield 39, 3) := by decide +kernel
theorem dX9_simplified_47 : decode cX9_simplified 47 = .ok (.invokevirtual 223, 3) := by decide +kernel
theorem dX9_simplified_50 : decode cX9_simplified 50 = .ok (.goto 11, 3) := by decide +kernel
theorem dX9_simplified_53 : decode cX9_simplified 53 = .ok (.aload_n 0, 1) := by decide +kernel
theorem dX9_simplified_54 : decode cX9_simplified 54 = .ok (.getfield 39, 3) := by decide +kernel
theorem dX9_simplified_57 : decode cX9_simplified 57 = .ok (.iload_n 3, 1) := by decide +kernel
theorem dX9_simplified_58 : decode cX9_simplified 58 = .ok (.invokevirtual 226, 3) := by decide +kernel
theorem dX9_simplified_61 : decode cX9_simplified 61 = .ok (.ireturn, 1) := by decide +kernel
theorem dX9_addDash_0 : decode cX9_addDash 0 = .ok (.iload_n 1, 1) := by decide +kernel
theorem dX9_addDash_1 : decode cX9_addDash 1 = .ok (.iconst 1, 1) := by decide +kernel
theorem dX9_addDash_2 : decode cX9_addDash 2 = .ok (.ldc 229, 2) := by decide +kernel
theorem dX9_addDash_4 : decode cX9_addDash 4 = .ok (.invokestatic 129, 3) := by decide +kernel
theorem dX9_addDash_7 : decode cX9_addDash 7 = .ok (.ifCond .ne 6, 3) := by decide +kernel
theorem dX9_addDash_10 : decode cX9_addDash 10 = .ok (.ldc 83, 2) := by decide +kernel
theorem dX9_addDash_12 : decode cX9_addDash 12 = .ok (.ireturn, 1) := by decide +kernel
theorem dX9_addDash_13 : decode cX9_addDash 13 = .ok (.aload_n 0, 1) := by decide +kernel
theorem dX9_addDash_14 : decode cX9_addDash 14 = .ok (.getfield 46, 3) := by decide +kernel
theorem dX9_addDash_17 : decode cX9_addDash 17 = .ok (.getfield 230, 3) := by decide +kernel
theorem dX9_addDash_20 : decode cX9_addDash 20 = .ok (.bipush 6, 2) := by decide +kernel
theorem dX9_addDash_22 : decode cX9_addDash 22 = .ok (.if_icmp .lt 6, 3) := by decide +kernel
theorem dX9_addDash_25 : decode cX9_addDash 25 = .ok (.ldc 156, 2) := by decide +kernel
theorem dX9_addDash_27 : decode cX9_addDash 27 = .ok (.ireturn, 1) := by decide +kernel
theorem dX9_addDash_28 : decode cX9_addDash 28 = .ok (.aload_n 0, 1) := by decide +kernel
theorem dX9_addDash_29 : decode cX9_addDash 29 = .ok (.getfield 46, 3) := by decide +kernel
theorem dX9_addDash_32 : decode cX9_addDash 32 = .ok (.iload_n 1, 1) := by decide +kernel
theorem dX9_addDash_33 : decode cX9_addDash 33 = .ok (.invokevirtual 231, 3) := by decide +kernel
theorem dX9_addDash_36 : decode cX9_addDash 36 = .ok (.aload_n 0, 1) := by decide +kernel
theorem dX9_addDash_37 : decode cX9_addDash 37 = .ok (.getfield 46, 3) := by decide +kernel
theorem dX9_addDash_40 : decode cX9_addDash 40 = .ok (.getfield 230, 3) := by decide +kernel
theorem dX9_addDash_43 : decode cX9_addDash 43 = .ok (.ireturn, 1) := by decide +kernel
theorem dX9_clearDashes_0 : decode cX9_clearDashes 0 = .ok (.iload_n 1, 1) := by decide +kernel
theorem dX9_clearDashes_1 : decode cX9_clearDashes 1 = .ok (.iconst 0, 1) := by decide +kernel
theorem dX9_clearDashes_2 : decode cX9_clearDashes 2 = .ok (.ldc 229, 2) := by decide +kernel
theorem dX9_clearDashes_4 : decode cX9_clearDashes 4 = .ok (.invokestatic 129, 3) := by decide +kernel
theorem dX9_clearDashes_7 : decode cX9_clearDashes 7 = .ok (.ifCond .ne 6, 3) := by decide +kernel
theorem dX9_clearDashes_10 : decode cX9_clearDashes 10 = .ok (.ldc 83, 2) := by decide +kernel
theorem dX9_clearDashes_12 : decode cX9_clearDashes 12 = .ok (.ireturn, 1) := by decide +kernel
theorem dX9_clearDashes_13 : decode cX9_clearDashes 13 = .ok (.aload_n 0, 1) := by decide +kernel
theorem dX9_clearDashes_14 : decode cX9_clearDashes 14 = .ok (.getfield 46, 3) := by decide +kernel
theorem dX9_clearDashes_17 : decode cX9_clearDashes 17 = .ok (.getfield 230, 3) := by decide +kernel
theorem dX9_clearDashes_20 : decode cX9_clearDashes 20 = .ok (.istore_n 2, 1) := by decide +kernel
theorem dX9_clearDashes_21 : decode cX9_clearDashes 21 = .ok (.aload_n 0, 1) := by decide +kernel
theorem dX9_clearDashes_22 : decode cX9_clearDashes 22 = .ok (.getfield 46, 3) := by decide +kernel
theorem dX9_clearDashes_25 : decode cX9_clearDashes 25 = .ok (.iconst 0, 1) := by decide +kernel
theorem dX9_clearDashes_26 : decode cX9_clearDashes 26 = .ok (.putfield 230, 3) := by decide +kernel
theorem dX9_clearDashes_29 : decode cX9_clearDashes 29 = .ok (.aload_n 0, 1) := by decide +kernel
theorem dX9_clearDashes_30 : decode cX9_clearDashes 30 = .ok (.getfield 46, 3) := by decide +kernel
theorem dX9_clearDashes_33 : decode cX9_clearDashes 33 = .ok (.iload_n 1, 1) := by decide +kernel
theorem dX9_clearDashes_34 : decode cX9_clearDashes 34 = .ok (.putfield 234, 3) := by decide +kernel
theorem dX9_clearDashes_37 : decode cX9_clearDashes 37 = .ok (.iload_n 2, 1) := by decide +kernel
theorem dX9_clearDashes_38 : decode cX9_clearDashes 38 = .ok (.ireturn, 1) := by decide +kernel
theorem dX9_dash_0 : decode cX9_dash 0 = .ok (.aload_n 0, 1) := by decide +kernel
theorem dX9_dash_1 : decode cX9_dash 1 = .ok (.iload_n 1, 1) := by decide +kernel
theorem dX9_dash_2 : decode cX9_dash 2 = .ok (.invokevirtual 133, 3) := by decide +kernel
theorem dX9_dash_5 : decode cX9_dash 5 = .ok (.ifCond .ne 6, 3) := by decide +kernel
theorem dX9_dash_8 : decode cX9_dash 8 = .ok (.ldc 111, 2) := by decide +kernel
theorem dX9_dash_10 : decode cX9_dash 10 = .ok (.ireturn, 1) := by decide +kernel
theorem dX9_dash_11 : decode cX9_dash 11 = .ok (.iload_n 3, 1) := by decide +kernel
theorem dX9_dash_12 : decode cX9_dash 12 = .ok (.iconst 0, 1) := by decide +kernel
theorem dX9_dash_13 : decode cX9_dash 13 = .ok (.iconst 1, 1) := by decide +kernel
theorem dX9_dash_14 : decode cX9_dash 14 = .ok (.invokestatic 129, 3) := by decide +kernel
theorem dX9_dash_17 : decode cX9_dash 17 = .ok (.ifCond .ne 6, 3) := by decide +kernel
theorem dX9_dash_20 : decode cX9_dash 20 = .ok (.ldc 83, 2) := by decide +kernel
theorem dX9_dash_22 : decode cX9_dash 22 = .ok (.ireturn, 1) := by decide +kernel
theorem dX9_dash_23 : decode cX9_dash 23 = .ok (.aload_n 0, 1) := by decide +kernel
theorem dX9_dash_24 : decode cX9_dash 24 = .ok (.getfield 46, 3) := by decide +kernel
theorem dX9_dash_27 : decode cX9_dash 27 = .ok (.getfield 230, 3) := by decide +kernel
theorem dX9_dash_30 : decode cX9_dash 30 = .ok (.ifCond .eq 15, 3) := by decide +kernel
theorem dX9_dash_33 : decode cX9_dash 33 = .ok (.aload_n 0, 1) := by decide +kernel
theorem dX9_dash_34 : decode cX9_dash 34 = .ok (.getfield 46, 3) := by decide +kernel
theorem dX9_dash_37 : decode cX9_dash 37 = .ok (.getfield 230, 3) := by decide +kernel
theorem dX9_dash_40 : decode cX9_dash 40 = .ok (.iconst 2, 1) := by decide +kernel
theorem dX9_dash_41 : decode cX9_dash 41 = .ok (.irem, 1) := by decide +kernel
theorem dX9_dash_42 : decode cX9_dash 42 = .ok (.ifCond .eq 6, 3) := by decide +kernel
theorem dX9_dash_45 : decode cX9_dash 45 = .ok (.ldc 107, 2) := by decide +kernel
theorem dX9_dash_47 : decode cX9_dash 47 = .ok (.ireturn, 1) := by decide +kernel
theorem dX9_dash_48 : decode cX9_dash 48 = .ok (.aload_n 0, 1) := by decide +kernel
theorem dX9_dash_49 : decode cX9_dash 49 = .ok (.getfield 46, 3) := by decide +kernel
theorem dX9_dash_52 : decode cX9_dash 52 = .ok (.aload_n 0, 1) := by decide +kernel
theorem dX9_dash_53 : decode cX9_dash 53 = .ok (.invokevirtual 118, 3) := by decide +kernel
theorem dX9_dash_56 : decode cX9_dash 56 = .ok (.iload_n 1, 1) := by decide +kernel
theorem dX9_dash_57 : decode cX9_dash 57 = .ok (.invokevirtual 197, 3) := by decide +kernel
theorem dX9_dash_60 : decode cX9_dash 60 = .ok (.invokevirtual 237, 3) := by decide +kernel
theorem dX9_dash_63 : decode cX9_dash 63 = .ok (.istore 4, 2) := by decide +kernel
theorem dX9_dash_65 : decode cX9_dash 65 = .ok (.iload 4, 2) := by decide +kernel
theorem dX9_dash_67 : decode cX9_dash 67 = .ok (.sipush 1000, 3) := by decide +kernel
theorem dX9_dash_70 : decode cX9_dash 70 = .ok (.if_icmp .le 6, 3) := by decide +kernel
theorem dX9_dash_73 : decode cX9_dash 73 = .ok (.ldc 156, 2) := by decide +kernel
theorem dX9_dash_75 : decode cX9_dash 75 = .ok (.ireturn, 1) := by decide +kernel
theorem dX9_dash_76 : decode cX9_dash 76 = .ok (.iload_n 2, 1) := by decide +kernel
theorem dX9_dash_77 : decode cX9_dash 77 = .ok (.iconst (-1), 1) := by decide +kernel
theorem dX9_dash_78 : decode cX9_dash 78 = .ok (.if_icmp .ne 6, 3) := by decide +kernel
theorem dX9_dash_81 : decode cX9_dash 81 = .ok (.iload 4, 2) := by decide +kernel
theorem dX9_dash_83 : decode cX9_dash 83 = .ok (.ireturn, 1) := by decide +kernel
theorem dX9_dash_84 : decode cX9_dash 84 = .ok (.iload_n 3, 1) := by decide +kernel
theorem dX9_dash_85 : decode cX9_dash 85 = .ok (.ifCond .ne 14, 3) := by decide +kernel
theorem dX9_dash_88 : decode cX9_dash 88 = .ok (.aload_n 0, 1) := by decide +kernel
theorem dX9_dash_89 : decode cX9_dash 89 = .ok (.getfield 46, 3) := by decide +kernel
theorem dX9_dash_92 : decode cX9_dash 92 = .ok (.iload_n 2, 1) := by decide +kernel
theorem dX9_dash_93 : decode cX9_dash 93 = .ok (.invokevirtual 240, 3) := by decide +kernel
theorem dX9_dash_96 : decode cX9_dash 96 = .ok (.goto 11, 3) := by decide +kernel
theorem dX9_dash_99 : decode cX9_dash 99 = .ok (.aload_n 0, 1) := by decide +kernel
theorem dX9_dash_100 : decode cX9_dash 100 = .ok (.getfield 46, 3) := by decide +kernel
theorem dX9_dash_103 : decode cX9_dash 103 = .ok (.iload_n 2, 1) := by decide +kernel
theorem dX9_dash_104 : decode cX9_dash 104 = .ok (.invokevirtual 243, 3) := by decide +kernel
theorem dX9_dash_107 : decode cX9_dash 107 = .ok (.ireturn, 1) := by decide +kernel
theorem dX9_setWidth_0 : decode cX9_setWidth 0 = .ok (.iload_n 1, 1) := by decide +kernel
theorem dX9_setWidth_1 : decode cX9_setWidth 1 = .ok (.invokestatic 246, 3) := by decide +kernel
theorem dX9_setWidth_4 : decode cX9_setWidth 4 = .ok (.ifCond .ne 6, 3) := by decide +kernel
theorem dX9_setWidth_7 : decode cX9_setWidth 7 = .ok (.ldc 111, 2) := by decide +kernel
theorem dX9_setWidth_9 : decode cX9_setWidth 9 = .ok (.ireturn, 1) := by decide +kernel
theorem dX9_setWidth_10 : decode cX9_setWidth 10 = .ok (.iload_n 2, 1) := by decide +kernel
theorem dX9_setWidth_11 : decode cX9_setWidth 11 = .ok (.iconst 1, 1) := by decide +kernel
theorem dX9_setWidth_12 : decode cX9_setWidth 12 = .ok (.sipush 4000, 3) := by decide +kernel
theorem dX9_setWidth_15 : decode cX9_setWidth 15 = .ok (.invokestatic 129, 3) := by decide +kernel
theorem dX9_setWidth_18 : decode cX9_setWidth 18 = .ok (.ifCond .ne 6, 3) := by decide +kernel
theorem dX9_setWidth_21 : decode cX9_setWidth 21 = .ok (.ldc 83, 2) := by decide +kernel
theorem dX9_setWidth_23 : decode cX9_setWidth 23 = .ok (.ireturn, 1) := by decide +kernel
theorem dX9_setWidth_24 : decode cX9_setWidth 24 = .ok (.aload_n 0, 1) := by decide +kernel
theorem dX9_setWidth_25 : decode cX9_setWidth 25 = .ok (.getfield 53, 3) := by decide +kernel
theorem dX9_setWidth_28 : decode cX9_setWidth 28 = .ok (.iload_n 1, 1) := by decide +kernel
theorem dX9_setWidth_29 : decode cX9_setWidth 29 = .ok (.iload_n 2, 1) := by decide +kernel
theorem dX9_setWidth_30 : decode cX9_setWidth 30 = .ok (.invokevirtual 249, 3) := by decide +kernel
theorem dX9_setWidth_33 : decode cX9_setWidth 33 = .ok (.ireturn, 1) := by decide +kernel
theorem dX9_setKerning_0 : decode cX9_setKerning 0 = .ok (.iload_n 1, 1) := by decide +kernel
theorem dX9_setKerning_1 : decode cX9_setKerning 1 = .ok (.invokestatic 246, 3) := by decide +kernel
theorem dX9_setKerning_4 : decode cX9_setKerning 4 = .ok (.ifCond .eq 10, 3) := by decide +kernel
theorem dX9_setKerning_7 : decode cX9_setKerning 7 = .ok (.iload_n 2, 1) := by decide +kernel
theorem dX9_setKerning_8 : decode cX9_setKerning 8 = .ok (.invokestatic 246, 3) := by decide +kernel
theorem dX9_setKerning_11 : decode cX9_setKerning 11 = .ok (.ifCond .ne 6, 3) := by decide +kernel
theorem dX9_setKerning_14 : decode cX9_setKerning 14 = .ok (.ldc 111, 2) := by decide +kernel
theorem dX9_setKerning_16 : decode cX9_setKerning 16 = .ok (.ireturn, 1) := by decide +kernel
theorem dX9_setKerning_17 : decode cX9_setKerning 17 = .ok (.iload_n 3, 1) := by decide +kernel
theorem dX9_setKerning_18 : decode cX9_setKerning 18 = .ok (.sipush (-500), 3) := by decide +kernel
theorem dX9_setKerning_21 : decode cX9_setKerning 21 = .ok (.sipush 500, 3) := by decide +kernel
theorem dX9_setKerning_24 : decode cX9_setKerning 24 = .ok (.invokestatic 129, 3) := by decide +kernel
theorem dX9_setKerning_27 : decode cX9_setKerning 27 = .ok (.ifCond .ne 6, 3) := by decide +kernel
theorem dX9_setKerning_30 : decode cX9_setKerning 30 = .ok (.ldc 83, 2) := by decide +kernel
theorem dX9_setKerning_32 : decode cX9_setKerning 32 = .ok (.ireturn, 1) := by decide +kernel
theorem dX9_setKerning_33 : decode cX9_setKerning 33 = .ok (.iload_n 3, 1) := by decide +kernel
theorem dX9_setKerning_34 : decode cX9_setKerning 34 = .ok (.ifCond .eq 20, 3) := by decide +kernel
theorem dX9_setKerning_37 : decode cX9_setKerning 37 = .ok (.aload_n 0, 1) := by decide +kernel
theorem dX9_setKerning_38 : decode cX9_setKerning 38 = .ok (.getfield 53, 3) := by decide +kernel
theorem dX9_setKerning_41 : decode cX9_setKerning 41 = .ok (.iload_n 1, 1) := by decide +kernel
theorem dX9_setKerning_42 : decode cX9_setKerning 42 = .ok (.iload_n 2, 1) := by decide +kernel
theorem dX9_setKerning_43 : decode cX9_setKerning 43 = .ok (.invokevirtual 252, 3) := by decide +kernel
theorem dX9_setKerning_46 : decode cX9_setKerning 46 = .ok (.bipush 20, 2) := by decide +kernel
theorem dX9_setKerning_48 : decode cX9_setKerning 48 = .ok (.if_icmp .lt 6, 3) := by decide +kernel
theorem dX9_setKerning_51 : decode cX9_setKerning 51 = .ok (.ldc 156, 2) := by decide +kernel
theorem dX9_setKerning_53 : decode cX9_setKerning 53 = .ok (.ireturn, 1) := by decide +kernel
theorem dX9_setKerning_54 : decode cX9_setKerning 54 = .ok (.aload_n 0, 1) := by decide +kernel
theorem dX9_setKerning_55 : decode cX9_setKerning 55 = .ok (.getfield 53, 3) := by decide +kernel
theorem dX9_setKerning_58 : decode cX9_setKerning 58 = .ok (.iload_n 1, 1) := by decide +kernel
theorem dX9_setKerning_59 : decode cX9_setKerning 59 = .ok (.iload_n 2, 1) := by decide +kernel
theorem dX9_setKerning_60 : decode cX9_setKerning 60 = .ok (.iload_n 3, 1) := by decide +kernel
theorem dX9_setKerning_61 : decode cX9_setKerning 61 = .ok (.invokevirtual 255, 3) := by decide +kernel
theorem dX9_setKerning_64 : decode cX9_setKerning 64 = .ok (.ireturn, 1) := by decide +kernel
theorem dX9_write_0 : decode cX9_write 0 = .ok (.iload_n 1, 1) := by decide +kernel
theorem dX9_write_1 : decode cX9_write 1 = .ok (.invokestatic 246, 3) := by decide +kernel
theorem dX9_write_4 : decode cX9_write 4 = .ok (.ifCond .ne 6, 3) := by decide +kernel
theorem dX9_write_7 : decode cX9_write 7 = .ok (.ldc 111, 2) := by decide +kernel
theorem dX9_write_9 : decode cX9_write 9 = .ok (.ireturn, 1) := by decide +kernel
theorem dX9_write_10 : decode cX9_write 10 = .ok (.aload_n 0, 1) := by decide +kernel
theorem dX9_write_11 : decode cX9_write 11 = .ok (.getfield 53, 3) := by decide +kernel
theorem dX9_write_14 : decode cX9_write 14 = .ok (.getfield 258, 3) := by decide +kernel
theorem dX9_write_17 : decode cX9_write 17 = .ok (.bipush 24, 2) := by decide +kernel
theorem dX9_write_19 : decode cX9_write 19 = .ok (.if_icmp .lt 6, 3) := by decide +kernel
theorem dX9_write_22 : decode cX9_write 22 = .ok (.ldc 156, 2) := by decide +kernel
theorem dX9_write_24 : decode cX9_write 24 = .ok (.ireturn, 1) := by decide +kernel
theorem dX9_write_25 : decode cX9_write 25 = .ok (.aload_n 0, 1) := by decide +kernel
theorem dX9_write_26 : decode cX9_write 26 = .ok (.getfield 53, 3) := by decide +kernel
theorem dX9_write_29 : decode cX9_write 29 = .ok (.iload_n 1, 1) := by decide +kernel
theorem dX9_write_30 : decode cX9_write 30 = .ok (.invokevirtual 259, 3) := by decide +kernel
theorem dX9_write_33 : decode cX9_write 33 = .ok (.aload_n 0, 1) := by decide +kernel
theorem dX9_write_34 : decode cX9_write 34 = .ok (.getfield 53, 3) := by decide +kernel
theorem dX9_write_37 : decode cX9_write 37 = .ok (.getfield 258, 3) := by decide +kernel
theorem dX9_write_40 : decode cX9_write 40 = .ok (.ireturn, 1) := by decide +kernel
theorem dX9_erase_0 : decode cX9_erase 0 = .ok (.aload_n 0, 1) := by decide +kernel
theorem dX9_erase_1 : decode cX9_erase 1 = .ok (.getfield 53, 3) := by decide +kernel
theorem dX9_erase_4 : decode cX9_erase 4 = .ok (.getfield 258, 3) := by decide +kernel
theorem dX9_erase_7 : decode cX9_erase 7 = .ok (.istore_n 1, 1) := by decide +kernel
theorem dX9_erase_8 : decode cX9_erase 8 = .ok (.aload_n 0, 1) := by decide +kernel
theorem dX9_erase_9 : decode cX9_erase 9 = .ok (.getfield 53, 3) := by decide +kernel
theorem dX9_erase_12 : decode cX9_erase 12 = .ok (.iconst 0, 1) := by decide +kernel
theorem dX9_erase_13 : decode cX9_erase 13 = .ok (.putfield 258, 3) := by decide +kernel
theorem dX9_erase_16 : decode cX9_erase 16 = .ok (.iload_n 1, 1) := by decide +kernel
theorem dX9_erase_17 : decode cX9_erase 17 = .ok (.ireturn, 1) := by decide +kernel
theorem dX9_arrange_0 : decode cX9_arrange 0 = .ok (.iload_n 1, 1) := by decide +kernel
theorem dX9_arrange_1 : decode cX9_arrange 1 = .ok (.sipush (-20000), 3) := by decide +kernel
theorem dX9_arrange_4 : decode cX9_arrange 4 = .ok (.ldc 229, 2) := by decide +kernel
theorem dX9_arrange_6 : decode cX9_arrange 6 = .ok (.invokestatic 129, 3) := by decide +kernel
theorem dX9_arrange_9 : decode cX9_arrange 9 = .ok (.ifCond .eq 24, 3) := by decide +kernel
theorem dX9_arrange_12 : decode cX9_arrange 12 = .ok (.iload_n 2, 1) := by decide +kernel
theorem dX9_arrange_13 : decode cX9_arrange 13 = .ok (.bipush (-100), 2) := by decide +kernel
theorem dX9_arrange_15 : decode cX9_arrange 15 = .ok (.sipush 1000, 3) := by decide +kernel
theorem dX9_arrange_18 : decode cX9_arrange 18 = .ok (.invokestatic 129, 3) := by decide +kernel
theorem dX9_arrange_21 : decode cX9_arrange 21 = .ok (.ifCond .eq 12, 3) := by decide +kernel
theorem dX9_arrange_24 : decode cX9_arrange 24 = .ok (.iload_n 3, 1) := by decide +kernel
theorem dX9_arrange_25 : decode cX9_arrange 25 = .ok (.iconst 0, 1) := by decide +kernel
theorem dX9_arrange_26 : decode cX9_arrange 26 = .ok (.iconst 3, 1) := by decide +kernel
theorem dX9_arrange_27 : decode cX9_arrange 27 = .ok (.invokestatic 129, 3) := by decide +kernel
theorem dX9_arrange_30 : decode cX9_arrange 30 = .ok (.ifCond .ne 6, 3) := by decide +kernel
theorem dX9_arrange_33 : decode cX9_arrange 33 = .ok (.ldc 83, 2) := by decide +kernel
theorem dX9_arrange_35 : decode cX9_arrange 35 = .ok (.ireturn, 1) := by decide +kernel
theorem dX9_arrange_36 : decode cX9_arrange 36 = .ok (.aload_n 0, 1) := by decide +kernel
theorem dX9_arrange_37 : decode cX9_arrange 37 = .ok (.getfield 53, 3) := by decide +kernel
theorem dX9_arrange_40 : decode cX9_arrange 40 = .ok (.iload_n 1, 1) := by decide +kernel
theorem dX9_arrange_41 : decode cX9_arrange 41 = .ok (.putfield 260, 3) := by decide +kernel
theorem dX9_arrange_44 : decode cX9_arrange 44 = .ok (.aload_n 0, 1) := by decide +kernel
theorem dX9_arrange_45 : decode cX9_arrange 45 = .ok (.getfield 53, 3) := by decide +kernel
theorem dX9_arrange_48 : decode cX9_arrange 48 = .ok (.iload_n 2, 1) := by decide +kernel
theorem dX9_arrange_49 : decode cX9_arrange 49 = .ok (.putfield 263, 3) := by decide +kernel
theorem dX9_arrange_52 : decode cX9_arrange 52 = .ok (.aload_n 0, 1) := by decide +kernel
theorem dX9_arrange_53 : decode cX9_arrange 53 = .ok (.getfield 53, 3) := by decide +kernel
theorem dX9_arrange_56 : decode cX9_arrange 56 = .ok (.iload_n 3, 1) := by decide +kernel
theorem dX9_arrange_57 : decode cX9_arrange 57 = .ok (.putfield 266, 3) := by decide +kernel
theorem dX9_arrange_60 : decode cX9_arrange 60 = .ok (.aload_n 0, 1) := by decide +kernel
theorem dX9_arrange_61 : decode cX9_arrange 61 = .ok (.getfield 53, 3) := by decide +kernel
theorem dX9_arrange_64 : decode cX9_arrange 64 = .ok (.getfield 258, 3) := by decide +kernel
theorem dX9_arrange_67 : decode cX9_arrange 67 = .ok (.ireturn, 1) := by decide +kernel
theorem dX9_letter_0 : decode cX9_letter 0 = .ok (.aload_n 0, 1) := by decide +kernel
theorem dX9_letter_1 : decode cX9_letter 1 = .ok (.iload_n 1, 1) := by decide +kernel
theorem dX9_letter_2 : decode cX9_letter 2 = .ok (.invokevirtual 133, 3) := by decide +kernel
theorem dX9_letter_5 : decode cX9_letter 5 = .ok (.ifCond .eq 18, 3) := by decide +kernel
theorem dX9_letter_8 : decode cX9_letter 8 = .ok (.iload_n 2, 1) := by decide +kernel
theorem dX9_letter_9 : decode cX9_letter 9 = .ok (.ifCond .lt 14, 3) := by decide +kernel
theorem dX9_letter_12 : decode cX9_letter 12 = .ok (.iload_n 2, 1) := by decide +kernel
theorem dX9_letter_13 : decode cX9_letter 13 = .ok (.aload_n 0, 1) := by decide +kernel
theorem dX9_letter_14 : decode cX9_letter 14 = .ok (.getfield 53, 3) := by decide +kernel
theorem dX9_letter_17 : decode cX9_letter 17 = .ok (.getfield 258, 3) := by decide +kernel
theorem dX9_letter_20 : decode cX9_letter 20 = .ok (.if_icmp .lt 6, 3) := by decide +kernel
theorem dX9_letter_23 : decode cX9_letter 23 = .ok (.ldc 111, 2) := by decide +kernel
theorem dX9_letter_25 : decode cX9_letter 25 = .ok (.ireturn, 1) := by decide +kernel
theorem dX9_letter_26 : decode cX9_letter 26 = .ok (.iload_n 3, 1) := by decide +kernel
theorem dX9_letter_27 : decode cX9_letter 27 = .ok (.iconst 0, 1) := by decide +kernel
theorem dX9_letter_28 : decode cX9_letter 28 = .ok (.iconst 4, 1) := by decide +kernel
theorem dX9_letter_29 : decode cX9_letter 29 = .ok (.invokestatic 129, 3) := by decide +kernel
theorem dX9_letter_32 : decode cX9_letter 32 = .ok (.ifCond .ne 6, 3) := by decide +kernel
theorem dX9_letter_35 : decode cX9_letter 35 = .ok (.ldc 83, 2) := by decide +kernel
theorem dX9_letter_37 : decode cX9_letter 37 = .ok (.ireturn, 1) := by decide +kernel
theorem dX9_letter_38 : decode cX9_letter 38 = .ok (.aload_n 0, 1) := by decide +kernel
theorem dX9_letter_39 : decode cX9_letter 39 = .ok (.invokevirtual 118, 3) := by decide +kernel
theorem dX9_letter_42 : decode cX9_letter 42 = .ok (.astore 4, 2) := by decide +kernel
theorem dX9_letter_44 : decode cX9_letter 44 = .ok (.aload_n 0, 1) := by decide +kernel
theorem dX9_letter_45 : decode cX9_letter 45 = .ok (.getfield 53, 3) := by decide +kernel
theorem dX9_letter_48 : decode cX9_letter 48 = .ok (.aload 4, 2) := by decide +kernel
theorem dX9_letter_50 : decode cX9_letter 50 = .ok (.iload_n 1, 1) := by decide +kernel
theorem dX9_letter_51 : decode cX9_letter 51 = .ok (.invokevirtual 269, 3) := by decide +kernel
theorem dX9_letter_54 : decode cX9_letter 54 = .ok (.aload_n 0, 1) := by decide +kernel
theorem dX9_letter_55 : decode cX9_letter 55 = .ok (.getfield 53, 3) := by decide +kernel
theorem dX9_letter_58 : decode cX9_letter 58 = .ok (.aload 4, 2) := by decide +kernel
theorem dX9_letter_60 : decode cX9_letter 60 = .ok (.iload_n 2, 1) := by decide +kernel
theorem dX9_letter_61 : decode cX9_letter 61 = .ok (.iload_n 3, 1) := by decide +kernel
theorem dX9_letter_62 : decode cX9_letter 62 = .ok (.invokevirtual 273, 3) := by decide +kernel
theorem dX9_letter_65 : decode cX9_letter 65 = .ok (.ireturn, 1) := by decide +kernel
theorem dX9_placed_0 : decode cX9_placed 0 = .ok (.aload_n 0, 1) := by decide +kernel
theorem dX9_placed_1 : decode cX9_placed 1 = .ok (.iload_n 1, 1) := by decide +kernel
theorem dX9_placed_2 : decode cX9_placed 2 = .ok (.invokevirtual 133, 3) := by decide +kernel
theorem dX9_placed_5 : decode cX9_placed 5 = .ok (.ifCond .ne 6, 3) := by decide +kernel
theorem dX9_placed_8 : decode cX9_placed 8 = .ok (.ldc 111, 2) := by decide +kernel
theorem dX9_placed_10 : decode cX9_placed 10 = .ok (.ireturn, 1) := by decide +kernel
theorem dX9_placed_11 : decode cX9_placed 11 = .ok (.iload_n 2, 1) := by decide +kernel
theorem dX9_placed_12 : decode cX9_placed 12 = .ok (.iconst 0, 1) := by decide +kernel
theorem dX9_placed_13 : decode cX9_placed 13 = .ok (.iconst 1, 1) := by decide +kernel
theorem dX9_placed_14 : decode cX9_placed 14 = .ok (.invokestatic 129, 3) := by decide +kernel
theorem dX9_placed_17 : decode cX9_placed 17 = .ok (.ifCond .ne 6, 3) := by decide +kernel
theorem dX9_placed_20 : decode cX9_placed 20 = .ok (.ldc 83, 2) := by decide +kernel
theorem dX9_placed_22 : decode cX9_placed 22 = .ok (.ireturn, 1) := by decide +kernel
theorem dX9_placed_23 : decode cX9_placed 23 = .ok (.aload_n 0, 1) := by decide +kernel
theorem dX9_placed_24 : decode cX9_placed 24 = .ok (.invokevirtual 118, 3) := by decide +kernel
theorem dX9_placed_27 : decode cX9_placed 27 = .ok (.astore_n 3, 1) := by decide +kernel
theorem dX9_placed_28 : decode cX9_placed 28 = .ok (.aload_n 0, 1) := by decide +kernel
theorem dX9_placed_29 : decode cX9_placed 29 = .ok (.getfield 53, 3) := by decide +kernel
theorem dX9_placed_32 : decode cX9_placed 32 = .ok (.aload_n 3, 1) := by decide +kernel
theorem dX9_placed_33 : decode cX9_placed 33 = .ok (.iload_n 1, 1) := by decide +kernel
theorem dX9_placed_34 : decode cX9_placed 34 = .ok (.invokevirtual 269, 3) := by decide +kernel
theorem dX9_placed_37 : decode cX9_placed 37 = .ok (.iload_n 2, 1) := by decide +kernel
theorem dX9_placed_38 : decode cX9_placed 38 = .ok (.ifCond .ne 13, 3) := by decide +kernel
theorem dX9_placed_41 : decode cX9_placed 41 = .ok (.aload_n 0, 1) := by decide +kernel
theorem dX9_placed_42 : decode cX9_placed 42 = .ok (.getfield 53, 3) := by decide +kernel
theorem dX9_placed_45 : decode cX9_placed 45 = .ok (.invokevirtual 277, 3) := by decide +kernel
theorem dX9_placed_48 : decode cX9_placed 48 = .ok (.goto 11, 3) := by decide +kernel
theorem dX9_placed_51 : decode cX9_placed 51 = .ok (.aload_n 0, 1) := by decide +kernel
theorem dX9_placed_52 : decode cX9_placed 52 = .ok (.getfield 53, 3) := by decide +kernel
theorem dX9_placed_55 : decode cX9_placed 55 = .ok (.aload_n 3, 1) := by decide +kernel
theorem dX9_placed_56 : decode cX9_placed 56 = .ok (.invokevirtual 280, 3) := by decide +kernel
theorem dX9_placed_59 : decode cX9_placed 59 = .ok (.ireturn, 1) := by decide +kernel
theorem dX9_count_0 : decode cX9_count 0 = .ok (.iload_n 1, 1) := by decide +kernel
theorem dX9_count_1 : decode cX9_count 1 = .ok (.tableswitch 96 0 6 #[43, 51, 59, 64, 72, 80, 88], 43) := by decide +kernel
theorem dX9_count_44 : decode cX9_count 44 = .ok (.aload_n 0, 1) := by decide +kernel
theorem dX9_count_45 : decode cX9_count 45 = .ok (.getfield 12, 3) := by decide +kernel
theorem dX9_count_48 : decode cX9_count 48 = .ok (.getfield 104, 3) := by decide +kernel
theorem dX9_count_51 : decode cX9_count 51 = .ok (.ireturn, 1) := by decide +kernel
theorem dX9_count_52 : decode cX9_count 52 = .ok (.aload_n 0, 1) := by decide +kernel
theorem dX9_count_53 : decode cX9_count 53 = .ok (.getfield 12, 3) := by decide +kernel
theorem dX9_count_56 : decode cX9_count 56 = .ok (.getfield 91, 3) := by decide +kernel
theorem dX9_count_59 : decode cX9_count 59 = .ok (.ireturn, 1) := by decide +kernel
theorem dX9_count_60 : decode cX9_count 60 = .ok (.aload_n 0, 1) := by decide +kernel
theorem dX9_count_61 : decode cX9_count 61 = .ok (.getfield 71, 3) := by decide +kernel
theorem dX9_count_64 : decode cX9_count 64 = .ok (.ireturn, 1) := by decide +kernel
theorem dX9_count_65 : decode cX9_count 65 = .ok (.aload_n 0, 1) := by decide +kernel
theorem dX9_count_66 : decode cX9_count 66 = .ok (.getfield 60, 3) := by decide +kernel
theorem dX9_count_69 : decode cX9_count 69 = .ok (.getfield 155, 3) := by decide +kernel
theorem dX9_count_72 : decode cX9_count 72 = .ok (.ireturn, 1) := by decide +kernel
theorem dX9_count_73 : decode cX9_count 73 = .ok (.aload_n 0, 1) := by decide +kernel
theorem dX9_count_74 : decode cX9_count 74 = .ok (.getfield 53, 3) := by decide +kernel
theorem dX9_count_77 : decode cX9_count 77 = .ok (.getfield 258, 3) := by decide +kernel
theorem dX9_count_80 : decode cX9_count 80 = .ok (.ireturn, 1) := by decide +kernel
theorem dX9_count_81 : decode cX9_count 81 = .ok (.aload_n 0, 1) := by decide +kernel
theorem dX9_count_82 : decode cX9_count 82 = .ok (.getfield 46, 3) := by decide +kernel
theorem dX9_count_85 : decode cX9_count 85 = .ok (.getfield 230, 3) := by decide +kernel
theorem dX9_count_88 : decode cX9_count 88 = .ok (.ireturn, 1) := by decide +kernel
theorem dX9_count_89 : decode cX9_count 89 = .ok (.aload_n 0, 1) := by decide +kernel
theorem dX9_count_90 : decode cX9_count 90 = .ok (.getfield 53, 3) := by decide +kernel
theorem dX9_count_93 : decode cX9_count 93 = .ok (.getfield 284, 3) := by decide +kernel
theorem dX9_count_96 : decode cX9_count 96 = .ok (.ireturn, 1) := by decide +kernel
theorem dX9_count_97 : decode cX9_count 97 = .ok (.ldc 83, 2) := by decide +kernel
theorem dX9_count_99 : decode cX9_count 99 = .ok (.ireturn, 1) := by decide +kernel
theorem dX9_save_0 : decode cX9_save 0 = .ok (.iload_n 1, 1) := by decide +kernel
theorem dX9_save_1 : decode cX9_save 1 = .ok (.ifCond .lt 8, 3) := by decide +kernel
theorem dX9_save_4 : decode cX9_save 4 = .ok (.iload_n 1, 1) := by decide +kernel
theorem dX9_save_5 : decode cX9_save 5 = .ok (.iconst 2, 1) := by decide +kernel
theorem dX9_save_6 : decode cX9_save 6 = .ok (.if_icmp .lt 6, 3) := by decide +kernel
theorem dX9_save_9 : decode cX9_save 9 = .ok (.ldc 83, 2) := by decide +kernel
theorem dX9_save_11 : decode cX9_save 11 = .ok (.ireturn, 1) := by decide +kernel
theorem dX9_save_12 : decode cX9_save 12 = .ok (.aload_n 0, 1) := by decide +kernel
theorem dX9_save_13 : decode cX9_save 13 = .ok (.iload_n 1, 1) := by decide +kernel
theorem dX9_save_14 : decode cX9_save 14 = .ok (.invokevirtual 287, 3) := by decide +kernel
theorem dX9_save_17 : decode cX9_save 17 = .ok (.aload_n 0, 1) := by decide +kernel
theorem dX9_save_18 : decode cX9_save 18 = .ok (.getfield 12, 3) := by decide +kernel
theorem dX9_save_21 : decode cX9_save 21 = .ok (.invokevirtual 140, 3) := by decide +kernel
theorem dX9_save_24 : decode cX9_save 24 = .ok (.aload_n 0, 1) := by decide +kernel
theorem dX9_save_25 : decode cX9_save 25 = .ok (.getfield 25, 3) := by decide +kernel
theorem dX9_save_28 : decode cX9_save 28 = .ok (.iload_n 1, 1) := by decide +kernel
theorem dX9_save_29 : decode cX9_save 29 = .ok (.aload_n 0, 1) := by decide +kernel
theorem dX9_save_30 : decode cX9_save 30 = .ok (.getfield 71, 3) := by decide +kernel
theorem dX9_save_33 : decode cX9_save 33 = .ok (.iastore, 1) := by decide +kernel
theorem dX9_save_34 : decode cX9_save 34 = .ok (.aload_n 0, 1) := by decide +kernel
theorem dX9_save_35 : decode cX9_save 35 = .ok (.getfield 12, 3) := by decide +kernel
theorem dX9_save_38 : decode cX9_save 38 = .ok (.getfield 104, 3) := by decide +kernel
theorem dX9_save_41 : decode cX9_save 41 = .ok (.ireturn, 1) := by decide +kernel
theorem dX9_restore_0 : decode cX9_restore 0 = .ok (.iload_n 1, 1) := by decide +kernel
theorem dX9_restore_1 : decode cX9_restore 1 = .ok (.ifCond .lt 8, 3) := by decide +kernel
theorem dX9_restore_4 : decode cX9_restore 4 = .ok (.iload_n 1, 1) := by decide +kernel
theorem dX9_restore_5 : decode cX9_restore 5 = .ok (.iconst 2, 1) := by decide +kernel
theorem dX9_restore_6 : decode cX9_restore 6 = .ok (.if_icmp .lt 6, 3) := by decide +kernel
theorem dX9_restore_9 : decode cX9_restore 9 = .ok (.ldc 83, 2) := by decide +kernel
theorem dX9_restore_11 : decode cX9_restore 11 = .ok (.ireturn, 1) := by decide +kernel
theorem dX9_restore_12 : decode cX9_restore 12 = .ok (.aload_n 0, 1) := by decide +kernel
theorem dX9_restore_13 : decode cX9_restore 13 = .ok (.getfield 25, 3) := by decide +kernel
theorem dX9_restore_16 : decode cX9_restore 16 = .ok (.iload_n 1, 1) := by decide +kernel
theorem dX9_restore_17 : decode cX9_restore 17 = .ok (.iaload, 1) := by decide +kernel
theorem dX9_restore_18 : decode cX9_restore 18 = .ok (.ifCond .ne 6, 3) := by decide +kernel
theorem dX9_restore_21 : decode cX9_restore 21 = .ok (.ldc 107, 2) := by decide +kernel
theorem dX9_restore_23 : decode cX9_restore 23 = .ok (.ireturn, 1) := by decide +kernel
theorem dX9_restore_24 : decode cX9_restore 24 = .ok (.aload_n 0, 1) := by decide +kernel
theorem dX9_restore_25 : decode cX9_restore 25 = .ok (.getfield 12, 3) := by decide +kernel
theorem dX9_restore_28 : decode cX9_restore 28 = .ok (.aload_n 0, 1) := by decide +kernel
theorem dX9_restore_29 : decode cX9_restore 29 = .ok (.iload_n 1, 1) := by decide +kernel
theorem dX9_restore_30 : decode cX9_restore 30 = .ok (.invokevirtual 287, 3) := by decide +kernel
theorem dX9_restore_33 : decode cX9_restore 33 = .ok (.invokevirtual 140, 3) := by decide +kernel
theorem dX9_restore_36 : decode cX9_restore 36 = .ok (.aload_n 0, 1) := by decide +kernel
theorem dX9_restore_37 : decode cX9_restore 37 = .ok (.aload_n 0, 1) := by decide +kernel
theorem dX9_restore_38 : decode cX9_restore 38 = .ok (.getfield 25, 3) := by decide +kernel
theorem dX9_restore_41 : decode cX9_restore 41 = .ok (.iload_n 1, 1) := by decide +kernel
theorem dX9_restore_42 : decode cX9_restore 42 = .ok (.iaload, 1) := by decide +kernel
theorem dX9_restore_43 : decode cX9_restore 43 = .ok (.putfield 71, 3) := by decide +kernel
theorem dX9_restore_46 : decode cX9_restore 46 = .ok (.aload_n 0, 1) := by decide +kernel
theorem dX9_restore_47 : decode cX9_restore 47 = .ok (.iconst 1, 1) := by decide +kernel
theorem dX9_restore_48 : decode cX9_restore 48 = .ok (.putfield 75, 3) := by decide +kernel
theorem dX9_restore_51 : decode cX9_restore 51 = .ok (.aload_n 0, 1) := by decide +kernel
theorem dX9_restore_52 : decode cX9_restore 52 = .ok (.getfield 12, 3) := by decide +kernel
theorem dX9_restore_55 : decode cX9_restore 55 = .ok (.getfield 104, 3) := by decide +kernel
theorem dX9_restore_58 : decode cX9_restore 58 = .ok (.ireturn, 1) := by decide +kernel
theorem dX9_savedIn_0 : decode cX9_savedIn 0 = .ok (.iload_n 1, 1) := by decide +kernel
theorem dX9_savedIn_1 : decode cX9_savedIn 1 = .ok (.ifCond .ne 10, 3) := by decide +kernel
theorem dX9_savedIn_4 : decode cX9_savedIn 4 = .ok (.aload_n 0, 1) := by decide +kernel
theorem dX9_savedIn_5 : decode cX9_savedIn 5 = .ok (.getfield 19, 3) := by decide +kernel
theorem dX9_savedIn_8 : decode cX9_savedIn 8 = .ok (.goto 7, 3) := by decide +kernel
theorem dX9_savedIn_11 : decode cX9_savedIn 11 = .ok (.aload_n 0, 1) := by decide +kernel
theorem dX9_savedIn_12 : decode cX9_savedIn 12 = .ok (.getfield 22, 3) := by decide +kernel
theorem dX9_savedIn_15 : decode cX9_savedIn 15 = .ok (.areturn, 1) := by decide +kernel
theorem dX9_goOn_0 : decode cX9_goOn 0 = .ok (.aload_n 0, 1) := by decide +kernel
theorem dX9_goOn_1 : decode cX9_goOn 1 = .ok (.getfield 12, 3) := by decide +kernel
theorem dX9_goOn_4 : decode cX9_goOn 4 = .ok (.invokevirtual 291, 3) := by decide +kernel
theorem dX9_goOn_7 : decode cX9_goOn 7 = .ok (.ifCond .ne 6, 3) := by decide +kernel
theorem dX9_goOn_10 : decode cX9_goOn 10 = .ok (.ldc 107, 2) := by decide +kernel
theorem dX9_goOn_12 : decode cX9_goOn 12 = .ok (.ireturn, 1) := by decide +kernel
theorem dX9_goOn_13 : decode cX9_goOn 13 = .ok (.aload_n 0, 1) := by decide +kernel
theorem dX9_goOn_14 : decode cX9_goOn 14 = .ok (.iload_n 1, 1) := by decide +kernel
theorem dX9_goOn_15 : decode cX9_goOn 15 = .ok (.iload_n 2, 1) := by decide +kernel
theorem dX9_goOn_16 : decode cX9_goOn 16 = .ok (.iload_n 3, 1) := by decide +kernel
theorem dX9_goOn_17 : decode cX9_goOn 17 = .ok (.iload 4, 2) := by decide +kernel
theorem dX9_goOn_19 : decode cX9_goOn 19 = .ok (.iload 5, 2) := by decide +kernel
theorem dX9_goOn_21 : decode cX9_goOn 21 = .ok (.iload 6, 2) := by decide +kernel
theorem dX9_goOn_23 : decode cX9_goOn 23 = .ok (.iload 7, 2) := by decide +kernel
theorem dX9_goOn_25 : decode cX9_goOn 25 = .ok (.invokevirtual 84, 3) := by decide +kernel
theorem dX9_goOn_28 : decode cX9_goOn 28 = .ok (.ireturn, 1) := by decide +kernel
theorem dX9_append_0 : decode cX9_append 0 = .ok (.aload_n 0, 1) := by decide +kernel
theorem dX9_append_1 : decode cX9_append 1 = .ok (.getfield 12, 3) := by decide +kernel
theorem dX9_append_4 : decode cX9_append 4 = .ok (.getfield 104, 3) := by decide +kernel
theorem dX9_append_7 : decode cX9_append 7 = .ok (.bipush 24, 2) := by decide +kernel
theorem dX9_append_9 : decode cX9_append 9 = .ok (.if_icmp .lt 6, 3) := by decide +kernel
theorem dX9_append_12 : decode cX9_append 12 = .ok (.ldc 156, 2) := by decide +kernel
theorem dX9_append_14 : decode cX9_append 14 = .ok (.ireturn, 1) := by decide +kernel
theorem dX9_append_15 : decode cX9_append 15 = .ok (.aload_n 0, 1) := by decide +kernel
theorem dX9_append_16 : decode cX9_append 16 = .ok (.getfield 12, 3) := by decide +kernel
theorem dX9_append_19 : decode cX9_append 19 = .ok (.iload_n 1, 1) := by decide +kernel
theorem dX9_append_20 : decode cX9_append 20 = .ok (.iload_n 2, 1) := by decide +kernel
theorem dX9_append_21 : decode cX9_append 21 = .ok (.iload_n 3, 1) := by decide +kernel
theorem dX9_append_22 : decode cX9_append 22 = .ok (.iload 4, 2) := by decide +kernel
theorem dX9_append_24 : decode cX9_append 24 = .ok (.iload 5, 2) := by decide +kernel
theorem dX9_append_26 : decode cX9_append 26 = .ok (.iload 6, 2) := by decide +kernel
theorem dX9_append_28 : decode cX9_append 28 = .ok (.iload 7, 2) := by decide +kernel
theorem dX9_append_30 : decode cX9_append 30 = .ok (.invokevirtual 294, 3) := by decide +kernel
theorem dX9_append_33 : decode cX9_append 33 = .ok (.aload_n 0, 1) := by decide +kernel
theorem dX9_append_34 : decode cX9_append 34 = .ok (.iconst 1, 1) := by decide +kernel
theorem dX9_append_35 : decode cX9_append 35 = .ok (.putfield 75, 3) := by decide +kernel
theorem dX9_append_38 : decode cX9_append 38 = .ok (.aload_n 0, 1) := by decide +kernel
theorem dX9_append_39 : decode cX9_append 39 = .ok (.getfield 12, 3) := by decide +kernel
theorem dX9_append_42 : decode cX9_append 42 = .ok (.getfield 104, 3) := by decide +kernel
theorem dX9_append_45 : decode cX9_append 45 = .ok (.ireturn, 1) := by decide +kernel
theorem dX9_flattened_0 : decode cX9_flattened 0 = .ok (.aload_n 0, 1) := by decide +kernel
theorem dX9_flattened_1 : decode cX9_flattened 1 = .ok (.getfield 75, 3) := by decide +kernel
theorem dX9_flattened_4 : decode cX9_flattened 4 = .ok (.ifCond .eq 23, 3) := by decide +kernel
theorem dX9_flattened_7 : decode cX9_flattened 7 = .ok (.aload_n 0, 1) := by decide +kernel
theorem dX9_flattened_8 : decode cX9_flattened 8 = .ok (.getfield 32, 3) := by decide +kernel
theorem dX9_flattened_11 : decode cX9_flattened 11 = .ok (.aload_n 0, 1) := by decide +kernel
theorem dX9_flattened_12 : decode cX9_flattened 12 = .ok (.getfield 12, 3) := by decide +kernel
theorem dX9_flattened_15 : decode cX9_flattened 15 = .ok (.aload_n 0, 1) := by decide +kernel
theorem dX9_flattened_16 : decode cX9_flattened 16 = .ok (.getfield 71, 3) := by decide +kernel
theorem dX9_flattened_19 : decode cX9_flattened 19 = .ok (.invokevirtual 298, 3) := by decide +kernel
theorem dX9_flattened_22 : decode cX9_flattened 22 = .ok (.aload_n 0, 1) := by decide +kernel
theorem dX9_flattened_23 : decode cX9_flattened 23 = .ok (.iconst 0, 1) := by decide +kernel
theorem dX9_flattened_24 : decode cX9_flattened 24 = .ok (.putfield 75, 3) := by decide +kernel
theorem dX9_flattened_27 : decode cX9_flattened 27 = .ok (.aload_n 0, 1) := by decide +kernel
theorem dX9_flattened_28 : decode cX9_flattened 28 = .ok (.getfield 32, 3) := by decide +kernel
theorem dX9_flattened_31 : decode cX9_flattened 31 = .ok (.areturn, 1) := by decide +kernel
theorem dX9_isContour_0 : decode cX9_isContour 0 = .ok (.iload_n 1, 1) := by decide +kernel
theorem dX9_isContour_1 : decode cX9_isContour 1 = .ok (.ifCond .lt 18, 3) := by decide +kernel
theorem dX9_isContour_4 : decode cX9_isContour 4 = .ok (.iload_n 1, 1) := by decide +kernel
theorem dX9_isContour_5 : decode cX9_isContour 5 = .ok (.aload_n 0, 1) := by decide +kernel
theorem dX9_isContour_6 : decode cX9_isContour 6 = .ok (.getfield 12, 3) := by decide +kernel
theorem dX9_isContour_9 : decode cX9_isContour 9 = .ok (.getfield 91, 3) := by decide +kernel
theorem dX9_isContour_12 : decode cX9_isContour 12 = .ok (.if_icmp .ge 7, 3) := by decide +kernel
theorem dX9_isContour_15 : decode cX9_isContour 15 = .ok (.iconst 1, 1) := by decide +kernel
theorem dX9_isContour_16 : decode cX9_isContour 16 = .ok (.goto 4, 3) := by decide +kernel
theorem dX9_isContour_19 : decode cX9_isContour 19 = .ok (.iconst 0, 1) := by decide +kernel
theorem dX9_isContour_20 : decode cX9_isContour 20 = .ok (.ireturn, 1) := by decide +kernel
theorem dX9_isLetter_0 : decode cX9_isLetter 0 = .ok (.iload_n 0, 1) := by decide +kernel
theorem dX9_isLetter_1 : decode cX9_isLetter 1 = .ok (.ifCond .lt 13, 3) := by decide +kernel
theorem dX9_isLetter_4 : decode cX9_isLetter 4 = .ok (.iload_n 0, 1) := by decide +kernel
theorem dX9_isLetter_5 : decode cX9_isLetter 5 = .ok (.bipush 26, 2) := by decide +kernel
theorem dX9_isLetter_7 : decode cX9_isLetter 7 = .ok (.if_icmp .ge 7, 3) := by decide +kernel
theorem dX9_isLetter_10 : decode cX9_isLetter 10 = .ok (.iconst 1, 1) := by decide +kernel
theorem dX9_isLetter_11 : decode cX9_isLetter 11 = .ok (.goto 4, 3) := by decide +kernel
theorem dX9_isLetter_14 : decode cX9_isLetter 14 = .ok (.iconst 0, 1) := by decide +kernel
theorem dX9_isLetter_15 : decode cX9_isLetter 15 = .ok (.ireturn, 1) := by decide +kernel
theorem dX9_fits_0 : decode cX9_fits 0 = .ok (.iload_n 0, 1) := by decide +kernel
theorem dX9_fits_1 : decode cX9_fits 1 = .ok (.sipush (-4000), 3) := by decide +kernel
theorem dX9_fits_4 : decode cX9_fits 4 = .ok (.sipush 4000, 3) := by decide +kernel
theorem dX9_fits_7 : decode cX9_fits 7 = .ok (.invokestatic 129, 3) := by decide +kernel
theorem dX9_fits_10 : decode cX9_fits 10 = .ok (.ireturn, 1) := by decide +kernel
theorem dX9_between_0 : decode cX9_between 0 = .ok (.iload_n 0, 1) := by decide +kernel
theorem dX9_between_1 : decode cX9_between 1 = .ok (.iload_n 1, 1) := by decide +kernel
theorem dX9_between_2 : decode cX9_between 2 = .ok (.if_icmp .lt 12, 3) := by decide +kernel
theorem dX9_between_5 : decode cX9_between 5 = .ok (.iload_n 0, 1) := by decide +kernel
theorem dX9_between_6 : decode cX9_between 6 = .ok (.iload_n 2, 1) := by decide +kernel
theorem dX9_between_7 : decode cX9_between 7 = .ok (.if_icmp .gt 7, 3) := by decide +kernel
theorem dX9_between_10 : decode cX9_between 10 = .ok (.iconst 1, 1) := by decide +kernel
theorem dX9_between_11 : decode cX9_between 11 = .ok (.goto 4, 3) := by decide +kernel
theorem dX9_between_14 : decode cX9_between 14 = .ok (.iconst 0, 1) := by decide +kernel
theorem dX9_between_15 : decode cX9_between 15 = .ok (.ireturn, 1) := by decide +kernel
theorem dJ11_isValidCodePoint_9a6ad_0 : decode cJ11_isValidCodePoint_9a6ad 0 = .ok (.iload_n 0, 1) := by decide +kernel
theorem dJ11_isValidCodePoint_9a6ad_1 : decode cJ11_isValidCodePoint_9a6ad 1 = .ok (.bipush 16, 2) := by decide +kernel
theorem dJ11_isValidCodePoint_9a6ad_3 : decode cJ11_isValidCodePoint_9a6ad 3 = .ok (.iushr, 1) := by decide +kernel
theorem dJ11_isValidCodePoint_9a6ad_4 : decode cJ11_isValidCodePoint_9a6ad 4 = .ok (.istore_n 1, 1) := by decide +kernel
theorem dJ11_isValidCodePoint_9a6ad_5 : decode cJ11_isValidCodePoint_9a6ad 5 = .ok (.iload_n 1, 1) := by decide +kernel
theorem dJ11_isValidCodePoint_9a6ad_6 : decode cJ11_isValidCodePoint_9a6ad 6 = .ok (.bipush 17, 2) := by decide +kernel
theorem dJ11_isValidCodePoint_9a6ad_8 : decode cJ11_isValidCodePoint_9a6ad 8 = .ok (.if_icmp .ge 7, 3) := by decide +kernel
theorem dJ11_isValidCodePoint_9a6ad_11 : decode cJ11_isValidCodePoint_9a6ad 11 = .ok (.iconst 1, 1) := by decide +kernel
theorem dJ11_isValidCodePoint_9a6ad_12 : decode cJ11_isValidCodePoint_9a6ad 12 = .ok (.goto 4, 3) := by decide +kernel
theorem dJ11_isValidCodePoint_9a6ad_15 : decode cJ11_isValidCodePoint_9a6ad 15 = .ok (.iconst 0, 1) := by decide +kernel
theorem dJ11_isValidCodePoint_9a6ad_16 : decode cJ11_isValidCodePoint_9a6ad 16 = .ok (.ireturn, 1) := by decide +kernel
theorem dJ11_highSurrogate_5068e_0 : decode cJ11_highSurrogate_5068e 0 = .ok (.iload_n 0, 1) := by decide +kernel
theorem dJ11_highSurrogate_5068e_1 : decode cJ11_highSurrogate_5068e 1 = .ok (.bipush 10, 2) := by decide +kernel
theorem dJ11_highSurrogate_5068e_3 : decode cJ11_highSurrogate_5068e 3 = .ok (.iushr, 1) := by decide +kernel
theorem dJ11_highSurrogate_5068e_4 : decode cJ11_highSurrogate_5068e 4 = .ok (.ldc 110, 2) := by decide +kernel
theorem dJ11_highSurrogate_5068e_6 : decode cJ11_highSurrogate_5068e 6 = .ok (.iadd, 1) := by decide +kernel
theorem dJ11_highSurrogate_5068e_7 : decode cJ11_highSurrogate_5068e 7 = .ok (.i2c, 1) := by decide +kernel
theorem dJ11_highSurrogate_5068e_8 : decode cJ11_highSurrogate_5068e 8 = .ok (.ireturn, 1) := by decide +kernel
theorem dJ11_lowSurrogate_5068e_0 : decode cJ11_lowSurrogate_5068e 0 = .ok (.iload_n 0, 1) := by decide +kernel
theorem dJ11_lowSurrogate_5068e_1 : decode cJ11_lowSurrogate_5068e 1 = .ok (.sipush 1023, 3) := by decide +kernel
theorem dJ11_lowSurrogate_5068e_4 : decode cJ11_lowSurrogate_5068e 4 = .ok (.iand, 1) := by decide +kernel
theorem dJ11_lowSurrogate_5068e_5 : decode cJ11_lowSurrogate_5068e 5 = .ok (.ldc 76, 2) := by decide +kernel
theorem dJ11_lowSurrogate_5068e_7 : decode cJ11_lowSurrogate_5068e 7 = .ok (.iadd, 1) := by decide +kernel
theorem dJ11_lowSurrogate_5068e_8 : decode cJ11_lowSurrogate_5068e 8 = .ok (.i2c, 1) := by decide +kernel
theorem dJ11_lowSurrogate_5068e_9 : decode cJ11_lowSurrogate_5068e 9 = .ok (.ireturn, 1) := by decide +kernel
theorem dJ9_floorMod_7cf53_0 : decode cJ9_floorMod_7cf53 0 = .ok (.iload_n 0, 1) := by decide +kernel
theorem dJ9_floorMod_7cf53_1 : decode cJ9_floorMod_7cf53 1 = .ok (.iload_n 1, 1) := by decide +kernel
theorem dJ9_floorMod_7cf53_2 : decode cJ9_floorMod_7cf53 2 = .ok (.irem, 1) := by decide +kernel
theorem dJ9_floorMod_7cf53_3 : decode cJ9_floorMod_7cf53 3 = .ok (.istore_n 2, 1) := by decide +kernel
theorem dJ9_floorMod_7cf53_4 : decode cJ9_floorMod_7cf53 4 = .ok (.iload_n 0, 1) := by decide +kernel
theorem dJ9_floorMod_7cf53_5 : decode cJ9_floorMod_7cf53 5 = .ok (.iload_n 1, 1) := by decide +kernel
theorem dJ9_floorMod_7cf53_6 : decode cJ9_floorMod_7cf53 6 = .ok (.ixor, 1) := by decide +kernel
theorem dJ9_floorMod_7cf53_7 : decode cJ9_floorMod_7cf53 7 = .ok (.ifCond .ge 11, 3) := by decide +kernel
theorem dJ9_floorMod_7cf53_10 : decode cJ9_floorMod_7cf53 10 = .ok (.iload_n 2, 1) := by decide +kernel
theorem dJ9_floorMod_7cf53_11 : decode cJ9_floorMod_7cf53 11 = .ok (.ifCond .eq 7, 3) := by decide +kernel
theorem dJ9_floorMod_7cf53_14 : decode cJ9_floorMod_7cf53 14 = .ok (.iload_n 2, 1) := by decide +kernel
theorem dJ9_floorMod_7cf53_15 : decode cJ9_floorMod_7cf53 15 = .ok (.iload_n 1, 1) := by decide +kernel
theorem dJ9_floorMod_7cf53_16 : decode cJ9_floorMod_7cf53 16 = .ok (.iadd, 1) := by decide +kernel
theorem dJ9_floorMod_7cf53_17 : decode cJ9_floorMod_7cf53 17 = .ok (.ireturn, 1) := by decide +kernel
theorem dJ9_floorMod_7cf53_18 : decode cJ9_floorMod_7cf53 18 = .ok (.iload_n 2, 1) := by decide +kernel
theorem dJ9_floorMod_7cf53_19 : decode cJ9_floorMod_7cf53 19 = .ok (.ireturn, 1) := by decide +kernel
theorem dJ9_abs_0f7a4_0 : decode cJ9_abs_0f7a4 0 = .ok (.iload_n 0, 1) := by decide +kernel
theorem dJ9_abs_0f7a4_1 : decode cJ9_abs_0f7a4 1 = .ok (.ifCond .ge 8, 3) := by decide +kernel
theorem dJ9_abs_0f7a4_4 : decode cJ9_abs_0f7a4 4 = .ok (.iload_n 0, 1) := by decide +kernel
theorem dJ9_abs_0f7a4_5 : decode cJ9_abs_0f7a4 5 = .ok (.ineg, 1) := by decide +kernel
theorem dJ9_abs_0f7a4_6 : decode cJ9_abs_0f7a4 6 = .ok (.goto 4, 3) := by decide +kernel
theorem dJ9_abs_0f7a4_9 : decode cJ9_abs_0f7a4 9 = .ok (.iload_n 0, 1) := by decide +kernel
theorem dJ9_abs_0f7a4_10 : decode cJ9_abs_0f7a4 10 = .ok (.ireturn, 1) := by decide +kernel
theorem dJ9_max_7cf53_0 : decode cJ9_max_7cf53 0 = .ok (.iload_n 0, 1) := by decide +kernel
theorem dJ9_max_7cf53_1 : decode cJ9_max_7cf53 1 = .ok (.iload_n 1, 1) := by decide +kernel
theorem dJ9_max_7cf53_2 : decode cJ9_max_7cf53 2 = .ok (.if_icmp .lt 7, 3) := by decide +kernel
theorem dJ9_max_7cf53_5 : decode cJ9_max_7cf53 5 = .ok (.iload_n 0, 1) := by decide +kernel
theorem dJ9_max_7cf53_6 : decode cJ9_max_7cf53 6 = .ok (.goto 4, 3) := by decide +kernel
theorem dJ9_max_7cf53_9 : decode cJ9_max_7cf53 9 = .ok (.iload_n 1, 1) := by decide +kernel
theorem dJ9_max_7cf53_10 : decode cJ9_max_7cf53 10 = .ok (.ireturn, 1) := by decide +kernel
theorem dJ9_max_f86c9_0 : decode cJ9_max_f86c9 0 = .ok (.lload_n 0, 1) := by decide +kernel
theorem dJ9_max_f86c9_1 : decode cJ9_max_f86c9 1 = .ok (.lload_n 2, 1) := by decide +kernel
theorem dJ9_max_f86c9_2 : decode cJ9_max_f86c9 2 = .ok (.lcmp, 1) := by decide +kernel
theorem dJ9_max_f86c9_3 : decode cJ9_max_f86c9 3 = .ok (.ifCond .lt 7, 3) := by decide +kernel
theorem dJ9_max_f86c9_6 : decode cJ9_max_f86c9 6 = .ok (.lload_n 0, 1) := by decide +kernel
theorem dJ9_max_f86c9_7 : decode cJ9_max_f86c9 7 = .ok (.goto 4, 3) := by decide +kernel
theorem dJ9_max_f86c9_10 : decode cJ9_max_f86c9 10 = .ok (.lload_n 2, 1) := by decide +kernel
theorem dJ9_max_f86c9_11 : decode cJ9_max_f86c9 11 = .ok (.lreturn, 1) := by decide +kernel
theorem dJ9_min_7cf53_0 : decode cJ9_min_7cf53 0 = .ok (.iload_n 0, 1) := by decide +kernel
theorem dJ9_min_7cf53_1 : decode cJ9_min_7cf53 1 = .ok (.iload_n 1, 1) := by decide +kernel
theorem dJ9_min_7cf53_2 : decode cJ9_min_7cf53 2 = .ok (.if_icmp .gt 7, 3) := by decide +kernel
theorem dJ9_min_7cf53_5 : decode cJ9_min_7cf53 5 = .ok (.iload_n 0, 1) := by decide +kernel
theorem dJ9_min_7cf53_6 : decode cJ9_min_7cf53 6 = .ok (.goto 4, 3) := by decide +kernel
theorem dJ9_min_7cf53_9 : decode cJ9_min_7cf53 9 = .ok (.iload_n 1, 1) := by decide +kernel
theorem dJ9_min_7cf53_10 : decode cJ9_min_7cf53 10 = .ok (.ireturn, 1) := by decide +kernel
theorem dJ9_min_f86c9_0 : decode cJ9_min_f86c9 0 = .ok (.lload_n 0, 1) := by decide +kernel
theorem dJ9_min_f86c9_1 : decode cJ9_min_f86c9 1 = .ok (.lload_n 2, 1) := by decide +kernel
theorem dJ9_min_f86c9_2 : decode cJ9_min_f86c9 2 = .ok (.lcmp, 1) := by decide +kernel
theorem dJ9_min_f86c9_3 : decode cJ9_min_f86c9 3 = .ok (.ifCond .gt 7, 3) := by decide +kernel
theorem dJ9_min_f86c9_6 : decode cJ9_min_f86c9 6 = .ok (.lload_n 0, 1) := by decide +kernel
theorem dJ9_min_f86c9_7 : decode cJ9_min_f86c9 7 = .ok (.goto 4, 3) := by decide +kernel
theorem dJ9_min_f86c9_10 : decode cJ9_min_f86c9 10 = .ok (.lload_n 2, 1) := by decide +kernel
theorem dJ9_min_f86c9_11 : decode cJ9_min_f86c9 11 = .ok (.lreturn, 1) := by decide +kernel
theorem dJ0_length_8abf5_0 : decode cJ0_length_8abf5 0 = .ok (.aload_n 0, 1) := by decide +kernel
theorem dJ0_length_8abf5_1 : decode cJ0_length_8abf5 1 = .ok (.getfield 9, 3) := by decide +kernel
theorem dJ0_length_8abf5_4 : decode cJ0_length_8abf5 4 = .ok (.arraylength, 1) := by decide +kernel
theorem dJ0_length_8abf5_5 : decode cJ0_length_8abf5 5 = .ok (.aload_n 0, 1) := by decide +kernel
theorem dJ0_length_8abf5_6 : decode cJ0_length_8abf5 6 = .ok (.invokevirtual 335, 3) := by decide +kernel
theorem dJ0_length_8abf5_9 : decode cJ0_length_8abf5 9 = .ok (.ishr, 1) := by decide +kernel
theorem dJ0_length_8abf5_10 : decode cJ0_length_8abf5 10 = .ok (.ireturn, 1) := by decide +kernel
theorem dJ0_charAt_5068e_0 : decode cJ0_charAt_5068e 0 = .ok (.aload_n 0, 1) := by decide +kernel
theorem dJ0_charAt_5068e_1 : decode cJ0_charAt_5068e 1 = .ok (.invokevirtual 492, 3) := by decide +kernel
theorem dJ0_charAt_5068e_4 : decode cJ0_charAt_5068e 4 = .ok (.ifCond .eq 12, 3) := by decide +kernel
theorem dJ0_charAt_5068e_7 : decode cJ0_charAt_5068e 7 = .ok (.aload_n 0, 1) := by decide +kernel
theorem dJ0_charAt_5068e_8 : decode cJ0_charAt_5068e 8 = .ok (.getfield 9, 3) := by decide +kernel
theorem dJ0_charAt_5068e_11 : decode cJ0_charAt_5068e 11 = .ok (.iload_n 1, 1) := by decide +kernel
theorem dJ0_charAt_5068e_12 : decode cJ0_charAt_5068e 12 = .ok (.invokestatic 495, 3) := by decide +kernel
theorem dJ0_charAt_5068e_15 : decode cJ0_charAt_5068e 15 = .ok (.ireturn, 1) := by decide +kernel
theorem dJ0_charAt_5068e_16 : decode cJ0_charAt_5068e 16 = .ok (.aload_n 0, 1) := by decide +kernel
theorem dJ0_charAt_5068e_17 : decode cJ0_charAt_5068e 17 = .ok (.getfield 9, 3) := by decide +kernel
theorem dJ0_charAt_5068e_20 : decode cJ0_charAt_5068e 20 = .ok (.iload_n 1, 1) := by decide +kernel
theorem dJ0_charAt_5068e_21 : decode cJ0_charAt_5068e 21 = .ok (.invokestatic 498, 3) := by decide +kernel
theorem dJ0_charAt_5068e_24 : decode cJ0_charAt_5068e 24 = .ok (.ireturn, 1) := by decide +kernel
theorem dJ0_indexOf_0f7a4_0 : decode cJ0_indexOf_0f7a4 0 = .ok (.aload_n 0, 1) := by decide +kernel
theorem dJ0_indexOf_0f7a4_1 : decode cJ0_indexOf_0f7a4 1 = .ok (.iload_n 1, 1) := by decide +kernel
theorem dJ0_indexOf_0f7a4_2 : decode cJ0_indexOf_0f7a4 2 = .ok (.iconst 0, 1) := by decide +kernel
theorem dJ0_indexOf_0f7a4_3 : decode cJ0_indexOf_0f7a4 3 = .ok (.invokevirtual 633, 3) := by decide +kernel
theorem dJ0_indexOf_0f7a4_6 : decode cJ0_indexOf_0f7a4 6 = .ok (.ireturn, 1) := by decide +kernel
theorem dJ0_indexOf_7cf53_0 : decode cJ0_indexOf_7cf53 0 = .ok (.aload_n 0, 1) := by decide +kernel
theorem dJ0_indexOf_7cf53_1 : decode cJ0_indexOf_7cf53 1 = .ok (.invokevirtual 492, 3) := by decide +kernel
theorem dJ0_indexOf_7cf53_4 : decode cJ0_indexOf_7cf53 4 = .ok (.ifCond .eq 19, 3) := by decide +kernel
theorem dJ0_indexOf_7cf53_7 : decode cJ0_indexOf_7cf53 7 = .ok (.aload_n 0, 1) := by decide +kernel
theorem dJ0_indexOf_7cf53_8 : decode cJ0_indexOf_7cf53 8 = .ok (.getfield 9, 3) := by decide +kernel
theorem dJ0_indexOf_7cf53_11 : decode cJ0_indexOf_7cf53 11 = .ok (.iload_n 1, 1) := by decide +kernel
theorem dJ0_indexOf_7cf53_12 : decode cJ0_indexOf_7cf53 12 = .ok (.iload_n 2, 1) := by decide +kernel
theorem dJ0_indexOf_7cf53_13 : decode cJ0_indexOf_7cf53 13 = .ok (.aload_n 0, 1) := by decide +kernel
theorem dJ0_indexOf_7cf53_14 : decode cJ0_indexOf_7cf53 14 = .ok (.invokevirtual 505, 3) := by decide +kernel
theorem dJ0_indexOf_7cf53_17 : decode cJ0_indexOf_7cf53 17 = .ok (.invokestatic 637, 3) := by decide +kernel
theorem dJ0_indexOf_7cf53_20 : decode cJ0_indexOf_7cf53 20 = .ok (.goto 16, 3) := by decide +kernel
theorem dJ0_indexOf_7cf53_23 : decode cJ0_indexOf_7cf53 23 = .ok (.aload_n 0, 1) := by decide +kernel
theorem dJ0_indexOf_7cf53_24 : decode cJ0_indexOf_7cf53 24 = .ok (.getfield 9, 3) := by decide +kernel
theorem dJ0_indexOf_7cf53_27 : decode cJ0_indexOf_7cf53 27 = .ok (.iload_n 1, 1) := by decide +kernel
theorem dJ0_indexOf_7cf53_28 : decode cJ0_indexOf_7cf53 28 = .ok (.iload_n 2, 1) := by decide +kernel
theorem dJ0_indexOf_7cf53_29 : decode cJ0_indexOf_7cf53 29 = .ok (.aload_n 0, 1) := by decide +kernel
theorem dJ0_indexOf_7cf53_30 : decode cJ0_indexOf_7cf53 30 = .ok (.invokevirtual 505, 3) := by decide +kernel
theorem dJ0_indexOf_7cf53_33 : decode cJ0_indexOf_7cf53 33 = .ok (.invokestatic 640, 3) := by decide +kernel
theorem dJ0_indexOf_7cf53_36 : decode cJ0_indexOf_7cf53 36 = .ok (.ireturn, 1) := by decide +kernel
theorem dJ0_coder_7d493_0 : decode cJ0_coder_7d493 0 = .ok (.getstatic 38, 3) := by decide +kernel
theorem dJ0_coder_7d493_3 : decode cJ0_coder_7d493 3 = .ok (.ifCond .eq 10, 3) := by decide +kernel
theorem dJ0_coder_7d493_6 : decode cJ0_coder_7d493 6 = .ok (.aload_n 0, 1) := by decide +kernel
theorem dJ0_coder_7d493_7 : decode cJ0_coder_7d493 7 = .ok (.getfield 15, 3) := by decide +kernel
theorem dJ0_coder_7d493_10 : decode cJ0_coder_7d493 10 = .ok (.goto 4, 3) := by decide +kernel
theorem dJ0_coder_7d493_13 : decode cJ0_coder_7d493 13 = .ok (.iconst 1, 1) := by decide +kernel
theorem dJ0_coder_7d493_14 : decode cJ0_coder_7d493 14 = .ok (.ireturn, 1) := by decide +kernel
theorem dJ0_isLatin1_aae02_0 : decode cJ0_isLatin1_aae02 0 = .ok (.getstatic 38, 3) := by decide +kernel
theorem dJ0_isLatin1_aae02_3 : decode cJ0_isLatin1_aae02 3 = .ok (.ifCond .eq 14, 3) := by decide +kernel
theorem dJ0_isLatin1_aae02_6 : decode cJ0_isLatin1_aae02 6 = .ok (.aload_n 0, 1) := by decide +kernel
theorem dJ0_isLatin1_aae02_7 : decode cJ0_isLatin1_aae02 7 = .ok (.getfield 15, 3) := by decide +kernel
theorem dJ0_isLatin1_aae02_10 : decode cJ0_isLatin1_aae02 10 = .ok (.ifCond .ne 7, 3) := by decide +kernel
theorem dJ0_isLatin1_aae02_13 : decode cJ0_isLatin1_aae02 13 = .ok (.iconst 1, 1) := by decide +kernel
theorem dJ0_isLatin1_aae02_14 : decode cJ0_isLatin1_aae02 14 = .ok (.goto 4, 3) := by decide +kernel
theorem dJ0_isLatin1_aae02_17 : decode cJ0_isLatin1_aae02 17 = .ok (.iconst 0, 1) := by decide +kernel
theorem dJ0_isLatin1_aae02_18 : decode cJ0_isLatin1_aae02 18 = .ok (.ireturn, 1) := by decide +kernel
theorem dJ0_checkIndex_df160_0 : decode cJ0_checkIndex_df160 0 = .ok (.iload_n 0, 1) := by decide +kernel
theorem dJ0_checkIndex_df160_1 : decode cJ0_checkIndex_df160 1 = .ok (.iload_n 1, 1) := by decide +kernel
theorem dJ0_checkIndex_df160_2 : decode cJ0_checkIndex_df160 2 = .ok (.getstatic 1053, 3) := by decide +kernel
theorem dJ0_checkIndex_df160_5 : decode cJ0_checkIndex_df160 5 = .ok (.invokestatic 1059, 3) := by decide +kernel
theorem dJ0_checkIndex_df160_8 : decode cJ0_checkIndex_df160 8 = .ok (.pop, 1) := by decide +kernel
theorem dJ0_checkIndex_df160_9 : decode cJ0_checkIndex_df160 9 = .ok (.return_, 1) := by decide +kernel
theorem dJ0_checkBoundsBeginEnd_23922_0 : decode cJ0_checkBoundsBeginEnd_23922 0 = .ok (.iload_n 0, 1) := by decide +kernel
theorem dJ0_checkBoundsBeginEnd_23922_1 : decode cJ0_checkBoundsBeginEnd_23922 1 = .ok (.iload_n 1, 1) := by decide +kernel
theorem dJ0_checkBoundsBeginEnd_23922_2 : decode cJ0_checkBoundsBeginEnd_23922 2 = .ok (.iload_n 2, 1) := by decide +kernel
theorem dJ0_checkBoundsBeginEnd_23922_3 : decode cJ0_checkBoundsBeginEnd_23922 3 = .ok (.getstatic 1053, 3) := by decide +kernel
theorem dJ0_checkBoundsBeginEnd_23922_6 : decode cJ0_checkBoundsBeginEnd_23922 6 = .ok (.invokestatic 1062, 3) := by decide +kernel
theorem dJ0_checkBoundsBeginEnd_23922_9 : decode cJ0_checkBoundsBeginEnd_23922 9 = .ok (.pop, 1) := by decide +kernel
theorem dJ0_checkBoundsBeginEnd_23922_10 : decode cJ0_checkBoundsBeginEnd_23922 10 = .ok (.return_, 1) := by decide +kernel
theorem dJ1_charAt_3b067_0 : decode cJ1_charAt_3b067 0 = .ok (.iload_n 1, 1) := by decide +kernel
theorem dJ1_charAt_3b067_1 : decode cJ1_charAt_3b067 1 = .ok (.aload_n 0, 1) := by decide +kernel
theorem dJ1_charAt_3b067_2 : decode cJ1_charAt_3b067 2 = .ok (.arraylength, 1) := by decide +kernel
theorem dJ1_charAt_3b067_3 : decode cJ1_charAt_3b067 3 = .ok (.invokestatic 9, 3) := by decide +kernel
theorem dJ1_charAt_3b067_6 : decode cJ1_charAt_3b067 6 = .ok (.aload_n 0, 1) := by decide +kernel
theorem dJ1_charAt_3b067_7 : decode cJ1_charAt_3b067 7 = .ok (.iload_n 1, 1) := by decide +kernel
theorem dJ1_charAt_3b067_8 : decode cJ1_charAt_3b067 8 = .ok (.baload, 1) := by decide +kernel
theorem dJ1_charAt_3b067_9 : decode cJ1_charAt_3b067 9 = .ok (.sipush 255, 3) := by decide +kernel
theorem dJ1_charAt_3b067_12 : decode cJ1_charAt_3b067 12 = .ok (.iand, 1) := by decide +kernel
theorem dJ1_charAt_3b067_13 : decode cJ1_charAt_3b067 13 = .ok (.i2c, 1) := by decide +kernel
theorem dJ1_charAt_3b067_14 : decode cJ1_charAt_3b067 14 = .ok (.ireturn, 1) := by decide +kernel
theorem dJ1_canEncode_9a6ad_0 : decode cJ1_canEncode_9a6ad 0 = .ok (.iload_n 0, 1) := by decide +kernel
theorem dJ1_canEncode_9a6ad_1 : decode cJ1_canEncode_9a6ad 1 = .ok (.ifCond .lt 14, 3) := by decide +kernel
theorem dJ1_canEncode_9a6ad_4 : decode cJ1_canEncode_9a6ad 4 = .ok (.iload_n 0, 1) := by decide +kernel
theorem dJ1_canEncode_9a6ad_5 : decode cJ1_canEncode_9a6ad 5 = .ok (.sipush 255, 3) := by decide +kernel
theorem dJ1_canEncode_9a6ad_8 : decode cJ1_canEncode_9a6ad 8 = .ok (.if_icmp .gt 7, 3) := by decide +kernel
theorem dJ1_canEncode_9a6ad_11 : decode cJ1_canEncode_9a6ad 11 = .ok (.iconst 1, 1) := by decide +kernel
theorem dJ1_canEncode_9a6ad_12 : decode cJ1_canEncode_9a6ad 12 = .ok (.goto 4, 3) := by decide +kernel
theorem dJ1_canEncode_9a6ad_15 : decode cJ1_canEncode_9a6ad 15 = .ok (.iconst 0, 1) := by decide +kernel
theorem dJ1_canEncode_9a6ad_16 : decode cJ1_canEncode_9a6ad 16 = .ok (.ireturn, 1) := by decide +kernel
theorem dJ1_indexOf_4cfef_0 : decode cJ1_indexOf_4cfef 0 = .ok (.iload_n 1, 1) := by decide +kernel
theorem dJ1_indexOf_4cfef_1 : decode cJ1_indexOf_4cfef 1 = .ok (.invokestatic 88, 3) := by decide +kernel
theorem dJ1_indexOf_4cfef_4 : decode cJ1_indexOf_4cfef 4 = .ok (.ifCond .ne 5, 3) := by decide +kernel
theorem dJ1_indexOf_4cfef_7 : decode cJ1_indexOf_4cfef 7 = .ok (.iconst (-1), 1) := by decide +kernel
theorem dJ1_indexOf_4cfef_8 : decode cJ1_indexOf_4cfef 8 = .ok (.ireturn, 1) := by decide +kernel
theorem dJ1_indexOf_4cfef_9 : decode cJ1_indexOf_4cfef 9 = .ok (.iload_n 2, 1) := by decide +kernel
theorem dJ1_indexOf_4cfef_10 : decode cJ1_indexOf_4cfef 10 = .ok (.iconst 0, 1) := by decide +kernel
theorem dJ1_indexOf_4cfef_11 : decode cJ1_indexOf_4cfef 11 = .ok (.invokestatic 92, 3) := by decide +kernel
theorem dJ1_indexOf_4cfef_14 : decode cJ1_indexOf_4cfef 14 = .ok (.istore_n 2, 1) := by decide +kernel
theorem dJ1_indexOf_4cfef_15 : decode cJ1_indexOf_4cfef 15 = .ok (.iload_n 3, 1) := by decide +kernel
theorem dJ1_indexOf_4cfef_16 : decode cJ1_indexOf_4cfef 16 = .ok (.aload_n 0, 1) := by decide +kernel
theorem dJ1_indexOf_4cfef_17 : decode cJ1_indexOf_4cfef 17 = .ok (.arraylength, 1) := by decide +kernel
theorem dJ1_indexOf_4cfef_18 : decode cJ1_indexOf_4cfef 18 = .ok (.invokestatic 38, 3) := by decide +kernel
theorem dJ1_indexOf_4cfef_21 : decode cJ1_indexOf_4cfef 21 = .ok (.istore_n 3, 1) := by decide +kernel
theorem dJ1_indexOf_4cfef_22 : decode cJ1_indexOf_4cfef 22 = .ok (.iload_n 2, 1) := by decide +kernel
theorem dJ1_indexOf_4cfef_23 : decode cJ1_indexOf_4cfef 23 = .ok (.iload_n 3, 1) := by decide +kernel
theorem dJ1_indexOf_4cfef_24 : decode cJ1_indexOf_4cfef 24 = .ok (.if_icmp .lt 5, 3) := by decide +kernel
theorem dJ1_indexOf_4cfef_27 : decode cJ1_indexOf_4cfef 27 = .ok (.iconst (-1), 1) := by decide +kernel
theorem dJ1_indexOf_4cfef_28 : decode cJ1_indexOf_4cfef 28 = .ok (.ireturn, 1) := by decide +kernel
theorem dJ1_indexOf_4cfef_29 : decode cJ1_indexOf_4cfef 29 = .ok (.aload_n 0, 1) := by decide +kernel
theorem dJ1_indexOf_4cfef_30 : decode cJ1_indexOf_4cfef 30 = .ok (.iload_n 1, 1) := by decide +kernel
theorem dJ1_indexOf_4cfef_31 : decode cJ1_indexOf_4cfef 31 = .ok (.iload_n 2, 1) := by decide +kernel
theorem dJ1_indexOf_4cfef_32 : decode cJ1_indexOf_4cfef 32 = .ok (.iload_n 3, 1) := by decide +kernel
theorem dJ1_indexOf_4cfef_33 : decode cJ1_indexOf_4cfef 33 = .ok (.invokestatic 95, 3) := by decide +kernel
theorem dJ1_indexOf_4cfef_36 : decode cJ1_indexOf_4cfef 36 = .ok (.ireturn, 1) := by decide +kernel
theorem dJ1_indexOfChar_4cfef_0 : decode cJ1_indexOfChar_4cfef 0 = .ok (.iload_n 1, 1) := by decide +kernel
theorem dJ1_indexOfChar_4cfef_1 : decode cJ1_indexOfChar_4cfef 1 = .ok (.i2b, 1) := by decide +kernel
theorem dJ1_indexOfChar_4cfef_2 : decode cJ1_indexOfChar_4cfef 2 = .ok (.istore 4, 2) := by decide +kernel
theorem dJ1_indexOfChar_4cfef_4 : decode cJ1_indexOfChar_4cfef 4 = .ok (.iload_n 2, 1) := by decide +kernel
theorem dJ1_indexOfChar_4cfef_5 : decode cJ1_indexOfChar_4cfef 5 = .ok (.istore 5, 2) := by decide +kernel
theorem dJ1_indexOfChar_4cfef_7 : decode cJ1_indexOfChar_4cfef 7 = .ok (.iload 5, 2) := by decide +kernel
theorem dJ1_indexOfChar_4cfef_9 : decode cJ1_indexOfChar_4cfef 9 = .ok (.iload_n 3, 1) := by decide +kernel
theorem dJ1_indexOfChar_4cfef_10 : decode cJ1_indexOfChar_4cfef 10 = .ok (.if_icmp .ge 21, 3) := by decide +kernel
theorem dJ1_indexOfChar_4cfef_13 : decode cJ1_indexOfChar_4cfef 13 = .ok (.aload_n 0, 1) := by decide +kernel
theorem dJ1_indexOfChar_4cfef_14 : decode cJ1_indexOfChar_4cfef 14 = .ok (.iload 5, 2) := by decide +kernel
theorem dJ1_indexOfChar_4cfef_16 : decode cJ1_indexOfChar_4cfef 16 = .ok (.baload, 1) := by decide +kernel
theorem dJ1_indexOfChar_4cfef_17 : decode cJ1_indexOfChar_4cfef 17 = .ok (.iload 4, 2) := by decide +kernel
theorem dJ1_indexOfChar_4cfef_19 : decode cJ1_indexOfChar_4cfef 19 = .ok (.if_icmp .ne 6, 3) := by decide +kernel
theorem dJ1_indexOfChar_4cfef_22 : decode cJ1_indexOfChar_4cfef 22 = .ok (.iload 5, 2) := by decide +kernel
theorem dJ1_indexOfChar_4cfef_24 : decode cJ1_indexOfChar_4cfef 24 = .ok (.ireturn, 1) := by decide +kernel
theorem dJ1_indexOfChar_4cfef_25 : decode cJ1_indexOfChar_4cfef 25 = .ok (.iinc 5 1, 3) := by decide +kernel
theorem dJ1_indexOfChar_4cfef_28 : decode cJ1_indexOfChar_4cfef 28 = .ok (.goto (-21), 3) := by decide +kernel
theorem dJ1_indexOfChar_4cfef_31 : decode cJ1_indexOfChar_4cfef 31 = .ok (.iconst (-1), 1) := by decide +kernel
theorem dJ1_indexOfChar_4cfef_32 : decode cJ1_indexOfChar_4cfef 32 = .ok (.ireturn, 1) := by decide +kernel
theorem dJ2_getChar_3b067_0 : decode cJ2_getChar_3b067 0 = .ok (.getstatic 44, 3) := by decide +kernel
theorem dJ2_getChar_3b067_3 : decode cJ2_getChar_3b067 3 = .ok (.ifCond .ne 25, 3) := by decide +kernel
theorem dJ2_getChar_3b067_6 : decode cJ2_getChar_3b067 6 = .ok (.iload_n 1, 1) := by decide +kernel
theorem dJ2_getChar_3b067_7 : decode cJ2_getChar_3b067 7 = .ok (.ifCond .lt 11, 3) := by decide +kernel
theorem dJ2_getChar_3b067_10 : decode cJ2_getChar_3b067 10 = .ok (.iload_n 1, 1) := by decide +kernel
theorem dJ2_getChar_3b067_11 : decode cJ2_getChar_3b067 11 = .ok (.aload_n 0, 1) := by decide +kernel
theorem dJ2_getChar_3b067_12 : decode cJ2_getChar_3b067 12 = .ok (.invokestatic 48, 3) := by decide +kernel
theorem dJ2_getChar_3b067_15 : decode cJ2_getChar_3b067 15 = .ok (.if_icmp .lt 13, 3) := by decide +kernel
theorem dJ2_getChar_3b067_18 : decode cJ2_getChar_3b067 18 = .ok (.new 52, 3) := by decide +kernel
theorem dJ2_getChar_3b067_21 : decode cJ2_getChar_3b067 21 = .ok (.dup, 1) := by decide +kernel
theorem dJ2_getChar_3b067_22 : decode cJ2_getChar_3b067 22 = .ok (.ldc 54, 2) := by decide +kernel
theorem dJ2_getChar_3b067_24 : decode cJ2_getChar_3b067 24 = .ok (.invokespecial 56, 3) := by decide +kernel
theorem dJ2_getChar_3b067_27 : decode cJ2_getChar_3b067 27 = .ok (.athrow, 1) := by decide +kernel
theorem dJ2_getChar_3b067_28 : decode cJ2_getChar_3b067 28 = .ok (.iload_n 1, 1) := by decide +kernel
theorem dJ2_getChar_3b067_29 : decode cJ2_getChar_3b067 29 = .ok (.iconst 1, 1) := by decide +kernel
theorem dJ2_getChar_3b067_30 : decode cJ2_getChar_3b067 30 = .ok (.ishl, 1) := by decide +kernel
theorem dJ2_getChar_3b067_31 : decode cJ2_getChar_3b067 31 = .ok (.istore_n 1, 1) := by decide +kernel
theorem dJ2_getChar_3b067_32 : decode cJ2_getChar_3b067 32 = .ok (.aload_n 0, 1) := by decide +kernel
theorem dJ2_getChar_3b067_33 : decode cJ2_getChar_3b067 33 = .ok (.iload_n 1, 1) := by decide +kernel
theorem dJ2_getChar_3b067_34 : decode cJ2_getChar_3b067 34 = .ok (.iinc 1 1, 3) := by decide +kernel
theorem dJ2_getChar_3b067_37 : decode cJ2_getChar_3b067 37 = .ok (.baload, 1) := by decide +kernel
theorem dJ2_getChar_3b067_38 : decode cJ2_getChar_3b067 38 = .ok (.sipush 255, 3) := by decide +kernel
theorem dJ2_getChar_3b067_41 : decode cJ2_getChar_3b067 41 = .ok (.iand, 1) := by decide +kernel
theorem dJ2_getChar_3b067_42 : decode cJ2_getChar_3b067 42 = .ok (.getstatic 59, 3) := by decide +kernel
theorem dJ2_getChar_3b067_45 : decode cJ2_getChar_3b067 45 = .ok (.ishl, 1) := by decide +kernel
theorem dJ2_getChar_3b067_46 : decode cJ2_getChar_3b067 46 = .ok (.aload_n 0, 1) := by decide +kernel
theorem dJ2_getChar_3b067_47 : decode cJ2_getChar_3b067 47 = .ok (.iload_n 1, 1) := by decide +kernel
theorem dJ2_getChar_3b067_48 : decode cJ2_getChar_3b067 48 = .ok (.baload, 1) := by decide +kernel
theorem dJ2_getChar_3b067_49 : decode cJ2_getChar_3b067 49 = .ok (.sipush 255, 3) := by decide +kernel
theorem dJ2_getChar_3b067_52 : decode cJ2_getChar_3b067 52 = .ok (.iand, 1) := by decide +kernel
theorem dJ2_getChar_3b067_53 : decode cJ2_getChar_3b067 53 = .ok (.getstatic 63, 3) := by decide +kernel
theorem dJ2_getChar_3b067_56 : decode cJ2_getChar_3b067 56 = .ok (.ishl, 1) := by decide +kernel
theorem dJ2_getChar_3b067_57 : decode cJ2_getChar_3b067 57 = .ok (.ior, 1) := by decide +kernel
theorem dJ2_getChar_3b067_58 : decode cJ2_getChar_3b067 58 = .ok (.i2c, 1) := by decide +kernel
theorem dJ2_getChar_3b067_59 : decode cJ2_getChar_3b067 59 = .ok (.ireturn, 1) := by decide +kernel
theorem dJ2_length_9d52b_0 : decode cJ2_length_9d52b 0 = .ok (.aload_n 0, 1) := by decide +kernel
theorem dJ2_length_9d52b_1 : decode cJ2_length_9d52b 1 = .ok (.arraylength, 1) := by decide +kernel
theorem dJ2_length_9d52b_2 : decode cJ2_length_9d52b 2 = .ok (.iconst 1, 1) := by decide +kernel
theorem dJ2_length_9d52b_3 : decode cJ2_length_9d52b 3 = .ok (.ishr, 1) := by decide +kernel
theorem dJ2_length_9d52b_4 : decode cJ2_length_9d52b 4 = .ok (.ireturn, 1) := by decide +kernel
theorem dJ2_indexOf_4cfef_0 : decode cJ2_indexOf_4cfef 0 = .ok (.iload_n 2, 1) := by decide +kernel
theorem dJ2_indexOf_4cfef_1 : decode cJ2_indexOf_4cfef 1 = .ok (.iconst 0, 1) := by decide +kernel
theorem dJ2_indexOf_4cfef_2 : decode cJ2_indexOf_4cfef 2 = .ok (.invokestatic 224, 3) := by decide +kernel
theorem dJ2_indexOf_4cfef_5 : decode cJ2_indexOf_4cfef 5 = .ok (.istore_n 2, 1) := by decide +kernel
theorem dJ2_indexOf_4cfef_6 : decode cJ2_indexOf_4cfef 6 = .ok (.iload_n 3, 1) := by decide +kernel
theorem dJ2_indexOf_4cfef_7 : decode cJ2_indexOf_4cfef 7 = .ok (.aload_n 0, 1) := by decide +kernel
theorem dJ2_indexOf_4cfef_8 : decode cJ2_indexOf_4cfef 8 = .ok (.arraylength, 1) := by decide +kernel
theorem dJ2_indexOf_4cfef_9 : decode cJ2_indexOf_4cfef 9 = .ok (.iconst 1, 1) := by decide +kernel
theorem dJ2_indexOf_4cfef_10 : decode cJ2_indexOf_4cfef 10 = .ok (.ishr, 1) := by decide +kernel
theorem dJ2_indexOf_4cfef_11 : decode cJ2_indexOf_4cfef 11 = .ok (.invokestatic 183, 3) := by decide +kernel
theorem dJ2_indexOf_4cfef_14 : decode cJ2_indexOf_4cfef 14 = .ok (.istore_n 3, 1) := by decide +kernel
theorem dJ2_indexOf_4cfef_15 : decode cJ2_indexOf_4cfef 15 = .ok (.iload_n 2, 1) := by decide +kernel
theorem dJ2_indexOf_4cfef_16 : decode cJ2_indexOf_4cfef 16 = .ok (.iload_n 3, 1) := by decide +kernel
theorem dJ2_indexOf_4cfef_17 : decode cJ2_indexOf_4cfef 17 = .ok (.if_icmp .lt 5, 3) := by decide +kernel
theorem dJ2_indexOf_4cfef_20 : decode cJ2_indexOf_4cfef 20 = .ok (.iconst (-1), 1) := by decide +kernel
theorem dJ2_indexOf_4cfef_21 : decode cJ2_indexOf_4cfef 21 = .ok (.ireturn, 1) := by decide +kernel
theorem dJ2_indexOf_4cfef_22 : decode cJ2_indexOf_4cfef 22 = .ok (.iload_n 1, 1) := by decide +kernel
theorem dJ2_indexOf_4cfef_23 : decode cJ2_indexOf_4cfef 23 = .ok (.ldc 227, 2) := by decide +kernel
theorem dJ2_indexOf_4cfef_25 : decode cJ2_indexOf_4cfef 25 = .ok (.if_icmp .ge 11, 3) := by decide +kernel
theorem dJ2_indexOf_4cfef_28 : decode cJ2_indexOf_4cfef 28 = .ok (.aload_n 0, 1) := by decide +kernel
theorem dJ2_indexOf_4cfef_29 : decode cJ2_indexOf_4cfef 29 = .ok (.iload_n 1, 1) := by decide +kernel
theorem dJ2_indexOf_4cfef_30 : decode cJ2_indexOf_4cfef 30 = .ok (.iload_n 2, 1) := by decide +kernel
theorem dJ2_indexOf_4cfef_31 : decode cJ2_indexOf_4cfef 31 = .ok (.iload_n 3, 1) := by decide +kernel
theorem dJ2_indexOf_4cfef_32 : decode cJ2_indexOf_4cfef 32 = .ok (.invokestatic 228, 3) := by decide +kernel
theorem dJ2_indexOf_4cfef_35 : decode cJ2_indexOf_4cfef 35 = .ok (.ireturn, 1) := by decide +kernel
theorem dJ2_indexOf_4cfef_36 : decode cJ2_indexOf_4cfef 36 = .ok (.aload_n 0, 1) := by decide +kernel
theorem dJ2_indexOf_4cfef_37 : decode cJ2_indexOf_4cfef 37 = .ok (.iload_n 1, 1) := by decide +kernel
theorem dJ2_indexOf_4cfef_38 : decode cJ2_indexOf_4cfef 38 = .ok (.iload_n 2, 1) := by decide +kernel
theorem dJ2_indexOf_4cfef_39 : decode cJ2_indexOf_4cfef 39 = .ok (.iload_n 3, 1) := by decide +kernel
theorem dJ2_indexOf_4cfef_40 : decode cJ2_indexOf_4cfef 40 = .ok (.invokestatic 232, 3) := by decide +kernel
theorem dJ2_indexOf_4cfef_43 : decode cJ2_indexOf_4cfef 43 = .ok (.ireturn, 1) := by decide +kernel
theorem dJ2_indexOfChar_4cfef_0 : decode cJ2_indexOfChar_4cfef 0 = .ok (.iload_n 2, 1) := by decide +kernel
theorem dJ2_indexOfChar_4cfef_1 : decode cJ2_indexOfChar_4cfef 1 = .ok (.iload_n 3, 1) := by decide +kernel
theorem dJ2_indexOfChar_4cfef_2 : decode cJ2_indexOfChar_4cfef 2 = .ok (.aload_n 0, 1) := by decide +kernel
theorem dJ2_indexOfChar_4cfef_3 : decode cJ2_indexOfChar_4cfef 3 = .ok (.invokestatic 96, 3) := by decide +kernel
theorem dJ2_indexOfChar_4cfef_6 : decode cJ2_indexOfChar_4cfef 6 = .ok (.aload_n 0, 1) := by decide +kernel
theorem dJ2_indexOfChar_4cfef_7 : decode cJ2_indexOfChar_4cfef 7 = .ok (.iload_n 1, 1) := by decide +kernel
theorem dJ2_indexOfChar_4cfef_8 : decode cJ2_indexOfChar_4cfef 8 = .ok (.iload_n 2, 1) := by decide +kernel
theorem dJ2_indexOfChar_4cfef_9 : decode cJ2_indexOfChar_4cfef 9 = .ok (.iload_n 3, 1) := by decide +kernel
theorem dJ2_indexOfChar_4cfef_10 : decode cJ2_indexOfChar_4cfef 10 = .ok (.invokestatic 244, 3) := by decide +kernel
theorem dJ2_indexOfChar_4cfef_13 : decode cJ2_indexOfChar_4cfef 13 = .ok (.ireturn, 1) := by decide +kernel
theorem dJ2_indexOfCharUnsafe_4cfef_0 : decode cJ2_indexOfCharUnsafe_4cfef 0 = .ok (.iload_n 2, 1) := by decide +kernel
theorem dJ2_indexOfCharUnsafe_4cfef_1 : decode cJ2_indexOfCharUnsafe_4cfef 1 = .ok (.istore 4, 2) := by decide +kernel
theorem dJ2_indexOfCharUnsafe_4cfef_3 : decode cJ2_indexOfCharUnsafe_4cfef 3 = .ok (.iload 4, 2) := by decide +kernel
theorem dJ2_indexOfCharUnsafe_4cfef_5 : decode cJ2_indexOfCharUnsafe_4cfef 5 = .ok (.iload_n 3, 1) := by decide +kernel
theorem dJ2_indexOfCharUnsafe_4cfef_6 : decode cJ2_indexOfCharUnsafe_4cfef 6 = .ok (.if_icmp .ge 22, 3) := by decide +kernel
theorem dJ2_indexOfCharUnsafe_4cfef_9 : decode cJ2_indexOfCharUnsafe_4cfef 9 = .ok (.aload_n 0, 1) := by decide +kernel
theorem dJ2_indexOfCharUnsafe_4cfef_10 : decode cJ2_indexOfCharUnsafe_4cfef 10 = .ok (.iload 4, 2) := by decide +kernel
theorem dJ2_indexOfCharUnsafe_4cfef_12 : decode cJ2_indexOfCharUnsafe_4cfef 12 = .ok (.invokestatic 71, 3) := by decide +kernel
theorem dJ2_indexOfCharUnsafe_4cfef_15 : decode cJ2_indexOfCharUnsafe_4cfef 15 = .ok (.iload_n 1, 1) := by decide +kernel
theorem dJ2_indexOfCharUnsafe_4cfef_16 : decode cJ2_indexOfCharUnsafe_4cfef 16 = .ok (.if_icmp .ne 6, 3) := by decide +kernel
theorem dJ2_indexOfCharUnsafe_4cfef_19 : decode cJ2_indexOfCharUnsafe_4cfef 19 = .ok (.iload 4, 2) := by decide +kernel
theorem dJ2_indexOfCharUnsafe_4cfef_21 : decode cJ2_indexOfCharUnsafe_4cfef 21 = .ok (.ireturn, 1) := by decide +kernel
theorem dJ2_indexOfCharUnsafe_4cfef_22 : decode cJ2_indexOfCharUnsafe_4cfef 22 = .ok (.iinc 4 1, 3) := by decide +kernel
theorem dJ2_indexOfCharUnsafe_4cfef_25 : decode cJ2_indexOfCharUnsafe_4cfef 25 = .ok (.goto (-22), 3) := by decide +kernel
theorem dJ2_indexOfCharUnsafe_4cfef_28 : decode cJ2_indexOfCharUnsafe_4cfef 28 = .ok (.iconst (-1), 1) := by decide +kernel
theorem dJ2_indexOfCharUnsafe_4cfef_29 : decode cJ2_indexOfCharUnsafe_4cfef 29 = .ok (.ireturn, 1) := by decide +kernel
theorem dJ2_indexOfSupplementary_4cfef_0 : decode cJ2_indexOfSupplementary_4cfef 0 = .ok (.iload_n 1, 1) := by decide +kernel
theorem dJ2_indexOfSupplementary_4cfef_1 : decode cJ2_indexOfSupplementary_4cfef 1 = .ok (.invokestatic 164, 3) := by decide +kernel
theorem dJ2_indexOfSupplementary_4cfef_4 : decode cJ2_indexOfSupplementary_4cfef 4 = .ok (.ifCond .eq 65, 3) := by decide +kernel
theorem dJ2_indexOfSupplementary_4cfef_7 : decode cJ2_indexOfSupplementary_4cfef 7 = .ok (.iload_n 1, 1) := by decide +kernel
theorem dJ2_indexOfSupplementary_4cfef_8 : decode cJ2_indexOfSupplementary_4cfef 8 = .ok (.invokestatic 157, 3) := by decide +kernel
theorem dJ2_indexOfSupplementary_4cfef_11 : decode cJ2_indexOfSupplementary_4cfef 11 = .ok (.istore 4, 2) := by decide +kernel
theorem dJ2_indexOfSupplementary_4cfef_13 : decode cJ2_indexOfSupplementary_4cfef 13 = .ok (.iload_n 1, 1) := by decide +kernel
theorem dJ2_indexOfSupplementary_4cfef_14 : decode cJ2_indexOfSupplementary_4cfef 14 = .ok (.invokestatic 161, 3) := by decide +kernel
theorem dJ2_indexOfSupplementary_4cfef_17 : decode cJ2_indexOfSupplementary_4cfef 17 = .ok (.istore 5, 2) := by decide +kernel
theorem dJ2_indexOfSupplementary_4cfef_19 : decode cJ2_indexOfSupplementary_4cfef 19 = .ok (.iload_n 2, 1) := by decide +kernel
theorem dJ2_indexOfSupplementary_4cfef_20 : decode cJ2_indexOfSupplementary_4cfef 20 = .ok (.iload_n 3, 1) := by decide +kernel
theorem dJ2_indexOfSupplementary_4cfef_21 : decode cJ2_indexOfSupplementary_4cfef 21 = .ok (.aload_n 0, 1) := by decide +kernel
theorem dJ2_indexOfSupplementary_4cfef_22 : decode cJ2_indexOfSupplementary_4cfef 22 = .ok (.invokestatic 96, 3) := by decide +kernel
theorem dJ2_indexOfSupplementary_4cfef_25 : decode cJ2_indexOfSupplementary_4cfef 25 = .ok (.iload_n 2, 1) := by decide +kernel
theorem dJ2_indexOfSupplementary_4cfef_26 : decode cJ2_indexOfSupplementary_4cfef 26 = .ok (.istore 6, 2) := by decide +kernel
theorem dJ2_indexOfSupplementary_4cfef_28 : decode cJ2_indexOfSupplementary_4cfef 28 = .ok (.iload 6, 2) := by decide +kernel
theorem dJ2_indexOfSupplementary_4cfef_30 : decode cJ2_indexOfSupplementary_4cfef 30 = .ok (.iload_n 3, 1) := by decide +kernel
theorem dJ2_indexOfSupplementary_4cfef_31 : decode cJ2_indexOfSupplementary_4cfef 31 = .ok (.iconst 1, 1) := by decide +kernel
theorem dJ2_indexOfSupplementary_4cfef_32 : decode cJ2_indexOfSupplementary_4cfef 32 = .ok (.isub, 1) := by decide +kernel
theorem dJ2_indexOfSupplementary_4cfef_33 : decode cJ2_indexOfSupplementary_4cfef 33 = .ok (.if_icmp .ge 36, 3) := by decide +kernel
theorem dJ2_indexOfSupplementary_4cfef_36 : decode cJ2_indexOfSupplementary_4cfef 36 = .ok (.aload_n 0, 1) := by decide +kernel
theorem dJ2_indexOfSupplementary_4cfef_37 : decode cJ2_indexOfSupplementary_4cfef 37 = .ok (.iload 6, 2) := by decide +kernel
theorem dJ2_indexOfSupplementary_4cfef_39 : decode cJ2_indexOfSupplementary_4cfef 39 = .ok (.invokestatic 71, 3) := by decide +kernel
theorem dJ2_indexOfSupplementary_4cfef_42 : decode cJ2_indexOfSupplementary_4cfef 42 = .ok (.iload 4, 2) := by decide +kernel
theorem dJ2_indexOfSupplementary_4cfef_44 : decode cJ2_indexOfSupplementary_4cfef 44 = .ok (.if_icmp .ne 19, 3) := by decide +kernel
theorem dJ2_indexOfSupplementary_4cfef_47 : decode cJ2_indexOfSupplementary_4cfef 47 = .ok (.aload_n 0, 1) := by decide +kernel
theorem dJ2_indexOfSupplementary_4cfef_48 : decode cJ2_indexOfSupplementary_4cfef 48 = .ok (.iload 6, 2) := by decide +kernel
theorem dJ2_indexOfSupplementary_4cfef_50 : decode cJ2_indexOfSupplementary_4cfef 50 = .ok (.iconst 1, 1) := by decide +kernel
theorem dJ2_indexOfSupplementary_4cfef_51 : decode cJ2_indexOfSupplementary_4cfef 51 = .ok (.iadd, 1) := by decide +kernel
theorem dJ2_indexOfSupplementary_4cfef_52 : decode cJ2_indexOfSupplementary_4cfef 52 = .ok (.invokestatic 71, 3) := by decide +kernel
theorem dJ2_indexOfSupplementary_4cfef_55 : decode cJ2_indexOfSupplementary_4cfef 55 = .ok (.iload 5, 2) := by decide +kernel
theorem dJ2_indexOfSupplementary_4cfef_57 : decode cJ2_indexOfSupplementary_4cfef 57 = .ok (.if_icmp .ne 6, 3) := by decide +kernel
theorem dJ2_indexOfSupplementary_4cfef_60 : decode cJ2_indexOfSupplementary_4cfef 60 = .ok (.iload 6, 2) := by decide +kernel
theorem dJ2_indexOfSupplementary_4cfef_62 : decode cJ2_indexOfSupplementary_4cfef 62 = .ok (.ireturn, 1) := by decide +kernel
theorem dJ2_indexOfSupplementary_4cfef_63 : decode cJ2_indexOfSupplementary_4cfef 63 = .ok (.iinc 6 1, 3) := by decide +kernel
theorem dJ2_indexOfSupplementary_4cfef_66 : decode cJ2_indexOfSupplementary_4cfef 66 = .ok (.goto (-38), 3) := by decide +kernel
theorem dJ2_indexOfSupplementary_4cfef_69 : decode cJ2_indexOfSupplementary_4cfef 69 = .ok (.iconst (-1), 1) := by decide +kernel
theorem dJ2_indexOfSupplementary_4cfef_70 : decode cJ2_indexOfSupplementary_4cfef 70 = .ok (.ireturn, 1) := by decide +kernel
theorem dJ2_charAt_3b067_0 : decode cJ2_charAt_3b067 0 = .ok (.iload_n 1, 1) := by decide +kernel
theorem dJ2_charAt_3b067_1 : decode cJ2_charAt_3b067 1 = .ok (.aload_n 0, 1) := by decide +kernel
theorem dJ2_charAt_3b067_2 : decode cJ2_charAt_3b067 2 = .ok (.invokestatic 67, 3) := by decide +kernel
theorem dJ2_charAt_3b067_5 : decode cJ2_charAt_3b067 5 = .ok (.aload_n 0, 1) := by decide +kernel
theorem dJ2_charAt_3b067_6 : decode cJ2_charAt_3b067 6 = .ok (.iload_n 1, 1) := by decide +kernel
theorem dJ2_charAt_3b067_7 : decode cJ2_charAt_3b067 7 = .ok (.invokestatic 71, 3) := by decide +kernel
theorem dJ2_charAt_3b067_10 : decode cJ2_charAt_3b067 10 = .ok (.ireturn, 1) := by decide +kernel
theorem dJ2_checkIndex_2214a_0 : decode cJ2_checkIndex_2214a 0 = .ok (.iload_n 0, 1) := by decide +kernel
theorem dJ2_checkIndex_2214a_1 : decode cJ2_checkIndex_2214a 1 = .ok (.aload_n 1, 1) := by decide +kernel
theorem dJ2_checkIndex_2214a_2 : decode cJ2_checkIndex_2214a 2 = .ok (.invokestatic 48, 3) := by decide +kernel
theorem dJ2_checkIndex_2214a_5 : decode cJ2_checkIndex_2214a 5 = .ok (.invokestatic 414, 3) := by decide +kernel
theorem dJ2_checkIndex_2214a_8 : decode cJ2_checkIndex_2214a 8 = .ok (.return_, 1) := by decide +kernel
theorem dJ2_checkBoundsBeginEnd_d044e_0 : decode cJ2_checkBoundsBeginEnd_d044e 0 = .ok (.iload_n 0, 1) := by decide +kernel
theorem dJ2_checkBoundsBeginEnd_d044e_1 : decode cJ2_checkBoundsBeginEnd_d044e 1 = .ok (.iload_n 1, 1) := by decide +kernel
theorem dJ2_checkBoundsBeginEnd_d044e_2 : decode cJ2_checkBoundsBeginEnd_d044e 2 = .ok (.aload_n 2, 1) := by decide +kernel
theorem dJ2_checkBoundsBeginEnd_d044e_3 : decode cJ2_checkBoundsBeginEnd_d044e 3 = .ok (.invokestatic 48, 3) := by decide +kernel
theorem dJ2_checkBoundsBeginEnd_d044e_6 : decode cJ2_checkBoundsBeginEnd_d044e 6 = .ok (.invokestatic 241, 3) := by decide +kernel
theorem dJ2_checkBoundsBeginEnd_d044e_9 : decode cJ2_checkBoundsBeginEnd_d044e 9 = .ok (.return_, 1) := by decide +kernel
theorem dJ3_checkIndex_8e157_0 : decode cJ3_checkIndex_8e157 0 = .ok (.iload_n 0, 1) := by decide +kernel
theorem dJ3_checkIndex_8e157_1 : decode cJ3_checkIndex_8e157 1 = .ok (.ifCond .lt 8, 3) := by decide +kernel
theorem dJ3_checkIndex_8e157_4 : decode cJ3_checkIndex_8e157 4 = .ok (.iload_n 0, 1) := by decide +kernel
theorem dJ3_checkIndex_8e157_5 : decode cJ3_checkIndex_8e157 5 = .ok (.iload_n 1, 1) := by decide +kernel
theorem dJ3_checkIndex_8e157_6 : decode cJ3_checkIndex_8e157 6 = .ok (.if_icmp .lt 10, 3) := by decide +kernel
theorem dJ3_checkIndex_8e157_9 : decode cJ3_checkIndex_8e157 9 = .ok (.aload_n 2, 1) := by decide +kernel
theorem dJ3_checkIndex_8e157_10 : decode cJ3_checkIndex_8e157 10 = .ok (.iload_n 0, 1) := by decide +kernel
theorem dJ3_checkIndex_8e157_11 : decode cJ3_checkIndex_8e157 11 = .ok (.iload_n 1, 1) := by decide +kernel
theorem dJ3_checkIndex_8e157_12 : decode cJ3_checkIndex_8e157 12 = .ok (.invokestatic 95, 3) := by decide +kernel
theorem dJ3_checkIndex_8e157_15 : decode cJ3_checkIndex_8e157 15 = .ok (.athrow, 1) := by decide +kernel
theorem dJ3_checkIndex_8e157_16 : decode cJ3_checkIndex_8e157 16 = .ok (.iload_n 0, 1) := by decide +kernel
theorem dJ3_checkIndex_8e157_17 : decode cJ3_checkIndex_8e157 17 = .ok (.ireturn, 1) := by decide +kernel
theorem dJ3_checkFromToIndex_8c36e_0 : decode cJ3_checkFromToIndex_8c36e 0 = .ok (.iload_n 0, 1) := by decide +kernel
theorem dJ3_checkFromToIndex_8c36e_1 : decode cJ3_checkFromToIndex_8c36e 1 = .ok (.ifCond .lt 13, 3) := by decide +kernel
theorem dJ3_checkFromToIndex_8c36e_4 : decode cJ3_checkFromToIndex_8c36e 4 = .ok (.iload_n 0, 1) := by decide +kernel
theorem dJ3_checkFromToIndex_8c36e_5 : decode cJ3_checkFromToIndex_8c36e 5 = .ok (.iload_n 1, 1) := by decide +kernel
theorem dJ3_checkFromToIndex_8c36e_6 : decode cJ3_checkFromToIndex_8c36e 6 = .ok (.if_icmp .gt 8, 3) := by decide +kernel
theorem dJ3_checkFromToIndex_8c36e_9 : decode cJ3_checkFromToIndex_8c36e 9 = .ok (.iload_n 1, 1) := by decide +kernel
theorem dJ3_checkFromToIndex_8c36e_10 : decode cJ3_checkFromToIndex_8c36e 10 = .ok (.iload_n 2, 1) := by decide +kernel
theorem dJ3_checkFromToIndex_8c36e_11 : decode cJ3_checkFromToIndex_8c36e 11 = .ok (.if_icmp .le 11, 3) := by decide +kernel
theorem dJ3_checkFromToIndex_8c36e_14 : decode cJ3_checkFromToIndex_8c36e 14 = .ok (.aload_n 3, 1) := by decide +kernel
theorem dJ3_checkFromToIndex_8c36e_15 : decode cJ3_checkFromToIndex_8c36e 15 = .ok (.iload_n 0, 1) := by decide +kernel
theorem dJ3_checkFromToIndex_8c36e_16 : decode cJ3_checkFromToIndex_8c36e 16 = .ok (.iload_n 1, 1) := by decide +kernel
theorem dJ3_checkFromToIndex_8c36e_17 : decode cJ3_checkFromToIndex_8c36e 17 = .ok (.iload_n 2, 1) := by decide +kernel
theorem dJ3_checkFromToIndex_8c36e_18 : decode cJ3_checkFromToIndex_8c36e 18 = .ok (.invokestatic 99, 3) := by decide +kernel
theorem dJ3_checkFromToIndex_8c36e_21 : decode cJ3_checkFromToIndex_8c36e 21 = .ok (.athrow, 1) := by decide +kernel
theorem dJ3_checkFromToIndex_8c36e_22 : decode cJ3_checkFromToIndex_8c36e 22 = .ok (.iload_n 0, 1) := by decide +kernel
theorem dJ3_checkFromToIndex_8c36e_23 : decode cJ3_checkFromToIndex_8c36e 23 = .ok (.ireturn, 1) := by decide +kernel
