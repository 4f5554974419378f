theorem dX2_init_0 : decode cX2_init 0 = .ok (.aload_n 0, 1) := by decide +kernel
theorem dX2_init_1 : decode cX2_init 1 = .ok (.invokespecial 1, 3) := by decide +kernel
theorem dX2_init_4 : decode cX2_init 4 = .ok (.aload_n 0, 1) := by decide +kernel
theorem dX2_init_5 : decode cX2_init 5 = .ok (.bipush 12, 2) := by decide +kernel
theorem dX2_init_7 : decode cX2_init 7 = .ok (.newarray .int, 2) := by decide +kernel
theorem dX2_init_9 : decode cX2_init 9 = .ok (.putfield 7, 3) := by decide +kernel
theorem dX2_init_12 : decode cX2_init 12 = .ok (.aload_n 0, 1) := by decide +kernel
theorem dX2_init_13 : decode cX2_init 13 = .ok (.sipush 300, 3) := by decide +kernel
theorem dX2_init_16 : decode cX2_init 16 = .ok (.newarray .int, 2) := by decide +kernel
theorem dX2_init_18 : decode cX2_init 18 = .ok (.putfield 13, 3) := by decide +kernel
theorem dX2_init_21 : decode cX2_init 21 = .ok (.aload_n 0, 1) := by decide +kernel
theorem dX2_init_22 : decode cX2_init 22 = .ok (.sipush 300, 3) := by decide +kernel
theorem dX2_init_25 : decode cX2_init 25 = .ok (.newarray .int, 2) := by decide +kernel
theorem dX2_init_27 : decode cX2_init 27 = .ok (.putfield 16, 3) := by decide +kernel
theorem dX2_init_30 : decode cX2_init 30 = .ok (.aload_n 0, 1) := by decide +kernel
theorem dX2_init_31 : decode cX2_init 31 = .ok (.sipush 7200, 3) := by decide +kernel
theorem dX2_init_34 : decode cX2_init 34 = .ok (.newarray .long, 2) := by decide +kernel
theorem dX2_init_36 : decode cX2_init 36 = .ok (.putfield 19, 3) := by decide +kernel
theorem dX2_init_39 : decode cX2_init 39 = .ok (.aload_n 0, 1) := by decide +kernel
theorem dX2_init_40 : decode cX2_init 40 = .ok (.bipush 24, 2) := by decide +kernel
theorem dX2_init_42 : decode cX2_init 42 = .ok (.newarray .long, 2) := by decide +kernel
theorem dX2_init_44 : decode cX2_init 44 = .ok (.putfield 23, 3) := by decide +kernel
theorem dX2_init_47 : decode cX2_init 47 = .ok (.aload_n 0, 1) := by decide +kernel
theorem dX2_init_48 : decode cX2_init 48 = .ok (.bipush 60, 2) := by decide +kernel
theorem dX2_init_50 : decode cX2_init 50 = .ok (.newarray .int, 2) := by decide +kernel
theorem dX2_init_52 : decode cX2_init 52 = .ok (.putfield 26, 3) := by decide +kernel
theorem dX2_init_55 : decode cX2_init 55 = .ok (.aload_n 0, 1) := by decide +kernel
theorem dX2_init_56 : decode cX2_init 56 = .ok (.bipush 60, 2) := by decide +kernel
theorem dX2_init_58 : decode cX2_init 58 = .ok (.newarray .int, 2) := by decide +kernel
theorem dX2_init_60 : decode cX2_init 60 = .ok (.putfield 29, 3) := by decide +kernel
theorem dX2_init_63 : decode cX2_init 63 = .ok (.aload_n 0, 1) := by decide +kernel
theorem dX2_init_64 : decode cX2_init 64 = .ok (.bipush 6, 2) := by decide +kernel
theorem dX2_init_66 : decode cX2_init 66 = .ok (.newarray .int, 2) := by decide +kernel
theorem dX2_init_68 : decode cX2_init 68 = .ok (.putfield 32, 3) := by decide +kernel
theorem dX2_init_71 : decode cX2_init 71 = .ok (.iconst 0, 1) := by decide +kernel
theorem dX2_init_72 : decode cX2_init 72 = .ok (.istore_n 1, 1) := by decide +kernel
theorem dX2_init_73 : decode cX2_init 73 = .ok (.iload_n 1, 1) := by decide +kernel
theorem dX2_init_74 : decode cX2_init 74 = .ok (.bipush 12, 2) := by decide +kernel
theorem dX2_init_76 : decode cX2_init 76 = .ok (.if_icmp .ge 16, 3) := by decide +kernel
theorem dX2_init_79 : decode cX2_init 79 = .ok (.aload_n 0, 1) := by decide +kernel
theorem dX2_init_80 : decode cX2_init 80 = .ok (.getfield 7, 3) := by decide +kernel
theorem dX2_init_83 : decode cX2_init 83 = .ok (.iload_n 1, 1) := by decide +kernel
theorem dX2_init_84 : decode cX2_init 84 = .ok (.iconst (-1), 1) := by decide +kernel
theorem dX2_init_85 : decode cX2_init 85 = .ok (.iastore, 1) := by decide +kernel
theorem dX2_init_86 : decode cX2_init 86 = .ok (.iinc 1 1, 3) := by decide +kernel
theorem dX2_init_89 : decode cX2_init 89 = .ok (.goto (-16), 3) := by decide +kernel
theorem dX2_init_92 : decode cX2_init 92 = .ok (.return_, 1) := by decide +kernel
theorem dX2_thrown_0 : decode cX2_thrown 0 = .ok (.aload_n 0, 1) := by decide +kernel
theorem dX2_thrown_1 : decode cX2_thrown 1 = .ok (.getfield 35, 3) := by decide +kernel
theorem dX2_thrown_4 : decode cX2_thrown 4 = .ok (.ireturn, 1) := by decide +kernel
theorem dX2_fail_0 : decode cX2_fail 0 = .ok (.aload_n 0, 1) := by decide +kernel
theorem dX2_fail_1 : decode cX2_fail 1 = .ok (.iload_n 1, 1) := by decide +kernel
theorem dX2_fail_2 : decode cX2_fail 2 = .ok (.putfield 35, 3) := by decide +kernel
theorem dX2_fail_5 : decode cX2_fail 5 = .ok (.iconst 0, 1) := by decide +kernel
theorem dX2_fail_6 : decode cX2_fail 6 = .ok (.ireturn, 1) := by decide +kernel
theorem dX2_isBox_0 : decode cX2_isBox 0 = .ok (.iload_n 0, 1) := by decide +kernel
theorem dX2_isBox_1 : decode cX2_isBox 1 = .ok (.ifCond .lt 13, 3) := by decide +kernel
theorem dX2_isBox_4 : decode cX2_isBox 4 = .ok (.iload_n 0, 1) := by decide +kernel
theorem dX2_isBox_5 : decode cX2_isBox 5 = .ok (.bipush 12, 2) := by decide +kernel
theorem dX2_isBox_7 : decode cX2_isBox 7 = .ok (.if_icmp .ge 7, 3) := by decide +kernel
theorem dX2_isBox_10 : decode cX2_isBox 10 = .ok (.iconst 1, 1) := by decide +kernel
theorem dX2_isBox_11 : decode cX2_isBox 11 = .ok (.goto 4, 3) := by decide +kernel
theorem dX2_isBox_14 : decode cX2_isBox 14 = .ok (.iconst 0, 1) := by decide +kernel
theorem dX2_isBox_15 : decode cX2_isBox 15 = .ok (.ireturn, 1) := by decide +kernel
theorem dX2_isOfCombs_0 : decode cX2_isOfCombs 0 = .ok (.iload_n 0, 1) := by decide +kernel
theorem dX2_isOfCombs_1 : decode cX2_isOfCombs 1 = .ok (.iconst 3, 1) := by decide +kernel
theorem dX2_isOfCombs_2 : decode cX2_isOfCombs 2 = .ok (.if_icmp .le 13, 3) := by decide +kernel
theorem dX2_isOfCombs_5 : decode cX2_isOfCombs 5 = .ok (.iload_n 0, 1) := by decide +kernel
theorem dX2_isOfCombs_6 : decode cX2_isOfCombs 6 = .ok (.bipush 8, 2) := by decide +kernel
theorem dX2_isOfCombs_8 : decode cX2_isOfCombs 8 = .ok (.if_icmp .ge 7, 3) := by decide +kernel
theorem dX2_isOfCombs_11 : decode cX2_isOfCombs 11 = .ok (.iconst 1, 1) := by decide +kernel
theorem dX2_isOfCombs_12 : decode cX2_isOfCombs 12 = .ok (.goto 4, 3) := by decide +kernel
theorem dX2_isOfCombs_15 : decode cX2_isOfCombs 15 = .ok (.iconst 0, 1) := by decide +kernel
theorem dX2_isOfCombs_16 : decode cX2_isOfCombs 16 = .ok (.ireturn, 1) := by decide +kernel
theorem dX2_what_0 : decode cX2_what 0 = .ok (.aload_n 0, 1) := by decide +kernel
theorem dX2_what_1 : decode cX2_what 1 = .ok (.getfield 7, 3) := by decide +kernel
theorem dX2_what_4 : decode cX2_what 4 = .ok (.iload_n 1, 1) := by decide +kernel
theorem dX2_what_5 : decode cX2_what 5 = .ok (.iaload, 1) := by decide +kernel
theorem dX2_what_6 : decode cX2_what 6 = .ok (.istore_n 2, 1) := by decide +kernel
theorem dX2_what_7 : decode cX2_what 7 = .ok (.iload_n 2, 1) := by decide +kernel
theorem dX2_what_8 : decode cX2_what 8 = .ok (.iconst (-1), 1) := by decide +kernel
theorem dX2_what_9 : decode cX2_what 9 = .ok (.if_icmp .ne 7, 3) := by decide +kernel
theorem dX2_what_12 : decode cX2_what 12 = .ok (.iconst (-1), 1) := by decide +kernel
theorem dX2_what_13 : decode cX2_what 13 = .ok (.goto 20, 3) := by decide +kernel
theorem dX2_what_16 : decode cX2_what 16 = .ok (.iload_n 2, 1) := by decide +kernel
theorem dX2_what_17 : decode cX2_what 17 = .ok (.bipush (-2), 2) := by decide +kernel
theorem dX2_what_19 : decode cX2_what 19 = .ok (.if_icmp .ne 8, 3) := by decide +kernel
theorem dX2_what_22 : decode cX2_what 22 = .ok (.bipush 8, 2) := by decide +kernel
theorem dX2_what_24 : decode cX2_what 24 = .ok (.goto 9, 3) := by decide +kernel
theorem dX2_what_27 : decode cX2_what 27 = .ok (.aload_n 0, 1) := by decide +kernel
theorem dX2_what_28 : decode cX2_what 28 = .ok (.getfield 13, 3) := by decide +kernel
theorem dX2_what_31 : decode cX2_what 31 = .ok (.iload_n 2, 1) := by decide +kernel
theorem dX2_what_32 : decode cX2_what 32 = .ok (.iaload, 1) := by decide +kernel
theorem dX2_what_33 : decode cX2_what 33 = .ok (.ireturn, 1) := by decide +kernel
theorem dX2_hasRow_0 : decode cX2_hasRow 0 = .ok (.aload_n 0, 1) := by decide +kernel
theorem dX2_hasRow_1 : decode cX2_hasRow 1 = .ok (.getfield 7, 3) := by decide +kernel
theorem dX2_hasRow_4 : decode cX2_hasRow 4 = .ok (.iload_n 1, 1) := by decide +kernel
theorem dX2_hasRow_5 : decode cX2_hasRow 5 = .ok (.iaload, 1) := by decide +kernel
theorem dX2_hasRow_6 : decode cX2_hasRow 6 = .ok (.ifCond .lt 7, 3) := by decide +kernel
theorem dX2_hasRow_9 : decode cX2_hasRow 9 = .ok (.iconst 1, 1) := by decide +kernel
theorem dX2_hasRow_10 : decode cX2_hasRow 10 = .ok (.goto 4, 3) := by decide +kernel
theorem dX2_hasRow_13 : decode cX2_hasRow 13 = .ok (.iconst 0, 1) := by decide +kernel
theorem dX2_hasRow_14 : decode cX2_hasRow 14 = .ok (.ireturn, 1) := by decide +kernel
theorem dX2_isPlace_0 : decode cX2_isPlace 0 = .ok (.iload_n 2, 1) := by decide +kernel
theorem dX2_isPlace_1 : decode cX2_isPlace 1 = .ok (.ifCond .lt 22, 3) := by decide +kernel
theorem dX2_isPlace_4 : decode cX2_isPlace 4 = .ok (.iload_n 2, 1) := by decide +kernel
theorem dX2_isPlace_5 : decode cX2_isPlace 5 = .ok (.aload_n 0, 1) := by decide +kernel
theorem dX2_isPlace_6 : decode cX2_isPlace 6 = .ok (.getfield 16, 3) := by decide +kernel
theorem dX2_isPlace_9 : decode cX2_isPlace 9 = .ok (.aload_n 0, 1) := by decide +kernel
theorem dX2_isPlace_10 : decode cX2_isPlace 10 = .ok (.getfield 7, 3) := by decide +kernel
theorem dX2_isPlace_13 : decode cX2_isPlace 13 = .ok (.iload_n 1, 1) := by decide +kernel
theorem dX2_isPlace_14 : decode cX2_isPlace 14 = .ok (.iaload, 1) := by decide +kernel
theorem dX2_isPlace_15 : decode cX2_isPlace 15 = .ok (.iaload, 1) := by decide +kernel
theorem dX2_isPlace_16 : decode cX2_isPlace 16 = .ok (.if_icmp .ge 7, 3) := by decide +kernel
theorem dX2_isPlace_19 : decode cX2_isPlace 19 = .ok (.iconst 1, 1) := by decide +kernel
theorem dX2_isPlace_20 : decode cX2_isPlace 20 = .ok (.goto 4, 3) := by decide +kernel
theorem dX2_isPlace_23 : decode cX2_isPlace 23 = .ok (.iconst 0, 1) := by decide +kernel
theorem dX2_isPlace_24 : decode cX2_isPlace 24 = .ok (.ireturn, 1) := by decide +kernel
theorem dX2_takes_0 : decode cX2_takes 0 = .ok (.iload_n 0, 1) := by decide +kernel
theorem dX2_takes_1 : decode cX2_takes 1 = .ok (.iconst 4, 1) := by decide +kernel
theorem dX2_takes_2 : decode cX2_takes 2 = .ok (.if_icmp .eq 40, 3) := by decide +kernel
theorem dX2_takes_5 : decode cX2_takes 5 = .ok (.iload_n 0, 1) := by decide +kernel
theorem dX2_takes_6 : decode cX2_takes 6 = .ok (.iconst 5, 1) := by decide +kernel
theorem dX2_takes_7 : decode cX2_takes 7 = .ok (.if_icmp .ne 13, 3) := by decide +kernel
theorem dX2_takes_10 : decode cX2_takes 10 = .ok (.iload_n 1, 1) := by decide +kernel
theorem dX2_takes_11 : decode cX2_takes 11 = .ok (.iconst 1, 1) := by decide +kernel
theorem dX2_takes_12 : decode cX2_takes 12 = .ok (.if_icmp .eq 30, 3) := by decide +kernel
theorem dX2_takes_15 : decode cX2_takes 15 = .ok (.iload_n 1, 1) := by decide +kernel
theorem dX2_takes_16 : decode cX2_takes 16 = .ok (.iconst 3, 1) := by decide +kernel
theorem dX2_takes_17 : decode cX2_takes 17 = .ok (.if_icmp .eq 25, 3) := by decide +kernel
theorem dX2_takes_20 : decode cX2_takes 20 = .ok (.iload_n 0, 1) := by decide +kernel
theorem dX2_takes_21 : decode cX2_takes 21 = .ok (.bipush 6, 2) := by decide +kernel
theorem dX2_takes_23 : decode cX2_takes 23 = .ok (.if_icmp .ne 8, 3) := by decide +kernel
theorem dX2_takes_26 : decode cX2_takes 26 = .ok (.iload_n 1, 1) := by decide +kernel
theorem dX2_takes_27 : decode cX2_takes 27 = .ok (.iconst 2, 1) := by decide +kernel
theorem dX2_takes_28 : decode cX2_takes 28 = .ok (.if_icmp .eq 14, 3) := by decide +kernel
theorem dX2_takes_31 : decode cX2_takes 31 = .ok (.iload_n 0, 1) := by decide +kernel
theorem dX2_takes_32 : decode cX2_takes 32 = .ok (.bipush 7, 2) := by decide +kernel
theorem dX2_takes_34 : decode cX2_takes 34 = .ok (.if_icmp .ne 12, 3) := by decide +kernel
theorem dX2_takes_37 : decode cX2_takes 37 = .ok (.iload_n 1, 1) := by decide +kernel
theorem dX2_takes_38 : decode cX2_takes 38 = .ok (.iconst 3, 1) := by decide +kernel
theorem dX2_takes_39 : decode cX2_takes 39 = .ok (.if_icmp .ne 7, 3) := by decide +kernel
theorem dX2_takes_42 : decode cX2_takes 42 = .ok (.iconst 1, 1) := by decide +kernel
theorem dX2_takes_43 : decode cX2_takes 43 = .ok (.goto 4, 3) := by decide +kernel
theorem dX2_takes_46 : decode cX2_takes 46 = .ok (.iconst 0, 1) := by decide +kernel
theorem dX2_takes_47 : decode cX2_takes 47 = .ok (.ireturn, 1) := by decide +kernel
theorem dX2_cut_0 : decode cX2_cut 0 = .ok (.iload_n 0, 1) := by decide +kernel
theorem dX2_cut_1 : decode cX2_cut 1 = .ok (.ifCond .ne 9, 3) := by decide +kernel
theorem dX2_cut_4 : decode cX2_cut 4 = .ok (.lload_n 1, 1) := by decide +kernel
theorem dX2_cut_5 : decode cX2_cut 5 = .ok (.l2i, 1) := by decide +kernel
theorem dX2_cut_6 : decode cX2_cut 6 = .ok (.i2l, 1) := by decide +kernel
theorem dX2_cut_7 : decode cX2_cut 7 = .ok (.goto 28, 3) := by decide +kernel
theorem dX2_cut_10 : decode cX2_cut 10 = .ok (.iload_n 0, 1) := by decide +kernel
theorem dX2_cut_11 : decode cX2_cut 11 = .ok (.iconst 1, 1) := by decide +kernel
theorem dX2_cut_12 : decode cX2_cut 12 = .ok (.if_icmp .ne 7, 3) := by decide +kernel
theorem dX2_cut_15 : decode cX2_cut 15 = .ok (.lload_n 1, 1) := by decide +kernel
theorem dX2_cut_16 : decode cX2_cut 16 = .ok (.goto 19, 3) := by decide +kernel
theorem dX2_cut_19 : decode cX2_cut 19 = .ok (.iload_n 0, 1) := by decide +kernel
theorem dX2_cut_20 : decode cX2_cut 20 = .ok (.iconst 2, 1) := by decide +kernel
theorem dX2_cut_21 : decode cX2_cut 21 = .ok (.if_icmp .ne 10, 3) := by decide +kernel
theorem dX2_cut_24 : decode cX2_cut 24 = .ok (.lload_n 1, 1) := by decide +kernel
theorem dX2_cut_25 : decode cX2_cut 25 = .ok (.l2i, 1) := by decide +kernel
theorem dX2_cut_26 : decode cX2_cut 26 = .ok (.i2s, 1) := by decide +kernel
theorem dX2_cut_27 : decode cX2_cut 27 = .ok (.i2l, 1) := by decide +kernel
theorem dX2_cut_28 : decode cX2_cut 28 = .ok (.goto 7, 3) := by decide +kernel
theorem dX2_cut_31 : decode cX2_cut 31 = .ok (.lload_n 1, 1) := by decide +kernel
theorem dX2_cut_32 : decode cX2_cut 32 = .ok (.l2i, 1) := by decide +kernel
theorem dX2_cut_33 : decode cX2_cut 33 = .ok (.i2b, 1) := by decide +kernel
theorem dX2_cut_34 : decode cX2_cut 34 = .ok (.i2l, 1) := by decide +kernel
theorem dX2_cut_35 : decode cX2_cut 35 = .ok (.lreturn, 1) := by decide +kernel
theorem dX2_row_0 : decode cX2_row 0 = .ok (.aload_n 0, 1) := by decide +kernel
theorem dX2_row_1 : decode cX2_row 1 = .ok (.iconst 0, 1) := by decide +kernel
theorem dX2_row_2 : decode cX2_row 2 = .ok (.putfield 35, 3) := by decide +kernel
theorem dX2_row_5 : decode cX2_row 5 = .ok (.iload_n 1, 1) := by decide +kernel
theorem dX2_row_6 : decode cX2_row 6 = .ok (.invokestatic 39, 3) := by decide +kernel
theorem dX2_row_9 : decode cX2_row 9 = .ok (.ifCond .ne 17, 3) := by decide +kernel
theorem dX2_row_12 : decode cX2_row 12 = .ok (.aload_n 0, 1) := by decide +kernel
theorem dX2_row_13 : decode cX2_row 13 = .ok (.iconst 1, 1) := by decide +kernel
theorem dX2_row_14 : decode cX2_row 14 = .ok (.invokevirtual 43, 3) := by decide +kernel
theorem dX2_row_17 : decode cX2_row 17 = .ok (.ifCond .le 7, 3) := by decide +kernel
theorem dX2_row_20 : decode cX2_row 20 = .ok (.iconst 1, 1) := by decide +kernel
theorem dX2_row_21 : decode cX2_row 21 = .ok (.goto 4, 3) := by decide +kernel
theorem dX2_row_24 : decode cX2_row 24 = .ok (.iconst 0, 1) := by decide +kernel
theorem dX2_row_25 : decode cX2_row 25 = .ok (.ireturn, 1) := by decide +kernel
theorem dX2_row_26 : decode cX2_row 26 = .ok (.iload_n 2, 1) := by decide +kernel
theorem dX2_row_27 : decode cX2_row 27 = .ok (.ifCond .lt 19, 3) := by decide +kernel
theorem dX2_row_30 : decode cX2_row 30 = .ok (.iload_n 2, 1) := by decide +kernel
theorem dX2_row_31 : decode cX2_row 31 = .ok (.bipush 8, 2) := by decide +kernel
theorem dX2_row_33 : decode cX2_row 33 = .ok (.if_icmp .ge 13, 3) := by decide +kernel
theorem dX2_row_36 : decode cX2_row 36 = .ok (.iload_n 3, 1) := by decide +kernel
theorem dX2_row_37 : decode cX2_row 37 = .ok (.ifCond .lt 9, 3) := by decide +kernel
theorem dX2_row_40 : decode cX2_row 40 = .ok (.iload_n 3, 1) := by decide +kernel
theorem dX2_row_41 : decode cX2_row 41 = .ok (.bipush 24, 2) := by decide +kernel
theorem dX2_row_43 : decode cX2_row 43 = .ok (.if_icmp .le 17, 3) := by decide +kernel
theorem dX2_row_46 : decode cX2_row 46 = .ok (.aload_n 0, 1) := by decide +kernel
theorem dX2_row_47 : decode cX2_row 47 = .ok (.iconst 2, 1) := by decide +kernel
theorem dX2_row_48 : decode cX2_row 48 = .ok (.invokevirtual 43, 3) := by decide +kernel
theorem dX2_row_51 : decode cX2_row 51 = .ok (.ifCond .le 7, 3) := by decide +kernel
theorem dX2_row_54 : decode cX2_row 54 = .ok (.iconst 1, 1) := by decide +kernel
theorem dX2_row_55 : decode cX2_row 55 = .ok (.goto 4, 3) := by decide +kernel
theorem dX2_row_58 : decode cX2_row 58 = .ok (.iconst 0, 1) := by decide +kernel
theorem dX2_row_59 : decode cX2_row 59 = .ok (.ireturn, 1) := by decide +kernel
theorem dX2_row_60 : decode cX2_row 60 = .ok (.aload_n 0, 1) := by decide +kernel
theorem dX2_row_61 : decode cX2_row 61 = .ok (.getfield 47, 3) := by decide +kernel
theorem dX2_row_64 : decode cX2_row 64 = .ok (.sipush 300, 3) := by decide +kernel
theorem dX2_row_67 : decode cX2_row 67 = .ok (.if_icmp .ne 17, 3) := by decide +kernel
theorem dX2_row_70 : decode cX2_row 70 = .ok (.aload_n 0, 1) := by decide +kernel
theorem dX2_row_71 : decode cX2_row 71 = .ok (.iconst 3, 1) := by decide +kernel
theorem dX2_row_72 : decode cX2_row 72 = .ok (.invokevirtual 43, 3) := by decide +kernel
theorem dX2_row_75 : decode cX2_row 75 = .ok (.ifCond .le 7, 3) := by decide +kernel
theorem dX2_row_78 : decode cX2_row 78 = .ok (.iconst 1, 1) := by decide +kernel
theorem dX2_row_79 : decode cX2_row 79 = .ok (.goto 4, 3) := by decide +kernel
theorem dX2_row_82 : decode cX2_row 82 = .ok (.iconst 0, 1) := by decide +kernel
theorem dX2_row_83 : decode cX2_row 83 = .ok (.ireturn, 1) := by decide +kernel
theorem dX2_row_84 : decode cX2_row 84 = .ok (.aload_n 0, 1) := by decide +kernel
theorem dX2_row_85 : decode cX2_row 85 = .ok (.getfield 7, 3) := by decide +kernel
theorem dX2_row_88 : decode cX2_row 88 = .ok (.iload_n 1, 1) := by decide +kernel
theorem dX2_row_89 : decode cX2_row 89 = .ok (.iaload, 1) := by decide +kernel
theorem dX2_row_90 : decode cX2_row 90 = .ok (.iconst (-1), 1) := by decide +kernel
theorem dX2_row_91 : decode cX2_row 91 = .ok (.if_icmp .ne 7, 3) := by decide +kernel
theorem dX2_row_94 : decode cX2_row 94 = .ok (.iconst 1, 1) := by decide +kernel
theorem dX2_row_95 : decode cX2_row 95 = .ok (.goto 4, 3) := by decide +kernel
theorem dX2_row_98 : decode cX2_row 98 = .ok (.iconst 0, 1) := by decide +kernel
theorem dX2_row_99 : decode cX2_row 99 = .ok (.istore 4, 2) := by decide +kernel
theorem dX2_row_101 : decode cX2_row 101 = .ok (.aload_n 0, 1) := by decide +kernel
theorem dX2_row_102 : decode cX2_row 102 = .ok (.getfield 47, 3) := by decide +kernel
theorem dX2_row_105 : decode cX2_row 105 = .ok (.istore 5, 2) := by decide +kernel
theorem dX2_row_107 : decode cX2_row 107 = .ok (.aload_n 0, 1) := by decide +kernel
theorem dX2_row_108 : decode cX2_row 108 = .ok (.dup, 1) := by decide +kernel
theorem dX2_row_109 : decode cX2_row 109 = .ok (.getfield 47, 3) := by decide +kernel
theorem dX2_row_112 : decode cX2_row 112 = .ok (.iconst 1, 1) := by decide +kernel
theorem dX2_row_113 : decode cX2_row 113 = .ok (.iadd, 1) := by decide +kernel
theorem dX2_row_114 : decode cX2_row 114 = .ok (.putfield 47, 3) := by decide +kernel
theorem dX2_row_117 : decode cX2_row 117 = .ok (.aload_n 0, 1) := by decide +kernel
theorem dX2_row_118 : decode cX2_row 118 = .ok (.getfield 13, 3) := by decide +kernel
theorem dX2_row_121 : decode cX2_row 121 = .ok (.iload 5, 2) := by decide +kernel
theorem dX2_row_123 : decode cX2_row 123 = .ok (.iload_n 2, 1) := by decide +kernel
theorem dX2_row_124 : decode cX2_row 124 = .ok (.iastore, 1) := by decide +kernel
theorem dX2_row_125 : decode cX2_row 125 = .ok (.aload_n 0, 1) := by decide +kernel
theorem dX2_row_126 : decode cX2_row 126 = .ok (.getfield 16, 3) := by decide +kernel
theorem dX2_row_129 : decode cX2_row 129 = .ok (.iload 5, 2) := by decide +kernel
theorem dX2_row_131 : decode cX2_row 131 = .ok (.iload_n 3, 1) := by decide +kernel
theorem dX2_row_132 : decode cX2_row 132 = .ok (.iastore, 1) := by decide +kernel
theorem dX2_row_133 : decode cX2_row 133 = .ok (.iconst 0, 1) := by decide +kernel
theorem dX2_row_134 : decode cX2_row 134 = .ok (.istore 6, 2) := by decide +kernel
theorem dX2_row_136 : decode cX2_row 136 = .ok (.iload 6, 2) := by decide +kernel
theorem dX2_row_138 : decode cX2_row 138 = .ok (.iload_n 3, 1) := by decide +kernel
theorem dX2_row_139 : decode cX2_row 139 = .ok (.if_icmp .ge 36, 3) := by decide +kernel
theorem dX2_row_142 : decode cX2_row 142 = .ok (.aload_n 0, 1) := by decide +kernel
theorem dX2_row_143 : decode cX2_row 143 = .ok (.getfield 19, 3) := by decide +kernel
theorem dX2_row_146 : decode cX2_row 146 = .ok (.bipush 24, 2) := by decide +kernel
theorem dX2_row_148 : decode cX2_row 148 = .ok (.iload 5, 2) := by decide +kernel
theorem dX2_row_150 : decode cX2_row 150 = .ok (.imul, 1) := by decide +kernel
theorem dX2_row_151 : decode cX2_row 151 = .ok (.iload 6, 2) := by decide +kernel
theorem dX2_row_153 : decode cX2_row 153 = .ok (.iadd, 1) := by decide +kernel
theorem dX2_row_154 : decode cX2_row 154 = .ok (.iload_n 2, 1) := by decide +kernel
theorem dX2_row_155 : decode cX2_row 155 = .ok (.invokestatic 50, 3) := by decide +kernel
theorem dX2_row_158 : decode cX2_row 158 = .ok (.ifCond .eq 9, 3) := by decide +kernel
theorem dX2_row_161 : decode cX2_row 161 = .ok (.ldc2_w 53, 3) := by decide +kernel
theorem dX2_row_164 : decode cX2_row 164 = .ok (.goto 4, 3) := by decide +kernel
theorem dX2_row_167 : decode cX2_row 167 = .ok (.lconst 0, 1) := by decide +kernel
theorem dX2_row_168 : decode cX2_row 168 = .ok (.lastore, 1) := by decide +kernel
theorem dX2_row_169 : decode cX2_row 169 = .ok (.iinc 6 1, 3) := by decide +kernel
theorem dX2_row_172 : decode cX2_row 172 = .ok (.goto (-36), 3) := by decide +kernel
theorem dX2_row_175 : decode cX2_row 175 = .ok (.aload_n 0, 1) := by decide +kernel
theorem dX2_row_176 : decode cX2_row 176 = .ok (.getfield 7, 3) := by decide +kernel
theorem dX2_row_179 : decode cX2_row 179 = .ok (.iload_n 1, 1) := by decide +kernel
theorem dX2_row_180 : decode cX2_row 180 = .ok (.iload 5, 2) := by decide +kernel
theorem dX2_row_182 : decode cX2_row 182 = .ok (.iastore, 1) := by decide +kernel
theorem dX2_row_183 : decode cX2_row 183 = .ok (.iload 4, 2) := by decide +kernel
theorem dX2_row_185 : decode cX2_row 185 = .ok (.ireturn, 1) := by decide +kernel
theorem dX2_lid_0 : decode cX2_lid 0 = .ok (.aload_n 0, 1) := by decide +kernel
theorem dX2_lid_1 : decode cX2_lid 1 = .ok (.iconst 0, 1) := by decide +kernel
theorem dX2_lid_2 : decode cX2_lid 2 = .ok (.putfield 35, 3) := by decide +kernel
theorem dX2_lid_5 : decode cX2_lid 5 = .ok (.iload_n 1, 1) := by decide +kernel
theorem dX2_lid_6 : decode cX2_lid 6 = .ok (.invokestatic 39, 3) := by decide +kernel
theorem dX2_lid_9 : decode cX2_lid 9 = .ok (.ifCond .ne 17, 3) := by decide +kernel
theorem dX2_lid_12 : decode cX2_lid 12 = .ok (.aload_n 0, 1) := by decide +kernel
theorem dX2_lid_13 : decode cX2_lid 13 = .ok (.iconst 1, 1) := by decide +kernel
theorem dX2_lid_14 : decode cX2_lid 14 = .ok (.invokevirtual 43, 3) := by decide +kernel
theorem dX2_lid_17 : decode cX2_lid 17 = .ok (.ifCond .le 7, 3) := by decide +kernel
theorem dX2_lid_20 : decode cX2_lid 20 = .ok (.iconst 1, 1) := by decide +kernel
theorem dX2_lid_21 : decode cX2_lid 21 = .ok (.goto 4, 3) := by decide +kernel
theorem dX2_lid_24 : decode cX2_lid 24 = .ok (.iconst 0, 1) := by decide +kernel
theorem dX2_lid_25 : decode cX2_lid 25 = .ok (.ireturn, 1) := by decide +kernel
theorem dX2_lid_26 : decode cX2_lid 26 = .ok (.aload_n 0, 1) := by decide +kernel
theorem dX2_lid_27 : decode cX2_lid 27 = .ok (.getfield 7, 3) := by decide +kernel
theorem dX2_lid_30 : decode cX2_lid 30 = .ok (.iload_n 1, 1) := by decide +kernel
theorem dX2_lid_31 : decode cX2_lid 31 = .ok (.iaload, 1) := by decide +kernel
theorem dX2_lid_32 : decode cX2_lid 32 = .ok (.bipush (-2), 2) := by decide +kernel
theorem dX2_lid_34 : decode cX2_lid 34 = .ok (.if_icmp .eq 7, 3) := by decide +kernel
theorem dX2_lid_37 : decode cX2_lid 37 = .ok (.iconst 1, 1) := by decide +kernel
theorem dX2_lid_38 : decode cX2_lid 38 = .ok (.goto 4, 3) := by decide +kernel
theorem dX2_lid_41 : decode cX2_lid 41 = .ok (.iconst 0, 1) := by decide +kernel
theorem dX2_lid_42 : decode cX2_lid 42 = .ok (.istore_n 2, 1) := by decide +kernel
theorem dX2_lid_43 : decode cX2_lid 43 = .ok (.aload_n 0, 1) := by decide +kernel
theorem dX2_lid_44 : decode cX2_lid 44 = .ok (.getfield 7, 3) := by decide +kernel
theorem dX2_lid_47 : decode cX2_lid 47 = .ok (.iload_n 1, 1) := by decide +kernel
theorem dX2_lid_48 : decode cX2_lid 48 = .ok (.bipush (-2), 2) := by decide +kernel
theorem dX2_lid_50 : decode cX2_lid 50 = .ok (.iastore, 1) := by decide +kernel
theorem dX2_lid_51 : decode cX2_lid 51 = .ok (.iload_n 2, 1) := by decide +kernel
theorem dX2_lid_52 : decode cX2_lid 52 = .ok (.ireturn, 1) := by decide +kernel
theorem dX2_clear_0 : decode cX2_clear 0 = .ok (.aload_n 0, 1) := by decide +kernel
theorem dX2_clear_1 : decode cX2_clear 1 = .ok (.iconst 0, 1) := by decide +kernel
theorem dX2_clear_2 : decode cX2_clear 2 = .ok (.putfield 35, 3) := by decide +kernel
theorem dX2_clear_5 : decode cX2_clear 5 = .ok (.iload_n 1, 1) := by decide +kernel
theorem dX2_clear_6 : decode cX2_clear 6 = .ok (.invokestatic 39, 3) := by decide +kernel
theorem dX2_clear_9 : decode cX2_clear 9 = .ok (.ifCond .ne 17, 3) := by decide +kernel
theorem dX2_clear_12 : decode cX2_clear 12 = .ok (.aload_n 0, 1) := by decide +kernel
theorem dX2_clear_13 : decode cX2_clear 13 = .ok (.iconst 1, 1) := by decide +kernel
theorem dX2_clear_14 : decode cX2_clear 14 = .ok (.invokevirtual 43, 3) := by decide +kernel
theorem dX2_clear_17 : decode cX2_clear 17 = .ok (.ifCond .le 7, 3) := by decide +kernel
theorem dX2_clear_20 : decode cX2_clear 20 = .ok (.iconst 1, 1) := by decide +kernel
theorem dX2_clear_21 : decode cX2_clear 21 = .ok (.goto 4, 3) := by decide +kernel
theorem dX2_clear_24 : decode cX2_clear 24 = .ok (.iconst 0, 1) := by decide +kernel
theorem dX2_clear_25 : decode cX2_clear 25 = .ok (.ireturn, 1) := by decide +kernel
theorem dX2_clear_26 : decode cX2_clear 26 = .ok (.aload_n 0, 1) := by decide +kernel
theorem dX2_clear_27 : decode cX2_clear 27 = .ok (.getfield 7, 3) := by decide +kernel
theorem dX2_clear_30 : decode cX2_clear 30 = .ok (.iload_n 1, 1) := by decide +kernel
theorem dX2_clear_31 : decode cX2_clear 31 = .ok (.iaload, 1) := by decide +kernel
theorem dX2_clear_32 : decode cX2_clear 32 = .ok (.iconst (-1), 1) := by decide +kernel
theorem dX2_clear_33 : decode cX2_clear 33 = .ok (.if_icmp .eq 7, 3) := by decide +kernel
theorem dX2_clear_36 : decode cX2_clear 36 = .ok (.iconst 1, 1) := by decide +kernel
theorem dX2_clear_37 : decode cX2_clear 37 = .ok (.goto 4, 3) := by decide +kernel
theorem dX2_clear_40 : decode cX2_clear 40 = .ok (.iconst 0, 1) := by decide +kernel
theorem dX2_clear_41 : decode cX2_clear 41 = .ok (.istore_n 2, 1) := by decide +kernel
theorem dX2_clear_42 : decode cX2_clear 42 = .ok (.aload_n 0, 1) := by decide +kernel
theorem dX2_clear_43 : decode cX2_clear 43 = .ok (.getfield 7, 3) := by decide +kernel
theorem dX2_clear_46 : decode cX2_clear 46 = .ok (.iload_n 1, 1) := by decide +kernel
theorem dX2_clear_47 : decode cX2_clear 47 = .ok (.iconst (-1), 1) := by decide +kernel
theorem dX2_clear_48 : decode cX2_clear 48 = .ok (.iastore, 1) := by decide +kernel
theorem dX2_clear_49 : decode cX2_clear 49 = .ok (.iload_n 2, 1) := by decide +kernel
theorem dX2_clear_50 : decode cX2_clear 50 = .ok (.ireturn, 1) := by decide +kernel
theorem dX2_share_0 : decode cX2_share 0 = .ok (.aload_n 0, 1) := by decide +kernel
theorem dX2_share_1 : decode cX2_share 1 = .ok (.iconst 0, 1) := by decide +kernel
theorem dX2_share_2 : decode cX2_share 2 = .ok (.putfield 35, 3) := by decide +kernel
theorem dX2_share_5 : decode cX2_share 5 = .ok (.iload_n 1, 1) := by decide +kernel
theorem dX2_share_6 : decode cX2_share 6 = .ok (.invokestatic 39, 3) := by decide +kernel
theorem dX2_share_9 : decode cX2_share 9 = .ok (.ifCond .eq 10, 3) := by decide +kernel
theorem dX2_share_12 : decode cX2_share 12 = .ok (.iload_n 2, 1) := by decide +kernel
theorem dX2_share_13 : decode cX2_share 13 = .ok (.invokestatic 39, 3) := by decide +kernel
theorem dX2_share_16 : decode cX2_share 16 = .ok (.ifCond .ne 9, 3) := by decide +kernel
theorem dX2_share_19 : decode cX2_share 19 = .ok (.aload_n 0, 1) := by decide +kernel
theorem dX2_share_20 : decode cX2_share 20 = .ok (.iconst 1, 1) := by decide +kernel
theorem dX2_share_21 : decode cX2_share 21 = .ok (.invokevirtual 43, 3) := by decide +kernel
theorem dX2_share_24 : decode cX2_share 24 = .ok (.ireturn, 1) := by decide +kernel
theorem dX2_share_25 : decode cX2_share 25 = .ok (.aload_n 0, 1) := by decide +kernel
theorem dX2_share_26 : decode cX2_share 26 = .ok (.getfield 7, 3) := by decide +kernel
theorem dX2_share_29 : decode cX2_share 29 = .ok (.iload_n 1, 1) := by decide +kernel
theorem dX2_share_30 : decode cX2_share 30 = .ok (.aload_n 0, 1) := by decide +kernel
theorem dX2_share_31 : decode cX2_share 31 = .ok (.getfield 7, 3) := by decide +kernel
theorem dX2_share_34 : decode cX2_share 34 = .ok (.iload_n 2, 1) := by decide +kernel
theorem dX2_share_35 : decode cX2_share 35 = .ok (.iaload, 1) := by decide +kernel
theorem dX2_share_36 : decode cX2_share 36 = .ok (.iastore, 1) := by decide +kernel
theorem dX2_share_37 : decode cX2_share 37 = .ok (.aload_n 0, 1) := by decide +kernel
theorem dX2_share_38 : decode cX2_share 38 = .ok (.iload_n 1, 1) := by decide +kernel
theorem dX2_share_39 : decode cX2_share 39 = .ok (.invokevirtual 55, 3) := by decide +kernel
theorem dX2_share_42 : decode cX2_share 42 = .ok (.ireturn, 1) := by decide +kernel
theorem dX2_barred_0 : decode cX2_barred 0 = .ok (.aload_n 0, 1) := by decide +kernel
theorem dX2_barred_1 : decode cX2_barred 1 = .ok (.iload_n 1, 1) := by decide +kernel
theorem dX2_barred_2 : decode cX2_barred 2 = .ok (.invokevirtual 58, 3) := by decide +kernel
theorem dX2_barred_5 : decode cX2_barred 5 = .ok (.ifCond .eq 15, 3) := by decide +kernel
theorem dX2_barred_8 : decode cX2_barred 8 = .ok (.aload_n 0, 1) := by decide +kernel
theorem dX2_barred_9 : decode cX2_barred 9 = .ok (.iload_n 1, 1) := by decide +kernel
theorem dX2_barred_10 : decode cX2_barred 10 = .ok (.invokevirtual 55, 3) := by decide +kernel
theorem dX2_barred_13 : decode cX2_barred 13 = .ok (.invokestatic 50, 3) := by decide +kernel
theorem dX2_barred_16 : decode cX2_barred 16 = .ok (.iload_n 3, 1) := by decide +kernel
theorem dX2_barred_17 : decode cX2_barred 17 = .ok (.if_icmp .eq 6, 3) := by decide +kernel
theorem dX2_barred_20 : decode cX2_barred 20 = .ok (.iload 4, 2) := by decide +kernel
theorem dX2_barred_22 : decode cX2_barred 22 = .ok (.ireturn, 1) := by decide +kernel
theorem dX2_barred_23 : decode cX2_barred 23 = .ok (.aload_n 0, 1) := by decide +kernel
theorem dX2_barred_24 : decode cX2_barred 24 = .ok (.iload_n 1, 1) := by decide +kernel
theorem dX2_barred_25 : decode cX2_barred 25 = .ok (.iload_n 2, 1) := by decide +kernel
theorem dX2_barred_26 : decode cX2_barred 26 = .ok (.invokevirtual 61, 3) := by decide +kernel
theorem dX2_barred_29 : decode cX2_barred 29 = .ok (.ifCond .eq 7, 3) := by decide +kernel
theorem dX2_barred_32 : decode cX2_barred 32 = .ok (.iconst 0, 1) := by decide +kernel
theorem dX2_barred_33 : decode cX2_barred 33 = .ok (.goto 7, 3) := by decide +kernel
theorem dX2_barred_36 : decode cX2_barred 36 = .ok (.iload 4, 2) := by decide +kernel
theorem dX2_barred_38 : decode cX2_barred 38 = .ok (.iconst 1, 1) := by decide +kernel
theorem dX2_barred_39 : decode cX2_barred 39 = .ok (.iadd, 1) := by decide +kernel
theorem dX2_barred_40 : decode cX2_barred 40 = .ok (.ireturn, 1) := by decide +kernel
theorem dX2_put_0 : decode cX2_put 0 = .ok (.aload_n 0, 1) := by decide +kernel
theorem dX2_put_1 : decode cX2_put 1 = .ok (.iconst 0, 1) := by decide +kernel
theorem dX2_put_2 : decode cX2_put 2 = .ok (.putfield 35, 3) := by decide +kernel
theorem dX2_put_5 : decode cX2_put 5 = .ok (.iload_n 1, 1) := by decide +kernel
theorem dX2_put_6 : decode cX2_put 6 = .ok (.invokestatic 39, 3) := by decide +kernel
theorem dX2_put_9 : decode cX2_put 9 = .ok (.ifCond .ne 10, 3) := by decide +kernel
theorem dX2_put_12 : decode cX2_put 12 = .ok (.aload_n 0, 1) := by decide +kernel
theorem dX2_put_13 : decode cX2_put 13 = .ok (.iconst 1, 1) := by decide +kernel
theorem dX2_put_14 : decode cX2_put 14 = .ok (.invokevirtual 43, 3) := by decide +kernel
theorem dX2_put_17 : decode cX2_put 17 = .ok (.i2l, 1) := by decide +kernel
theorem dX2_put_18 : decode cX2_put 18 = .ok (.lreturn, 1) := by decide +kernel
theorem dX2_put_19 : decode cX2_put 19 = .ok (.aload_n 0, 1) := by decide +kernel
theorem dX2_put_20 : decode cX2_put 20 = .ok (.iload_n 1, 1) := by decide +kernel
theorem dX2_put_21 : decode cX2_put 21 = .ok (.iload_n 2, 1) := by decide +kernel
theorem dX2_put_22 : decode cX2_put 22 = .ok (.iconst 0, 1) := by decide +kernel
theorem dX2_put_23 : decode cX2_put 23 = .ok (.iconst 2, 1) := by decide +kernel
theorem dX2_put_24 : decode cX2_put 24 = .ok (.invokevirtual 65, 3) := by decide +kernel
theorem dX2_put_27 : decode cX2_put 27 = .ok (.istore 5, 2) := by decide +kernel
theorem dX2_put_29 : decode cX2_put 29 = .ok (.iload 5, 2) := by decide +kernel
theorem dX2_put_31 : decode cX2_put 31 = .ok (.ifCond .le 11, 3) := by decide +kernel
theorem dX2_put_34 : decode cX2_put 34 = .ok (.aload_n 0, 1) := by decide +kernel
theorem dX2_put_35 : decode cX2_put 35 = .ok (.iload 5, 2) := by decide +kernel
theorem dX2_put_37 : decode cX2_put 37 = .ok (.invokevirtual 43, 3) := by decide +kernel
theorem dX2_put_40 : decode cX2_put 40 = .ok (.i2l, 1) := by decide +kernel
theorem dX2_put_41 : decode cX2_put 41 = .ok (.lreturn, 1) := by decide +kernel
theorem dX2_put_42 : decode cX2_put 42 = .ok (.bipush 24, 2) := by decide +kernel
theorem dX2_put_44 : decode cX2_put 44 = .ok (.aload_n 0, 1) := by decide +kernel
theorem dX2_put_45 : decode cX2_put 45 = .ok (.getfield 7, 3) := by decide +kernel
theorem dX2_put_48 : decode cX2_put 48 = .ok (.iload_n 1, 1) := by decide +kernel
theorem dX2_put_49 : decode cX2_put 49 = .ok (.iaload, 1) := by decide +kernel
theorem dX2_put_50 : decode cX2_put 50 = .ok (.imul, 1) := by decide +kernel
theorem dX2_put_51 : decode cX2_put 51 = .ok (.iload_n 2, 1) := by decide +kernel
theorem dX2_put_52 : decode cX2_put 52 = .ok (.iadd, 1) := by decide +kernel
theorem dX2_put_53 : decode cX2_put 53 = .ok (.istore 6, 2) := by decide +kernel
theorem dX2_put_55 : decode cX2_put 55 = .ok (.aload_n 0, 1) := by decide +kernel
theorem dX2_put_56 : decode cX2_put 56 = .ok (.getfield 19, 3) := by decide +kernel
theorem dX2_put_59 : decode cX2_put 59 = .ok (.iload 6, 2) := by decide +kernel
theorem dX2_put_61 : decode cX2_put 61 = .ok (.laload, 1) := by decide +kernel
theorem dX2_put_62 : decode cX2_put 62 = .ok (.lstore 7, 2) := by decide +kernel
theorem dX2_put_64 : decode cX2_put 64 = .ok (.aload_n 0, 1) := by decide +kernel
theorem dX2_put_65 : decode cX2_put 65 = .ok (.getfield 19, 3) := by decide +kernel
theorem dX2_put_68 : decode cX2_put 68 = .ok (.iload 6, 2) := by decide +kernel
theorem dX2_put_70 : decode cX2_put 70 = .ok (.aload_n 0, 1) := by decide +kernel
theorem dX2_put_71 : decode cX2_put 71 = .ok (.iload_n 1, 1) := by decide +kernel
theorem dX2_put_72 : decode cX2_put 72 = .ok (.invokevirtual 55, 3) := by decide +kernel
theorem dX2_put_75 : decode cX2_put 75 = .ok (.lload_n 3, 1) := by decide +kernel
theorem dX2_put_76 : decode cX2_put 76 = .ok (.invokestatic 69, 3) := by decide +kernel
theorem dX2_put_79 : decode cX2_put 79 = .ok (.lastore, 1) := by decide +kernel
theorem dX2_put_80 : decode cX2_put 80 = .ok (.lload 7, 2) := by decide +kernel
theorem dX2_put_82 : decode cX2_put 82 = .ok (.lreturn, 1) := by decide +kernel
theorem dX2_lay_0 : decode cX2_lay 0 = .ok (.aload_n 0, 1) := by decide +kernel
theorem dX2_lay_1 : decode cX2_lay 1 = .ok (.iconst 0, 1) := by decide +kernel
theorem dX2_lay_2 : decode cX2_lay 2 = .ok (.putfield 35, 3) := by decide +kernel
theorem dX2_lay_5 : decode cX2_lay 5 = .ok (.iload_n 1, 1) := by decide +kernel
theorem dX2_lay_6 : decode cX2_lay 6 = .ok (.invokestatic 39, 3) := by decide +kernel
theorem dX2_lay_9 : decode cX2_lay 9 = .ok (.ifCond .ne 9, 3) := by decide +kernel
theorem dX2_lay_12 : decode cX2_lay 12 = .ok (.aload_n 0, 1) := by decide +kernel
theorem dX2_lay_13 : decode cX2_lay 13 = .ok (.iconst 1, 1) := by decide +kernel
theorem dX2_lay_14 : decode cX2_lay 14 = .ok (.invokevirtual 43, 3) := by decide +kernel
theorem dX2_lay_17 : decode cX2_lay 17 = .ok (.ireturn, 1) := by decide +kernel
theorem dX2_lay_18 : decode cX2_lay 18 = .ok (.iload_n 3, 1) := by decide +kernel
theorem dX2_lay_19 : decode cX2_lay 19 = .ok (.ifCond .lt 8, 3) := by decide +kernel
theorem dX2_lay_22 : decode cX2_lay 22 = .ok (.iload_n 3, 1) := by decide +kernel
theorem dX2_lay_23 : decode cX2_lay 23 = .ok (.iconst 3, 1) := by decide +kernel
theorem dX2_lay_24 : decode cX2_lay 24 = .ok (.if_icmp .le 9, 3) := by decide +kernel
theorem dX2_lay_27 : decode cX2_lay 27 = .ok (.aload_n 0, 1) := by decide +kernel
theorem dX2_lay_28 : decode cX2_lay 28 = .ok (.iconst 2, 1) := by decide +kernel
theorem dX2_lay_29 : decode cX2_lay 29 = .ok (.invokevirtual 43, 3) := by decide +kernel
theorem dX2_lay_32 : decode cX2_lay 32 = .ok (.ireturn, 1) := by decide +kernel
theorem dX2_lay_33 : decode cX2_lay 33 = .ok (.aload_n 0, 1) := by decide +kernel
theorem dX2_lay_34 : decode cX2_lay 34 = .ok (.iload_n 1, 1) := by decide +kernel
theorem dX2_lay_35 : decode cX2_lay 35 = .ok (.iload_n 2, 1) := by decide +kernel
theorem dX2_lay_36 : decode cX2_lay 36 = .ok (.iconst 1, 1) := by decide +kernel
theorem dX2_lay_37 : decode cX2_lay 37 = .ok (.iconst 3, 1) := by decide +kernel
theorem dX2_lay_38 : decode cX2_lay 38 = .ok (.invokevirtual 65, 3) := by decide +kernel
theorem dX2_lay_41 : decode cX2_lay 41 = .ok (.istore 4, 2) := by decide +kernel
theorem dX2_lay_43 : decode cX2_lay 43 = .ok (.iload 4, 2) := by decide +kernel
theorem dX2_lay_45 : decode cX2_lay 45 = .ok (.ifCond .le 10, 3) := by decide +kernel
theorem dX2_lay_48 : decode cX2_lay 48 = .ok (.aload_n 0, 1) := by decide +kernel
theorem dX2_lay_49 : decode cX2_lay 49 = .ok (.iload 4, 2) := by decide +kernel
theorem dX2_lay_51 : decode cX2_lay 51 = .ok (.invokevirtual 43, 3) := by decide +kernel
theorem dX2_lay_54 : decode cX2_lay 54 = .ok (.ireturn, 1) := by decide +kernel
theorem dX2_lay_55 : decode cX2_lay 55 = .ok (.aload_n 0, 1) := by decide +kernel
theorem dX2_lay_56 : decode cX2_lay 56 = .ok (.getfield 73, 3) := by decide +kernel
theorem dX2_lay_59 : decode cX2_lay 59 = .ok (.bipush 60, 2) := by decide +kernel
theorem dX2_lay_61 : decode cX2_lay 61 = .ok (.if_icmp .ne 9, 3) := by decide +kernel
theorem dX2_lay_64 : decode cX2_lay 64 = .ok (.aload_n 0, 1) := by decide +kernel
theorem dX2_lay_65 : decode cX2_lay 65 = .ok (.iconst 5, 1) := by decide +kernel
theorem dX2_lay_66 : decode cX2_lay 66 = .ok (.invokevirtual 43, 3) := by decide +kernel
theorem dX2_lay_69 : decode cX2_lay 69 = .ok (.ireturn, 1) := by decide +kernel
theorem dX2_lay_70 : decode cX2_lay 70 = .ok (.aload_n 0, 1) := by decide +kernel
theorem dX2_lay_71 : decode cX2_lay 71 = .ok (.iload_n 1, 1) := by decide +kernel
theorem dX2_lay_72 : decode cX2_lay 72 = .ok (.invokevirtual 55, 3) := by decide +kernel
theorem dX2_lay_75 : decode cX2_lay 75 = .ok (.iload_n 3, 1) := by decide +kernel
theorem dX2_lay_76 : decode cX2_lay 76 = .ok (.invokestatic 76, 3) := by decide +kernel
theorem dX2_lay_79 : decode cX2_lay 79 = .ok (.ifCond .ne 5, 3) := by decide +kernel
theorem dX2_lay_82 : decode cX2_lay 82 = .ok (.iconst (-1), 1) := by decide +kernel
theorem dX2_lay_83 : decode cX2_lay 83 = .ok (.ireturn, 1) := by decide +kernel
theorem dX2_lay_84 : decode cX2_lay 84 = .ok (.aload_n 0, 1) := by decide +kernel
theorem dX2_lay_85 : decode cX2_lay 85 = .ok (.getfield 73, 3) := by decide +kernel
theorem dX2_lay_88 : decode cX2_lay 88 = .ok (.istore 5, 2) := by decide +kernel
theorem dX2_lay_90 : decode cX2_lay 90 = .ok (.aload_n 0, 1) := by decide +kernel
theorem dX2_lay_91 : decode cX2_lay 91 = .ok (.dup, 1) := by decide +kernel
theorem dX2_lay_92 : decode cX2_lay 92 = .ok (.getfield 73, 3) := by decide +kernel
theorem dX2_lay_95 : decode cX2_lay 95 = .ok (.iconst 1, 1) := by decide +kernel
theorem dX2_lay_96 : decode cX2_lay 96 = .ok (.iadd, 1) := by decide +kernel
theorem dX2_lay_97 : decode cX2_lay 97 = .ok (.putfield 73, 3) := by decide +kernel
theorem dX2_lay_100 : decode cX2_lay 100 = .ok (.aload_n 0, 1) := by decide +kernel
theorem dX2_lay_101 : decode cX2_lay 101 = .ok (.getfield 26, 3) := by decide +kernel
theorem dX2_lay_104 : decode cX2_lay 104 = .ok (.iload 5, 2) := by decide +kernel
theorem dX2_lay_106 : decode cX2_lay 106 = .ok (.iload_n 3, 1) := by decide +kernel
theorem dX2_lay_107 : decode cX2_lay 107 = .ok (.iastore, 1) := by decide +kernel
theorem dX2_lay_108 : decode cX2_lay 108 = .ok (.aload_n 0, 1) := by decide +kernel
theorem dX2_lay_109 : decode cX2_lay 109 = .ok (.getfield 29, 3) := by decide +kernel
theorem dX2_lay_112 : decode cX2_lay 112 = .ok (.iload 5, 2) := by decide +kernel
theorem dX2_lay_114 : decode cX2_lay 114 = .ok (.iconst 0, 1) := by decide +kernel
theorem dX2_lay_115 : decode cX2_lay 115 = .ok (.iastore, 1) := by decide +kernel
theorem dX2_lay_116 : decode cX2_lay 116 = .ok (.aload_n 0, 1) := by decide +kernel
theorem dX2_lay_117 : decode cX2_lay 117 = .ok (.getfield 19, 3) := by decide +kernel
theorem dX2_lay_120 : decode cX2_lay 120 = .ok (.bipush 24, 2) := by decide +kernel
theorem dX2_lay_122 : decode cX2_lay 122 = .ok (.aload_n 0, 1) := by decide +kernel
theorem dX2_lay_123 : decode cX2_lay 123 = .ok (.getfield 7, 3) := by decide +kernel
theorem dX2_lay_126 : decode cX2_lay 126 = .ok (.iload_n 1, 1) := by decide +kernel
theorem dX2_lay_127 : decode cX2_lay 127 = .ok (.iaload, 1) := by decide +kernel
theorem dX2_lay_128 : decode cX2_lay 128 = .ok (.imul, 1) := by decide +kernel
theorem dX2_lay_129 : decode cX2_lay 129 = .ok (.iload_n 2, 1) := by decide +kernel
theorem dX2_lay_130 : decode cX2_lay 130 = .ok (.iadd, 1) := by decide +kernel
theorem dX2_lay_131 : decode cX2_lay 131 = .ok (.iload 5, 2) := by decide +kernel
theorem dX2_lay_133 : decode cX2_lay 133 = .ok (.i2l, 1) := by decide +kernel
theorem dX2_lay_134 : decode cX2_lay 134 = .ok (.lastore, 1) := by decide +kernel
theorem dX2_lay_135 : decode cX2_lay 135 = .ok (.iload 5, 2) := by decide +kernel
theorem dX2_lay_137 : decode cX2_lay 137 = .ok (.ireturn, 1) := by decide +kernel
theorem dX2_lift_0 : decode cX2_lift 0 = .ok (.aload_n 0, 1) := by decide +kernel
theorem dX2_lift_1 : decode cX2_lift 1 = .ok (.iconst 0, 1) := by decide +kernel
theorem dX2_lift_2 : decode cX2_lift 2 = .ok (.putfield 35, 3) := by decide +kernel
theorem dX2_lift_5 : decode cX2_lift 5 = .ok (.iload_n 1, 1) := by decide +kernel
theorem dX2_lift_6 : decode cX2_lift 6 = .ok (.invokestatic 39, 3) := by decide +kernel
theorem dX2_lift_9 : decode cX2_lift 9 = .ok (.ifCond .ne 9, 3) := by decide +kernel
theorem dX2_lift_12 : decode cX2_lift 12 = .ok (.aload_n 0, 1) := by decide +kernel
theorem dX2_lift_13 : decode cX2_lift 13 = .ok (.iconst 1, 1) := by decide +kernel
theorem dX2_lift_14 : decode cX2_lift 14 = .ok (.invokevirtual 43, 3) := by decide +kernel
theorem dX2_lift_17 : decode cX2_lift 17 = .ok (.ireturn, 1) := by decide +kernel
theorem dX2_lift_18 : decode cX2_lift 18 = .ok (.aload_n 0, 1) := by decide +kernel
theorem dX2_lift_19 : decode cX2_lift 19 = .ok (.iload_n 1, 1) := by decide +kernel
theorem dX2_lift_20 : decode cX2_lift 20 = .ok (.iload_n 2, 1) := by decide +kernel
theorem dX2_lift_21 : decode cX2_lift 21 = .ok (.iconst 1, 1) := by decide +kernel
theorem dX2_lift_22 : decode cX2_lift 22 = .ok (.iconst 2, 1) := by decide +kernel
theorem dX2_lift_23 : decode cX2_lift 23 = .ok (.invokevirtual 65, 3) := by decide +kernel
theorem dX2_lift_26 : decode cX2_lift 26 = .ok (.istore_n 3, 1) := by decide +kernel
theorem dX2_lift_27 : decode cX2_lift 27 = .ok (.iload_n 3, 1) := by decide +kernel
theorem dX2_lift_28 : decode cX2_lift 28 = .ok (.ifCond .le 9, 3) := by decide +kernel
theorem dX2_lift_31 : decode cX2_lift 31 = .ok (.aload_n 0, 1) := by decide +kernel
theorem dX2_lift_32 : decode cX2_lift 32 = .ok (.iload_n 3, 1) := by decide +kernel
theorem dX2_lift_33 : decode cX2_lift 33 = .ok (.invokevirtual 43, 3) := by decide +kernel
theorem dX2_lift_36 : decode cX2_lift 36 = .ok (.ireturn, 1) := by decide +kernel
theorem dX2_lift_37 : decode cX2_lift 37 = .ok (.bipush 24, 2) := by decide +kernel
theorem dX2_lift_39 : decode cX2_lift 39 = .ok (.aload_n 0, 1) := by decide +kernel
theorem dX2_lift_40 : decode cX2_lift 40 = .ok (.getfield 7, 3) := by decide +kernel
theorem dX2_lift_43 : decode cX2_lift 43 = .ok (.iload_n 1, 1) := by decide +kernel
theorem dX2_lift_44 : decode cX2_lift 44 = .ok (.iaload, 1) := by decide +kernel
theorem dX2_lift_45 : decode cX2_lift 45 = .ok (.imul, 1) := by decide +kernel
theorem dX2_lift_46 : decode cX2_lift 46 = .ok (.iload_n 2, 1) := by decide +kernel
theorem dX2_lift_47 : decode cX2_lift 47 = .ok (.iadd, 1) := by decide +kernel
theorem dX2_lift_48 : decode cX2_lift 48 = .ok (.istore 4, 2) := by decide +kernel
theorem dX2_lift_50 : decode cX2_lift 50 = .ok (.aload_n 0, 1) := by decide +kernel
theorem dX2_lift_51 : decode cX2_lift 51 = .ok (.getfield 19, 3) := by decide +kernel
theorem dX2_lift_54 : decode cX2_lift 54 = .ok (.iload 4, 2) := by decide +kernel
theorem dX2_lift_56 : decode cX2_lift 56 = .ok (.laload, 1) := by decide +kernel
theorem dX2_lift_57 : decode cX2_lift 57 = .ok (.l2i, 1) := by decide +kernel
theorem dX2_lift_58 : decode cX2_lift 58 = .ok (.istore 5, 2) := by decide +kernel
theorem dX2_lift_60 : decode cX2_lift 60 = .ok (.aload_n 0, 1) := by decide +kernel
theorem dX2_lift_61 : decode cX2_lift 61 = .ok (.getfield 19, 3) := by decide +kernel
theorem dX2_lift_64 : decode cX2_lift 64 = .ok (.iload 4, 2) := by decide +kernel
theorem dX2_lift_66 : decode cX2_lift 66 = .ok (.ldc2_w 53, 3) := by decide +kernel
theorem dX2_lift_69 : decode cX2_lift 69 = .ok (.lastore, 1) := by decide +kernel
theorem dX2_lift_70 : decode cX2_lift 70 = .ok (.iload 5, 2) := by decide +kernel
theorem dX2_lift_72 : decode cX2_lift 72 = .ok (.ireturn, 1) := by decide +kernel
theorem dX2_isOutside_0 : decode cX2_isOutside 0 = .ok (.iload_n 0, 1) := by decide +kernel
theorem dX2_isOutside_1 : decode cX2_isOutside 1 = .ok (.ifCond .lt 14, 3) := by decide +kernel
theorem dX2_isOutside_4 : decode cX2_isOutside 4 = .ok (.iload_n 0, 1) := by decide +kernel
theorem dX2_isOutside_5 : decode cX2_isOutside 5 = .ok (.i2l, 1) := by decide +kernel
theorem dX2_isOutside_6 : decode cX2_isOutside 6 = .ok (.iload_n 1, 1) := by decide +kernel
theorem dX2_isOutside_7 : decode cX2_isOutside 7 = .ok (.i2l, 1) := by decide +kernel
theorem dX2_isOutside_8 : decode cX2_isOutside 8 = .ok (.ladd, 1) := by decide +kernel
theorem dX2_isOutside_9 : decode cX2_isOutside 9 = .ok (.iload_n 2, 1) := by decide +kernel
theorem dX2_isOutside_10 : decode cX2_isOutside 10 = .ok (.i2l, 1) := by decide +kernel
theorem dX2_isOutside_11 : decode cX2_isOutside 11 = .ok (.lcmp, 1) := by decide +kernel
theorem dX2_isOutside_12 : decode cX2_isOutside 12 = .ok (.ifCond .le 7, 3) := by decide +kernel
theorem dX2_isOutside_15 : decode cX2_isOutside 15 = .ok (.iconst 1, 1) := by decide +kernel
theorem dX2_isOutside_16 : decode cX2_isOutside 16 = .ok (.goto 4, 3) := by decide +kernel
theorem dX2_isOutside_19 : decode cX2_isOutside 19 = .ok (.iconst 0, 1) := by decide +kernel
theorem dX2_isOutside_20 : decode cX2_isOutside 20 = .ok (.ireturn, 1) := by decide +kernel
theorem dX2_bars_0 : decode cX2_bars 0 = .ok (.aload_n 0, 1) := by decide +kernel
theorem dX2_bars_1 : decode cX2_bars 1 = .ok (.getfield 7, 3) := by decide +kernel
theorem dX2_bars_4 : decode cX2_bars 4 = .ok (.iload_n 1, 1) := by decide +kernel
theorem dX2_bars_5 : decode cX2_bars 5 = .ok (.iaload, 1) := by decide +kernel
theorem dX2_bars_6 : decode cX2_bars 6 = .ok (.iconst (-1), 1) := by decide +kernel
theorem dX2_bars_7 : decode cX2_bars 7 = .ok (.if_icmp .eq 13, 3) := by decide +kernel
theorem dX2_bars_10 : decode cX2_bars 10 = .ok (.aload_n 0, 1) := by decide +kernel
theorem dX2_bars_11 : decode cX2_bars 11 = .ok (.getfield 7, 3) := by decide +kernel
theorem dX2_bars_14 : decode cX2_bars 14 = .ok (.iload_n 3, 1) := by decide +kernel
theorem dX2_bars_15 : decode cX2_bars 15 = .ok (.iaload, 1) := by decide +kernel
theorem dX2_bars_16 : decode cX2_bars 16 = .ok (.iconst (-1), 1) := by decide +kernel
theorem dX2_bars_17 : decode cX2_bars 17 = .ok (.if_icmp .ne 5, 3) := by decide +kernel
theorem dX2_bars_20 : decode cX2_bars 20 = .ok (.iconst 1, 1) := by decide +kernel
theorem dX2_bars_21 : decode cX2_bars 21 = .ok (.ireturn, 1) := by decide +kernel
theorem dX2_bars_22 : decode cX2_bars 22 = .ok (.aload_n 0, 1) := by decide +kernel
theorem dX2_bars_23 : decode cX2_bars 23 = .ok (.iload_n 1, 1) := by decide +kernel
theorem dX2_bars_24 : decode cX2_bars 24 = .ok (.invokevirtual 58, 3) := by decide +kernel
theorem dX2_bars_27 : decode cX2_bars 27 = .ok (.ifCond .eq 11, 3) := by decide +kernel
theorem dX2_bars_30 : decode cX2_bars 30 = .ok (.aload_n 0, 1) := by decide +kernel
theorem dX2_bars_31 : decode cX2_bars 31 = .ok (.iload_n 3, 1) := by decide +kernel
theorem dX2_bars_32 : decode cX2_bars 32 = .ok (.invokevirtual 58, 3) := by decide +kernel
theorem dX2_bars_35 : decode cX2_bars 35 = .ok (.ifCond .ne 5, 3) := by decide +kernel
theorem dX2_bars_38 : decode cX2_bars 38 = .ok (.iconst 2, 1) := by decide +kernel
theorem dX2_bars_39 : decode cX2_bars 39 = .ok (.ireturn, 1) := by decide +kernel
theorem dX2_bars_40 : decode cX2_bars 40 = .ok (.aload_n 0, 1) := by decide +kernel
theorem dX2_bars_41 : decode cX2_bars 41 = .ok (.iload_n 1, 1) := by decide +kernel
theorem dX2_bars_42 : decode cX2_bars 42 = .ok (.invokevirtual 55, 3) := by decide +kernel
theorem dX2_bars_45 : decode cX2_bars 45 = .ok (.istore 6, 2) := by decide +kernel
theorem dX2_bars_47 : decode cX2_bars 47 = .ok (.aload_n 0, 1) := by decide +kernel
theorem dX2_bars_48 : decode cX2_bars 48 = .ok (.iload_n 3, 1) := by decide +kernel
theorem dX2_bars_49 : decode cX2_bars 49 = .ok (.invokevirtual 55, 3) := by decide +kernel
theorem dX2_bars_52 : decode cX2_bars 52 = .ok (.istore 7, 2) := by decide +kernel
theorem dX2_bars_54 : decode cX2_bars 54 = .ok (.iload 6, 2) := by decide +kernel
theorem dX2_bars_56 : decode cX2_bars 56 = .ok (.iload 7, 2) := by decide +kernel
theorem dX2_bars_58 : decode cX2_bars 58 = .ok (.if_icmp .eq 21, 3) := by decide +kernel
theorem dX2_bars_61 : decode cX2_bars 61 = .ok (.iload 6, 2) := by decide +kernel
theorem dX2_bars_63 : decode cX2_bars 63 = .ok (.invokestatic 50, 3) := by decide +kernel
theorem dX2_bars_66 : decode cX2_bars 66 = .ok (.ifCond .eq 11, 3) := by decide +kernel
theorem dX2_bars_69 : decode cX2_bars 69 = .ok (.iload 7, 2) := by decide +kernel
theorem dX2_bars_71 : decode cX2_bars 71 = .ok (.invokestatic 50, 3) := by decide +kernel
theorem dX2_bars_74 : decode cX2_bars 74 = .ok (.ifCond .ne 5, 3) := by decide +kernel
theorem dX2_bars_77 : decode cX2_bars 77 = .ok (.iconst 3, 1) := by decide +kernel
theorem dX2_bars_78 : decode cX2_bars 78 = .ok (.ireturn, 1) := by decide +kernel
theorem dX2_bars_79 : decode cX2_bars 79 = .ok (.iload 5, 2) := by decide +kernel
theorem dX2_bars_81 : decode cX2_bars 81 = .ok (.ifCond .lt 44, 3) := by decide +kernel
theorem dX2_bars_84 : decode cX2_bars 84 = .ok (.iload_n 2, 1) := by decide +kernel
theorem dX2_bars_85 : decode cX2_bars 85 = .ok (.iload 5, 2) := by decide +kernel
theorem dX2_bars_87 : decode cX2_bars 87 = .ok (.aload_n 0, 1) := by decide +kernel
theorem dX2_bars_88 : decode cX2_bars 88 = .ok (.getfield 16, 3) := by decide +kernel
theorem dX2_bars_91 : decode cX2_bars 91 = .ok (.aload_n 0, 1) := by decide +kernel
theorem dX2_bars_92 : decode cX2_bars 92 = .ok (.getfield 7, 3) := by decide +kernel
theorem dX2_bars_95 : decode cX2_bars 95 = .ok (.iload_n 1, 1) := by decide +kernel
theorem dX2_bars_96 : decode cX2_bars 96 = .ok (.iaload, 1) := by decide +kernel
theorem dX2_bars_97 : decode cX2_bars 97 = .ok (.iaload, 1) := by decide +kernel
theorem dX2_bars_98 : decode cX2_bars 98 = .ok (.invokestatic 79, 3) := by decide +kernel
theorem dX2_bars_101 : decode cX2_bars 101 = .ok (.ifCond .ne 24, 3) := by decide +kernel
theorem dX2_bars_104 : decode cX2_bars 104 = .ok (.iload 4, 2) := by decide +kernel
theorem dX2_bars_106 : decode cX2_bars 106 = .ok (.iload 5, 2) := by decide +kernel
theorem dX2_bars_108 : decode cX2_bars 108 = .ok (.aload_n 0, 1) := by decide +kernel
theorem dX2_bars_109 : decode cX2_bars 109 = .ok (.getfield 16, 3) := by decide +kernel
theorem dX2_bars_112 : decode cX2_bars 112 = .ok (.aload_n 0, 1) := by decide +kernel
theorem dX2_bars_113 : decode cX2_bars 113 = .ok (.getfield 7, 3) := by decide +kernel
theorem dX2_bars_116 : decode cX2_bars 116 = .ok (.iload_n 3, 1) := by decide +kernel
theorem dX2_bars_117 : decode cX2_bars 117 = .ok (.iaload, 1) := by decide +kernel
theorem dX2_bars_118 : decode cX2_bars 118 = .ok (.iaload, 1) := by decide +kernel
theorem dX2_bars_119 : decode cX2_bars 119 = .ok (.invokestatic 79, 3) := by decide +kernel
theorem dX2_bars_122 : decode cX2_bars 122 = .ok (.ifCond .eq 7, 3) := by decide +kernel
theorem dX2_bars_125 : decode cX2_bars 125 = .ok (.iconst 1, 1) := by decide +kernel
theorem dX2_bars_126 : decode cX2_bars 126 = .ok (.goto 4, 3) := by decide +kernel
theorem dX2_bars_129 : decode cX2_bars 129 = .ok (.iconst 0, 1) := by decide +kernel
theorem dX2_bars_130 : decode cX2_bars 130 = .ok (.istore 8, 2) := by decide +kernel
theorem dX2_bars_132 : decode cX2_bars 132 = .ok (.iload 8, 2) := by decide +kernel
theorem dX2_bars_134 : decode cX2_bars 134 = .ok (.ifCond .eq 7, 3) := by decide +kernel
theorem dX2_bars_137 : decode cX2_bars 137 = .ok (.iconst 4, 1) := by decide +kernel
theorem dX2_bars_138 : decode cX2_bars 138 = .ok (.goto 4, 3) := by decide +kernel
theorem dX2_bars_141 : decode cX2_bars 141 = .ok (.iconst 0, 1) := by decide +kernel
theorem dX2_bars_142 : decode cX2_bars 142 = .ok (.ireturn, 1) := by decide +kernel
theorem dX2_goes_0 : decode cX2_goes 0 = .ok (.aload_n 0, 1) := by decide +kernel
theorem dX2_goes_1 : decode cX2_goes 1 = .ok (.iconst 0, 1) := by decide +kernel
theorem dX2_goes_2 : decode cX2_goes 2 = .ok (.putfield 83, 3) := by decide +kernel
theorem dX2_goes_5 : decode cX2_goes 5 = .ok (.aload_n 0, 1) := by decide +kernel
theorem dX2_goes_6 : decode cX2_goes 6 = .ok (.iload_n 1, 1) := by decide +kernel
theorem dX2_goes_7 : decode cX2_goes 7 = .ok (.iload_n 2, 1) := by decide +kernel
theorem dX2_goes_8 : decode cX2_goes 8 = .ok (.iload_n 3, 1) := by decide +kernel
theorem dX2_goes_9 : decode cX2_goes 9 = .ok (.iload 4, 2) := by decide +kernel
theorem dX2_goes_11 : decode cX2_goes 11 = .ok (.iload 5, 2) := by decide +kernel
theorem dX2_goes_13 : decode cX2_goes 13 = .ok (.invokevirtual 86, 3) := by decide +kernel
theorem dX2_goes_16 : decode cX2_goes 16 = .ok (.istore 6, 2) := by decide +kernel
theorem dX2_goes_18 : decode cX2_goes 18 = .ok (.iload 6, 2) := by decide +kernel
theorem dX2_goes_20 : decode cX2_goes 20 = .ok (.ifCond .eq 6, 3) := by decide +kernel
theorem dX2_goes_23 : decode cX2_goes 23 = .ok (.iload 6, 2) := by decide +kernel
theorem dX2_goes_25 : decode cX2_goes 25 = .ok (.ireturn, 1) := by decide +kernel
theorem dX2_goes_26 : decode cX2_goes 26 = .ok (.bipush 24, 2) := by decide +kernel
theorem dX2_goes_28 : decode cX2_goes 28 = .ok (.aload_n 0, 1) := by decide +kernel
theorem dX2_goes_29 : decode cX2_goes 29 = .ok (.getfield 7, 3) := by decide +kernel
theorem dX2_goes_32 : decode cX2_goes 32 = .ok (.iload_n 1, 1) := by decide +kernel
theorem dX2_goes_33 : decode cX2_goes 33 = .ok (.iaload, 1) := by decide +kernel
theorem dX2_goes_34 : decode cX2_goes 34 = .ok (.imul, 1) := by decide +kernel
theorem dX2_goes_35 : decode cX2_goes 35 = .ok (.iload_n 2, 1) := by decide +kernel
theorem dX2_goes_36 : decode cX2_goes 36 = .ok (.iadd, 1) := by decide +kernel
theorem dX2_goes_37 : decode cX2_goes 37 = .ok (.istore 7, 2) := by decide +kernel
theorem dX2_goes_39 : decode cX2_goes 39 = .ok (.bipush 24, 2) := by decide +kernel
theorem dX2_goes_41 : decode cX2_goes 41 = .ok (.aload_n 0, 1) := by decide +kernel
theorem dX2_goes_42 : decode cX2_goes 42 = .ok (.getfield 7, 3) := by decide +kernel
theorem dX2_goes_45 : decode cX2_goes 45 = .ok (.iload_n 3, 1) := by decide +kernel
theorem dX2_goes_46 : decode cX2_goes 46 = .ok (.iaload, 1) := by decide +kernel
theorem dX2_goes_47 : decode cX2_goes 47 = .ok (.imul, 1) := by decide +kernel
theorem dX2_goes_48 : decode cX2_goes 48 = .ok (.iload 4, 2) := by decide +kernel
theorem dX2_goes_50 : decode cX2_goes 50 = .ok (.iadd, 1) := by decide +kernel
theorem dX2_goes_51 : decode cX2_goes 51 = .ok (.istore 8, 2) := by decide +kernel
theorem dX2_goes_53 : decode cX2_goes 53 = .ok (.aload_n 0, 1) := by decide +kernel
theorem dX2_goes_54 : decode cX2_goes 54 = .ok (.iload_n 3, 1) := by decide +kernel
theorem dX2_goes_55 : decode cX2_goes 55 = .ok (.invokevirtual 55, 3) := by decide +kernel
theorem dX2_goes_58 : decode cX2_goes 58 = .ok (.istore 9, 2) := by decide +kernel
theorem dX2_goes_60 : decode cX2_goes 60 = .ok (.iconst 0, 1) := by decide +kernel
theorem dX2_goes_61 : decode cX2_goes 61 = .ok (.istore 10, 2) := by decide +kernel
theorem dX2_goes_63 : decode cX2_goes 63 = .ok (.iload 10, 2) := by decide +kernel
theorem dX2_goes_65 : decode cX2_goes 65 = .ok (.iload 5, 2) := by decide +kernel
theorem dX2_goes_67 : decode cX2_goes 67 = .ok (.if_icmp .ge 26, 3) := by decide +kernel
theorem dX2_goes_70 : decode cX2_goes 70 = .ok (.aload_n 0, 1) := by decide +kernel
theorem dX2_goes_71 : decode cX2_goes 71 = .ok (.getfield 23, 3) := by decide +kernel
theorem dX2_goes_74 : decode cX2_goes 74 = .ok (.iload 10, 2) := by decide +kernel
theorem dX2_goes_76 : decode cX2_goes 76 = .ok (.aload_n 0, 1) := by decide +kernel
theorem dX2_goes_77 : decode cX2_goes 77 = .ok (.getfield 19, 3) := by decide +kernel
theorem dX2_goes_80 : decode cX2_goes 80 = .ok (.iload 7, 2) := by decide +kernel
theorem dX2_goes_82 : decode cX2_goes 82 = .ok (.iload 10, 2) := by decide +kernel
theorem dX2_goes_84 : decode cX2_goes 84 = .ok (.iadd, 1) := by decide +kernel
theorem dX2_goes_85 : decode cX2_goes 85 = .ok (.laload, 1) := by decide +kernel
theorem dX2_goes_86 : decode cX2_goes 86 = .ok (.lastore, 1) := by decide +kernel
theorem dX2_goes_87 : decode cX2_goes 87 = .ok (.iinc 10 1, 3) := by decide +kernel
theorem dX2_goes_90 : decode cX2_goes 90 = .ok (.goto (-27), 3) := by decide +kernel
theorem dX2_goes_93 : decode cX2_goes 93 = .ok (.iconst 0, 1) := by decide +kernel
theorem dX2_goes_94 : decode cX2_goes 94 = .ok (.istore 10, 2) := by decide +kernel
theorem dX2_goes_96 : decode cX2_goes 96 = .ok (.iload 10, 2) := by decide +kernel
theorem dX2_goes_98 : decode cX2_goes 98 = .ok (.iload 5, 2) := by decide +kernel
theorem dX2_goes_100 : decode cX2_goes 100 = .ok (.if_icmp .ge 91, 3) := by decide +kernel
theorem dX2_goes_103 : decode cX2_goes 103 = .ok (.iload 9, 2) := by decide +kernel
theorem dX2_goes_105 : decode cX2_goes 105 = .ok (.invokestatic 50, 3) := by decide +kernel
theorem dX2_goes_108 : decode cX2_goes 108 = .ok (.ifCond .eq 36, 3) := by decide +kernel
theorem dX2_goes_111 : decode cX2_goes 111 = .ok (.aload_n 0, 1) := by decide +kernel
theorem dX2_goes_112 : decode cX2_goes 112 = .ok (.getfield 23, 3) := by decide +kernel
theorem dX2_goes_115 : decode cX2_goes 115 = .ok (.iload 10, 2) := by decide +kernel
theorem dX2_goes_117 : decode cX2_goes 117 = .ok (.laload, 1) := by decide +kernel
theorem dX2_goes_118 : decode cX2_goes 118 = .ok (.lconst 0, 1) := by decide +kernel
theorem dX2_goes_119 : decode cX2_goes 119 = .ok (.lcmp, 1) := by decide +kernel
theorem dX2_goes_120 : decode cX2_goes 120 = .ok (.ifCond .lt 24, 3) := by decide +kernel
theorem dX2_goes_123 : decode cX2_goes 123 = .ok (.iload 9, 2) := by decide +kernel
theorem dX2_goes_125 : decode cX2_goes 125 = .ok (.aload_n 0, 1) := by decide +kernel
theorem dX2_goes_126 : decode cX2_goes 126 = .ok (.getfield 26, 3) := by decide +kernel
theorem dX2_goes_129 : decode cX2_goes 129 = .ok (.aload_n 0, 1) := by decide +kernel
theorem dX2_goes_130 : decode cX2_goes 130 = .ok (.getfield 23, 3) := by decide +kernel
theorem dX2_goes_133 : decode cX2_goes 133 = .ok (.iload 10, 2) := by decide +kernel
theorem dX2_goes_135 : decode cX2_goes 135 = .ok (.laload, 1) := by decide +kernel
theorem dX2_goes_136 : decode cX2_goes 136 = .ok (.l2i, 1) := by decide +kernel
theorem dX2_goes_137 : decode cX2_goes 137 = .ok (.iaload, 1) := by decide +kernel
theorem dX2_goes_138 : decode cX2_goes 138 = .ok (.invokestatic 76, 3) := by decide +kernel
theorem dX2_goes_141 : decode cX2_goes 141 = .ok (.ifCond .eq 7, 3) := by decide +kernel
theorem dX2_goes_144 : decode cX2_goes 144 = .ok (.iconst 1, 1) := by decide +kernel
theorem dX2_goes_145 : decode cX2_goes 145 = .ok (.goto 4, 3) := by decide +kernel
theorem dX2_goes_148 : decode cX2_goes 148 = .ok (.iconst 0, 1) := by decide +kernel
theorem dX2_goes_149 : decode cX2_goes 149 = .ok (.istore 11, 2) := by decide +kernel
theorem dX2_goes_151 : decode cX2_goes 151 = .ok (.iload 11, 2) := by decide +kernel
theorem dX2_goes_153 : decode cX2_goes 153 = .ok (.ifCond .ne 5, 3) := by decide +kernel
theorem dX2_goes_156 : decode cX2_goes 156 = .ok (.iconst 5, 1) := by decide +kernel
theorem dX2_goes_157 : decode cX2_goes 157 = .ok (.ireturn, 1) := by decide +kernel
theorem dX2_goes_158 : decode cX2_goes 158 = .ok (.aload_n 0, 1) := by decide +kernel
theorem dX2_goes_159 : decode cX2_goes 159 = .ok (.getfield 19, 3) := by decide +kernel
theorem dX2_goes_162 : decode cX2_goes 162 = .ok (.iload 8, 2) := by decide +kernel
theorem dX2_goes_164 : decode cX2_goes 164 = .ok (.iload 10, 2) := by decide +kernel
theorem dX2_goes_166 : decode cX2_goes 166 = .ok (.iadd, 1) := by decide +kernel
theorem dX2_goes_167 : decode cX2_goes 167 = .ok (.aload_n 0, 1) := by decide +kernel
theorem dX2_goes_168 : decode cX2_goes 168 = .ok (.getfield 23, 3) := by decide +kernel
theorem dX2_goes_171 : decode cX2_goes 171 = .ok (.iload 10, 2) := by decide +kernel
theorem dX2_goes_173 : decode cX2_goes 173 = .ok (.laload, 1) := by decide +kernel
theorem dX2_goes_174 : decode cX2_goes 174 = .ok (.lastore, 1) := by decide +kernel
theorem dX2_goes_175 : decode cX2_goes 175 = .ok (.aload_n 0, 1) := by decide +kernel
theorem dX2_goes_176 : decode cX2_goes 176 = .ok (.dup, 1) := by decide +kernel
theorem dX2_goes_177 : decode cX2_goes 177 = .ok (.getfield 83, 3) := by decide +kernel
theorem dX2_goes_180 : decode cX2_goes 180 = .ok (.iconst 1, 1) := by decide +kernel
theorem dX2_goes_181 : decode cX2_goes 181 = .ok (.iadd, 1) := by decide +kernel
theorem dX2_goes_182 : decode cX2_goes 182 = .ok (.putfield 83, 3) := by decide +kernel
theorem dX2_goes_185 : decode cX2_goes 185 = .ok (.iinc 10 1, 3) := by decide +kernel
theorem dX2_goes_188 : decode cX2_goes 188 = .ok (.goto (-92), 3) := by decide +kernel
theorem dX2_goes_191 : decode cX2_goes 191 = .ok (.iconst 0, 1) := by decide +kernel
theorem dX2_goes_192 : decode cX2_goes 192 = .ok (.ireturn, 1) := by decide +kernel
theorem dX2_told_0 : decode cX2_told 0 = .ok (.aload_n 0, 1) := by decide +kernel
theorem dX2_told_1 : decode cX2_told 1 = .ok (.dup, 1) := by decide +kernel
theorem dX2_told_2 : decode cX2_told 2 = .ok (.getfield 90, 3) := by decide +kernel
theorem dX2_told_5 : decode cX2_told 5 = .ok (.iconst 1, 1) := by decide +kernel
theorem dX2_told_6 : decode cX2_told 6 = .ok (.iadd, 1) := by decide +kernel
theorem dX2_told_7 : decode cX2_told 7 = .ok (.putfield 90, 3) := by decide +kernel
theorem dX2_told_10 : decode cX2_told 10 = .ok (.aload_n 0, 1) := by decide +kernel
theorem dX2_told_11 : decode cX2_told 11 = .ok (.getfield 32, 3) := by decide +kernel
theorem dX2_told_14 : decode cX2_told 14 = .ok (.iload_n 1, 1) := by decide +kernel
theorem dX2_told_15 : decode cX2_told 15 = .ok (.dup2, 1) := by decide +kernel
theorem dX2_told_16 : decode cX2_told 16 = .ok (.iaload, 1) := by decide +kernel
theorem dX2_told_17 : decode cX2_told 17 = .ok (.iconst 1, 1) := by decide +kernel
theorem dX2_told_18 : decode cX2_told 18 = .ok (.iadd, 1) := by decide +kernel
theorem dX2_told_19 : decode cX2_told 19 = .ok (.iastore, 1) := by decide +kernel
theorem dX2_told_20 : decode cX2_told 20 = .ok (.aload_n 0, 1) := by decide +kernel
theorem dX2_told_21 : decode cX2_told 21 = .ok (.dup, 1) := by decide +kernel
theorem dX2_told_22 : decode cX2_told 22 = .ok (.getfield 93, 3) := by decide +kernel
theorem dX2_told_25 : decode cX2_told 25 = .ok (.aload_n 0, 1) := by decide +kernel
theorem dX2_told_26 : decode cX2_told 26 = .ok (.getfield 83, 3) := by decide +kernel
theorem dX2_told_29 : decode cX2_told 29 = .ok (.iadd, 1) := by decide +kernel
theorem dX2_told_30 : decode cX2_told 30 = .ok (.putfield 93, 3) := by decide +kernel
theorem dX2_told_33 : decode cX2_told 33 = .ok (.iload_n 1, 1) := by decide +kernel
theorem dX2_told_34 : decode cX2_told 34 = .ok (.ireturn, 1) := by decide +kernel
theorem dX2_move_0 : decode cX2_move 0 = .ok (.aload_n 0, 1) := by decide +kernel
theorem dX2_move_1 : decode cX2_move 1 = .ok (.iconst 0, 1) := by decide +kernel
theorem dX2_move_2 : decode cX2_move 2 = .ok (.putfield 35, 3) := by decide +kernel
theorem dX2_move_5 : decode cX2_move 5 = .ok (.iload_n 1, 1) := by decide +kernel
theorem dX2_move_6 : decode cX2_move 6 = .ok (.invokestatic 39, 3) := by decide +kernel
theorem dX2_move_9 : decode cX2_move 9 = .ok (.ifCond .eq 10, 3) := by decide +kernel
theorem dX2_move_12 : decode cX2_move 12 = .ok (.iload_n 3, 1) := by decide +kernel
theorem dX2_move_13 : decode cX2_move 13 = .ok (.invokestatic 39, 3) := by decide +kernel
theorem dX2_move_16 : decode cX2_move 16 = .ok (.ifCond .ne 9, 3) := by decide +kernel
theorem dX2_move_19 : decode cX2_move 19 = .ok (.aload_n 0, 1) := by decide +kernel
theorem dX2_move_20 : decode cX2_move 20 = .ok (.iconst 1, 1) := by decide +kernel
theorem dX2_move_21 : decode cX2_move 21 = .ok (.invokevirtual 43, 3) := by decide +kernel
theorem dX2_move_24 : decode cX2_move 24 = .ok (.ireturn, 1) := by decide +kernel
theorem dX2_move_25 : decode cX2_move 25 = .ok (.aload_n 0, 1) := by decide +kernel
theorem dX2_move_26 : decode cX2_move 26 = .ok (.aload_n 0, 1) := by decide +kernel
theorem dX2_move_27 : decode cX2_move 27 = .ok (.iload_n 1, 1) := by decide +kernel
theorem dX2_move_28 : decode cX2_move 28 = .ok (.iload_n 2, 1) := by decide +kernel
theorem dX2_move_29 : decode cX2_move 29 = .ok (.iload_n 3, 1) := by decide +kernel
theorem dX2_move_30 : decode cX2_move 30 = .ok (.iload 4, 2) := by decide +kernel
theorem dX2_move_32 : decode cX2_move 32 = .ok (.iload 5, 2) := by decide +kernel
theorem dX2_move_34 : decode cX2_move 34 = .ok (.invokevirtual 96, 3) := by decide +kernel
theorem dX2_move_37 : decode cX2_move 37 = .ok (.invokevirtual 99, 3) := by decide +kernel
theorem dX2_move_40 : decode cX2_move 40 = .ok (.ireturn, 1) := by decide +kernel
theorem dX2_pour_0 : decode cX2_pour 0 = .ok (.aload_n 0, 1) := by decide +kernel
theorem dX2_pour_1 : decode cX2_pour 1 = .ok (.iconst 0, 1) := by decide +kernel
theorem dX2_pour_2 : decode cX2_pour 2 = .ok (.putfield 35, 3) := by decide +kernel
theorem dX2_pour_5 : decode cX2_pour 5 = .ok (.iload_n 1, 1) := by decide +kernel
theorem dX2_pour_6 : decode cX2_pour 6 = .ok (.invokestatic 39, 3) := by decide +kernel
theorem dX2_pour_9 : decode cX2_pour 9 = .ok (.ifCond .eq 10, 3) := by decide +kernel
theorem dX2_pour_12 : decode cX2_pour 12 = .ok (.iload_n 2, 1) := by decide +kernel
theorem dX2_pour_13 : decode cX2_pour 13 = .ok (.invokestatic 39, 3) := by decide +kernel
theorem dX2_pour_16 : decode cX2_pour 16 = .ok (.ifCond .ne 9, 3) := by decide +kernel
theorem dX2_pour_19 : decode cX2_pour 19 = .ok (.aload_n 0, 1) := by decide +kernel
theorem dX2_pour_20 : decode cX2_pour 20 = .ok (.iconst 1, 1) := by decide +kernel
theorem dX2_pour_21 : decode cX2_pour 21 = .ok (.invokevirtual 43, 3) := by decide +kernel
theorem dX2_pour_24 : decode cX2_pour 24 = .ok (.ireturn, 1) := by decide +kernel
theorem dX2_pour_25 : decode cX2_pour 25 = .ok (.iconst 0, 1) := by decide +kernel
theorem dX2_pour_26 : decode cX2_pour 26 = .ok (.istore_n 3, 1) := by decide +kernel
theorem dX2_pour_27 : decode cX2_pour 27 = .ok (.aload_n 0, 1) := by decide +kernel
theorem dX2_pour_28 : decode cX2_pour 28 = .ok (.iload_n 1, 1) := by decide +kernel
theorem dX2_pour_29 : decode cX2_pour 29 = .ok (.invokevirtual 58, 3) := by decide +kernel
theorem dX2_pour_32 : decode cX2_pour 32 = .ok (.ifCond .eq 52, 3) := by decide +kernel
theorem dX2_pour_35 : decode cX2_pour 35 = .ok (.aload_n 0, 1) := by decide +kernel
theorem dX2_pour_36 : decode cX2_pour 36 = .ok (.iload_n 2, 1) := by decide +kernel
theorem dX2_pour_37 : decode cX2_pour 37 = .ok (.invokevirtual 58, 3) := by decide +kernel
theorem dX2_pour_40 : decode cX2_pour 40 = .ok (.ifCond .eq 44, 3) := by decide +kernel
theorem dX2_pour_43 : decode cX2_pour 43 = .ok (.aload_n 0, 1) := by decide +kernel
theorem dX2_pour_44 : decode cX2_pour 44 = .ok (.getfield 16, 3) := by decide +kernel
theorem dX2_pour_47 : decode cX2_pour 47 = .ok (.aload_n 0, 1) := by decide +kernel
theorem dX2_pour_48 : decode cX2_pour 48 = .ok (.getfield 7, 3) := by decide +kernel
theorem dX2_pour_51 : decode cX2_pour 51 = .ok (.iload_n 1, 1) := by decide +kernel
theorem dX2_pour_52 : decode cX2_pour 52 = .ok (.iaload, 1) := by decide +kernel
theorem dX2_pour_53 : decode cX2_pour 53 = .ok (.iaload, 1) := by decide +kernel
theorem dX2_pour_54 : decode cX2_pour 54 = .ok (.istore 4, 2) := by decide +kernel
theorem dX2_pour_56 : decode cX2_pour 56 = .ok (.aload_n 0, 1) := by decide +kernel
theorem dX2_pour_57 : decode cX2_pour 57 = .ok (.getfield 16, 3) := by decide +kernel
theorem dX2_pour_60 : decode cX2_pour 60 = .ok (.aload_n 0, 1) := by decide +kernel
theorem dX2_pour_61 : decode cX2_pour 61 = .ok (.getfield 7, 3) := by decide +kernel
theorem dX2_pour_64 : decode cX2_pour 64 = .ok (.iload_n 2, 1) := by decide +kernel
theorem dX2_pour_65 : decode cX2_pour 65 = .ok (.iaload, 1) := by decide +kernel
theorem dX2_pour_66 : decode cX2_pour 66 = .ok (.iaload, 1) := by decide +kernel
theorem dX2_pour_67 : decode cX2_pour 67 = .ok (.istore 5, 2) := by decide +kernel
theorem dX2_pour_69 : decode cX2_pour 69 = .ok (.iload 4, 2) := by decide +kernel
theorem dX2_pour_71 : decode cX2_pour 71 = .ok (.iload 5, 2) := by decide +kernel
theorem dX2_pour_73 : decode cX2_pour 73 = .ok (.if_icmp .ge 8, 3) := by decide +kernel
theorem dX2_pour_76 : decode cX2_pour 76 = .ok (.iload 4, 2) := by decide +kernel
theorem dX2_pour_78 : decode cX2_pour 78 = .ok (.goto 5, 3) := by decide +kernel
theorem dX2_pour_81 : decode cX2_pour 81 = .ok (.iload 5, 2) := by decide +kernel
theorem dX2_pour_83 : decode cX2_pour 83 = .ok (.istore_n 3, 1) := by decide +kernel
theorem dX2_pour_84 : decode cX2_pour 84 = .ok (.aload_n 0, 1) := by decide +kernel
theorem dX2_pour_85 : decode cX2_pour 85 = .ok (.aload_n 0, 1) := by decide +kernel
theorem dX2_pour_86 : decode cX2_pour 86 = .ok (.iload_n 1, 1) := by decide +kernel
theorem dX2_pour_87 : decode cX2_pour 87 = .ok (.iconst 0, 1) := by decide +kernel
theorem dX2_pour_88 : decode cX2_pour 88 = .ok (.iload_n 2, 1) := by decide +kernel
theorem dX2_pour_89 : decode cX2_pour 89 = .ok (.iconst 0, 1) := by decide +kernel
theorem dX2_pour_90 : decode cX2_pour 90 = .ok (.iload_n 3, 1) := by decide +kernel
theorem dX2_pour_91 : decode cX2_pour 91 = .ok (.invokevirtual 96, 3) := by decide +kernel
theorem dX2_pour_94 : decode cX2_pour 94 = .ok (.invokevirtual 99, 3) := by decide +kernel
theorem dX2_pour_97 : decode cX2_pour 97 = .ok (.ireturn, 1) := by decide +kernel
theorem dX2_moved_0 : decode cX2_moved 0 = .ok (.aload_n 0, 1) := by decide +kernel
theorem dX2_moved_1 : decode cX2_moved 1 = .ok (.iconst 0, 1) := by decide +kernel
theorem dX2_moved_2 : decode cX2_moved 2 = .ok (.putfield 35, 3) := by decide +kernel
theorem dX2_moved_5 : decode cX2_moved 5 = .ok (.aload_n 0, 1) := by decide +kernel
theorem dX2_moved_6 : decode cX2_moved 6 = .ok (.getfield 83, 3) := by decide +kernel
theorem dX2_moved_9 : decode cX2_moved 9 = .ok (.ireturn, 1) := by decide +kernel
theorem dX2_at_0 : decode cX2_at 0 = .ok (.aload_n 0, 1) := by decide +kernel
theorem dX2_at_1 : decode cX2_at 1 = .ok (.iconst 0, 1) := by decide +kernel
theorem dX2_at_2 : decode cX2_at 2 = .ok (.putfield 35, 3) := by decide +kernel
theorem dX2_at_5 : decode cX2_at 5 = .ok (.iload_n 1, 1) := by decide +kernel
theorem dX2_at_6 : decode cX2_at 6 = .ok (.invokestatic 39, 3) := by decide +kernel
theorem dX2_at_9 : decode cX2_at 9 = .ok (.ifCond .ne 10, 3) := by decide +kernel
theorem dX2_at_12 : decode cX2_at 12 = .ok (.aload_n 0, 1) := by decide +kernel
theorem dX2_at_13 : decode cX2_at 13 = .ok (.iconst 1, 1) := by decide +kernel
theorem dX2_at_14 : decode cX2_at 14 = .ok (.invokevirtual 43, 3) := by decide +kernel
theorem dX2_at_17 : decode cX2_at 17 = .ok (.i2l, 1) := by decide +kernel
theorem dX2_at_18 : decode cX2_at 18 = .ok (.lreturn, 1) := by decide +kernel
theorem dX2_at_19 : decode cX2_at 19 = .ok (.aload_n 0, 1) := by decide +kernel
theorem dX2_at_20 : decode cX2_at 20 = .ok (.iload_n 1, 1) := by decide +kernel
theorem dX2_at_21 : decode cX2_at 21 = .ok (.invokevirtual 58, 3) := by decide +kernel
theorem dX2_at_24 : decode cX2_at 24 = .ok (.ifCond .ne 10, 3) := by decide +kernel
theorem dX2_at_27 : decode cX2_at 27 = .ok (.aload_n 0, 1) := by decide +kernel
theorem dX2_at_28 : decode cX2_at 28 = .ok (.iconst 2, 1) := by decide +kernel
theorem dX2_at_29 : decode cX2_at 29 = .ok (.invokevirtual 43, 3) := by decide +kernel
theorem dX2_at_32 : decode cX2_at 32 = .ok (.i2l, 1) := by decide +kernel
theorem dX2_at_33 : decode cX2_at 33 = .ok (.lreturn, 1) := by decide +kernel
theorem dX2_at_34 : decode cX2_at 34 = .ok (.aload_n 0, 1) := by decide +kernel
theorem dX2_at_35 : decode cX2_at 35 = .ok (.iload_n 1, 1) := by decide +kernel
theorem dX2_at_36 : decode cX2_at 36 = .ok (.iload_n 2, 1) := by decide +kernel
theorem dX2_at_37 : decode cX2_at 37 = .ok (.invokevirtual 61, 3) := by decide +kernel
theorem dX2_at_40 : decode cX2_at 40 = .ok (.ifCond .eq 22, 3) := by decide +kernel
theorem dX2_at_43 : decode cX2_at 43 = .ok (.aload_n 0, 1) := by decide +kernel
theorem dX2_at_44 : decode cX2_at 44 = .ok (.getfield 19, 3) := by decide +kernel
theorem dX2_at_47 : decode cX2_at 47 = .ok (.bipush 24, 2) := by decide +kernel
theorem dX2_at_49 : decode cX2_at 49 = .ok (.aload_n 0, 1) := by decide +kernel
theorem dX2_at_50 : decode cX2_at 50 = .ok (.getfield 7, 3) := by decide +kernel
theorem dX2_at_53 : decode cX2_at 53 = .ok (.iload_n 1, 1) := by decide +kernel
theorem dX2_at_54 : decode cX2_at 54 = .ok (.iaload, 1) := by decide +kernel
theorem dX2_at_55 : decode cX2_at 55 = .ok (.imul, 1) := by decide +kernel
theorem dX2_at_56 : decode cX2_at 56 = .ok (.iload_n 2, 1) := by decide +kernel
theorem dX2_at_57 : decode cX2_at 57 = .ok (.iadd, 1) := by decide +kernel
theorem dX2_at_58 : decode cX2_at 58 = .ok (.laload, 1) := by decide +kernel
theorem dX2_at_59 : decode cX2_at 59 = .ok (.goto 9, 3) := by decide +kernel
theorem dX2_at_62 : decode cX2_at 62 = .ok (.aload_n 0, 1) := by decide +kernel
theorem dX2_at_63 : decode cX2_at 63 = .ok (.iconst 3, 1) := by decide +kernel
theorem dX2_at_64 : decode cX2_at 64 = .ok (.invokevirtual 43, 3) := by decide +kernel
theorem dX2_at_67 : decode cX2_at 67 = .ok (.i2l, 1) := by decide +kernel
theorem dX2_at_68 : decode cX2_at 68 = .ok (.lreturn, 1) := by decide +kernel
theorem dX2_holds_0 : decode cX2_holds 0 = .ok (.aload_n 0, 1) := by decide +kernel
theorem dX2_holds_1 : decode cX2_holds 1 = .ok (.iconst 0, 1) := by decide +kernel
theorem dX2_holds_2 : decode cX2_holds 2 = .ok (.putfield 35, 3) := by decide +kernel
theorem dX2_holds_5 : decode cX2_holds 5 = .ok (.iload_n 1, 1) := by decide +kernel
theorem dX2_holds_6 : decode cX2_holds 6 = .ok (.invokestatic 39, 3) := by decide +kernel
theorem dX2_holds_9 : decode cX2_holds 9 = .ok (.ifCond .eq 11, 3) := by decide +kernel
theorem dX2_holds_12 : decode cX2_holds 12 = .ok (.aload_n 0, 1) := by decide +kernel
theorem dX2_holds_13 : decode cX2_holds 13 = .ok (.iload_n 1, 1) := by decide +kernel
theorem dX2_holds_14 : decode cX2_holds 14 = .ok (.invokevirtual 55, 3) := by decide +kernel
theorem dX2_holds_17 : decode cX2_holds 17 = .ok (.goto 8, 3) := by decide +kernel
theorem dX2_holds_20 : decode cX2_holds 20 = .ok (.aload_n 0, 1) := by decide +kernel
theorem dX2_holds_21 : decode cX2_holds 21 = .ok (.iconst 1, 1) := by decide +kernel
theorem dX2_holds_22 : decode cX2_holds 22 = .ok (.invokevirtual 43, 3) := by decide +kernel
theorem dX2_holds_25 : decode cX2_holds 25 = .ok (.ireturn, 1) := by decide +kernel
theorem dX2_places_0 : decode cX2_places 0 = .ok (.aload_n 0, 1) := by decide +kernel
theorem dX2_places_1 : decode cX2_places 1 = .ok (.iconst 0, 1) := by decide +kernel
theorem dX2_places_2 : decode cX2_places 2 = .ok (.putfield 35, 3) := by decide +kernel
theorem dX2_places_5 : decode cX2_places 5 = .ok (.iload_n 1, 1) := by decide +kernel
theorem dX2_places_6 : decode cX2_places 6 = .ok (.invokestatic 39, 3) := by decide +kernel
theorem dX2_places_9 : decode cX2_places 9 = .ok (.ifCond .ne 9, 3) := by decide +kernel
theorem dX2_places_12 : decode cX2_places 12 = .ok (.aload_n 0, 1) := by decide +kernel
theorem dX2_places_13 : decode cX2_places 13 = .ok (.iconst 1, 1) := by decide +kernel
theorem dX2_places_14 : decode cX2_places 14 = .ok (.invokevirtual 43, 3) := by decide +kernel
theorem dX2_places_17 : decode cX2_places 17 = .ok (.ireturn, 1) := by decide +kernel
theorem dX2_places_18 : decode cX2_places 18 = .ok (.aload_n 0, 1) := by decide +kernel
theorem dX2_places_19 : decode cX2_places 19 = .ok (.iload_n 1, 1) := by decide +kernel
theorem dX2_places_20 : decode cX2_places 20 = .ok (.invokevirtual 58, 3) := by decide +kernel
theorem dX2_places_23 : decode cX2_places 23 = .ok (.ifCond .eq 17, 3) := by decide +kernel
theorem dX2_places_26 : decode cX2_places 26 = .ok (.aload_n 0, 1) := by decide +kernel
theorem dX2_places_27 : decode cX2_places 27 = .ok (.getfield 16, 3) := by decide +kernel
theorem dX2_places_30 : decode cX2_places 30 = .ok (.aload_n 0, 1) := by decide +kernel
theorem dX2_places_31 : decode cX2_places 31 = .ok (.getfield 7, 3) := by decide +kernel
theorem dX2_places_34 : decode cX2_places 34 = .ok (.iload_n 1, 1) := by decide +kernel
theorem dX2_places_35 : decode cX2_places 35 = .ok (.iaload, 1) := by decide +kernel
theorem dX2_places_36 : decode cX2_places 36 = .ok (.iaload, 1) := by decide +kernel
theorem dX2_places_37 : decode cX2_places 37 = .ok (.goto 8, 3) := by decide +kernel
theorem dX2_places_40 : decode cX2_places 40 = .ok (.aload_n 0, 1) := by decide +kernel
theorem dX2_places_41 : decode cX2_places 41 = .ok (.iconst 2, 1) := by decide +kernel
theorem dX2_places_42 : decode cX2_places 42 = .ok (.invokevirtual 43, 3) := by decide +kernel
theorem dX2_places_45 : decode cX2_places 45 = .ok (.ireturn, 1) := by decide +kernel
theorem dX2_same_0 : decode cX2_same 0 = .ok (.aload_n 0, 1) := by decide +kernel
theorem dX2_same_1 : decode cX2_same 1 = .ok (.iconst 0, 1) := by decide +kernel
theorem dX2_same_2 : decode cX2_same 2 = .ok (.putfield 35, 3) := by decide +kernel
theorem dX2_same_5 : decode cX2_same 5 = .ok (.iload_n 1, 1) := by decide +kernel
theorem dX2_same_6 : decode cX2_same 6 = .ok (.invokestatic 39, 3) := by decide +kernel
theorem dX2_same_9 : decode cX2_same 9 = .ok (.ifCond .eq 10, 3) := by decide +kernel
theorem dX2_same_12 : decode cX2_same 12 = .ok (.iload_n 2, 1) := by decide +kernel
theorem dX2_same_13 : decode cX2_same 13 = .ok (.invokestatic 39, 3) := by decide +kernel
theorem dX2_same_16 : decode cX2_same 16 = .ok (.ifCond .ne 17, 3) := by decide +kernel
theorem dX2_same_19 : decode cX2_same 19 = .ok (.aload_n 0, 1) := by decide +kernel
theorem dX2_same_20 : decode cX2_same 20 = .ok (.iconst 1, 1) := by decide +kernel
theorem dX2_same_21 : decode cX2_same 21 = .ok (.invokevirtual 43, 3) := by decide +kernel
theorem dX2_same_24 : decode cX2_same 24 = .ok (.ifCond .le 7, 3) := by decide +kernel
theorem dX2_same_27 : decode cX2_same 27 = .ok (.iconst 1, 1) := by decide +kernel
theorem dX2_same_28 : decode cX2_same 28 = .ok (.goto 4, 3) := by decide +kernel
theorem dX2_same_31 : decode cX2_same 31 = .ok (.iconst 0, 1) := by decide +kernel
theorem dX2_same_32 : decode cX2_same 32 = .ok (.ireturn, 1) := by decide +kernel
theorem dX2_same_33 : decode cX2_same 33 = .ok (.aload_n 0, 1) := by decide +kernel
theorem dX2_same_34 : decode cX2_same 34 = .ok (.iload_n 1, 1) := by decide +kernel
theorem dX2_same_35 : decode cX2_same 35 = .ok (.invokevirtual 58, 3) := by decide +kernel
theorem dX2_same_38 : decode cX2_same 38 = .ok (.ifCond .eq 22, 3) := by decide +kernel
theorem dX2_same_41 : decode cX2_same 41 = .ok (.aload_n 0, 1) := by decide +kernel
theorem dX2_same_42 : decode cX2_same 42 = .ok (.getfield 7, 3) := by decide +kernel
theorem dX2_same_45 : decode cX2_same 45 = .ok (.iload_n 1, 1) := by decide +kernel
theorem dX2_same_46 : decode cX2_same 46 = .ok (.iaload, 1) := by decide +kernel
theorem dX2_same_47 : decode cX2_same 47 = .ok (.aload_n 0, 1) := by decide +kernel
theorem dX2_same_48 : decode cX2_same 48 = .ok (.getfield 7, 3) := by decide +kernel
theorem dX2_same_51 : decode cX2_same 51 = .ok (.iload_n 2, 1) := by decide +kernel
theorem dX2_same_52 : decode cX2_same 52 = .ok (.iaload, 1) := by decide +kernel
theorem dX2_same_53 : decode cX2_same 53 = .ok (.if_icmp .ne 7, 3) := by decide +kernel
theorem dX2_same_56 : decode cX2_same 56 = .ok (.iconst 1, 1) := by decide +kernel
theorem dX2_same_57 : decode cX2_same 57 = .ok (.goto 4, 3) := by decide +kernel
theorem dX2_same_60 : decode cX2_same 60 = .ok (.iconst 0, 1) := by decide +kernel
theorem dX2_same_61 : decode cX2_same 61 = .ok (.ireturn, 1) := by decide +kernel
theorem dX2_all_0 : decode cX2_all 0 = .ok (.aload_n 0, 1) := by decide +kernel
theorem dX2_all_1 : decode cX2_all 1 = .ok (.iconst 0, 1) := by decide +kernel
theorem dX2_all_2 : decode cX2_all 2 = .ok (.putfield 35, 3) := by decide +kernel
theorem dX2_all_5 : decode cX2_all 5 = .ok (.iload_n 1, 1) := by decide +kernel
theorem dX2_all_6 : decode cX2_all 6 = .ok (.invokestatic 39, 3) := by decide +kernel
theorem dX2_all_9 : decode cX2_all 9 = .ok (.ifCond .ne 10, 3) := by decide +kernel
theorem dX2_all_12 : decode cX2_all 12 = .ok (.aload_n 0, 1) := by decide +kernel
theorem dX2_all_13 : decode cX2_all 13 = .ok (.iconst 1, 1) := by decide +kernel
theorem dX2_all_14 : decode cX2_all 14 = .ok (.invokevirtual 43, 3) := by decide +kernel
theorem dX2_all_17 : decode cX2_all 17 = .ok (.i2l, 1) := by decide +kernel
theorem dX2_all_18 : decode cX2_all 18 = .ok (.lreturn, 1) := by decide +kernel
theorem dX2_all_19 : decode cX2_all 19 = .ok (.aload_n 0, 1) := by decide +kernel
theorem dX2_all_20 : decode cX2_all 20 = .ok (.iload_n 1, 1) := by decide +kernel
theorem dX2_all_21 : decode cX2_all 21 = .ok (.invokevirtual 58, 3) := by decide +kernel
theorem dX2_all_24 : decode cX2_all 24 = .ok (.ifCond .ne 10, 3) := by decide +kernel
theorem dX2_all_27 : decode cX2_all 27 = .ok (.aload_n 0, 1) := by decide +kernel
theorem dX2_all_28 : decode cX2_all 28 = .ok (.iconst 2, 1) := by decide +kernel
theorem dX2_all_29 : decode cX2_all 29 = .ok (.invokevirtual 43, 3) := by decide +kernel
theorem dX2_all_32 : decode cX2_all 32 = .ok (.i2l, 1) := by decide +kernel
theorem dX2_all_33 : decode cX2_all 33 = .ok (.lreturn, 1) := by decide +kernel
theorem dX2_all_34 : decode cX2_all 34 = .ok (.aload_n 0, 1) := by decide +kernel
theorem dX2_all_35 : decode cX2_all 35 = .ok (.getfield 7, 3) := by decide +kernel
theorem dX2_all_38 : decode cX2_all 38 = .ok (.iload_n 1, 1) := by decide +kernel
theorem dX2_all_39 : decode cX2_all 39 = .ok (.iaload, 1) := by decide +kernel
theorem dX2_all_40 : decode cX2_all 40 = .ok (.istore_n 2, 1) := by decide +kernel
theorem dX2_all_41 : decode cX2_all 41 = .ok (.aload_n 0, 1) := by decide +kernel
theorem dX2_all_42 : decode cX2_all 42 = .ok (.getfield 13, 3) := by decide +kernel
theorem dX2_all_45 : decode cX2_all 45 = .ok (.iload_n 2, 1) := by decide +kernel
theorem dX2_all_46 : decode cX2_all 46 = .ok (.iaload, 1) := by decide +kernel
theorem dX2_all_47 : decode cX2_all 47 = .ok (.invokestatic 50, 3) := by decide +kernel
theorem dX2_all_50 : decode cX2_all 50 = .ok (.istore_n 3, 1) := by decide +kernel
theorem dX2_all_51 : decode cX2_all 51 = .ok (.lconst 0, 1) := by decide +kernel
theorem dX2_all_52 : decode cX2_all 52 = .ok (.lstore 4, 2) := by decide +kernel
theorem dX2_all_54 : decode cX2_all 54 = .ok (.bipush 24, 2) := by decide +kernel
theorem dX2_all_56 : decode cX2_all 56 = .ok (.iload_n 2, 1) := by decide +kernel
theorem dX2_all_57 : decode cX2_all 57 = .ok (.imul, 1) := by decide +kernel
theorem dX2_all_58 : decode cX2_all 58 = .ok (.istore 6, 2) := by decide +kernel
theorem dX2_all_60 : decode cX2_all 60 = .ok (.iload 6, 2) := by decide +kernel
theorem dX2_all_62 : decode cX2_all 62 = .ok (.bipush 24, 2) := by decide +kernel
theorem dX2_all_64 : decode cX2_all 64 = .ok (.iload_n 2, 1) := by decide +kernel
theorem dX2_all_65 : decode cX2_all 65 = .ok (.imul, 1) := by decide +kernel
theorem dX2_all_66 : decode cX2_all 66 = .ok (.aload_n 0, 1) := by decide +kernel
theorem dX2_all_67 : decode cX2_all 67 = .ok (.getfield 16, 3) := by decide +kernel
theorem dX2_all_70 : decode cX2_all 70 = .ok (.iload_n 2, 1) := by decide +kernel
theorem dX2_all_71 : decode cX2_all 71 = .ok (.iaload, 1) := by decide +kernel
theorem dX2_all_72 : decode cX2_all 72 = .ok (.iadd, 1) := by decide +kernel
theorem dX2_all_73 : decode cX2_all 73 = .ok (.if_icmp .ge 52, 3) := by decide +kernel
theorem dX2_all_76 : decode cX2_all 76 = .ok (.aload_n 0, 1) := by decide +kernel
theorem dX2_all_77 : decode cX2_all 77 = .ok (.getfield 19, 3) := by decide +kernel
theorem dX2_all_80 : decode cX2_all 80 = .ok (.iload 6, 2) := by decide +kernel
theorem dX2_all_82 : decode cX2_all 82 = .ok (.laload, 1) := by decide +kernel
theorem dX2_all_83 : decode cX2_all 83 = .ok (.lstore 7, 2) := by decide +kernel
theorem dX2_all_85 : decode cX2_all 85 = .ok (.lload 4, 2) := by decide +kernel
theorem dX2_all_87 : decode cX2_all 87 = .ok (.iload_n 3, 1) := by decide +kernel
theorem dX2_all_88 : decode cX2_all 88 = .ok (.ifCond .ne 8, 3) := by decide +kernel
theorem dX2_all_91 : decode cX2_all 91 = .ok (.lload 7, 2) := by decide +kernel
theorem dX2_all_93 : decode cX2_all 93 = .ok (.goto 23, 3) := by decide +kernel
theorem dX2_all_96 : decode cX2_all 96 = .ok (.lload 7, 2) := by decide +kernel
theorem dX2_all_98 : decode cX2_all 98 = .ok (.lconst 0, 1) := by decide +kernel
theorem dX2_all_99 : decode cX2_all 99 = .ok (.lcmp, 1) := by decide +kernel
theorem dX2_all_100 : decode cX2_all 100 = .ok (.ifCond .ge 7, 3) := by decide +kernel
theorem dX2_all_103 : decode cX2_all 103 = .ok (.lconst 0, 1) := by decide +kernel
theorem dX2_all_104 : decode cX2_all 104 = .ok (.goto 12, 3) := by decide +kernel
theorem dX2_all_107 : decode cX2_all 107 = .ok (.aload_n 0, 1) := by decide +kernel
theorem dX2_all_108 : decode cX2_all 108 = .ok (.getfield 29, 3) := by decide +kernel
theorem dX2_all_111 : decode cX2_all 111 = .ok (.lload 7, 2) := by decide +kernel
theorem dX2_all_113 : decode cX2_all 113 = .ok (.l2i, 1) := by decide +kernel
theorem dX2_all_114 : decode cX2_all 114 = .ok (.iaload, 1) := by decide +kernel
theorem dX2_all_115 : decode cX2_all 115 = .ok (.i2l, 1) := by decide +kernel
theorem dX2_all_116 : decode cX2_all 116 = .ok (.ladd, 1) := by decide +kernel
theorem dX2_all_117 : decode cX2_all 117 = .ok (.lstore 4, 2) := by decide +kernel
theorem dX2_all_119 : decode cX2_all 119 = .ok (.iinc 6 1, 3) := by decide +kernel
theorem dX2_all_122 : decode cX2_all 122 = .ok (.goto (-62), 3) := by decide +kernel
theorem dX2_all_125 : decode cX2_all 125 = .ok (.lload 4, 2) := by decide +kernel
theorem dX2_all_127 : decode cX2_all 127 = .ok (.lreturn, 1) := by decide +kernel
theorem dX2_isComb_0 : decode cX2_isComb 0 = .ok (.iload_n 1, 1) := by decide +kernel
theorem dX2_isComb_1 : decode cX2_isComb 1 = .ok (.ifCond .lt 15, 3) := by decide +kernel
theorem dX2_isComb_4 : decode cX2_isComb 4 = .ok (.iload_n 1, 1) := by decide +kernel
theorem dX2_isComb_5 : decode cX2_isComb 5 = .ok (.aload_n 0, 1) := by decide +kernel
theorem dX2_isComb_6 : decode cX2_isComb 6 = .ok (.getfield 73, 3) := by decide +kernel
theorem dX2_isComb_9 : decode cX2_isComb 9 = .ok (.if_icmp .ge 7, 3) := by decide +kernel
theorem dX2_isComb_12 : decode cX2_isComb 12 = .ok (.iconst 1, 1) := by decide +kernel
theorem dX2_isComb_13 : decode cX2_isComb 13 = .ok (.goto 4, 3) := by decide +kernel
theorem dX2_isComb_16 : decode cX2_isComb 16 = .ok (.iconst 0, 1) := by decide +kernel
theorem dX2_isComb_17 : decode cX2_isComb 17 = .ok (.ireturn, 1) := by decide +kernel
theorem dX2_feed_0 : decode cX2_feed 0 = .ok (.aload_n 0, 1) := by decide +kernel
theorem dX2_feed_1 : decode cX2_feed 1 = .ok (.iconst 0, 1) := by decide +kernel
theorem dX2_feed_2 : decode cX2_feed 2 = .ok (.putfield 35, 3) := by decide +kernel
theorem dX2_feed_5 : decode cX2_feed 5 = .ok (.aload_n 0, 1) := by decide +kernel
theorem dX2_feed_6 : decode cX2_feed 6 = .ok (.iload_n 1, 1) := by decide +kernel
theorem dX2_feed_7 : decode cX2_feed 7 = .ok (.invokevirtual 102, 3) := by decide +kernel
theorem dX2_feed_10 : decode cX2_feed 10 = .ok (.ifCond .ne 9, 3) := by decide +kernel
theorem dX2_feed_13 : decode cX2_feed 13 = .ok (.aload_n 0, 1) := by decide +kernel
theorem dX2_feed_14 : decode cX2_feed 14 = .ok (.iconst 1, 1) := by decide +kernel
theorem dX2_feed_15 : decode cX2_feed 15 = .ok (.invokevirtual 43, 3) := by decide +kernel
theorem dX2_feed_18 : decode cX2_feed 18 = .ok (.ireturn, 1) := by decide +kernel
theorem dX2_feed_19 : decode cX2_feed 19 = .ok (.aload_n 0, 1) := by decide +kernel
theorem dX2_feed_20 : decode cX2_feed 20 = .ok (.getfield 29, 3) := by decide +kernel
theorem dX2_feed_23 : decode cX2_feed 23 = .ok (.iload_n 1, 1) := by decide +kernel
theorem dX2_feed_24 : decode cX2_feed 24 = .ok (.dup2, 1) := by decide +kernel
theorem dX2_feed_25 : decode cX2_feed 25 = .ok (.iaload, 1) := by decide +kernel
theorem dX2_feed_26 : decode cX2_feed 26 = .ok (.iload_n 2, 1) := by decide +kernel
theorem dX2_feed_27 : decode cX2_feed 27 = .ok (.iadd, 1) := by decide +kernel
theorem dX2_feed_28 : decode cX2_feed 28 = .ok (.iastore, 1) := by decide +kernel
theorem dX2_feed_29 : decode cX2_feed 29 = .ok (.aload_n 0, 1) := by decide +kernel
theorem dX2_feed_30 : decode cX2_feed 30 = .ok (.getfield 29, 3) := by decide +kernel
theorem dX2_feed_33 : decode cX2_feed 33 = .ok (.iload_n 1, 1) := by decide +kernel
theorem dX2_feed_34 : decode cX2_feed 34 = .ok (.iaload, 1) := by decide +kernel
theorem dX2_feed_35 : decode cX2_feed 35 = .ok (.ireturn, 1) := by decide +kernel
theorem dX2_kind_0 : decode cX2_kind 0 = .ok (.aload_n 0, 1) := by decide +kernel
theorem dX2_kind_1 : decode cX2_kind 1 = .ok (.iconst 0, 1) := by decide +kernel
theorem dX2_kind_2 : decode cX2_kind 2 = .ok (.putfield 35, 3) := by decide +kernel
theorem dX2_kind_5 : decode cX2_kind 5 = .ok (.aload_n 0, 1) := by decide +kernel
theorem dX2_kind_6 : decode cX2_kind 6 = .ok (.iload_n 1, 1) := by decide +kernel
theorem dX2_kind_7 : decode cX2_kind 7 = .ok (.invokevirtual 102, 3) := by decide +kernel
theorem dX2_kind_10 : decode cX2_kind 10 = .ok (.ifCond .eq 12, 3) := by decide +kernel
theorem dX2_kind_13 : decode cX2_kind 13 = .ok (.aload_n 0, 1) := by decide +kernel
theorem dX2_kind_14 : decode cX2_kind 14 = .ok (.getfield 26, 3) := by decide +kernel
theorem dX2_kind_17 : decode cX2_kind 17 = .ok (.iload_n 1, 1) := by decide +kernel
theorem dX2_kind_18 : decode cX2_kind 18 = .ok (.iaload, 1) := by decide +kernel
theorem dX2_kind_19 : decode cX2_kind 19 = .ok (.goto 8, 3) := by decide +kernel
theorem dX2_kind_22 : decode cX2_kind 22 = .ok (.aload_n 0, 1) := by decide +kernel
theorem dX2_kind_23 : decode cX2_kind 23 = .ok (.iconst 1, 1) := by decide +kernel
theorem dX2_kind_24 : decode cX2_kind 24 = .ok (.invokevirtual 43, 3) := by decide +kernel
theorem dX2_kind_27 : decode cX2_kind 27 = .ok (.ireturn, 1) := by decide +kernel
theorem dX2_count_0 : decode cX2_count 0 = .ok (.aload_n 0, 1) := by decide +kernel
theorem dX2_count_1 : decode cX2_count 1 = .ok (.iconst 0, 1) := by decide +kernel
theorem dX2_count_2 : decode cX2_count 2 = .ok (.putfield 35, 3) := by decide +kernel
theorem dX2_count_5 : decode cX2_count 5 = .ok (.iload_n 1, 1) := by decide +kernel
theorem dX2_count_6 : decode cX2_count 6 = .ok (.ifCond .ne 8, 3) := by decide +kernel
theorem dX2_count_9 : decode cX2_count 9 = .ok (.aload_n 0, 1) := by decide +kernel
theorem dX2_count_10 : decode cX2_count 10 = .ok (.getfield 47, 3) := by decide +kernel
theorem dX2_count_13 : decode cX2_count 13 = .ok (.ireturn, 1) := by decide +kernel
theorem dX2_count_14 : decode cX2_count 14 = .ok (.iload_n 1, 1) := by decide +kernel
theorem dX2_count_15 : decode cX2_count 15 = .ok (.iconst 1, 1) := by decide +kernel
theorem dX2_count_16 : decode cX2_count 16 = .ok (.if_icmp .ne 8, 3) := by decide +kernel
theorem dX2_count_19 : decode cX2_count 19 = .ok (.aload_n 0, 1) := by decide +kernel
theorem dX2_count_20 : decode cX2_count 20 = .ok (.getfield 73, 3) := by decide +kernel
theorem dX2_count_23 : decode cX2_count 23 = .ok (.ireturn, 1) := by decide +kernel
theorem dX2_count_24 : decode cX2_count 24 = .ok (.iload_n 1, 1) := by decide +kernel
theorem dX2_count_25 : decode cX2_count 25 = .ok (.iconst 2, 1) := by decide +kernel
theorem dX2_count_26 : decode cX2_count 26 = .ok (.if_icmp .ne 8, 3) := by decide +kernel
theorem dX2_count_29 : decode cX2_count 29 = .ok (.aload_n 0, 1) := by decide +kernel
theorem dX2_count_30 : decode cX2_count 30 = .ok (.getfield 90, 3) := by decide +kernel
theorem dX2_count_33 : decode cX2_count 33 = .ok (.ireturn, 1) := by decide +kernel
theorem dX2_count_34 : decode cX2_count 34 = .ok (.iload_n 1, 1) := by decide +kernel
theorem dX2_count_35 : decode cX2_count 35 = .ok (.iconst 3, 1) := by decide +kernel
theorem dX2_count_36 : decode cX2_count 36 = .ok (.if_icmp .lt 18, 3) := by decide +kernel
theorem dX2_count_39 : decode cX2_count 39 = .ok (.iload_n 1, 1) := by decide +kernel
theorem dX2_count_40 : decode cX2_count 40 = .ok (.bipush 7, 2) := by decide +kernel
theorem dX2_count_42 : decode cX2_count 42 = .ok (.if_icmp .gt 12, 3) := by decide +kernel
theorem dX2_count_45 : decode cX2_count 45 = .ok (.aload_n 0, 1) := by decide +kernel
theorem dX2_count_46 : decode cX2_count 46 = .ok (.getfield 32, 3) := by decide +kernel
theorem dX2_count_49 : decode cX2_count 49 = .ok (.iload_n 1, 1) := by decide +kernel
theorem dX2_count_50 : decode cX2_count 50 = .ok (.iconst 2, 1) := by decide +kernel
theorem dX2_count_51 : decode cX2_count 51 = .ok (.isub, 1) := by decide +kernel
theorem dX2_count_52 : decode cX2_count 52 = .ok (.iaload, 1) := by decide +kernel
theorem dX2_count_53 : decode cX2_count 53 = .ok (.ireturn, 1) := by decide +kernel
theorem dX2_count_54 : decode cX2_count 54 = .ok (.iload_n 1, 1) := by decide +kernel
theorem dX2_count_55 : decode cX2_count 55 = .ok (.bipush 8, 2) := by decide +kernel
theorem dX2_count_57 : decode cX2_count 57 = .ok (.if_icmp .ne 10, 3) := by decide +kernel
theorem dX2_count_60 : decode cX2_count 60 = .ok (.aload_n 0, 1) := by decide +kernel
theorem dX2_count_61 : decode cX2_count 61 = .ok (.getfield 93, 3) := by decide +kernel
theorem dX2_count_64 : decode cX2_count 64 = .ok (.goto 4, 3) := by decide +kernel
theorem dX2_count_67 : decode cX2_count 67 = .ok (.iconst (-1), 1) := by decide +kernel
theorem dX2_count_68 : decode cX2_count 68 = .ok (.ireturn, 1) := by decide +kernel
