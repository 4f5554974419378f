theorem dX0_init_0 : decode cX0_init 0 = .ok (.aload_n 0, 1) := by decide +kernel
theorem dX0_init_1 : decode cX0_init 1 = .ok (.invokespecial 1, 3) := by decide +kernel
theorem dX0_init_4 : decode cX0_init 4 = .ok (.aload_n 0, 1) := by decide +kernel
theorem dX0_init_5 : decode cX0_init 5 = .ok (.iload_n 1, 1) := by decide +kernel
theorem dX0_init_6 : decode cX0_init 6 = .ok (.putfield 7, 3) := by decide +kernel
theorem dX0_init_9 : decode cX0_init 9 = .ok (.aload_n 0, 1) := by decide +kernel
theorem dX0_init_10 : decode cX0_init 10 = .ok (.aload_n 2, 1) := by decide +kernel
theorem dX0_init_11 : decode cX0_init 11 = .ok (.putfield 13, 3) := by decide +kernel
theorem dX0_init_14 : decode cX0_init 14 = .ok (.return_, 1) := by decide +kernel
theorem dX1_init_0 : decode cX1_init 0 = .ok (.aload_n 0, 1) := by decide +kernel
theorem dX1_init_1 : decode cX1_init 1 = .ok (.invokespecial 1, 3) := by decide +kernel
theorem dX1_init_4 : decode cX1_init 4 = .ok (.aload_n 0, 1) := by decide +kernel
theorem dX1_init_5 : decode cX1_init 5 = .ok (.bipush 12, 2) := by decide +kernel
theorem dX1_init_7 : decode cX1_init 7 = .ok (.anewarray 9, 3) := by decide +kernel
theorem dX1_init_10 : decode cX1_init 10 = .ok (.putfield 11, 3) := by decide +kernel
theorem dX1_init_13 : decode cX1_init 13 = .ok (.aload_n 0, 1) := by decide +kernel
theorem dX1_init_14 : decode cX1_init 14 = .ok (.new 9, 3) := by decide +kernel
theorem dX1_init_17 : decode cX1_init 17 = .ok (.dup, 1) := by decide +kernel
theorem dX1_init_18 : decode cX1_init 18 = .ok (.bipush 8, 2) := by decide +kernel
theorem dX1_init_20 : decode cX1_init 20 = .ok (.iconst 0, 1) := by decide +kernel
theorem dX1_init_21 : decode cX1_init 21 = .ok (.newarray .long, 2) := by decide +kernel
theorem dX1_init_23 : decode cX1_init 23 = .ok (.invokespecial 15, 3) := by decide +kernel
theorem dX1_init_26 : decode cX1_init 26 = .ok (.putfield 18, 3) := by decide +kernel
theorem dX1_init_29 : decode cX1_init 29 = .ok (.aload_n 0, 1) := by decide +kernel
theorem dX1_init_30 : decode cX1_init 30 = .ok (.bipush 60, 2) := by decide +kernel
theorem dX1_init_32 : decode cX1_init 32 = .ok (.newarray .int, 2) := by decide +kernel
theorem dX1_init_34 : decode cX1_init 34 = .ok (.putfield 22, 3) := by decide +kernel
theorem dX1_init_37 : decode cX1_init 37 = .ok (.aload_n 0, 1) := by decide +kernel
theorem dX1_init_38 : decode cX1_init 38 = .ok (.bipush 60, 2) := by decide +kernel
theorem dX1_init_40 : decode cX1_init 40 = .ok (.newarray .int, 2) := by decide +kernel
theorem dX1_init_42 : decode cX1_init 42 = .ok (.putfield 26, 3) := by decide +kernel
theorem dX1_init_45 : decode cX1_init 45 = .ok (.aload_n 0, 1) := by decide +kernel
theorem dX1_init_46 : decode cX1_init 46 = .ok (.bipush 6, 2) := by decide +kernel
theorem dX1_init_48 : decode cX1_init 48 = .ok (.newarray .int, 2) := by decide +kernel
theorem dX1_init_50 : decode cX1_init 50 = .ok (.putfield 29, 3) := by decide +kernel
theorem dX1_init_53 : decode cX1_init 53 = .ok (.return_, 1) := by decide +kernel
theorem dX1_row_0 : decode cX1_row 0 = .ok (.aload_n 0, 1) := by decide +kernel
theorem dX1_row_1 : decode cX1_row 1 = .ok (.iload_n 1, 1) := by decide +kernel
theorem dX1_row_2 : decode cX1_row 2 = .ok (.invokevirtual 32, 3) := by decide +kernel
theorem dX1_row_5 : decode cX1_row 5 = .ok (.astore 4, 2) := by decide +kernel
theorem dX1_row_7 : decode cX1_row 7 = .ok (.iload_n 2, 1) := by decide +kernel
theorem dX1_row_8 : decode cX1_row 8 = .ok (.ifCond .lt 9, 3) := by decide +kernel
theorem dX1_row_11 : decode cX1_row 11 = .ok (.iload_n 2, 1) := by decide +kernel
theorem dX1_row_12 : decode cX1_row 12 = .ok (.bipush 7, 2) := by decide +kernel
theorem dX1_row_14 : decode cX1_row 14 = .ok (.if_icmp .le 13, 3) := by decide +kernel
theorem dX1_row_17 : decode cX1_row 17 = .ok (.new 36, 3) := by decide +kernel
theorem dX1_row_20 : decode cX1_row 20 = .ok (.dup, 1) := by decide +kernel
theorem dX1_row_21 : decode cX1_row 21 = .ok (.ldc 38, 2) := by decide +kernel
theorem dX1_row_23 : decode cX1_row 23 = .ok (.invokespecial 40, 3) := by decide +kernel
theorem dX1_row_26 : decode cX1_row 26 = .ok (.athrow, 1) := by decide +kernel
theorem dX1_row_27 : decode cX1_row 27 = .ok (.iload_n 3, 1) := by decide +kernel
theorem dX1_row_28 : decode cX1_row 28 = .ok (.ifCond .lt 9, 3) := by decide +kernel
theorem dX1_row_31 : decode cX1_row 31 = .ok (.iload_n 3, 1) := by decide +kernel
theorem dX1_row_32 : decode cX1_row 32 = .ok (.bipush 24, 2) := by decide +kernel
theorem dX1_row_34 : decode cX1_row 34 = .ok (.if_icmp .le 13, 3) := by decide +kernel
theorem dX1_row_37 : decode cX1_row 37 = .ok (.new 36, 3) := by decide +kernel
theorem dX1_row_40 : decode cX1_row 40 = .ok (.dup, 1) := by decide +kernel
theorem dX1_row_41 : decode cX1_row 41 = .ok (.ldc 43, 2) := by decide +kernel
theorem dX1_row_43 : decode cX1_row 43 = .ok (.invokespecial 40, 3) := by decide +kernel
theorem dX1_row_46 : decode cX1_row 46 = .ok (.athrow, 1) := by decide +kernel
theorem dX1_row_47 : decode cX1_row 47 = .ok (.aload_n 0, 1) := by decide +kernel
theorem dX1_row_48 : decode cX1_row 48 = .ok (.getfield 45, 3) := by decide +kernel
theorem dX1_row_51 : decode cX1_row 51 = .ok (.sipush 300, 3) := by decide +kernel
theorem dX1_row_54 : decode cX1_row 54 = .ok (.if_icmp .lt 13, 3) := by decide +kernel
theorem dX1_row_57 : decode cX1_row 57 = .ok (.new 49, 3) := by decide +kernel
theorem dX1_row_60 : decode cX1_row 60 = .ok (.dup, 1) := by decide +kernel
theorem dX1_row_61 : decode cX1_row 61 = .ok (.ldc 51, 2) := by decide +kernel
theorem dX1_row_63 : decode cX1_row 63 = .ok (.invokespecial 53, 3) := by decide +kernel
theorem dX1_row_66 : decode cX1_row 66 = .ok (.athrow, 1) := by decide +kernel
theorem dX1_row_67 : decode cX1_row 67 = .ok (.aload_n 0, 1) := by decide +kernel
theorem dX1_row_68 : decode cX1_row 68 = .ok (.dup, 1) := by decide +kernel
theorem dX1_row_69 : decode cX1_row 69 = .ok (.getfield 45, 3) := by decide +kernel
theorem dX1_row_72 : decode cX1_row 72 = .ok (.iconst 1, 1) := by decide +kernel
theorem dX1_row_73 : decode cX1_row 73 = .ok (.iadd, 1) := by decide +kernel
theorem dX1_row_74 : decode cX1_row 74 = .ok (.putfield 45, 3) := by decide +kernel
theorem dX1_row_77 : decode cX1_row 77 = .ok (.aload_n 0, 1) := by decide +kernel
theorem dX1_row_78 : decode cX1_row 78 = .ok (.getfield 11, 3) := by decide +kernel
theorem dX1_row_81 : decode cX1_row 81 = .ok (.iload_n 1, 1) := by decide +kernel
theorem dX1_row_82 : decode cX1_row 82 = .ok (.iload_n 2, 1) := by decide +kernel
theorem dX1_row_83 : decode cX1_row 83 = .ok (.iload_n 3, 1) := by decide +kernel
theorem dX1_row_84 : decode cX1_row 84 = .ok (.invokestatic 54, 3) := by decide +kernel
theorem dX1_row_87 : decode cX1_row 87 = .ok (.aastore, 1) := by decide +kernel
theorem dX1_row_88 : decode cX1_row 88 = .ok (.aload 4, 2) := by decide +kernel
theorem dX1_row_90 : decode cX1_row 90 = .ok (.ifnonnull 7, 3) := by decide +kernel
theorem dX1_row_93 : decode cX1_row 93 = .ok (.iconst 1, 1) := by decide +kernel
theorem dX1_row_94 : decode cX1_row 94 = .ok (.goto 4, 3) := by decide +kernel
theorem dX1_row_97 : decode cX1_row 97 = .ok (.iconst 0, 1) := by decide +kernel
theorem dX1_row_98 : decode cX1_row 98 = .ok (.ireturn, 1) := by decide +kernel
theorem dX1_lid_0 : decode cX1_lid 0 = .ok (.aload_n 0, 1) := by decide +kernel
theorem dX1_lid_1 : decode cX1_lid 1 = .ok (.iload_n 1, 1) := by decide +kernel
theorem dX1_lid_2 : decode cX1_lid 2 = .ok (.invokevirtual 32, 3) := by decide +kernel
theorem dX1_lid_5 : decode cX1_lid 5 = .ok (.astore_n 2, 1) := by decide +kernel
theorem dX1_lid_6 : decode cX1_lid 6 = .ok (.aload_n 0, 1) := by decide +kernel
theorem dX1_lid_7 : decode cX1_lid 7 = .ok (.getfield 11, 3) := by decide +kernel
theorem dX1_lid_10 : decode cX1_lid 10 = .ok (.iload_n 1, 1) := by decide +kernel
theorem dX1_lid_11 : decode cX1_lid 11 = .ok (.aload_n 0, 1) := by decide +kernel
theorem dX1_lid_12 : decode cX1_lid 12 = .ok (.getfield 18, 3) := by decide +kernel
theorem dX1_lid_15 : decode cX1_lid 15 = .ok (.aastore, 1) := by decide +kernel
theorem dX1_lid_16 : decode cX1_lid 16 = .ok (.aload_n 2, 1) := by decide +kernel
theorem dX1_lid_17 : decode cX1_lid 17 = .ok (.aload_n 0, 1) := by decide +kernel
theorem dX1_lid_18 : decode cX1_lid 18 = .ok (.getfield 18, 3) := by decide +kernel
theorem dX1_lid_21 : decode cX1_lid 21 = .ok (.if_acmp .eq 7, 3) := by decide +kernel
theorem dX1_lid_24 : decode cX1_lid 24 = .ok (.iconst 1, 1) := by decide +kernel
theorem dX1_lid_25 : decode cX1_lid 25 = .ok (.goto 4, 3) := by decide +kernel
theorem dX1_lid_28 : decode cX1_lid 28 = .ok (.iconst 0, 1) := by decide +kernel
theorem dX1_lid_29 : decode cX1_lid 29 = .ok (.ireturn, 1) := by decide +kernel
theorem dX1_clear_0 : decode cX1_clear 0 = .ok (.aload_n 0, 1) := by decide +kernel
theorem dX1_clear_1 : decode cX1_clear 1 = .ok (.iload_n 1, 1) := by decide +kernel
theorem dX1_clear_2 : decode cX1_clear 2 = .ok (.invokevirtual 32, 3) := by decide +kernel
theorem dX1_clear_5 : decode cX1_clear 5 = .ok (.astore_n 2, 1) := by decide +kernel
theorem dX1_clear_6 : decode cX1_clear 6 = .ok (.aload_n 0, 1) := by decide +kernel
theorem dX1_clear_7 : decode cX1_clear 7 = .ok (.getfield 11, 3) := by decide +kernel
theorem dX1_clear_10 : decode cX1_clear 10 = .ok (.iload_n 1, 1) := by decide +kernel
theorem dX1_clear_11 : decode cX1_clear 11 = .ok (.aconst_null, 1) := by decide +kernel
theorem dX1_clear_12 : decode cX1_clear 12 = .ok (.aastore, 1) := by decide +kernel
theorem dX1_clear_13 : decode cX1_clear 13 = .ok (.aload_n 2, 1) := by decide +kernel
theorem dX1_clear_14 : decode cX1_clear 14 = .ok (.ifnull 7, 3) := by decide +kernel
theorem dX1_clear_17 : decode cX1_clear 17 = .ok (.iconst 1, 1) := by decide +kernel
theorem dX1_clear_18 : decode cX1_clear 18 = .ok (.goto 4, 3) := by decide +kernel
theorem dX1_clear_21 : decode cX1_clear 21 = .ok (.iconst 0, 1) := by decide +kernel
theorem dX1_clear_22 : decode cX1_clear 22 = .ok (.ireturn, 1) := by decide +kernel
theorem dX1_share_0 : decode cX1_share 0 = .ok (.iload_n 1, 1) := by decide +kernel
theorem dX1_share_1 : decode cX1_share 1 = .ok (.invokestatic 58, 3) := by decide +kernel
theorem dX1_share_4 : decode cX1_share 4 = .ok (.aload_n 0, 1) := by decide +kernel
theorem dX1_share_5 : decode cX1_share 5 = .ok (.iload_n 2, 1) := by decide +kernel
theorem dX1_share_6 : decode cX1_share 6 = .ok (.invokevirtual 32, 3) := by decide +kernel
theorem dX1_share_9 : decode cX1_share 9 = .ok (.astore_n 3, 1) := by decide +kernel
theorem dX1_share_10 : decode cX1_share 10 = .ok (.aload_n 0, 1) := by decide +kernel
theorem dX1_share_11 : decode cX1_share 11 = .ok (.getfield 11, 3) := by decide +kernel
theorem dX1_share_14 : decode cX1_share 14 = .ok (.iload_n 1, 1) := by decide +kernel
theorem dX1_share_15 : decode cX1_share 15 = .ok (.aload_n 3, 1) := by decide +kernel
theorem dX1_share_16 : decode cX1_share 16 = .ok (.aastore, 1) := by decide +kernel
theorem dX1_share_17 : decode cX1_share 17 = .ok (.aload_n 3, 1) := by decide +kernel
theorem dX1_share_18 : decode cX1_share 18 = .ok (.invokestatic 62, 3) := by decide +kernel
theorem dX1_share_21 : decode cX1_share 21 = .ok (.ireturn, 1) := by decide +kernel
theorem dX1_put_0 : decode cX1_put 0 = .ok (.aload_n 0, 1) := by decide +kernel
theorem dX1_put_1 : decode cX1_put 1 = .ok (.iload_n 1, 1) := by decide +kernel
theorem dX1_put_2 : decode cX1_put 2 = .ok (.invokevirtual 32, 3) := by decide +kernel
theorem dX1_put_5 : decode cX1_put 5 = .ok (.astore 5, 2) := by decide +kernel
theorem dX1_put_7 : decode cX1_put 7 = .ok (.aload 5, 2) := by decide +kernel
theorem dX1_put_9 : decode cX1_put 9 = .ok (.invokestatic 66, 3) := by decide +kernel
theorem dX1_put_12 : decode cX1_put 12 = .ok (.ifCond .ne 13, 3) := by decide +kernel
theorem dX1_put_15 : decode cX1_put 15 = .ok (.new 70, 3) := by decide +kernel
theorem dX1_put_18 : decode cX1_put 18 = .ok (.dup, 1) := by decide +kernel
theorem dX1_put_19 : decode cX1_put 19 = .ok (.ldc 72, 2) := by decide +kernel
theorem dX1_put_21 : decode cX1_put 21 = .ok (.invokespecial 74, 3) := by decide +kernel
theorem dX1_put_24 : decode cX1_put 24 = .ok (.athrow, 1) := by decide +kernel
theorem dX1_put_25 : decode cX1_put 25 = .ok (.aload 5, 2) := by decide +kernel
theorem dX1_put_27 : decode cX1_put 27 = .ok (.iload_n 2, 1) := by decide +kernel
theorem dX1_put_28 : decode cX1_put 28 = .ok (.invokestatic 75, 3) := by decide +kernel
theorem dX1_put_31 : decode cX1_put 31 = .ok (.aload 5, 2) := by decide +kernel
theorem dX1_put_33 : decode cX1_put 33 = .ok (.getfield 79, 3) := by decide +kernel
theorem dX1_put_36 : decode cX1_put 36 = .ok (.iload_n 2, 1) := by decide +kernel
theorem dX1_put_37 : decode cX1_put 37 = .ok (.laload, 1) := by decide +kernel
theorem dX1_put_38 : decode cX1_put 38 = .ok (.lstore 6, 2) := by decide +kernel
theorem dX1_put_40 : decode cX1_put 40 = .ok (.aload 5, 2) := by decide +kernel
theorem dX1_put_42 : decode cX1_put 42 = .ok (.getfield 79, 3) := by decide +kernel
theorem dX1_put_45 : decode cX1_put 45 = .ok (.iload_n 2, 1) := by decide +kernel
theorem dX1_put_46 : decode cX1_put 46 = .ok (.aload 5, 2) := by decide +kernel
theorem dX1_put_48 : decode cX1_put 48 = .ok (.getfield 83, 3) := by decide +kernel
theorem dX1_put_51 : decode cX1_put 51 = .ok (.lload_n 3, 1) := by decide +kernel
theorem dX1_put_52 : decode cX1_put 52 = .ok (.invokestatic 86, 3) := by decide +kernel
theorem dX1_put_55 : decode cX1_put 55 = .ok (.lastore, 1) := by decide +kernel
theorem dX1_put_56 : decode cX1_put 56 = .ok (.lload 6, 2) := by decide +kernel
theorem dX1_put_58 : decode cX1_put 58 = .ok (.lreturn, 1) := by decide +kernel
theorem dX1_lay_0 : decode cX1_lay 0 = .ok (.aload_n 0, 1) := by decide +kernel
theorem dX1_lay_1 : decode cX1_lay 1 = .ok (.iload_n 1, 1) := by decide +kernel
theorem dX1_lay_2 : decode cX1_lay 2 = .ok (.invokevirtual 32, 3) := by decide +kernel
theorem dX1_lay_5 : decode cX1_lay 5 = .ok (.astore 4, 2) := by decide +kernel
theorem dX1_lay_7 : decode cX1_lay 7 = .ok (.iload_n 3, 1) := by decide +kernel
theorem dX1_lay_8 : decode cX1_lay 8 = .ok (.ifCond .lt 8, 3) := by decide +kernel
theorem dX1_lay_11 : decode cX1_lay 11 = .ok (.iload_n 3, 1) := by decide +kernel
theorem dX1_lay_12 : decode cX1_lay 12 = .ok (.iconst 3, 1) := by decide +kernel
theorem dX1_lay_13 : decode cX1_lay 13 = .ok (.if_icmp .le 13, 3) := by decide +kernel
theorem dX1_lay_16 : decode cX1_lay 16 = .ok (.new 36, 3) := by decide +kernel
theorem dX1_lay_19 : decode cX1_lay 19 = .ok (.dup, 1) := by decide +kernel
theorem dX1_lay_20 : decode cX1_lay 20 = .ok (.ldc 90, 2) := by decide +kernel
theorem dX1_lay_22 : decode cX1_lay 22 = .ok (.invokespecial 40, 3) := by decide +kernel
theorem dX1_lay_25 : decode cX1_lay 25 = .ok (.athrow, 1) := by decide +kernel
theorem dX1_lay_26 : decode cX1_lay 26 = .ok (.aload 4, 2) := by decide +kernel
theorem dX1_lay_28 : decode cX1_lay 28 = .ok (.invokestatic 92, 3) := by decide +kernel
theorem dX1_lay_31 : decode cX1_lay 31 = .ok (.aload 4, 2) := by decide +kernel
theorem dX1_lay_33 : decode cX1_lay 33 = .ok (.iload_n 2, 1) := by decide +kernel
theorem dX1_lay_34 : decode cX1_lay 34 = .ok (.invokestatic 75, 3) := by decide +kernel
theorem dX1_lay_37 : decode cX1_lay 37 = .ok (.aload_n 0, 1) := by decide +kernel
theorem dX1_lay_38 : decode cX1_lay 38 = .ok (.getfield 96, 3) := by decide +kernel
theorem dX1_lay_41 : decode cX1_lay 41 = .ok (.bipush 60, 2) := by decide +kernel
theorem dX1_lay_43 : decode cX1_lay 43 = .ok (.if_icmp .lt 13, 3) := by decide +kernel
theorem dX1_lay_46 : decode cX1_lay 46 = .ok (.new 49, 3) := by decide +kernel
theorem dX1_lay_49 : decode cX1_lay 49 = .ok (.dup, 1) := by decide +kernel
theorem dX1_lay_50 : decode cX1_lay 50 = .ok (.ldc 99, 2) := by decide +kernel
theorem dX1_lay_52 : decode cX1_lay 52 = .ok (.invokespecial 53, 3) := by decide +kernel
theorem dX1_lay_55 : decode cX1_lay 55 = .ok (.athrow, 1) := by decide +kernel
theorem dX1_lay_56 : decode cX1_lay 56 = .ok (.aload 4, 2) := by decide +kernel
theorem dX1_lay_58 : decode cX1_lay 58 = .ok (.getfield 83, 3) := by decide +kernel
theorem dX1_lay_61 : decode cX1_lay 61 = .ok (.iload_n 3, 1) := by decide +kernel
theorem dX1_lay_62 : decode cX1_lay 62 = .ok (.invokestatic 101, 3) := by decide +kernel
theorem dX1_lay_65 : decode cX1_lay 65 = .ok (.ifCond .ne 5, 3) := by decide +kernel
theorem dX1_lay_68 : decode cX1_lay 68 = .ok (.iconst (-1), 1) := by decide +kernel
theorem dX1_lay_69 : decode cX1_lay 69 = .ok (.ireturn, 1) := by decide +kernel
theorem dX1_lay_70 : decode cX1_lay 70 = .ok (.aload_n 0, 1) := by decide +kernel
theorem dX1_lay_71 : decode cX1_lay 71 = .ok (.getfield 96, 3) := by decide +kernel
theorem dX1_lay_74 : decode cX1_lay 74 = .ok (.istore 5, 2) := by decide +kernel
theorem dX1_lay_76 : decode cX1_lay 76 = .ok (.aload_n 0, 1) := by decide +kernel
theorem dX1_lay_77 : decode cX1_lay 77 = .ok (.dup, 1) := by decide +kernel
theorem dX1_lay_78 : decode cX1_lay 78 = .ok (.getfield 96, 3) := by decide +kernel
theorem dX1_lay_81 : decode cX1_lay 81 = .ok (.iconst 1, 1) := by decide +kernel
theorem dX1_lay_82 : decode cX1_lay 82 = .ok (.iadd, 1) := by decide +kernel
theorem dX1_lay_83 : decode cX1_lay 83 = .ok (.putfield 96, 3) := by decide +kernel
theorem dX1_lay_86 : decode cX1_lay 86 = .ok (.aload_n 0, 1) := by decide +kernel
theorem dX1_lay_87 : decode cX1_lay 87 = .ok (.getfield 22, 3) := by decide +kernel
theorem dX1_lay_90 : decode cX1_lay 90 = .ok (.iload 5, 2) := by decide +kernel
theorem dX1_lay_92 : decode cX1_lay 92 = .ok (.iload_n 3, 1) := by decide +kernel
theorem dX1_lay_93 : decode cX1_lay 93 = .ok (.iastore, 1) := by decide +kernel
theorem dX1_lay_94 : decode cX1_lay 94 = .ok (.aload 4, 2) := by decide +kernel
theorem dX1_lay_96 : decode cX1_lay 96 = .ok (.getfield 79, 3) := by decide +kernel
theorem dX1_lay_99 : decode cX1_lay 99 = .ok (.iload_n 2, 1) := by decide +kernel
theorem dX1_lay_100 : decode cX1_lay 100 = .ok (.iload 5, 2) := by decide +kernel
theorem dX1_lay_102 : decode cX1_lay 102 = .ok (.i2l, 1) := by decide +kernel
theorem dX1_lay_103 : decode cX1_lay 103 = .ok (.lastore, 1) := by decide +kernel
theorem dX1_lay_104 : decode cX1_lay 104 = .ok (.iload 5, 2) := by decide +kernel
theorem dX1_lay_106 : decode cX1_lay 106 = .ok (.ireturn, 1) := by decide +kernel
theorem dX1_lift_0 : decode cX1_lift 0 = .ok (.aload_n 0, 1) := by decide +kernel
theorem dX1_lift_1 : decode cX1_lift 1 = .ok (.iload_n 1, 1) := by decide +kernel
theorem dX1_lift_2 : decode cX1_lift 2 = .ok (.invokevirtual 32, 3) := by decide +kernel
theorem dX1_lift_5 : decode cX1_lift 5 = .ok (.astore_n 3, 1) := by decide +kernel
theorem dX1_lift_6 : decode cX1_lift 6 = .ok (.aload_n 3, 1) := by decide +kernel
theorem dX1_lift_7 : decode cX1_lift 7 = .ok (.invokestatic 92, 3) := by decide +kernel
theorem dX1_lift_10 : decode cX1_lift 10 = .ok (.aload_n 3, 1) := by decide +kernel
theorem dX1_lift_11 : decode cX1_lift 11 = .ok (.iload_n 2, 1) := by decide +kernel
theorem dX1_lift_12 : decode cX1_lift 12 = .ok (.invokestatic 75, 3) := by decide +kernel
theorem dX1_lift_15 : decode cX1_lift 15 = .ok (.aload_n 3, 1) := by decide +kernel
theorem dX1_lift_16 : decode cX1_lift 16 = .ok (.getfield 79, 3) := by decide +kernel
theorem dX1_lift_19 : decode cX1_lift 19 = .ok (.iload_n 2, 1) := by decide +kernel
theorem dX1_lift_20 : decode cX1_lift 20 = .ok (.laload, 1) := by decide +kernel
theorem dX1_lift_21 : decode cX1_lift 21 = .ok (.l2i, 1) := by decide +kernel
theorem dX1_lift_22 : decode cX1_lift 22 = .ok (.istore 4, 2) := by decide +kernel
theorem dX1_lift_24 : decode cX1_lift 24 = .ok (.aload_n 3, 1) := by decide +kernel
theorem dX1_lift_25 : decode cX1_lift 25 = .ok (.getfield 79, 3) := by decide +kernel
theorem dX1_lift_28 : decode cX1_lift 28 = .ok (.iload_n 2, 1) := by decide +kernel
theorem dX1_lift_29 : decode cX1_lift 29 = .ok (.ldc2_w 105, 3) := by decide +kernel
theorem dX1_lift_32 : decode cX1_lift 32 = .ok (.lastore, 1) := by decide +kernel
theorem dX1_lift_33 : decode cX1_lift 33 = .ok (.iload 4, 2) := by decide +kernel
theorem dX1_lift_35 : decode cX1_lift 35 = .ok (.ireturn, 1) := by decide +kernel
theorem dX1_move_0 : decode cX1_move 0 = .ok (.aload_n 0, 1) := by decide +kernel
theorem dX1_move_1 : decode cX1_move 1 = .ok (.iload_n 1, 1) := by decide +kernel
theorem dX1_move_2 : decode cX1_move 2 = .ok (.invokevirtual 32, 3) := by decide +kernel
theorem dX1_move_5 : decode cX1_move 5 = .ok (.astore 6, 2) := by decide +kernel
theorem dX1_move_7 : decode cX1_move 7 = .ok (.aload_n 0, 1) := by decide +kernel
theorem dX1_move_8 : decode cX1_move 8 = .ok (.iload_n 3, 1) := by decide +kernel
theorem dX1_move_9 : decode cX1_move 9 = .ok (.invokevirtual 32, 3) := by decide +kernel
theorem dX1_move_12 : decode cX1_move 12 = .ok (.astore 7, 2) := by decide +kernel
theorem dX1_move_14 : decode cX1_move 14 = .ok (.aload_n 0, 1) := by decide +kernel
theorem dX1_move_15 : decode cX1_move 15 = .ok (.aload 6, 2) := by decide +kernel
theorem dX1_move_17 : decode cX1_move 17 = .ok (.iload_n 2, 1) := by decide +kernel
theorem dX1_move_18 : decode cX1_move 18 = .ok (.aload 7, 2) := by decide +kernel
theorem dX1_move_20 : decode cX1_move 20 = .ok (.iload 4, 2) := by decide +kernel
theorem dX1_move_22 : decode cX1_move 22 = .ok (.iload 5, 2) := by decide +kernel
theorem dX1_move_24 : decode cX1_move 24 = .ok (.invokevirtual 107, 3) := by decide +kernel
theorem dX1_move_27 : decode cX1_move 27 = .ok (.ireturn, 1) := by decide +kernel
theorem dX1_pour_0 : decode cX1_pour 0 = .ok (.aload_n 0, 1) := by decide +kernel
theorem dX1_pour_1 : decode cX1_pour 1 = .ok (.iload_n 1, 1) := by decide +kernel
theorem dX1_pour_2 : decode cX1_pour 2 = .ok (.invokevirtual 32, 3) := by decide +kernel
theorem dX1_pour_5 : decode cX1_pour 5 = .ok (.astore_n 3, 1) := by decide +kernel
theorem dX1_pour_6 : decode cX1_pour 6 = .ok (.aload_n 0, 1) := by decide +kernel
theorem dX1_pour_7 : decode cX1_pour 7 = .ok (.iload_n 2, 1) := by decide +kernel
theorem dX1_pour_8 : decode cX1_pour 8 = .ok (.invokevirtual 32, 3) := by decide +kernel
theorem dX1_pour_11 : decode cX1_pour 11 = .ok (.astore 4, 2) := by decide +kernel
theorem dX1_pour_13 : decode cX1_pour 13 = .ok (.aload_n 3, 1) := by decide +kernel
theorem dX1_pour_14 : decode cX1_pour 14 = .ok (.invokestatic 111, 3) := by decide +kernel
theorem dX1_pour_17 : decode cX1_pour 17 = .ok (.aload 4, 2) := by decide +kernel
theorem dX1_pour_19 : decode cX1_pour 19 = .ok (.invokestatic 111, 3) := by decide +kernel
theorem dX1_pour_22 : decode cX1_pour 22 = .ok (.invokestatic 114, 3) := by decide +kernel
theorem dX1_pour_25 : decode cX1_pour 25 = .ok (.istore 5, 2) := by decide +kernel
theorem dX1_pour_27 : decode cX1_pour 27 = .ok (.aload_n 0, 1) := by decide +kernel
theorem dX1_pour_28 : decode cX1_pour 28 = .ok (.aload_n 3, 1) := by decide +kernel
theorem dX1_pour_29 : decode cX1_pour 29 = .ok (.iconst 0, 1) := by decide +kernel
theorem dX1_pour_30 : decode cX1_pour 30 = .ok (.aload 4, 2) := by decide +kernel
theorem dX1_pour_32 : decode cX1_pour 32 = .ok (.iconst 0, 1) := by decide +kernel
theorem dX1_pour_33 : decode cX1_pour 33 = .ok (.iload 5, 2) := by decide +kernel
theorem dX1_pour_35 : decode cX1_pour 35 = .ok (.invokevirtual 107, 3) := by decide +kernel
theorem dX1_pour_38 : decode cX1_pour 38 = .ok (.ireturn, 1) := by decide +kernel
theorem dX1_moved_0 : decode cX1_moved 0 = .ok (.aload_n 0, 1) := by decide +kernel
theorem dX1_moved_1 : decode cX1_moved 1 = .ok (.getfield 120, 3) := by decide +kernel
theorem dX1_moved_4 : decode cX1_moved 4 = .ok (.ireturn, 1) := by decide +kernel
theorem dX1_at_0 : decode cX1_at 0 = .ok (.aload_n 0, 1) := by decide +kernel
theorem dX1_at_1 : decode cX1_at 1 = .ok (.iload_n 1, 1) := by decide +kernel
theorem dX1_at_2 : decode cX1_at 2 = .ok (.invokevirtual 32, 3) := by decide +kernel
theorem dX1_at_5 : decode cX1_at 5 = .ok (.astore_n 3, 1) := by decide +kernel
theorem dX1_at_6 : decode cX1_at 6 = .ok (.aload_n 3, 1) := by decide +kernel
theorem dX1_at_7 : decode cX1_at 7 = .ok (.invokestatic 123, 3) := by decide +kernel
theorem dX1_at_10 : decode cX1_at 10 = .ok (.aload_n 3, 1) := by decide +kernel
theorem dX1_at_11 : decode cX1_at 11 = .ok (.iload_n 2, 1) := by decide +kernel
theorem dX1_at_12 : decode cX1_at 12 = .ok (.invokestatic 75, 3) := by decide +kernel
theorem dX1_at_15 : decode cX1_at 15 = .ok (.aload_n 3, 1) := by decide +kernel
theorem dX1_at_16 : decode cX1_at 16 = .ok (.getfield 79, 3) := by decide +kernel
theorem dX1_at_19 : decode cX1_at 19 = .ok (.iload_n 2, 1) := by decide +kernel
theorem dX1_at_20 : decode cX1_at 20 = .ok (.laload, 1) := by decide +kernel
theorem dX1_at_21 : decode cX1_at 21 = .ok (.lreturn, 1) := by decide +kernel
theorem dX1_holds_0 : decode cX1_holds 0 = .ok (.aload_n 0, 1) := by decide +kernel
theorem dX1_holds_1 : decode cX1_holds 1 = .ok (.iload_n 1, 1) := by decide +kernel
theorem dX1_holds_2 : decode cX1_holds 2 = .ok (.invokevirtual 32, 3) := by decide +kernel
theorem dX1_holds_5 : decode cX1_holds 5 = .ok (.invokestatic 62, 3) := by decide +kernel
theorem dX1_holds_8 : decode cX1_holds 8 = .ok (.ireturn, 1) := by decide +kernel
theorem dX1_places_0 : decode cX1_places 0 = .ok (.aload_n 0, 1) := by decide +kernel
theorem dX1_places_1 : decode cX1_places 1 = .ok (.iload_n 1, 1) := by decide +kernel
theorem dX1_places_2 : decode cX1_places 2 = .ok (.invokevirtual 32, 3) := by decide +kernel
theorem dX1_places_5 : decode cX1_places 5 = .ok (.astore_n 2, 1) := by decide +kernel
theorem dX1_places_6 : decode cX1_places 6 = .ok (.aload_n 2, 1) := by decide +kernel
theorem dX1_places_7 : decode cX1_places 7 = .ok (.invokestatic 123, 3) := by decide +kernel
theorem dX1_places_10 : decode cX1_places 10 = .ok (.aload_n 2, 1) := by decide +kernel
theorem dX1_places_11 : decode cX1_places 11 = .ok (.getfield 79, 3) := by decide +kernel
theorem dX1_places_14 : decode cX1_places 14 = .ok (.arraylength, 1) := by decide +kernel
theorem dX1_places_15 : decode cX1_places 15 = .ok (.ireturn, 1) := by decide +kernel
theorem dX1_same_0 : decode cX1_same 0 = .ok (.aload_n 0, 1) := by decide +kernel
theorem dX1_same_1 : decode cX1_same 1 = .ok (.iload_n 1, 1) := by decide +kernel
theorem dX1_same_2 : decode cX1_same 2 = .ok (.invokevirtual 32, 3) := by decide +kernel
theorem dX1_same_5 : decode cX1_same 5 = .ok (.astore_n 3, 1) := by decide +kernel
theorem dX1_same_6 : decode cX1_same 6 = .ok (.aload_n 0, 1) := by decide +kernel
theorem dX1_same_7 : decode cX1_same 7 = .ok (.iload_n 2, 1) := by decide +kernel
theorem dX1_same_8 : decode cX1_same 8 = .ok (.invokevirtual 32, 3) := by decide +kernel
theorem dX1_same_11 : decode cX1_same 11 = .ok (.astore 4, 2) := by decide +kernel
theorem dX1_same_13 : decode cX1_same 13 = .ok (.aload_n 3, 1) := by decide +kernel
theorem dX1_same_14 : decode cX1_same 14 = .ok (.invokestatic 126, 3) := by decide +kernel
theorem dX1_same_17 : decode cX1_same 17 = .ok (.ifCond .eq 13, 3) := by decide +kernel
theorem dX1_same_20 : decode cX1_same 20 = .ok (.aload_n 3, 1) := by decide +kernel
theorem dX1_same_21 : decode cX1_same 21 = .ok (.aload 4, 2) := by decide +kernel
theorem dX1_same_23 : decode cX1_same 23 = .ok (.if_acmp .ne 7, 3) := by decide +kernel
theorem dX1_same_26 : decode cX1_same 26 = .ok (.iconst 1, 1) := by decide +kernel
theorem dX1_same_27 : decode cX1_same 27 = .ok (.goto 4, 3) := by decide +kernel
theorem dX1_same_30 : decode cX1_same 30 = .ok (.iconst 0, 1) := by decide +kernel
theorem dX1_same_31 : decode cX1_same 31 = .ok (.ireturn, 1) := by decide +kernel
theorem dX1_all_0 : decode cX1_all 0 = .ok (.aload_n 0, 1) := by decide +kernel
theorem dX1_all_1 : decode cX1_all 1 = .ok (.iload_n 1, 1) := by decide +kernel
theorem dX1_all_2 : decode cX1_all 2 = .ok (.invokevirtual 32, 3) := by decide +kernel
theorem dX1_all_5 : decode cX1_all 5 = .ok (.astore_n 2, 1) := by decide +kernel
theorem dX1_all_6 : decode cX1_all 6 = .ok (.aload_n 2, 1) := by decide +kernel
theorem dX1_all_7 : decode cX1_all 7 = .ok (.invokestatic 123, 3) := by decide +kernel
theorem dX1_all_10 : decode cX1_all 10 = .ok (.aload_n 2, 1) := by decide +kernel
theorem dX1_all_11 : decode cX1_all 11 = .ok (.invokestatic 129, 3) := by decide +kernel
theorem dX1_all_14 : decode cX1_all 14 = .ok (.ifCond .eq 14, 3) := by decide +kernel
theorem dX1_all_17 : decode cX1_all 17 = .ok (.aload_n 0, 1) := by decide +kernel
theorem dX1_all_18 : decode cX1_all 18 = .ok (.aload_n 2, 1) := by decide +kernel
theorem dX1_all_19 : decode cX1_all 19 = .ok (.getfield 79, 3) := by decide +kernel
theorem dX1_all_22 : decode cX1_all 22 = .ok (.invokevirtual 132, 3) := by decide +kernel
theorem dX1_all_25 : decode cX1_all 25 = .ok (.goto 10, 3) := by decide +kernel
theorem dX1_all_28 : decode cX1_all 28 = .ok (.aload_n 2, 1) := by decide +kernel
theorem dX1_all_29 : decode cX1_all 29 = .ok (.getfield 79, 3) := by decide +kernel
theorem dX1_all_32 : decode cX1_all 32 = .ok (.invokestatic 136, 3) := by decide +kernel
theorem dX1_all_35 : decode cX1_all 35 = .ok (.lreturn, 1) := by decide +kernel
theorem dX1_feed_0 : decode cX1_feed 0 = .ok (.aload_n 0, 1) := by decide +kernel
theorem dX1_feed_1 : decode cX1_feed 1 = .ok (.iload_n 1, 1) := by decide +kernel
theorem dX1_feed_2 : decode cX1_feed 2 = .ok (.invokevirtual 139, 3) := by decide +kernel
theorem dX1_feed_5 : decode cX1_feed 5 = .ok (.aload_n 0, 1) := by decide +kernel
theorem dX1_feed_6 : decode cX1_feed 6 = .ok (.getfield 26, 3) := by decide +kernel
theorem dX1_feed_9 : decode cX1_feed 9 = .ok (.iload_n 1, 1) := by decide +kernel
theorem dX1_feed_10 : decode cX1_feed 10 = .ok (.dup2, 1) := by decide +kernel
theorem dX1_feed_11 : decode cX1_feed 11 = .ok (.iaload, 1) := by decide +kernel
theorem dX1_feed_12 : decode cX1_feed 12 = .ok (.iload_n 2, 1) := by decide +kernel
theorem dX1_feed_13 : decode cX1_feed 13 = .ok (.iadd, 1) := by decide +kernel
theorem dX1_feed_14 : decode cX1_feed 14 = .ok (.iastore, 1) := by decide +kernel
theorem dX1_feed_15 : decode cX1_feed 15 = .ok (.aload_n 0, 1) := by decide +kernel
theorem dX1_feed_16 : decode cX1_feed 16 = .ok (.getfield 26, 3) := by decide +kernel
theorem dX1_feed_19 : decode cX1_feed 19 = .ok (.iload_n 1, 1) := by decide +kernel
theorem dX1_feed_20 : decode cX1_feed 20 = .ok (.iaload, 1) := by decide +kernel
theorem dX1_feed_21 : decode cX1_feed 21 = .ok (.ireturn, 1) := by decide +kernel
theorem dX1_kind_0 : decode cX1_kind 0 = .ok (.aload_n 0, 1) := by decide +kernel
theorem dX1_kind_1 : decode cX1_kind 1 = .ok (.iload_n 1, 1) := by decide +kernel
theorem dX1_kind_2 : decode cX1_kind 2 = .ok (.invokevirtual 139, 3) := by decide +kernel
theorem dX1_kind_5 : decode cX1_kind 5 = .ok (.aload_n 0, 1) := by decide +kernel
theorem dX1_kind_6 : decode cX1_kind 6 = .ok (.getfield 22, 3) := by decide +kernel
theorem dX1_kind_9 : decode cX1_kind 9 = .ok (.iload_n 1, 1) := by decide +kernel
theorem dX1_kind_10 : decode cX1_kind 10 = .ok (.iaload, 1) := by decide +kernel
theorem dX1_kind_11 : decode cX1_kind 11 = .ok (.ireturn, 1) := by decide +kernel
theorem dX1_count_0 : decode cX1_count 0 = .ok (.iload_n 1, 1) := by decide +kernel
theorem dX1_count_1 : decode cX1_count 1 = .ok (.tableswitch 71 0 8 #[51, 56, 61, 71, 71, 71, 71, 71, 66], 51) := by decide +kernel
theorem dX1_count_52 : decode cX1_count 52 = .ok (.aload_n 0, 1) := by decide +kernel
theorem dX1_count_53 : decode cX1_count 53 = .ok (.getfield 45, 3) := by decide +kernel
theorem dX1_count_56 : decode cX1_count 56 = .ok (.ireturn, 1) := by decide +kernel
theorem dX1_count_57 : decode cX1_count 57 = .ok (.aload_n 0, 1) := by decide +kernel
theorem dX1_count_58 : decode cX1_count 58 = .ok (.getfield 96, 3) := by decide +kernel
theorem dX1_count_61 : decode cX1_count 61 = .ok (.ireturn, 1) := by decide +kernel
theorem dX1_count_62 : decode cX1_count 62 = .ok (.aload_n 0, 1) := by decide +kernel
theorem dX1_count_63 : decode cX1_count 63 = .ok (.getfield 142, 3) := by decide +kernel
theorem dX1_count_66 : decode cX1_count 66 = .ok (.ireturn, 1) := by decide +kernel
theorem dX1_count_67 : decode cX1_count 67 = .ok (.aload_n 0, 1) := by decide +kernel
theorem dX1_count_68 : decode cX1_count 68 = .ok (.getfield 145, 3) := by decide +kernel
theorem dX1_count_71 : decode cX1_count 71 = .ok (.ireturn, 1) := by decide +kernel
theorem dX1_count_72 : decode cX1_count 72 = .ok (.aload_n 0, 1) := by decide +kernel
theorem dX1_count_73 : decode cX1_count 73 = .ok (.iload_n 1, 1) := by decide +kernel
theorem dX1_count_74 : decode cX1_count 74 = .ok (.invokevirtual 148, 3) := by decide +kernel
theorem dX1_count_77 : decode cX1_count 77 = .ok (.ireturn, 1) := by decide +kernel
theorem dX1_countOfEnd_0 : decode cX1_countOfEnd 0 = .ok (.iload_n 1, 1) := by decide +kernel
theorem dX1_countOfEnd_1 : decode cX1_countOfEnd 1 = .ok (.iconst 2, 1) := by decide +kernel
theorem dX1_countOfEnd_2 : decode cX1_countOfEnd 2 = .ok (.if_icmp .le 9, 3) := by decide +kernel
theorem dX1_countOfEnd_5 : decode cX1_countOfEnd 5 = .ok (.iload_n 1, 1) := by decide +kernel
theorem dX1_countOfEnd_6 : decode cX1_countOfEnd 6 = .ok (.bipush 8, 2) := by decide +kernel
theorem dX1_countOfEnd_8 : decode cX1_countOfEnd 8 = .ok (.if_icmp .lt 5, 3) := by decide +kernel
theorem dX1_countOfEnd_11 : decode cX1_countOfEnd 11 = .ok (.iconst (-1), 1) := by decide +kernel
theorem dX1_countOfEnd_12 : decode cX1_countOfEnd 12 = .ok (.ireturn, 1) := by decide +kernel
theorem dX1_countOfEnd_13 : decode cX1_countOfEnd 13 = .ok (.aload_n 0, 1) := by decide +kernel
theorem dX1_countOfEnd_14 : decode cX1_countOfEnd 14 = .ok (.getfield 29, 3) := by decide +kernel
theorem dX1_countOfEnd_17 : decode cX1_countOfEnd 17 = .ok (.iload_n 1, 1) := by decide +kernel
theorem dX1_countOfEnd_18 : decode cX1_countOfEnd 18 = .ok (.iconst 2, 1) := by decide +kernel
theorem dX1_countOfEnd_19 : decode cX1_countOfEnd 19 = .ok (.isub, 1) := by decide +kernel
theorem dX1_countOfEnd_20 : decode cX1_countOfEnd 20 = .ok (.iaload, 1) := by decide +kernel
theorem dX1_countOfEnd_21 : decode cX1_countOfEnd 21 = .ok (.ireturn, 1) := by decide +kernel
theorem dX1_requireBox_0 : decode cX1_requireBox 0 = .ok (.iload_n 0, 1) := by decide +kernel
theorem dX1_requireBox_1 : decode cX1_requireBox 1 = .ok (.ifCond .lt 9, 3) := by decide +kernel
theorem dX1_requireBox_4 : decode cX1_requireBox 4 = .ok (.iload_n 0, 1) := by decide +kernel
theorem dX1_requireBox_5 : decode cX1_requireBox 5 = .ok (.bipush 12, 2) := by decide +kernel
theorem dX1_requireBox_7 : decode cX1_requireBox 7 = .ok (.if_icmp .lt 13, 3) := by decide +kernel
theorem dX1_requireBox_10 : decode cX1_requireBox 10 = .ok (.new 152, 3) := by decide +kernel
theorem dX1_requireBox_13 : decode cX1_requireBox 13 = .ok (.dup, 1) := by decide +kernel
theorem dX1_requireBox_14 : decode cX1_requireBox 14 = .ok (.ldc 154, 2) := by decide +kernel
theorem dX1_requireBox_16 : decode cX1_requireBox 16 = .ok (.invokespecial 156, 3) := by decide +kernel
theorem dX1_requireBox_19 : decode cX1_requireBox 19 = .ok (.athrow, 1) := by decide +kernel
theorem dX1_requireBox_20 : decode cX1_requireBox 20 = .ok (.return_, 1) := by decide +kernel
theorem dX1_contentOf_0 : decode cX1_contentOf 0 = .ok (.iload_n 1, 1) := by decide +kernel
theorem dX1_contentOf_1 : decode cX1_contentOf 1 = .ok (.invokestatic 58, 3) := by decide +kernel
theorem dX1_contentOf_4 : decode cX1_contentOf 4 = .ok (.aload_n 0, 1) := by decide +kernel
theorem dX1_contentOf_5 : decode cX1_contentOf 5 = .ok (.getfield 11, 3) := by decide +kernel
theorem dX1_contentOf_8 : decode cX1_contentOf 8 = .ok (.iload_n 1, 1) := by decide +kernel
theorem dX1_contentOf_9 : decode cX1_contentOf 9 = .ok (.aaload, 1) := by decide +kernel
theorem dX1_contentOf_10 : decode cX1_contentOf 10 = .ok (.areturn, 1) := by decide +kernel
theorem dX1_requireRow_0 : decode cX1_requireRow 0 = .ok (.aload_n 0, 1) := by decide +kernel
theorem dX1_requireRow_1 : decode cX1_requireRow 1 = .ok (.invokestatic 126, 3) := by decide +kernel
theorem dX1_requireRow_4 : decode cX1_requireRow 4 = .ok (.ifCond .ne 13, 3) := by decide +kernel
theorem dX1_requireRow_7 : decode cX1_requireRow 7 = .ok (.new 70, 3) := by decide +kernel
theorem dX1_requireRow_10 : decode cX1_requireRow 10 = .ok (.dup, 1) := by decide +kernel
theorem dX1_requireRow_11 : decode cX1_requireRow 11 = .ok (.ldc 157, 2) := by decide +kernel
theorem dX1_requireRow_13 : decode cX1_requireRow 13 = .ok (.invokespecial 74, 3) := by decide +kernel
theorem dX1_requireRow_16 : decode cX1_requireRow 16 = .ok (.athrow, 1) := by decide +kernel
theorem dX1_requireRow_17 : decode cX1_requireRow 17 = .ok (.return_, 1) := by decide +kernel
theorem dX1_requireCombs_0 : decode cX1_requireCombs 0 = .ok (.aload_n 0, 1) := by decide +kernel
theorem dX1_requireCombs_1 : decode cX1_requireCombs 1 = .ok (.invokestatic 129, 3) := by decide +kernel
theorem dX1_requireCombs_4 : decode cX1_requireCombs 4 = .ok (.ifCond .ne 13, 3) := by decide +kernel
theorem dX1_requireCombs_7 : decode cX1_requireCombs 7 = .ok (.new 70, 3) := by decide +kernel
theorem dX1_requireCombs_10 : decode cX1_requireCombs 10 = .ok (.dup, 1) := by decide +kernel
theorem dX1_requireCombs_11 : decode cX1_requireCombs 11 = .ok (.ldc 159, 2) := by decide +kernel
theorem dX1_requireCombs_13 : decode cX1_requireCombs 13 = .ok (.invokespecial 74, 3) := by decide +kernel
theorem dX1_requireCombs_16 : decode cX1_requireCombs 16 = .ok (.athrow, 1) := by decide +kernel
theorem dX1_requireCombs_17 : decode cX1_requireCombs 17 = .ok (.return_, 1) := by decide +kernel
theorem dX1_requirePlace_0 : decode cX1_requirePlace 0 = .ok (.iload_n 1, 1) := by decide +kernel
theorem dX1_requirePlace_1 : decode cX1_requirePlace 1 = .ok (.ifCond .lt 12, 3) := by decide +kernel
theorem dX1_requirePlace_4 : decode cX1_requirePlace 4 = .ok (.iload_n 1, 1) := by decide +kernel
theorem dX1_requirePlace_5 : decode cX1_requirePlace 5 = .ok (.aload_n 0, 1) := by decide +kernel
theorem dX1_requirePlace_6 : decode cX1_requirePlace 6 = .ok (.getfield 79, 3) := by decide +kernel
theorem dX1_requirePlace_9 : decode cX1_requirePlace 9 = .ok (.arraylength, 1) := by decide +kernel
theorem dX1_requirePlace_10 : decode cX1_requirePlace 10 = .ok (.if_icmp .lt 13, 3) := by decide +kernel
theorem dX1_requirePlace_13 : decode cX1_requirePlace 13 = .ok (.new 161, 3) := by decide +kernel
theorem dX1_requirePlace_16 : decode cX1_requirePlace 16 = .ok (.dup, 1) := by decide +kernel
theorem dX1_requirePlace_17 : decode cX1_requirePlace 17 = .ok (.ldc 163, 2) := by decide +kernel
theorem dX1_requirePlace_19 : decode cX1_requirePlace 19 = .ok (.invokespecial 165, 3) := by decide +kernel
theorem dX1_requirePlace_22 : decode cX1_requirePlace 22 = .ok (.athrow, 1) := by decide +kernel
theorem dX1_requirePlace_23 : decode cX1_requirePlace 23 = .ok (.return_, 1) := by decide +kernel
theorem dX1_requireComb_0 : decode cX1_requireComb 0 = .ok (.aload_n 0, 1) := by decide +kernel
theorem dX1_requireComb_1 : decode cX1_requireComb 1 = .ok (.iload_n 1, 1) := by decide +kernel
theorem dX1_requireComb_2 : decode cX1_requireComb 2 = .ok (.i2l, 1) := by decide +kernel
theorem dX1_requireComb_3 : decode cX1_requireComb 3 = .ok (.invokevirtual 166, 3) := by decide +kernel
theorem dX1_requireComb_6 : decode cX1_requireComb 6 = .ok (.ifCond .ne 13, 3) := by decide +kernel
theorem dX1_requireComb_9 : decode cX1_requireComb 9 = .ok (.new 161, 3) := by decide +kernel
theorem dX1_requireComb_12 : decode cX1_requireComb 12 = .ok (.dup, 1) := by decide +kernel
theorem dX1_requireComb_13 : decode cX1_requireComb 13 = .ok (.ldc 170, 2) := by decide +kernel
theorem dX1_requireComb_15 : decode cX1_requireComb 15 = .ok (.invokespecial 165, 3) := by decide +kernel
theorem dX1_requireComb_18 : decode cX1_requireComb 18 = .ok (.athrow, 1) := by decide +kernel
theorem dX1_requireComb_19 : decode cX1_requireComb 19 = .ok (.return_, 1) := by decide +kernel
theorem dX1_isComb_0 : decode cX1_isComb 0 = .ok (.lload_n 1, 1) := by decide +kernel
theorem dX1_isComb_1 : decode cX1_isComb 1 = .ok (.lconst 0, 1) := by decide +kernel
theorem dX1_isComb_2 : decode cX1_isComb 2 = .ok (.lcmp, 1) := by decide +kernel
theorem dX1_isComb_3 : decode cX1_isComb 3 = .ok (.ifCond .lt 17, 3) := by decide +kernel
theorem dX1_isComb_6 : decode cX1_isComb 6 = .ok (.lload_n 1, 1) := by decide +kernel
theorem dX1_isComb_7 : decode cX1_isComb 7 = .ok (.aload_n 0, 1) := by decide +kernel
theorem dX1_isComb_8 : decode cX1_isComb 8 = .ok (.getfield 96, 3) := by decide +kernel
theorem dX1_isComb_11 : decode cX1_isComb 11 = .ok (.i2l, 1) := by decide +kernel
theorem dX1_isComb_12 : decode cX1_isComb 12 = .ok (.lcmp, 1) := by decide +kernel
theorem dX1_isComb_13 : decode cX1_isComb 13 = .ok (.ifCond .ge 7, 3) := by decide +kernel
theorem dX1_isComb_16 : decode cX1_isComb 16 = .ok (.iconst 1, 1) := by decide +kernel
theorem dX1_isComb_17 : decode cX1_isComb 17 = .ok (.goto 4, 3) := by decide +kernel
theorem dX1_isComb_20 : decode cX1_isComb 20 = .ok (.iconst 0, 1) := by decide +kernel
theorem dX1_isComb_21 : decode cX1_isComb 21 = .ok (.ireturn, 1) := by decide +kernel
theorem dX1_isRow_0 : decode cX1_isRow 0 = .ok (.aload_n 0, 1) := by decide +kernel
theorem dX1_isRow_1 : decode cX1_isRow 1 = .ok (.ifnull 16, 3) := by decide +kernel
theorem dX1_isRow_4 : decode cX1_isRow 4 = .ok (.aload_n 0, 1) := by decide +kernel
theorem dX1_isRow_5 : decode cX1_isRow 5 = .ok (.getfield 83, 3) := by decide +kernel
theorem dX1_isRow_8 : decode cX1_isRow 8 = .ok (.bipush 8, 2) := by decide +kernel
theorem dX1_isRow_10 : decode cX1_isRow 10 = .ok (.if_icmp .eq 7, 3) := by decide +kernel
theorem dX1_isRow_13 : decode cX1_isRow 13 = .ok (.iconst 1, 1) := by decide +kernel
theorem dX1_isRow_14 : decode cX1_isRow 14 = .ok (.goto 4, 3) := by decide +kernel
theorem dX1_isRow_17 : decode cX1_isRow 17 = .ok (.iconst 0, 1) := by decide +kernel
theorem dX1_isRow_18 : decode cX1_isRow 18 = .ok (.ireturn, 1) := by decide +kernel
theorem dX1_isNumbers_0 : decode cX1_isNumbers 0 = .ok (.aload_n 0, 1) := by decide +kernel
theorem dX1_isNumbers_1 : decode cX1_isNumbers 1 = .ok (.invokestatic 126, 3) := by decide +kernel
theorem dX1_isNumbers_4 : decode cX1_isNumbers 4 = .ok (.ifCond .eq 15, 3) := by decide +kernel
theorem dX1_isNumbers_7 : decode cX1_isNumbers 7 = .ok (.aload_n 0, 1) := by decide +kernel
theorem dX1_isNumbers_8 : decode cX1_isNumbers 8 = .ok (.getfield 83, 3) := by decide +kernel
theorem dX1_isNumbers_11 : decode cX1_isNumbers 11 = .ok (.iconst 3, 1) := by decide +kernel
theorem dX1_isNumbers_12 : decode cX1_isNumbers 12 = .ok (.if_icmp .gt 7, 3) := by decide +kernel
theorem dX1_isNumbers_15 : decode cX1_isNumbers 15 = .ok (.iconst 1, 1) := by decide +kernel
theorem dX1_isNumbers_16 : decode cX1_isNumbers 16 = .ok (.goto 4, 3) := by decide +kernel
theorem dX1_isNumbers_19 : decode cX1_isNumbers 19 = .ok (.iconst 0, 1) := by decide +kernel
theorem dX1_isNumbers_20 : decode cX1_isNumbers 20 = .ok (.ireturn, 1) := by decide +kernel
theorem dX1_isCombs_0 : decode cX1_isCombs 0 = .ok (.aload_n 0, 1) := by decide +kernel
theorem dX1_isCombs_1 : decode cX1_isCombs 1 = .ok (.invokestatic 126, 3) := by decide +kernel
theorem dX1_isCombs_4 : decode cX1_isCombs 4 = .ok (.ifCond .eq 15, 3) := by decide +kernel
theorem dX1_isCombs_7 : decode cX1_isCombs 7 = .ok (.aload_n 0, 1) := by decide +kernel
theorem dX1_isCombs_8 : decode cX1_isCombs 8 = .ok (.getfield 83, 3) := by decide +kernel
theorem dX1_isCombs_11 : decode cX1_isCombs 11 = .ok (.iconst 4, 1) := by decide +kernel
theorem dX1_isCombs_12 : decode cX1_isCombs 12 = .ok (.if_icmp .lt 7, 3) := by decide +kernel
theorem dX1_isCombs_15 : decode cX1_isCombs 15 = .ok (.iconst 1, 1) := by decide +kernel
theorem dX1_isCombs_16 : decode cX1_isCombs 16 = .ok (.goto 4, 3) := by decide +kernel
theorem dX1_isCombs_19 : decode cX1_isCombs 19 = .ok (.iconst 0, 1) := by decide +kernel
theorem dX1_isCombs_20 : decode cX1_isCombs 20 = .ok (.ireturn, 1) := by decide +kernel
theorem dX1_sortOf_0 : decode cX1_sortOf 0 = .ok (.aload_n 0, 1) := by decide +kernel
theorem dX1_sortOf_1 : decode cX1_sortOf 1 = .ok (.ifnonnull 7, 3) := by decide +kernel
theorem dX1_sortOf_4 : decode cX1_sortOf 4 = .ok (.iconst (-1), 1) := by decide +kernel
theorem dX1_sortOf_5 : decode cX1_sortOf 5 = .ok (.goto 7, 3) := by decide +kernel
theorem dX1_sortOf_8 : decode cX1_sortOf 8 = .ok (.aload_n 0, 1) := by decide +kernel
theorem dX1_sortOf_9 : decode cX1_sortOf 9 = .ok (.getfield 83, 3) := by decide +kernel
theorem dX1_sortOf_12 : decode cX1_sortOf 12 = .ok (.ireturn, 1) := by decide +kernel
theorem dX1_cellsIn_0 : decode cX1_cellsIn 0 = .ok (.aload_n 0, 1) := by decide +kernel
theorem dX1_cellsIn_1 : decode cX1_cellsIn 1 = .ok (.ifnonnull 7, 3) := by decide +kernel
theorem dX1_cellsIn_4 : decode cX1_cellsIn 4 = .ok (.iconst 0, 1) := by decide +kernel
theorem dX1_cellsIn_5 : decode cX1_cellsIn 5 = .ok (.goto 8, 3) := by decide +kernel
theorem dX1_cellsIn_8 : decode cX1_cellsIn 8 = .ok (.aload_n 0, 1) := by decide +kernel
theorem dX1_cellsIn_9 : decode cX1_cellsIn 9 = .ok (.getfield 79, 3) := by decide +kernel
theorem dX1_cellsIn_12 : decode cX1_cellsIn 12 = .ok (.arraylength, 1) := by decide +kernel
theorem dX1_cellsIn_13 : decode cX1_cellsIn 13 = .ok (.ireturn, 1) := by decide +kernel
theorem dX1_newRow_0 : decode cX1_newRow 0 = .ok (.iload_n 1, 1) := by decide +kernel
theorem dX1_newRow_1 : decode cX1_newRow 1 = .ok (.newarray .long, 2) := by decide +kernel
theorem dX1_newRow_3 : decode cX1_newRow 3 = .ok (.astore_n 2, 1) := by decide +kernel
theorem dX1_newRow_4 : decode cX1_newRow 4 = .ok (.iload_n 0, 1) := by decide +kernel
theorem dX1_newRow_5 : decode cX1_newRow 5 = .ok (.iconst 4, 1) := by decide +kernel
theorem dX1_newRow_6 : decode cX1_newRow 6 = .ok (.if_icmp .lt 22, 3) := by decide +kernel
theorem dX1_newRow_9 : decode cX1_newRow 9 = .ok (.iconst 0, 1) := by decide +kernel
theorem dX1_newRow_10 : decode cX1_newRow 10 = .ok (.istore_n 3, 1) := by decide +kernel
theorem dX1_newRow_11 : decode cX1_newRow 11 = .ok (.iload_n 3, 1) := by decide +kernel
theorem dX1_newRow_12 : decode cX1_newRow 12 = .ok (.iload_n 1, 1) := by decide +kernel
theorem dX1_newRow_13 : decode cX1_newRow 13 = .ok (.if_icmp .ge 15, 3) := by decide +kernel
theorem dX1_newRow_16 : decode cX1_newRow 16 = .ok (.aload_n 2, 1) := by decide +kernel
theorem dX1_newRow_17 : decode cX1_newRow 17 = .ok (.iload_n 3, 1) := by decide +kernel
theorem dX1_newRow_18 : decode cX1_newRow 18 = .ok (.ldc2_w 105, 3) := by decide +kernel
theorem dX1_newRow_21 : decode cX1_newRow 21 = .ok (.lastore, 1) := by decide +kernel
theorem dX1_newRow_22 : decode cX1_newRow 22 = .ok (.iinc 3 1, 3) := by decide +kernel
theorem dX1_newRow_25 : decode cX1_newRow 25 = .ok (.goto (-14), 3) := by decide +kernel
theorem dX1_newRow_28 : decode cX1_newRow 28 = .ok (.new 9, 3) := by decide +kernel
theorem dX1_newRow_31 : decode cX1_newRow 31 = .ok (.dup, 1) := by decide +kernel
theorem dX1_newRow_32 : decode cX1_newRow 32 = .ok (.iload_n 0, 1) := by decide +kernel
theorem dX1_newRow_33 : decode cX1_newRow 33 = .ok (.aload_n 2, 1) := by decide +kernel
theorem dX1_newRow_34 : decode cX1_newRow 34 = .ok (.invokespecial 15, 3) := by decide +kernel
theorem dX1_newRow_37 : decode cX1_newRow 37 = .ok (.areturn, 1) := by decide +kernel
theorem dX1_lowestBits_0 : decode cX1_lowestBits 0 = .ok (.iload_n 0, 1) := by decide +kernel
theorem dX1_lowestBits_1 : decode cX1_lowestBits 1 = .ok (.tableswitch 45 0 3 #[31, 45, 35, 40], 31) := by decide +kernel
theorem dX1_lowestBits_32 : decode cX1_lowestBits 32 = .ok (.lload_n 1, 1) := by decide +kernel
theorem dX1_lowestBits_33 : decode cX1_lowestBits 33 = .ok (.l2i, 1) := by decide +kernel
theorem dX1_lowestBits_34 : decode cX1_lowestBits 34 = .ok (.i2l, 1) := by decide +kernel
theorem dX1_lowestBits_35 : decode cX1_lowestBits 35 = .ok (.lreturn, 1) := by decide +kernel
theorem dX1_lowestBits_36 : decode cX1_lowestBits 36 = .ok (.lload_n 1, 1) := by decide +kernel
theorem dX1_lowestBits_37 : decode cX1_lowestBits 37 = .ok (.l2i, 1) := by decide +kernel
theorem dX1_lowestBits_38 : decode cX1_lowestBits 38 = .ok (.i2s, 1) := by decide +kernel
theorem dX1_lowestBits_39 : decode cX1_lowestBits 39 = .ok (.i2l, 1) := by decide +kernel
theorem dX1_lowestBits_40 : decode cX1_lowestBits 40 = .ok (.lreturn, 1) := by decide +kernel
theorem dX1_lowestBits_41 : decode cX1_lowestBits 41 = .ok (.lload_n 1, 1) := by decide +kernel
theorem dX1_lowestBits_42 : decode cX1_lowestBits 42 = .ok (.l2i, 1) := by decide +kernel
theorem dX1_lowestBits_43 : decode cX1_lowestBits 43 = .ok (.i2b, 1) := by decide +kernel
theorem dX1_lowestBits_44 : decode cX1_lowestBits 44 = .ok (.i2l, 1) := by decide +kernel
theorem dX1_lowestBits_45 : decode cX1_lowestBits 45 = .ok (.lreturn, 1) := by decide +kernel
theorem dX1_lowestBits_46 : decode cX1_lowestBits 46 = .ok (.lload_n 1, 1) := by decide +kernel
theorem dX1_lowestBits_47 : decode cX1_lowestBits 47 = .ok (.lreturn, 1) := by decide +kernel
theorem dX1_takes_0 : decode cX1_takes 0 = .ok (.iload_n 0, 1) := by decide +kernel
theorem dX1_takes_1 : decode cX1_takes 1 = .ok (.iconst 4, 1) := by decide +kernel
theorem dX1_takes_2 : decode cX1_takes 2 = .ok (.isub, 1) := by decide +kernel
theorem dX1_takes_3 : decode cX1_takes 3 = .ok (.istore_n 2, 1) := by decide +kernel
theorem dX1_takes_4 : decode cX1_takes 4 = .ok (.iload_n 2, 1) := by decide +kernel
theorem dX1_takes_5 : decode cX1_takes 5 = .ok (.ifCond .eq 18, 3) := by decide +kernel
theorem dX1_takes_8 : decode cX1_takes 8 = .ok (.iload_n 2, 1) := by decide +kernel
theorem dX1_takes_9 : decode cX1_takes 9 = .ok (.iload_n 1, 1) := by decide +kernel
theorem dX1_takes_10 : decode cX1_takes 10 = .ok (.if_icmp .eq 13, 3) := by decide +kernel
theorem dX1_takes_13 : decode cX1_takes 13 = .ok (.iload_n 2, 1) := by decide +kernel
theorem dX1_takes_14 : decode cX1_takes 14 = .ok (.iconst 1, 1) := by decide +kernel
theorem dX1_takes_15 : decode cX1_takes 15 = .ok (.if_icmp .ne 12, 3) := by decide +kernel
theorem dX1_takes_18 : decode cX1_takes 18 = .ok (.iload_n 1, 1) := by decide +kernel
theorem dX1_takes_19 : decode cX1_takes 19 = .ok (.iconst 3, 1) := by decide +kernel
theorem dX1_takes_20 : decode cX1_takes 20 = .ok (.if_icmp .ne 7, 3) := by decide +kernel
theorem dX1_takes_23 : decode cX1_takes 23 = .ok (.iconst 1, 1) := by decide +kernel
theorem dX1_takes_24 : decode cX1_takes 24 = .ok (.goto 4, 3) := by decide +kernel
theorem dX1_takes_27 : decode cX1_takes 27 = .ok (.iconst 0, 1) := by decide +kernel
theorem dX1_takes_28 : decode cX1_takes 28 = .ok (.ireturn, 1) := by decide +kernel
theorem dX1_carry_0 : decode cX1_carry 0 = .ok (.aload_n 1, 1) := by decide +kernel
theorem dX1_carry_1 : decode cX1_carry 1 = .ok (.ifnull 7, 3) := by decide +kernel
theorem dX1_carry_4 : decode cX1_carry 4 = .ok (.aload_n 3, 1) := by decide +kernel
theorem dX1_carry_5 : decode cX1_carry 5 = .ok (.ifnonnull 10, 3) := by decide +kernel
theorem dX1_carry_8 : decode cX1_carry 8 = .ok (.aload_n 0, 1) := by decide +kernel
theorem dX1_carry_9 : decode cX1_carry 9 = .ok (.iconst 1, 1) := by decide +kernel
theorem dX1_carry_10 : decode cX1_carry 10 = .ok (.iconst 0, 1) := by decide +kernel
theorem dX1_carry_11 : decode cX1_carry 11 = .ok (.invokevirtual 172, 3) := by decide +kernel
theorem dX1_carry_14 : decode cX1_carry 14 = .ok (.ireturn, 1) := by decide +kernel
theorem dX1_carry_15 : decode cX1_carry 15 = .ok (.aload_n 1, 1) := by decide +kernel
theorem dX1_carry_16 : decode cX1_carry 16 = .ok (.invokestatic 126, 3) := by decide +kernel
theorem dX1_carry_19 : decode cX1_carry 19 = .ok (.ifCond .eq 10, 3) := by decide +kernel
theorem dX1_carry_22 : decode cX1_carry 22 = .ok (.aload_n 3, 1) := by decide +kernel
theorem dX1_carry_23 : decode cX1_carry 23 = .ok (.invokestatic 126, 3) := by decide +kernel
theorem dX1_carry_26 : decode cX1_carry 26 = .ok (.ifCond .ne 10, 3) := by decide +kernel
theorem dX1_carry_29 : decode cX1_carry 29 = .ok (.aload_n 0, 1) := by decide +kernel
theorem dX1_carry_30 : decode cX1_carry 30 = .ok (.iconst 2, 1) := by decide +kernel
theorem dX1_carry_31 : decode cX1_carry 31 = .ok (.iconst 0, 1) := by decide +kernel
theorem dX1_carry_32 : decode cX1_carry 32 = .ok (.invokevirtual 172, 3) := by decide +kernel
theorem dX1_carry_35 : decode cX1_carry 35 = .ok (.ireturn, 1) := by decide +kernel
theorem dX1_carry_36 : decode cX1_carry 36 = .ok (.aload_n 1, 1) := by decide +kernel
theorem dX1_carry_37 : decode cX1_carry 37 = .ok (.aload_n 3, 1) := by decide +kernel
theorem dX1_carry_38 : decode cX1_carry 38 = .ok (.invokestatic 175, 3) := by decide +kernel
theorem dX1_carry_41 : decode cX1_carry 41 = .ok (.ifCond .eq 10, 3) := by decide +kernel
theorem dX1_carry_44 : decode cX1_carry 44 = .ok (.aload_n 0, 1) := by decide +kernel
theorem dX1_carry_45 : decode cX1_carry 45 = .ok (.iconst 3, 1) := by decide +kernel
theorem dX1_carry_46 : decode cX1_carry 46 = .ok (.iconst 0, 1) := by decide +kernel
theorem dX1_carry_47 : decode cX1_carry 47 = .ok (.invokevirtual 172, 3) := by decide +kernel
theorem dX1_carry_50 : decode cX1_carry 50 = .ok (.ireturn, 1) := by decide +kernel
theorem dX1_carry_51 : decode cX1_carry 51 = .ok (.aload_n 1, 1) := by decide +kernel
theorem dX1_carry_52 : decode cX1_carry 52 = .ok (.iload_n 2, 1) := by decide +kernel
theorem dX1_carry_53 : decode cX1_carry 53 = .ok (.iload 5, 2) := by decide +kernel
theorem dX1_carry_55 : decode cX1_carry 55 = .ok (.invokestatic 179, 3) := by decide +kernel
theorem dX1_carry_58 : decode cX1_carry 58 = .ok (.ifCond .ne 14, 3) := by decide +kernel
theorem dX1_carry_61 : decode cX1_carry 61 = .ok (.aload_n 3, 1) := by decide +kernel
theorem dX1_carry_62 : decode cX1_carry 62 = .ok (.iload 4, 2) := by decide +kernel
theorem dX1_carry_64 : decode cX1_carry 64 = .ok (.iload 5, 2) := by decide +kernel
theorem dX1_carry_66 : decode cX1_carry 66 = .ok (.invokestatic 179, 3) := by decide +kernel
theorem dX1_carry_69 : decode cX1_carry 69 = .ok (.ifCond .eq 10, 3) := by decide +kernel
theorem dX1_carry_72 : decode cX1_carry 72 = .ok (.aload_n 0, 1) := by decide +kernel
theorem dX1_carry_73 : decode cX1_carry 73 = .ok (.iconst 4, 1) := by decide +kernel
theorem dX1_carry_74 : decode cX1_carry 74 = .ok (.iconst 0, 1) := by decide +kernel
theorem dX1_carry_75 : decode cX1_carry 75 = .ok (.invokevirtual 172, 3) := by decide +kernel
theorem dX1_carry_78 : decode cX1_carry 78 = .ok (.ireturn, 1) := by decide +kernel
theorem dX1_carry_79 : decode cX1_carry 79 = .ok (.aload_n 0, 1) := by decide +kernel
theorem dX1_carry_80 : decode cX1_carry 80 = .ok (.aload_n 1, 1) := by decide +kernel
theorem dX1_carry_81 : decode cX1_carry 81 = .ok (.iload_n 2, 1) := by decide +kernel
theorem dX1_carry_82 : decode cX1_carry 82 = .ok (.aload_n 3, 1) := by decide +kernel
theorem dX1_carry_83 : decode cX1_carry 83 = .ok (.iload 5, 2) := by decide +kernel
theorem dX1_carry_85 : decode cX1_carry 85 = .ok (.invokevirtual 183, 3) := by decide +kernel
theorem dX1_carry_88 : decode cX1_carry 88 = .ok (.istore 6, 2) := by decide +kernel
theorem dX1_carry_90 : decode cX1_carry 90 = .ok (.aload_n 1, 1) := by decide +kernel
theorem dX1_carry_91 : decode cX1_carry 91 = .ok (.getfield 79, 3) := by decide +kernel
theorem dX1_carry_94 : decode cX1_carry 94 = .ok (.iload_n 2, 1) := by decide +kernel
theorem dX1_carry_95 : decode cX1_carry 95 = .ok (.aload_n 3, 1) := by decide +kernel
theorem dX1_carry_96 : decode cX1_carry 96 = .ok (.getfield 79, 3) := by decide +kernel
theorem dX1_carry_99 : decode cX1_carry 99 = .ok (.iload 4, 2) := by decide +kernel
theorem dX1_carry_101 : decode cX1_carry 101 = .ok (.iload 6, 2) := by decide +kernel
theorem dX1_carry_103 : decode cX1_carry 103 = .ok (.invokestatic 187, 3) := by decide +kernel
theorem dX1_carry_106 : decode cX1_carry 106 = .ok (.aload_n 0, 1) := by decide +kernel
theorem dX1_carry_107 : decode cX1_carry 107 = .ok (.iload 6, 2) := by decide +kernel
theorem dX1_carry_109 : decode cX1_carry 109 = .ok (.iload 5, 2) := by decide +kernel
theorem dX1_carry_111 : decode cX1_carry 111 = .ok (.if_icmp .ge 7, 3) := by decide +kernel
theorem dX1_carry_114 : decode cX1_carry 114 = .ok (.iconst 5, 1) := by decide +kernel
theorem dX1_carry_115 : decode cX1_carry 115 = .ok (.goto 4, 3) := by decide +kernel
theorem dX1_carry_118 : decode cX1_carry 118 = .ok (.iconst 0, 1) := by decide +kernel
theorem dX1_carry_119 : decode cX1_carry 119 = .ok (.iload 6, 2) := by decide +kernel
theorem dX1_carry_121 : decode cX1_carry 121 = .ok (.invokevirtual 172, 3) := by decide +kernel
theorem dX1_carry_124 : decode cX1_carry 124 = .ok (.ireturn, 1) := by decide +kernel
theorem dX1_areUnlike_0 : decode cX1_areUnlike 0 = .ok (.aload_n 0, 1) := by decide +kernel
theorem dX1_areUnlike_1 : decode cX1_areUnlike 1 = .ok (.getfield 83, 3) := by decide +kernel
theorem dX1_areUnlike_4 : decode cX1_areUnlike 4 = .ok (.aload_n 1, 1) := by decide +kernel
theorem dX1_areUnlike_5 : decode cX1_areUnlike 5 = .ok (.getfield 83, 3) := by decide +kernel
theorem dX1_areUnlike_8 : decode cX1_areUnlike 8 = .ok (.if_icmp .eq 21, 3) := by decide +kernel
theorem dX1_areUnlike_11 : decode cX1_areUnlike 11 = .ok (.aload_n 0, 1) := by decide +kernel
theorem dX1_areUnlike_12 : decode cX1_areUnlike 12 = .ok (.invokestatic 129, 3) := by decide +kernel
theorem dX1_areUnlike_15 : decode cX1_areUnlike 15 = .ok (.ifCond .eq 10, 3) := by decide +kernel
theorem dX1_areUnlike_18 : decode cX1_areUnlike 18 = .ok (.aload_n 1, 1) := by decide +kernel
theorem dX1_areUnlike_19 : decode cX1_areUnlike 19 = .ok (.invokestatic 129, 3) := by decide +kernel
theorem dX1_areUnlike_22 : decode cX1_areUnlike 22 = .ok (.ifCond .ne 7, 3) := by decide +kernel
theorem dX1_areUnlike_25 : decode cX1_areUnlike 25 = .ok (.iconst 1, 1) := by decide +kernel
theorem dX1_areUnlike_26 : decode cX1_areUnlike 26 = .ok (.goto 4, 3) := by decide +kernel
theorem dX1_areUnlike_29 : decode cX1_areUnlike 29 = .ok (.iconst 0, 1) := by decide +kernel
theorem dX1_areUnlike_30 : decode cX1_areUnlike 30 = .ok (.ireturn, 1) := by decide +kernel
theorem dX1_isOutside_0 : decode cX1_isOutside 0 = .ok (.iload_n 1, 1) := by decide +kernel
theorem dX1_isOutside_1 : decode cX1_isOutside 1 = .ok (.ifCond .lt 22, 3) := by decide +kernel
theorem dX1_isOutside_4 : decode cX1_isOutside 4 = .ok (.iload_n 2, 1) := by decide +kernel
theorem dX1_isOutside_5 : decode cX1_isOutside 5 = .ok (.ifCond .lt 18, 3) := by decide +kernel
theorem dX1_isOutside_8 : decode cX1_isOutside 8 = .ok (.iload_n 1, 1) := by decide +kernel
theorem dX1_isOutside_9 : decode cX1_isOutside 9 = .ok (.i2l, 1) := by decide +kernel
theorem dX1_isOutside_10 : decode cX1_isOutside 10 = .ok (.iload_n 2, 1) := by decide +kernel
theorem dX1_isOutside_11 : decode cX1_isOutside 11 = .ok (.i2l, 1) := by decide +kernel
theorem dX1_isOutside_12 : decode cX1_isOutside 12 = .ok (.ladd, 1) := by decide +kernel
theorem dX1_isOutside_13 : decode cX1_isOutside 13 = .ok (.aload_n 0, 1) := by decide +kernel
theorem dX1_isOutside_14 : decode cX1_isOutside 14 = .ok (.getfield 79, 3) := by decide +kernel
theorem dX1_isOutside_17 : decode cX1_isOutside 17 = .ok (.arraylength, 1) := by decide +kernel
theorem dX1_isOutside_18 : decode cX1_isOutside 18 = .ok (.i2l, 1) := by decide +kernel
theorem dX1_isOutside_19 : decode cX1_isOutside 19 = .ok (.lcmp, 1) := by decide +kernel
theorem dX1_isOutside_20 : decode cX1_isOutside 20 = .ok (.ifCond .le 7, 3) := by decide +kernel
theorem dX1_isOutside_23 : decode cX1_isOutside 23 = .ok (.iconst 1, 1) := by decide +kernel
theorem dX1_isOutside_24 : decode cX1_isOutside 24 = .ok (.goto 4, 3) := by decide +kernel
theorem dX1_isOutside_27 : decode cX1_isOutside 27 = .ok (.iconst 0, 1) := by decide +kernel
theorem dX1_isOutside_28 : decode cX1_isOutside 28 = .ok (.ireturn, 1) := by decide +kernel
theorem dX1_howManyFit_0 : decode cX1_howManyFit 0 = .ok (.aload_n 1, 1) := by decide +kernel
theorem dX1_howManyFit_1 : decode cX1_howManyFit 1 = .ok (.invokestatic 66, 3) := by decide +kernel
theorem dX1_howManyFit_4 : decode cX1_howManyFit 4 = .ok (.ifCond .eq 6, 3) := by decide +kernel
theorem dX1_howManyFit_7 : decode cX1_howManyFit 7 = .ok (.iload 4, 2) := by decide +kernel
theorem dX1_howManyFit_9 : decode cX1_howManyFit 9 = .ok (.ireturn, 1) := by decide +kernel
theorem dX1_howManyFit_10 : decode cX1_howManyFit 10 = .ok (.iconst 0, 1) := by decide +kernel
theorem dX1_howManyFit_11 : decode cX1_howManyFit 11 = .ok (.istore 5, 2) := by decide +kernel
theorem dX1_howManyFit_13 : decode cX1_howManyFit 13 = .ok (.iload 5, 2) := by decide +kernel
theorem dX1_howManyFit_15 : decode cX1_howManyFit 15 = .ok (.iload 4, 2) := by decide +kernel
theorem dX1_howManyFit_17 : decode cX1_howManyFit 17 = .ok (.if_icmp .ge 50, 3) := by decide +kernel
theorem dX1_howManyFit_20 : decode cX1_howManyFit 20 = .ok (.aload_n 1, 1) := by decide +kernel
theorem dX1_howManyFit_21 : decode cX1_howManyFit 21 = .ok (.getfield 79, 3) := by decide +kernel
theorem dX1_howManyFit_24 : decode cX1_howManyFit 24 = .ok (.iload_n 2, 1) := by decide +kernel
theorem dX1_howManyFit_25 : decode cX1_howManyFit 25 = .ok (.iload 5, 2) := by decide +kernel
theorem dX1_howManyFit_27 : decode cX1_howManyFit 27 = .ok (.iadd, 1) := by decide +kernel
theorem dX1_howManyFit_28 : decode cX1_howManyFit 28 = .ok (.laload, 1) := by decide +kernel
theorem dX1_howManyFit_29 : decode cX1_howManyFit 29 = .ok (.lstore 6, 2) := by decide +kernel
theorem dX1_howManyFit_31 : decode cX1_howManyFit 31 = .ok (.aload_n 0, 1) := by decide +kernel
theorem dX1_howManyFit_32 : decode cX1_howManyFit 32 = .ok (.lload 6, 2) := by decide +kernel
theorem dX1_howManyFit_34 : decode cX1_howManyFit 34 = .ok (.invokevirtual 166, 3) := by decide +kernel
theorem dX1_howManyFit_37 : decode cX1_howManyFit 37 = .ok (.ifCond .eq 24, 3) := by decide +kernel
theorem dX1_howManyFit_40 : decode cX1_howManyFit 40 = .ok (.aload_n 3, 1) := by decide +kernel
theorem dX1_howManyFit_41 : decode cX1_howManyFit 41 = .ok (.getfield 83, 3) := by decide +kernel
theorem dX1_howManyFit_44 : decode cX1_howManyFit 44 = .ok (.aload_n 0, 1) := by decide +kernel
theorem dX1_howManyFit_45 : decode cX1_howManyFit 45 = .ok (.getfield 22, 3) := by decide +kernel
theorem dX1_howManyFit_48 : decode cX1_howManyFit 48 = .ok (.lload 6, 2) := by decide +kernel
theorem dX1_howManyFit_50 : decode cX1_howManyFit 50 = .ok (.l2i, 1) := by decide +kernel
theorem dX1_howManyFit_51 : decode cX1_howManyFit 51 = .ok (.iaload, 1) := by decide +kernel
theorem dX1_howManyFit_52 : decode cX1_howManyFit 52 = .ok (.invokestatic 101, 3) := by decide +kernel
theorem dX1_howManyFit_55 : decode cX1_howManyFit 55 = .ok (.ifCond .ne 6, 3) := by decide +kernel
theorem dX1_howManyFit_58 : decode cX1_howManyFit 58 = .ok (.iload 5, 2) := by decide +kernel
theorem dX1_howManyFit_60 : decode cX1_howManyFit 60 = .ok (.ireturn, 1) := by decide +kernel
theorem dX1_howManyFit_61 : decode cX1_howManyFit 61 = .ok (.iinc 5 1, 3) := by decide +kernel
theorem dX1_howManyFit_64 : decode cX1_howManyFit 64 = .ok (.goto (-51), 3) := by decide +kernel
theorem dX1_howManyFit_67 : decode cX1_howManyFit 67 = .ok (.iload 4, 2) := by decide +kernel
theorem dX1_howManyFit_69 : decode cX1_howManyFit 69 = .ok (.ireturn, 1) := by decide +kernel
theorem dX1_ended_0 : decode cX1_ended 0 = .ok (.aload_n 0, 1) := by decide +kernel
theorem dX1_ended_1 : decode cX1_ended 1 = .ok (.dup, 1) := by decide +kernel
theorem dX1_ended_2 : decode cX1_ended 2 = .ok (.getfield 142, 3) := by decide +kernel
theorem dX1_ended_5 : decode cX1_ended 5 = .ok (.iconst 1, 1) := by decide +kernel
theorem dX1_ended_6 : decode cX1_ended 6 = .ok (.iadd, 1) := by decide +kernel
theorem dX1_ended_7 : decode cX1_ended 7 = .ok (.putfield 142, 3) := by decide +kernel
theorem dX1_ended_10 : decode cX1_ended 10 = .ok (.aload_n 0, 1) := by decide +kernel
theorem dX1_ended_11 : decode cX1_ended 11 = .ok (.getfield 29, 3) := by decide +kernel
theorem dX1_ended_14 : decode cX1_ended 14 = .ok (.iload_n 1, 1) := by decide +kernel
theorem dX1_ended_15 : decode cX1_ended 15 = .ok (.dup2, 1) := by decide +kernel
theorem dX1_ended_16 : decode cX1_ended 16 = .ok (.iaload, 1) := by decide +kernel
theorem dX1_ended_17 : decode cX1_ended 17 = .ok (.iconst 1, 1) := by decide +kernel
theorem dX1_ended_18 : decode cX1_ended 18 = .ok (.iadd, 1) := by decide +kernel
theorem dX1_ended_19 : decode cX1_ended 19 = .ok (.iastore, 1) := by decide +kernel
theorem dX1_ended_20 : decode cX1_ended 20 = .ok (.aload_n 0, 1) := by decide +kernel
theorem dX1_ended_21 : decode cX1_ended 21 = .ok (.iload_n 2, 1) := by decide +kernel
theorem dX1_ended_22 : decode cX1_ended 22 = .ok (.putfield 120, 3) := by decide +kernel
theorem dX1_ended_25 : decode cX1_ended 25 = .ok (.aload_n 0, 1) := by decide +kernel
theorem dX1_ended_26 : decode cX1_ended 26 = .ok (.dup, 1) := by decide +kernel
theorem dX1_ended_27 : decode cX1_ended 27 = .ok (.getfield 145, 3) := by decide +kernel
theorem dX1_ended_30 : decode cX1_ended 30 = .ok (.iload_n 2, 1) := by decide +kernel
theorem dX1_ended_31 : decode cX1_ended 31 = .ok (.iadd, 1) := by decide +kernel
theorem dX1_ended_32 : decode cX1_ended 32 = .ok (.putfield 145, 3) := by decide +kernel
theorem dX1_ended_35 : decode cX1_ended 35 = .ok (.iload_n 1, 1) := by decide +kernel
theorem dX1_ended_36 : decode cX1_ended 36 = .ok (.ireturn, 1) := by decide +kernel
theorem dX1_sumOfNumbers_0 : decode cX1_sumOfNumbers 0 = .ok (.lconst 0, 1) := by decide +kernel
theorem dX1_sumOfNumbers_1 : decode cX1_sumOfNumbers 1 = .ok (.lstore_n 1, 1) := by decide +kernel
theorem dX1_sumOfNumbers_2 : decode cX1_sumOfNumbers 2 = .ok (.iconst 0, 1) := by decide +kernel
theorem dX1_sumOfNumbers_3 : decode cX1_sumOfNumbers 3 = .ok (.istore_n 3, 1) := by decide +kernel
theorem dX1_sumOfNumbers_4 : decode cX1_sumOfNumbers 4 = .ok (.iload_n 3, 1) := by decide +kernel
theorem dX1_sumOfNumbers_5 : decode cX1_sumOfNumbers 5 = .ok (.aload_n 0, 1) := by decide +kernel
theorem dX1_sumOfNumbers_6 : decode cX1_sumOfNumbers 6 = .ok (.arraylength, 1) := by decide +kernel
theorem dX1_sumOfNumbers_7 : decode cX1_sumOfNumbers 7 = .ok (.if_icmp .ge 15, 3) := by decide +kernel
theorem dX1_sumOfNumbers_10 : decode cX1_sumOfNumbers 10 = .ok (.lload_n 1, 1) := by decide +kernel
theorem dX1_sumOfNumbers_11 : decode cX1_sumOfNumbers 11 = .ok (.aload_n 0, 1) := by decide +kernel
theorem dX1_sumOfNumbers_12 : decode cX1_sumOfNumbers 12 = .ok (.iload_n 3, 1) := by decide +kernel
theorem dX1_sumOfNumbers_13 : decode cX1_sumOfNumbers 13 = .ok (.laload, 1) := by decide +kernel
theorem dX1_sumOfNumbers_14 : decode cX1_sumOfNumbers 14 = .ok (.ladd, 1) := by decide +kernel
theorem dX1_sumOfNumbers_15 : decode cX1_sumOfNumbers 15 = .ok (.lstore_n 1, 1) := by decide +kernel
theorem dX1_sumOfNumbers_16 : decode cX1_sumOfNumbers 16 = .ok (.iinc 3 1, 3) := by decide +kernel
theorem dX1_sumOfNumbers_19 : decode cX1_sumOfNumbers 19 = .ok (.goto (-15), 3) := by decide +kernel
theorem dX1_sumOfNumbers_22 : decode cX1_sumOfNumbers 22 = .ok (.lload_n 1, 1) := by decide +kernel
theorem dX1_sumOfNumbers_23 : decode cX1_sumOfNumbers 23 = .ok (.lreturn, 1) := by decide +kernel
theorem dX1_sumOfWeights_0 : decode cX1_sumOfWeights 0 = .ok (.lconst 0, 1) := by decide +kernel
theorem dX1_sumOfWeights_1 : decode cX1_sumOfWeights 1 = .ok (.lstore_n 2, 1) := by decide +kernel
theorem dX1_sumOfWeights_2 : decode cX1_sumOfWeights 2 = .ok (.iconst 0, 1) := by decide +kernel
theorem dX1_sumOfWeights_3 : decode cX1_sumOfWeights 3 = .ok (.istore 4, 2) := by decide +kernel
theorem dX1_sumOfWeights_5 : decode cX1_sumOfWeights 5 = .ok (.iload 4, 2) := by decide +kernel
theorem dX1_sumOfWeights_7 : decode cX1_sumOfWeights 7 = .ok (.aload_n 1, 1) := by decide +kernel
theorem dX1_sumOfWeights_8 : decode cX1_sumOfWeights 8 = .ok (.arraylength, 1) := by decide +kernel
theorem dX1_sumOfWeights_9 : decode cX1_sumOfWeights 9 = .ok (.if_icmp .ge 34, 3) := by decide +kernel
theorem dX1_sumOfWeights_12 : decode cX1_sumOfWeights 12 = .ok (.aload_n 0, 1) := by decide +kernel
theorem dX1_sumOfWeights_13 : decode cX1_sumOfWeights 13 = .ok (.aload_n 1, 1) := by decide +kernel
theorem dX1_sumOfWeights_14 : decode cX1_sumOfWeights 14 = .ok (.iload 4, 2) := by decide +kernel
theorem dX1_sumOfWeights_16 : decode cX1_sumOfWeights 16 = .ok (.laload, 1) := by decide +kernel
theorem dX1_sumOfWeights_17 : decode cX1_sumOfWeights 17 = .ok (.invokevirtual 166, 3) := by decide +kernel
theorem dX1_sumOfWeights_20 : decode cX1_sumOfWeights 20 = .ok (.ifCond .eq 17, 3) := by decide +kernel
theorem dX1_sumOfWeights_23 : decode cX1_sumOfWeights 23 = .ok (.lload_n 2, 1) := by decide +kernel
theorem dX1_sumOfWeights_24 : decode cX1_sumOfWeights 24 = .ok (.aload_n 0, 1) := by decide +kernel
theorem dX1_sumOfWeights_25 : decode cX1_sumOfWeights 25 = .ok (.getfield 26, 3) := by decide +kernel
theorem dX1_sumOfWeights_28 : decode cX1_sumOfWeights 28 = .ok (.aload_n 1, 1) := by decide +kernel
theorem dX1_sumOfWeights_29 : decode cX1_sumOfWeights 29 = .ok (.iload 4, 2) := by decide +kernel
theorem dX1_sumOfWeights_31 : decode cX1_sumOfWeights 31 = .ok (.laload, 1) := by decide +kernel
theorem dX1_sumOfWeights_32 : decode cX1_sumOfWeights 32 = .ok (.l2i, 1) := by decide +kernel
theorem dX1_sumOfWeights_33 : decode cX1_sumOfWeights 33 = .ok (.iaload, 1) := by decide +kernel
theorem dX1_sumOfWeights_34 : decode cX1_sumOfWeights 34 = .ok (.i2l, 1) := by decide +kernel
theorem dX1_sumOfWeights_35 : decode cX1_sumOfWeights 35 = .ok (.ladd, 1) := by decide +kernel
theorem dX1_sumOfWeights_36 : decode cX1_sumOfWeights 36 = .ok (.lstore_n 2, 1) := by decide +kernel
theorem dX1_sumOfWeights_37 : decode cX1_sumOfWeights 37 = .ok (.iinc 4 1, 3) := by decide +kernel
theorem dX1_sumOfWeights_40 : decode cX1_sumOfWeights 40 = .ok (.goto (-35), 3) := by decide +kernel
theorem dX1_sumOfWeights_43 : decode cX1_sumOfWeights 43 = .ok (.lload_n 2, 1) := by decide +kernel
theorem dX1_sumOfWeights_44 : decode cX1_sumOfWeights 44 = .ok (.lreturn, 1) := by decide +kernel
theorem dJ9_min_7cf53_0 : decode cJ9_min_7cf53 0 = .ok (.iload_n 0, 1) := by decide +kernel
theorem dJ9_min_7cf53_1 : decode cJ9_min_7cf53 1 = .ok (.iload_n 1, 1) := by decide +kernel
theorem dJ9_min_7cf53_2 : decode cJ9_min_7cf53 2 = .ok (.if_icmp .gt 7, 3) := by decide +kernel
theorem dJ9_min_7cf53_5 : decode cJ9_min_7cf53 5 = .ok (.iload_n 0, 1) := by decide +kernel
theorem dJ9_min_7cf53_6 : decode cJ9_min_7cf53 6 = .ok (.goto 4, 3) := by decide +kernel
theorem dJ9_min_7cf53_9 : decode cJ9_min_7cf53 9 = .ok (.iload_n 1, 1) := by decide +kernel
theorem dJ9_min_7cf53_10 : decode cJ9_min_7cf53 10 = .ok (.ireturn, 1) := by decide +kernel
