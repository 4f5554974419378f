theorem dL_row_0 : decode cL_row 0 = .ok (.aload 4, 2) := by decide +kernel
theorem dL_row_2 : decode cL_row 2 = .ok (.iconst 0, 1) := by decide +kernel
theorem dL_row_3 : decode cL_row 3 = .ok (.aload_n 0, 1) := by decide +kernel
theorem dL_row_4 : decode cL_row 4 = .ok (.iload_n 1, 1) := by decide +kernel
theorem dL_row_5 : decode cL_row 5 = .ok (.iload_n 2, 1) := by decide +kernel
theorem dL_row_6 : decode cL_row 6 = .ok (.iload_n 3, 1) := by decide +kernel
theorem dL_row_7 : decode cL_row 7 = .ok (.invokevirtual 7, 3) := by decide +kernel
theorem dL_row_10 : decode cL_row 10 = .ok (.ifCond .eq 7, 3) := by decide +kernel
theorem dL_row_13 : decode cL_row 13 = .ok (.lconst 1, 1) := by decide +kernel
theorem dL_row_14 : decode cL_row 14 = .ok (.goto 4, 3) := by decide +kernel
theorem dL_row_17 : decode cL_row 17 = .ok (.lconst 0, 1) := by decide +kernel
theorem dL_row_18 : decode cL_row 18 = .ok (.lastore, 1) := by decide +kernel
theorem dL_row_19 : decode cL_row 19 = .ok (.goto 15, 3) := by decide +kernel
theorem dL_row_22 : decode cL_row 22 = .ok (.astore 5, 2) := by decide +kernel
theorem dL_row_24 : decode cL_row 24 = .ok (.iconst 1, 1) := by decide +kernel
theorem dL_row_25 : decode cL_row 25 = .ok (.ireturn, 1) := by decide +kernel
theorem dL_row_26 : decode cL_row 26 = .ok (.astore 5, 2) := by decide +kernel
theorem dL_row_28 : decode cL_row 28 = .ok (.iconst 2, 1) := by decide +kernel
theorem dL_row_29 : decode cL_row 29 = .ok (.ireturn, 1) := by decide +kernel
theorem dL_row_30 : decode cL_row 30 = .ok (.astore 5, 2) := by decide +kernel
theorem dL_row_32 : decode cL_row 32 = .ok (.iconst 3, 1) := by decide +kernel
theorem dL_row_33 : decode cL_row 33 = .ok (.ireturn, 1) := by decide +kernel
theorem dL_row_34 : decode cL_row 34 = .ok (.iconst 0, 1) := by decide +kernel
theorem dL_row_35 : decode cL_row 35 = .ok (.ireturn, 1) := by decide +kernel
theorem dL_lid_0 : decode cL_lid 0 = .ok (.aload_n 2, 1) := by decide +kernel
theorem dL_lid_1 : decode cL_lid 1 = .ok (.iconst 0, 1) := by decide +kernel
theorem dL_lid_2 : decode cL_lid 2 = .ok (.aload_n 0, 1) := by decide +kernel
theorem dL_lid_3 : decode cL_lid 3 = .ok (.iload_n 1, 1) := by decide +kernel
theorem dL_lid_4 : decode cL_lid 4 = .ok (.invokevirtual 19, 3) := by decide +kernel
theorem dL_lid_7 : decode cL_lid 7 = .ok (.ifCond .eq 7, 3) := by decide +kernel
theorem dL_lid_10 : decode cL_lid 10 = .ok (.lconst 1, 1) := by decide +kernel
theorem dL_lid_11 : decode cL_lid 11 = .ok (.goto 4, 3) := by decide +kernel
theorem dL_lid_14 : decode cL_lid 14 = .ok (.lconst 0, 1) := by decide +kernel
theorem dL_lid_15 : decode cL_lid 15 = .ok (.lastore, 1) := by decide +kernel
theorem dL_lid_16 : decode cL_lid 16 = .ok (.goto 6, 3) := by decide +kernel
theorem dL_lid_19 : decode cL_lid 19 = .ok (.astore_n 3, 1) := by decide +kernel
theorem dL_lid_20 : decode cL_lid 20 = .ok (.iconst 1, 1) := by decide +kernel
theorem dL_lid_21 : decode cL_lid 21 = .ok (.ireturn, 1) := by decide +kernel
theorem dL_lid_22 : decode cL_lid 22 = .ok (.iconst 0, 1) := by decide +kernel
theorem dL_lid_23 : decode cL_lid 23 = .ok (.ireturn, 1) := by decide +kernel
theorem dL_clear_0 : decode cL_clear 0 = .ok (.aload_n 2, 1) := by decide +kernel
theorem dL_clear_1 : decode cL_clear 1 = .ok (.iconst 0, 1) := by decide +kernel
theorem dL_clear_2 : decode cL_clear 2 = .ok (.aload_n 0, 1) := by decide +kernel
theorem dL_clear_3 : decode cL_clear 3 = .ok (.iload_n 1, 1) := by decide +kernel
theorem dL_clear_4 : decode cL_clear 4 = .ok (.invokevirtual 23, 3) := by decide +kernel
theorem dL_clear_7 : decode cL_clear 7 = .ok (.ifCond .eq 7, 3) := by decide +kernel
theorem dL_clear_10 : decode cL_clear 10 = .ok (.lconst 1, 1) := by decide +kernel
theorem dL_clear_11 : decode cL_clear 11 = .ok (.goto 4, 3) := by decide +kernel
theorem dL_clear_14 : decode cL_clear 14 = .ok (.lconst 0, 1) := by decide +kernel
theorem dL_clear_15 : decode cL_clear 15 = .ok (.lastore, 1) := by decide +kernel
theorem dL_clear_16 : decode cL_clear 16 = .ok (.goto 6, 3) := by decide +kernel
theorem dL_clear_19 : decode cL_clear 19 = .ok (.astore_n 3, 1) := by decide +kernel
theorem dL_clear_20 : decode cL_clear 20 = .ok (.iconst 1, 1) := by decide +kernel
theorem dL_clear_21 : decode cL_clear 21 = .ok (.ireturn, 1) := by decide +kernel
theorem dL_clear_22 : decode cL_clear 22 = .ok (.iconst 0, 1) := by decide +kernel
theorem dL_clear_23 : decode cL_clear 23 = .ok (.ireturn, 1) := by decide +kernel
theorem dL_share_0 : decode cL_share 0 = .ok (.aload_n 3, 1) := by decide +kernel
theorem dL_share_1 : decode cL_share 1 = .ok (.iconst 0, 1) := by decide +kernel
theorem dL_share_2 : decode cL_share 2 = .ok (.aload_n 0, 1) := by decide +kernel
theorem dL_share_3 : decode cL_share 3 = .ok (.iload_n 1, 1) := by decide +kernel
theorem dL_share_4 : decode cL_share 4 = .ok (.iload_n 2, 1) := by decide +kernel
theorem dL_share_5 : decode cL_share 5 = .ok (.invokevirtual 26, 3) := by decide +kernel
theorem dL_share_8 : decode cL_share 8 = .ok (.i2l, 1) := by decide +kernel
theorem dL_share_9 : decode cL_share 9 = .ok (.lastore, 1) := by decide +kernel
theorem dL_share_10 : decode cL_share 10 = .ok (.goto 7, 3) := by decide +kernel
theorem dL_share_13 : decode cL_share 13 = .ok (.astore 4, 2) := by decide +kernel
theorem dL_share_15 : decode cL_share 15 = .ok (.iconst 1, 1) := by decide +kernel
theorem dL_share_16 : decode cL_share 16 = .ok (.ireturn, 1) := by decide +kernel
theorem dL_share_17 : decode cL_share 17 = .ok (.iconst 0, 1) := by decide +kernel
theorem dL_share_18 : decode cL_share 18 = .ok (.ireturn, 1) := by decide +kernel
theorem dL_put_0 : decode cL_put 0 = .ok (.aload 5, 2) := by decide +kernel
theorem dL_put_2 : decode cL_put 2 = .ok (.iconst 0, 1) := by decide +kernel
theorem dL_put_3 : decode cL_put 3 = .ok (.aload_n 0, 1) := by decide +kernel
theorem dL_put_4 : decode cL_put 4 = .ok (.iload_n 1, 1) := by decide +kernel
theorem dL_put_5 : decode cL_put 5 = .ok (.iload_n 2, 1) := by decide +kernel
theorem dL_put_6 : decode cL_put 6 = .ok (.lload_n 3, 1) := by decide +kernel
theorem dL_put_7 : decode cL_put 7 = .ok (.invokevirtual 30, 3) := by decide +kernel
theorem dL_put_10 : decode cL_put 10 = .ok (.lastore, 1) := by decide +kernel
theorem dL_put_11 : decode cL_put 11 = .ok (.goto 15, 3) := by decide +kernel
theorem dL_put_14 : decode cL_put 14 = .ok (.astore 6, 2) := by decide +kernel
theorem dL_put_16 : decode cL_put 16 = .ok (.iconst 1, 1) := by decide +kernel
theorem dL_put_17 : decode cL_put 17 = .ok (.ireturn, 1) := by decide +kernel
theorem dL_put_18 : decode cL_put 18 = .ok (.astore 6, 2) := by decide +kernel
theorem dL_put_20 : decode cL_put 20 = .ok (.iconst 2, 1) := by decide +kernel
theorem dL_put_21 : decode cL_put 21 = .ok (.ireturn, 1) := by decide +kernel
theorem dL_put_22 : decode cL_put 22 = .ok (.astore 6, 2) := by decide +kernel
theorem dL_put_24 : decode cL_put 24 = .ok (.iconst 3, 1) := by decide +kernel
theorem dL_put_25 : decode cL_put 25 = .ok (.ireturn, 1) := by decide +kernel
theorem dL_put_26 : decode cL_put 26 = .ok (.iconst 0, 1) := by decide +kernel
theorem dL_put_27 : decode cL_put 27 = .ok (.ireturn, 1) := by decide +kernel
theorem dL_lay_0 : decode cL_lay 0 = .ok (.aload 4, 2) := by decide +kernel
theorem dL_lay_2 : decode cL_lay 2 = .ok (.iconst 0, 1) := by decide +kernel
theorem dL_lay_3 : decode cL_lay 3 = .ok (.aload_n 0, 1) := by decide +kernel
theorem dL_lay_4 : decode cL_lay 4 = .ok (.iload_n 1, 1) := by decide +kernel
theorem dL_lay_5 : decode cL_lay 5 = .ok (.iload_n 2, 1) := by decide +kernel
theorem dL_lay_6 : decode cL_lay 6 = .ok (.iload_n 3, 1) := by decide +kernel
theorem dL_lay_7 : decode cL_lay 7 = .ok (.invokevirtual 38, 3) := by decide +kernel
theorem dL_lay_10 : decode cL_lay 10 = .ok (.i2l, 1) := by decide +kernel
theorem dL_lay_11 : decode cL_lay 11 = .ok (.lastore, 1) := by decide +kernel
theorem dL_lay_12 : decode cL_lay 12 = .ok (.goto 23, 3) := by decide +kernel
theorem dL_lay_15 : decode cL_lay 15 = .ok (.astore 5, 2) := by decide +kernel
theorem dL_lay_17 : decode cL_lay 17 = .ok (.iconst 1, 1) := by decide +kernel
theorem dL_lay_18 : decode cL_lay 18 = .ok (.ireturn, 1) := by decide +kernel
theorem dL_lay_19 : decode cL_lay 19 = .ok (.astore 5, 2) := by decide +kernel
theorem dL_lay_21 : decode cL_lay 21 = .ok (.iconst 2, 1) := by decide +kernel
theorem dL_lay_22 : decode cL_lay 22 = .ok (.ireturn, 1) := by decide +kernel
theorem dL_lay_23 : decode cL_lay 23 = .ok (.astore 5, 2) := by decide +kernel
theorem dL_lay_25 : decode cL_lay 25 = .ok (.iconst 3, 1) := by decide +kernel
theorem dL_lay_26 : decode cL_lay 26 = .ok (.ireturn, 1) := by decide +kernel
theorem dL_lay_27 : decode cL_lay 27 = .ok (.astore 5, 2) := by decide +kernel
theorem dL_lay_29 : decode cL_lay 29 = .ok (.iconst 4, 1) := by decide +kernel
theorem dL_lay_30 : decode cL_lay 30 = .ok (.ireturn, 1) := by decide +kernel
theorem dL_lay_31 : decode cL_lay 31 = .ok (.astore 5, 2) := by decide +kernel
theorem dL_lay_33 : decode cL_lay 33 = .ok (.iconst 5, 1) := by decide +kernel
theorem dL_lay_34 : decode cL_lay 34 = .ok (.ireturn, 1) := by decide +kernel
theorem dL_lay_35 : decode cL_lay 35 = .ok (.iconst 0, 1) := by decide +kernel
theorem dL_lay_36 : decode cL_lay 36 = .ok (.ireturn, 1) := by decide +kernel
theorem dL_lift_0 : decode cL_lift 0 = .ok (.aload_n 3, 1) := by decide +kernel
theorem dL_lift_1 : decode cL_lift 1 = .ok (.iconst 0, 1) := by decide +kernel
theorem dL_lift_2 : decode cL_lift 2 = .ok (.aload_n 0, 1) := by decide +kernel
theorem dL_lift_3 : decode cL_lift 3 = .ok (.iload_n 1, 1) := by decide +kernel
theorem dL_lift_4 : decode cL_lift 4 = .ok (.iload_n 2, 1) := by decide +kernel
theorem dL_lift_5 : decode cL_lift 5 = .ok (.invokevirtual 42, 3) := by decide +kernel
theorem dL_lift_8 : decode cL_lift 8 = .ok (.i2l, 1) := by decide +kernel
theorem dL_lift_9 : decode cL_lift 9 = .ok (.lastore, 1) := by decide +kernel
theorem dL_lift_10 : decode cL_lift 10 = .ok (.goto 15, 3) := by decide +kernel
theorem dL_lift_13 : decode cL_lift 13 = .ok (.astore 4, 2) := by decide +kernel
theorem dL_lift_15 : decode cL_lift 15 = .ok (.iconst 1, 1) := by decide +kernel
theorem dL_lift_16 : decode cL_lift 16 = .ok (.ireturn, 1) := by decide +kernel
theorem dL_lift_17 : decode cL_lift 17 = .ok (.astore 4, 2) := by decide +kernel
theorem dL_lift_19 : decode cL_lift 19 = .ok (.iconst 2, 1) := by decide +kernel
theorem dL_lift_20 : decode cL_lift 20 = .ok (.ireturn, 1) := by decide +kernel
theorem dL_lift_21 : decode cL_lift 21 = .ok (.astore 4, 2) := by decide +kernel
theorem dL_lift_23 : decode cL_lift 23 = .ok (.iconst 3, 1) := by decide +kernel
theorem dL_lift_24 : decode cL_lift 24 = .ok (.ireturn, 1) := by decide +kernel
theorem dL_lift_25 : decode cL_lift 25 = .ok (.iconst 0, 1) := by decide +kernel
theorem dL_lift_26 : decode cL_lift 26 = .ok (.ireturn, 1) := by decide +kernel
theorem dL_move_0 : decode cL_move 0 = .ok (.aload 6, 2) := by decide +kernel
theorem dL_move_2 : decode cL_move 2 = .ok (.iconst 0, 1) := by decide +kernel
theorem dL_move_3 : decode cL_move 3 = .ok (.aload_n 0, 1) := by decide +kernel
theorem dL_move_4 : decode cL_move 4 = .ok (.iload_n 1, 1) := by decide +kernel
theorem dL_move_5 : decode cL_move 5 = .ok (.iload_n 2, 1) := by decide +kernel
theorem dL_move_6 : decode cL_move 6 = .ok (.iload_n 3, 1) := by decide +kernel
theorem dL_move_7 : decode cL_move 7 = .ok (.iload 4, 2) := by decide +kernel
theorem dL_move_9 : decode cL_move 9 = .ok (.iload 5, 2) := by decide +kernel
theorem dL_move_11 : decode cL_move 11 = .ok (.invokevirtual 45, 3) := by decide +kernel
theorem dL_move_14 : decode cL_move 14 = .ok (.i2l, 1) := by decide +kernel
theorem dL_move_15 : decode cL_move 15 = .ok (.lastore, 1) := by decide +kernel
theorem dL_move_16 : decode cL_move 16 = .ok (.goto 7, 3) := by decide +kernel
theorem dL_move_19 : decode cL_move 19 = .ok (.astore 7, 2) := by decide +kernel
theorem dL_move_21 : decode cL_move 21 = .ok (.iconst 1, 1) := by decide +kernel
theorem dL_move_22 : decode cL_move 22 = .ok (.ireturn, 1) := by decide +kernel
theorem dL_move_23 : decode cL_move 23 = .ok (.iconst 0, 1) := by decide +kernel
theorem dL_move_24 : decode cL_move 24 = .ok (.ireturn, 1) := by decide +kernel
theorem dL_pour_0 : decode cL_pour 0 = .ok (.aload_n 3, 1) := by decide +kernel
theorem dL_pour_1 : decode cL_pour 1 = .ok (.iconst 0, 1) := by decide +kernel
theorem dL_pour_2 : decode cL_pour 2 = .ok (.aload_n 0, 1) := by decide +kernel
theorem dL_pour_3 : decode cL_pour 3 = .ok (.iload_n 1, 1) := by decide +kernel
theorem dL_pour_4 : decode cL_pour 4 = .ok (.iload_n 2, 1) := by decide +kernel
theorem dL_pour_5 : decode cL_pour 5 = .ok (.invokevirtual 49, 3) := by decide +kernel
theorem dL_pour_8 : decode cL_pour 8 = .ok (.i2l, 1) := by decide +kernel
theorem dL_pour_9 : decode cL_pour 9 = .ok (.lastore, 1) := by decide +kernel
theorem dL_pour_10 : decode cL_pour 10 = .ok (.goto 7, 3) := by decide +kernel
theorem dL_pour_13 : decode cL_pour 13 = .ok (.astore 4, 2) := by decide +kernel
theorem dL_pour_15 : decode cL_pour 15 = .ok (.iconst 1, 1) := by decide +kernel
theorem dL_pour_16 : decode cL_pour 16 = .ok (.ireturn, 1) := by decide +kernel
theorem dL_pour_17 : decode cL_pour 17 = .ok (.iconst 0, 1) := by decide +kernel
theorem dL_pour_18 : decode cL_pour 18 = .ok (.ireturn, 1) := by decide +kernel
theorem dL_at_0 : decode cL_at 0 = .ok (.aload_n 3, 1) := by decide +kernel
theorem dL_at_1 : decode cL_at 1 = .ok (.iconst 0, 1) := by decide +kernel
theorem dL_at_2 : decode cL_at 2 = .ok (.aload_n 0, 1) := by decide +kernel
theorem dL_at_3 : decode cL_at 3 = .ok (.iload_n 1, 1) := by decide +kernel
theorem dL_at_4 : decode cL_at 4 = .ok (.iload_n 2, 1) := by decide +kernel
theorem dL_at_5 : decode cL_at 5 = .ok (.invokevirtual 52, 3) := by decide +kernel
theorem dL_at_8 : decode cL_at 8 = .ok (.lastore, 1) := by decide +kernel
theorem dL_at_9 : decode cL_at 9 = .ok (.goto 15, 3) := by decide +kernel
theorem dL_at_12 : decode cL_at 12 = .ok (.astore 4, 2) := by decide +kernel
theorem dL_at_14 : decode cL_at 14 = .ok (.iconst 1, 1) := by decide +kernel
theorem dL_at_15 : decode cL_at 15 = .ok (.ireturn, 1) := by decide +kernel
theorem dL_at_16 : decode cL_at 16 = .ok (.astore 4, 2) := by decide +kernel
theorem dL_at_18 : decode cL_at 18 = .ok (.iconst 2, 1) := by decide +kernel
theorem dL_at_19 : decode cL_at 19 = .ok (.ireturn, 1) := by decide +kernel
theorem dL_at_20 : decode cL_at 20 = .ok (.astore 4, 2) := by decide +kernel
theorem dL_at_22 : decode cL_at 22 = .ok (.iconst 3, 1) := by decide +kernel
theorem dL_at_23 : decode cL_at 23 = .ok (.ireturn, 1) := by decide +kernel
theorem dL_at_24 : decode cL_at 24 = .ok (.iconst 0, 1) := by decide +kernel
theorem dL_at_25 : decode cL_at 25 = .ok (.ireturn, 1) := by decide +kernel
theorem dL_holds_0 : decode cL_holds 0 = .ok (.aload_n 2, 1) := by decide +kernel
theorem dL_holds_1 : decode cL_holds 1 = .ok (.iconst 0, 1) := by decide +kernel
theorem dL_holds_2 : decode cL_holds 2 = .ok (.aload_n 0, 1) := by decide +kernel
theorem dL_holds_3 : decode cL_holds 3 = .ok (.iload_n 1, 1) := by decide +kernel
theorem dL_holds_4 : decode cL_holds 4 = .ok (.invokevirtual 56, 3) := by decide +kernel
theorem dL_holds_7 : decode cL_holds 7 = .ok (.i2l, 1) := by decide +kernel
theorem dL_holds_8 : decode cL_holds 8 = .ok (.lastore, 1) := by decide +kernel
theorem dL_holds_9 : decode cL_holds 9 = .ok (.goto 6, 3) := by decide +kernel
theorem dL_holds_12 : decode cL_holds 12 = .ok (.astore_n 3, 1) := by decide +kernel
theorem dL_holds_13 : decode cL_holds 13 = .ok (.iconst 1, 1) := by decide +kernel
theorem dL_holds_14 : decode cL_holds 14 = .ok (.ireturn, 1) := by decide +kernel
theorem dL_holds_15 : decode cL_holds 15 = .ok (.iconst 0, 1) := by decide +kernel
theorem dL_holds_16 : decode cL_holds 16 = .ok (.ireturn, 1) := by decide +kernel
theorem dL_places_0 : decode cL_places 0 = .ok (.aload_n 2, 1) := by decide +kernel
theorem dL_places_1 : decode cL_places 1 = .ok (.iconst 0, 1) := by decide +kernel
theorem dL_places_2 : decode cL_places 2 = .ok (.aload_n 0, 1) := by decide +kernel
theorem dL_places_3 : decode cL_places 3 = .ok (.iload_n 1, 1) := by decide +kernel
theorem dL_places_4 : decode cL_places 4 = .ok (.invokevirtual 60, 3) := by decide +kernel
theorem dL_places_7 : decode cL_places 7 = .ok (.i2l, 1) := by decide +kernel
theorem dL_places_8 : decode cL_places 8 = .ok (.lastore, 1) := by decide +kernel
theorem dL_places_9 : decode cL_places 9 = .ok (.goto 9, 3) := by decide +kernel
theorem dL_places_12 : decode cL_places 12 = .ok (.astore_n 3, 1) := by decide +kernel
theorem dL_places_13 : decode cL_places 13 = .ok (.iconst 1, 1) := by decide +kernel
theorem dL_places_14 : decode cL_places 14 = .ok (.ireturn, 1) := by decide +kernel
theorem dL_places_15 : decode cL_places 15 = .ok (.astore_n 3, 1) := by decide +kernel
theorem dL_places_16 : decode cL_places 16 = .ok (.iconst 2, 1) := by decide +kernel
theorem dL_places_17 : decode cL_places 17 = .ok (.ireturn, 1) := by decide +kernel
theorem dL_places_18 : decode cL_places 18 = .ok (.iconst 0, 1) := by decide +kernel
theorem dL_places_19 : decode cL_places 19 = .ok (.ireturn, 1) := by decide +kernel
theorem dL_same_0 : decode cL_same 0 = .ok (.aload_n 3, 1) := by decide +kernel
theorem dL_same_1 : decode cL_same 1 = .ok (.iconst 0, 1) := by decide +kernel
theorem dL_same_2 : decode cL_same 2 = .ok (.aload_n 0, 1) := by decide +kernel
theorem dL_same_3 : decode cL_same 3 = .ok (.iload_n 1, 1) := by decide +kernel
theorem dL_same_4 : decode cL_same 4 = .ok (.iload_n 2, 1) := by decide +kernel
theorem dL_same_5 : decode cL_same 5 = .ok (.invokevirtual 63, 3) := by decide +kernel
theorem dL_same_8 : decode cL_same 8 = .ok (.ifCond .eq 7, 3) := by decide +kernel
theorem dL_same_11 : decode cL_same 11 = .ok (.lconst 1, 1) := by decide +kernel
theorem dL_same_12 : decode cL_same 12 = .ok (.goto 4, 3) := by decide +kernel
theorem dL_same_15 : decode cL_same 15 = .ok (.lconst 0, 1) := by decide +kernel
theorem dL_same_16 : decode cL_same 16 = .ok (.lastore, 1) := by decide +kernel
theorem dL_same_17 : decode cL_same 17 = .ok (.goto 7, 3) := by decide +kernel
theorem dL_same_20 : decode cL_same 20 = .ok (.astore 4, 2) := by decide +kernel
theorem dL_same_22 : decode cL_same 22 = .ok (.iconst 1, 1) := by decide +kernel
theorem dL_same_23 : decode cL_same 23 = .ok (.ireturn, 1) := by decide +kernel
theorem dL_same_24 : decode cL_same 24 = .ok (.iconst 0, 1) := by decide +kernel
theorem dL_same_25 : decode cL_same 25 = .ok (.ireturn, 1) := by decide +kernel
theorem dL_all_0 : decode cL_all 0 = .ok (.aload_n 2, 1) := by decide +kernel
theorem dL_all_1 : decode cL_all 1 = .ok (.iconst 0, 1) := by decide +kernel
theorem dL_all_2 : decode cL_all 2 = .ok (.aload_n 0, 1) := by decide +kernel
theorem dL_all_3 : decode cL_all 3 = .ok (.iload_n 1, 1) := by decide +kernel
theorem dL_all_4 : decode cL_all 4 = .ok (.invokevirtual 67, 3) := by decide +kernel
theorem dL_all_7 : decode cL_all 7 = .ok (.lastore, 1) := by decide +kernel
theorem dL_all_8 : decode cL_all 8 = .ok (.goto 9, 3) := by decide +kernel
theorem dL_all_11 : decode cL_all 11 = .ok (.astore_n 3, 1) := by decide +kernel
theorem dL_all_12 : decode cL_all 12 = .ok (.iconst 1, 1) := by decide +kernel
theorem dL_all_13 : decode cL_all 13 = .ok (.ireturn, 1) := by decide +kernel
theorem dL_all_14 : decode cL_all 14 = .ok (.astore_n 3, 1) := by decide +kernel
theorem dL_all_15 : decode cL_all 15 = .ok (.iconst 2, 1) := by decide +kernel
theorem dL_all_16 : decode cL_all 16 = .ok (.ireturn, 1) := by decide +kernel
theorem dL_all_17 : decode cL_all 17 = .ok (.iconst 0, 1) := by decide +kernel
theorem dL_all_18 : decode cL_all 18 = .ok (.ireturn, 1) := by decide +kernel
theorem dL_feed_0 : decode cL_feed 0 = .ok (.aload_n 3, 1) := by decide +kernel
theorem dL_feed_1 : decode cL_feed 1 = .ok (.iconst 0, 1) := by decide +kernel
theorem dL_feed_2 : decode cL_feed 2 = .ok (.aload_n 0, 1) := by decide +kernel
theorem dL_feed_3 : decode cL_feed 3 = .ok (.iload_n 1, 1) := by decide +kernel
theorem dL_feed_4 : decode cL_feed 4 = .ok (.iload_n 2, 1) := by decide +kernel
theorem dL_feed_5 : decode cL_feed 5 = .ok (.invokevirtual 71, 3) := by decide +kernel
theorem dL_feed_8 : decode cL_feed 8 = .ok (.i2l, 1) := by decide +kernel
theorem dL_feed_9 : decode cL_feed 9 = .ok (.lastore, 1) := by decide +kernel
theorem dL_feed_10 : decode cL_feed 10 = .ok (.goto 7, 3) := by decide +kernel
theorem dL_feed_13 : decode cL_feed 13 = .ok (.astore 4, 2) := by decide +kernel
theorem dL_feed_15 : decode cL_feed 15 = .ok (.iconst 1, 1) := by decide +kernel
theorem dL_feed_16 : decode cL_feed 16 = .ok (.ireturn, 1) := by decide +kernel
theorem dL_feed_17 : decode cL_feed 17 = .ok (.iconst 0, 1) := by decide +kernel
theorem dL_feed_18 : decode cL_feed 18 = .ok (.ireturn, 1) := by decide +kernel
theorem dL_kind_0 : decode cL_kind 0 = .ok (.aload_n 2, 1) := by decide +kernel
theorem dL_kind_1 : decode cL_kind 1 = .ok (.iconst 0, 1) := by decide +kernel
theorem dL_kind_2 : decode cL_kind 2 = .ok (.aload_n 0, 1) := by decide +kernel
theorem dL_kind_3 : decode cL_kind 3 = .ok (.iload_n 1, 1) := by decide +kernel
theorem dL_kind_4 : decode cL_kind 4 = .ok (.invokevirtual 74, 3) := by decide +kernel
theorem dL_kind_7 : decode cL_kind 7 = .ok (.i2l, 1) := by decide +kernel
theorem dL_kind_8 : decode cL_kind 8 = .ok (.lastore, 1) := by decide +kernel
theorem dL_kind_9 : decode cL_kind 9 = .ok (.goto 6, 3) := by decide +kernel
theorem dL_kind_12 : decode cL_kind 12 = .ok (.astore_n 3, 1) := by decide +kernel
theorem dL_kind_13 : decode cL_kind 13 = .ok (.iconst 1, 1) := by decide +kernel
theorem dL_kind_14 : decode cL_kind 14 = .ok (.ireturn, 1) := by decide +kernel
theorem dL_kind_15 : decode cL_kind 15 = .ok (.iconst 0, 1) := by decide +kernel
theorem dL_kind_16 : decode cL_kind 16 = .ok (.ireturn, 1) := by decide +kernel
