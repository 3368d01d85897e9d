theorem dX0_init_0 : decode cX0_init 0 = .ok (.aload_n 0, 1) := by decide +kernel
theorem dX0_init_1 : decode cX0_init 1 = .ok (.invokespecial 3, 3) := by decide +kernel
theorem dX0_init_4 : decode cX0_init 4 = .ok (.aload_n 0, 1) := by decide +kernel
theorem dX0_init_5 : decode cX0_init 5 = .ok (.iload_n 1, 1) := by decide +kernel
theorem dX0_init_6 : decode cX0_init 6 = .ok (.putfield 9, 3) := by decide +kernel
theorem dX0_init_9 : decode cX0_init 9 = .ok (.return_, 1) := by decide +kernel
theorem dX0_setAnew_0 : decode cX0_setAnew 0 = .ok (.aload_n 0, 1) := by decide +kernel
theorem dX0_setAnew_1 : decode cX0_setAnew 1 = .ok (.iload_n 1, 1) := by decide +kernel
theorem dX0_setAnew_2 : decode cX0_setAnew 2 = .ok (.putfield 15, 3) := by decide +kernel
theorem dX0_setAnew_5 : decode cX0_setAnew 5 = .ok (.aload_n 0, 1) := by decide +kernel
theorem dX0_setAnew_6 : decode cX0_setAnew 6 = .ok (.iload_n 2, 1) := by decide +kernel
theorem dX0_setAnew_7 : decode cX0_setAnew 7 = .ok (.putfield 18, 3) := by decide +kernel
theorem dX0_setAnew_10 : decode cX0_setAnew 10 = .ok (.aload_n 0, 1) := by decide +kernel
theorem dX0_setAnew_11 : decode cX0_setAnew 11 = .ok (.iload_n 3, 1) := by decide +kernel
theorem dX0_setAnew_12 : decode cX0_setAnew 12 = .ok (.putfield 21, 3) := by decide +kernel
theorem dX0_setAnew_15 : decode cX0_setAnew 15 = .ok (.aload_n 0, 1) := by decide +kernel
theorem dX0_setAnew_16 : decode cX0_setAnew 16 = .ok (.iload 4, 2) := by decide +kernel
theorem dX0_setAnew_18 : decode cX0_setAnew 18 = .ok (.putfield 24, 3) := by decide +kernel
theorem dX0_setAnew_21 : decode cX0_setAnew 21 = .ok (.aload_n 0, 1) := by decide +kernel
theorem dX0_setAnew_22 : decode cX0_setAnew 22 = .ok (.iconst 0, 1) := by decide +kernel
theorem dX0_setAnew_23 : decode cX0_setAnew 23 = .ok (.putfield 27, 3) := by decide +kernel
theorem dX0_setAnew_26 : decode cX0_setAnew 26 = .ok (.aload_n 0, 1) := by decide +kernel
theorem dX0_setAnew_27 : decode cX0_setAnew 27 = .ok (.iconst 0, 1) := by decide +kernel
theorem dX0_setAnew_28 : decode cX0_setAnew 28 = .ok (.putfield 30, 3) := by decide +kernel
theorem dX0_setAnew_31 : decode cX0_setAnew 31 = .ok (.aload_n 0, 1) := by decide +kernel
theorem dX0_setAnew_32 : decode cX0_setAnew 32 = .ok (.iconst (-1), 1) := by decide +kernel
theorem dX0_setAnew_33 : decode cX0_setAnew 33 = .ok (.putfield 33, 3) := by decide +kernel
theorem dX0_setAnew_36 : decode cX0_setAnew 36 = .ok (.aload_n 0, 1) := by decide +kernel
theorem dX0_setAnew_37 : decode cX0_setAnew 37 = .ok (.iconst 0, 1) := by decide +kernel
theorem dX0_setAnew_38 : decode cX0_setAnew 38 = .ok (.putfield 36, 3) := by decide +kernel
theorem dX0_setAnew_41 : decode cX0_setAnew 41 = .ok (.aload_n 0, 1) := by decide +kernel
theorem dX0_setAnew_42 : decode cX0_setAnew 42 = .ok (.iconst 0, 1) := by decide +kernel
theorem dX0_setAnew_43 : decode cX0_setAnew 43 = .ok (.putfield 40, 3) := by decide +kernel
theorem dX0_setAnew_46 : decode cX0_setAnew 46 = .ok (.aload_n 0, 1) := by decide +kernel
theorem dX0_setAnew_47 : decode cX0_setAnew 47 = .ok (.iconst 0, 1) := by decide +kernel
theorem dX0_setAnew_48 : decode cX0_setAnew 48 = .ok (.putfield 43, 3) := by decide +kernel
theorem dX0_setAnew_51 : decode cX0_setAnew 51 = .ok (.aload_n 0, 1) := by decide +kernel
theorem dX0_setAnew_52 : decode cX0_setAnew 52 = .ok (.iconst 0, 1) := by decide +kernel
theorem dX0_setAnew_53 : decode cX0_setAnew 53 = .ok (.putfield 46, 3) := by decide +kernel
theorem dX0_setAnew_56 : decode cX0_setAnew 56 = .ok (.return_, 1) := by decide +kernel
theorem dX0_asksFor_0 : decode cX0_asksFor 0 = .ok (.aload_n 0, 1) := by decide +kernel
theorem dX0_asksFor_1 : decode cX0_asksFor 1 = .ok (.getfield 40, 3) := by decide +kernel
theorem dX0_asksFor_4 : decode cX0_asksFor 4 = .ok (.ifCond .ne 22, 3) := by decide +kernel
theorem dX0_asksFor_7 : decode cX0_asksFor 7 = .ok (.aload_n 1, 1) := by decide +kernel
theorem dX0_asksFor_8 : decode cX0_asksFor 8 = .ok (.aload_n 0, 1) := by decide +kernel
theorem dX0_asksFor_9 : decode cX0_asksFor 9 = .ok (.getfield 15, 3) := by decide +kernel
theorem dX0_asksFor_12 : decode cX0_asksFor 12 = .ok (.aload_n 0, 1) := by decide +kernel
theorem dX0_asksFor_13 : decode cX0_asksFor 13 = .ok (.getfield 18, 3) := by decide +kernel
theorem dX0_asksFor_16 : decode cX0_asksFor 16 = .ok (.invokevirtual 49, 3) := by decide +kernel
theorem dX0_asksFor_19 : decode cX0_asksFor 19 = .ok (.ifCond .eq 7, 3) := by decide +kernel
theorem dX0_asksFor_22 : decode cX0_asksFor 22 = .ok (.iconst 1, 1) := by decide +kernel
theorem dX0_asksFor_23 : decode cX0_asksFor 23 = .ok (.goto 4, 3) := by decide +kernel
theorem dX0_asksFor_26 : decode cX0_asksFor 26 = .ok (.iconst 0, 1) := by decide +kernel
theorem dX0_asksFor_27 : decode cX0_asksFor 27 = .ok (.ireturn, 1) := by decide +kernel
theorem dX0_takes_0 : decode cX0_takes 0 = .ok (.aload_n 1, 1) := by decide +kernel
theorem dX0_takes_1 : decode cX0_takes 1 = .ok (.aload_n 0, 1) := by decide +kernel
theorem dX0_takes_2 : decode cX0_takes 2 = .ok (.getfield 21, 3) := by decide +kernel
theorem dX0_takes_5 : decode cX0_takes 5 = .ok (.aload_n 0, 1) := by decide +kernel
theorem dX0_takes_6 : decode cX0_takes 6 = .ok (.getfield 24, 3) := by decide +kernel
theorem dX0_takes_9 : decode cX0_takes 9 = .ok (.invokevirtual 49, 3) := by decide +kernel
theorem dX0_takes_12 : decode cX0_takes 12 = .ok (.ireturn, 1) := by decide +kernel
theorem dX0_canDo_0 : decode cX0_canDo 0 = .ok (.iload_n 1, 1) := by decide +kernel
theorem dX0_canDo_1 : decode cX0_canDo 1 = .ok (.iconst 2, 1) := by decide +kernel
theorem dX0_canDo_2 : decode cX0_canDo 2 = .ok (.if_icmp .eq 13, 3) := by decide +kernel
theorem dX0_canDo_5 : decode cX0_canDo 5 = .ok (.iload_n 1, 1) := by decide +kernel
theorem dX0_canDo_6 : decode cX0_canDo 6 = .ok (.iconst 3, 1) := by decide +kernel
theorem dX0_canDo_7 : decode cX0_canDo 7 = .ok (.if_icmp .eq 8, 3) := by decide +kernel
theorem dX0_canDo_10 : decode cX0_canDo 10 = .ok (.iload_n 1, 1) := by decide +kernel
theorem dX0_canDo_11 : decode cX0_canDo 11 = .ok (.iconst 4, 1) := by decide +kernel
theorem dX0_canDo_12 : decode cX0_canDo 12 = .ok (.if_icmp .ne 30, 3) := by decide +kernel
theorem dX0_canDo_15 : decode cX0_canDo 15 = .ok (.aload_n 0, 1) := by decide +kernel
theorem dX0_canDo_16 : decode cX0_canDo 16 = .ok (.getfield 24, 3) := by decide +kernel
theorem dX0_canDo_19 : decode cX0_canDo 19 = .ok (.ifCond .le 21, 3) := by decide +kernel
theorem dX0_canDo_22 : decode cX0_canDo 22 = .ok (.aload_n 0, 1) := by decide +kernel
theorem dX0_canDo_23 : decode cX0_canDo 23 = .ok (.getfield 21, 3) := by decide +kernel
theorem dX0_canDo_26 : decode cX0_canDo 26 = .ok (.aload_n 0, 1) := by decide +kernel
theorem dX0_canDo_27 : decode cX0_canDo 27 = .ok (.getfield 24, 3) := by decide +kernel
theorem dX0_canDo_30 : decode cX0_canDo 30 = .ok (.invokestatic 55, 3) := by decide +kernel
theorem dX0_canDo_33 : decode cX0_canDo 33 = .ok (.ifCond .ne 7, 3) := by decide +kernel
theorem dX0_canDo_36 : decode cX0_canDo 36 = .ok (.iconst 1, 1) := by decide +kernel
theorem dX0_canDo_37 : decode cX0_canDo 37 = .ok (.goto 4, 3) := by decide +kernel
theorem dX0_canDo_40 : decode cX0_canDo 40 = .ok (.iconst 0, 1) := by decide +kernel
theorem dX0_canDo_41 : decode cX0_canDo 41 = .ok (.ireturn, 1) := by decide +kernel
theorem dX0_canDo_42 : decode cX0_canDo 42 = .ok (.iload_n 1, 1) := by decide +kernel
theorem dX0_canDo_43 : decode cX0_canDo 43 = .ok (.ifCond .lt 12, 3) := by decide +kernel
theorem dX0_canDo_46 : decode cX0_canDo 46 = .ok (.iload_n 1, 1) := by decide +kernel
theorem dX0_canDo_47 : decode cX0_canDo 47 = .ok (.iconst 5, 1) := by decide +kernel
theorem dX0_canDo_48 : decode cX0_canDo 48 = .ok (.if_icmp .gt 7, 3) := by decide +kernel
theorem dX0_canDo_51 : decode cX0_canDo 51 = .ok (.iconst 1, 1) := by decide +kernel
theorem dX0_canDo_52 : decode cX0_canDo 52 = .ok (.goto 4, 3) := by decide +kernel
theorem dX0_canDo_55 : decode cX0_canDo 55 = .ok (.iconst 0, 1) := by decide +kernel
theorem dX0_canDo_56 : decode cX0_canDo 56 = .ok (.ireturn, 1) := by decide +kernel
theorem dX1_init_0 : decode cX1_init 0 = .ok (.aload_n 0, 1) := by decide +kernel
theorem dX1_init_1 : decode cX1_init 1 = .ok (.invokespecial 3, 3) := by decide +kernel
theorem dX1_init_4 : decode cX1_init 4 = .ok (.aload_n 0, 1) := by decide +kernel
theorem dX1_init_5 : decode cX1_init 5 = .ok (.iload_n 1, 1) := by decide +kernel
theorem dX1_init_6 : decode cX1_init 6 = .ok (.putfield 9, 3) := by decide +kernel
theorem dX1_init_9 : decode cX1_init 9 = .ok (.aload_n 0, 1) := by decide +kernel
theorem dX1_init_10 : decode cX1_init 10 = .ok (.iload_n 2, 1) := by decide +kernel
theorem dX1_init_11 : decode cX1_init 11 = .ok (.putfield 15, 3) := by decide +kernel
theorem dX1_init_14 : decode cX1_init 14 = .ok (.aload_n 0, 1) := by decide +kernel
theorem dX1_init_15 : decode cX1_init 15 = .ok (.iload_n 3, 1) := by decide +kernel
theorem dX1_init_16 : decode cX1_init 16 = .ok (.putfield 18, 3) := by decide +kernel
theorem dX1_init_19 : decode cX1_init 19 = .ok (.aload_n 0, 1) := by decide +kernel
theorem dX1_init_20 : decode cX1_init 20 = .ok (.iload_n 2, 1) := by decide +kernel
theorem dX1_init_21 : decode cX1_init 21 = .ok (.iload_n 3, 1) := by decide +kernel
theorem dX1_init_22 : decode cX1_init 22 = .ok (.invokestatic 21, 3) := by decide +kernel
theorem dX1_init_25 : decode cX1_init 25 = .ok (.putfield 25, 3) := by decide +kernel
theorem dX1_init_28 : decode cX1_init 28 = .ok (.aload_n 0, 1) := by decide +kernel
theorem dX1_init_29 : decode cX1_init 29 = .ok (.iload 4, 2) := by decide +kernel
theorem dX1_init_31 : decode cX1_init 31 = .ok (.newarray .int, 2) := by decide +kernel
theorem dX1_init_33 : decode cX1_init 33 = .ok (.putfield 29, 3) := by decide +kernel
theorem dX1_init_36 : decode cX1_init 36 = .ok (.aload_n 0, 1) := by decide +kernel
theorem dX1_init_37 : decode cX1_init 37 = .ok (.getfield 25, 3) := by decide +kernel
theorem dX1_init_40 : decode cX1_init 40 = .ok (.ifCond .ne 8, 3) := by decide +kernel
theorem dX1_init_43 : decode cX1_init 43 = .ok (.aload_n 0, 1) := by decide +kernel
theorem dX1_init_44 : decode cX1_init 44 = .ok (.iconst (-1), 1) := by decide +kernel
theorem dX1_init_45 : decode cX1_init 45 = .ok (.invokevirtual 33, 3) := by decide +kernel
theorem dX1_init_48 : decode cX1_init 48 = .ok (.return_, 1) := by decide +kernel
theorem dX1_fill_0 : decode cX1_fill 0 = .ok (.iconst 0, 1) := by decide +kernel
theorem dX1_fill_1 : decode cX1_fill 1 = .ok (.istore_n 2, 1) := by decide +kernel
theorem dX1_fill_2 : decode cX1_fill 2 = .ok (.iload_n 2, 1) := by decide +kernel
theorem dX1_fill_3 : decode cX1_fill 3 = .ok (.aload_n 0, 1) := by decide +kernel
theorem dX1_fill_4 : decode cX1_fill 4 = .ok (.getfield 29, 3) := by decide +kernel
theorem dX1_fill_7 : decode cX1_fill 7 = .ok (.arraylength, 1) := by decide +kernel
theorem dX1_fill_8 : decode cX1_fill 8 = .ok (.if_icmp .ge 16, 3) := by decide +kernel
theorem dX1_fill_11 : decode cX1_fill 11 = .ok (.aload_n 0, 1) := by decide +kernel
theorem dX1_fill_12 : decode cX1_fill 12 = .ok (.getfield 29, 3) := by decide +kernel
theorem dX1_fill_15 : decode cX1_fill 15 = .ok (.iload_n 2, 1) := by decide +kernel
theorem dX1_fill_16 : decode cX1_fill 16 = .ok (.iload_n 1, 1) := by decide +kernel
theorem dX1_fill_17 : decode cX1_fill 17 = .ok (.iastore, 1) := by decide +kernel
theorem dX1_fill_18 : decode cX1_fill 18 = .ok (.iinc 2 1, 3) := by decide +kernel
theorem dX1_fill_21 : decode cX1_fill 21 = .ok (.goto (-19), 3) := by decide +kernel
theorem dX1_fill_24 : decode cX1_fill 24 = .ok (.return_, 1) := by decide +kernel
theorem dX1_fits_0 : decode cX1_fits 0 = .ok (.aload_n 0, 1) := by decide +kernel
theorem dX1_fits_1 : decode cX1_fits 1 = .ok (.getfield 18, 3) := by decide +kernel
theorem dX1_fits_4 : decode cX1_fits 4 = .ok (.iload_n 2, 1) := by decide +kernel
theorem dX1_fits_5 : decode cX1_fits 5 = .ok (.if_icmp .ne 18, 3) := by decide +kernel
theorem dX1_fits_8 : decode cX1_fits 8 = .ok (.aload_n 0, 1) := by decide +kernel
theorem dX1_fits_9 : decode cX1_fits 9 = .ok (.getfield 15, 3) := by decide +kernel
theorem dX1_fits_12 : decode cX1_fits 12 = .ok (.iload_n 1, 1) := by decide +kernel
theorem dX1_fits_13 : decode cX1_fits 13 = .ok (.invokestatic 37, 3) := by decide +kernel
theorem dX1_fits_16 : decode cX1_fits 16 = .ok (.ifCond .eq 7, 3) := by decide +kernel
theorem dX1_fits_19 : decode cX1_fits 19 = .ok (.iconst 1, 1) := by decide +kernel
theorem dX1_fits_20 : decode cX1_fits 20 = .ok (.goto 4, 3) := by decide +kernel
theorem dX1_fits_23 : decode cX1_fits 23 = .ok (.iconst 0, 1) := by decide +kernel
theorem dX1_fits_24 : decode cX1_fits 24 = .ok (.ireturn, 1) := by decide +kernel
theorem dX1_holds_0 : decode cX1_holds 0 = .ok (.aload_n 1, 1) := by decide +kernel
theorem dX1_holds_1 : decode cX1_holds 1 = .ok (.ifnull 20, 3) := by decide +kernel
theorem dX1_holds_4 : decode cX1_holds 4 = .ok (.aload_n 1, 1) := by decide +kernel
theorem dX1_holds_5 : decode cX1_holds 5 = .ok (.aload_n 0, 1) := by decide +kernel
theorem dX1_holds_6 : decode cX1_holds 6 = .ok (.getfield 15, 3) := by decide +kernel
theorem dX1_holds_9 : decode cX1_holds 9 = .ok (.aload_n 0, 1) := by decide +kernel
theorem dX1_holds_10 : decode cX1_holds 10 = .ok (.getfield 18, 3) := by decide +kernel
theorem dX1_holds_13 : decode cX1_holds 13 = .ok (.iconst 1, 1) := by decide +kernel
theorem dX1_holds_14 : decode cX1_holds 14 = .ok (.isub, 1) := by decide +kernel
theorem dX1_holds_15 : decode cX1_holds 15 = .ok (.invokevirtual 40, 3) := by decide +kernel
theorem dX1_holds_18 : decode cX1_holds 18 = .ok (.ifCond .eq 7, 3) := by decide +kernel
theorem dX1_holds_21 : decode cX1_holds 21 = .ok (.iconst 1, 1) := by decide +kernel
theorem dX1_holds_22 : decode cX1_holds 22 = .ok (.goto 4, 3) := by decide +kernel
theorem dX1_holds_25 : decode cX1_holds 25 = .ok (.iconst 0, 1) := by decide +kernel
theorem dX1_holds_26 : decode cX1_holds 26 = .ok (.ireturn, 1) := by decide +kernel
theorem dX1_hasMessagePlace_0 : decode cX1_hasMessagePlace 0 = .ok (.aload_n 0, 1) := by decide +kernel
theorem dX1_hasMessagePlace_1 : decode cX1_hasMessagePlace 1 = .ok (.getfield 25, 3) := by decide +kernel
theorem dX1_hasMessagePlace_4 : decode cX1_hasMessagePlace 4 = .ok (.ifCond .ne 20, 3) := by decide +kernel
theorem dX1_hasMessagePlace_7 : decode cX1_hasMessagePlace 7 = .ok (.iload_n 1, 1) := by decide +kernel
theorem dX1_hasMessagePlace_8 : decode cX1_hasMessagePlace 8 = .ok (.ifCond .lt 16, 3) := by decide +kernel
theorem dX1_hasMessagePlace_11 : decode cX1_hasMessagePlace 11 = .ok (.iload_n 1, 1) := by decide +kernel
theorem dX1_hasMessagePlace_12 : decode cX1_hasMessagePlace 12 = .ok (.aload_n 0, 1) := by decide +kernel
theorem dX1_hasMessagePlace_13 : decode cX1_hasMessagePlace 13 = .ok (.getfield 29, 3) := by decide +kernel
theorem dX1_hasMessagePlace_16 : decode cX1_hasMessagePlace 16 = .ok (.arraylength, 1) := by decide +kernel
theorem dX1_hasMessagePlace_17 : decode cX1_hasMessagePlace 17 = .ok (.if_icmp .ge 7, 3) := by decide +kernel
theorem dX1_hasMessagePlace_20 : decode cX1_hasMessagePlace 20 = .ok (.iconst 1, 1) := by decide +kernel
theorem dX1_hasMessagePlace_21 : decode cX1_hasMessagePlace 21 = .ok (.goto 4, 3) := by decide +kernel
theorem dX1_hasMessagePlace_24 : decode cX1_hasMessagePlace 24 = .ok (.iconst 0, 1) := by decide +kernel
theorem dX1_hasMessagePlace_25 : decode cX1_hasMessagePlace 25 = .ok (.ireturn, 1) := by decide +kernel
theorem dX1_hasNumber_0 : decode cX1_hasNumber 0 = .ok (.aload_n 0, 1) := by decide +kernel
theorem dX1_hasNumber_1 : decode cX1_hasNumber 1 = .ok (.getfield 25, 3) := by decide +kernel
theorem dX1_hasNumber_4 : decode cX1_hasNumber 4 = .ok (.ifCond .eq 20, 3) := by decide +kernel
theorem dX1_hasNumber_7 : decode cX1_hasNumber 7 = .ok (.iload_n 1, 1) := by decide +kernel
theorem dX1_hasNumber_8 : decode cX1_hasNumber 8 = .ok (.ifCond .lt 16, 3) := by decide +kernel
theorem dX1_hasNumber_11 : decode cX1_hasNumber 11 = .ok (.iload_n 1, 1) := by decide +kernel
theorem dX1_hasNumber_12 : decode cX1_hasNumber 12 = .ok (.aload_n 0, 1) := by decide +kernel
theorem dX1_hasNumber_13 : decode cX1_hasNumber 13 = .ok (.getfield 29, 3) := by decide +kernel
theorem dX1_hasNumber_16 : decode cX1_hasNumber 16 = .ok (.arraylength, 1) := by decide +kernel
theorem dX1_hasNumber_17 : decode cX1_hasNumber 17 = .ok (.if_icmp .ge 7, 3) := by decide +kernel
theorem dX1_hasNumber_20 : decode cX1_hasNumber 20 = .ok (.iconst 1, 1) := by decide +kernel
theorem dX1_hasNumber_21 : decode cX1_hasNumber 21 = .ok (.goto 4, 3) := by decide +kernel
theorem dX1_hasNumber_24 : decode cX1_hasNumber 24 = .ok (.iconst 0, 1) := by decide +kernel
theorem dX1_hasNumber_25 : decode cX1_hasNumber 25 = .ok (.ireturn, 1) := by decide +kernel
theorem dX1_weight_0 : decode cX1_weight 0 = .ok (.aload_n 0, 1) := by decide +kernel
theorem dX1_weight_1 : decode cX1_weight 1 = .ok (.getfield 18, 3) := by decide +kernel
theorem dX1_weight_4 : decode cX1_weight 4 = .ok (.ifCond .ne 7, 3) := by decide +kernel
theorem dX1_weight_7 : decode cX1_weight 7 = .ok (.iconst 1, 1) := by decide +kernel
theorem dX1_weight_8 : decode cX1_weight 8 = .ok (.goto 8, 3) := by decide +kernel
theorem dX1_weight_11 : decode cX1_weight 11 = .ok (.aload_n 0, 1) := by decide +kernel
theorem dX1_weight_12 : decode cX1_weight 12 = .ok (.getfield 29, 3) := by decide +kernel
theorem dX1_weight_15 : decode cX1_weight 15 = .ok (.arraylength, 1) := by decide +kernel
theorem dX1_weight_16 : decode cX1_weight 16 = .ok (.ireturn, 1) := by decide +kernel
theorem dX1_lowestBits_0 : decode cX1_lowestBits 0 = .ok (.aload_n 0, 1) := by decide +kernel
theorem dX1_lowestBits_1 : decode cX1_lowestBits 1 = .ok (.getfield 15, 3) := by decide +kernel
theorem dX1_lowestBits_4 : decode cX1_lowestBits 4 = .ok (.iconst 4, 1) := by decide +kernel
theorem dX1_lowestBits_5 : decode cX1_lowestBits 5 = .ok (.if_icmp .ne 6, 3) := by decide +kernel
theorem dX1_lowestBits_8 : decode cX1_lowestBits 8 = .ok (.iload_n 1, 1) := by decide +kernel
theorem dX1_lowestBits_9 : decode cX1_lowestBits 9 = .ok (.i2b, 1) := by decide +kernel
theorem dX1_lowestBits_10 : decode cX1_lowestBits 10 = .ok (.ireturn, 1) := by decide +kernel
theorem dX1_lowestBits_11 : decode cX1_lowestBits 11 = .ok (.iload_n 1, 1) := by decide +kernel
theorem dX1_lowestBits_12 : decode cX1_lowestBits 12 = .ok (.i2c, 1) := by decide +kernel
theorem dX1_lowestBits_13 : decode cX1_lowestBits 13 = .ok (.ireturn, 1) := by decide +kernel
theorem dX2_init_0 : decode cX2_init 0 = .ok (.aload_n 0, 1) := by decide +kernel
theorem dX2_init_1 : decode cX2_init 1 = .ok (.invokespecial 1, 3) := by decide +kernel
theorem dX2_init_4 : decode cX2_init 4 = .ok (.aload_n 0, 1) := by decide +kernel
theorem dX2_init_5 : decode cX2_init 5 = .ok (.bipush 60, 2) := by decide +kernel
theorem dX2_init_7 : decode cX2_init 7 = .ok (.anewarray 9, 3) := by decide +kernel
theorem dX2_init_10 : decode cX2_init 10 = .ok (.putfield 11, 3) := by decide +kernel
theorem dX2_init_13 : decode cX2_init 13 = .ok (.aload_n 0, 1) := by decide +kernel
theorem dX2_init_14 : decode cX2_init 14 = .ok (.bipush 8, 2) := by decide +kernel
theorem dX2_init_16 : decode cX2_init 16 = .ok (.anewarray 15, 3) := by decide +kernel
theorem dX2_init_19 : decode cX2_init 19 = .ok (.putfield 17, 3) := by decide +kernel
theorem dX2_init_22 : decode cX2_init 22 = .ok (.aload_n 0, 1) := by decide +kernel
theorem dX2_init_23 : decode cX2_init 23 = .ok (.iconst (-1), 1) := by decide +kernel
theorem dX2_init_24 : decode cX2_init 24 = .ok (.putfield 21, 3) := by decide +kernel
theorem dX2_init_27 : decode cX2_init 27 = .ok (.return_, 1) := by decide +kernel
theorem dX2_slip_0 : decode cX2_slip 0 = .ok (.iload_n 1, 1) := by decide +kernel
theorem dX2_slip_1 : decode cX2_slip 1 = .ok (.ifCond .lt 8, 3) := by decide +kernel
theorem dX2_slip_4 : decode cX2_slip 4 = .ok (.iload_n 1, 1) := by decide +kernel
theorem dX2_slip_5 : decode cX2_slip 5 = .ok (.iconst 2, 1) := by decide +kernel
theorem dX2_slip_6 : decode cX2_slip 6 = .ok (.if_icmp .le 6, 3) := by decide +kernel
theorem dX2_slip_9 : decode cX2_slip 9 = .ok (.bipush (-2), 2) := by decide +kernel
theorem dX2_slip_11 : decode cX2_slip 11 = .ok (.ireturn, 1) := by decide +kernel
theorem dX2_slip_12 : decode cX2_slip 12 = .ok (.aload_n 0, 1) := by decide +kernel
theorem dX2_slip_13 : decode cX2_slip 13 = .ok (.iload_n 1, 1) := by decide +kernel
theorem dX2_slip_14 : decode cX2_slip 14 = .ok (.iconst 0, 1) := by decide +kernel
theorem dX2_slip_15 : decode cX2_slip 15 = .ok (.iconst 0, 1) := by decide +kernel
theorem dX2_slip_16 : decode cX2_slip 16 = .ok (.iload_n 2, 1) := by decide +kernel
theorem dX2_slip_17 : decode cX2_slip 17 = .ok (.invokevirtual 25, 3) := by decide +kernel
theorem dX2_slip_20 : decode cX2_slip 20 = .ok (.ireturn, 1) := by decide +kernel
theorem dX2_bundle_0 : decode cX2_bundle 0 = .ok (.iload_n 2, 1) := by decide +kernel
theorem dX2_bundle_1 : decode cX2_bundle 1 = .ok (.iconst 1, 1) := by decide +kernel
theorem dX2_bundle_2 : decode cX2_bundle 2 = .ok (.if_icmp .lt 17, 3) := by decide +kernel
theorem dX2_bundle_5 : decode cX2_bundle 5 = .ok (.iload_n 1, 1) := by decide +kernel
theorem dX2_bundle_6 : decode cX2_bundle 6 = .ok (.iload_n 2, 1) := by decide +kernel
theorem dX2_bundle_7 : decode cX2_bundle 7 = .ok (.invokestatic 29, 3) := by decide +kernel
theorem dX2_bundle_10 : decode cX2_bundle 10 = .ok (.ifCond .eq 9, 3) := by decide +kernel
theorem dX2_bundle_13 : decode cX2_bundle 13 = .ok (.iload_n 3, 1) := by decide +kernel
theorem dX2_bundle_14 : decode cX2_bundle 14 = .ok (.bipush 8, 2) := by decide +kernel
theorem dX2_bundle_16 : decode cX2_bundle 16 = .ok (.if_icmp .le 6, 3) := by decide +kernel
theorem dX2_bundle_19 : decode cX2_bundle 19 = .ok (.bipush (-2), 2) := by decide +kernel
theorem dX2_bundle_21 : decode cX2_bundle 21 = .ok (.ireturn, 1) := by decide +kernel
theorem dX2_bundle_22 : decode cX2_bundle 22 = .ok (.aload_n 0, 1) := by decide +kernel
theorem dX2_bundle_23 : decode cX2_bundle 23 = .ok (.iload_n 1, 1) := by decide +kernel
theorem dX2_bundle_24 : decode cX2_bundle 24 = .ok (.iload_n 2, 1) := by decide +kernel
theorem dX2_bundle_25 : decode cX2_bundle 25 = .ok (.iload_n 3, 1) := by decide +kernel
theorem dX2_bundle_26 : decode cX2_bundle 26 = .ok (.iconst 0, 1) := by decide +kernel
theorem dX2_bundle_27 : decode cX2_bundle 27 = .ok (.invokevirtual 25, 3) := by decide +kernel
theorem dX2_bundle_30 : decode cX2_bundle 30 = .ok (.ireturn, 1) := by decide +kernel
theorem dX2_place_0 : decode cX2_place 0 = .ok (.aload_n 0, 1) := by decide +kernel
theorem dX2_place_1 : decode cX2_place 1 = .ok (.iload_n 1, 1) := by decide +kernel
theorem dX2_place_2 : decode cX2_place 2 = .ok (.invokevirtual 33, 3) := by decide +kernel
theorem dX2_place_5 : decode cX2_place 5 = .ok (.astore 4, 2) := by decide +kernel
theorem dX2_place_7 : decode cX2_place 7 = .ok (.aload_n 0, 1) := by decide +kernel
theorem dX2_place_8 : decode cX2_place 8 = .ok (.iload_n 3, 1) := by decide +kernel
theorem dX2_place_9 : decode cX2_place 9 = .ok (.invokevirtual 33, 3) := by decide +kernel
theorem dX2_place_12 : decode cX2_place 12 = .ok (.astore 5, 2) := by decide +kernel
theorem dX2_place_14 : decode cX2_place 14 = .ok (.aload 4, 2) := by decide +kernel
theorem dX2_place_16 : decode cX2_place 16 = .ok (.ifnull 13, 3) := by decide +kernel
theorem dX2_place_19 : decode cX2_place 19 = .ok (.aload 5, 2) := by decide +kernel
theorem dX2_place_21 : decode cX2_place 21 = .ok (.ifnonnull 11, 3) := by decide +kernel
theorem dX2_place_24 : decode cX2_place 24 = .ok (.iload_n 3, 1) := by decide +kernel
theorem dX2_place_25 : decode cX2_place 25 = .ok (.iconst (-1), 1) := by decide +kernel
theorem dX2_place_26 : decode cX2_place 26 = .ok (.if_icmp .eq 6, 3) := by decide +kernel
theorem dX2_place_29 : decode cX2_place 29 = .ok (.bipush (-2), 2) := by decide +kernel
theorem dX2_place_31 : decode cX2_place 31 = .ok (.ireturn, 1) := by decide +kernel
theorem dX2_place_32 : decode cX2_place 32 = .ok (.aload 4, 2) := by decide +kernel
theorem dX2_place_34 : decode cX2_place 34 = .ok (.iload_n 2, 1) := by decide +kernel
theorem dX2_place_35 : decode cX2_place 35 = .ok (.invokevirtual 37, 3) := by decide +kernel
theorem dX2_place_38 : decode cX2_place 38 = .ok (.ifCond .eq 13, 3) := by decide +kernel
theorem dX2_place_41 : decode cX2_place 41 = .ok (.aload 4, 2) := by decide +kernel
theorem dX2_place_43 : decode cX2_place 43 = .ok (.aload 5, 2) := by decide +kernel
theorem dX2_place_45 : decode cX2_place 45 = .ok (.invokevirtual 41, 3) := by decide +kernel
theorem dX2_place_48 : decode cX2_place 48 = .ok (.ifCond .ne 6, 3) := by decide +kernel
theorem dX2_place_51 : decode cX2_place 51 = .ok (.bipush (-5), 2) := by decide +kernel
theorem dX2_place_53 : decode cX2_place 53 = .ok (.ireturn, 1) := by decide +kernel
theorem dX2_place_54 : decode cX2_place 54 = .ok (.aload 4, 2) := by decide +kernel
theorem dX2_place_56 : decode cX2_place 56 = .ok (.getfield 45, 3) := by decide +kernel
theorem dX2_place_59 : decode cX2_place 59 = .ok (.iload_n 2, 1) := by decide +kernel
theorem dX2_place_60 : decode cX2_place 60 = .ok (.iload_n 3, 1) := by decide +kernel
theorem dX2_place_61 : decode cX2_place 61 = .ok (.iastore, 1) := by decide +kernel
theorem dX2_place_62 : decode cX2_place 62 = .ok (.iconst 1, 1) := by decide +kernel
theorem dX2_place_63 : decode cX2_place 63 = .ok (.ireturn, 1) := by decide +kernel
theorem dX2_placed_0 : decode cX2_placed 0 = .ok (.aload_n 0, 1) := by decide +kernel
theorem dX2_placed_1 : decode cX2_placed 1 = .ok (.iload_n 1, 1) := by decide +kernel
theorem dX2_placed_2 : decode cX2_placed 2 = .ok (.invokevirtual 33, 3) := by decide +kernel
theorem dX2_placed_5 : decode cX2_placed 5 = .ok (.astore_n 3, 1) := by decide +kernel
theorem dX2_placed_6 : decode cX2_placed 6 = .ok (.aload_n 3, 1) := by decide +kernel
theorem dX2_placed_7 : decode cX2_placed 7 = .ok (.ifnonnull 6, 3) := by decide +kernel
theorem dX2_placed_10 : decode cX2_placed 10 = .ok (.bipush (-2), 2) := by decide +kernel
theorem dX2_placed_12 : decode cX2_placed 12 = .ok (.ireturn, 1) := by decide +kernel
theorem dX2_placed_13 : decode cX2_placed 13 = .ok (.aload_n 3, 1) := by decide +kernel
theorem dX2_placed_14 : decode cX2_placed 14 = .ok (.iload_n 2, 1) := by decide +kernel
theorem dX2_placed_15 : decode cX2_placed 15 = .ok (.invokevirtual 37, 3) := by decide +kernel
theorem dX2_placed_18 : decode cX2_placed 18 = .ok (.ifCond .eq 12, 3) := by decide +kernel
theorem dX2_placed_21 : decode cX2_placed 21 = .ok (.aload_n 3, 1) := by decide +kernel
theorem dX2_placed_22 : decode cX2_placed 22 = .ok (.getfield 45, 3) := by decide +kernel
theorem dX2_placed_25 : decode cX2_placed 25 = .ok (.iload_n 2, 1) := by decide +kernel
theorem dX2_placed_26 : decode cX2_placed 26 = .ok (.iaload, 1) := by decide +kernel
theorem dX2_placed_27 : decode cX2_placed 27 = .ok (.goto 5, 3) := by decide +kernel
theorem dX2_placed_30 : decode cX2_placed 30 = .ok (.bipush (-5), 2) := by decide +kernel
theorem dX2_placed_32 : decode cX2_placed 32 = .ok (.ireturn, 1) := by decide +kernel
theorem dX2_figure_0 : decode cX2_figure 0 = .ok (.aload_n 0, 1) := by decide +kernel
theorem dX2_figure_1 : decode cX2_figure 1 = .ok (.iload_n 1, 1) := by decide +kernel
theorem dX2_figure_2 : decode cX2_figure 2 = .ok (.invokevirtual 33, 3) := by decide +kernel
theorem dX2_figure_5 : decode cX2_figure 5 = .ok (.astore 4, 2) := by decide +kernel
theorem dX2_figure_7 : decode cX2_figure 7 = .ok (.aload 4, 2) := by decide +kernel
theorem dX2_figure_9 : decode cX2_figure 9 = .ok (.ifnonnull 6, 3) := by decide +kernel
theorem dX2_figure_12 : decode cX2_figure 12 = .ok (.bipush (-2), 2) := by decide +kernel
theorem dX2_figure_14 : decode cX2_figure 14 = .ok (.ireturn, 1) := by decide +kernel
theorem dX2_figure_15 : decode cX2_figure 15 = .ok (.aload 4, 2) := by decide +kernel
theorem dX2_figure_17 : decode cX2_figure 17 = .ok (.iload_n 2, 1) := by decide +kernel
theorem dX2_figure_18 : decode cX2_figure 18 = .ok (.invokevirtual 49, 3) := by decide +kernel
theorem dX2_figure_21 : decode cX2_figure 21 = .ok (.ifCond .ne 6, 3) := by decide +kernel
theorem dX2_figure_24 : decode cX2_figure 24 = .ok (.bipush (-5), 2) := by decide +kernel
theorem dX2_figure_26 : decode cX2_figure 26 = .ok (.ireturn, 1) := by decide +kernel
theorem dX2_figure_27 : decode cX2_figure 27 = .ok (.aload 4, 2) := by decide +kernel
theorem dX2_figure_29 : decode cX2_figure 29 = .ok (.getfield 45, 3) := by decide +kernel
theorem dX2_figure_32 : decode cX2_figure 32 = .ok (.iload_n 2, 1) := by decide +kernel
theorem dX2_figure_33 : decode cX2_figure 33 = .ok (.aload 4, 2) := by decide +kernel
theorem dX2_figure_35 : decode cX2_figure 35 = .ok (.iload_n 3, 1) := by decide +kernel
theorem dX2_figure_36 : decode cX2_figure 36 = .ok (.invokevirtual 52, 3) := by decide +kernel
theorem dX2_figure_39 : decode cX2_figure 39 = .ok (.iastore, 1) := by decide +kernel
theorem dX2_figure_40 : decode cX2_figure 40 = .ok (.iconst 1, 1) := by decide +kernel
theorem dX2_figure_41 : decode cX2_figure 41 = .ok (.ireturn, 1) := by decide +kernel
theorem dX2_number_0 : decode cX2_number 0 = .ok (.aload_n 0, 1) := by decide +kernel
theorem dX2_number_1 : decode cX2_number 1 = .ok (.iload_n 1, 1) := by decide +kernel
theorem dX2_number_2 : decode cX2_number 2 = .ok (.invokevirtual 33, 3) := by decide +kernel
theorem dX2_number_5 : decode cX2_number 5 = .ok (.astore_n 3, 1) := by decide +kernel
theorem dX2_number_6 : decode cX2_number 6 = .ok (.aload_n 3, 1) := by decide +kernel
theorem dX2_number_7 : decode cX2_number 7 = .ok (.ifnonnull 5, 3) := by decide +kernel
theorem dX2_number_10 : decode cX2_number 10 = .ok (.iconst 0, 1) := by decide +kernel
theorem dX2_number_11 : decode cX2_number 11 = .ok (.ireturn, 1) := by decide +kernel
theorem dX2_number_12 : decode cX2_number 12 = .ok (.aload_n 3, 1) := by decide +kernel
theorem dX2_number_13 : decode cX2_number 13 = .ok (.getfield 56, 3) := by decide +kernel
theorem dX2_number_16 : decode cX2_number 16 = .ok (.ifCond .ne 17, 3) := by decide +kernel
theorem dX2_number_19 : decode cX2_number 19 = .ok (.iload_n 2, 1) := by decide +kernel
theorem dX2_number_20 : decode cX2_number 20 = .ok (.iconst (-1), 1) := by decide +kernel
theorem dX2_number_21 : decode cX2_number 21 = .ok (.if_icmp .ne 10, 3) := by decide +kernel
theorem dX2_number_24 : decode cX2_number 24 = .ok (.aload_n 3, 1) := by decide +kernel
theorem dX2_number_25 : decode cX2_number 25 = .ok (.getfield 59, 3) := by decide +kernel
theorem dX2_number_28 : decode cX2_number 28 = .ok (.goto 4, 3) := by decide +kernel
theorem dX2_number_31 : decode cX2_number 31 = .ok (.iconst 0, 1) := by decide +kernel
theorem dX2_number_32 : decode cX2_number 32 = .ok (.ireturn, 1) := by decide +kernel
theorem dX2_number_33 : decode cX2_number 33 = .ok (.aload_n 3, 1) := by decide +kernel
theorem dX2_number_34 : decode cX2_number 34 = .ok (.iload_n 2, 1) := by decide +kernel
theorem dX2_number_35 : decode cX2_number 35 = .ok (.invokevirtual 49, 3) := by decide +kernel
theorem dX2_number_38 : decode cX2_number 38 = .ok (.ifCond .eq 12, 3) := by decide +kernel
theorem dX2_number_41 : decode cX2_number 41 = .ok (.aload_n 3, 1) := by decide +kernel
theorem dX2_number_42 : decode cX2_number 42 = .ok (.getfield 45, 3) := by decide +kernel
theorem dX2_number_45 : decode cX2_number 45 = .ok (.iload_n 2, 1) := by decide +kernel
theorem dX2_number_46 : decode cX2_number 46 = .ok (.iaload, 1) := by decide +kernel
theorem dX2_number_47 : decode cX2_number 47 = .ok (.goto 4, 3) := by decide +kernel
theorem dX2_number_50 : decode cX2_number 50 = .ok (.iconst 0, 1) := by decide +kernel
theorem dX2_number_51 : decode cX2_number 51 = .ok (.ireturn, 1) := by decide +kernel
theorem dX2_is_0 : decode cX2_is 0 = .ok (.aload_n 0, 1) := by decide +kernel
theorem dX2_is_1 : decode cX2_is 1 = .ok (.iload_n 1, 1) := by decide +kernel
theorem dX2_is_2 : decode cX2_is 2 = .ok (.invokevirtual 33, 3) := by decide +kernel
theorem dX2_is_5 : decode cX2_is 5 = .ok (.astore 4, 2) := by decide +kernel
theorem dX2_is_7 : decode cX2_is 7 = .ok (.aload 4, 2) := by decide +kernel
theorem dX2_is_9 : decode cX2_is 9 = .ok (.ifnull 11, 3) := by decide +kernel
theorem dX2_is_12 : decode cX2_is 12 = .ok (.iload_n 2, 1) := by decide +kernel
theorem dX2_is_13 : decode cX2_is 13 = .ok (.iload_n 3, 1) := by decide +kernel
theorem dX2_is_14 : decode cX2_is 14 = .ok (.invokestatic 29, 3) := by decide +kernel
theorem dX2_is_17 : decode cX2_is 17 = .ok (.ifCond .ne 6, 3) := by decide +kernel
theorem dX2_is_20 : decode cX2_is 20 = .ok (.bipush (-2), 2) := by decide +kernel
theorem dX2_is_22 : decode cX2_is 22 = .ok (.ireturn, 1) := by decide +kernel
theorem dX2_is_23 : decode cX2_is 23 = .ok (.aload 4, 2) := by decide +kernel
theorem dX2_is_25 : decode cX2_is 25 = .ok (.iload_n 2, 1) := by decide +kernel
theorem dX2_is_26 : decode cX2_is 26 = .ok (.iload_n 3, 1) := by decide +kernel
theorem dX2_is_27 : decode cX2_is 27 = .ok (.invokevirtual 62, 3) := by decide +kernel
theorem dX2_is_30 : decode cX2_is 30 = .ok (.invokestatic 65, 3) := by decide +kernel
theorem dX2_is_33 : decode cX2_is 33 = .ok (.ireturn, 1) := by decide +kernel
theorem dX2_about_0 : decode cX2_about 0 = .ok (.aload_n 0, 1) := by decide +kernel
theorem dX2_about_1 : decode cX2_about 1 = .ok (.iload_n 1, 1) := by decide +kernel
theorem dX2_about_2 : decode cX2_about 2 = .ok (.invokevirtual 33, 3) := by decide +kernel
theorem dX2_about_5 : decode cX2_about 5 = .ok (.astore_n 3, 1) := by decide +kernel
theorem dX2_about_6 : decode cX2_about 6 = .ok (.aload_n 3, 1) := by decide +kernel
theorem dX2_about_7 : decode cX2_about 7 = .ok (.ifnonnull 6, 3) := by decide +kernel
theorem dX2_about_10 : decode cX2_about 10 = .ok (.bipush (-2), 2) := by decide +kernel
theorem dX2_about_12 : decode cX2_about 12 = .ok (.ireturn, 1) := by decide +kernel
theorem dX2_about_13 : decode cX2_about 13 = .ok (.iload_n 2, 1) := by decide +kernel
theorem dX2_about_14 : decode cX2_about 14 = .ok (.tableswitch 42 0 2 #[26, 31, 36], 26) := by decide +kernel
theorem dX2_about_40 : decode cX2_about 40 = .ok (.aload_n 3, 1) := by decide +kernel
theorem dX2_about_41 : decode cX2_about 41 = .ok (.getfield 69, 3) := by decide +kernel
theorem dX2_about_44 : decode cX2_about 44 = .ok (.ireturn, 1) := by decide +kernel
theorem dX2_about_45 : decode cX2_about 45 = .ok (.aload_n 3, 1) := by decide +kernel
theorem dX2_about_46 : decode cX2_about 46 = .ok (.getfield 56, 3) := by decide +kernel
theorem dX2_about_49 : decode cX2_about 49 = .ok (.ireturn, 1) := by decide +kernel
theorem dX2_about_50 : decode cX2_about 50 = .ok (.aload_n 3, 1) := by decide +kernel
theorem dX2_about_51 : decode cX2_about 51 = .ok (.getfield 45, 3) := by decide +kernel
theorem dX2_about_54 : decode cX2_about 54 = .ok (.arraylength, 1) := by decide +kernel
theorem dX2_about_55 : decode cX2_about 55 = .ok (.ireturn, 1) := by decide +kernel
theorem dX2_about_56 : decode cX2_about 56 = .ok (.bipush (-2), 2) := by decide +kernel
theorem dX2_about_58 : decode cX2_about 58 = .ok (.ireturn, 1) := by decide +kernel
theorem dX2_counter_0 : decode cX2_counter 0 = .ok (.iload_n 1, 1) := by decide +kernel
theorem dX2_counter_1 : decode cX2_counter 1 = .ok (.ifCond .lt 27, 3) := by decide +kernel
theorem dX2_counter_4 : decode cX2_counter 4 = .ok (.iload_n 1, 1) := by decide +kernel
theorem dX2_counter_5 : decode cX2_counter 5 = .ok (.bipush 8, 2) := by decide +kernel
theorem dX2_counter_7 : decode cX2_counter 7 = .ok (.if_icmp .ge 21, 3) := by decide +kernel
theorem dX2_counter_10 : decode cX2_counter 10 = .ok (.iload_n 2, 1) := by decide +kernel
theorem dX2_counter_11 : decode cX2_counter 11 = .ok (.iload_n 3, 1) := by decide +kernel
theorem dX2_counter_12 : decode cX2_counter 12 = .ok (.invokestatic 29, 3) := by decide +kernel
theorem dX2_counter_15 : decode cX2_counter 15 = .ok (.ifCond .eq 13, 3) := by decide +kernel
theorem dX2_counter_18 : decode cX2_counter 18 = .ok (.iload 4, 2) := by decide +kernel
theorem dX2_counter_20 : decode cX2_counter 20 = .ok (.iload 5, 2) := by decide +kernel
theorem dX2_counter_22 : decode cX2_counter 22 = .ok (.invokestatic 29, 3) := by decide +kernel
theorem dX2_counter_25 : decode cX2_counter 25 = .ok (.ifCond .ne 6, 3) := by decide +kernel
theorem dX2_counter_28 : decode cX2_counter 28 = .ok (.bipush (-2), 2) := by decide +kernel
theorem dX2_counter_30 : decode cX2_counter 30 = .ok (.ireturn, 1) := by decide +kernel
theorem dX2_counter_31 : decode cX2_counter 31 = .ok (.aload_n 0, 1) := by decide +kernel
theorem dX2_counter_32 : decode cX2_counter 32 = .ok (.getfield 17, 3) := by decide +kernel
theorem dX2_counter_35 : decode cX2_counter 35 = .ok (.iload_n 1, 1) := by decide +kernel
theorem dX2_counter_36 : decode cX2_counter 36 = .ok (.aaload, 1) := by decide +kernel
theorem dX2_counter_37 : decode cX2_counter 37 = .ok (.astore 6, 2) := by decide +kernel
theorem dX2_counter_39 : decode cX2_counter 39 = .ok (.aload 6, 2) := by decide +kernel
theorem dX2_counter_41 : decode cX2_counter 41 = .ok (.ifnonnull 31, 3) := by decide +kernel
theorem dX2_counter_44 : decode cX2_counter 44 = .ok (.new 15, 3) := by decide +kernel
theorem dX2_counter_47 : decode cX2_counter 47 = .ok (.dup, 1) := by decide +kernel
theorem dX2_counter_48 : decode cX2_counter 48 = .ok (.iload_n 1, 1) := by decide +kernel
theorem dX2_counter_49 : decode cX2_counter 49 = .ok (.invokespecial 72, 3) := by decide +kernel
theorem dX2_counter_52 : decode cX2_counter 52 = .ok (.astore 6, 2) := by decide +kernel
theorem dX2_counter_54 : decode cX2_counter 54 = .ok (.aload_n 0, 1) := by decide +kernel
theorem dX2_counter_55 : decode cX2_counter 55 = .ok (.getfield 17, 3) := by decide +kernel
theorem dX2_counter_58 : decode cX2_counter 58 = .ok (.iload_n 1, 1) := by decide +kernel
theorem dX2_counter_59 : decode cX2_counter 59 = .ok (.aload 6, 2) := by decide +kernel
theorem dX2_counter_61 : decode cX2_counter 61 = .ok (.aastore, 1) := by decide +kernel
theorem dX2_counter_62 : decode cX2_counter 62 = .ok (.aload_n 0, 1) := by decide +kernel
theorem dX2_counter_63 : decode cX2_counter 63 = .ok (.dup, 1) := by decide +kernel
theorem dX2_counter_64 : decode cX2_counter 64 = .ok (.getfield 75, 3) := by decide +kernel
theorem dX2_counter_67 : decode cX2_counter 67 = .ok (.iconst 1, 1) := by decide +kernel
theorem dX2_counter_68 : decode cX2_counter 68 = .ok (.iadd, 1) := by decide +kernel
theorem dX2_counter_69 : decode cX2_counter 69 = .ok (.putfield 75, 3) := by decide +kernel
theorem dX2_counter_72 : decode cX2_counter 72 = .ok (.aload 6, 2) := by decide +kernel
theorem dX2_counter_74 : decode cX2_counter 74 = .ok (.iload_n 2, 1) := by decide +kernel
theorem dX2_counter_75 : decode cX2_counter 75 = .ok (.iload_n 3, 1) := by decide +kernel
theorem dX2_counter_76 : decode cX2_counter 76 = .ok (.iload 4, 2) := by decide +kernel
theorem dX2_counter_78 : decode cX2_counter 78 = .ok (.iload 5, 2) := by decide +kernel
theorem dX2_counter_80 : decode cX2_counter 80 = .ok (.invokevirtual 78, 3) := by decide +kernel
theorem dX2_counter_83 : decode cX2_counter 83 = .ok (.iconst 1, 1) := by decide +kernel
theorem dX2_counter_84 : decode cX2_counter 84 = .ok (.ireturn, 1) := by decide +kernel
theorem dX2_job_0 : decode cX2_job 0 = .ok (.aload_n 0, 1) := by decide +kernel
theorem dX2_job_1 : decode cX2_job 1 = .ok (.iload_n 1, 1) := by decide +kernel
theorem dX2_job_2 : decode cX2_job 2 = .ok (.invokevirtual 82, 3) := by decide +kernel
theorem dX2_job_5 : decode cX2_job 5 = .ok (.astore 6, 2) := by decide +kernel
theorem dX2_job_7 : decode cX2_job 7 = .ok (.aload 6, 2) := by decide +kernel
theorem dX2_job_9 : decode cX2_job 9 = .ok (.ifnull 12, 3) := by decide +kernel
theorem dX2_job_12 : decode cX2_job 12 = .ok (.aload 6, 2) := by decide +kernel
theorem dX2_job_14 : decode cX2_job 14 = .ok (.iload_n 2, 1) := by decide +kernel
theorem dX2_job_15 : decode cX2_job 15 = .ok (.invokevirtual 86, 3) := by decide +kernel
theorem dX2_job_18 : decode cX2_job 18 = .ok (.ifCond .ne 6, 3) := by decide +kernel
theorem dX2_job_21 : decode cX2_job 21 = .ok (.bipush (-2), 2) := by decide +kernel
theorem dX2_job_23 : decode cX2_job 23 = .ok (.ireturn, 1) := by decide +kernel
theorem dX2_job_24 : decode cX2_job 24 = .ok (.iload 4, 2) := by decide +kernel
theorem dX2_job_26 : decode cX2_job 26 = .ok (.iconst (-1), 1) := by decide +kernel
theorem dX2_job_27 : decode cX2_job 27 = .ok (.if_icmp .eq 12, 3) := by decide +kernel
theorem dX2_job_30 : decode cX2_job 30 = .ok (.aload_n 0, 1) := by decide +kernel
theorem dX2_job_31 : decode cX2_job 31 = .ok (.iload 4, 2) := by decide +kernel
theorem dX2_job_33 : decode cX2_job 33 = .ok (.invokevirtual 33, 3) := by decide +kernel
theorem dX2_job_36 : decode cX2_job 36 = .ok (.ifnull 14, 3) := by decide +kernel
theorem dX2_job_39 : decode cX2_job 39 = .ok (.iload 5, 2) := by decide +kernel
theorem dX2_job_41 : decode cX2_job 41 = .ok (.ifCond .lt 9, 3) := by decide +kernel
theorem dX2_job_44 : decode cX2_job 44 = .ok (.iload 5, 2) := by decide +kernel
theorem dX2_job_46 : decode cX2_job 46 = .ok (.iconst 1, 1) := by decide +kernel
theorem dX2_job_47 : decode cX2_job 47 = .ok (.if_icmp .le 6, 3) := by decide +kernel
theorem dX2_job_50 : decode cX2_job 50 = .ok (.bipush (-2), 2) := by decide +kernel
theorem dX2_job_52 : decode cX2_job 52 = .ok (.ireturn, 1) := by decide +kernel
theorem dX2_job_53 : decode cX2_job 53 = .ok (.aload 6, 2) := by decide +kernel
theorem dX2_job_55 : decode cX2_job 55 = .ok (.iload_n 2, 1) := by decide +kernel
theorem dX2_job_56 : decode cX2_job 56 = .ok (.putfield 89, 3) := by decide +kernel
theorem dX2_job_59 : decode cX2_job 59 = .ok (.aload 6, 2) := by decide +kernel
theorem dX2_job_61 : decode cX2_job 61 = .ok (.iload_n 3, 1) := by decide +kernel
theorem dX2_job_62 : decode cX2_job 62 = .ok (.putfield 92, 3) := by decide +kernel
theorem dX2_job_65 : decode cX2_job 65 = .ok (.aload 6, 2) := by decide +kernel
theorem dX2_job_67 : decode cX2_job 67 = .ok (.iload 4, 2) := by decide +kernel
theorem dX2_job_69 : decode cX2_job 69 = .ok (.putfield 95, 3) := by decide +kernel
theorem dX2_job_72 : decode cX2_job 72 = .ok (.aload 6, 2) := by decide +kernel
theorem dX2_job_74 : decode cX2_job 74 = .ok (.iload 5, 2) := by decide +kernel
theorem dX2_job_76 : decode cX2_job 76 = .ok (.iconst 1, 1) := by decide +kernel
theorem dX2_job_77 : decode cX2_job 77 = .ok (.if_icmp .ne 7, 3) := by decide +kernel
theorem dX2_job_80 : decode cX2_job 80 = .ok (.iconst 1, 1) := by decide +kernel
theorem dX2_job_81 : decode cX2_job 81 = .ok (.goto 4, 3) := by decide +kernel
theorem dX2_job_84 : decode cX2_job 84 = .ok (.iconst 0, 1) := by decide +kernel
theorem dX2_job_85 : decode cX2_job 85 = .ok (.putfield 98, 3) := by decide +kernel
theorem dX2_job_88 : decode cX2_job 88 = .ok (.iconst 1, 1) := by decide +kernel
theorem dX2_job_89 : decode cX2_job 89 = .ok (.ireturn, 1) := by decide +kernel
theorem dX2_shut_0 : decode cX2_shut 0 = .ok (.aload_n 0, 1) := by decide +kernel
theorem dX2_shut_1 : decode cX2_shut 1 = .ok (.iload_n 1, 1) := by decide +kernel
theorem dX2_shut_2 : decode cX2_shut 2 = .ok (.invokevirtual 82, 3) := by decide +kernel
theorem dX2_shut_5 : decode cX2_shut 5 = .ok (.astore_n 3, 1) := by decide +kernel
theorem dX2_shut_6 : decode cX2_shut 6 = .ok (.aload_n 3, 1) := by decide +kernel
theorem dX2_shut_7 : decode cX2_shut 7 = .ok (.ifnonnull 6, 3) := by decide +kernel
theorem dX2_shut_10 : decode cX2_shut 10 = .ok (.bipush (-2), 2) := by decide +kernel
theorem dX2_shut_12 : decode cX2_shut 12 = .ok (.ireturn, 1) := by decide +kernel
theorem dX2_shut_13 : decode cX2_shut 13 = .ok (.aload_n 3, 1) := by decide +kernel
theorem dX2_shut_14 : decode cX2_shut 14 = .ok (.getfield 102, 3) := by decide +kernel
theorem dX2_shut_17 : decode cX2_shut 17 = .ok (.invokestatic 65, 3) := by decide +kernel
theorem dX2_shut_20 : decode cX2_shut 20 = .ok (.istore 4, 2) := by decide +kernel
theorem dX2_shut_22 : decode cX2_shut 22 = .ok (.aload_n 3, 1) := by decide +kernel
theorem dX2_shut_23 : decode cX2_shut 23 = .ok (.iload_n 2, 1) := by decide +kernel
theorem dX2_shut_24 : decode cX2_shut 24 = .ok (.putfield 102, 3) := by decide +kernel
theorem dX2_shut_27 : decode cX2_shut 27 = .ok (.iload 4, 2) := by decide +kernel
theorem dX2_shut_29 : decode cX2_shut 29 = .ok (.ireturn, 1) := by decide +kernel
theorem dX2_send_0 : decode cX2_send 0 = .ok (.aload_n 0, 1) := by decide +kernel
theorem dX2_send_1 : decode cX2_send 1 = .ok (.iload_n 1, 1) := by decide +kernel
theorem dX2_send_2 : decode cX2_send 2 = .ok (.invokevirtual 33, 3) := by decide +kernel
theorem dX2_send_5 : decode cX2_send 5 = .ok (.astore_n 3, 1) := by decide +kernel
theorem dX2_send_6 : decode cX2_send 6 = .ok (.aload_n 3, 1) := by decide +kernel
theorem dX2_send_7 : decode cX2_send 7 = .ok (.ifnull 13, 3) := by decide +kernel
theorem dX2_send_10 : decode cX2_send 10 = .ok (.iload_n 2, 1) := by decide +kernel
theorem dX2_send_11 : decode cX2_send 11 = .ok (.ifCond .lt 9, 3) := by decide +kernel
theorem dX2_send_14 : decode cX2_send 14 = .ok (.iload_n 2, 1) := by decide +kernel
theorem dX2_send_15 : decode cX2_send 15 = .ok (.bipush 8, 2) := by decide +kernel
theorem dX2_send_17 : decode cX2_send 17 = .ok (.if_icmp .lt 6, 3) := by decide +kernel
theorem dX2_send_20 : decode cX2_send 20 = .ok (.bipush (-2), 2) := by decide +kernel
theorem dX2_send_22 : decode cX2_send 22 = .ok (.ireturn, 1) := by decide +kernel
theorem dX2_send_23 : decode cX2_send 23 = .ok (.aload_n 0, 1) := by decide +kernel
theorem dX2_send_24 : decode cX2_send 24 = .ok (.dup, 1) := by decide +kernel
theorem dX2_send_25 : decode cX2_send 25 = .ok (.getfield 105, 3) := by decide +kernel
theorem dX2_send_28 : decode cX2_send 28 = .ok (.iconst 1, 1) := by decide +kernel
theorem dX2_send_29 : decode cX2_send 29 = .ok (.iadd, 1) := by decide +kernel
theorem dX2_send_30 : decode cX2_send 30 = .ok (.putfield 105, 3) := by decide +kernel
theorem dX2_send_33 : decode cX2_send 33 = .ok (.aload_n 0, 1) := by decide +kernel
theorem dX2_send_34 : decode cX2_send 34 = .ok (.iconst 0, 1) := by decide +kernel
theorem dX2_send_35 : decode cX2_send 35 = .ok (.putfield 108, 3) := by decide +kernel
theorem dX2_send_38 : decode cX2_send 38 = .ok (.aload_n 0, 1) := by decide +kernel
theorem dX2_send_39 : decode cX2_send 39 = .ok (.iconst 0, 1) := by decide +kernel
theorem dX2_send_40 : decode cX2_send 40 = .ok (.putfield 111, 3) := by decide +kernel
theorem dX2_send_43 : decode cX2_send 43 = .ok (.aload_n 0, 1) := by decide +kernel
theorem dX2_send_44 : decode cX2_send 44 = .ok (.iconst 0, 1) := by decide +kernel
theorem dX2_send_45 : decode cX2_send 45 = .ok (.putfield 114, 3) := by decide +kernel
theorem dX2_send_48 : decode cX2_send 48 = .ok (.aload_n 0, 1) := by decide +kernel
theorem dX2_send_49 : decode cX2_send 49 = .ok (.iconst 0, 1) := by decide +kernel
theorem dX2_send_50 : decode cX2_send 50 = .ok (.putfield 117, 3) := by decide +kernel
theorem dX2_send_53 : decode cX2_send 53 = .ok (.aload_n 0, 1) := by decide +kernel
theorem dX2_send_54 : decode cX2_send 54 = .ok (.iconst (-1), 1) := by decide +kernel
theorem dX2_send_55 : decode cX2_send 55 = .ok (.putfield 21, 3) := by decide +kernel
theorem dX2_send_58 : decode cX2_send 58 = .ok (.aload_n 0, 1) := by decide +kernel
theorem dX2_send_59 : decode cX2_send 59 = .ok (.aload_n 3, 1) := by decide +kernel
theorem dX2_send_60 : decode cX2_send 60 = .ok (.iload_n 2, 1) := by decide +kernel
theorem dX2_send_61 : decode cX2_send 61 = .ok (.invokevirtual 120, 3) := by decide +kernel
theorem dX2_send_64 : decode cX2_send 64 = .ok (.ireturn, 1) := by decide +kernel
theorem dX2_told_0 : decode cX2_told 0 = .ok (.iload_n 1, 1) := by decide +kernel
theorem dX2_told_1 : decode cX2_told 1 = .ok (.tableswitch 60 0 4 #[35, 40, 45, 50, 55], 35) := by decide +kernel
theorem dX2_told_36 : decode cX2_told 36 = .ok (.aload_n 0, 1) := by decide +kernel
theorem dX2_told_37 : decode cX2_told 37 = .ok (.getfield 108, 3) := by decide +kernel
theorem dX2_told_40 : decode cX2_told 40 = .ok (.ireturn, 1) := by decide +kernel
theorem dX2_told_41 : decode cX2_told 41 = .ok (.aload_n 0, 1) := by decide +kernel
theorem dX2_told_42 : decode cX2_told 42 = .ok (.getfield 111, 3) := by decide +kernel
theorem dX2_told_45 : decode cX2_told 45 = .ok (.ireturn, 1) := by decide +kernel
theorem dX2_told_46 : decode cX2_told 46 = .ok (.aload_n 0, 1) := by decide +kernel
theorem dX2_told_47 : decode cX2_told 47 = .ok (.getfield 114, 3) := by decide +kernel
theorem dX2_told_50 : decode cX2_told 50 = .ok (.ireturn, 1) := by decide +kernel
theorem dX2_told_51 : decode cX2_told 51 = .ok (.aload_n 0, 1) := by decide +kernel
theorem dX2_told_52 : decode cX2_told 52 = .ok (.getfield 117, 3) := by decide +kernel
theorem dX2_told_55 : decode cX2_told 55 = .ok (.ireturn, 1) := by decide +kernel
theorem dX2_told_56 : decode cX2_told 56 = .ok (.aload_n 0, 1) := by decide +kernel
theorem dX2_told_57 : decode cX2_told 57 = .ok (.getfield 21, 3) := by decide +kernel
theorem dX2_told_60 : decode cX2_told 60 = .ok (.ireturn, 1) := by decide +kernel
theorem dX2_told_61 : decode cX2_told 61 = .ok (.bipush (-2), 2) := by decide +kernel
theorem dX2_told_63 : decode cX2_told 63 = .ok (.ireturn, 1) := by decide +kernel
theorem dX2_of_0 : decode cX2_of 0 = .ok (.aload_n 0, 1) := by decide +kernel
theorem dX2_of_1 : decode cX2_of 1 = .ok (.iload_n 1, 1) := by decide +kernel
theorem dX2_of_2 : decode cX2_of 2 = .ok (.invokevirtual 82, 3) := by decide +kernel
theorem dX2_of_5 : decode cX2_of 5 = .ok (.astore_n 3, 1) := by decide +kernel
theorem dX2_of_6 : decode cX2_of 6 = .ok (.aload_n 3, 1) := by decide +kernel
theorem dX2_of_7 : decode cX2_of 7 = .ok (.ifnonnull 5, 3) := by decide +kernel
theorem dX2_of_10 : decode cX2_of 10 = .ok (.iconst 0, 1) := by decide +kernel
theorem dX2_of_11 : decode cX2_of 11 = .ok (.ireturn, 1) := by decide +kernel
theorem dX2_of_12 : decode cX2_of 12 = .ok (.iload_n 2, 1) := by decide +kernel
theorem dX2_of_13 : decode cX2_of 13 = .ok (.tableswitch 84 0 6 #[43, 48, 53, 58, 66, 71, 76], 43) := by decide +kernel
theorem dX2_of_56 : decode cX2_of 56 = .ok (.aload_n 3, 1) := by decide +kernel
theorem dX2_of_57 : decode cX2_of 57 = .ok (.getfield 92, 3) := by decide +kernel
theorem dX2_of_60 : decode cX2_of 60 = .ok (.ireturn, 1) := by decide +kernel
theorem dX2_of_61 : decode cX2_of 61 = .ok (.aload_n 3, 1) := by decide +kernel
theorem dX2_of_62 : decode cX2_of 62 = .ok (.getfield 124, 3) := by decide +kernel
theorem dX2_of_65 : decode cX2_of 65 = .ok (.ireturn, 1) := by decide +kernel
theorem dX2_of_66 : decode cX2_of 66 = .ok (.aload_n 3, 1) := by decide +kernel
theorem dX2_of_67 : decode cX2_of 67 = .ok (.getfield 127, 3) := by decide +kernel
theorem dX2_of_70 : decode cX2_of 70 = .ok (.ireturn, 1) := by decide +kernel
theorem dX2_of_71 : decode cX2_of 71 = .ok (.aload_n 3, 1) := by decide +kernel
theorem dX2_of_72 : decode cX2_of 72 = .ok (.getfield 102, 3) := by decide +kernel
theorem dX2_of_75 : decode cX2_of 75 = .ok (.invokestatic 65, 3) := by decide +kernel
theorem dX2_of_78 : decode cX2_of 78 = .ok (.ireturn, 1) := by decide +kernel
theorem dX2_of_79 : decode cX2_of 79 = .ok (.aload_n 3, 1) := by decide +kernel
theorem dX2_of_80 : decode cX2_of 80 = .ok (.getfield 95, 3) := by decide +kernel
theorem dX2_of_83 : decode cX2_of 83 = .ok (.ireturn, 1) := by decide +kernel
theorem dX2_of_84 : decode cX2_of 84 = .ok (.aload_n 3, 1) := by decide +kernel
theorem dX2_of_85 : decode cX2_of 85 = .ok (.getfield 89, 3) := by decide +kernel
theorem dX2_of_88 : decode cX2_of 88 = .ok (.ireturn, 1) := by decide +kernel
theorem dX2_of_89 : decode cX2_of 89 = .ok (.aload_n 3, 1) := by decide +kernel
theorem dX2_of_90 : decode cX2_of 90 = .ok (.getfield 98, 3) := by decide +kernel
theorem dX2_of_93 : decode cX2_of 93 = .ok (.invokestatic 65, 3) := by decide +kernel
theorem dX2_of_96 : decode cX2_of 96 = .ok (.ireturn, 1) := by decide +kernel
theorem dX2_of_97 : decode cX2_of 97 = .ok (.iconst 0, 1) := by decide +kernel
theorem dX2_of_98 : decode cX2_of 98 = .ok (.ireturn, 1) := by decide +kernel
theorem dX2_count_0 : decode cX2_count 0 = .ok (.iload_n 1, 1) := by decide +kernel
theorem dX2_count_1 : decode cX2_count 1 = .ok (.tableswitch 42 0 2 #[27, 32, 37], 27) := by decide +kernel
theorem dX2_count_28 : decode cX2_count 28 = .ok (.aload_n 0, 1) := by decide +kernel
theorem dX2_count_29 : decode cX2_count 29 = .ok (.getfield 130, 3) := by decide +kernel
theorem dX2_count_32 : decode cX2_count 32 = .ok (.ireturn, 1) := by decide +kernel
theorem dX2_count_33 : decode cX2_count 33 = .ok (.aload_n 0, 1) := by decide +kernel
theorem dX2_count_34 : decode cX2_count 34 = .ok (.getfield 75, 3) := by decide +kernel
theorem dX2_count_37 : decode cX2_count 37 = .ok (.ireturn, 1) := by decide +kernel
theorem dX2_count_38 : decode cX2_count 38 = .ok (.aload_n 0, 1) := by decide +kernel
theorem dX2_count_39 : decode cX2_count 39 = .ok (.getfield 105, 3) := by decide +kernel
theorem dX2_count_42 : decode cX2_count 42 = .ok (.ireturn, 1) := by decide +kernel
theorem dX2_count_43 : decode cX2_count 43 = .ok (.bipush (-2), 2) := by decide +kernel
theorem dX2_count_45 : decode cX2_count 45 = .ok (.ireturn, 1) := by decide +kernel
theorem dX2_asInt_0 : decode cX2_asInt 0 = .ok (.iload_n 0, 1) := by decide +kernel
theorem dX2_asInt_1 : decode cX2_asInt 1 = .ok (.ifCond .eq 7, 3) := by decide +kernel
theorem dX2_asInt_4 : decode cX2_asInt 4 = .ok (.iconst 1, 1) := by decide +kernel
theorem dX2_asInt_5 : decode cX2_asInt 5 = .ok (.goto 4, 3) := by decide +kernel
theorem dX2_asInt_8 : decode cX2_asInt 8 = .ok (.iconst 0, 1) := by decide +kernel
theorem dX2_asInt_9 : decode cX2_asInt 9 = .ok (.ireturn, 1) := by decide +kernel
theorem dX2_passesFor_0 : decode cX2_passesFor 0 = .ok (.iload_n 0, 1) := by decide +kernel
theorem dX2_passesFor_1 : decode cX2_passesFor 1 = .ok (.iload_n 1, 1) := by decide +kernel
theorem dX2_passesFor_2 : decode cX2_passesFor 2 = .ok (.if_icmp .eq 27, 3) := by decide +kernel
theorem dX2_passesFor_5 : decode cX2_passesFor 5 = .ok (.iload_n 1, 1) := by decide +kernel
theorem dX2_passesFor_6 : decode cX2_passesFor 6 = .ok (.ifCond .ne 13, 3) := by decide +kernel
theorem dX2_passesFor_9 : decode cX2_passesFor 9 = .ok (.iload_n 0, 1) := by decide +kernel
theorem dX2_passesFor_10 : decode cX2_passesFor 10 = .ok (.iconst 1, 1) := by decide +kernel
theorem dX2_passesFor_11 : decode cX2_passesFor 11 = .ok (.if_icmp .eq 18, 3) := by decide +kernel
theorem dX2_passesFor_14 : decode cX2_passesFor 14 = .ok (.iload_n 0, 1) := by decide +kernel
theorem dX2_passesFor_15 : decode cX2_passesFor 15 = .ok (.iconst 2, 1) := by decide +kernel
theorem dX2_passesFor_16 : decode cX2_passesFor 16 = .ok (.if_icmp .eq 13, 3) := by decide +kernel
theorem dX2_passesFor_19 : decode cX2_passesFor 19 = .ok (.iload_n 1, 1) := by decide +kernel
theorem dX2_passesFor_20 : decode cX2_passesFor 20 = .ok (.iconst 3, 1) := by decide +kernel
theorem dX2_passesFor_21 : decode cX2_passesFor 21 = .ok (.if_icmp .ne 12, 3) := by decide +kernel
theorem dX2_passesFor_24 : decode cX2_passesFor 24 = .ok (.iload_n 0, 1) := by decide +kernel
theorem dX2_passesFor_25 : decode cX2_passesFor 25 = .ok (.iconst 2, 1) := by decide +kernel
theorem dX2_passesFor_26 : decode cX2_passesFor 26 = .ok (.if_icmp .ne 7, 3) := by decide +kernel
theorem dX2_passesFor_29 : decode cX2_passesFor 29 = .ok (.iconst 1, 1) := by decide +kernel
theorem dX2_passesFor_30 : decode cX2_passesFor 30 = .ok (.goto 4, 3) := by decide +kernel
theorem dX2_passesFor_33 : decode cX2_passesFor 33 = .ok (.iconst 0, 1) := by decide +kernel
theorem dX2_passesFor_34 : decode cX2_passesFor 34 = .ok (.ireturn, 1) := by decide +kernel
theorem dX2_isKind_0 : decode cX2_isKind 0 = .ok (.iload_n 0, 1) := by decide +kernel
theorem dX2_isKind_1 : decode cX2_isKind 1 = .ok (.iconst 4, 1) := by decide +kernel
theorem dX2_isKind_2 : decode cX2_isKind 2 = .ok (.if_icmp .lt 7, 3) := by decide +kernel
theorem dX2_isKind_5 : decode cX2_isKind 5 = .ok (.iconst 1, 1) := by decide +kernel
theorem dX2_isKind_6 : decode cX2_isKind 6 = .ok (.goto 4, 3) := by decide +kernel
theorem dX2_isKind_9 : decode cX2_isKind 9 = .ok (.iconst 0, 1) := by decide +kernel
theorem dX2_isKind_10 : decode cX2_isKind 10 = .ok (.istore_n 2, 1) := by decide +kernel
theorem dX2_isKind_11 : decode cX2_isKind 11 = .ok (.iload_n 0, 1) := by decide +kernel
theorem dX2_isKind_12 : decode cX2_isKind 12 = .ok (.ifCond .lt 22, 3) := by decide +kernel
theorem dX2_isKind_15 : decode cX2_isKind 15 = .ok (.iload_n 0, 1) := by decide +kernel
theorem dX2_isKind_16 : decode cX2_isKind 16 = .ok (.iconst 5, 1) := by decide +kernel
theorem dX2_isKind_17 : decode cX2_isKind 17 = .ok (.if_icmp .gt 17, 3) := by decide +kernel
theorem dX2_isKind_20 : decode cX2_isKind 20 = .ok (.iload_n 1, 1) := by decide +kernel
theorem dX2_isKind_21 : decode cX2_isKind 21 = .ok (.iload_n 2, 1) := by decide +kernel
theorem dX2_isKind_22 : decode cX2_isKind 22 = .ok (.if_icmp .lt 12, 3) := by decide +kernel
theorem dX2_isKind_25 : decode cX2_isKind 25 = .ok (.iload_n 1, 1) := by decide +kernel
theorem dX2_isKind_26 : decode cX2_isKind 26 = .ok (.iconst 3, 1) := by decide +kernel
theorem dX2_isKind_27 : decode cX2_isKind 27 = .ok (.if_icmp .gt 7, 3) := by decide +kernel
theorem dX2_isKind_30 : decode cX2_isKind 30 = .ok (.iconst 1, 1) := by decide +kernel
theorem dX2_isKind_31 : decode cX2_isKind 31 = .ok (.goto 4, 3) := by decide +kernel
theorem dX2_isKind_34 : decode cX2_isKind 34 = .ok (.iconst 0, 1) := by decide +kernel
theorem dX2_isKind_35 : decode cX2_isKind 35 = .ok (.ireturn, 1) := by decide +kernel
theorem dX2_isOfFigures_0 : decode cX2_isOfFigures 0 = .ok (.iload_n 0, 1) := by decide +kernel
theorem dX2_isOfFigures_1 : decode cX2_isOfFigures 1 = .ok (.iconst 4, 1) := by decide +kernel
theorem dX2_isOfFigures_2 : decode cX2_isOfFigures 2 = .ok (.if_icmp .lt 12, 3) := by decide +kernel
theorem dX2_isOfFigures_5 : decode cX2_isOfFigures 5 = .ok (.iload_n 1, 1) := by decide +kernel
theorem dX2_isOfFigures_6 : decode cX2_isOfFigures 6 = .ok (.iconst 1, 1) := by decide +kernel
theorem dX2_isOfFigures_7 : decode cX2_isOfFigures 7 = .ok (.if_icmp .ne 7, 3) := by decide +kernel
theorem dX2_isOfFigures_10 : decode cX2_isOfFigures 10 = .ok (.iconst 1, 1) := by decide +kernel
theorem dX2_isOfFigures_11 : decode cX2_isOfFigures 11 = .ok (.goto 4, 3) := by decide +kernel
theorem dX2_isOfFigures_14 : decode cX2_isOfFigures 14 = .ok (.iconst 0, 1) := by decide +kernel
theorem dX2_isOfFigures_15 : decode cX2_isOfFigures 15 = .ok (.ireturn, 1) := by decide +kernel
theorem dX2_enter_0 : decode cX2_enter 0 = .ok (.aload_n 0, 1) := by decide +kernel
theorem dX2_enter_1 : decode cX2_enter 1 = .ok (.getfield 130, 3) := by decide +kernel
theorem dX2_enter_4 : decode cX2_enter 4 = .ok (.bipush 60, 2) := by decide +kernel
theorem dX2_enter_6 : decode cX2_enter 6 = .ok (.if_icmp .lt 6, 3) := by decide +kernel
theorem dX2_enter_9 : decode cX2_enter 9 = .ok (.bipush (-3), 2) := by decide +kernel
theorem dX2_enter_11 : decode cX2_enter 11 = .ok (.ireturn, 1) := by decide +kernel
theorem dX2_enter_12 : decode cX2_enter 12 = .ok (.iload_n 3, 1) := by decide +kernel
theorem dX2_enter_13 : decode cX2_enter 13 = .ok (.ifCond .ge 6, 3) := by decide +kernel
theorem dX2_enter_16 : decode cX2_enter 16 = .ok (.bipush (-6), 2) := by decide +kernel
theorem dX2_enter_18 : decode cX2_enter 18 = .ok (.ireturn, 1) := by decide +kernel
theorem dX2_enter_19 : decode cX2_enter 19 = .ok (.new 9, 3) := by decide +kernel
theorem dX2_enter_22 : decode cX2_enter 22 = .ok (.dup, 1) := by decide +kernel
theorem dX2_enter_23 : decode cX2_enter 23 = .ok (.aload_n 0, 1) := by decide +kernel
theorem dX2_enter_24 : decode cX2_enter 24 = .ok (.getfield 130, 3) := by decide +kernel
theorem dX2_enter_27 : decode cX2_enter 27 = .ok (.iload_n 1, 1) := by decide +kernel
theorem dX2_enter_28 : decode cX2_enter 28 = .ok (.iload_n 2, 1) := by decide +kernel
theorem dX2_enter_29 : decode cX2_enter 29 = .ok (.iload_n 3, 1) := by decide +kernel
theorem dX2_enter_30 : decode cX2_enter 30 = .ok (.invokespecial 133, 3) := by decide +kernel
theorem dX2_enter_33 : decode cX2_enter 33 = .ok (.astore 5, 2) := by decide +kernel
theorem dX2_enter_35 : decode cX2_enter 35 = .ok (.aload 5, 2) := by decide +kernel
theorem dX2_enter_37 : decode cX2_enter 37 = .ok (.iload 4, 2) := by decide +kernel
theorem dX2_enter_39 : decode cX2_enter 39 = .ok (.putfield 59, 3) := by decide +kernel
theorem dX2_enter_42 : decode cX2_enter 42 = .ok (.aload_n 0, 1) := by decide +kernel
theorem dX2_enter_43 : decode cX2_enter 43 = .ok (.getfield 11, 3) := by decide +kernel
theorem dX2_enter_46 : decode cX2_enter 46 = .ok (.aload_n 0, 1) := by decide +kernel
theorem dX2_enter_47 : decode cX2_enter 47 = .ok (.getfield 130, 3) := by decide +kernel
theorem dX2_enter_50 : decode cX2_enter 50 = .ok (.aload 5, 2) := by decide +kernel
theorem dX2_enter_52 : decode cX2_enter 52 = .ok (.aastore, 1) := by decide +kernel
theorem dX2_enter_53 : decode cX2_enter 53 = .ok (.aload_n 0, 1) := by decide +kernel
theorem dX2_enter_54 : decode cX2_enter 54 = .ok (.dup, 1) := by decide +kernel
theorem dX2_enter_55 : decode cX2_enter 55 = .ok (.getfield 130, 3) := by decide +kernel
theorem dX2_enter_58 : decode cX2_enter 58 = .ok (.iconst 1, 1) := by decide +kernel
theorem dX2_enter_59 : decode cX2_enter 59 = .ok (.iadd, 1) := by decide +kernel
theorem dX2_enter_60 : decode cX2_enter 60 = .ok (.putfield 130, 3) := by decide +kernel
theorem dX2_enter_63 : decode cX2_enter 63 = .ok (.aload 5, 2) := by decide +kernel
theorem dX2_enter_65 : decode cX2_enter 65 = .ok (.getfield 135, 3) := by decide +kernel
theorem dX2_enter_68 : decode cX2_enter 68 = .ok (.ireturn, 1) := by decide +kernel
theorem dX2_messageAt_0 : decode cX2_messageAt 0 = .ok (.iload_n 1, 1) := by decide +kernel
theorem dX2_messageAt_1 : decode cX2_messageAt 1 = .ok (.ifCond .lt 18, 3) := by decide +kernel
theorem dX2_messageAt_4 : decode cX2_messageAt 4 = .ok (.iload_n 1, 1) := by decide +kernel
theorem dX2_messageAt_5 : decode cX2_messageAt 5 = .ok (.bipush 60, 2) := by decide +kernel
theorem dX2_messageAt_7 : decode cX2_messageAt 7 = .ok (.if_icmp .ge 12, 3) := by decide +kernel
theorem dX2_messageAt_10 : decode cX2_messageAt 10 = .ok (.aload_n 0, 1) := by decide +kernel
theorem dX2_messageAt_11 : decode cX2_messageAt 11 = .ok (.getfield 11, 3) := by decide +kernel
theorem dX2_messageAt_14 : decode cX2_messageAt 14 = .ok (.iload_n 1, 1) := by decide +kernel
theorem dX2_messageAt_15 : decode cX2_messageAt 15 = .ok (.aaload, 1) := by decide +kernel
theorem dX2_messageAt_16 : decode cX2_messageAt 16 = .ok (.goto 4, 3) := by decide +kernel
theorem dX2_messageAt_19 : decode cX2_messageAt 19 = .ok (.aconst_null, 1) := by decide +kernel
theorem dX2_messageAt_20 : decode cX2_messageAt 20 = .ok (.areturn, 1) := by decide +kernel
theorem dX2_counterAt_0 : decode cX2_counterAt 0 = .ok (.iload_n 1, 1) := by decide +kernel
theorem dX2_counterAt_1 : decode cX2_counterAt 1 = .ok (.ifCond .lt 18, 3) := by decide +kernel
theorem dX2_counterAt_4 : decode cX2_counterAt 4 = .ok (.iload_n 1, 1) := by decide +kernel
theorem dX2_counterAt_5 : decode cX2_counterAt 5 = .ok (.bipush 8, 2) := by decide +kernel
theorem dX2_counterAt_7 : decode cX2_counterAt 7 = .ok (.if_icmp .ge 12, 3) := by decide +kernel
theorem dX2_counterAt_10 : decode cX2_counterAt 10 = .ok (.aload_n 0, 1) := by decide +kernel
theorem dX2_counterAt_11 : decode cX2_counterAt 11 = .ok (.getfield 17, 3) := by decide +kernel
theorem dX2_counterAt_14 : decode cX2_counterAt 14 = .ok (.iload_n 1, 1) := by decide +kernel
theorem dX2_counterAt_15 : decode cX2_counterAt 15 = .ok (.aaload, 1) := by decide +kernel
theorem dX2_counterAt_16 : decode cX2_counterAt 16 = .ok (.goto 4, 3) := by decide +kernel
theorem dX2_counterAt_19 : decode cX2_counterAt 19 = .ok (.aconst_null, 1) := by decide +kernel
theorem dX2_counterAt_20 : decode cX2_counterAt 20 = .ok (.areturn, 1) := by decide +kernel
theorem dX2_carry_0 : decode cX2_carry 0 = .ok (.iload_n 2, 1) := by decide +kernel
theorem dX2_carry_1 : decode cX2_carry 1 = .ok (.istore_n 3, 1) := by decide +kernel
theorem dX2_carry_2 : decode cX2_carry 2 = .ok (.iload_n 3, 1) := by decide +kernel
theorem dX2_carry_3 : decode cX2_carry 3 = .ok (.bipush 8, 2) := by decide +kernel
theorem dX2_carry_5 : decode cX2_carry 5 = .ok (.if_icmp .ge 79, 3) := by decide +kernel
theorem dX2_carry_8 : decode cX2_carry 8 = .ok (.aload_n 0, 1) := by decide +kernel
theorem dX2_carry_9 : decode cX2_carry 9 = .ok (.iload_n 3, 1) := by decide +kernel
theorem dX2_carry_10 : decode cX2_carry 10 = .ok (.invokevirtual 82, 3) := by decide +kernel
theorem dX2_carry_13 : decode cX2_carry 13 = .ok (.astore 4, 2) := by decide +kernel
theorem dX2_carry_15 : decode cX2_carry 15 = .ok (.aload 4, 2) := by decide +kernel
theorem dX2_carry_17 : decode cX2_carry 17 = .ok (.ifnull 61, 3) := by decide +kernel
theorem dX2_carry_20 : decode cX2_carry 20 = .ok (.aload 4, 2) := by decide +kernel
theorem dX2_carry_22 : decode cX2_carry 22 = .ok (.aload_n 1, 1) := by decide +kernel
theorem dX2_carry_23 : decode cX2_carry 23 = .ok (.invokevirtual 136, 3) := by decide +kernel
theorem dX2_carry_26 : decode cX2_carry 26 = .ok (.ifCond .ne 6, 3) := by decide +kernel
theorem dX2_carry_29 : decode cX2_carry 29 = .ok (.goto 49, 3) := by decide +kernel
theorem dX2_carry_32 : decode cX2_carry 32 = .ok (.aload_n 0, 1) := by decide +kernel
theorem dX2_carry_33 : decode cX2_carry 33 = .ok (.aload 4, 2) := by decide +kernel
theorem dX2_carry_35 : decode cX2_carry 35 = .ok (.aload_n 1, 1) := by decide +kernel
theorem dX2_carry_36 : decode cX2_carry 36 = .ok (.invokevirtual 139, 3) := by decide +kernel
theorem dX2_carry_39 : decode cX2_carry 39 = .ok (.istore 5, 2) := by decide +kernel
theorem dX2_carry_41 : decode cX2_carry 41 = .ok (.iload 5, 2) := by decide +kernel
theorem dX2_carry_43 : decode cX2_carry 43 = .ok (.ifCond .ne 15, 3) := by decide +kernel
theorem dX2_carry_46 : decode cX2_carry 46 = .ok (.aload_n 0, 1) := by decide +kernel
theorem dX2_carry_47 : decode cX2_carry 47 = .ok (.dup, 1) := by decide +kernel
theorem dX2_carry_48 : decode cX2_carry 48 = .ok (.getfield 111, 3) := by decide +kernel
theorem dX2_carry_51 : decode cX2_carry 51 = .ok (.iconst 1, 1) := by decide +kernel
theorem dX2_carry_52 : decode cX2_carry 52 = .ok (.iadd, 1) := by decide +kernel
theorem dX2_carry_53 : decode cX2_carry 53 = .ok (.putfield 111, 3) := by decide +kernel
theorem dX2_carry_56 : decode cX2_carry 56 = .ok (.iload_n 3, 1) := by decide +kernel
theorem dX2_carry_57 : decode cX2_carry 57 = .ok (.ireturn, 1) := by decide +kernel
theorem dX2_carry_58 : decode cX2_carry 58 = .ok (.iload 5, 2) := by decide +kernel
theorem dX2_carry_60 : decode cX2_carry 60 = .ok (.iconst 5, 1) := by decide +kernel
theorem dX2_carry_61 : decode cX2_carry 61 = .ok (.if_icmp .eq 11, 3) := by decide +kernel
theorem dX2_carry_64 : decode cX2_carry 64 = .ok (.aload 4, 2) := by decide +kernel
theorem dX2_carry_66 : decode cX2_carry 66 = .ok (.getfield 98, 3) := by decide +kernel
theorem dX2_carry_69 : decode cX2_carry 69 = .ok (.ifCond .ne 9, 3) := by decide +kernel
theorem dX2_carry_72 : decode cX2_carry 72 = .ok (.bipush (-10), 2) := by decide +kernel
theorem dX2_carry_74 : decode cX2_carry 74 = .ok (.iload 5, 2) := by decide +kernel
theorem dX2_carry_76 : decode cX2_carry 76 = .ok (.isub, 1) := by decide +kernel
theorem dX2_carry_77 : decode cX2_carry 77 = .ok (.ireturn, 1) := by decide +kernel
theorem dX2_carry_78 : decode cX2_carry 78 = .ok (.iinc 3 1, 3) := by decide +kernel
theorem dX2_carry_81 : decode cX2_carry 81 = .ok (.goto (-79), 3) := by decide +kernel
theorem dX2_carry_84 : decode cX2_carry 84 = .ok (.aload_n 0, 1) := by decide +kernel
theorem dX2_carry_85 : decode cX2_carry 85 = .ok (.dup, 1) := by decide +kernel
theorem dX2_carry_86 : decode cX2_carry 86 = .ok (.getfield 114, 3) := by decide +kernel
theorem dX2_carry_89 : decode cX2_carry 89 = .ok (.iconst 1, 1) := by decide +kernel
theorem dX2_carry_90 : decode cX2_carry 90 = .ok (.iadd, 1) := by decide +kernel
theorem dX2_carry_91 : decode cX2_carry 91 = .ok (.putfield 114, 3) := by decide +kernel
theorem dX2_carry_94 : decode cX2_carry 94 = .ok (.bipush (-4), 2) := by decide +kernel
theorem dX2_carry_96 : decode cX2_carry 96 = .ok (.ireturn, 1) := by decide +kernel
theorem dX2_meet_0 : decode cX2_meet 0 = .ok (.aload_n 0, 1) := by decide +kernel
theorem dX2_meet_1 : decode cX2_meet 1 = .ok (.getfield 108, 3) := by decide +kernel
theorem dX2_meet_4 : decode cX2_meet 4 = .ok (.bipush 16, 2) := by decide +kernel
theorem dX2_meet_6 : decode cX2_meet 6 = .ok (.if_icmp .lt 5, 3) := by decide +kernel
theorem dX2_meet_9 : decode cX2_meet 9 = .ok (.iconst 5, 1) := by decide +kernel
theorem dX2_meet_10 : decode cX2_meet 10 = .ok (.ireturn, 1) := by decide +kernel
theorem dX2_meet_11 : decode cX2_meet 11 = .ok (.aload_n 0, 1) := by decide +kernel
theorem dX2_meet_12 : decode cX2_meet 12 = .ok (.dup, 1) := by decide +kernel
theorem dX2_meet_13 : decode cX2_meet 13 = .ok (.getfield 108, 3) := by decide +kernel
theorem dX2_meet_16 : decode cX2_meet 16 = .ok (.iconst 1, 1) := by decide +kernel
theorem dX2_meet_17 : decode cX2_meet 17 = .ok (.iadd, 1) := by decide +kernel
theorem dX2_meet_18 : decode cX2_meet 18 = .ok (.putfield 108, 3) := by decide +kernel
theorem dX2_meet_21 : decode cX2_meet 21 = .ok (.aload_n 1, 1) := by decide +kernel
theorem dX2_meet_22 : decode cX2_meet 22 = .ok (.aload_n 2, 1) := by decide +kernel
theorem dX2_meet_23 : decode cX2_meet 23 = .ok (.invokevirtual 143, 3) := by decide +kernel
theorem dX2_meet_26 : decode cX2_meet 26 = .ok (.ifCond .eq 12, 3) := by decide +kernel
theorem dX2_meet_29 : decode cX2_meet 29 = .ok (.aload_n 0, 1) := by decide +kernel
theorem dX2_meet_30 : decode cX2_meet 30 = .ok (.aload_n 1, 1) := by decide +kernel
theorem dX2_meet_31 : decode cX2_meet 31 = .ok (.aload_n 2, 1) := by decide +kernel
theorem dX2_meet_32 : decode cX2_meet 32 = .ok (.invokevirtual 146, 3) := by decide +kernel
theorem dX2_meet_35 : decode cX2_meet 35 = .ok (.goto 4, 3) := by decide +kernel
theorem dX2_meet_38 : decode cX2_meet 38 = .ok (.iconst 1, 1) := by decide +kernel
theorem dX2_meet_39 : decode cX2_meet 39 = .ok (.istore_n 3, 1) := by decide +kernel
theorem dX2_meet_40 : decode cX2_meet 40 = .ok (.aload_n 1, 1) := by decide +kernel
theorem dX2_meet_41 : decode cX2_meet 41 = .ok (.dup, 1) := by decide +kernel
theorem dX2_meet_42 : decode cX2_meet 42 = .ok (.getfield 124, 3) := by decide +kernel
theorem dX2_meet_45 : decode cX2_meet 45 = .ok (.iconst 1, 1) := by decide +kernel
theorem dX2_meet_46 : decode cX2_meet 46 = .ok (.iadd, 1) := by decide +kernel
theorem dX2_meet_47 : decode cX2_meet 47 = .ok (.putfield 124, 3) := by decide +kernel
theorem dX2_meet_50 : decode cX2_meet 50 = .ok (.iload_n 3, 1) := by decide +kernel
theorem dX2_meet_51 : decode cX2_meet 51 = .ok (.ifCond .eq 8, 3) := by decide +kernel
theorem dX2_meet_54 : decode cX2_meet 54 = .ok (.aload_n 0, 1) := by decide +kernel
theorem dX2_meet_55 : decode cX2_meet 55 = .ok (.aload_n 1, 1) := by decide +kernel
theorem dX2_meet_56 : decode cX2_meet 56 = .ok (.invokevirtual 149, 3) := by decide +kernel
theorem dX2_meet_59 : decode cX2_meet 59 = .ok (.iload_n 3, 1) := by decide +kernel
theorem dX2_meet_60 : decode cX2_meet 60 = .ok (.ireturn, 1) := by decide +kernel
theorem dX2_noteFall_0 : decode cX2_noteFall 0 = .ok (.aload_n 1, 1) := by decide +kernel
theorem dX2_noteFall_1 : decode cX2_noteFall 1 = .ok (.dup, 1) := by decide +kernel
theorem dX2_noteFall_2 : decode cX2_noteFall 2 = .ok (.getfield 127, 3) := by decide +kernel
theorem dX2_noteFall_5 : decode cX2_noteFall 5 = .ok (.iconst 1, 1) := by decide +kernel
theorem dX2_noteFall_6 : decode cX2_noteFall 6 = .ok (.iadd, 1) := by decide +kernel
theorem dX2_noteFall_7 : decode cX2_noteFall 7 = .ok (.putfield 127, 3) := by decide +kernel
theorem dX2_noteFall_10 : decode cX2_noteFall 10 = .ok (.aload_n 1, 1) := by decide +kernel
theorem dX2_noteFall_11 : decode cX2_noteFall 11 = .ok (.getfield 127, 3) := by decide +kernel
theorem dX2_noteFall_14 : decode cX2_noteFall 14 = .ok (.iconst 3, 1) := by decide +kernel
theorem dX2_noteFall_15 : decode cX2_noteFall 15 = .ok (.irem, 1) := by decide +kernel
theorem dX2_noteFall_16 : decode cX2_noteFall 16 = .ok (.ifCond .ne 8, 3) := by decide +kernel
theorem dX2_noteFall_19 : decode cX2_noteFall 19 = .ok (.aload_n 1, 1) := by decide +kernel
theorem dX2_noteFall_20 : decode cX2_noteFall 20 = .ok (.iconst 1, 1) := by decide +kernel
theorem dX2_noteFall_21 : decode cX2_noteFall 21 = .ok (.putfield 102, 3) := by decide +kernel
theorem dX2_noteFall_24 : decode cX2_noteFall 24 = .ok (.aload_n 0, 1) := by decide +kernel
theorem dX2_noteFall_25 : decode cX2_noteFall 25 = .ok (.dup, 1) := by decide +kernel
theorem dX2_noteFall_26 : decode cX2_noteFall 26 = .ok (.getfield 117, 3) := by decide +kernel
theorem dX2_noteFall_29 : decode cX2_noteFall 29 = .ok (.iconst 1, 1) := by decide +kernel
theorem dX2_noteFall_30 : decode cX2_noteFall 30 = .ok (.iadd, 1) := by decide +kernel
theorem dX2_noteFall_31 : decode cX2_noteFall 31 = .ok (.putfield 117, 3) := by decide +kernel
theorem dX2_noteFall_34 : decode cX2_noteFall 34 = .ok (.aload_n 0, 1) := by decide +kernel
theorem dX2_noteFall_35 : decode cX2_noteFall 35 = .ok (.getfield 21, 3) := by decide +kernel
theorem dX2_noteFall_38 : decode cX2_noteFall 38 = .ok (.iconst (-1), 1) := by decide +kernel
theorem dX2_noteFall_39 : decode cX2_noteFall 39 = .ok (.if_icmp .ne 11, 3) := by decide +kernel
theorem dX2_noteFall_42 : decode cX2_noteFall 42 = .ok (.aload_n 0, 1) := by decide +kernel
theorem dX2_noteFall_43 : decode cX2_noteFall 43 = .ok (.aload_n 1, 1) := by decide +kernel
theorem dX2_noteFall_44 : decode cX2_noteFall 44 = .ok (.getfield 153, 3) := by decide +kernel
theorem dX2_noteFall_47 : decode cX2_noteFall 47 = .ok (.putfield 21, 3) := by decide +kernel
theorem dX2_noteFall_50 : decode cX2_noteFall 50 = .ok (.return_, 1) := by decide +kernel
theorem dX2_work_0 : decode cX2_work 0 = .ok (.aload_n 1, 1) := by decide +kernel
theorem dX2_work_1 : decode cX2_work 1 = .ok (.getfield 89, 3) := by decide +kernel
theorem dX2_work_4 : decode cX2_work 4 = .ok (.tableswitch 78 0 4 #[36, 51, 57, 64, 71], 36) := by decide +kernel
theorem dX2_work_40 : decode cX2_work 40 = .ok (.aload_n 1, 1) := by decide +kernel
theorem dX2_work_41 : decode cX2_work 41 = .ok (.dup, 1) := by decide +kernel
theorem dX2_work_42 : decode cX2_work 42 = .ok (.getfield 92, 3) := by decide +kernel
theorem dX2_work_45 : decode cX2_work 45 = .ok (.aload_n 2, 1) := by decide +kernel
theorem dX2_work_46 : decode cX2_work 46 = .ok (.invokevirtual 156, 3) := by decide +kernel
theorem dX2_work_49 : decode cX2_work 49 = .ok (.iadd, 1) := by decide +kernel
theorem dX2_work_50 : decode cX2_work 50 = .ok (.putfield 92, 3) := by decide +kernel
theorem dX2_work_53 : decode cX2_work 53 = .ok (.iconst 0, 1) := by decide +kernel
theorem dX2_work_54 : decode cX2_work 54 = .ok (.ireturn, 1) := by decide +kernel
theorem dX2_work_55 : decode cX2_work 55 = .ok (.aload_n 1, 1) := by decide +kernel
theorem dX2_work_56 : decode cX2_work 56 = .ok (.aload_n 2, 1) := by decide +kernel
theorem dX2_work_57 : decode cX2_work 57 = .ok (.invokestatic 160, 3) := by decide +kernel
theorem dX2_work_60 : decode cX2_work 60 = .ok (.ireturn, 1) := by decide +kernel
theorem dX2_work_61 : decode cX2_work 61 = .ok (.aload_n 0, 1) := by decide +kernel
theorem dX2_work_62 : decode cX2_work 62 = .ok (.aload_n 1, 1) := by decide +kernel
theorem dX2_work_63 : decode cX2_work 63 = .ok (.aload_n 2, 1) := by decide +kernel
theorem dX2_work_64 : decode cX2_work 64 = .ok (.invokevirtual 163, 3) := by decide +kernel
theorem dX2_work_67 : decode cX2_work 67 = .ok (.ireturn, 1) := by decide +kernel
theorem dX2_work_68 : decode cX2_work 68 = .ok (.aload_n 0, 1) := by decide +kernel
theorem dX2_work_69 : decode cX2_work 69 = .ok (.aload_n 1, 1) := by decide +kernel
theorem dX2_work_70 : decode cX2_work 70 = .ok (.aload_n 2, 1) := by decide +kernel
theorem dX2_work_71 : decode cX2_work 71 = .ok (.invokevirtual 166, 3) := by decide +kernel
theorem dX2_work_74 : decode cX2_work 74 = .ok (.ireturn, 1) := by decide +kernel
theorem dX2_work_75 : decode cX2_work 75 = .ok (.aload_n 0, 1) := by decide +kernel
theorem dX2_work_76 : decode cX2_work 76 = .ok (.aload_n 1, 1) := by decide +kernel
theorem dX2_work_77 : decode cX2_work 77 = .ok (.aload_n 2, 1) := by decide +kernel
theorem dX2_work_78 : decode cX2_work 78 = .ok (.invokevirtual 169, 3) := by decide +kernel
theorem dX2_work_81 : decode cX2_work 81 = .ok (.ireturn, 1) := by decide +kernel
theorem dX2_work_82 : decode cX2_work 82 = .ok (.aload_n 1, 1) := by decide +kernel
theorem dX2_work_83 : decode cX2_work 83 = .ok (.aload_n 2, 1) := by decide +kernel
theorem dX2_work_84 : decode cX2_work 84 = .ok (.getfield 135, 3) := by decide +kernel
theorem dX2_work_87 : decode cX2_work 87 = .ok (.putfield 95, 3) := by decide +kernel
theorem dX2_work_90 : decode cX2_work 90 = .ok (.iconst 0, 1) := by decide +kernel
theorem dX2_work_91 : decode cX2_work 91 = .ok (.ireturn, 1) := by decide +kernel
theorem dX2_mark_0 : decode cX2_mark 0 = .ok (.aload_n 1, 1) := by decide +kernel
theorem dX2_mark_1 : decode cX2_mark 1 = .ok (.getfield 56, 3) := by decide +kernel
theorem dX2_mark_4 : decode cX2_mark 4 = .ok (.ifCond .ne 14, 3) := by decide +kernel
theorem dX2_mark_7 : decode cX2_mark 7 = .ok (.aload_n 1, 1) := by decide +kernel
theorem dX2_mark_8 : decode cX2_mark 8 = .ok (.aload_n 0, 1) := by decide +kernel
theorem dX2_mark_9 : decode cX2_mark 9 = .ok (.aload_n 1, 1) := by decide +kernel
theorem dX2_mark_10 : decode cX2_mark 10 = .ok (.invokestatic 172, 3) := by decide +kernel
theorem dX2_mark_13 : decode cX2_mark 13 = .ok (.putfield 59, 3) := by decide +kernel
theorem dX2_mark_16 : decode cX2_mark 16 = .ok (.iconst 0, 1) := by decide +kernel
theorem dX2_mark_17 : decode cX2_mark 17 = .ok (.ireturn, 1) := by decide +kernel
theorem dX2_mark_18 : decode cX2_mark 18 = .ok (.aload_n 1, 1) := by decide +kernel
theorem dX2_mark_19 : decode cX2_mark 19 = .ok (.getfield 175, 3) := by decide +kernel
theorem dX2_mark_22 : decode cX2_mark 22 = .ok (.ifCond .eq 17, 3) := by decide +kernel
theorem dX2_mark_25 : decode cX2_mark 25 = .ok (.aload_n 1, 1) := by decide +kernel
theorem dX2_mark_26 : decode cX2_mark 26 = .ok (.aload_n 1, 1) := by decide +kernel
theorem dX2_mark_27 : decode cX2_mark 27 = .ok (.aload_n 0, 1) := by decide +kernel
theorem dX2_mark_28 : decode cX2_mark 28 = .ok (.getfield 92, 3) := by decide +kernel
theorem dX2_mark_31 : decode cX2_mark 31 = .ok (.invokevirtual 52, 3) := by decide +kernel
theorem dX2_mark_34 : decode cX2_mark 34 = .ok (.invokevirtual 178, 3) := by decide +kernel
theorem dX2_mark_37 : decode cX2_mark 37 = .ok (.iconst 0, 1) := by decide +kernel
theorem dX2_mark_38 : decode cX2_mark 38 = .ok (.ireturn, 1) := by decide +kernel
theorem dX2_mark_39 : decode cX2_mark 39 = .ok (.aload_n 1, 1) := by decide +kernel
theorem dX2_mark_40 : decode cX2_mark 40 = .ok (.iconst 0, 1) := by decide +kernel
theorem dX2_mark_41 : decode cX2_mark 41 = .ok (.invokevirtual 37, 3) := by decide +kernel
theorem dX2_mark_44 : decode cX2_mark 44 = .ok (.ifCond .ne 5, 3) := by decide +kernel
theorem dX2_mark_47 : decode cX2_mark 47 = .ok (.iconst 2, 1) := by decide +kernel
theorem dX2_mark_48 : decode cX2_mark 48 = .ok (.ireturn, 1) := by decide +kernel
theorem dX2_mark_49 : decode cX2_mark 49 = .ok (.aload_n 1, 1) := by decide +kernel
theorem dX2_mark_50 : decode cX2_mark 50 = .ok (.getfield 45, 3) := by decide +kernel
theorem dX2_mark_53 : decode cX2_mark 53 = .ok (.iconst 0, 1) := by decide +kernel
theorem dX2_mark_54 : decode cX2_mark 54 = .ok (.iconst (-1), 1) := by decide +kernel
theorem dX2_mark_55 : decode cX2_mark 55 = .ok (.iastore, 1) := by decide +kernel
theorem dX2_mark_56 : decode cX2_mark 56 = .ok (.iconst 0, 1) := by decide +kernel
theorem dX2_mark_57 : decode cX2_mark 57 = .ok (.ireturn, 1) := by decide +kernel
theorem dX2_markedStamp_0 : decode cX2_markedStamp 0 = .ok (.aload_n 0, 1) := by decide +kernel
theorem dX2_markedStamp_1 : decode cX2_markedStamp 1 = .ok (.getfield 181, 3) := by decide +kernel
theorem dX2_markedStamp_4 : decode cX2_markedStamp 4 = .ok (.iconst 3, 1) := by decide +kernel
theorem dX2_markedStamp_5 : decode cX2_markedStamp 5 = .ok (.if_icmp .ne 13, 3) := by decide +kernel
theorem dX2_markedStamp_8 : decode cX2_markedStamp 8 = .ok (.aload_n 1, 1) := by decide +kernel
theorem dX2_markedStamp_9 : decode cX2_markedStamp 9 = .ok (.getfield 59, 3) := by decide +kernel
theorem dX2_markedStamp_12 : decode cX2_markedStamp 12 = .ok (.aload_n 0, 1) := by decide +kernel
theorem dX2_markedStamp_13 : decode cX2_markedStamp 13 = .ok (.getfield 92, 3) := by decide +kernel
theorem dX2_markedStamp_16 : decode cX2_markedStamp 16 = .ok (.isub, 1) := by decide +kernel
theorem dX2_markedStamp_17 : decode cX2_markedStamp 17 = .ok (.ireturn, 1) := by decide +kernel
theorem dX2_markedStamp_18 : decode cX2_markedStamp 18 = .ok (.aload_n 1, 1) := by decide +kernel
theorem dX2_markedStamp_19 : decode cX2_markedStamp 19 = .ok (.getfield 69, 3) := by decide +kernel
theorem dX2_markedStamp_22 : decode cX2_markedStamp 22 = .ok (.iconst 1, 1) := by decide +kernel
theorem dX2_markedStamp_23 : decode cX2_markedStamp 23 = .ok (.if_icmp .ne 12, 3) := by decide +kernel
theorem dX2_markedStamp_26 : decode cX2_markedStamp 26 = .ok (.iconst 2, 1) := by decide +kernel
theorem dX2_markedStamp_27 : decode cX2_markedStamp 27 = .ok (.aload_n 0, 1) := by decide +kernel
theorem dX2_markedStamp_28 : decode cX2_markedStamp 28 = .ok (.getfield 92, 3) := by decide +kernel
theorem dX2_markedStamp_31 : decode cX2_markedStamp 31 = .ok (.imul, 1) := by decide +kernel
theorem dX2_markedStamp_32 : decode cX2_markedStamp 32 = .ok (.goto 7, 3) := by decide +kernel
theorem dX2_markedStamp_35 : decode cX2_markedStamp 35 = .ok (.aload_n 0, 1) := by decide +kernel
theorem dX2_markedStamp_36 : decode cX2_markedStamp 36 = .ok (.getfield 92, 3) := by decide +kernel
theorem dX2_markedStamp_39 : decode cX2_markedStamp 39 = .ok (.ireturn, 1) := by decide +kernel
theorem dX2_lay_0 : decode cX2_lay 0 = .ok (.aload_n 0, 1) := by decide +kernel
theorem dX2_lay_1 : decode cX2_lay 1 = .ok (.aload_n 1, 1) := by decide +kernel
theorem dX2_lay_2 : decode cX2_lay 2 = .ok (.getfield 95, 3) := by decide +kernel
theorem dX2_lay_5 : decode cX2_lay 5 = .ok (.invokevirtual 33, 3) := by decide +kernel
theorem dX2_lay_8 : decode cX2_lay 8 = .ok (.astore_n 3, 1) := by decide +kernel
theorem dX2_lay_9 : decode cX2_lay 9 = .ok (.aload_n 3, 1) := by decide +kernel
theorem dX2_lay_10 : decode cX2_lay 10 = .ok (.ifnull 22, 3) := by decide +kernel
theorem dX2_lay_13 : decode cX2_lay 13 = .ok (.aload_n 3, 1) := by decide +kernel
theorem dX2_lay_14 : decode cX2_lay 14 = .ok (.aload_n 1, 1) := by decide +kernel
theorem dX2_lay_15 : decode cX2_lay 15 = .ok (.getfield 181, 3) := by decide +kernel
theorem dX2_lay_18 : decode cX2_lay 18 = .ok (.aload_n 1, 1) := by decide +kernel
theorem dX2_lay_19 : decode cX2_lay 19 = .ok (.getfield 184, 3) := by decide +kernel
theorem dX2_lay_22 : decode cX2_lay 22 = .ok (.iconst 1, 1) := by decide +kernel
theorem dX2_lay_23 : decode cX2_lay 23 = .ok (.isub, 1) := by decide +kernel
theorem dX2_lay_24 : decode cX2_lay 24 = .ok (.invokevirtual 62, 3) := by decide +kernel
theorem dX2_lay_27 : decode cX2_lay 27 = .ok (.ifCond .ne 5, 3) := by decide +kernel
theorem dX2_lay_30 : decode cX2_lay 30 = .ok (.iconst 1, 1) := by decide +kernel
theorem dX2_lay_31 : decode cX2_lay 31 = .ok (.ireturn, 1) := by decide +kernel
theorem dX2_lay_32 : decode cX2_lay 32 = .ok (.aload_n 2, 1) := by decide +kernel
theorem dX2_lay_33 : decode cX2_lay 33 = .ok (.aload_n 1, 1) := by decide +kernel
theorem dX2_lay_34 : decode cX2_lay 34 = .ok (.getfield 92, 3) := by decide +kernel
theorem dX2_lay_37 : decode cX2_lay 37 = .ok (.invokevirtual 37, 3) := by decide +kernel
theorem dX2_lay_40 : decode cX2_lay 40 = .ok (.ifCond .ne 5, 3) := by decide +kernel
theorem dX2_lay_43 : decode cX2_lay 43 = .ok (.iconst 2, 1) := by decide +kernel
theorem dX2_lay_44 : decode cX2_lay 44 = .ok (.ireturn, 1) := by decide +kernel
theorem dX2_lay_45 : decode cX2_lay 45 = .ok (.aload_n 2, 1) := by decide +kernel
theorem dX2_lay_46 : decode cX2_lay 46 = .ok (.aload_n 3, 1) := by decide +kernel
theorem dX2_lay_47 : decode cX2_lay 47 = .ok (.invokevirtual 41, 3) := by decide +kernel
theorem dX2_lay_50 : decode cX2_lay 50 = .ok (.ifCond .ne 5, 3) := by decide +kernel
theorem dX2_lay_53 : decode cX2_lay 53 = .ok (.iconst 3, 1) := by decide +kernel
theorem dX2_lay_54 : decode cX2_lay 54 = .ok (.ireturn, 1) := by decide +kernel
theorem dX2_lay_55 : decode cX2_lay 55 = .ok (.aload_n 2, 1) := by decide +kernel
theorem dX2_lay_56 : decode cX2_lay 56 = .ok (.getfield 45, 3) := by decide +kernel
theorem dX2_lay_59 : decode cX2_lay 59 = .ok (.aload_n 1, 1) := by decide +kernel
theorem dX2_lay_60 : decode cX2_lay 60 = .ok (.getfield 92, 3) := by decide +kernel
theorem dX2_lay_63 : decode cX2_lay 63 = .ok (.aload_n 1, 1) := by decide +kernel
theorem dX2_lay_64 : decode cX2_lay 64 = .ok (.getfield 95, 3) := by decide +kernel
theorem dX2_lay_67 : decode cX2_lay 67 = .ok (.iastore, 1) := by decide +kernel
theorem dX2_lay_68 : decode cX2_lay 68 = .ok (.iconst 0, 1) := by decide +kernel
theorem dX2_lay_69 : decode cX2_lay 69 = .ok (.ireturn, 1) := by decide +kernel
theorem dX2_open_0 : decode cX2_open 0 = .ok (.aload_n 2, 1) := by decide +kernel
theorem dX2_open_1 : decode cX2_open 1 = .ok (.aload_n 1, 1) := by decide +kernel
theorem dX2_open_2 : decode cX2_open 2 = .ok (.getfield 92, 3) := by decide +kernel
theorem dX2_open_5 : decode cX2_open 5 = .ok (.invokevirtual 37, 3) := by decide +kernel
theorem dX2_open_8 : decode cX2_open 8 = .ok (.ifCond .ne 5, 3) := by decide +kernel
theorem dX2_open_11 : decode cX2_open 11 = .ok (.iconst 2, 1) := by decide +kernel
theorem dX2_open_12 : decode cX2_open 12 = .ok (.ireturn, 1) := by decide +kernel
theorem dX2_open_13 : decode cX2_open 13 = .ok (.aload_n 0, 1) := by decide +kernel
theorem dX2_open_14 : decode cX2_open 14 = .ok (.aload_n 2, 1) := by decide +kernel
theorem dX2_open_15 : decode cX2_open 15 = .ok (.getfield 45, 3) := by decide +kernel
theorem dX2_open_18 : decode cX2_open 18 = .ok (.aload_n 1, 1) := by decide +kernel
theorem dX2_open_19 : decode cX2_open 19 = .ok (.getfield 92, 3) := by decide +kernel
theorem dX2_open_22 : decode cX2_open 22 = .ok (.iaload, 1) := by decide +kernel
theorem dX2_open_23 : decode cX2_open 23 = .ok (.invokevirtual 33, 3) := by decide +kernel
theorem dX2_open_26 : decode cX2_open 26 = .ok (.astore_n 3, 1) := by decide +kernel
theorem dX2_open_27 : decode cX2_open 27 = .ok (.aload_n 3, 1) := by decide +kernel
theorem dX2_open_28 : decode cX2_open 28 = .ok (.ifnonnull 5, 3) := by decide +kernel
theorem dX2_open_31 : decode cX2_open 31 = .ok (.iconst 4, 1) := by decide +kernel
theorem dX2_open_32 : decode cX2_open 32 = .ok (.ireturn, 1) := by decide +kernel
theorem dX2_open_33 : decode cX2_open 33 = .ok (.aload_n 0, 1) := by decide +kernel
theorem dX2_open_34 : decode cX2_open 34 = .ok (.aload_n 3, 1) := by decide +kernel
theorem dX2_open_35 : decode cX2_open 35 = .ok (.aload_n 1, 1) := by decide +kernel
theorem dX2_open_36 : decode cX2_open 36 = .ok (.getfield 153, 3) := by decide +kernel
theorem dX2_open_39 : decode cX2_open 39 = .ok (.iconst 1, 1) := by decide +kernel
theorem dX2_open_40 : decode cX2_open 40 = .ok (.iadd, 1) := by decide +kernel
theorem dX2_open_41 : decode cX2_open 41 = .ok (.invokevirtual 120, 3) := by decide +kernel
theorem dX2_open_44 : decode cX2_open 44 = .ok (.invokestatic 187, 3) := by decide +kernel
theorem dX2_open_47 : decode cX2_open 47 = .ok (.ireturn, 1) := by decide +kernel
theorem dX2_spread_0 : decode cX2_spread 0 = .ok (.iconst 0, 1) := by decide +kernel
theorem dX2_spread_1 : decode cX2_spread 1 = .ok (.istore_n 3, 1) := by decide +kernel
theorem dX2_spread_2 : decode cX2_spread 2 = .ok (.iload_n 3, 1) := by decide +kernel
theorem dX2_spread_3 : decode cX2_spread 3 = .ok (.aload_n 2, 1) := by decide +kernel
theorem dX2_spread_4 : decode cX2_spread 4 = .ok (.getfield 45, 3) := by decide +kernel
theorem dX2_spread_7 : decode cX2_spread 7 = .ok (.arraylength, 1) := by decide +kernel
theorem dX2_spread_8 : decode cX2_spread 8 = .ok (.if_icmp .ge 54, 3) := by decide +kernel
theorem dX2_spread_11 : decode cX2_spread 11 = .ok (.aload_n 0, 1) := by decide +kernel
theorem dX2_spread_12 : decode cX2_spread 12 = .ok (.aload_n 2, 1) := by decide +kernel
theorem dX2_spread_13 : decode cX2_spread 13 = .ok (.getfield 45, 3) := by decide +kernel
theorem dX2_spread_16 : decode cX2_spread 16 = .ok (.iload_n 3, 1) := by decide +kernel
theorem dX2_spread_17 : decode cX2_spread 17 = .ok (.iaload, 1) := by decide +kernel
theorem dX2_spread_18 : decode cX2_spread 18 = .ok (.invokevirtual 33, 3) := by decide +kernel
theorem dX2_spread_21 : decode cX2_spread 21 = .ok (.astore 4, 2) := by decide +kernel
theorem dX2_spread_23 : decode cX2_spread 23 = .ok (.aload 4, 2) := by decide +kernel
theorem dX2_spread_25 : decode cX2_spread 25 = .ok (.ifnonnull 6, 3) := by decide +kernel
theorem dX2_spread_28 : decode cX2_spread 28 = .ok (.goto 28, 3) := by decide +kernel
theorem dX2_spread_31 : decode cX2_spread 31 = .ok (.aload_n 0, 1) := by decide +kernel
theorem dX2_spread_32 : decode cX2_spread 32 = .ok (.aload 4, 2) := by decide +kernel
theorem dX2_spread_34 : decode cX2_spread 34 = .ok (.aload_n 1, 1) := by decide +kernel
theorem dX2_spread_35 : decode cX2_spread 35 = .ok (.getfield 153, 3) := by decide +kernel
theorem dX2_spread_38 : decode cX2_spread 38 = .ok (.iconst 1, 1) := by decide +kernel
theorem dX2_spread_39 : decode cX2_spread 39 = .ok (.iadd, 1) := by decide +kernel
theorem dX2_spread_40 : decode cX2_spread 40 = .ok (.invokevirtual 120, 3) := by decide +kernel
theorem dX2_spread_43 : decode cX2_spread 43 = .ok (.invokestatic 187, 3) := by decide +kernel
theorem dX2_spread_46 : decode cX2_spread 46 = .ok (.istore 5, 2) := by decide +kernel
theorem dX2_spread_48 : decode cX2_spread 48 = .ok (.iload 5, 2) := by decide +kernel
theorem dX2_spread_50 : decode cX2_spread 50 = .ok (.ifCond .eq 6, 3) := by decide +kernel
theorem dX2_spread_53 : decode cX2_spread 53 = .ok (.iload 5, 2) := by decide +kernel
theorem dX2_spread_55 : decode cX2_spread 55 = .ok (.ireturn, 1) := by decide +kernel
theorem dX2_spread_56 : decode cX2_spread 56 = .ok (.iinc 3 1, 3) := by decide +kernel
theorem dX2_spread_59 : decode cX2_spread 59 = .ok (.goto (-57), 3) := by decide +kernel
theorem dX2_spread_62 : decode cX2_spread 62 = .ok (.iconst 0, 1) := by decide +kernel
theorem dX2_spread_63 : decode cX2_spread 63 = .ok (.ireturn, 1) := by decide +kernel
theorem dX2_failureOf_0 : decode cX2_failureOf 0 = .ok (.iload_n 0, 1) := by decide +kernel
theorem dX2_failureOf_1 : decode cX2_failureOf 1 = .ok (.bipush (-10), 2) := by decide +kernel
theorem dX2_failureOf_3 : decode cX2_failureOf 3 = .ok (.if_icmp .ge 10, 3) := by decide +kernel
theorem dX2_failureOf_6 : decode cX2_failureOf 6 = .ok (.bipush (-10), 2) := by decide +kernel
theorem dX2_failureOf_8 : decode cX2_failureOf 8 = .ok (.iload_n 0, 1) := by decide +kernel
theorem dX2_failureOf_9 : decode cX2_failureOf 9 = .ok (.isub, 1) := by decide +kernel
theorem dX2_failureOf_10 : decode cX2_failureOf 10 = .ok (.goto 4, 3) := by decide +kernel
theorem dX2_failureOf_13 : decode cX2_failureOf 13 = .ok (.iconst 0, 1) := by decide +kernel
theorem dX2_failureOf_14 : decode cX2_failureOf 14 = .ok (.ireturn, 1) := by decide +kernel
theorem dX3_init_0 : decode cX3_init 0 = .ok (.aload_n 0, 1) := by decide +kernel
theorem dX3_init_1 : decode cX3_init 1 = .ok (.invokespecial 1, 3) := by decide +kernel
theorem dX3_init_4 : decode cX3_init 4 = .ok (.aload_n 0, 1) := by decide +kernel
theorem dX3_init_5 : decode cX3_init 5 = .ok (.bipush 60, 2) := by decide +kernel
theorem dX3_init_7 : decode cX3_init 7 = .ok (.newarray .int, 2) := by decide +kernel
theorem dX3_init_9 : decode cX3_init 9 = .ok (.putfield 7, 3) := by decide +kernel
theorem dX3_init_12 : decode cX3_init 12 = .ok (.aload_n 0, 1) := by decide +kernel
theorem dX3_init_13 : decode cX3_init 13 = .ok (.bipush 60, 2) := by decide +kernel
theorem dX3_init_15 : decode cX3_init 15 = .ok (.newarray .int, 2) := by decide +kernel
theorem dX3_init_17 : decode cX3_init 17 = .ok (.putfield 13, 3) := by decide +kernel
theorem dX3_init_20 : decode cX3_init 20 = .ok (.aload_n 0, 1) := by decide +kernel
theorem dX3_init_21 : decode cX3_init 21 = .ok (.bipush 60, 2) := by decide +kernel
theorem dX3_init_23 : decode cX3_init 23 = .ok (.newarray .int, 2) := by decide +kernel
theorem dX3_init_25 : decode cX3_init 25 = .ok (.putfield 16, 3) := by decide +kernel
theorem dX3_init_28 : decode cX3_init 28 = .ok (.aload_n 0, 1) := by decide +kernel
theorem dX3_init_29 : decode cX3_init 29 = .ok (.bipush 60, 2) := by decide +kernel
theorem dX3_init_31 : decode cX3_init 31 = .ok (.newarray .int, 2) := by decide +kernel
theorem dX3_init_33 : decode cX3_init 33 = .ok (.putfield 19, 3) := by decide +kernel
theorem dX3_init_36 : decode cX3_init 36 = .ok (.aload_n 0, 1) := by decide +kernel
theorem dX3_init_37 : decode cX3_init 37 = .ok (.sipush 480, 3) := by decide +kernel
theorem dX3_init_40 : decode cX3_init 40 = .ok (.newarray .int, 2) := by decide +kernel
theorem dX3_init_42 : decode cX3_init 42 = .ok (.putfield 22, 3) := by decide +kernel
theorem dX3_init_45 : decode cX3_init 45 = .ok (.aload_n 0, 1) := by decide +kernel
theorem dX3_init_46 : decode cX3_init 46 = .ok (.bipush 8, 2) := by decide +kernel
theorem dX3_init_48 : decode cX3_init 48 = .ok (.newarray .boolean, 2) := by decide +kernel
theorem dX3_init_50 : decode cX3_init 50 = .ok (.putfield 25, 3) := by decide +kernel
theorem dX3_init_53 : decode cX3_init 53 = .ok (.aload_n 0, 1) := by decide +kernel
theorem dX3_init_54 : decode cX3_init 54 = .ok (.bipush 8, 2) := by decide +kernel
theorem dX3_init_56 : decode cX3_init 56 = .ok (.newarray .boolean, 2) := by decide +kernel
theorem dX3_init_58 : decode cX3_init 58 = .ok (.putfield 29, 3) := by decide +kernel
theorem dX3_init_61 : decode cX3_init 61 = .ok (.aload_n 0, 1) := by decide +kernel
theorem dX3_init_62 : decode cX3_init 62 = .ok (.bipush 8, 2) := by decide +kernel
theorem dX3_init_64 : decode cX3_init 64 = .ok (.newarray .boolean, 2) := by decide +kernel
theorem dX3_init_66 : decode cX3_init 66 = .ok (.putfield 32, 3) := by decide +kernel
theorem dX3_init_69 : decode cX3_init 69 = .ok (.aload_n 0, 1) := by decide +kernel
theorem dX3_init_70 : decode cX3_init 70 = .ok (.bipush 8, 2) := by decide +kernel
theorem dX3_init_72 : decode cX3_init 72 = .ok (.newarray .int, 2) := by decide +kernel
theorem dX3_init_74 : decode cX3_init 74 = .ok (.putfield 35, 3) := by decide +kernel
theorem dX3_init_77 : decode cX3_init 77 = .ok (.aload_n 0, 1) := by decide +kernel
theorem dX3_init_78 : decode cX3_init 78 = .ok (.bipush 8, 2) := by decide +kernel
theorem dX3_init_80 : decode cX3_init 80 = .ok (.newarray .int, 2) := by decide +kernel
theorem dX3_init_82 : decode cX3_init 82 = .ok (.putfield 38, 3) := by decide +kernel
theorem dX3_init_85 : decode cX3_init 85 = .ok (.aload_n 0, 1) := by decide +kernel
theorem dX3_init_86 : decode cX3_init 86 = .ok (.bipush 8, 2) := by decide +kernel
theorem dX3_init_88 : decode cX3_init 88 = .ok (.newarray .int, 2) := by decide +kernel
theorem dX3_init_90 : decode cX3_init 90 = .ok (.putfield 41, 3) := by decide +kernel
theorem dX3_init_93 : decode cX3_init 93 = .ok (.aload_n 0, 1) := by decide +kernel
theorem dX3_init_94 : decode cX3_init 94 = .ok (.bipush 8, 2) := by decide +kernel
theorem dX3_init_96 : decode cX3_init 96 = .ok (.newarray .int, 2) := by decide +kernel
theorem dX3_init_98 : decode cX3_init 98 = .ok (.putfield 44, 3) := by decide +kernel
theorem dX3_init_101 : decode cX3_init 101 = .ok (.aload_n 0, 1) := by decide +kernel
theorem dX3_init_102 : decode cX3_init 102 = .ok (.bipush 8, 2) := by decide +kernel
theorem dX3_init_104 : decode cX3_init 104 = .ok (.newarray .int, 2) := by decide +kernel
theorem dX3_init_106 : decode cX3_init 106 = .ok (.putfield 47, 3) := by decide +kernel
theorem dX3_init_109 : decode cX3_init 109 = .ok (.aload_n 0, 1) := by decide +kernel
theorem dX3_init_110 : decode cX3_init 110 = .ok (.bipush 8, 2) := by decide +kernel
theorem dX3_init_112 : decode cX3_init 112 = .ok (.newarray .int, 2) := by decide +kernel
theorem dX3_init_114 : decode cX3_init 114 = .ok (.putfield 50, 3) := by decide +kernel
theorem dX3_init_117 : decode cX3_init 117 = .ok (.aload_n 0, 1) := by decide +kernel
theorem dX3_init_118 : decode cX3_init 118 = .ok (.bipush 8, 2) := by decide +kernel
theorem dX3_init_120 : decode cX3_init 120 = .ok (.newarray .int, 2) := by decide +kernel
theorem dX3_init_122 : decode cX3_init 122 = .ok (.putfield 53, 3) := by decide +kernel
theorem dX3_init_125 : decode cX3_init 125 = .ok (.aload_n 0, 1) := by decide +kernel
theorem dX3_init_126 : decode cX3_init 126 = .ok (.bipush 8, 2) := by decide +kernel
theorem dX3_init_128 : decode cX3_init 128 = .ok (.newarray .int, 2) := by decide +kernel
theorem dX3_init_130 : decode cX3_init 130 = .ok (.putfield 56, 3) := by decide +kernel
theorem dX3_init_133 : decode cX3_init 133 = .ok (.aload_n 0, 1) := by decide +kernel
theorem dX3_init_134 : decode cX3_init 134 = .ok (.bipush 8, 2) := by decide +kernel
theorem dX3_init_136 : decode cX3_init 136 = .ok (.newarray .int, 2) := by decide +kernel
theorem dX3_init_138 : decode cX3_init 138 = .ok (.putfield 59, 3) := by decide +kernel
theorem dX3_init_141 : decode cX3_init 141 = .ok (.aload_n 0, 1) := by decide +kernel
theorem dX3_init_142 : decode cX3_init 142 = .ok (.bipush 40, 2) := by decide +kernel
theorem dX3_init_144 : decode cX3_init 144 = .ok (.newarray .int, 2) := by decide +kernel
theorem dX3_init_146 : decode cX3_init 146 = .ok (.putfield 62, 3) := by decide +kernel
theorem dX3_init_149 : decode cX3_init 149 = .ok (.aload_n 0, 1) := by decide +kernel
theorem dX3_init_150 : decode cX3_init 150 = .ok (.bipush 40, 2) := by decide +kernel
theorem dX3_init_152 : decode cX3_init 152 = .ok (.newarray .int, 2) := by decide +kernel
theorem dX3_init_154 : decode cX3_init 154 = .ok (.putfield 65, 3) := by decide +kernel
theorem dX3_init_157 : decode cX3_init 157 = .ok (.aload_n 0, 1) := by decide +kernel
theorem dX3_init_158 : decode cX3_init 158 = .ok (.bipush 40, 2) := by decide +kernel
theorem dX3_init_160 : decode cX3_init 160 = .ok (.newarray .int, 2) := by decide +kernel
theorem dX3_init_162 : decode cX3_init 162 = .ok (.putfield 68, 3) := by decide +kernel
theorem dX3_init_165 : decode cX3_init 165 = .ok (.aload_n 0, 1) := by decide +kernel
theorem dX3_init_166 : decode cX3_init 166 = .ok (.bipush 40, 2) := by decide +kernel
theorem dX3_init_168 : decode cX3_init 168 = .ok (.newarray .int, 2) := by decide +kernel
theorem dX3_init_170 : decode cX3_init 170 = .ok (.putfield 71, 3) := by decide +kernel
theorem dX3_init_173 : decode cX3_init 173 = .ok (.return_, 1) := by decide +kernel
theorem dX3_in_0 : decode cX3_in 0 = .ok (.iload_n 0, 1) := by decide +kernel
theorem dX3_in_1 : decode cX3_in 1 = .ok (.iload_n 1, 1) := by decide +kernel
theorem dX3_in_2 : decode cX3_in 2 = .ok (.if_icmp .lt 12, 3) := by decide +kernel
theorem dX3_in_5 : decode cX3_in 5 = .ok (.iload_n 0, 1) := by decide +kernel
theorem dX3_in_6 : decode cX3_in 6 = .ok (.iload_n 2, 1) := by decide +kernel
theorem dX3_in_7 : decode cX3_in 7 = .ok (.if_icmp .gt 7, 3) := by decide +kernel
theorem dX3_in_10 : decode cX3_in 10 = .ok (.iconst 1, 1) := by decide +kernel
theorem dX3_in_11 : decode cX3_in 11 = .ok (.goto 4, 3) := by decide +kernel
theorem dX3_in_14 : decode cX3_in 14 = .ok (.iconst 0, 1) := by decide +kernel
theorem dX3_in_15 : decode cX3_in 15 = .ok (.ireturn, 1) := by decide +kernel
theorem dX3_isMessage_0 : decode cX3_isMessage 0 = .ok (.iload_n 1, 1) := by decide +kernel
theorem dX3_isMessage_1 : decode cX3_isMessage 1 = .ok (.iconst 0, 1) := by decide +kernel
theorem dX3_isMessage_2 : decode cX3_isMessage 2 = .ok (.aload_n 0, 1) := by decide +kernel
theorem dX3_isMessage_3 : decode cX3_isMessage 3 = .ok (.getfield 74, 3) := by decide +kernel
theorem dX3_isMessage_6 : decode cX3_isMessage 6 = .ok (.iconst 1, 1) := by decide +kernel
theorem dX3_isMessage_7 : decode cX3_isMessage 7 = .ok (.isub, 1) := by decide +kernel
theorem dX3_isMessage_8 : decode cX3_isMessage 8 = .ok (.invokestatic 78, 3) := by decide +kernel
theorem dX3_isMessage_11 : decode cX3_isMessage 11 = .ok (.ireturn, 1) := by decide +kernel
theorem dX3_passes_0 : decode cX3_passes 0 = .ok (.iload_n 0, 1) := by decide +kernel
theorem dX3_passes_1 : decode cX3_passes 1 = .ok (.iload_n 1, 1) := by decide +kernel
theorem dX3_passes_2 : decode cX3_passes 2 = .ok (.if_icmp .eq 27, 3) := by decide +kernel
theorem dX3_passes_5 : decode cX3_passes 5 = .ok (.iload_n 1, 1) := by decide +kernel
theorem dX3_passes_6 : decode cX3_passes 6 = .ok (.ifCond .ne 13, 3) := by decide +kernel
theorem dX3_passes_9 : decode cX3_passes 9 = .ok (.iload_n 0, 1) := by decide +kernel
theorem dX3_passes_10 : decode cX3_passes 10 = .ok (.iconst 1, 1) := by decide +kernel
theorem dX3_passes_11 : decode cX3_passes 11 = .ok (.if_icmp .eq 18, 3) := by decide +kernel
theorem dX3_passes_14 : decode cX3_passes 14 = .ok (.iload_n 0, 1) := by decide +kernel
theorem dX3_passes_15 : decode cX3_passes 15 = .ok (.iconst 2, 1) := by decide +kernel
theorem dX3_passes_16 : decode cX3_passes 16 = .ok (.if_icmp .eq 13, 3) := by decide +kernel
theorem dX3_passes_19 : decode cX3_passes 19 = .ok (.iload_n 0, 1) := by decide +kernel
theorem dX3_passes_20 : decode cX3_passes 20 = .ok (.iconst 2, 1) := by decide +kernel
theorem dX3_passes_21 : decode cX3_passes 21 = .ok (.if_icmp .ne 12, 3) := by decide +kernel
theorem dX3_passes_24 : decode cX3_passes 24 = .ok (.iload_n 1, 1) := by decide +kernel
theorem dX3_passes_25 : decode cX3_passes 25 = .ok (.iconst 3, 1) := by decide +kernel
theorem dX3_passes_26 : decode cX3_passes 26 = .ok (.if_icmp .ne 7, 3) := by decide +kernel
theorem dX3_passes_29 : decode cX3_passes 29 = .ok (.iconst 1, 1) := by decide +kernel
theorem dX3_passes_30 : decode cX3_passes 30 = .ok (.goto 4, 3) := by decide +kernel
theorem dX3_passes_33 : decode cX3_passes 33 = .ok (.iconst 0, 1) := by decide +kernel
theorem dX3_passes_34 : decode cX3_passes 34 = .ok (.ireturn, 1) := by decide +kernel
theorem dX3_isOf_0 : decode cX3_isOf 0 = .ok (.aload_n 0, 1) := by decide +kernel
theorem dX3_isOf_1 : decode cX3_isOf 1 = .ok (.getfield 13, 3) := by decide +kernel
theorem dX3_isOf_4 : decode cX3_isOf 4 = .ok (.iload_n 1, 1) := by decide +kernel
theorem dX3_isOf_5 : decode cX3_isOf 5 = .ok (.iaload, 1) := by decide +kernel
theorem dX3_isOf_6 : decode cX3_isOf 6 = .ok (.iload_n 3, 1) := by decide +kernel
theorem dX3_isOf_7 : decode cX3_isOf 7 = .ok (.if_icmp .ne 20, 3) := by decide +kernel
theorem dX3_isOf_10 : decode cX3_isOf 10 = .ok (.aload_n 0, 1) := by decide +kernel
theorem dX3_isOf_11 : decode cX3_isOf 11 = .ok (.getfield 7, 3) := by decide +kernel
theorem dX3_isOf_14 : decode cX3_isOf 14 = .ok (.iload_n 1, 1) := by decide +kernel
theorem dX3_isOf_15 : decode cX3_isOf 15 = .ok (.iaload, 1) := by decide +kernel
theorem dX3_isOf_16 : decode cX3_isOf 16 = .ok (.iload_n 2, 1) := by decide +kernel
theorem dX3_isOf_17 : decode cX3_isOf 17 = .ok (.invokestatic 82, 3) := by decide +kernel
theorem dX3_isOf_20 : decode cX3_isOf 20 = .ok (.ifCond .eq 7, 3) := by decide +kernel
theorem dX3_isOf_23 : decode cX3_isOf 23 = .ok (.iconst 1, 1) := by decide +kernel
theorem dX3_isOf_24 : decode cX3_isOf 24 = .ok (.goto 4, 3) := by decide +kernel
theorem dX3_isOf_27 : decode cX3_isOf 27 = .ok (.iconst 0, 1) := by decide +kernel
theorem dX3_isOf_28 : decode cX3_isOf 28 = .ok (.ireturn, 1) := by decide +kernel
theorem dX3_isFigures_0 : decode cX3_isFigures 0 = .ok (.aload_n 0, 1) := by decide +kernel
theorem dX3_isFigures_1 : decode cX3_isFigures 1 = .ok (.getfield 7, 3) := by decide +kernel
theorem dX3_isFigures_4 : decode cX3_isFigures 4 = .ok (.iload_n 1, 1) := by decide +kernel
theorem dX3_isFigures_5 : decode cX3_isFigures 5 = .ok (.iaload, 1) := by decide +kernel
theorem dX3_isFigures_6 : decode cX3_isFigures 6 = .ok (.iconst 3, 1) := by decide +kernel
theorem dX3_isFigures_7 : decode cX3_isFigures 7 = .ok (.if_icmp .le 17, 3) := by decide +kernel
theorem dX3_isFigures_10 : decode cX3_isFigures 10 = .ok (.aload_n 0, 1) := by decide +kernel
theorem dX3_isFigures_11 : decode cX3_isFigures 11 = .ok (.getfield 13, 3) := by decide +kernel
theorem dX3_isFigures_14 : decode cX3_isFigures 14 = .ok (.iload_n 1, 1) := by decide +kernel
theorem dX3_isFigures_15 : decode cX3_isFigures 15 = .ok (.iaload, 1) := by decide +kernel
theorem dX3_isFigures_16 : decode cX3_isFigures 16 = .ok (.iconst 1, 1) := by decide +kernel
theorem dX3_isFigures_17 : decode cX3_isFigures 17 = .ok (.if_icmp .ne 7, 3) := by decide +kernel
theorem dX3_isFigures_20 : decode cX3_isFigures 20 = .ok (.iconst 1, 1) := by decide +kernel
theorem dX3_isFigures_21 : decode cX3_isFigures 21 = .ok (.goto 4, 3) := by decide +kernel
theorem dX3_isFigures_24 : decode cX3_isFigures 24 = .ok (.iconst 0, 1) := by decide +kernel
theorem dX3_isFigures_25 : decode cX3_isFigures 25 = .ok (.ireturn, 1) := by decide +kernel
theorem dX3_isBundle_0 : decode cX3_isBundle 0 = .ok (.aload_n 0, 1) := by decide +kernel
theorem dX3_isBundle_1 : decode cX3_isBundle 1 = .ok (.getfield 13, 3) := by decide +kernel
theorem dX3_isBundle_4 : decode cX3_isBundle 4 = .ok (.iload_n 1, 1) := by decide +kernel
theorem dX3_isBundle_5 : decode cX3_isBundle 5 = .ok (.iaload, 1) := by decide +kernel
theorem dX3_isBundle_6 : decode cX3_isBundle 6 = .ok (.ifCond .le 15, 3) := by decide +kernel
theorem dX3_isBundle_9 : decode cX3_isBundle 9 = .ok (.aload_n 0, 1) := by decide +kernel
theorem dX3_isBundle_10 : decode cX3_isBundle 10 = .ok (.iload_n 1, 1) := by decide +kernel
theorem dX3_isBundle_11 : decode cX3_isBundle 11 = .ok (.invokevirtual 86, 3) := by decide +kernel
theorem dX3_isBundle_14 : decode cX3_isBundle 14 = .ok (.ifCond .ne 7, 3) := by decide +kernel
theorem dX3_isBundle_17 : decode cX3_isBundle 17 = .ok (.iconst 1, 1) := by decide +kernel
theorem dX3_isBundle_18 : decode cX3_isBundle 18 = .ok (.goto 4, 3) := by decide +kernel
theorem dX3_isBundle_21 : decode cX3_isBundle 21 = .ok (.iconst 0, 1) := by decide +kernel
theorem dX3_isBundle_22 : decode cX3_isBundle 22 = .ok (.ireturn, 1) := by decide +kernel
theorem dX3_holds_0 : decode cX3_holds 0 = .ok (.iload_n 2, 1) := by decide +kernel
theorem dX3_holds_1 : decode cX3_holds 1 = .ok (.iconst (-1), 1) := by decide +kernel
theorem dX3_holds_2 : decode cX3_holds 2 = .ok (.if_icmp .eq 25, 3) := by decide +kernel
theorem dX3_holds_5 : decode cX3_holds 5 = .ok (.aload_n 0, 1) := by decide +kernel
theorem dX3_holds_6 : decode cX3_holds 6 = .ok (.iload_n 2, 1) := by decide +kernel
theorem dX3_holds_7 : decode cX3_holds 7 = .ok (.aload_n 0, 1) := by decide +kernel
theorem dX3_holds_8 : decode cX3_holds 8 = .ok (.getfield 7, 3) := by decide +kernel
theorem dX3_holds_11 : decode cX3_holds 11 = .ok (.iload_n 1, 1) := by decide +kernel
theorem dX3_holds_12 : decode cX3_holds 12 = .ok (.iaload, 1) := by decide +kernel
theorem dX3_holds_13 : decode cX3_holds 13 = .ok (.aload_n 0, 1) := by decide +kernel
theorem dX3_holds_14 : decode cX3_holds 14 = .ok (.getfield 13, 3) := by decide +kernel
theorem dX3_holds_17 : decode cX3_holds 17 = .ok (.iload_n 1, 1) := by decide +kernel
theorem dX3_holds_18 : decode cX3_holds 18 = .ok (.iaload, 1) := by decide +kernel
theorem dX3_holds_19 : decode cX3_holds 19 = .ok (.iconst 1, 1) := by decide +kernel
theorem dX3_holds_20 : decode cX3_holds 20 = .ok (.isub, 1) := by decide +kernel
theorem dX3_holds_21 : decode cX3_holds 21 = .ok (.invokevirtual 90, 3) := by decide +kernel
theorem dX3_holds_24 : decode cX3_holds 24 = .ok (.ifCond .eq 7, 3) := by decide +kernel
theorem dX3_holds_27 : decode cX3_holds 27 = .ok (.iconst 1, 1) := by decide +kernel
theorem dX3_holds_28 : decode cX3_holds 28 = .ok (.goto 4, 3) := by decide +kernel
theorem dX3_holds_31 : decode cX3_holds 31 = .ok (.iconst 0, 1) := by decide +kernel
theorem dX3_holds_32 : decode cX3_holds 32 = .ok (.ireturn, 1) := by decide +kernel
theorem dX3_kept_0 : decode cX3_kept 0 = .ok (.aload_n 0, 1) := by decide +kernel
theorem dX3_kept_1 : decode cX3_kept 1 = .ok (.getfield 7, 3) := by decide +kernel
theorem dX3_kept_4 : decode cX3_kept 4 = .ok (.aload_n 0, 1) := by decide +kernel
theorem dX3_kept_5 : decode cX3_kept 5 = .ok (.getfield 74, 3) := by decide +kernel
theorem dX3_kept_8 : decode cX3_kept 8 = .ok (.iload_n 1, 1) := by decide +kernel
theorem dX3_kept_9 : decode cX3_kept 9 = .ok (.iastore, 1) := by decide +kernel
theorem dX3_kept_10 : decode cX3_kept 10 = .ok (.aload_n 0, 1) := by decide +kernel
theorem dX3_kept_11 : decode cX3_kept 11 = .ok (.getfield 13, 3) := by decide +kernel
theorem dX3_kept_14 : decode cX3_kept 14 = .ok (.aload_n 0, 1) := by decide +kernel
theorem dX3_kept_15 : decode cX3_kept 15 = .ok (.getfield 74, 3) := by decide +kernel
theorem dX3_kept_18 : decode cX3_kept 18 = .ok (.iload_n 2, 1) := by decide +kernel
theorem dX3_kept_19 : decode cX3_kept 19 = .ok (.iastore, 1) := by decide +kernel
theorem dX3_kept_20 : decode cX3_kept 20 = .ok (.aload_n 0, 1) := by decide +kernel
theorem dX3_kept_21 : decode cX3_kept 21 = .ok (.getfield 16, 3) := by decide +kernel
theorem dX3_kept_24 : decode cX3_kept 24 = .ok (.aload_n 0, 1) := by decide +kernel
theorem dX3_kept_25 : decode cX3_kept 25 = .ok (.getfield 74, 3) := by decide +kernel
theorem dX3_kept_28 : decode cX3_kept 28 = .ok (.iconst 0, 1) := by decide +kernel
theorem dX3_kept_29 : decode cX3_kept 29 = .ok (.iastore, 1) := by decide +kernel
theorem dX3_kept_30 : decode cX3_kept 30 = .ok (.aload_n 0, 1) := by decide +kernel
theorem dX3_kept_31 : decode cX3_kept 31 = .ok (.getfield 19, 3) := by decide +kernel
theorem dX3_kept_34 : decode cX3_kept 34 = .ok (.aload_n 0, 1) := by decide +kernel
theorem dX3_kept_35 : decode cX3_kept 35 = .ok (.getfield 74, 3) := by decide +kernel
theorem dX3_kept_38 : decode cX3_kept 38 = .ok (.iload_n 3, 1) := by decide +kernel
theorem dX3_kept_39 : decode cX3_kept 39 = .ok (.iastore, 1) := by decide +kernel
theorem dX3_kept_40 : decode cX3_kept 40 = .ok (.iconst 0, 1) := by decide +kernel
theorem dX3_kept_41 : decode cX3_kept 41 = .ok (.istore 5, 2) := by decide +kernel
theorem dX3_kept_43 : decode cX3_kept 43 = .ok (.iload 5, 2) := by decide +kernel
theorem dX3_kept_45 : decode cX3_kept 45 = .ok (.bipush 8, 2) := by decide +kernel
theorem dX3_kept_47 : decode cX3_kept 47 = .ok (.if_icmp .ge 26, 3) := by decide +kernel
theorem dX3_kept_50 : decode cX3_kept 50 = .ok (.aload_n 0, 1) := by decide +kernel
theorem dX3_kept_51 : decode cX3_kept 51 = .ok (.getfield 22, 3) := by decide +kernel
theorem dX3_kept_54 : decode cX3_kept 54 = .ok (.bipush 8, 2) := by decide +kernel
theorem dX3_kept_56 : decode cX3_kept 56 = .ok (.aload_n 0, 1) := by decide +kernel
theorem dX3_kept_57 : decode cX3_kept 57 = .ok (.getfield 74, 3) := by decide +kernel
theorem dX3_kept_60 : decode cX3_kept 60 = .ok (.imul, 1) := by decide +kernel
theorem dX3_kept_61 : decode cX3_kept 61 = .ok (.iload 5, 2) := by decide +kernel
theorem dX3_kept_63 : decode cX3_kept 63 = .ok (.iadd, 1) := by decide +kernel
theorem dX3_kept_64 : decode cX3_kept 64 = .ok (.iload 4, 2) := by decide +kernel
theorem dX3_kept_66 : decode cX3_kept 66 = .ok (.iastore, 1) := by decide +kernel
theorem dX3_kept_67 : decode cX3_kept 67 = .ok (.iinc 5 1, 3) := by decide +kernel
theorem dX3_kept_70 : decode cX3_kept 70 = .ok (.goto (-27), 3) := by decide +kernel
theorem dX3_kept_73 : decode cX3_kept 73 = .ok (.aload_n 0, 1) := by decide +kernel
theorem dX3_kept_74 : decode cX3_kept 74 = .ok (.dup, 1) := by decide +kernel
theorem dX3_kept_75 : decode cX3_kept 75 = .ok (.getfield 74, 3) := by decide +kernel
theorem dX3_kept_78 : decode cX3_kept 78 = .ok (.iconst 1, 1) := by decide +kernel
theorem dX3_kept_79 : decode cX3_kept 79 = .ok (.iadd, 1) := by decide +kernel
theorem dX3_kept_80 : decode cX3_kept 80 = .ok (.putfield 74, 3) := by decide +kernel
theorem dX3_kept_83 : decode cX3_kept 83 = .ok (.aload_n 0, 1) := by decide +kernel
theorem dX3_kept_84 : decode cX3_kept 84 = .ok (.getfield 74, 3) := by decide +kernel
theorem dX3_kept_87 : decode cX3_kept 87 = .ok (.iconst 1, 1) := by decide +kernel
theorem dX3_kept_88 : decode cX3_kept 88 = .ok (.isub, 1) := by decide +kernel
theorem dX3_kept_89 : decode cX3_kept 89 = .ok (.ireturn, 1) := by decide +kernel
theorem dX3_slip_0 : decode cX3_slip 0 = .ok (.iload_n 1, 1) := by decide +kernel
theorem dX3_slip_1 : decode cX3_slip 1 = .ok (.iconst 0, 1) := by decide +kernel
theorem dX3_slip_2 : decode cX3_slip 2 = .ok (.iconst 2, 1) := by decide +kernel
theorem dX3_slip_3 : decode cX3_slip 3 = .ok (.invokestatic 78, 3) := by decide +kernel
theorem dX3_slip_6 : decode cX3_slip 6 = .ok (.ifCond .ne 6, 3) := by decide +kernel
theorem dX3_slip_9 : decode cX3_slip 9 = .ok (.bipush (-2), 2) := by decide +kernel
theorem dX3_slip_11 : decode cX3_slip 11 = .ok (.ireturn, 1) := by decide +kernel
theorem dX3_slip_12 : decode cX3_slip 12 = .ok (.aload_n 0, 1) := by decide +kernel
theorem dX3_slip_13 : decode cX3_slip 13 = .ok (.getfield 74, 3) := by decide +kernel
theorem dX3_slip_16 : decode cX3_slip 16 = .ok (.bipush 60, 2) := by decide +kernel
theorem dX3_slip_18 : decode cX3_slip 18 = .ok (.if_icmp .ne 6, 3) := by decide +kernel
theorem dX3_slip_21 : decode cX3_slip 21 = .ok (.bipush (-3), 2) := by decide +kernel
theorem dX3_slip_23 : decode cX3_slip 23 = .ok (.ireturn, 1) := by decide +kernel
theorem dX3_slip_24 : decode cX3_slip 24 = .ok (.aload_n 0, 1) := by decide +kernel
theorem dX3_slip_25 : decode cX3_slip 25 = .ok (.iload_n 1, 1) := by decide +kernel
theorem dX3_slip_26 : decode cX3_slip 26 = .ok (.iconst 0, 1) := by decide +kernel
theorem dX3_slip_27 : decode cX3_slip 27 = .ok (.iconst 0, 1) := by decide +kernel
theorem dX3_slip_28 : decode cX3_slip 28 = .ok (.iconst (-1), 1) := by decide +kernel
theorem dX3_slip_29 : decode cX3_slip 29 = .ok (.invokevirtual 93, 3) := by decide +kernel
theorem dX3_slip_32 : decode cX3_slip 32 = .ok (.istore_n 3, 1) := by decide +kernel
theorem dX3_slip_33 : decode cX3_slip 33 = .ok (.aload_n 0, 1) := by decide +kernel
theorem dX3_slip_34 : decode cX3_slip 34 = .ok (.getfield 16, 3) := by decide +kernel
theorem dX3_slip_37 : decode cX3_slip 37 = .ok (.iload_n 3, 1) := by decide +kernel
theorem dX3_slip_38 : decode cX3_slip 38 = .ok (.iload_n 2, 1) := by decide +kernel
theorem dX3_slip_39 : decode cX3_slip 39 = .ok (.iastore, 1) := by decide +kernel
theorem dX3_slip_40 : decode cX3_slip 40 = .ok (.iload_n 3, 1) := by decide +kernel
theorem dX3_slip_41 : decode cX3_slip 41 = .ok (.ireturn, 1) := by decide +kernel
theorem dX3_bundle_0 : decode cX3_bundle 0 = .ok (.iload_n 1, 1) := by decide +kernel
theorem dX3_bundle_1 : decode cX3_bundle 1 = .ok (.iconst 0, 1) := by decide +kernel
theorem dX3_bundle_2 : decode cX3_bundle 2 = .ok (.iconst 5, 1) := by decide +kernel
theorem dX3_bundle_3 : decode cX3_bundle 3 = .ok (.invokestatic 78, 3) := by decide +kernel
theorem dX3_bundle_6 : decode cX3_bundle 6 = .ok (.ifCond .eq 18, 3) := by decide +kernel
theorem dX3_bundle_9 : decode cX3_bundle 9 = .ok (.iload_n 2, 1) := by decide +kernel
theorem dX3_bundle_10 : decode cX3_bundle 10 = .ok (.iconst 1, 1) := by decide +kernel
theorem dX3_bundle_11 : decode cX3_bundle 11 = .ok (.iconst 3, 1) := by decide +kernel
theorem dX3_bundle_12 : decode cX3_bundle 12 = .ok (.invokestatic 78, 3) := by decide +kernel
theorem dX3_bundle_15 : decode cX3_bundle 15 = .ok (.ifCond .eq 9, 3) := by decide +kernel
theorem dX3_bundle_18 : decode cX3_bundle 18 = .ok (.iload_n 3, 1) := by decide +kernel
theorem dX3_bundle_19 : decode cX3_bundle 19 = .ok (.bipush 8, 2) := by decide +kernel
theorem dX3_bundle_21 : decode cX3_bundle 21 = .ok (.if_icmp .le 6, 3) := by decide +kernel
theorem dX3_bundle_24 : decode cX3_bundle 24 = .ok (.bipush (-2), 2) := by decide +kernel
theorem dX3_bundle_26 : decode cX3_bundle 26 = .ok (.ireturn, 1) := by decide +kernel
theorem dX3_bundle_27 : decode cX3_bundle 27 = .ok (.aload_n 0, 1) := by decide +kernel
theorem dX3_bundle_28 : decode cX3_bundle 28 = .ok (.getfield 74, 3) := by decide +kernel
theorem dX3_bundle_31 : decode cX3_bundle 31 = .ok (.bipush 60, 2) := by decide +kernel
theorem dX3_bundle_33 : decode cX3_bundle 33 = .ok (.if_icmp .ne 6, 3) := by decide +kernel
theorem dX3_bundle_36 : decode cX3_bundle 36 = .ok (.bipush (-3), 2) := by decide +kernel
theorem dX3_bundle_38 : decode cX3_bundle 38 = .ok (.ireturn, 1) := by decide +kernel
theorem dX3_bundle_39 : decode cX3_bundle 39 = .ok (.iload_n 3, 1) := by decide +kernel
theorem dX3_bundle_40 : decode cX3_bundle 40 = .ok (.ifCond .ge 8, 3) := by decide +kernel
theorem dX3_bundle_43 : decode cX3_bundle 43 = .ok (.bipush (-6), 2) := by decide +kernel
theorem dX3_bundle_45 : decode cX3_bundle 45 = .ok (.goto 25, 3) := by decide +kernel
theorem dX3_bundle_48 : decode cX3_bundle 48 = .ok (.aload_n 0, 1) := by decide +kernel
theorem dX3_bundle_49 : decode cX3_bundle 49 = .ok (.iload_n 1, 1) := by decide +kernel
theorem dX3_bundle_50 : decode cX3_bundle 50 = .ok (.iload_n 2, 1) := by decide +kernel
theorem dX3_bundle_51 : decode cX3_bundle 51 = .ok (.iload_n 3, 1) := by decide +kernel
theorem dX3_bundle_52 : decode cX3_bundle 52 = .ok (.iload_n 1, 1) := by decide +kernel
theorem dX3_bundle_53 : decode cX3_bundle 53 = .ok (.iconst 3, 1) := by decide +kernel
theorem dX3_bundle_54 : decode cX3_bundle 54 = .ok (.if_icmp .le 12, 3) := by decide +kernel
theorem dX3_bundle_57 : decode cX3_bundle 57 = .ok (.iload_n 2, 1) := by decide +kernel
theorem dX3_bundle_58 : decode cX3_bundle 58 = .ok (.iconst 1, 1) := by decide +kernel
theorem dX3_bundle_59 : decode cX3_bundle 59 = .ok (.if_icmp .ne 7, 3) := by decide +kernel
theorem dX3_bundle_62 : decode cX3_bundle 62 = .ok (.iconst 0, 1) := by decide +kernel
theorem dX3_bundle_63 : decode cX3_bundle 63 = .ok (.goto 4, 3) := by decide +kernel
theorem dX3_bundle_66 : decode cX3_bundle 66 = .ok (.iconst (-1), 1) := by decide +kernel
theorem dX3_bundle_67 : decode cX3_bundle 67 = .ok (.invokevirtual 93, 3) := by decide +kernel
theorem dX3_bundle_70 : decode cX3_bundle 70 = .ok (.ireturn, 1) := by decide +kernel
theorem dX3_place_0 : decode cX3_place 0 = .ok (.aload_n 0, 1) := by decide +kernel
theorem dX3_place_1 : decode cX3_place 1 = .ok (.iload_n 1, 1) := by decide +kernel
theorem dX3_place_2 : decode cX3_place 2 = .ok (.invokevirtual 97, 3) := by decide +kernel
theorem dX3_place_5 : decode cX3_place 5 = .ok (.ifCond .eq 16, 3) := by decide +kernel
theorem dX3_place_8 : decode cX3_place 8 = .ok (.iload_n 3, 1) := by decide +kernel
theorem dX3_place_9 : decode cX3_place 9 = .ok (.iconst (-1), 1) := by decide +kernel
theorem dX3_place_10 : decode cX3_place 10 = .ok (.if_icmp .eq 14, 3) := by decide +kernel
theorem dX3_place_13 : decode cX3_place 13 = .ok (.aload_n 0, 1) := by decide +kernel
theorem dX3_place_14 : decode cX3_place 14 = .ok (.iload_n 3, 1) := by decide +kernel
theorem dX3_place_15 : decode cX3_place 15 = .ok (.invokevirtual 97, 3) := by decide +kernel
theorem dX3_place_18 : decode cX3_place 18 = .ok (.ifCond .ne 6, 3) := by decide +kernel
theorem dX3_place_21 : decode cX3_place 21 = .ok (.bipush (-2), 2) := by decide +kernel
theorem dX3_place_23 : decode cX3_place 23 = .ok (.ireturn, 1) := by decide +kernel
theorem dX3_place_24 : decode cX3_place 24 = .ok (.aload_n 0, 1) := by decide +kernel
theorem dX3_place_25 : decode cX3_place 25 = .ok (.iload_n 1, 1) := by decide +kernel
theorem dX3_place_26 : decode cX3_place 26 = .ok (.invokevirtual 100, 3) := by decide +kernel
theorem dX3_place_29 : decode cX3_place 29 = .ok (.ifCond .eq 28, 3) := by decide +kernel
theorem dX3_place_32 : decode cX3_place 32 = .ok (.iload_n 2, 1) := by decide +kernel
theorem dX3_place_33 : decode cX3_place 33 = .ok (.iconst 0, 1) := by decide +kernel
theorem dX3_place_34 : decode cX3_place 34 = .ok (.aload_n 0, 1) := by decide +kernel
theorem dX3_place_35 : decode cX3_place 35 = .ok (.getfield 19, 3) := by decide +kernel
theorem dX3_place_38 : decode cX3_place 38 = .ok (.iload_n 1, 1) := by decide +kernel
theorem dX3_place_39 : decode cX3_place 39 = .ok (.iaload, 1) := by decide +kernel
theorem dX3_place_40 : decode cX3_place 40 = .ok (.iconst 1, 1) := by decide +kernel
theorem dX3_place_41 : decode cX3_place 41 = .ok (.isub, 1) := by decide +kernel
theorem dX3_place_42 : decode cX3_place 42 = .ok (.invokestatic 78, 3) := by decide +kernel
theorem dX3_place_45 : decode cX3_place 45 = .ok (.ifCond .eq 12, 3) := by decide +kernel
theorem dX3_place_48 : decode cX3_place 48 = .ok (.aload_n 0, 1) := by decide +kernel
theorem dX3_place_49 : decode cX3_place 49 = .ok (.iload_n 1, 1) := by decide +kernel
theorem dX3_place_50 : decode cX3_place 50 = .ok (.iload_n 3, 1) := by decide +kernel
theorem dX3_place_51 : decode cX3_place 51 = .ok (.invokevirtual 103, 3) := by decide +kernel
theorem dX3_place_54 : decode cX3_place 54 = .ok (.ifCond .ne 6, 3) := by decide +kernel
theorem dX3_place_57 : decode cX3_place 57 = .ok (.bipush (-5), 2) := by decide +kernel
theorem dX3_place_59 : decode cX3_place 59 = .ok (.ireturn, 1) := by decide +kernel
theorem dX3_place_60 : decode cX3_place 60 = .ok (.aload_n 0, 1) := by decide +kernel
theorem dX3_place_61 : decode cX3_place 61 = .ok (.getfield 22, 3) := by decide +kernel
theorem dX3_place_64 : decode cX3_place 64 = .ok (.bipush 8, 2) := by decide +kernel
theorem dX3_place_66 : decode cX3_place 66 = .ok (.iload_n 1, 1) := by decide +kernel
theorem dX3_place_67 : decode cX3_place 67 = .ok (.imul, 1) := by decide +kernel
theorem dX3_place_68 : decode cX3_place 68 = .ok (.iload_n 2, 1) := by decide +kernel
theorem dX3_place_69 : decode cX3_place 69 = .ok (.iadd, 1) := by decide +kernel
theorem dX3_place_70 : decode cX3_place 70 = .ok (.iload_n 3, 1) := by decide +kernel
theorem dX3_place_71 : decode cX3_place 71 = .ok (.iastore, 1) := by decide +kernel
theorem dX3_place_72 : decode cX3_place 72 = .ok (.iconst 1, 1) := by decide +kernel
theorem dX3_place_73 : decode cX3_place 73 = .ok (.ireturn, 1) := by decide +kernel
theorem dX3_placed_0 : decode cX3_placed 0 = .ok (.aload_n 0, 1) := by decide +kernel
theorem dX3_placed_1 : decode cX3_placed 1 = .ok (.iload_n 1, 1) := by decide +kernel
theorem dX3_placed_2 : decode cX3_placed 2 = .ok (.invokevirtual 97, 3) := by decide +kernel
theorem dX3_placed_5 : decode cX3_placed 5 = .ok (.ifCond .ne 6, 3) := by decide +kernel
theorem dX3_placed_8 : decode cX3_placed 8 = .ok (.bipush (-2), 2) := by decide +kernel
theorem dX3_placed_10 : decode cX3_placed 10 = .ok (.ireturn, 1) := by decide +kernel
theorem dX3_placed_11 : decode cX3_placed 11 = .ok (.aload_n 0, 1) := by decide +kernel
theorem dX3_placed_12 : decode cX3_placed 12 = .ok (.iload_n 1, 1) := by decide +kernel
theorem dX3_placed_13 : decode cX3_placed 13 = .ok (.invokevirtual 100, 3) := by decide +kernel
theorem dX3_placed_16 : decode cX3_placed 16 = .ok (.ifCond .eq 33, 3) := by decide +kernel
theorem dX3_placed_19 : decode cX3_placed 19 = .ok (.iload_n 2, 1) := by decide +kernel
theorem dX3_placed_20 : decode cX3_placed 20 = .ok (.iconst 0, 1) := by decide +kernel
theorem dX3_placed_21 : decode cX3_placed 21 = .ok (.aload_n 0, 1) := by decide +kernel
theorem dX3_placed_22 : decode cX3_placed 22 = .ok (.getfield 19, 3) := by decide +kernel
theorem dX3_placed_25 : decode cX3_placed 25 = .ok (.iload_n 1, 1) := by decide +kernel
theorem dX3_placed_26 : decode cX3_placed 26 = .ok (.iaload, 1) := by decide +kernel
theorem dX3_placed_27 : decode cX3_placed 27 = .ok (.iconst 1, 1) := by decide +kernel
theorem dX3_placed_28 : decode cX3_placed 28 = .ok (.isub, 1) := by decide +kernel
theorem dX3_placed_29 : decode cX3_placed 29 = .ok (.invokestatic 78, 3) := by decide +kernel
theorem dX3_placed_32 : decode cX3_placed 32 = .ok (.ifCond .eq 17, 3) := by decide +kernel
theorem dX3_placed_35 : decode cX3_placed 35 = .ok (.aload_n 0, 1) := by decide +kernel
theorem dX3_placed_36 : decode cX3_placed 36 = .ok (.getfield 22, 3) := by decide +kernel
theorem dX3_placed_39 : decode cX3_placed 39 = .ok (.bipush 8, 2) := by decide +kernel
theorem dX3_placed_41 : decode cX3_placed 41 = .ok (.iload_n 1, 1) := by decide +kernel
theorem dX3_placed_42 : decode cX3_placed 42 = .ok (.imul, 1) := by decide +kernel
theorem dX3_placed_43 : decode cX3_placed 43 = .ok (.iload_n 2, 1) := by decide +kernel
theorem dX3_placed_44 : decode cX3_placed 44 = .ok (.iadd, 1) := by decide +kernel
theorem dX3_placed_45 : decode cX3_placed 45 = .ok (.iaload, 1) := by decide +kernel
theorem dX3_placed_46 : decode cX3_placed 46 = .ok (.goto 5, 3) := by decide +kernel
theorem dX3_placed_49 : decode cX3_placed 49 = .ok (.bipush (-5), 2) := by decide +kernel
theorem dX3_placed_51 : decode cX3_placed 51 = .ok (.ireturn, 1) := by decide +kernel
theorem dX3_cut_0 : decode cX3_cut 0 = .ok (.iload_n 0, 1) := by decide +kernel
theorem dX3_cut_1 : decode cX3_cut 1 = .ok (.iconst 4, 1) := by decide +kernel
theorem dX3_cut_2 : decode cX3_cut 2 = .ok (.if_icmp .ne 8, 3) := by decide +kernel
theorem dX3_cut_5 : decode cX3_cut 5 = .ok (.iload_n 1, 1) := by decide +kernel
theorem dX3_cut_6 : decode cX3_cut 6 = .ok (.i2b, 1) := by decide +kernel
theorem dX3_cut_7 : decode cX3_cut 7 = .ok (.goto 7, 3) := by decide +kernel
theorem dX3_cut_10 : decode cX3_cut 10 = .ok (.iload_n 1, 1) := by decide +kernel
theorem dX3_cut_11 : decode cX3_cut 11 = .ok (.ldc 106, 2) := by decide +kernel
theorem dX3_cut_13 : decode cX3_cut 13 = .ok (.iand, 1) := by decide +kernel
theorem dX3_cut_14 : decode cX3_cut 14 = .ok (.ireturn, 1) := by decide +kernel
theorem dX3_figure_0 : decode cX3_figure 0 = .ok (.aload_n 0, 1) := by decide +kernel
theorem dX3_figure_1 : decode cX3_figure 1 = .ok (.iload_n 1, 1) := by decide +kernel
theorem dX3_figure_2 : decode cX3_figure 2 = .ok (.invokevirtual 97, 3) := by decide +kernel
theorem dX3_figure_5 : decode cX3_figure 5 = .ok (.ifCond .ne 6, 3) := by decide +kernel
theorem dX3_figure_8 : decode cX3_figure 8 = .ok (.bipush (-2), 2) := by decide +kernel
theorem dX3_figure_10 : decode cX3_figure 10 = .ok (.ireturn, 1) := by decide +kernel
theorem dX3_figure_11 : decode cX3_figure 11 = .ok (.aload_n 0, 1) := by decide +kernel
theorem dX3_figure_12 : decode cX3_figure 12 = .ok (.iload_n 1, 1) := by decide +kernel
theorem dX3_figure_13 : decode cX3_figure 13 = .ok (.invokevirtual 86, 3) := by decide +kernel
theorem dX3_figure_16 : decode cX3_figure 16 = .ok (.ifCond .eq 19, 3) := by decide +kernel
theorem dX3_figure_19 : decode cX3_figure 19 = .ok (.iload_n 2, 1) := by decide +kernel
theorem dX3_figure_20 : decode cX3_figure 20 = .ok (.iconst 0, 1) := by decide +kernel
theorem dX3_figure_21 : decode cX3_figure 21 = .ok (.aload_n 0, 1) := by decide +kernel
theorem dX3_figure_22 : decode cX3_figure 22 = .ok (.getfield 19, 3) := by decide +kernel
theorem dX3_figure_25 : decode cX3_figure 25 = .ok (.iload_n 1, 1) := by decide +kernel
theorem dX3_figure_26 : decode cX3_figure 26 = .ok (.iaload, 1) := by decide +kernel
theorem dX3_figure_27 : decode cX3_figure 27 = .ok (.iconst 1, 1) := by decide +kernel
theorem dX3_figure_28 : decode cX3_figure 28 = .ok (.isub, 1) := by decide +kernel
theorem dX3_figure_29 : decode cX3_figure 29 = .ok (.invokestatic 78, 3) := by decide +kernel
theorem dX3_figure_32 : decode cX3_figure 32 = .ok (.ifCond .ne 6, 3) := by decide +kernel
theorem dX3_figure_35 : decode cX3_figure 35 = .ok (.bipush (-5), 2) := by decide +kernel
theorem dX3_figure_37 : decode cX3_figure 37 = .ok (.ireturn, 1) := by decide +kernel
theorem dX3_figure_38 : decode cX3_figure 38 = .ok (.aload_n 0, 1) := by decide +kernel
theorem dX3_figure_39 : decode cX3_figure 39 = .ok (.getfield 22, 3) := by decide +kernel
theorem dX3_figure_42 : decode cX3_figure 42 = .ok (.bipush 8, 2) := by decide +kernel
theorem dX3_figure_44 : decode cX3_figure 44 = .ok (.iload_n 1, 1) := by decide +kernel
theorem dX3_figure_45 : decode cX3_figure 45 = .ok (.imul, 1) := by decide +kernel
theorem dX3_figure_46 : decode cX3_figure 46 = .ok (.iload_n 2, 1) := by decide +kernel
theorem dX3_figure_47 : decode cX3_figure 47 = .ok (.iadd, 1) := by decide +kernel
theorem dX3_figure_48 : decode cX3_figure 48 = .ok (.aload_n 0, 1) := by decide +kernel
theorem dX3_figure_49 : decode cX3_figure 49 = .ok (.getfield 7, 3) := by decide +kernel
theorem dX3_figure_52 : decode cX3_figure 52 = .ok (.iload_n 1, 1) := by decide +kernel
theorem dX3_figure_53 : decode cX3_figure 53 = .ok (.iaload, 1) := by decide +kernel
theorem dX3_figure_54 : decode cX3_figure 54 = .ok (.iload_n 3, 1) := by decide +kernel
theorem dX3_figure_55 : decode cX3_figure 55 = .ok (.invokestatic 107, 3) := by decide +kernel
theorem dX3_figure_58 : decode cX3_figure 58 = .ok (.iastore, 1) := by decide +kernel
theorem dX3_figure_59 : decode cX3_figure 59 = .ok (.iconst 1, 1) := by decide +kernel
theorem dX3_figure_60 : decode cX3_figure 60 = .ok (.ireturn, 1) := by decide +kernel
theorem dX3_number_0 : decode cX3_number 0 = .ok (.aload_n 0, 1) := by decide +kernel
theorem dX3_number_1 : decode cX3_number 1 = .ok (.iload_n 1, 1) := by decide +kernel
theorem dX3_number_2 : decode cX3_number 2 = .ok (.invokevirtual 97, 3) := by decide +kernel
theorem dX3_number_5 : decode cX3_number 5 = .ok (.ifCond .ne 5, 3) := by decide +kernel
theorem dX3_number_8 : decode cX3_number 8 = .ok (.iconst 0, 1) := by decide +kernel
theorem dX3_number_9 : decode cX3_number 9 = .ok (.ireturn, 1) := by decide +kernel
theorem dX3_number_10 : decode cX3_number 10 = .ok (.aload_n 0, 1) := by decide +kernel
theorem dX3_number_11 : decode cX3_number 11 = .ok (.getfield 13, 3) := by decide +kernel
theorem dX3_number_14 : decode cX3_number 14 = .ok (.iload_n 1, 1) := by decide +kernel
theorem dX3_number_15 : decode cX3_number 15 = .ok (.iaload, 1) := by decide +kernel
theorem dX3_number_16 : decode cX3_number 16 = .ok (.ifCond .ne 19, 3) := by decide +kernel
theorem dX3_number_19 : decode cX3_number 19 = .ok (.iload_n 2, 1) := by decide +kernel
theorem dX3_number_20 : decode cX3_number 20 = .ok (.iconst (-1), 1) := by decide +kernel
theorem dX3_number_21 : decode cX3_number 21 = .ok (.if_icmp .ne 12, 3) := by decide +kernel
theorem dX3_number_24 : decode cX3_number 24 = .ok (.aload_n 0, 1) := by decide +kernel
theorem dX3_number_25 : decode cX3_number 25 = .ok (.getfield 16, 3) := by decide +kernel
theorem dX3_number_28 : decode cX3_number 28 = .ok (.iload_n 1, 1) := by decide +kernel
theorem dX3_number_29 : decode cX3_number 29 = .ok (.iaload, 1) := by decide +kernel
theorem dX3_number_30 : decode cX3_number 30 = .ok (.goto 4, 3) := by decide +kernel
theorem dX3_number_33 : decode cX3_number 33 = .ok (.iconst 0, 1) := by decide +kernel
theorem dX3_number_34 : decode cX3_number 34 = .ok (.ireturn, 1) := by decide +kernel
theorem dX3_number_35 : decode cX3_number 35 = .ok (.aload_n 0, 1) := by decide +kernel
theorem dX3_number_36 : decode cX3_number 36 = .ok (.iload_n 1, 1) := by decide +kernel
theorem dX3_number_37 : decode cX3_number 37 = .ok (.invokevirtual 86, 3) := by decide +kernel
theorem dX3_number_40 : decode cX3_number 40 = .ok (.ifCond .eq 33, 3) := by decide +kernel
theorem dX3_number_43 : decode cX3_number 43 = .ok (.iload_n 2, 1) := by decide +kernel
theorem dX3_number_44 : decode cX3_number 44 = .ok (.iconst 0, 1) := by decide +kernel
theorem dX3_number_45 : decode cX3_number 45 = .ok (.aload_n 0, 1) := by decide +kernel
theorem dX3_number_46 : decode cX3_number 46 = .ok (.getfield 19, 3) := by decide +kernel
theorem dX3_number_49 : decode cX3_number 49 = .ok (.iload_n 1, 1) := by decide +kernel
theorem dX3_number_50 : decode cX3_number 50 = .ok (.iaload, 1) := by decide +kernel
theorem dX3_number_51 : decode cX3_number 51 = .ok (.iconst 1, 1) := by decide +kernel
theorem dX3_number_52 : decode cX3_number 52 = .ok (.isub, 1) := by decide +kernel
theorem dX3_number_53 : decode cX3_number 53 = .ok (.invokestatic 78, 3) := by decide +kernel
theorem dX3_number_56 : decode cX3_number 56 = .ok (.ifCond .eq 17, 3) := by decide +kernel
theorem dX3_number_59 : decode cX3_number 59 = .ok (.aload_n 0, 1) := by decide +kernel
theorem dX3_number_60 : decode cX3_number 60 = .ok (.getfield 22, 3) := by decide +kernel
theorem dX3_number_63 : decode cX3_number 63 = .ok (.bipush 8, 2) := by decide +kernel
theorem dX3_number_65 : decode cX3_number 65 = .ok (.iload_n 1, 1) := by decide +kernel
theorem dX3_number_66 : decode cX3_number 66 = .ok (.imul, 1) := by decide +kernel
theorem dX3_number_67 : decode cX3_number 67 = .ok (.iload_n 2, 1) := by decide +kernel
theorem dX3_number_68 : decode cX3_number 68 = .ok (.iadd, 1) := by decide +kernel
theorem dX3_number_69 : decode cX3_number 69 = .ok (.iaload, 1) := by decide +kernel
theorem dX3_number_70 : decode cX3_number 70 = .ok (.goto 4, 3) := by decide +kernel
theorem dX3_number_73 : decode cX3_number 73 = .ok (.iconst 0, 1) := by decide +kernel
theorem dX3_number_74 : decode cX3_number 74 = .ok (.ireturn, 1) := by decide +kernel
theorem dX3_isView_0 : decode cX3_isView 0 = .ok (.iload_n 0, 1) := by decide +kernel
theorem dX3_isView_1 : decode cX3_isView 1 = .ok (.iconst 0, 1) := by decide +kernel
theorem dX3_isView_2 : decode cX3_isView 2 = .ok (.iconst 3, 1) := by decide +kernel
theorem dX3_isView_3 : decode cX3_isView 3 = .ok (.invokestatic 78, 3) := by decide +kernel
theorem dX3_isView_6 : decode cX3_isView 6 = .ok (.ifCond .eq 12, 3) := by decide +kernel
theorem dX3_isView_9 : decode cX3_isView 9 = .ok (.iload_n 1, 1) := by decide +kernel
theorem dX3_isView_10 : decode cX3_isView 10 = .ok (.iconst 0, 1) := by decide +kernel
theorem dX3_isView_11 : decode cX3_isView 11 = .ok (.iconst 3, 1) := by decide +kernel
theorem dX3_isView_12 : decode cX3_isView 12 = .ok (.invokestatic 78, 3) := by decide +kernel
theorem dX3_isView_15 : decode cX3_isView 15 = .ok (.ifCond .ne 21, 3) := by decide +kernel
theorem dX3_isView_18 : decode cX3_isView 18 = .ok (.iload_n 0, 1) := by decide +kernel
theorem dX3_isView_19 : decode cX3_isView 19 = .ok (.iconst 4, 1) := by decide +kernel
theorem dX3_isView_20 : decode cX3_isView 20 = .ok (.iconst 5, 1) := by decide +kernel
theorem dX3_isView_21 : decode cX3_isView 21 = .ok (.invokestatic 78, 3) := by decide +kernel
theorem dX3_isView_24 : decode cX3_isView 24 = .ok (.ifCond .eq 16, 3) := by decide +kernel
theorem dX3_isView_27 : decode cX3_isView 27 = .ok (.iload_n 1, 1) := by decide +kernel
theorem dX3_isView_28 : decode cX3_isView 28 = .ok (.iconst 1, 1) := by decide +kernel
theorem dX3_isView_29 : decode cX3_isView 29 = .ok (.iconst 3, 1) := by decide +kernel
theorem dX3_isView_30 : decode cX3_isView 30 = .ok (.invokestatic 78, 3) := by decide +kernel
theorem dX3_isView_33 : decode cX3_isView 33 = .ok (.ifCond .eq 7, 3) := by decide +kernel
theorem dX3_isView_36 : decode cX3_isView 36 = .ok (.iconst 1, 1) := by decide +kernel
theorem dX3_isView_37 : decode cX3_isView 37 = .ok (.goto 4, 3) := by decide +kernel
theorem dX3_isView_40 : decode cX3_isView 40 = .ok (.iconst 0, 1) := by decide +kernel
theorem dX3_isView_41 : decode cX3_isView 41 = .ok (.ireturn, 1) := by decide +kernel
theorem dX3_is_0 : decode cX3_is 0 = .ok (.aload_n 0, 1) := by decide +kernel
theorem dX3_is_1 : decode cX3_is 1 = .ok (.iload_n 1, 1) := by decide +kernel
theorem dX3_is_2 : decode cX3_is 2 = .ok (.invokevirtual 97, 3) := by decide +kernel
theorem dX3_is_5 : decode cX3_is 5 = .ok (.ifCond .eq 11, 3) := by decide +kernel
theorem dX3_is_8 : decode cX3_is 8 = .ok (.iload_n 2, 1) := by decide +kernel
theorem dX3_is_9 : decode cX3_is 9 = .ok (.iload_n 3, 1) := by decide +kernel
theorem dX3_is_10 : decode cX3_is 10 = .ok (.invokestatic 111, 3) := by decide +kernel
theorem dX3_is_13 : decode cX3_is 13 = .ok (.ifCond .ne 6, 3) := by decide +kernel
theorem dX3_is_16 : decode cX3_is 16 = .ok (.bipush (-2), 2) := by decide +kernel
theorem dX3_is_18 : decode cX3_is 18 = .ok (.ireturn, 1) := by decide +kernel
theorem dX3_is_19 : decode cX3_is 19 = .ok (.aload_n 0, 1) := by decide +kernel
theorem dX3_is_20 : decode cX3_is 20 = .ok (.iload_n 1, 1) := by decide +kernel
theorem dX3_is_21 : decode cX3_is 21 = .ok (.iload_n 2, 1) := by decide +kernel
theorem dX3_is_22 : decode cX3_is 22 = .ok (.iload_n 3, 1) := by decide +kernel
theorem dX3_is_23 : decode cX3_is 23 = .ok (.invokevirtual 90, 3) := by decide +kernel
theorem dX3_is_26 : decode cX3_is 26 = .ok (.ifCond .eq 7, 3) := by decide +kernel
theorem dX3_is_29 : decode cX3_is 29 = .ok (.iconst 1, 1) := by decide +kernel
theorem dX3_is_30 : decode cX3_is 30 = .ok (.goto 4, 3) := by decide +kernel
theorem dX3_is_33 : decode cX3_is 33 = .ok (.iconst 0, 1) := by decide +kernel
theorem dX3_is_34 : decode cX3_is 34 = .ok (.ireturn, 1) := by decide +kernel
theorem dX3_about_0 : decode cX3_about 0 = .ok (.aload_n 0, 1) := by decide +kernel
theorem dX3_about_1 : decode cX3_about 1 = .ok (.iload_n 1, 1) := by decide +kernel
theorem dX3_about_2 : decode cX3_about 2 = .ok (.invokevirtual 97, 3) := by decide +kernel
theorem dX3_about_5 : decode cX3_about 5 = .ok (.ifCond .eq 12, 3) := by decide +kernel
theorem dX3_about_8 : decode cX3_about 8 = .ok (.iload_n 2, 1) := by decide +kernel
theorem dX3_about_9 : decode cX3_about 9 = .ok (.iconst 0, 1) := by decide +kernel
theorem dX3_about_10 : decode cX3_about 10 = .ok (.iconst 2, 1) := by decide +kernel
theorem dX3_about_11 : decode cX3_about 11 = .ok (.invokestatic 78, 3) := by decide +kernel
theorem dX3_about_14 : decode cX3_about 14 = .ok (.ifCond .ne 6, 3) := by decide +kernel
theorem dX3_about_17 : decode cX3_about 17 = .ok (.bipush (-2), 2) := by decide +kernel
theorem dX3_about_19 : decode cX3_about 19 = .ok (.ireturn, 1) := by decide +kernel
theorem dX3_about_20 : decode cX3_about 20 = .ok (.iload_n 2, 1) := by decide +kernel
theorem dX3_about_21 : decode cX3_about 21 = .ok (.ifCond .ne 12, 3) := by decide +kernel
theorem dX3_about_24 : decode cX3_about 24 = .ok (.aload_n 0, 1) := by decide +kernel
theorem dX3_about_25 : decode cX3_about 25 = .ok (.getfield 7, 3) := by decide +kernel
theorem dX3_about_28 : decode cX3_about 28 = .ok (.iload_n 1, 1) := by decide +kernel
theorem dX3_about_29 : decode cX3_about 29 = .ok (.iaload, 1) := by decide +kernel
theorem dX3_about_30 : decode cX3_about 30 = .ok (.goto 23, 3) := by decide +kernel
theorem dX3_about_33 : decode cX3_about 33 = .ok (.iload_n 2, 1) := by decide +kernel
theorem dX3_about_34 : decode cX3_about 34 = .ok (.iconst 1, 1) := by decide +kernel
theorem dX3_about_35 : decode cX3_about 35 = .ok (.if_icmp .ne 12, 3) := by decide +kernel
theorem dX3_about_38 : decode cX3_about 38 = .ok (.aload_n 0, 1) := by decide +kernel
theorem dX3_about_39 : decode cX3_about 39 = .ok (.getfield 13, 3) := by decide +kernel
theorem dX3_about_42 : decode cX3_about 42 = .ok (.iload_n 1, 1) := by decide +kernel
theorem dX3_about_43 : decode cX3_about 43 = .ok (.iaload, 1) := by decide +kernel
theorem dX3_about_44 : decode cX3_about 44 = .ok (.goto 9, 3) := by decide +kernel
theorem dX3_about_47 : decode cX3_about 47 = .ok (.aload_n 0, 1) := by decide +kernel
theorem dX3_about_48 : decode cX3_about 48 = .ok (.getfield 19, 3) := by decide +kernel
theorem dX3_about_51 : decode cX3_about 51 = .ok (.iload_n 1, 1) := by decide +kernel
theorem dX3_about_52 : decode cX3_about 52 = .ok (.iaload, 1) := by decide +kernel
theorem dX3_about_53 : decode cX3_about 53 = .ok (.ireturn, 1) := by decide +kernel
theorem dX3_counter_0 : decode cX3_counter 0 = .ok (.iload_n 1, 1) := by decide +kernel
theorem dX3_counter_1 : decode cX3_counter 1 = .ok (.iconst 0, 1) := by decide +kernel
theorem dX3_counter_2 : decode cX3_counter 2 = .ok (.bipush 7, 2) := by decide +kernel
theorem dX3_counter_4 : decode cX3_counter 4 = .ok (.invokestatic 78, 3) := by decide +kernel
theorem dX3_counter_7 : decode cX3_counter 7 = .ok (.ifCond .eq 21, 3) := by decide +kernel
theorem dX3_counter_10 : decode cX3_counter 10 = .ok (.iload_n 2, 1) := by decide +kernel
theorem dX3_counter_11 : decode cX3_counter 11 = .ok (.iload_n 3, 1) := by decide +kernel
theorem dX3_counter_12 : decode cX3_counter 12 = .ok (.invokestatic 111, 3) := by decide +kernel
theorem dX3_counter_15 : decode cX3_counter 15 = .ok (.ifCond .eq 13, 3) := by decide +kernel
theorem dX3_counter_18 : decode cX3_counter 18 = .ok (.iload 4, 2) := by decide +kernel
theorem dX3_counter_20 : decode cX3_counter 20 = .ok (.iload 5, 2) := by decide +kernel
theorem dX3_counter_22 : decode cX3_counter 22 = .ok (.invokestatic 111, 3) := by decide +kernel
theorem dX3_counter_25 : decode cX3_counter 25 = .ok (.ifCond .ne 6, 3) := by decide +kernel
theorem dX3_counter_28 : decode cX3_counter 28 = .ok (.bipush (-2), 2) := by decide +kernel
theorem dX3_counter_30 : decode cX3_counter 30 = .ok (.ireturn, 1) := by decide +kernel
theorem dX3_counter_31 : decode cX3_counter 31 = .ok (.aload_n 0, 1) := by decide +kernel
theorem dX3_counter_32 : decode cX3_counter 32 = .ok (.getfield 25, 3) := by decide +kernel
theorem dX3_counter_35 : decode cX3_counter 35 = .ok (.iload_n 1, 1) := by decide +kernel
theorem dX3_counter_36 : decode cX3_counter 36 = .ok (.iconst 1, 1) := by decide +kernel
theorem dX3_counter_37 : decode cX3_counter 37 = .ok (.bastore, 1) := by decide +kernel
theorem dX3_counter_38 : decode cX3_counter 38 = .ok (.aload_n 0, 1) := by decide +kernel
theorem dX3_counter_39 : decode cX3_counter 39 = .ok (.getfield 29, 3) := by decide +kernel
theorem dX3_counter_42 : decode cX3_counter 42 = .ok (.iload_n 1, 1) := by decide +kernel
theorem dX3_counter_43 : decode cX3_counter 43 = .ok (.iconst 0, 1) := by decide +kernel
theorem dX3_counter_44 : decode cX3_counter 44 = .ok (.bastore, 1) := by decide +kernel
theorem dX3_counter_45 : decode cX3_counter 45 = .ok (.aload_n 0, 1) := by decide +kernel
theorem dX3_counter_46 : decode cX3_counter 46 = .ok (.getfield 32, 3) := by decide +kernel
theorem dX3_counter_49 : decode cX3_counter 49 = .ok (.iload_n 1, 1) := by decide +kernel
theorem dX3_counter_50 : decode cX3_counter 50 = .ok (.iconst 0, 1) := by decide +kernel
theorem dX3_counter_51 : decode cX3_counter 51 = .ok (.bastore, 1) := by decide +kernel
theorem dX3_counter_52 : decode cX3_counter 52 = .ok (.aload_n 0, 1) := by decide +kernel
theorem dX3_counter_53 : decode cX3_counter 53 = .ok (.getfield 35, 3) := by decide +kernel
theorem dX3_counter_56 : decode cX3_counter 56 = .ok (.iload_n 1, 1) := by decide +kernel
theorem dX3_counter_57 : decode cX3_counter 57 = .ok (.iload_n 2, 1) := by decide +kernel
theorem dX3_counter_58 : decode cX3_counter 58 = .ok (.iastore, 1) := by decide +kernel
theorem dX3_counter_59 : decode cX3_counter 59 = .ok (.aload_n 0, 1) := by decide +kernel
theorem dX3_counter_60 : decode cX3_counter 60 = .ok (.getfield 38, 3) := by decide +kernel
theorem dX3_counter_63 : decode cX3_counter 63 = .ok (.iload_n 1, 1) := by decide +kernel
theorem dX3_counter_64 : decode cX3_counter 64 = .ok (.iload_n 3, 1) := by decide +kernel
theorem dX3_counter_65 : decode cX3_counter 65 = .ok (.iastore, 1) := by decide +kernel
theorem dX3_counter_66 : decode cX3_counter 66 = .ok (.aload_n 0, 1) := by decide +kernel
theorem dX3_counter_67 : decode cX3_counter 67 = .ok (.getfield 41, 3) := by decide +kernel
theorem dX3_counter_70 : decode cX3_counter 70 = .ok (.iload_n 1, 1) := by decide +kernel
theorem dX3_counter_71 : decode cX3_counter 71 = .ok (.iload 4, 2) := by decide +kernel
theorem dX3_counter_73 : decode cX3_counter 73 = .ok (.iastore, 1) := by decide +kernel
theorem dX3_counter_74 : decode cX3_counter 74 = .ok (.aload_n 0, 1) := by decide +kernel
theorem dX3_counter_75 : decode cX3_counter 75 = .ok (.getfield 44, 3) := by decide +kernel
theorem dX3_counter_78 : decode cX3_counter 78 = .ok (.iload_n 1, 1) := by decide +kernel
theorem dX3_counter_79 : decode cX3_counter 79 = .ok (.iload 5, 2) := by decide +kernel
theorem dX3_counter_81 : decode cX3_counter 81 = .ok (.iastore, 1) := by decide +kernel
theorem dX3_counter_82 : decode cX3_counter 82 = .ok (.aload_n 0, 1) := by decide +kernel
theorem dX3_counter_83 : decode cX3_counter 83 = .ok (.getfield 47, 3) := by decide +kernel
theorem dX3_counter_86 : decode cX3_counter 86 = .ok (.iload_n 1, 1) := by decide +kernel
theorem dX3_counter_87 : decode cX3_counter 87 = .ok (.iconst 0, 1) := by decide +kernel
theorem dX3_counter_88 : decode cX3_counter 88 = .ok (.iastore, 1) := by decide +kernel
theorem dX3_counter_89 : decode cX3_counter 89 = .ok (.aload_n 0, 1) := by decide +kernel
theorem dX3_counter_90 : decode cX3_counter 90 = .ok (.getfield 50, 3) := by decide +kernel
theorem dX3_counter_93 : decode cX3_counter 93 = .ok (.iload_n 1, 1) := by decide +kernel
theorem dX3_counter_94 : decode cX3_counter 94 = .ok (.iconst 0, 1) := by decide +kernel
theorem dX3_counter_95 : decode cX3_counter 95 = .ok (.iastore, 1) := by decide +kernel
theorem dX3_counter_96 : decode cX3_counter 96 = .ok (.aload_n 0, 1) := by decide +kernel
theorem dX3_counter_97 : decode cX3_counter 97 = .ok (.getfield 53, 3) := by decide +kernel
theorem dX3_counter_100 : decode cX3_counter 100 = .ok (.iload_n 1, 1) := by decide +kernel
theorem dX3_counter_101 : decode cX3_counter 101 = .ok (.iconst (-1), 1) := by decide +kernel
theorem dX3_counter_102 : decode cX3_counter 102 = .ok (.iastore, 1) := by decide +kernel
theorem dX3_counter_103 : decode cX3_counter 103 = .ok (.aload_n 0, 1) := by decide +kernel
theorem dX3_counter_104 : decode cX3_counter 104 = .ok (.getfield 56, 3) := by decide +kernel
theorem dX3_counter_107 : decode cX3_counter 107 = .ok (.iload_n 1, 1) := by decide +kernel
theorem dX3_counter_108 : decode cX3_counter 108 = .ok (.iconst 0, 1) := by decide +kernel
theorem dX3_counter_109 : decode cX3_counter 109 = .ok (.iastore, 1) := by decide +kernel
theorem dX3_counter_110 : decode cX3_counter 110 = .ok (.aload_n 0, 1) := by decide +kernel
theorem dX3_counter_111 : decode cX3_counter 111 = .ok (.getfield 59, 3) := by decide +kernel
theorem dX3_counter_114 : decode cX3_counter 114 = .ok (.iload_n 1, 1) := by decide +kernel
theorem dX3_counter_115 : decode cX3_counter 115 = .ok (.iconst 0, 1) := by decide +kernel
theorem dX3_counter_116 : decode cX3_counter 116 = .ok (.iastore, 1) := by decide +kernel
theorem dX3_counter_117 : decode cX3_counter 117 = .ok (.iconst 1, 1) := by decide +kernel
theorem dX3_counter_118 : decode cX3_counter 118 = .ok (.ireturn, 1) := by decide +kernel
theorem dX3_isCounter_0 : decode cX3_isCounter 0 = .ok (.iload_n 1, 1) := by decide +kernel
theorem dX3_isCounter_1 : decode cX3_isCounter 1 = .ok (.iconst 0, 1) := by decide +kernel
theorem dX3_isCounter_2 : decode cX3_isCounter 2 = .ok (.bipush 7, 2) := by decide +kernel
theorem dX3_isCounter_4 : decode cX3_isCounter 4 = .ok (.invokestatic 78, 3) := by decide +kernel
theorem dX3_isCounter_7 : decode cX3_isCounter 7 = .ok (.ifCond .eq 16, 3) := by decide +kernel
theorem dX3_isCounter_10 : decode cX3_isCounter 10 = .ok (.aload_n 0, 1) := by decide +kernel
theorem dX3_isCounter_11 : decode cX3_isCounter 11 = .ok (.getfield 25, 3) := by decide +kernel
theorem dX3_isCounter_14 : decode cX3_isCounter 14 = .ok (.iload_n 1, 1) := by decide +kernel
theorem dX3_isCounter_15 : decode cX3_isCounter 15 = .ok (.baload, 1) := by decide +kernel
theorem dX3_isCounter_16 : decode cX3_isCounter 16 = .ok (.ifCond .eq 7, 3) := by decide +kernel
theorem dX3_isCounter_19 : decode cX3_isCounter 19 = .ok (.iconst 1, 1) := by decide +kernel
theorem dX3_isCounter_20 : decode cX3_isCounter 20 = .ok (.goto 4, 3) := by decide +kernel
theorem dX3_isCounter_23 : decode cX3_isCounter 23 = .ok (.iconst 0, 1) := by decide +kernel
theorem dX3_isCounter_24 : decode cX3_isCounter 24 = .ok (.ireturn, 1) := by decide +kernel
theorem dX3_job_0 : decode cX3_job 0 = .ok (.aload_n 0, 1) := by decide +kernel
theorem dX3_job_1 : decode cX3_job 1 = .ok (.iload_n 1, 1) := by decide +kernel
theorem dX3_job_2 : decode cX3_job 2 = .ok (.invokevirtual 114, 3) := by decide +kernel
theorem dX3_job_5 : decode cX3_job 5 = .ok (.ifCond .eq 37, 3) := by decide +kernel
theorem dX3_job_8 : decode cX3_job 8 = .ok (.iload_n 2, 1) := by decide +kernel
theorem dX3_job_9 : decode cX3_job 9 = .ok (.iconst 0, 1) := by decide +kernel
theorem dX3_job_10 : decode cX3_job 10 = .ok (.iconst 5, 1) := by decide +kernel
theorem dX3_job_11 : decode cX3_job 11 = .ok (.invokestatic 78, 3) := by decide +kernel
theorem dX3_job_14 : decode cX3_job 14 = .ok (.ifCond .eq 28, 3) := by decide +kernel
theorem dX3_job_17 : decode cX3_job 17 = .ok (.iload 4, 2) := by decide +kernel
theorem dX3_job_19 : decode cX3_job 19 = .ok (.iconst (-1), 1) := by decide +kernel
theorem dX3_job_20 : decode cX3_job 20 = .ok (.if_icmp .eq 12, 3) := by decide +kernel
theorem dX3_job_23 : decode cX3_job 23 = .ok (.aload_n 0, 1) := by decide +kernel
theorem dX3_job_24 : decode cX3_job 24 = .ok (.iload 4, 2) := by decide +kernel
theorem dX3_job_26 : decode cX3_job 26 = .ok (.invokevirtual 97, 3) := by decide +kernel
theorem dX3_job_29 : decode cX3_job 29 = .ok (.ifCond .eq 13, 3) := by decide +kernel
theorem dX3_job_32 : decode cX3_job 32 = .ok (.iload 5, 2) := by decide +kernel
theorem dX3_job_34 : decode cX3_job 34 = .ok (.iconst 0, 1) := by decide +kernel
theorem dX3_job_35 : decode cX3_job 35 = .ok (.iconst 1, 1) := by decide +kernel
theorem dX3_job_36 : decode cX3_job 36 = .ok (.invokestatic 78, 3) := by decide +kernel
theorem dX3_job_39 : decode cX3_job 39 = .ok (.ifCond .ne 6, 3) := by decide +kernel
theorem dX3_job_42 : decode cX3_job 42 = .ok (.bipush (-2), 2) := by decide +kernel
theorem dX3_job_44 : decode cX3_job 44 = .ok (.ireturn, 1) := by decide +kernel
theorem dX3_job_45 : decode cX3_job 45 = .ok (.iload_n 2, 1) := by decide +kernel
theorem dX3_job_46 : decode cX3_job 46 = .ok (.iconst 2, 1) := by decide +kernel
theorem dX3_job_47 : decode cX3_job 47 = .ok (.iconst 4, 1) := by decide +kernel
theorem dX3_job_48 : decode cX3_job 48 = .ok (.invokestatic 78, 3) := by decide +kernel
theorem dX3_job_51 : decode cX3_job 51 = .ok (.ifCond .eq 35, 3) := by decide +kernel
theorem dX3_job_54 : decode cX3_job 54 = .ok (.aload_n 0, 1) := by decide +kernel
theorem dX3_job_55 : decode cX3_job 55 = .ok (.getfield 44, 3) := by decide +kernel
theorem dX3_job_58 : decode cX3_job 58 = .ok (.iload_n 1, 1) := by decide +kernel
theorem dX3_job_59 : decode cX3_job 59 = .ok (.iaload, 1) := by decide +kernel
theorem dX3_job_60 : decode cX3_job 60 = .ok (.ifCond .eq 23, 3) := by decide +kernel
theorem dX3_job_63 : decode cX3_job 63 = .ok (.aload_n 0, 1) := by decide +kernel
theorem dX3_job_64 : decode cX3_job 64 = .ok (.getfield 41, 3) := by decide +kernel
theorem dX3_job_67 : decode cX3_job 67 = .ok (.iload_n 1, 1) := by decide +kernel
theorem dX3_job_68 : decode cX3_job 68 = .ok (.iaload, 1) := by decide +kernel
theorem dX3_job_69 : decode cX3_job 69 = .ok (.iconst 3, 1) := by decide +kernel
theorem dX3_job_70 : decode cX3_job 70 = .ok (.if_icmp .le 16, 3) := by decide +kernel
theorem dX3_job_73 : decode cX3_job 73 = .ok (.aload_n 0, 1) := by decide +kernel
theorem dX3_job_74 : decode cX3_job 74 = .ok (.getfield 44, 3) := by decide +kernel
theorem dX3_job_77 : decode cX3_job 77 = .ok (.iload_n 1, 1) := by decide +kernel
theorem dX3_job_78 : decode cX3_job 78 = .ok (.iaload, 1) := by decide +kernel
theorem dX3_job_79 : decode cX3_job 79 = .ok (.iconst 1, 1) := by decide +kernel
theorem dX3_job_80 : decode cX3_job 80 = .ok (.if_icmp .ne 6, 3) := by decide +kernel
theorem dX3_job_83 : decode cX3_job 83 = .ok (.bipush (-2), 2) := by decide +kernel
theorem dX3_job_85 : decode cX3_job 85 = .ok (.ireturn, 1) := by decide +kernel
theorem dX3_job_86 : decode cX3_job 86 = .ok (.aload_n 0, 1) := by decide +kernel
theorem dX3_job_87 : decode cX3_job 87 = .ok (.getfield 47, 3) := by decide +kernel
theorem dX3_job_90 : decode cX3_job 90 = .ok (.iload_n 1, 1) := by decide +kernel
theorem dX3_job_91 : decode cX3_job 91 = .ok (.iload_n 2, 1) := by decide +kernel
theorem dX3_job_92 : decode cX3_job 92 = .ok (.iastore, 1) := by decide +kernel
theorem dX3_job_93 : decode cX3_job 93 = .ok (.aload_n 0, 1) := by decide +kernel
theorem dX3_job_94 : decode cX3_job 94 = .ok (.getfield 50, 3) := by decide +kernel
theorem dX3_job_97 : decode cX3_job 97 = .ok (.iload_n 1, 1) := by decide +kernel
theorem dX3_job_98 : decode cX3_job 98 = .ok (.iload_n 3, 1) := by decide +kernel
theorem dX3_job_99 : decode cX3_job 99 = .ok (.iastore, 1) := by decide +kernel
theorem dX3_job_100 : decode cX3_job 100 = .ok (.aload_n 0, 1) := by decide +kernel
theorem dX3_job_101 : decode cX3_job 101 = .ok (.getfield 53, 3) := by decide +kernel
theorem dX3_job_104 : decode cX3_job 104 = .ok (.iload_n 1, 1) := by decide +kernel
theorem dX3_job_105 : decode cX3_job 105 = .ok (.iload 4, 2) := by decide +kernel
theorem dX3_job_107 : decode cX3_job 107 = .ok (.iastore, 1) := by decide +kernel
theorem dX3_job_108 : decode cX3_job 108 = .ok (.aload_n 0, 1) := by decide +kernel
theorem dX3_job_109 : decode cX3_job 109 = .ok (.getfield 32, 3) := by decide +kernel
theorem dX3_job_112 : decode cX3_job 112 = .ok (.iload_n 1, 1) := by decide +kernel
theorem dX3_job_113 : decode cX3_job 113 = .ok (.iload 5, 2) := by decide +kernel
theorem dX3_job_115 : decode cX3_job 115 = .ok (.iconst 1, 1) := by decide +kernel
theorem dX3_job_116 : decode cX3_job 116 = .ok (.if_icmp .ne 7, 3) := by decide +kernel
theorem dX3_job_119 : decode cX3_job 119 = .ok (.iconst 1, 1) := by decide +kernel
theorem dX3_job_120 : decode cX3_job 120 = .ok (.goto 4, 3) := by decide +kernel
theorem dX3_job_123 : decode cX3_job 123 = .ok (.iconst 0, 1) := by decide +kernel
theorem dX3_job_124 : decode cX3_job 124 = .ok (.bastore, 1) := by decide +kernel
theorem dX3_job_125 : decode cX3_job 125 = .ok (.iconst 1, 1) := by decide +kernel
theorem dX3_job_126 : decode cX3_job 126 = .ok (.ireturn, 1) := by decide +kernel
theorem dX3_shut_0 : decode cX3_shut 0 = .ok (.aload_n 0, 1) := by decide +kernel
theorem dX3_shut_1 : decode cX3_shut 1 = .ok (.iload_n 1, 1) := by decide +kernel
theorem dX3_shut_2 : decode cX3_shut 2 = .ok (.invokevirtual 114, 3) := by decide +kernel
theorem dX3_shut_5 : decode cX3_shut 5 = .ok (.ifCond .ne 6, 3) := by decide +kernel
theorem dX3_shut_8 : decode cX3_shut 8 = .ok (.bipush (-2), 2) := by decide +kernel
theorem dX3_shut_10 : decode cX3_shut 10 = .ok (.ireturn, 1) := by decide +kernel
theorem dX3_shut_11 : decode cX3_shut 11 = .ok (.aload_n 0, 1) := by decide +kernel
theorem dX3_shut_12 : decode cX3_shut 12 = .ok (.getfield 29, 3) := by decide +kernel
theorem dX3_shut_15 : decode cX3_shut 15 = .ok (.iload_n 1, 1) := by decide +kernel
theorem dX3_shut_16 : decode cX3_shut 16 = .ok (.baload, 1) := by decide +kernel
theorem dX3_shut_17 : decode cX3_shut 17 = .ok (.ifCond .eq 7, 3) := by decide +kernel
theorem dX3_shut_20 : decode cX3_shut 20 = .ok (.iconst 1, 1) := by decide +kernel
theorem dX3_shut_21 : decode cX3_shut 21 = .ok (.goto 4, 3) := by decide +kernel
theorem dX3_shut_24 : decode cX3_shut 24 = .ok (.iconst 0, 1) := by decide +kernel
theorem dX3_shut_25 : decode cX3_shut 25 = .ok (.istore_n 3, 1) := by decide +kernel
theorem dX3_shut_26 : decode cX3_shut 26 = .ok (.aload_n 0, 1) := by decide +kernel
theorem dX3_shut_27 : decode cX3_shut 27 = .ok (.getfield 29, 3) := by decide +kernel
theorem dX3_shut_30 : decode cX3_shut 30 = .ok (.iload_n 1, 1) := by decide +kernel
theorem dX3_shut_31 : decode cX3_shut 31 = .ok (.iload_n 2, 1) := by decide +kernel
theorem dX3_shut_32 : decode cX3_shut 32 = .ok (.bastore, 1) := by decide +kernel
theorem dX3_shut_33 : decode cX3_shut 33 = .ok (.iload_n 3, 1) := by decide +kernel
theorem dX3_shut_34 : decode cX3_shut 34 = .ok (.ireturn, 1) := by decide +kernel
theorem dX3_begin_0 : decode cX3_begin 0 = .ok (.aload_n 0, 1) := by decide +kernel
theorem dX3_begin_1 : decode cX3_begin 1 = .ok (.getfield 62, 3) := by decide +kernel
theorem dX3_begin_4 : decode cX3_begin 4 = .ok (.aload_n 0, 1) := by decide +kernel
theorem dX3_begin_5 : decode cX3_begin 5 = .ok (.getfield 117, 3) := by decide +kernel
theorem dX3_begin_8 : decode cX3_begin 8 = .ok (.iload_n 1, 1) := by decide +kernel
theorem dX3_begin_9 : decode cX3_begin 9 = .ok (.iastore, 1) := by decide +kernel
theorem dX3_begin_10 : decode cX3_begin 10 = .ok (.aload_n 0, 1) := by decide +kernel
theorem dX3_begin_11 : decode cX3_begin 11 = .ok (.getfield 65, 3) := by decide +kernel
theorem dX3_begin_14 : decode cX3_begin 14 = .ok (.aload_n 0, 1) := by decide +kernel
theorem dX3_begin_15 : decode cX3_begin 15 = .ok (.getfield 117, 3) := by decide +kernel
theorem dX3_begin_18 : decode cX3_begin 18 = .ok (.iload_n 2, 1) := by decide +kernel
theorem dX3_begin_19 : decode cX3_begin 19 = .ok (.iastore, 1) := by decide +kernel
theorem dX3_begin_20 : decode cX3_begin 20 = .ok (.aload_n 0, 1) := by decide +kernel
theorem dX3_begin_21 : decode cX3_begin 21 = .ok (.getfield 68, 3) := by decide +kernel
theorem dX3_begin_24 : decode cX3_begin 24 = .ok (.aload_n 0, 1) := by decide +kernel
theorem dX3_begin_25 : decode cX3_begin 25 = .ok (.getfield 117, 3) := by decide +kernel
theorem dX3_begin_28 : decode cX3_begin 28 = .ok (.iconst (-1), 1) := by decide +kernel
theorem dX3_begin_29 : decode cX3_begin 29 = .ok (.iastore, 1) := by decide +kernel
theorem dX3_begin_30 : decode cX3_begin 30 = .ok (.aload_n 0, 1) := by decide +kernel
theorem dX3_begin_31 : decode cX3_begin 31 = .ok (.dup, 1) := by decide +kernel
theorem dX3_begin_32 : decode cX3_begin 32 = .ok (.getfield 117, 3) := by decide +kernel
theorem dX3_begin_35 : decode cX3_begin 35 = .ok (.iconst 1, 1) := by decide +kernel
theorem dX3_begin_36 : decode cX3_begin 36 = .ok (.iadd, 1) := by decide +kernel
theorem dX3_begin_37 : decode cX3_begin 37 = .ok (.putfield 117, 3) := by decide +kernel
theorem dX3_begin_40 : decode cX3_begin 40 = .ok (.return_, 1) := by decide +kernel
theorem dX3_meeting_0 : decode cX3_meeting 0 = .ok (.iload_n 2, 1) := by decide +kernel
theorem dX3_meeting_1 : decode cX3_meeting 1 = .ok (.istore_n 3, 1) := by decide +kernel
theorem dX3_meeting_2 : decode cX3_meeting 2 = .ok (.iload_n 3, 1) := by decide +kernel
theorem dX3_meeting_3 : decode cX3_meeting 3 = .ok (.bipush 8, 2) := by decide +kernel
theorem dX3_meeting_5 : decode cX3_meeting 5 = .ok (.if_icmp .ge 49, 3) := by decide +kernel
theorem dX3_meeting_8 : decode cX3_meeting 8 = .ok (.aload_n 0, 1) := by decide +kernel
theorem dX3_meeting_9 : decode cX3_meeting 9 = .ok (.getfield 25, 3) := by decide +kernel
theorem dX3_meeting_12 : decode cX3_meeting 12 = .ok (.iload_n 3, 1) := by decide +kernel
theorem dX3_meeting_13 : decode cX3_meeting 13 = .ok (.baload, 1) := by decide +kernel
theorem dX3_meeting_14 : decode cX3_meeting 14 = .ok (.ifCond .eq 34, 3) := by decide +kernel
theorem dX3_meeting_17 : decode cX3_meeting 17 = .ok (.aload_n 0, 1) := by decide +kernel
theorem dX3_meeting_18 : decode cX3_meeting 18 = .ok (.getfield 29, 3) := by decide +kernel
theorem dX3_meeting_21 : decode cX3_meeting 21 = .ok (.iload_n 3, 1) := by decide +kernel
theorem dX3_meeting_22 : decode cX3_meeting 22 = .ok (.baload, 1) := by decide +kernel
theorem dX3_meeting_23 : decode cX3_meeting 23 = .ok (.ifCond .ne 25, 3) := by decide +kernel
theorem dX3_meeting_26 : decode cX3_meeting 26 = .ok (.aload_n 0, 1) := by decide +kernel
theorem dX3_meeting_27 : decode cX3_meeting 27 = .ok (.iload_n 1, 1) := by decide +kernel
theorem dX3_meeting_28 : decode cX3_meeting 28 = .ok (.aload_n 0, 1) := by decide +kernel
theorem dX3_meeting_29 : decode cX3_meeting 29 = .ok (.getfield 35, 3) := by decide +kernel
theorem dX3_meeting_32 : decode cX3_meeting 32 = .ok (.iload_n 3, 1) := by decide +kernel
theorem dX3_meeting_33 : decode cX3_meeting 33 = .ok (.iaload, 1) := by decide +kernel
theorem dX3_meeting_34 : decode cX3_meeting 34 = .ok (.aload_n 0, 1) := by decide +kernel
theorem dX3_meeting_35 : decode cX3_meeting 35 = .ok (.getfield 38, 3) := by decide +kernel
theorem dX3_meeting_38 : decode cX3_meeting 38 = .ok (.iload_n 3, 1) := by decide +kernel
theorem dX3_meeting_39 : decode cX3_meeting 39 = .ok (.iaload, 1) := by decide +kernel
theorem dX3_meeting_40 : decode cX3_meeting 40 = .ok (.invokevirtual 90, 3) := by decide +kernel
theorem dX3_meeting_43 : decode cX3_meeting 43 = .ok (.ifCond .eq 5, 3) := by decide +kernel
theorem dX3_meeting_46 : decode cX3_meeting 46 = .ok (.iload_n 3, 1) := by decide +kernel
theorem dX3_meeting_47 : decode cX3_meeting 47 = .ok (.ireturn, 1) := by decide +kernel
theorem dX3_meeting_48 : decode cX3_meeting 48 = .ok (.iinc 3 1, 3) := by decide +kernel
theorem dX3_meeting_51 : decode cX3_meeting 51 = .ok (.goto (-49), 3) := by decide +kernel
theorem dX3_meeting_54 : decode cX3_meeting 54 = .ok (.iconst (-1), 1) := by decide +kernel
theorem dX3_meeting_55 : decode cX3_meeting 55 = .ok (.ireturn, 1) := by decide +kernel
theorem dX3_mark_0 : decode cX3_mark 0 = .ok (.aload_n 0, 1) := by decide +kernel
theorem dX3_mark_1 : decode cX3_mark 1 = .ok (.getfield 13, 3) := by decide +kernel
theorem dX3_mark_4 : decode cX3_mark 4 = .ok (.iload_n 2, 1) := by decide +kernel
theorem dX3_mark_5 : decode cX3_mark 5 = .ok (.iaload, 1) := by decide +kernel
theorem dX3_mark_6 : decode cX3_mark 6 = .ok (.ifCond .ne 66, 3) := by decide +kernel
theorem dX3_mark_9 : decode cX3_mark 9 = .ok (.aload_n 0, 1) := by decide +kernel
theorem dX3_mark_10 : decode cX3_mark 10 = .ok (.getfield 41, 3) := by decide +kernel
theorem dX3_mark_13 : decode cX3_mark 13 = .ok (.iload_n 1, 1) := by decide +kernel
theorem dX3_mark_14 : decode cX3_mark 14 = .ok (.iaload, 1) := by decide +kernel
theorem dX3_mark_15 : decode cX3_mark 15 = .ok (.iconst 3, 1) := by decide +kernel
theorem dX3_mark_16 : decode cX3_mark 16 = .ok (.if_icmp .ne 21, 3) := by decide +kernel
theorem dX3_mark_19 : decode cX3_mark 19 = .ok (.aload_n 0, 1) := by decide +kernel
theorem dX3_mark_20 : decode cX3_mark 20 = .ok (.getfield 16, 3) := by decide +kernel
theorem dX3_mark_23 : decode cX3_mark 23 = .ok (.iload_n 2, 1) := by decide +kernel
theorem dX3_mark_24 : decode cX3_mark 24 = .ok (.dup2, 1) := by decide +kernel
theorem dX3_mark_25 : decode cX3_mark 25 = .ok (.iaload, 1) := by decide +kernel
theorem dX3_mark_26 : decode cX3_mark 26 = .ok (.aload_n 0, 1) := by decide +kernel
theorem dX3_mark_27 : decode cX3_mark 27 = .ok (.getfield 50, 3) := by decide +kernel
theorem dX3_mark_30 : decode cX3_mark 30 = .ok (.iload_n 1, 1) := by decide +kernel
theorem dX3_mark_31 : decode cX3_mark 31 = .ok (.iaload, 1) := by decide +kernel
theorem dX3_mark_32 : decode cX3_mark 32 = .ok (.isub, 1) := by decide +kernel
theorem dX3_mark_33 : decode cX3_mark 33 = .ok (.iastore, 1) := by decide +kernel
theorem dX3_mark_34 : decode cX3_mark 34 = .ok (.goto 36, 3) := by decide +kernel
theorem dX3_mark_37 : decode cX3_mark 37 = .ok (.aload_n 0, 1) := by decide +kernel
theorem dX3_mark_38 : decode cX3_mark 38 = .ok (.getfield 16, 3) := by decide +kernel
theorem dX3_mark_41 : decode cX3_mark 41 = .ok (.iload_n 2, 1) := by decide +kernel
theorem dX3_mark_42 : decode cX3_mark 42 = .ok (.aload_n 0, 1) := by decide +kernel
theorem dX3_mark_43 : decode cX3_mark 43 = .ok (.getfield 7, 3) := by decide +kernel
theorem dX3_mark_46 : decode cX3_mark 46 = .ok (.iload_n 2, 1) := by decide +kernel
theorem dX3_mark_47 : decode cX3_mark 47 = .ok (.iaload, 1) := by decide +kernel
theorem dX3_mark_48 : decode cX3_mark 48 = .ok (.iconst 1, 1) := by decide +kernel
theorem dX3_mark_49 : decode cX3_mark 49 = .ok (.if_icmp .ne 14, 3) := by decide +kernel
theorem dX3_mark_52 : decode cX3_mark 52 = .ok (.iconst 2, 1) := by decide +kernel
theorem dX3_mark_53 : decode cX3_mark 53 = .ok (.aload_n 0, 1) := by decide +kernel
theorem dX3_mark_54 : decode cX3_mark 54 = .ok (.getfield 50, 3) := by decide +kernel
theorem dX3_mark_57 : decode cX3_mark 57 = .ok (.iload_n 1, 1) := by decide +kernel
theorem dX3_mark_58 : decode cX3_mark 58 = .ok (.iaload, 1) := by decide +kernel
theorem dX3_mark_59 : decode cX3_mark 59 = .ok (.imul, 1) := by decide +kernel
theorem dX3_mark_60 : decode cX3_mark 60 = .ok (.goto 9, 3) := by decide +kernel
theorem dX3_mark_63 : decode cX3_mark 63 = .ok (.aload_n 0, 1) := by decide +kernel
theorem dX3_mark_64 : decode cX3_mark 64 = .ok (.getfield 50, 3) := by decide +kernel
theorem dX3_mark_67 : decode cX3_mark 67 = .ok (.iload_n 1, 1) := by decide +kernel
theorem dX3_mark_68 : decode cX3_mark 68 = .ok (.iaload, 1) := by decide +kernel
theorem dX3_mark_69 : decode cX3_mark 69 = .ok (.iastore, 1) := by decide +kernel
theorem dX3_mark_70 : decode cX3_mark 70 = .ok (.iconst 0, 1) := by decide +kernel
theorem dX3_mark_71 : decode cX3_mark 71 = .ok (.ireturn, 1) := by decide +kernel
theorem dX3_mark_72 : decode cX3_mark 72 = .ok (.aload_n 0, 1) := by decide +kernel
theorem dX3_mark_73 : decode cX3_mark 73 = .ok (.iload_n 2, 1) := by decide +kernel
theorem dX3_mark_74 : decode cX3_mark 74 = .ok (.invokevirtual 86, 3) := by decide +kernel
theorem dX3_mark_77 : decode cX3_mark 77 = .ok (.ifCond .eq 49, 3) := by decide +kernel
theorem dX3_mark_80 : decode cX3_mark 80 = .ok (.iconst 0, 1) := by decide +kernel
theorem dX3_mark_81 : decode cX3_mark 81 = .ok (.istore_n 3, 1) := by decide +kernel
theorem dX3_mark_82 : decode cX3_mark 82 = .ok (.iload_n 3, 1) := by decide +kernel
theorem dX3_mark_83 : decode cX3_mark 83 = .ok (.aload_n 0, 1) := by decide +kernel
theorem dX3_mark_84 : decode cX3_mark 84 = .ok (.getfield 19, 3) := by decide +kernel
theorem dX3_mark_87 : decode cX3_mark 87 = .ok (.iload_n 2, 1) := by decide +kernel
theorem dX3_mark_88 : decode cX3_mark 88 = .ok (.iaload, 1) := by decide +kernel
theorem dX3_mark_89 : decode cX3_mark 89 = .ok (.if_icmp .ge 35, 3) := by decide +kernel
theorem dX3_mark_92 : decode cX3_mark 92 = .ok (.aload_n 0, 1) := by decide +kernel
theorem dX3_mark_93 : decode cX3_mark 93 = .ok (.getfield 22, 3) := by decide +kernel
theorem dX3_mark_96 : decode cX3_mark 96 = .ok (.bipush 8, 2) := by decide +kernel
theorem dX3_mark_98 : decode cX3_mark 98 = .ok (.iload_n 2, 1) := by decide +kernel
theorem dX3_mark_99 : decode cX3_mark 99 = .ok (.imul, 1) := by decide +kernel
theorem dX3_mark_100 : decode cX3_mark 100 = .ok (.iload_n 3, 1) := by decide +kernel
theorem dX3_mark_101 : decode cX3_mark 101 = .ok (.iadd, 1) := by decide +kernel
theorem dX3_mark_102 : decode cX3_mark 102 = .ok (.aload_n 0, 1) := by decide +kernel
theorem dX3_mark_103 : decode cX3_mark 103 = .ok (.getfield 7, 3) := by decide +kernel
theorem dX3_mark_106 : decode cX3_mark 106 = .ok (.iload_n 2, 1) := by decide +kernel
theorem dX3_mark_107 : decode cX3_mark 107 = .ok (.iaload, 1) := by decide +kernel
theorem dX3_mark_108 : decode cX3_mark 108 = .ok (.aload_n 0, 1) := by decide +kernel
theorem dX3_mark_109 : decode cX3_mark 109 = .ok (.getfield 50, 3) := by decide +kernel
theorem dX3_mark_112 : decode cX3_mark 112 = .ok (.iload_n 1, 1) := by decide +kernel
theorem dX3_mark_113 : decode cX3_mark 113 = .ok (.iaload, 1) := by decide +kernel
theorem dX3_mark_114 : decode cX3_mark 114 = .ok (.invokestatic 107, 3) := by decide +kernel
theorem dX3_mark_117 : decode cX3_mark 117 = .ok (.iastore, 1) := by decide +kernel
theorem dX3_mark_118 : decode cX3_mark 118 = .ok (.iinc 3 1, 3) := by decide +kernel
theorem dX3_mark_121 : decode cX3_mark 121 = .ok (.goto (-39), 3) := by decide +kernel
theorem dX3_mark_124 : decode cX3_mark 124 = .ok (.iconst 0, 1) := by decide +kernel
theorem dX3_mark_125 : decode cX3_mark 125 = .ok (.ireturn, 1) := by decide +kernel
theorem dX3_mark_126 : decode cX3_mark 126 = .ok (.aload_n 0, 1) := by decide +kernel
theorem dX3_mark_127 : decode cX3_mark 127 = .ok (.getfield 19, 3) := by decide +kernel
theorem dX3_mark_130 : decode cX3_mark 130 = .ok (.iload_n 2, 1) := by decide +kernel
theorem dX3_mark_131 : decode cX3_mark 131 = .ok (.iaload, 1) := by decide +kernel
theorem dX3_mark_132 : decode cX3_mark 132 = .ok (.ifCond .ne 5, 3) := by decide +kernel
theorem dX3_mark_135 : decode cX3_mark 135 = .ok (.iconst 2, 1) := by decide +kernel
theorem dX3_mark_136 : decode cX3_mark 136 = .ok (.ireturn, 1) := by decide +kernel
theorem dX3_mark_137 : decode cX3_mark 137 = .ok (.aload_n 0, 1) := by decide +kernel
theorem dX3_mark_138 : decode cX3_mark 138 = .ok (.getfield 22, 3) := by decide +kernel
theorem dX3_mark_141 : decode cX3_mark 141 = .ok (.bipush 8, 2) := by decide +kernel
theorem dX3_mark_143 : decode cX3_mark 143 = .ok (.iload_n 2, 1) := by decide +kernel
theorem dX3_mark_144 : decode cX3_mark 144 = .ok (.imul, 1) := by decide +kernel
theorem dX3_mark_145 : decode cX3_mark 145 = .ok (.iconst (-1), 1) := by decide +kernel
theorem dX3_mark_146 : decode cX3_mark 146 = .ok (.iastore, 1) := by decide +kernel
theorem dX3_mark_147 : decode cX3_mark 147 = .ok (.iconst 0, 1) := by decide +kernel
theorem dX3_mark_148 : decode cX3_mark 148 = .ok (.ireturn, 1) := by decide +kernel
theorem dX3_lay_0 : decode cX3_lay 0 = .ok (.aload_n 0, 1) := by decide +kernel
theorem dX3_lay_1 : decode cX3_lay 1 = .ok (.getfield 53, 3) := by decide +kernel
theorem dX3_lay_4 : decode cX3_lay 4 = .ok (.iload_n 1, 1) := by decide +kernel
theorem dX3_lay_5 : decode cX3_lay 5 = .ok (.iaload, 1) := by decide +kernel
theorem dX3_lay_6 : decode cX3_lay 6 = .ok (.istore_n 3, 1) := by decide +kernel
theorem dX3_lay_7 : decode cX3_lay 7 = .ok (.iload_n 3, 1) := by decide +kernel
theorem dX3_lay_8 : decode cX3_lay 8 = .ok (.iconst (-1), 1) := by decide +kernel
theorem dX3_lay_9 : decode cX3_lay 9 = .ok (.if_icmp .eq 27, 3) := by decide +kernel
theorem dX3_lay_12 : decode cX3_lay 12 = .ok (.aload_n 0, 1) := by decide +kernel
theorem dX3_lay_13 : decode cX3_lay 13 = .ok (.iload_n 3, 1) := by decide +kernel
theorem dX3_lay_14 : decode cX3_lay 14 = .ok (.aload_n 0, 1) := by decide +kernel
theorem dX3_lay_15 : decode cX3_lay 15 = .ok (.getfield 41, 3) := by decide +kernel
theorem dX3_lay_18 : decode cX3_lay 18 = .ok (.iload_n 1, 1) := by decide +kernel
theorem dX3_lay_19 : decode cX3_lay 19 = .ok (.iaload, 1) := by decide +kernel
theorem dX3_lay_20 : decode cX3_lay 20 = .ok (.aload_n 0, 1) := by decide +kernel
theorem dX3_lay_21 : decode cX3_lay 21 = .ok (.getfield 44, 3) := by decide +kernel
theorem dX3_lay_24 : decode cX3_lay 24 = .ok (.iload_n 1, 1) := by decide +kernel
theorem dX3_lay_25 : decode cX3_lay 25 = .ok (.iaload, 1) := by decide +kernel
theorem dX3_lay_26 : decode cX3_lay 26 = .ok (.iconst 1, 1) := by decide +kernel
theorem dX3_lay_27 : decode cX3_lay 27 = .ok (.isub, 1) := by decide +kernel
theorem dX3_lay_28 : decode cX3_lay 28 = .ok (.invokevirtual 90, 3) := by decide +kernel
theorem dX3_lay_31 : decode cX3_lay 31 = .ok (.ifCond .ne 5, 3) := by decide +kernel
theorem dX3_lay_34 : decode cX3_lay 34 = .ok (.iconst 1, 1) := by decide +kernel
theorem dX3_lay_35 : decode cX3_lay 35 = .ok (.ireturn, 1) := by decide +kernel
theorem dX3_lay_36 : decode cX3_lay 36 = .ok (.aload_n 0, 1) := by decide +kernel
theorem dX3_lay_37 : decode cX3_lay 37 = .ok (.getfield 50, 3) := by decide +kernel
theorem dX3_lay_40 : decode cX3_lay 40 = .ok (.iload_n 1, 1) := by decide +kernel
theorem dX3_lay_41 : decode cX3_lay 41 = .ok (.iaload, 1) := by decide +kernel
theorem dX3_lay_42 : decode cX3_lay 42 = .ok (.iconst 0, 1) := by decide +kernel
theorem dX3_lay_43 : decode cX3_lay 43 = .ok (.aload_n 0, 1) := by decide +kernel
theorem dX3_lay_44 : decode cX3_lay 44 = .ok (.getfield 19, 3) := by decide +kernel
theorem dX3_lay_47 : decode cX3_lay 47 = .ok (.iload_n 2, 1) := by decide +kernel
theorem dX3_lay_48 : decode cX3_lay 48 = .ok (.iaload, 1) := by decide +kernel
theorem dX3_lay_49 : decode cX3_lay 49 = .ok (.iconst 1, 1) := by decide +kernel
theorem dX3_lay_50 : decode cX3_lay 50 = .ok (.isub, 1) := by decide +kernel
theorem dX3_lay_51 : decode cX3_lay 51 = .ok (.invokestatic 78, 3) := by decide +kernel
theorem dX3_lay_54 : decode cX3_lay 54 = .ok (.ifCond .ne 5, 3) := by decide +kernel
theorem dX3_lay_57 : decode cX3_lay 57 = .ok (.iconst 2, 1) := by decide +kernel
theorem dX3_lay_58 : decode cX3_lay 58 = .ok (.ireturn, 1) := by decide +kernel
theorem dX3_lay_59 : decode cX3_lay 59 = .ok (.aload_n 0, 1) := by decide +kernel
theorem dX3_lay_60 : decode cX3_lay 60 = .ok (.iload_n 2, 1) := by decide +kernel
theorem dX3_lay_61 : decode cX3_lay 61 = .ok (.iload_n 3, 1) := by decide +kernel
theorem dX3_lay_62 : decode cX3_lay 62 = .ok (.invokevirtual 103, 3) := by decide +kernel
theorem dX3_lay_65 : decode cX3_lay 65 = .ok (.ifCond .ne 5, 3) := by decide +kernel
theorem dX3_lay_68 : decode cX3_lay 68 = .ok (.iconst 3, 1) := by decide +kernel
theorem dX3_lay_69 : decode cX3_lay 69 = .ok (.ireturn, 1) := by decide +kernel
theorem dX3_lay_70 : decode cX3_lay 70 = .ok (.aload_n 0, 1) := by decide +kernel
theorem dX3_lay_71 : decode cX3_lay 71 = .ok (.getfield 22, 3) := by decide +kernel
theorem dX3_lay_74 : decode cX3_lay 74 = .ok (.bipush 8, 2) := by decide +kernel
theorem dX3_lay_76 : decode cX3_lay 76 = .ok (.iload_n 2, 1) := by decide +kernel
theorem dX3_lay_77 : decode cX3_lay 77 = .ok (.imul, 1) := by decide +kernel
theorem dX3_lay_78 : decode cX3_lay 78 = .ok (.aload_n 0, 1) := by decide +kernel
theorem dX3_lay_79 : decode cX3_lay 79 = .ok (.getfield 50, 3) := by decide +kernel
theorem dX3_lay_82 : decode cX3_lay 82 = .ok (.iload_n 1, 1) := by decide +kernel
theorem dX3_lay_83 : decode cX3_lay 83 = .ok (.iaload, 1) := by decide +kernel
theorem dX3_lay_84 : decode cX3_lay 84 = .ok (.iadd, 1) := by decide +kernel
theorem dX3_lay_85 : decode cX3_lay 85 = .ok (.iload_n 3, 1) := by decide +kernel
theorem dX3_lay_86 : decode cX3_lay 86 = .ok (.iastore, 1) := by decide +kernel
theorem dX3_lay_87 : decode cX3_lay 87 = .ok (.iconst 0, 1) := by decide +kernel
theorem dX3_lay_88 : decode cX3_lay 88 = .ok (.ireturn, 1) := by decide +kernel
theorem dX3_spreads_0 : decode cX3_spreads 0 = .ok (.aload_n 0, 1) := by decide +kernel
theorem dX3_spreads_1 : decode cX3_spreads 1 = .ok (.getfield 62, 3) := by decide +kernel
theorem dX3_spreads_4 : decode cX3_spreads 4 = .ok (.iload_n 1, 1) := by decide +kernel
theorem dX3_spreads_5 : decode cX3_spreads 5 = .ok (.iaload, 1) := by decide +kernel
theorem dX3_spreads_6 : decode cX3_spreads 6 = .ok (.istore_n 2, 1) := by decide +kernel
theorem dX3_spreads_7 : decode cX3_spreads 7 = .ok (.aload_n 0, 1) := by decide +kernel
theorem dX3_spreads_8 : decode cX3_spreads 8 = .ok (.getfield 68, 3) := by decide +kernel
theorem dX3_spreads_11 : decode cX3_spreads 11 = .ok (.iload_n 1, 1) := by decide +kernel
theorem dX3_spreads_12 : decode cX3_spreads 12 = .ok (.iaload, 1) := by decide +kernel
theorem dX3_spreads_13 : decode cX3_spreads 13 = .ok (.istore_n 3, 1) := by decide +kernel
theorem dX3_spreads_14 : decode cX3_spreads 14 = .ok (.aload_n 0, 1) := by decide +kernel
theorem dX3_spreads_15 : decode cX3_spreads 15 = .ok (.getfield 71, 3) := by decide +kernel
theorem dX3_spreads_18 : decode cX3_spreads 18 = .ok (.iload_n 1, 1) := by decide +kernel
theorem dX3_spreads_19 : decode cX3_spreads 19 = .ok (.iaload, 1) := by decide +kernel
theorem dX3_spreads_20 : decode cX3_spreads 20 = .ok (.istore 4, 2) := by decide +kernel
theorem dX3_spreads_22 : decode cX3_spreads 22 = .ok (.iload 4, 2) := by decide +kernel
theorem dX3_spreads_24 : decode cX3_spreads 24 = .ok (.aload_n 0, 1) := by decide +kernel
theorem dX3_spreads_25 : decode cX3_spreads 25 = .ok (.getfield 19, 3) := by decide +kernel
theorem dX3_spreads_28 : decode cX3_spreads 28 = .ok (.iload_n 2, 1) := by decide +kernel
theorem dX3_spreads_29 : decode cX3_spreads 29 = .ok (.iaload, 1) := by decide +kernel
theorem dX3_spreads_30 : decode cX3_spreads 30 = .ok (.if_icmp .ge 56, 3) := by decide +kernel
theorem dX3_spreads_33 : decode cX3_spreads 33 = .ok (.aload_n 0, 1) := by decide +kernel
theorem dX3_spreads_34 : decode cX3_spreads 34 = .ok (.getfield 22, 3) := by decide +kernel
theorem dX3_spreads_37 : decode cX3_spreads 37 = .ok (.bipush 8, 2) := by decide +kernel
theorem dX3_spreads_39 : decode cX3_spreads 39 = .ok (.iload_n 2, 1) := by decide +kernel
theorem dX3_spreads_40 : decode cX3_spreads 40 = .ok (.imul, 1) := by decide +kernel
theorem dX3_spreads_41 : decode cX3_spreads 41 = .ok (.iload 4, 2) := by decide +kernel
theorem dX3_spreads_43 : decode cX3_spreads 43 = .ok (.iadd, 1) := by decide +kernel
theorem dX3_spreads_44 : decode cX3_spreads 44 = .ok (.iaload, 1) := by decide +kernel
theorem dX3_spreads_45 : decode cX3_spreads 45 = .ok (.iconst (-1), 1) := by decide +kernel
theorem dX3_spreads_46 : decode cX3_spreads 46 = .ok (.if_icmp .eq 34, 3) := by decide +kernel
theorem dX3_spreads_49 : decode cX3_spreads 49 = .ok (.aload_n 0, 1) := by decide +kernel
theorem dX3_spreads_50 : decode cX3_spreads 50 = .ok (.getfield 71, 3) := by decide +kernel
theorem dX3_spreads_53 : decode cX3_spreads 53 = .ok (.iload_n 1, 1) := by decide +kernel
theorem dX3_spreads_54 : decode cX3_spreads 54 = .ok (.iload 4, 2) := by decide +kernel
theorem dX3_spreads_56 : decode cX3_spreads 56 = .ok (.iconst 1, 1) := by decide +kernel
theorem dX3_spreads_57 : decode cX3_spreads 57 = .ok (.iadd, 1) := by decide +kernel
theorem dX3_spreads_58 : decode cX3_spreads 58 = .ok (.iastore, 1) := by decide +kernel
theorem dX3_spreads_59 : decode cX3_spreads 59 = .ok (.aload_n 0, 1) := by decide +kernel
theorem dX3_spreads_60 : decode cX3_spreads 60 = .ok (.aload_n 0, 1) := by decide +kernel
theorem dX3_spreads_61 : decode cX3_spreads 61 = .ok (.getfield 22, 3) := by decide +kernel
theorem dX3_spreads_64 : decode cX3_spreads 64 = .ok (.bipush 8, 2) := by decide +kernel
theorem dX3_spreads_66 : decode cX3_spreads 66 = .ok (.iload_n 2, 1) := by decide +kernel
theorem dX3_spreads_67 : decode cX3_spreads 67 = .ok (.imul, 1) := by decide +kernel
theorem dX3_spreads_68 : decode cX3_spreads 68 = .ok (.iload 4, 2) := by decide +kernel
theorem dX3_spreads_70 : decode cX3_spreads 70 = .ok (.iadd, 1) := by decide +kernel
theorem dX3_spreads_71 : decode cX3_spreads 71 = .ok (.iaload, 1) := by decide +kernel
theorem dX3_spreads_72 : decode cX3_spreads 72 = .ok (.iload_n 3, 1) := by decide +kernel
theorem dX3_spreads_73 : decode cX3_spreads 73 = .ok (.iconst 1, 1) := by decide +kernel
theorem dX3_spreads_74 : decode cX3_spreads 74 = .ok (.iadd, 1) := by decide +kernel
theorem dX3_spreads_75 : decode cX3_spreads 75 = .ok (.invokevirtual 120, 3) := by decide +kernel
theorem dX3_spreads_78 : decode cX3_spreads 78 = .ok (.iconst 1, 1) := by decide +kernel
theorem dX3_spreads_79 : decode cX3_spreads 79 = .ok (.ireturn, 1) := by decide +kernel
theorem dX3_spreads_80 : decode cX3_spreads 80 = .ok (.iinc 4 1, 3) := by decide +kernel
theorem dX3_spreads_83 : decode cX3_spreads 83 = .ok (.goto (-61), 3) := by decide +kernel
theorem dX3_spreads_86 : decode cX3_spreads 86 = .ok (.iconst 0, 1) := by decide +kernel
theorem dX3_spreads_87 : decode cX3_spreads 87 = .ok (.ireturn, 1) := by decide +kernel
theorem dX3_works_0 : decode cX3_works 0 = .ok (.aload_n 0, 1) := by decide +kernel
theorem dX3_works_1 : decode cX3_works 1 = .ok (.getfield 62, 3) := by decide +kernel
theorem dX3_works_4 : decode cX3_works 4 = .ok (.iload_n 1, 1) := by decide +kernel
theorem dX3_works_5 : decode cX3_works 5 = .ok (.iaload, 1) := by decide +kernel
theorem dX3_works_6 : decode cX3_works 6 = .ok (.istore_n 2, 1) := by decide +kernel
theorem dX3_works_7 : decode cX3_works 7 = .ok (.aload_n 0, 1) := by decide +kernel
theorem dX3_works_8 : decode cX3_works 8 = .ok (.getfield 68, 3) := by decide +kernel
theorem dX3_works_11 : decode cX3_works 11 = .ok (.iload_n 1, 1) := by decide +kernel
theorem dX3_works_12 : decode cX3_works 12 = .ok (.iaload, 1) := by decide +kernel
theorem dX3_works_13 : decode cX3_works 13 = .ok (.istore_n 3, 1) := by decide +kernel
theorem dX3_works_14 : decode cX3_works 14 = .ok (.aload_n 0, 1) := by decide +kernel
theorem dX3_works_15 : decode cX3_works 15 = .ok (.iload_n 2, 1) := by decide +kernel
theorem dX3_works_16 : decode cX3_works 16 = .ok (.aload_n 0, 1) := by decide +kernel
theorem dX3_works_17 : decode cX3_works 17 = .ok (.getfield 41, 3) := by decide +kernel
theorem dX3_works_20 : decode cX3_works 20 = .ok (.iload_n 3, 1) := by decide +kernel
theorem dX3_works_21 : decode cX3_works 21 = .ok (.iaload, 1) := by decide +kernel
theorem dX3_works_22 : decode cX3_works 22 = .ok (.aload_n 0, 1) := by decide +kernel
theorem dX3_works_23 : decode cX3_works 23 = .ok (.getfield 44, 3) := by decide +kernel
theorem dX3_works_26 : decode cX3_works 26 = .ok (.iload_n 3, 1) := by decide +kernel
theorem dX3_works_27 : decode cX3_works 27 = .ok (.iaload, 1) := by decide +kernel
theorem dX3_works_28 : decode cX3_works 28 = .ok (.invokevirtual 90, 3) := by decide +kernel
theorem dX3_works_31 : decode cX3_works 31 = .ok (.ifCond .ne 5, 3) := by decide +kernel
theorem dX3_works_34 : decode cX3_works 34 = .ok (.iconst 1, 1) := by decide +kernel
theorem dX3_works_35 : decode cX3_works 35 = .ok (.ireturn, 1) := by decide +kernel
theorem dX3_works_36 : decode cX3_works 36 = .ok (.aload_n 0, 1) := by decide +kernel
theorem dX3_works_37 : decode cX3_works 37 = .ok (.getfield 47, 3) := by decide +kernel
theorem dX3_works_40 : decode cX3_works 40 = .ok (.iload_n 3, 1) := by decide +kernel
theorem dX3_works_41 : decode cX3_works 41 = .ok (.iaload, 1) := by decide +kernel
theorem dX3_works_42 : decode cX3_works 42 = .ok (.tableswitch 171 0 4 #[34, 64, 71, 78, 149], 34) := by decide +kernel
theorem dX3_works_76 : decode cX3_works 76 = .ok (.aload_n 0, 1) := by decide +kernel
theorem dX3_works_77 : decode cX3_works 77 = .ok (.getfield 50, 3) := by decide +kernel
theorem dX3_works_80 : decode cX3_works 80 = .ok (.iload_n 3, 1) := by decide +kernel
theorem dX3_works_81 : decode cX3_works 81 = .ok (.dup2, 1) := by decide +kernel
theorem dX3_works_82 : decode cX3_works 82 = .ok (.iaload, 1) := by decide +kernel
theorem dX3_works_83 : decode cX3_works 83 = .ok (.aload_n 0, 1) := by decide +kernel
theorem dX3_works_84 : decode cX3_works 84 = .ok (.getfield 13, 3) := by decide +kernel
theorem dX3_works_87 : decode cX3_works 87 = .ok (.iload_n 2, 1) := by decide +kernel
theorem dX3_works_88 : decode cX3_works 88 = .ok (.iaload, 1) := by decide +kernel
theorem dX3_works_89 : decode cX3_works 89 = .ok (.ifCond .ne 7, 3) := by decide +kernel
theorem dX3_works_92 : decode cX3_works 92 = .ok (.iconst 1, 1) := by decide +kernel
theorem dX3_works_93 : decode cX3_works 93 = .ok (.goto 9, 3) := by decide +kernel
theorem dX3_works_96 : decode cX3_works 96 = .ok (.aload_n 0, 1) := by decide +kernel
theorem dX3_works_97 : decode cX3_works 97 = .ok (.getfield 19, 3) := by decide +kernel
theorem dX3_works_100 : decode cX3_works 100 = .ok (.iload_n 2, 1) := by decide +kernel
theorem dX3_works_101 : decode cX3_works 101 = .ok (.iaload, 1) := by decide +kernel
theorem dX3_works_102 : decode cX3_works 102 = .ok (.iadd, 1) := by decide +kernel
theorem dX3_works_103 : decode cX3_works 103 = .ok (.iastore, 1) := by decide +kernel
theorem dX3_works_104 : decode cX3_works 104 = .ok (.iconst 0, 1) := by decide +kernel
theorem dX3_works_105 : decode cX3_works 105 = .ok (.ireturn, 1) := by decide +kernel
theorem dX3_works_106 : decode cX3_works 106 = .ok (.aload_n 0, 1) := by decide +kernel
theorem dX3_works_107 : decode cX3_works 107 = .ok (.iload_n 3, 1) := by decide +kernel
theorem dX3_works_108 : decode cX3_works 108 = .ok (.iload_n 2, 1) := by decide +kernel
theorem dX3_works_109 : decode cX3_works 109 = .ok (.invokevirtual 124, 3) := by decide +kernel
theorem dX3_works_112 : decode cX3_works 112 = .ok (.ireturn, 1) := by decide +kernel
theorem dX3_works_113 : decode cX3_works 113 = .ok (.aload_n 0, 1) := by decide +kernel
theorem dX3_works_114 : decode cX3_works 114 = .ok (.iload_n 3, 1) := by decide +kernel
theorem dX3_works_115 : decode cX3_works 115 = .ok (.iload_n 2, 1) := by decide +kernel
theorem dX3_works_116 : decode cX3_works 116 = .ok (.invokevirtual 127, 3) := by decide +kernel
theorem dX3_works_119 : decode cX3_works 119 = .ok (.ireturn, 1) := by decide +kernel
theorem dX3_works_120 : decode cX3_works 120 = .ok (.aload_n 0, 1) := by decide +kernel
theorem dX3_works_121 : decode cX3_works 121 = .ok (.getfield 50, 3) := by decide +kernel
theorem dX3_works_124 : decode cX3_works 124 = .ok (.iload_n 3, 1) := by decide +kernel
theorem dX3_works_125 : decode cX3_works 125 = .ok (.iaload, 1) := by decide +kernel
theorem dX3_works_126 : decode cX3_works 126 = .ok (.iconst 0, 1) := by decide +kernel
theorem dX3_works_127 : decode cX3_works 127 = .ok (.aload_n 0, 1) := by decide +kernel
theorem dX3_works_128 : decode cX3_works 128 = .ok (.getfield 19, 3) := by decide +kernel
theorem dX3_works_131 : decode cX3_works 131 = .ok (.iload_n 2, 1) := by decide +kernel
theorem dX3_works_132 : decode cX3_works 132 = .ok (.iaload, 1) := by decide +kernel
theorem dX3_works_133 : decode cX3_works 133 = .ok (.iconst 1, 1) := by decide +kernel
theorem dX3_works_134 : decode cX3_works 134 = .ok (.isub, 1) := by decide +kernel
theorem dX3_works_135 : decode cX3_works 135 = .ok (.invokestatic 78, 3) := by decide +kernel
theorem dX3_works_138 : decode cX3_works 138 = .ok (.ifCond .ne 5, 3) := by decide +kernel
theorem dX3_works_141 : decode cX3_works 141 = .ok (.iconst 2, 1) := by decide +kernel
theorem dX3_works_142 : decode cX3_works 142 = .ok (.ireturn, 1) := by decide +kernel
theorem dX3_works_143 : decode cX3_works 143 = .ok (.aload_n 0, 1) := by decide +kernel
theorem dX3_works_144 : decode cX3_works 144 = .ok (.getfield 22, 3) := by decide +kernel
theorem dX3_works_147 : decode cX3_works 147 = .ok (.bipush 8, 2) := by decide +kernel
theorem dX3_works_149 : decode cX3_works 149 = .ok (.iload_n 2, 1) := by decide +kernel
theorem dX3_works_150 : decode cX3_works 150 = .ok (.imul, 1) := by decide +kernel
theorem dX3_works_151 : decode cX3_works 151 = .ok (.aload_n 0, 1) := by decide +kernel
theorem dX3_works_152 : decode cX3_works 152 = .ok (.getfield 50, 3) := by decide +kernel
theorem dX3_works_155 : decode cX3_works 155 = .ok (.iload_n 3, 1) := by decide +kernel
theorem dX3_works_156 : decode cX3_works 156 = .ok (.iaload, 1) := by decide +kernel
theorem dX3_works_157 : decode cX3_works 157 = .ok (.iadd, 1) := by decide +kernel
theorem dX3_works_158 : decode cX3_works 158 = .ok (.iaload, 1) := by decide +kernel
theorem dX3_works_159 : decode cX3_works 159 = .ok (.iconst (-1), 1) := by decide +kernel
theorem dX3_works_160 : decode cX3_works 160 = .ok (.if_icmp .ne 5, 3) := by decide +kernel
theorem dX3_works_163 : decode cX3_works 163 = .ok (.iconst 4, 1) := by decide +kernel
theorem dX3_works_164 : decode cX3_works 164 = .ok (.ireturn, 1) := by decide +kernel
theorem dX3_works_165 : decode cX3_works 165 = .ok (.aload_n 0, 1) := by decide +kernel
theorem dX3_works_166 : decode cX3_works 166 = .ok (.aload_n 0, 1) := by decide +kernel
theorem dX3_works_167 : decode cX3_works 167 = .ok (.getfield 22, 3) := by decide +kernel
theorem dX3_works_170 : decode cX3_works 170 = .ok (.bipush 8, 2) := by decide +kernel
theorem dX3_works_172 : decode cX3_works 172 = .ok (.iload_n 2, 1) := by decide +kernel
theorem dX3_works_173 : decode cX3_works 173 = .ok (.imul, 1) := by decide +kernel
theorem dX3_works_174 : decode cX3_works 174 = .ok (.aload_n 0, 1) := by decide +kernel
theorem dX3_works_175 : decode cX3_works 175 = .ok (.getfield 50, 3) := by decide +kernel
theorem dX3_works_178 : decode cX3_works 178 = .ok (.iload_n 3, 1) := by decide +kernel
theorem dX3_works_179 : decode cX3_works 179 = .ok (.iaload, 1) := by decide +kernel
theorem dX3_works_180 : decode cX3_works 180 = .ok (.iadd, 1) := by decide +kernel
theorem dX3_works_181 : decode cX3_works 181 = .ok (.iaload, 1) := by decide +kernel
theorem dX3_works_182 : decode cX3_works 182 = .ok (.iload_n 3, 1) := by decide +kernel
theorem dX3_works_183 : decode cX3_works 183 = .ok (.iconst 1, 1) := by decide +kernel
theorem dX3_works_184 : decode cX3_works 184 = .ok (.iadd, 1) := by decide +kernel
theorem dX3_works_185 : decode cX3_works 185 = .ok (.invokevirtual 120, 3) := by decide +kernel
theorem dX3_works_188 : decode cX3_works 188 = .ok (.bipush (-100), 2) := by decide +kernel
theorem dX3_works_190 : decode cX3_works 190 = .ok (.ireturn, 1) := by decide +kernel
theorem dX3_works_191 : decode cX3_works 191 = .ok (.aload_n 0, 1) := by decide +kernel
theorem dX3_works_192 : decode cX3_works 192 = .ok (.getfield 71, 3) := by decide +kernel
theorem dX3_works_195 : decode cX3_works 195 = .ok (.iload_n 1, 1) := by decide +kernel
theorem dX3_works_196 : decode cX3_works 196 = .ok (.iconst 0, 1) := by decide +kernel
theorem dX3_works_197 : decode cX3_works 197 = .ok (.iastore, 1) := by decide +kernel
theorem dX3_works_198 : decode cX3_works 198 = .ok (.aload_n 0, 1) := by decide +kernel
theorem dX3_works_199 : decode cX3_works 199 = .ok (.iload_n 1, 1) := by decide +kernel
theorem dX3_works_200 : decode cX3_works 200 = .ok (.invokevirtual 130, 3) := by decide +kernel
theorem dX3_works_203 : decode cX3_works 203 = .ok (.ifCond .eq 8, 3) := by decide +kernel
theorem dX3_works_206 : decode cX3_works 206 = .ok (.bipush (-100), 2) := by decide +kernel
theorem dX3_works_208 : decode cX3_works 208 = .ok (.goto 4, 3) := by decide +kernel
theorem dX3_works_211 : decode cX3_works 211 = .ok (.iconst 0, 1) := by decide +kernel
theorem dX3_works_212 : decode cX3_works 212 = .ok (.ireturn, 1) := by decide +kernel
theorem dX3_works_213 : decode cX3_works 213 = .ok (.aload_n 0, 1) := by decide +kernel
theorem dX3_works_214 : decode cX3_works 214 = .ok (.getfield 53, 3) := by decide +kernel
theorem dX3_works_217 : decode cX3_works 217 = .ok (.iload_n 3, 1) := by decide +kernel
theorem dX3_works_218 : decode cX3_works 218 = .ok (.iload_n 2, 1) := by decide +kernel
theorem dX3_works_219 : decode cX3_works 219 = .ok (.iastore, 1) := by decide +kernel
theorem dX3_works_220 : decode cX3_works 220 = .ok (.iconst 0, 1) := by decide +kernel
theorem dX3_works_221 : decode cX3_works 221 = .ok (.ireturn, 1) := by decide +kernel
theorem dX3_over_0 : decode cX3_over 0 = .ok (.aload_n 0, 1) := by decide +kernel
theorem dX3_over_1 : decode cX3_over 1 = .ok (.getfield 68, 3) := by decide +kernel
theorem dX3_over_4 : decode cX3_over 4 = .ok (.iload_n 1, 1) := by decide +kernel
theorem dX3_over_5 : decode cX3_over 5 = .ok (.iaload, 1) := by decide +kernel
theorem dX3_over_6 : decode cX3_over 6 = .ok (.istore_n 3, 1) := by decide +kernel
theorem dX3_over_7 : decode cX3_over 7 = .ok (.aload_n 0, 1) := by decide +kernel
theorem dX3_over_8 : decode cX3_over 8 = .ok (.getfield 56, 3) := by decide +kernel
theorem dX3_over_11 : decode cX3_over 11 = .ok (.iload_n 3, 1) := by decide +kernel
theorem dX3_over_12 : decode cX3_over 12 = .ok (.dup2, 1) := by decide +kernel
theorem dX3_over_13 : decode cX3_over 13 = .ok (.iaload, 1) := by decide +kernel
theorem dX3_over_14 : decode cX3_over 14 = .ok (.iconst 1, 1) := by decide +kernel
theorem dX3_over_15 : decode cX3_over 15 = .ok (.iadd, 1) := by decide +kernel
theorem dX3_over_16 : decode cX3_over 16 = .ok (.iastore, 1) := by decide +kernel
theorem dX3_over_17 : decode cX3_over 17 = .ok (.iload_n 2, 1) := by decide +kernel
theorem dX3_over_18 : decode cX3_over 18 = .ok (.ifCond .ne 15, 3) := by decide +kernel
theorem dX3_over_21 : decode cX3_over 21 = .ok (.aload_n 0, 1) := by decide +kernel
theorem dX3_over_22 : decode cX3_over 22 = .ok (.dup, 1) := by decide +kernel
theorem dX3_over_23 : decode cX3_over 23 = .ok (.getfield 133, 3) := by decide +kernel
theorem dX3_over_26 : decode cX3_over 26 = .ok (.iconst 1, 1) := by decide +kernel
theorem dX3_over_27 : decode cX3_over 27 = .ok (.iadd, 1) := by decide +kernel
theorem dX3_over_28 : decode cX3_over 28 = .ok (.putfield 133, 3) := by decide +kernel
theorem dX3_over_31 : decode cX3_over 31 = .ok (.iload_n 3, 1) := by decide +kernel
theorem dX3_over_32 : decode cX3_over 32 = .ok (.ireturn, 1) := by decide +kernel
theorem dX3_over_33 : decode cX3_over 33 = .ok (.aload_n 0, 1) := by decide +kernel
theorem dX3_over_34 : decode cX3_over 34 = .ok (.getfield 59, 3) := by decide +kernel
theorem dX3_over_37 : decode cX3_over 37 = .ok (.iload_n 3, 1) := by decide +kernel
theorem dX3_over_38 : decode cX3_over 38 = .ok (.dup2, 1) := by decide +kernel
theorem dX3_over_39 : decode cX3_over 39 = .ok (.iaload, 1) := by decide +kernel
theorem dX3_over_40 : decode cX3_over 40 = .ok (.iconst 1, 1) := by decide +kernel
theorem dX3_over_41 : decode cX3_over 41 = .ok (.iadd, 1) := by decide +kernel
theorem dX3_over_42 : decode cX3_over 42 = .ok (.iastore, 1) := by decide +kernel
theorem dX3_over_43 : decode cX3_over 43 = .ok (.aload_n 0, 1) := by decide +kernel
theorem dX3_over_44 : decode cX3_over 44 = .ok (.getfield 29, 3) := by decide +kernel
theorem dX3_over_47 : decode cX3_over 47 = .ok (.iload_n 3, 1) := by decide +kernel
theorem dX3_over_48 : decode cX3_over 48 = .ok (.aload_n 0, 1) := by decide +kernel
theorem dX3_over_49 : decode cX3_over 49 = .ok (.getfield 29, 3) := by decide +kernel
theorem dX3_over_52 : decode cX3_over 52 = .ok (.iload_n 3, 1) := by decide +kernel
theorem dX3_over_53 : decode cX3_over 53 = .ok (.baload, 1) := by decide +kernel
theorem dX3_over_54 : decode cX3_over 54 = .ok (.ifCond .ne 14, 3) := by decide +kernel
theorem dX3_over_57 : decode cX3_over 57 = .ok (.aload_n 0, 1) := by decide +kernel
theorem dX3_over_58 : decode cX3_over 58 = .ok (.getfield 59, 3) := by decide +kernel
theorem dX3_over_61 : decode cX3_over 61 = .ok (.iload_n 3, 1) := by decide +kernel
theorem dX3_over_62 : decode cX3_over 62 = .ok (.iaload, 1) := by decide +kernel
theorem dX3_over_63 : decode cX3_over 63 = .ok (.iconst 3, 1) := by decide +kernel
theorem dX3_over_64 : decode cX3_over 64 = .ok (.irem, 1) := by decide +kernel
theorem dX3_over_65 : decode cX3_over 65 = .ok (.ifCond .ne 7, 3) := by decide +kernel
theorem dX3_over_68 : decode cX3_over 68 = .ok (.iconst 1, 1) := by decide +kernel
theorem dX3_over_69 : decode cX3_over 69 = .ok (.goto 4, 3) := by decide +kernel
theorem dX3_over_72 : decode cX3_over 72 = .ok (.iconst 0, 1) := by decide +kernel
theorem dX3_over_73 : decode cX3_over 73 = .ok (.bastore, 1) := by decide +kernel
theorem dX3_over_74 : decode cX3_over 74 = .ok (.aload_n 0, 1) := by decide +kernel
theorem dX3_over_75 : decode cX3_over 75 = .ok (.dup, 1) := by decide +kernel
theorem dX3_over_76 : decode cX3_over 76 = .ok (.getfield 136, 3) := by decide +kernel
theorem dX3_over_79 : decode cX3_over 79 = .ok (.iconst 1, 1) := by decide +kernel
theorem dX3_over_80 : decode cX3_over 80 = .ok (.iadd, 1) := by decide +kernel
theorem dX3_over_81 : decode cX3_over 81 = .ok (.putfield 136, 3) := by decide +kernel
theorem dX3_over_84 : decode cX3_over 84 = .ok (.aload_n 0, 1) := by decide +kernel
theorem dX3_over_85 : decode cX3_over 85 = .ok (.aload_n 0, 1) := by decide +kernel
theorem dX3_over_86 : decode cX3_over 86 = .ok (.getfield 139, 3) := by decide +kernel
theorem dX3_over_89 : decode cX3_over 89 = .ok (.iconst (-1), 1) := by decide +kernel
theorem dX3_over_90 : decode cX3_over 90 = .ok (.if_icmp .ne 7, 3) := by decide +kernel
theorem dX3_over_93 : decode cX3_over 93 = .ok (.iload_n 3, 1) := by decide +kernel
theorem dX3_over_94 : decode cX3_over 94 = .ok (.goto 7, 3) := by decide +kernel
theorem dX3_over_97 : decode cX3_over 97 = .ok (.aload_n 0, 1) := by decide +kernel
theorem dX3_over_98 : decode cX3_over 98 = .ok (.getfield 139, 3) := by decide +kernel
theorem dX3_over_101 : decode cX3_over 101 = .ok (.putfield 139, 3) := by decide +kernel
theorem dX3_over_104 : decode cX3_over 104 = .ok (.aload_n 0, 1) := by decide +kernel
theorem dX3_over_105 : decode cX3_over 105 = .ok (.getfield 32, 3) := by decide +kernel
theorem dX3_over_108 : decode cX3_over 108 = .ok (.iload_n 3, 1) := by decide +kernel
theorem dX3_over_109 : decode cX3_over 109 = .ok (.baload, 1) := by decide +kernel
theorem dX3_over_110 : decode cX3_over 110 = .ok (.ifCond .eq 13, 3) := by decide +kernel
theorem dX3_over_113 : decode cX3_over 113 = .ok (.iload_n 2, 1) := by decide +kernel
theorem dX3_over_114 : decode cX3_over 114 = .ok (.iconst 5, 1) := by decide +kernel
theorem dX3_over_115 : decode cX3_over 115 = .ok (.if_icmp .eq 8, 3) := by decide +kernel
theorem dX3_over_118 : decode cX3_over 118 = .ok (.bipush (-100), 2) := by decide +kernel
theorem dX3_over_120 : decode cX3_over 120 = .ok (.goto 7, 3) := by decide +kernel
theorem dX3_over_123 : decode cX3_over 123 = .ok (.bipush (-10), 2) := by decide +kernel
theorem dX3_over_125 : decode cX3_over 125 = .ok (.iload_n 2, 1) := by decide +kernel
theorem dX3_over_126 : decode cX3_over 126 = .ok (.isub, 1) := by decide +kernel
theorem dX3_over_127 : decode cX3_over 127 = .ok (.ireturn, 1) := by decide +kernel
theorem dX3_step_0 : decode cX3_step 0 = .ok (.aload_n 0, 1) := by decide +kernel
theorem dX3_step_1 : decode cX3_step 1 = .ok (.getfield 117, 3) := by decide +kernel
theorem dX3_step_4 : decode cX3_step 4 = .ok (.iconst 1, 1) := by decide +kernel
theorem dX3_step_5 : decode cX3_step 5 = .ok (.isub, 1) := by decide +kernel
theorem dX3_step_6 : decode cX3_step 6 = .ok (.istore_n 1, 1) := by decide +kernel
theorem dX3_step_7 : decode cX3_step 7 = .ok (.aload_n 0, 1) := by decide +kernel
theorem dX3_step_8 : decode cX3_step 8 = .ok (.aload_n 0, 1) := by decide +kernel
theorem dX3_step_9 : decode cX3_step 9 = .ok (.getfield 62, 3) := by decide +kernel
theorem dX3_step_12 : decode cX3_step 12 = .ok (.iload_n 1, 1) := by decide +kernel
theorem dX3_step_13 : decode cX3_step 13 = .ok (.iaload, 1) := by decide +kernel
theorem dX3_step_14 : decode cX3_step 14 = .ok (.aload_n 0, 1) := by decide +kernel
theorem dX3_step_15 : decode cX3_step 15 = .ok (.getfield 65, 3) := by decide +kernel
theorem dX3_step_18 : decode cX3_step 18 = .ok (.iload_n 1, 1) := by decide +kernel
theorem dX3_step_19 : decode cX3_step 19 = .ok (.iaload, 1) := by decide +kernel
theorem dX3_step_20 : decode cX3_step 20 = .ok (.invokevirtual 142, 3) := by decide +kernel
theorem dX3_step_23 : decode cX3_step 23 = .ok (.istore_n 2, 1) := by decide +kernel
theorem dX3_step_24 : decode cX3_step 24 = .ok (.iload_n 2, 1) := by decide +kernel
theorem dX3_step_25 : decode cX3_step 25 = .ok (.iconst (-1), 1) := by decide +kernel
theorem dX3_step_26 : decode cX3_step 26 = .ok (.if_icmp .ne 16, 3) := by decide +kernel
theorem dX3_step_29 : decode cX3_step 29 = .ok (.aload_n 0, 1) := by decide +kernel
theorem dX3_step_30 : decode cX3_step 30 = .ok (.dup, 1) := by decide +kernel
theorem dX3_step_31 : decode cX3_step 31 = .ok (.getfield 145, 3) := by decide +kernel
theorem dX3_step_34 : decode cX3_step 34 = .ok (.iconst 1, 1) := by decide +kernel
theorem dX3_step_35 : decode cX3_step 35 = .ok (.iadd, 1) := by decide +kernel
theorem dX3_step_36 : decode cX3_step 36 = .ok (.putfield 145, 3) := by decide +kernel
theorem dX3_step_39 : decode cX3_step 39 = .ok (.bipush (-4), 2) := by decide +kernel
theorem dX3_step_41 : decode cX3_step 41 = .ok (.ireturn, 1) := by decide +kernel
theorem dX3_step_42 : decode cX3_step 42 = .ok (.aload_n 0, 1) := by decide +kernel
theorem dX3_step_43 : decode cX3_step 43 = .ok (.getfield 148, 3) := by decide +kernel
theorem dX3_step_46 : decode cX3_step 46 = .ok (.bipush 16, 2) := by decide +kernel
theorem dX3_step_48 : decode cX3_step 48 = .ok (.if_icmp .ne 6, 3) := by decide +kernel
theorem dX3_step_51 : decode cX3_step 51 = .ok (.bipush (-15), 2) := by decide +kernel
theorem dX3_step_53 : decode cX3_step 53 = .ok (.ireturn, 1) := by decide +kernel
theorem dX3_step_54 : decode cX3_step 54 = .ok (.aload_n 0, 1) := by decide +kernel
theorem dX3_step_55 : decode cX3_step 55 = .ok (.dup, 1) := by decide +kernel
theorem dX3_step_56 : decode cX3_step 56 = .ok (.getfield 148, 3) := by decide +kernel
theorem dX3_step_59 : decode cX3_step 59 = .ok (.iconst 1, 1) := by decide +kernel
theorem dX3_step_60 : decode cX3_step 60 = .ok (.iadd, 1) := by decide +kernel
theorem dX3_step_61 : decode cX3_step 61 = .ok (.putfield 148, 3) := by decide +kernel
theorem dX3_step_64 : decode cX3_step 64 = .ok (.aload_n 0, 1) := by decide +kernel
theorem dX3_step_65 : decode cX3_step 65 = .ok (.getfield 65, 3) := by decide +kernel
theorem dX3_step_68 : decode cX3_step 68 = .ok (.iload_n 1, 1) := by decide +kernel
theorem dX3_step_69 : decode cX3_step 69 = .ok (.iload_n 2, 1) := by decide +kernel
theorem dX3_step_70 : decode cX3_step 70 = .ok (.iconst 1, 1) := by decide +kernel
theorem dX3_step_71 : decode cX3_step 71 = .ok (.iadd, 1) := by decide +kernel
theorem dX3_step_72 : decode cX3_step 72 = .ok (.iastore, 1) := by decide +kernel
theorem dX3_step_73 : decode cX3_step 73 = .ok (.aload_n 0, 1) := by decide +kernel
theorem dX3_step_74 : decode cX3_step 74 = .ok (.getfield 68, 3) := by decide +kernel
theorem dX3_step_77 : decode cX3_step 77 = .ok (.iload_n 1, 1) := by decide +kernel
theorem dX3_step_78 : decode cX3_step 78 = .ok (.iload_n 2, 1) := by decide +kernel
theorem dX3_step_79 : decode cX3_step 79 = .ok (.iastore, 1) := by decide +kernel
theorem dX3_step_80 : decode cX3_step 80 = .ok (.aload_n 0, 1) := by decide +kernel
theorem dX3_step_81 : decode cX3_step 81 = .ok (.iload_n 1, 1) := by decide +kernel
theorem dX3_step_82 : decode cX3_step 82 = .ok (.invokevirtual 151, 3) := by decide +kernel
theorem dX3_step_85 : decode cX3_step 85 = .ok (.istore_n 3, 1) := by decide +kernel
theorem dX3_step_86 : decode cX3_step 86 = .ok (.iload_n 3, 1) := by decide +kernel
theorem dX3_step_87 : decode cX3_step 87 = .ok (.bipush (-100), 2) := by decide +kernel
theorem dX3_step_89 : decode cX3_step 89 = .ok (.if_icmp .ne 8, 3) := by decide +kernel
theorem dX3_step_92 : decode cX3_step 92 = .ok (.bipush (-100), 2) := by decide +kernel
theorem dX3_step_94 : decode cX3_step 94 = .ok (.goto 9, 3) := by decide +kernel
theorem dX3_step_97 : decode cX3_step 97 = .ok (.aload_n 0, 1) := by decide +kernel
theorem dX3_step_98 : decode cX3_step 98 = .ok (.iload_n 1, 1) := by decide +kernel
theorem dX3_step_99 : decode cX3_step 99 = .ok (.iload_n 3, 1) := by decide +kernel
theorem dX3_step_100 : decode cX3_step 100 = .ok (.invokevirtual 155, 3) := by decide +kernel
theorem dX3_step_103 : decode cX3_step 103 = .ok (.ireturn, 1) := by decide +kernel
theorem dX3_back_0 : decode cX3_back 0 = .ok (.aload_n 0, 1) := by decide +kernel
theorem dX3_back_1 : decode cX3_back 1 = .ok (.getfield 117, 3) := by decide +kernel
theorem dX3_back_4 : decode cX3_back 4 = .ok (.iconst 1, 1) := by decide +kernel
theorem dX3_back_5 : decode cX3_back 5 = .ok (.isub, 1) := by decide +kernel
theorem dX3_back_6 : decode cX3_back 6 = .ok (.istore_n 2, 1) := by decide +kernel
theorem dX3_back_7 : decode cX3_back 7 = .ok (.iload_n 1, 1) := by decide +kernel
theorem dX3_back_8 : decode cX3_back 8 = .ok (.bipush (-10), 2) := by decide +kernel
theorem dX3_back_10 : decode cX3_back 10 = .ok (.if_icmp .ge 13, 3) := by decide +kernel
theorem dX3_back_13 : decode cX3_back 13 = .ok (.aload_n 0, 1) := by decide +kernel
theorem dX3_back_14 : decode cX3_back 14 = .ok (.iload_n 2, 1) := by decide +kernel
theorem dX3_back_15 : decode cX3_back 15 = .ok (.bipush (-10), 2) := by decide +kernel
theorem dX3_back_17 : decode cX3_back 17 = .ok (.iload_n 1, 1) := by decide +kernel
theorem dX3_back_18 : decode cX3_back 18 = .ok (.isub, 1) := by decide +kernel
theorem dX3_back_19 : decode cX3_back 19 = .ok (.invokevirtual 155, 3) := by decide +kernel
theorem dX3_back_22 : decode cX3_back 22 = .ok (.ireturn, 1) := by decide +kernel
theorem dX3_back_23 : decode cX3_back 23 = .ok (.aload_n 0, 1) := by decide +kernel
theorem dX3_back_24 : decode cX3_back 24 = .ok (.getfield 47, 3) := by decide +kernel
theorem dX3_back_27 : decode cX3_back 27 = .ok (.aload_n 0, 1) := by decide +kernel
theorem dX3_back_28 : decode cX3_back 28 = .ok (.getfield 68, 3) := by decide +kernel
theorem dX3_back_31 : decode cX3_back 31 = .ok (.iload_n 2, 1) := by decide +kernel
theorem dX3_back_32 : decode cX3_back 32 = .ok (.iaload, 1) := by decide +kernel
theorem dX3_back_33 : decode cX3_back 33 = .ok (.iaload, 1) := by decide +kernel
theorem dX3_back_34 : decode cX3_back 34 = .ok (.iconst 4, 1) := by decide +kernel
theorem dX3_back_35 : decode cX3_back 35 = .ok (.if_icmp .ne 16, 3) := by decide +kernel
theorem dX3_back_38 : decode cX3_back 38 = .ok (.aload_n 0, 1) := by decide +kernel
theorem dX3_back_39 : decode cX3_back 39 = .ok (.iload_n 2, 1) := by decide +kernel
theorem dX3_back_40 : decode cX3_back 40 = .ok (.invokevirtual 130, 3) := by decide +kernel
theorem dX3_back_43 : decode cX3_back 43 = .ok (.ifCond .eq 8, 3) := by decide +kernel
theorem dX3_back_46 : decode cX3_back 46 = .ok (.bipush (-100), 2) := by decide +kernel
theorem dX3_back_48 : decode cX3_back 48 = .ok (.goto 9, 3) := by decide +kernel
theorem dX3_back_51 : decode cX3_back 51 = .ok (.aload_n 0, 1) := by decide +kernel
theorem dX3_back_52 : decode cX3_back 52 = .ok (.iload_n 2, 1) := by decide +kernel
theorem dX3_back_53 : decode cX3_back 53 = .ok (.iconst 0, 1) := by decide +kernel
theorem dX3_back_54 : decode cX3_back 54 = .ok (.invokevirtual 155, 3) := by decide +kernel
theorem dX3_back_57 : decode cX3_back 57 = .ok (.ireturn, 1) := by decide +kernel
theorem dX3_send_0 : decode cX3_send 0 = .ok (.aload_n 0, 1) := by decide +kernel
theorem dX3_send_1 : decode cX3_send 1 = .ok (.iload_n 1, 1) := by decide +kernel
theorem dX3_send_2 : decode cX3_send 2 = .ok (.invokevirtual 97, 3) := by decide +kernel
theorem dX3_send_5 : decode cX3_send 5 = .ok (.ifCond .eq 13, 3) := by decide +kernel
theorem dX3_send_8 : decode cX3_send 8 = .ok (.iload_n 2, 1) := by decide +kernel
theorem dX3_send_9 : decode cX3_send 9 = .ok (.iconst 0, 1) := by decide +kernel
theorem dX3_send_10 : decode cX3_send 10 = .ok (.bipush 7, 2) := by decide +kernel
theorem dX3_send_12 : decode cX3_send 12 = .ok (.invokestatic 78, 3) := by decide +kernel
theorem dX3_send_15 : decode cX3_send 15 = .ok (.ifCond .ne 6, 3) := by decide +kernel
theorem dX3_send_18 : decode cX3_send 18 = .ok (.bipush (-2), 2) := by decide +kernel
theorem dX3_send_20 : decode cX3_send 20 = .ok (.ireturn, 1) := by decide +kernel
theorem dX3_send_21 : decode cX3_send 21 = .ok (.aload_n 0, 1) := by decide +kernel
theorem dX3_send_22 : decode cX3_send 22 = .ok (.dup, 1) := by decide +kernel
theorem dX3_send_23 : decode cX3_send 23 = .ok (.getfield 158, 3) := by decide +kernel
theorem dX3_send_26 : decode cX3_send 26 = .ok (.iconst 1, 1) := by decide +kernel
theorem dX3_send_27 : decode cX3_send 27 = .ok (.iadd, 1) := by decide +kernel
theorem dX3_send_28 : decode cX3_send 28 = .ok (.putfield 158, 3) := by decide +kernel
theorem dX3_send_31 : decode cX3_send 31 = .ok (.aload_n 0, 1) := by decide +kernel
theorem dX3_send_32 : decode cX3_send 32 = .ok (.iconst 0, 1) := by decide +kernel
theorem dX3_send_33 : decode cX3_send 33 = .ok (.putfield 148, 3) := by decide +kernel
theorem dX3_send_36 : decode cX3_send 36 = .ok (.aload_n 0, 1) := by decide +kernel
theorem dX3_send_37 : decode cX3_send 37 = .ok (.iconst 0, 1) := by decide +kernel
theorem dX3_send_38 : decode cX3_send 38 = .ok (.putfield 133, 3) := by decide +kernel
theorem dX3_send_41 : decode cX3_send 41 = .ok (.aload_n 0, 1) := by decide +kernel
theorem dX3_send_42 : decode cX3_send 42 = .ok (.iconst 0, 1) := by decide +kernel
theorem dX3_send_43 : decode cX3_send 43 = .ok (.putfield 145, 3) := by decide +kernel
theorem dX3_send_46 : decode cX3_send 46 = .ok (.aload_n 0, 1) := by decide +kernel
theorem dX3_send_47 : decode cX3_send 47 = .ok (.iconst 0, 1) := by decide +kernel
theorem dX3_send_48 : decode cX3_send 48 = .ok (.putfield 136, 3) := by decide +kernel
theorem dX3_send_51 : decode cX3_send 51 = .ok (.aload_n 0, 1) := by decide +kernel
theorem dX3_send_52 : decode cX3_send 52 = .ok (.iconst (-1), 1) := by decide +kernel
theorem dX3_send_53 : decode cX3_send 53 = .ok (.putfield 139, 3) := by decide +kernel
theorem dX3_send_56 : decode cX3_send 56 = .ok (.aload_n 0, 1) := by decide +kernel
theorem dX3_send_57 : decode cX3_send 57 = .ok (.iconst 0, 1) := by decide +kernel
theorem dX3_send_58 : decode cX3_send 58 = .ok (.putfield 117, 3) := by decide +kernel
theorem dX3_send_61 : decode cX3_send 61 = .ok (.aload_n 0, 1) := by decide +kernel
theorem dX3_send_62 : decode cX3_send 62 = .ok (.iload_n 1, 1) := by decide +kernel
theorem dX3_send_63 : decode cX3_send 63 = .ok (.iload_n 2, 1) := by decide +kernel
theorem dX3_send_64 : decode cX3_send 64 = .ok (.invokevirtual 120, 3) := by decide +kernel
theorem dX3_send_67 : decode cX3_send 67 = .ok (.bipush (-100), 2) := by decide +kernel
theorem dX3_send_69 : decode cX3_send 69 = .ok (.istore_n 3, 1) := by decide +kernel
theorem dX3_send_70 : decode cX3_send 70 = .ok (.aload_n 0, 1) := by decide +kernel
theorem dX3_send_71 : decode cX3_send 71 = .ok (.getfield 117, 3) := by decide +kernel
theorem dX3_send_74 : decode cX3_send 74 = .ok (.ifCond .le 43, 3) := by decide +kernel
theorem dX3_send_77 : decode cX3_send 77 = .ok (.iload_n 3, 1) := by decide +kernel
theorem dX3_send_78 : decode cX3_send 78 = .ok (.bipush (-100), 2) := by decide +kernel
theorem dX3_send_80 : decode cX3_send 80 = .ok (.if_icmp .ne 11, 3) := by decide +kernel
theorem dX3_send_83 : decode cX3_send 83 = .ok (.aload_n 0, 1) := by decide +kernel
theorem dX3_send_84 : decode cX3_send 84 = .ok (.invokevirtual 161, 3) := by decide +kernel
theorem dX3_send_87 : decode cX3_send 87 = .ok (.istore_n 3, 1) := by decide +kernel
theorem dX3_send_88 : decode cX3_send 88 = .ok (.goto (-18), 3) := by decide +kernel
theorem dX3_send_91 : decode cX3_send 91 = .ok (.aload_n 0, 1) := by decide +kernel
theorem dX3_send_92 : decode cX3_send 92 = .ok (.dup, 1) := by decide +kernel
theorem dX3_send_93 : decode cX3_send 93 = .ok (.getfield 117, 3) := by decide +kernel
theorem dX3_send_96 : decode cX3_send 96 = .ok (.iconst 1, 1) := by decide +kernel
theorem dX3_send_97 : decode cX3_send 97 = .ok (.isub, 1) := by decide +kernel
theorem dX3_send_98 : decode cX3_send 98 = .ok (.putfield 117, 3) := by decide +kernel
theorem dX3_send_101 : decode cX3_send 101 = .ok (.aload_n 0, 1) := by decide +kernel
theorem dX3_send_102 : decode cX3_send 102 = .ok (.getfield 117, 3) := by decide +kernel
theorem dX3_send_105 : decode cX3_send 105 = .ok (.ifCond .le (-35), 3) := by decide +kernel
theorem dX3_send_108 : decode cX3_send 108 = .ok (.aload_n 0, 1) := by decide +kernel
theorem dX3_send_109 : decode cX3_send 109 = .ok (.iload_n 3, 1) := by decide +kernel
theorem dX3_send_110 : decode cX3_send 110 = .ok (.invokevirtual 165, 3) := by decide +kernel
theorem dX3_send_113 : decode cX3_send 113 = .ok (.istore_n 3, 1) := by decide +kernel
theorem dX3_send_114 : decode cX3_send 114 = .ok (.goto (-44), 3) := by decide +kernel
theorem dX3_send_117 : decode cX3_send 117 = .ok (.iload_n 3, 1) := by decide +kernel
theorem dX3_send_118 : decode cX3_send 118 = .ok (.ireturn, 1) := by decide +kernel
theorem dX3_told_0 : decode cX3_told 0 = .ok (.iload_n 1, 1) := by decide +kernel
theorem dX3_told_1 : decode cX3_told 1 = .ok (.iconst 0, 1) := by decide +kernel
theorem dX3_told_2 : decode cX3_told 2 = .ok (.iconst 4, 1) := by decide +kernel
theorem dX3_told_3 : decode cX3_told 3 = .ok (.invokestatic 78, 3) := by decide +kernel
theorem dX3_told_6 : decode cX3_told 6 = .ok (.ifCond .ne 6, 3) := by decide +kernel
theorem dX3_told_9 : decode cX3_told 9 = .ok (.bipush (-2), 2) := by decide +kernel
theorem dX3_told_11 : decode cX3_told 11 = .ok (.ireturn, 1) := by decide +kernel
theorem dX3_told_12 : decode cX3_told 12 = .ok (.aload_n 0, 1) := by decide +kernel
theorem dX3_told_13 : decode cX3_told 13 = .ok (.getfield 158, 3) := by decide +kernel
theorem dX3_told_16 : decode cX3_told 16 = .ok (.ifCond .ne 14, 3) := by decide +kernel
theorem dX3_told_19 : decode cX3_told 19 = .ok (.iload_n 1, 1) := by decide +kernel
theorem dX3_told_20 : decode cX3_told 20 = .ok (.iconst 4, 1) := by decide +kernel
theorem dX3_told_21 : decode cX3_told 21 = .ok (.if_icmp .ne 7, 3) := by decide +kernel
theorem dX3_told_24 : decode cX3_told 24 = .ok (.iconst (-1), 1) := by decide +kernel
theorem dX3_told_25 : decode cX3_told 25 = .ok (.goto 4, 3) := by decide +kernel
theorem dX3_told_28 : decode cX3_told 28 = .ok (.iconst 0, 1) := by decide +kernel
theorem dX3_told_29 : decode cX3_told 29 = .ok (.ireturn, 1) := by decide +kernel
theorem dX3_told_30 : decode cX3_told 30 = .ok (.iload_n 1, 1) := by decide +kernel
theorem dX3_told_31 : decode cX3_told 31 = .ok (.ifCond .ne 10, 3) := by decide +kernel
theorem dX3_told_34 : decode cX3_told 34 = .ok (.aload_n 0, 1) := by decide +kernel
theorem dX3_told_35 : decode cX3_told 35 = .ok (.getfield 148, 3) := by decide +kernel
theorem dX3_told_38 : decode cX3_told 38 = .ok (.goto 43, 3) := by decide +kernel
theorem dX3_told_41 : decode cX3_told 41 = .ok (.iload_n 1, 1) := by decide +kernel
theorem dX3_told_42 : decode cX3_told 42 = .ok (.iconst 1, 1) := by decide +kernel
theorem dX3_told_43 : decode cX3_told 43 = .ok (.if_icmp .ne 10, 3) := by decide +kernel
theorem dX3_told_46 : decode cX3_told 46 = .ok (.aload_n 0, 1) := by decide +kernel
theorem dX3_told_47 : decode cX3_told 47 = .ok (.getfield 133, 3) := by decide +kernel
theorem dX3_told_50 : decode cX3_told 50 = .ok (.goto 31, 3) := by decide +kernel
theorem dX3_told_53 : decode cX3_told 53 = .ok (.iload_n 1, 1) := by decide +kernel
theorem dX3_told_54 : decode cX3_told 54 = .ok (.iconst 2, 1) := by decide +kernel
theorem dX3_told_55 : decode cX3_told 55 = .ok (.if_icmp .ne 10, 3) := by decide +kernel
theorem dX3_told_58 : decode cX3_told 58 = .ok (.aload_n 0, 1) := by decide +kernel
theorem dX3_told_59 : decode cX3_told 59 = .ok (.getfield 145, 3) := by decide +kernel
theorem dX3_told_62 : decode cX3_told 62 = .ok (.goto 19, 3) := by decide +kernel
theorem dX3_told_65 : decode cX3_told 65 = .ok (.iload_n 1, 1) := by decide +kernel
theorem dX3_told_66 : decode cX3_told 66 = .ok (.iconst 3, 1) := by decide +kernel
theorem dX3_told_67 : decode cX3_told 67 = .ok (.if_icmp .ne 10, 3) := by decide +kernel
theorem dX3_told_70 : decode cX3_told 70 = .ok (.aload_n 0, 1) := by decide +kernel
theorem dX3_told_71 : decode cX3_told 71 = .ok (.getfield 136, 3) := by decide +kernel
theorem dX3_told_74 : decode cX3_told 74 = .ok (.goto 7, 3) := by decide +kernel
theorem dX3_told_77 : decode cX3_told 77 = .ok (.aload_n 0, 1) := by decide +kernel
theorem dX3_told_78 : decode cX3_told 78 = .ok (.getfield 139, 3) := by decide +kernel
theorem dX3_told_81 : decode cX3_told 81 = .ok (.ireturn, 1) := by decide +kernel
theorem dX3_of_0 : decode cX3_of 0 = .ok (.aload_n 0, 1) := by decide +kernel
theorem dX3_of_1 : decode cX3_of 1 = .ok (.iload_n 1, 1) := by decide +kernel
theorem dX3_of_2 : decode cX3_of 2 = .ok (.invokevirtual 114, 3) := by decide +kernel
theorem dX3_of_5 : decode cX3_of 5 = .ok (.ifCond .eq 13, 3) := by decide +kernel
theorem dX3_of_8 : decode cX3_of 8 = .ok (.iload_n 2, 1) := by decide +kernel
theorem dX3_of_9 : decode cX3_of 9 = .ok (.iconst 0, 1) := by decide +kernel
theorem dX3_of_10 : decode cX3_of 10 = .ok (.bipush 6, 2) := by decide +kernel
theorem dX3_of_12 : decode cX3_of 12 = .ok (.invokestatic 78, 3) := by decide +kernel
theorem dX3_of_15 : decode cX3_of 15 = .ok (.ifCond .ne 5, 3) := by decide +kernel
theorem dX3_of_18 : decode cX3_of 18 = .ok (.iconst 0, 1) := by decide +kernel
theorem dX3_of_19 : decode cX3_of 19 = .ok (.ireturn, 1) := by decide +kernel
theorem dX3_of_20 : decode cX3_of 20 = .ok (.iload_n 2, 1) := by decide +kernel
theorem dX3_of_21 : decode cX3_of 21 = .ok (.tableswitch 89 0 5 #[39, 46, 53, 60, 75, 82], 39) := by decide +kernel
theorem dX3_of_60 : decode cX3_of 60 = .ok (.aload_n 0, 1) := by decide +kernel
theorem dX3_of_61 : decode cX3_of 61 = .ok (.getfield 50, 3) := by decide +kernel
theorem dX3_of_64 : decode cX3_of 64 = .ok (.iload_n 1, 1) := by decide +kernel
theorem dX3_of_65 : decode cX3_of 65 = .ok (.iaload, 1) := by decide +kernel
theorem dX3_of_66 : decode cX3_of 66 = .ok (.ireturn, 1) := by decide +kernel
theorem dX3_of_67 : decode cX3_of 67 = .ok (.aload_n 0, 1) := by decide +kernel
theorem dX3_of_68 : decode cX3_of 68 = .ok (.getfield 56, 3) := by decide +kernel
theorem dX3_of_71 : decode cX3_of 71 = .ok (.iload_n 1, 1) := by decide +kernel
theorem dX3_of_72 : decode cX3_of 72 = .ok (.iaload, 1) := by decide +kernel
theorem dX3_of_73 : decode cX3_of 73 = .ok (.ireturn, 1) := by decide +kernel
theorem dX3_of_74 : decode cX3_of 74 = .ok (.aload_n 0, 1) := by decide +kernel
theorem dX3_of_75 : decode cX3_of 75 = .ok (.getfield 59, 3) := by decide +kernel
theorem dX3_of_78 : decode cX3_of 78 = .ok (.iload_n 1, 1) := by decide +kernel
theorem dX3_of_79 : decode cX3_of 79 = .ok (.iaload, 1) := by decide +kernel
theorem dX3_of_80 : decode cX3_of 80 = .ok (.ireturn, 1) := by decide +kernel
theorem dX3_of_81 : decode cX3_of 81 = .ok (.aload_n 0, 1) := by decide +kernel
theorem dX3_of_82 : decode cX3_of 82 = .ok (.getfield 29, 3) := by decide +kernel
theorem dX3_of_85 : decode cX3_of 85 = .ok (.iload_n 1, 1) := by decide +kernel
theorem dX3_of_86 : decode cX3_of 86 = .ok (.baload, 1) := by decide +kernel
theorem dX3_of_87 : decode cX3_of 87 = .ok (.ifCond .eq 7, 3) := by decide +kernel
theorem dX3_of_90 : decode cX3_of 90 = .ok (.iconst 1, 1) := by decide +kernel
theorem dX3_of_91 : decode cX3_of 91 = .ok (.goto 4, 3) := by decide +kernel
theorem dX3_of_94 : decode cX3_of 94 = .ok (.iconst 0, 1) := by decide +kernel
theorem dX3_of_95 : decode cX3_of 95 = .ok (.ireturn, 1) := by decide +kernel
theorem dX3_of_96 : decode cX3_of 96 = .ok (.aload_n 0, 1) := by decide +kernel
theorem dX3_of_97 : decode cX3_of 97 = .ok (.getfield 53, 3) := by decide +kernel
theorem dX3_of_100 : decode cX3_of 100 = .ok (.iload_n 1, 1) := by decide +kernel
theorem dX3_of_101 : decode cX3_of 101 = .ok (.iaload, 1) := by decide +kernel
theorem dX3_of_102 : decode cX3_of 102 = .ok (.ireturn, 1) := by decide +kernel
theorem dX3_of_103 : decode cX3_of 103 = .ok (.aload_n 0, 1) := by decide +kernel
theorem dX3_of_104 : decode cX3_of 104 = .ok (.getfield 47, 3) := by decide +kernel
theorem dX3_of_107 : decode cX3_of 107 = .ok (.iload_n 1, 1) := by decide +kernel
theorem dX3_of_108 : decode cX3_of 108 = .ok (.iaload, 1) := by decide +kernel
theorem dX3_of_109 : decode cX3_of 109 = .ok (.ireturn, 1) := by decide +kernel
theorem dX3_of_110 : decode cX3_of 110 = .ok (.aload_n 0, 1) := by decide +kernel
theorem dX3_of_111 : decode cX3_of 111 = .ok (.getfield 32, 3) := by decide +kernel
theorem dX3_of_114 : decode cX3_of 114 = .ok (.iload_n 1, 1) := by decide +kernel
theorem dX3_of_115 : decode cX3_of 115 = .ok (.baload, 1) := by decide +kernel
theorem dX3_of_116 : decode cX3_of 116 = .ok (.ifCond .eq 7, 3) := by decide +kernel
theorem dX3_of_119 : decode cX3_of 119 = .ok (.iconst 1, 1) := by decide +kernel
theorem dX3_of_120 : decode cX3_of 120 = .ok (.goto 4, 3) := by decide +kernel
theorem dX3_of_123 : decode cX3_of 123 = .ok (.iconst 0, 1) := by decide +kernel
theorem dX3_of_124 : decode cX3_of 124 = .ok (.ireturn, 1) := by decide +kernel
theorem dX3_count_0 : decode cX3_count 0 = .ok (.iload_n 1, 1) := by decide +kernel
theorem dX3_count_1 : decode cX3_count 1 = .ok (.iconst 1, 1) := by decide +kernel
theorem dX3_count_2 : decode cX3_count 2 = .ok (.if_icmp .ne 38, 3) := by decide +kernel
theorem dX3_count_5 : decode cX3_count 5 = .ok (.iconst 0, 1) := by decide +kernel
theorem dX3_count_6 : decode cX3_count 6 = .ok (.istore_n 2, 1) := by decide +kernel
theorem dX3_count_7 : decode cX3_count 7 = .ok (.iconst 0, 1) := by decide +kernel
theorem dX3_count_8 : decode cX3_count 8 = .ok (.istore_n 3, 1) := by decide +kernel
theorem dX3_count_9 : decode cX3_count 9 = .ok (.iload_n 3, 1) := by decide +kernel
theorem dX3_count_10 : decode cX3_count 10 = .ok (.bipush 8, 2) := by decide +kernel
theorem dX3_count_12 : decode cX3_count 12 = .ok (.if_icmp .ge 26, 3) := by decide +kernel
theorem dX3_count_15 : decode cX3_count 15 = .ok (.iload_n 2, 1) := by decide +kernel
theorem dX3_count_16 : decode cX3_count 16 = .ok (.aload_n 0, 1) := by decide +kernel
theorem dX3_count_17 : decode cX3_count 17 = .ok (.getfield 25, 3) := by decide +kernel
theorem dX3_count_20 : decode cX3_count 20 = .ok (.iload_n 3, 1) := by decide +kernel
theorem dX3_count_21 : decode cX3_count 21 = .ok (.baload, 1) := by decide +kernel
theorem dX3_count_22 : decode cX3_count 22 = .ok (.ifCond .eq 7, 3) := by decide +kernel
theorem dX3_count_25 : decode cX3_count 25 = .ok (.iconst 1, 1) := by decide +kernel
theorem dX3_count_26 : decode cX3_count 26 = .ok (.goto 4, 3) := by decide +kernel
theorem dX3_count_29 : decode cX3_count 29 = .ok (.iconst 0, 1) := by decide +kernel
theorem dX3_count_30 : decode cX3_count 30 = .ok (.iadd, 1) := by decide +kernel
theorem dX3_count_31 : decode cX3_count 31 = .ok (.istore_n 2, 1) := by decide +kernel
theorem dX3_count_32 : decode cX3_count 32 = .ok (.iinc 3 1, 3) := by decide +kernel
theorem dX3_count_35 : decode cX3_count 35 = .ok (.goto (-26), 3) := by decide +kernel
theorem dX3_count_38 : decode cX3_count 38 = .ok (.iload_n 2, 1) := by decide +kernel
theorem dX3_count_39 : decode cX3_count 39 = .ok (.ireturn, 1) := by decide +kernel
theorem dX3_count_40 : decode cX3_count 40 = .ok (.iload_n 1, 1) := by decide +kernel
theorem dX3_count_41 : decode cX3_count 41 = .ok (.ifCond .ne 10, 3) := by decide +kernel
theorem dX3_count_44 : decode cX3_count 44 = .ok (.aload_n 0, 1) := by decide +kernel
theorem dX3_count_45 : decode cX3_count 45 = .ok (.getfield 74, 3) := by decide +kernel
theorem dX3_count_48 : decode cX3_count 48 = .ok (.goto 17, 3) := by decide +kernel
theorem dX3_count_51 : decode cX3_count 51 = .ok (.iload_n 1, 1) := by decide +kernel
theorem dX3_count_52 : decode cX3_count 52 = .ok (.iconst 2, 1) := by decide +kernel
theorem dX3_count_53 : decode cX3_count 53 = .ok (.if_icmp .ne 10, 3) := by decide +kernel
theorem dX3_count_56 : decode cX3_count 56 = .ok (.aload_n 0, 1) := by decide +kernel
theorem dX3_count_57 : decode cX3_count 57 = .ok (.getfield 158, 3) := by decide +kernel
theorem dX3_count_60 : decode cX3_count 60 = .ok (.goto 5, 3) := by decide +kernel
theorem dX3_count_63 : decode cX3_count 63 = .ok (.bipush (-2), 2) := by decide +kernel
theorem dX3_count_65 : decode cX3_count 65 = .ok (.ireturn, 1) := by decide +kernel
theorem dL_law_0 : decode cL_law 0 = .ok (.new 7, 3) := by decide +kernel
theorem dL_law_3 : decode cL_law 3 = .ok (.dup, 1) := by decide +kernel
theorem dL_law_4 : decode cL_law 4 = .ok (.invokespecial 9, 3) := by decide +kernel
theorem dL_law_7 : decode cL_law 7 = .ok (.astore_n 1, 1) := by decide +kernel
theorem dL_law_8 : decode cL_law 8 = .ok (.new 10, 3) := by decide +kernel
theorem dL_law_11 : decode cL_law 11 = .ok (.dup, 1) := by decide +kernel
theorem dL_law_12 : decode cL_law 12 = .ok (.invokespecial 12, 3) := by decide +kernel
theorem dL_law_15 : decode cL_law 15 = .ok (.astore_n 2, 1) := by decide +kernel
theorem dL_law_16 : decode cL_law 16 = .ok (.iconst 0, 1) := by decide +kernel
theorem dL_law_17 : decode cL_law 17 = .ok (.istore_n 3, 1) := by decide +kernel
theorem dL_law_18 : decode cL_law 18 = .ok (.iload_n 3, 1) := by decide +kernel
theorem dL_law_19 : decode cL_law 19 = .ok (.aload_n 0, 1) := by decide +kernel
theorem dL_law_20 : decode cL_law 20 = .ok (.arraylength, 1) := by decide +kernel
theorem dL_law_21 : decode cL_law 21 = .ok (.bipush 6, 2) := by decide +kernel
theorem dL_law_23 : decode cL_law 23 = .ok (.isub, 1) := by decide +kernel
theorem dL_law_24 : decode cL_law 24 = .ok (.if_icmp .gt 681, 3) := by decide +kernel
theorem dL_law_27 : decode cL_law 27 = .ok (.aload_n 0, 1) := by decide +kernel
theorem dL_law_28 : decode cL_law 28 = .ok (.iload_n 3, 1) := by decide +kernel
theorem dL_law_29 : decode cL_law 29 = .ok (.iaload, 1) := by decide +kernel
theorem dL_law_30 : decode cL_law 30 = .ok (.bipush 15, 2) := by decide +kernel
theorem dL_law_32 : decode cL_law 32 = .ok (.iand, 1) := by decide +kernel
theorem dL_law_33 : decode cL_law 33 = .ok (.tableswitch 666 0 14 #[75, 108, 151, 194, 227, 270, 303, 346, 379, 442, 505, 554, 587, 610, 643], 75) := by decide +kernel
theorem dL_law_108 : decode cL_law 108 = .ok (.aload_n 1, 1) := by decide +kernel
theorem dL_law_109 : decode cL_law 109 = .ok (.aload_n 0, 1) := by decide +kernel
theorem dL_law_110 : decode cL_law 110 = .ok (.iload_n 3, 1) := by decide +kernel
theorem dL_law_111 : decode cL_law 111 = .ok (.iconst 1, 1) := by decide +kernel
theorem dL_law_112 : decode cL_law 112 = .ok (.iadd, 1) := by decide +kernel
theorem dL_law_113 : decode cL_law 113 = .ok (.iaload, 1) := by decide +kernel
theorem dL_law_114 : decode cL_law 114 = .ok (.aload_n 0, 1) := by decide +kernel
theorem dL_law_115 : decode cL_law 115 = .ok (.iload_n 3, 1) := by decide +kernel
theorem dL_law_116 : decode cL_law 116 = .ok (.iconst 2, 1) := by decide +kernel
theorem dL_law_117 : decode cL_law 117 = .ok (.iadd, 1) := by decide +kernel
theorem dL_law_118 : decode cL_law 118 = .ok (.iaload, 1) := by decide +kernel
theorem dL_law_119 : decode cL_law 119 = .ok (.invokevirtual 13, 3) := by decide +kernel
theorem dL_law_122 : decode cL_law 122 = .ok (.aload_n 2, 1) := by decide +kernel
theorem dL_law_123 : decode cL_law 123 = .ok (.aload_n 0, 1) := by decide +kernel
theorem dL_law_124 : decode cL_law 124 = .ok (.iload_n 3, 1) := by decide +kernel
theorem dL_law_125 : decode cL_law 125 = .ok (.iconst 1, 1) := by decide +kernel
theorem dL_law_126 : decode cL_law 126 = .ok (.iadd, 1) := by decide +kernel
theorem dL_law_127 : decode cL_law 127 = .ok (.iaload, 1) := by decide +kernel
theorem dL_law_128 : decode cL_law 128 = .ok (.aload_n 0, 1) := by decide +kernel
theorem dL_law_129 : decode cL_law 129 = .ok (.iload_n 3, 1) := by decide +kernel
theorem dL_law_130 : decode cL_law 130 = .ok (.iconst 2, 1) := by decide +kernel
theorem dL_law_131 : decode cL_law 131 = .ok (.iadd, 1) := by decide +kernel
theorem dL_law_132 : decode cL_law 132 = .ok (.iaload, 1) := by decide +kernel
theorem dL_law_133 : decode cL_law 133 = .ok (.invokevirtual 17, 3) := by decide +kernel
theorem dL_law_136 : decode cL_law 136 = .ok (.if_icmp .eq 563, 3) := by decide +kernel
theorem dL_law_139 : decode cL_law 139 = .ok (.iconst 0, 1) := by decide +kernel
theorem dL_law_140 : decode cL_law 140 = .ok (.ireturn, 1) := by decide +kernel
theorem dL_law_141 : decode cL_law 141 = .ok (.aload_n 1, 1) := by decide +kernel
theorem dL_law_142 : decode cL_law 142 = .ok (.aload_n 0, 1) := by decide +kernel
theorem dL_law_143 : decode cL_law 143 = .ok (.iload_n 3, 1) := by decide +kernel
theorem dL_law_144 : decode cL_law 144 = .ok (.iconst 1, 1) := by decide +kernel
theorem dL_law_145 : decode cL_law 145 = .ok (.iadd, 1) := by decide +kernel
theorem dL_law_146 : decode cL_law 146 = .ok (.iaload, 1) := by decide +kernel
theorem dL_law_147 : decode cL_law 147 = .ok (.aload_n 0, 1) := by decide +kernel
theorem dL_law_148 : decode cL_law 148 = .ok (.iload_n 3, 1) := by decide +kernel
theorem dL_law_149 : decode cL_law 149 = .ok (.iconst 2, 1) := by decide +kernel
theorem dL_law_150 : decode cL_law 150 = .ok (.iadd, 1) := by decide +kernel
theorem dL_law_151 : decode cL_law 151 = .ok (.iaload, 1) := by decide +kernel
theorem dL_law_152 : decode cL_law 152 = .ok (.aload_n 0, 1) := by decide +kernel
theorem dL_law_153 : decode cL_law 153 = .ok (.iload_n 3, 1) := by decide +kernel
theorem dL_law_154 : decode cL_law 154 = .ok (.iconst 3, 1) := by decide +kernel
theorem dL_law_155 : decode cL_law 155 = .ok (.iadd, 1) := by decide +kernel
theorem dL_law_156 : decode cL_law 156 = .ok (.iaload, 1) := by decide +kernel
theorem dL_law_157 : decode cL_law 157 = .ok (.invokevirtual 18, 3) := by decide +kernel
theorem dL_law_160 : decode cL_law 160 = .ok (.aload_n 2, 1) := by decide +kernel
theorem dL_law_161 : decode cL_law 161 = .ok (.aload_n 0, 1) := by decide +kernel
theorem dL_law_162 : decode cL_law 162 = .ok (.iload_n 3, 1) := by decide +kernel
theorem dL_law_163 : decode cL_law 163 = .ok (.iconst 1, 1) := by decide +kernel
theorem dL_law_164 : decode cL_law 164 = .ok (.iadd, 1) := by decide +kernel
theorem dL_law_165 : decode cL_law 165 = .ok (.iaload, 1) := by decide +kernel
theorem dL_law_166 : decode cL_law 166 = .ok (.aload_n 0, 1) := by decide +kernel
theorem dL_law_167 : decode cL_law 167 = .ok (.iload_n 3, 1) := by decide +kernel
theorem dL_law_168 : decode cL_law 168 = .ok (.iconst 2, 1) := by decide +kernel
theorem dL_law_169 : decode cL_law 169 = .ok (.iadd, 1) := by decide +kernel
theorem dL_law_170 : decode cL_law 170 = .ok (.iaload, 1) := by decide +kernel
theorem dL_law_171 : decode cL_law 171 = .ok (.aload_n 0, 1) := by decide +kernel
theorem dL_law_172 : decode cL_law 172 = .ok (.iload_n 3, 1) := by decide +kernel
theorem dL_law_173 : decode cL_law 173 = .ok (.iconst 3, 1) := by decide +kernel
theorem dL_law_174 : decode cL_law 174 = .ok (.iadd, 1) := by decide +kernel
theorem dL_law_175 : decode cL_law 175 = .ok (.iaload, 1) := by decide +kernel
theorem dL_law_176 : decode cL_law 176 = .ok (.invokevirtual 22, 3) := by decide +kernel
theorem dL_law_179 : decode cL_law 179 = .ok (.if_icmp .eq 520, 3) := by decide +kernel
theorem dL_law_182 : decode cL_law 182 = .ok (.iconst 0, 1) := by decide +kernel
theorem dL_law_183 : decode cL_law 183 = .ok (.ireturn, 1) := by decide +kernel
theorem dL_law_184 : decode cL_law 184 = .ok (.aload_n 1, 1) := by decide +kernel
theorem dL_law_185 : decode cL_law 185 = .ok (.aload_n 0, 1) := by decide +kernel
theorem dL_law_186 : decode cL_law 186 = .ok (.iload_n 3, 1) := by decide +kernel
theorem dL_law_187 : decode cL_law 187 = .ok (.iconst 1, 1) := by decide +kernel
theorem dL_law_188 : decode cL_law 188 = .ok (.iadd, 1) := by decide +kernel
theorem dL_law_189 : decode cL_law 189 = .ok (.iaload, 1) := by decide +kernel
theorem dL_law_190 : decode cL_law 190 = .ok (.aload_n 0, 1) := by decide +kernel
theorem dL_law_191 : decode cL_law 191 = .ok (.iload_n 3, 1) := by decide +kernel
theorem dL_law_192 : decode cL_law 192 = .ok (.iconst 2, 1) := by decide +kernel
theorem dL_law_193 : decode cL_law 193 = .ok (.iadd, 1) := by decide +kernel
theorem dL_law_194 : decode cL_law 194 = .ok (.iaload, 1) := by decide +kernel
theorem dL_law_195 : decode cL_law 195 = .ok (.aload_n 0, 1) := by decide +kernel
theorem dL_law_196 : decode cL_law 196 = .ok (.iload_n 3, 1) := by decide +kernel
theorem dL_law_197 : decode cL_law 197 = .ok (.iconst 3, 1) := by decide +kernel
theorem dL_law_198 : decode cL_law 198 = .ok (.iadd, 1) := by decide +kernel
theorem dL_law_199 : decode cL_law 199 = .ok (.iaload, 1) := by decide +kernel
theorem dL_law_200 : decode cL_law 200 = .ok (.invokevirtual 23, 3) := by decide +kernel
theorem dL_law_203 : decode cL_law 203 = .ok (.aload_n 2, 1) := by decide +kernel
theorem dL_law_204 : decode cL_law 204 = .ok (.aload_n 0, 1) := by decide +kernel
theorem dL_law_205 : decode cL_law 205 = .ok (.iload_n 3, 1) := by decide +kernel
theorem dL_law_206 : decode cL_law 206 = .ok (.iconst 1, 1) := by decide +kernel
theorem dL_law_207 : decode cL_law 207 = .ok (.iadd, 1) := by decide +kernel
theorem dL_law_208 : decode cL_law 208 = .ok (.iaload, 1) := by decide +kernel
theorem dL_law_209 : decode cL_law 209 = .ok (.aload_n 0, 1) := by decide +kernel
theorem dL_law_210 : decode cL_law 210 = .ok (.iload_n 3, 1) := by decide +kernel
theorem dL_law_211 : decode cL_law 211 = .ok (.iconst 2, 1) := by decide +kernel
theorem dL_law_212 : decode cL_law 212 = .ok (.iadd, 1) := by decide +kernel
theorem dL_law_213 : decode cL_law 213 = .ok (.iaload, 1) := by decide +kernel
theorem dL_law_214 : decode cL_law 214 = .ok (.aload_n 0, 1) := by decide +kernel
theorem dL_law_215 : decode cL_law 215 = .ok (.iload_n 3, 1) := by decide +kernel
theorem dL_law_216 : decode cL_law 216 = .ok (.iconst 3, 1) := by decide +kernel
theorem dL_law_217 : decode cL_law 217 = .ok (.iadd, 1) := by decide +kernel
theorem dL_law_218 : decode cL_law 218 = .ok (.iaload, 1) := by decide +kernel
theorem dL_law_219 : decode cL_law 219 = .ok (.invokevirtual 26, 3) := by decide +kernel
theorem dL_law_222 : decode cL_law 222 = .ok (.if_icmp .eq 477, 3) := by decide +kernel
theorem dL_law_225 : decode cL_law 225 = .ok (.iconst 0, 1) := by decide +kernel
theorem dL_law_226 : decode cL_law 226 = .ok (.ireturn, 1) := by decide +kernel
theorem dL_law_227 : decode cL_law 227 = .ok (.aload_n 1, 1) := by decide +kernel
theorem dL_law_228 : decode cL_law 228 = .ok (.aload_n 0, 1) := by decide +kernel
theorem dL_law_229 : decode cL_law 229 = .ok (.iload_n 3, 1) := by decide +kernel
theorem dL_law_230 : decode cL_law 230 = .ok (.iconst 1, 1) := by decide +kernel
theorem dL_law_231 : decode cL_law 231 = .ok (.iadd, 1) := by decide +kernel
theorem dL_law_232 : decode cL_law 232 = .ok (.iaload, 1) := by decide +kernel
theorem dL_law_233 : decode cL_law 233 = .ok (.aload_n 0, 1) := by decide +kernel
theorem dL_law_234 : decode cL_law 234 = .ok (.iload_n 3, 1) := by decide +kernel
theorem dL_law_235 : decode cL_law 235 = .ok (.iconst 2, 1) := by decide +kernel
theorem dL_law_236 : decode cL_law 236 = .ok (.iadd, 1) := by decide +kernel
theorem dL_law_237 : decode cL_law 237 = .ok (.iaload, 1) := by decide +kernel
theorem dL_law_238 : decode cL_law 238 = .ok (.invokevirtual 27, 3) := by decide +kernel
theorem dL_law_241 : decode cL_law 241 = .ok (.aload_n 2, 1) := by decide +kernel
theorem dL_law_242 : decode cL_law 242 = .ok (.aload_n 0, 1) := by decide +kernel
theorem dL_law_243 : decode cL_law 243 = .ok (.iload_n 3, 1) := by decide +kernel
theorem dL_law_244 : decode cL_law 244 = .ok (.iconst 1, 1) := by decide +kernel
theorem dL_law_245 : decode cL_law 245 = .ok (.iadd, 1) := by decide +kernel
theorem dL_law_246 : decode cL_law 246 = .ok (.iaload, 1) := by decide +kernel
theorem dL_law_247 : decode cL_law 247 = .ok (.aload_n 0, 1) := by decide +kernel
theorem dL_law_248 : decode cL_law 248 = .ok (.iload_n 3, 1) := by decide +kernel
theorem dL_law_249 : decode cL_law 249 = .ok (.iconst 2, 1) := by decide +kernel
theorem dL_law_250 : decode cL_law 250 = .ok (.iadd, 1) := by decide +kernel
theorem dL_law_251 : decode cL_law 251 = .ok (.iaload, 1) := by decide +kernel
theorem dL_law_252 : decode cL_law 252 = .ok (.invokevirtual 30, 3) := by decide +kernel
theorem dL_law_255 : decode cL_law 255 = .ok (.if_icmp .eq 444, 3) := by decide +kernel
theorem dL_law_258 : decode cL_law 258 = .ok (.iconst 0, 1) := by decide +kernel
theorem dL_law_259 : decode cL_law 259 = .ok (.ireturn, 1) := by decide +kernel
theorem dL_law_260 : decode cL_law 260 = .ok (.aload_n 1, 1) := by decide +kernel
theorem dL_law_261 : decode cL_law 261 = .ok (.aload_n 0, 1) := by decide +kernel
theorem dL_law_262 : decode cL_law 262 = .ok (.iload_n 3, 1) := by decide +kernel
theorem dL_law_263 : decode cL_law 263 = .ok (.iconst 1, 1) := by decide +kernel
theorem dL_law_264 : decode cL_law 264 = .ok (.iadd, 1) := by decide +kernel
theorem dL_law_265 : decode cL_law 265 = .ok (.iaload, 1) := by decide +kernel
theorem dL_law_266 : decode cL_law 266 = .ok (.aload_n 0, 1) := by decide +kernel
theorem dL_law_267 : decode cL_law 267 = .ok (.iload_n 3, 1) := by decide +kernel
theorem dL_law_268 : decode cL_law 268 = .ok (.iconst 2, 1) := by decide +kernel
theorem dL_law_269 : decode cL_law 269 = .ok (.iadd, 1) := by decide +kernel
theorem dL_law_270 : decode cL_law 270 = .ok (.iaload, 1) := by decide +kernel
theorem dL_law_271 : decode cL_law 271 = .ok (.aload_n 0, 1) := by decide +kernel
theorem dL_law_272 : decode cL_law 272 = .ok (.iload_n 3, 1) := by decide +kernel
theorem dL_law_273 : decode cL_law 273 = .ok (.iconst 3, 1) := by decide +kernel
theorem dL_law_274 : decode cL_law 274 = .ok (.iadd, 1) := by decide +kernel
theorem dL_law_275 : decode cL_law 275 = .ok (.iaload, 1) := by decide +kernel
theorem dL_law_276 : decode cL_law 276 = .ok (.invokevirtual 31, 3) := by decide +kernel
theorem dL_law_279 : decode cL_law 279 = .ok (.aload_n 2, 1) := by decide +kernel
theorem dL_law_280 : decode cL_law 280 = .ok (.aload_n 0, 1) := by decide +kernel
theorem dL_law_281 : decode cL_law 281 = .ok (.iload_n 3, 1) := by decide +kernel
theorem dL_law_282 : decode cL_law 282 = .ok (.iconst 1, 1) := by decide +kernel
theorem dL_law_283 : decode cL_law 283 = .ok (.iadd, 1) := by decide +kernel
theorem dL_law_284 : decode cL_law 284 = .ok (.iaload, 1) := by decide +kernel
theorem dL_law_285 : decode cL_law 285 = .ok (.aload_n 0, 1) := by decide +kernel
theorem dL_law_286 : decode cL_law 286 = .ok (.iload_n 3, 1) := by decide +kernel
theorem dL_law_287 : decode cL_law 287 = .ok (.iconst 2, 1) := by decide +kernel
theorem dL_law_288 : decode cL_law 288 = .ok (.iadd, 1) := by decide +kernel
theorem dL_law_289 : decode cL_law 289 = .ok (.iaload, 1) := by decide +kernel
theorem dL_law_290 : decode cL_law 290 = .ok (.aload_n 0, 1) := by decide +kernel
theorem dL_law_291 : decode cL_law 291 = .ok (.iload_n 3, 1) := by decide +kernel
theorem dL_law_292 : decode cL_law 292 = .ok (.iconst 3, 1) := by decide +kernel
theorem dL_law_293 : decode cL_law 293 = .ok (.iadd, 1) := by decide +kernel
theorem dL_law_294 : decode cL_law 294 = .ok (.iaload, 1) := by decide +kernel
theorem dL_law_295 : decode cL_law 295 = .ok (.invokevirtual 34, 3) := by decide +kernel
theorem dL_law_298 : decode cL_law 298 = .ok (.if_icmp .eq 401, 3) := by decide +kernel
theorem dL_law_301 : decode cL_law 301 = .ok (.iconst 0, 1) := by decide +kernel
theorem dL_law_302 : decode cL_law 302 = .ok (.ireturn, 1) := by decide +kernel
theorem dL_law_303 : decode cL_law 303 = .ok (.aload_n 1, 1) := by decide +kernel
theorem dL_law_304 : decode cL_law 304 = .ok (.aload_n 0, 1) := by decide +kernel
theorem dL_law_305 : decode cL_law 305 = .ok (.iload_n 3, 1) := by decide +kernel
theorem dL_law_306 : decode cL_law 306 = .ok (.iconst 1, 1) := by decide +kernel
theorem dL_law_307 : decode cL_law 307 = .ok (.iadd, 1) := by decide +kernel
theorem dL_law_308 : decode cL_law 308 = .ok (.iaload, 1) := by decide +kernel
theorem dL_law_309 : decode cL_law 309 = .ok (.aload_n 0, 1) := by decide +kernel
theorem dL_law_310 : decode cL_law 310 = .ok (.iload_n 3, 1) := by decide +kernel
theorem dL_law_311 : decode cL_law 311 = .ok (.iconst 2, 1) := by decide +kernel
theorem dL_law_312 : decode cL_law 312 = .ok (.iadd, 1) := by decide +kernel
theorem dL_law_313 : decode cL_law 313 = .ok (.iaload, 1) := by decide +kernel
theorem dL_law_314 : decode cL_law 314 = .ok (.invokevirtual 35, 3) := by decide +kernel
theorem dL_law_317 : decode cL_law 317 = .ok (.aload_n 2, 1) := by decide +kernel
theorem dL_law_318 : decode cL_law 318 = .ok (.aload_n 0, 1) := by decide +kernel
theorem dL_law_319 : decode cL_law 319 = .ok (.iload_n 3, 1) := by decide +kernel
theorem dL_law_320 : decode cL_law 320 = .ok (.iconst 1, 1) := by decide +kernel
theorem dL_law_321 : decode cL_law 321 = .ok (.iadd, 1) := by decide +kernel
theorem dL_law_322 : decode cL_law 322 = .ok (.iaload, 1) := by decide +kernel
theorem dL_law_323 : decode cL_law 323 = .ok (.aload_n 0, 1) := by decide +kernel
theorem dL_law_324 : decode cL_law 324 = .ok (.iload_n 3, 1) := by decide +kernel
theorem dL_law_325 : decode cL_law 325 = .ok (.iconst 2, 1) := by decide +kernel
theorem dL_law_326 : decode cL_law 326 = .ok (.iadd, 1) := by decide +kernel
theorem dL_law_327 : decode cL_law 327 = .ok (.iaload, 1) := by decide +kernel
theorem dL_law_328 : decode cL_law 328 = .ok (.invokevirtual 38, 3) := by decide +kernel
theorem dL_law_331 : decode cL_law 331 = .ok (.if_icmp .eq 368, 3) := by decide +kernel
theorem dL_law_334 : decode cL_law 334 = .ok (.iconst 0, 1) := by decide +kernel
theorem dL_law_335 : decode cL_law 335 = .ok (.ireturn, 1) := by decide +kernel
theorem dL_law_336 : decode cL_law 336 = .ok (.aload_n 1, 1) := by decide +kernel
theorem dL_law_337 : decode cL_law 337 = .ok (.aload_n 0, 1) := by decide +kernel
theorem dL_law_338 : decode cL_law 338 = .ok (.iload_n 3, 1) := by decide +kernel
theorem dL_law_339 : decode cL_law 339 = .ok (.iconst 1, 1) := by decide +kernel
theorem dL_law_340 : decode cL_law 340 = .ok (.iadd, 1) := by decide +kernel
theorem dL_law_341 : decode cL_law 341 = .ok (.iaload, 1) := by decide +kernel
theorem dL_law_342 : decode cL_law 342 = .ok (.aload_n 0, 1) := by decide +kernel
theorem dL_law_343 : decode cL_law 343 = .ok (.iload_n 3, 1) := by decide +kernel
theorem dL_law_344 : decode cL_law 344 = .ok (.iconst 2, 1) := by decide +kernel
theorem dL_law_345 : decode cL_law 345 = .ok (.iadd, 1) := by decide +kernel
theorem dL_law_346 : decode cL_law 346 = .ok (.iaload, 1) := by decide +kernel
theorem dL_law_347 : decode cL_law 347 = .ok (.aload_n 0, 1) := by decide +kernel
theorem dL_law_348 : decode cL_law 348 = .ok (.iload_n 3, 1) := by decide +kernel
theorem dL_law_349 : decode cL_law 349 = .ok (.iconst 3, 1) := by decide +kernel
theorem dL_law_350 : decode cL_law 350 = .ok (.iadd, 1) := by decide +kernel
theorem dL_law_351 : decode cL_law 351 = .ok (.iaload, 1) := by decide +kernel
theorem dL_law_352 : decode cL_law 352 = .ok (.invokevirtual 39, 3) := by decide +kernel
theorem dL_law_355 : decode cL_law 355 = .ok (.aload_n 2, 1) := by decide +kernel
theorem dL_law_356 : decode cL_law 356 = .ok (.aload_n 0, 1) := by decide +kernel
theorem dL_law_357 : decode cL_law 357 = .ok (.iload_n 3, 1) := by decide +kernel
theorem dL_law_358 : decode cL_law 358 = .ok (.iconst 1, 1) := by decide +kernel
theorem dL_law_359 : decode cL_law 359 = .ok (.iadd, 1) := by decide +kernel
theorem dL_law_360 : decode cL_law 360 = .ok (.iaload, 1) := by decide +kernel
theorem dL_law_361 : decode cL_law 361 = .ok (.aload_n 0, 1) := by decide +kernel
theorem dL_law_362 : decode cL_law 362 = .ok (.iload_n 3, 1) := by decide +kernel
theorem dL_law_363 : decode cL_law 363 = .ok (.iconst 2, 1) := by decide +kernel
theorem dL_law_364 : decode cL_law 364 = .ok (.iadd, 1) := by decide +kernel
theorem dL_law_365 : decode cL_law 365 = .ok (.iaload, 1) := by decide +kernel
theorem dL_law_366 : decode cL_law 366 = .ok (.aload_n 0, 1) := by decide +kernel
theorem dL_law_367 : decode cL_law 367 = .ok (.iload_n 3, 1) := by decide +kernel
theorem dL_law_368 : decode cL_law 368 = .ok (.iconst 3, 1) := by decide +kernel
theorem dL_law_369 : decode cL_law 369 = .ok (.iadd, 1) := by decide +kernel
theorem dL_law_370 : decode cL_law 370 = .ok (.iaload, 1) := by decide +kernel
theorem dL_law_371 : decode cL_law 371 = .ok (.invokevirtual 42, 3) := by decide +kernel
theorem dL_law_374 : decode cL_law 374 = .ok (.if_icmp .eq 325, 3) := by decide +kernel
theorem dL_law_377 : decode cL_law 377 = .ok (.iconst 0, 1) := by decide +kernel
theorem dL_law_378 : decode cL_law 378 = .ok (.ireturn, 1) := by decide +kernel
theorem dL_law_379 : decode cL_law 379 = .ok (.aload_n 1, 1) := by decide +kernel
theorem dL_law_380 : decode cL_law 380 = .ok (.aload_n 0, 1) := by decide +kernel
theorem dL_law_381 : decode cL_law 381 = .ok (.iload_n 3, 1) := by decide +kernel
theorem dL_law_382 : decode cL_law 382 = .ok (.iconst 1, 1) := by decide +kernel
theorem dL_law_383 : decode cL_law 383 = .ok (.iadd, 1) := by decide +kernel
theorem dL_law_384 : decode cL_law 384 = .ok (.iaload, 1) := by decide +kernel
theorem dL_law_385 : decode cL_law 385 = .ok (.aload_n 0, 1) := by decide +kernel
theorem dL_law_386 : decode cL_law 386 = .ok (.iload_n 3, 1) := by decide +kernel
theorem dL_law_387 : decode cL_law 387 = .ok (.iconst 2, 1) := by decide +kernel
theorem dL_law_388 : decode cL_law 388 = .ok (.iadd, 1) := by decide +kernel
theorem dL_law_389 : decode cL_law 389 = .ok (.iaload, 1) := by decide +kernel
theorem dL_law_390 : decode cL_law 390 = .ok (.invokevirtual 43, 3) := by decide +kernel
theorem dL_law_393 : decode cL_law 393 = .ok (.aload_n 2, 1) := by decide +kernel
theorem dL_law_394 : decode cL_law 394 = .ok (.aload_n 0, 1) := by decide +kernel
theorem dL_law_395 : decode cL_law 395 = .ok (.iload_n 3, 1) := by decide +kernel
theorem dL_law_396 : decode cL_law 396 = .ok (.iconst 1, 1) := by decide +kernel
theorem dL_law_397 : decode cL_law 397 = .ok (.iadd, 1) := by decide +kernel
theorem dL_law_398 : decode cL_law 398 = .ok (.iaload, 1) := by decide +kernel
theorem dL_law_399 : decode cL_law 399 = .ok (.aload_n 0, 1) := by decide +kernel
theorem dL_law_400 : decode cL_law 400 = .ok (.iload_n 3, 1) := by decide +kernel
theorem dL_law_401 : decode cL_law 401 = .ok (.iconst 2, 1) := by decide +kernel
theorem dL_law_402 : decode cL_law 402 = .ok (.iadd, 1) := by decide +kernel
theorem dL_law_403 : decode cL_law 403 = .ok (.iaload, 1) := by decide +kernel
theorem dL_law_404 : decode cL_law 404 = .ok (.invokevirtual 46, 3) := by decide +kernel
theorem dL_law_407 : decode cL_law 407 = .ok (.if_icmp .eq 292, 3) := by decide +kernel
theorem dL_law_410 : decode cL_law 410 = .ok (.iconst 0, 1) := by decide +kernel
theorem dL_law_411 : decode cL_law 411 = .ok (.ireturn, 1) := by decide +kernel
theorem dL_law_412 : decode cL_law 412 = .ok (.aload_n 1, 1) := by decide +kernel
theorem dL_law_413 : decode cL_law 413 = .ok (.aload_n 0, 1) := by decide +kernel
theorem dL_law_414 : decode cL_law 414 = .ok (.iload_n 3, 1) := by decide +kernel
theorem dL_law_415 : decode cL_law 415 = .ok (.iconst 1, 1) := by decide +kernel
theorem dL_law_416 : decode cL_law 416 = .ok (.iadd, 1) := by decide +kernel
theorem dL_law_417 : decode cL_law 417 = .ok (.iaload, 1) := by decide +kernel
theorem dL_law_418 : decode cL_law 418 = .ok (.aload_n 0, 1) := by decide +kernel
theorem dL_law_419 : decode cL_law 419 = .ok (.iload_n 3, 1) := by decide +kernel
theorem dL_law_420 : decode cL_law 420 = .ok (.iconst 2, 1) := by decide +kernel
theorem dL_law_421 : decode cL_law 421 = .ok (.iadd, 1) := by decide +kernel
theorem dL_law_422 : decode cL_law 422 = .ok (.iaload, 1) := by decide +kernel
theorem dL_law_423 : decode cL_law 423 = .ok (.aload_n 0, 1) := by decide +kernel
theorem dL_law_424 : decode cL_law 424 = .ok (.iload_n 3, 1) := by decide +kernel
theorem dL_law_425 : decode cL_law 425 = .ok (.iconst 3, 1) := by decide +kernel
theorem dL_law_426 : decode cL_law 426 = .ok (.iadd, 1) := by decide +kernel
theorem dL_law_427 : decode cL_law 427 = .ok (.iaload, 1) := by decide +kernel
theorem dL_law_428 : decode cL_law 428 = .ok (.aload_n 0, 1) := by decide +kernel
theorem dL_law_429 : decode cL_law 429 = .ok (.iload_n 3, 1) := by decide +kernel
theorem dL_law_430 : decode cL_law 430 = .ok (.iconst 4, 1) := by decide +kernel
theorem dL_law_431 : decode cL_law 431 = .ok (.iadd, 1) := by decide +kernel
theorem dL_law_432 : decode cL_law 432 = .ok (.iaload, 1) := by decide +kernel
theorem dL_law_433 : decode cL_law 433 = .ok (.aload_n 0, 1) := by decide +kernel
theorem dL_law_434 : decode cL_law 434 = .ok (.iload_n 3, 1) := by decide +kernel
theorem dL_law_435 : decode cL_law 435 = .ok (.iconst 5, 1) := by decide +kernel
theorem dL_law_436 : decode cL_law 436 = .ok (.iadd, 1) := by decide +kernel
theorem dL_law_437 : decode cL_law 437 = .ok (.iaload, 1) := by decide +kernel
theorem dL_law_438 : decode cL_law 438 = .ok (.invokevirtual 47, 3) := by decide +kernel
theorem dL_law_441 : decode cL_law 441 = .ok (.aload_n 2, 1) := by decide +kernel
theorem dL_law_442 : decode cL_law 442 = .ok (.aload_n 0, 1) := by decide +kernel
theorem dL_law_443 : decode cL_law 443 = .ok (.iload_n 3, 1) := by decide +kernel
theorem dL_law_444 : decode cL_law 444 = .ok (.iconst 1, 1) := by decide +kernel
theorem dL_law_445 : decode cL_law 445 = .ok (.iadd, 1) := by decide +kernel
theorem dL_law_446 : decode cL_law 446 = .ok (.iaload, 1) := by decide +kernel
theorem dL_law_447 : decode cL_law 447 = .ok (.aload_n 0, 1) := by decide +kernel
theorem dL_law_448 : decode cL_law 448 = .ok (.iload_n 3, 1) := by decide +kernel
theorem dL_law_449 : decode cL_law 449 = .ok (.iconst 2, 1) := by decide +kernel
theorem dL_law_450 : decode cL_law 450 = .ok (.iadd, 1) := by decide +kernel
theorem dL_law_451 : decode cL_law 451 = .ok (.iaload, 1) := by decide +kernel
theorem dL_law_452 : decode cL_law 452 = .ok (.aload_n 0, 1) := by decide +kernel
theorem dL_law_453 : decode cL_law 453 = .ok (.iload_n 3, 1) := by decide +kernel
theorem dL_law_454 : decode cL_law 454 = .ok (.iconst 3, 1) := by decide +kernel
theorem dL_law_455 : decode cL_law 455 = .ok (.iadd, 1) := by decide +kernel
theorem dL_law_456 : decode cL_law 456 = .ok (.iaload, 1) := by decide +kernel
theorem dL_law_457 : decode cL_law 457 = .ok (.aload_n 0, 1) := by decide +kernel
theorem dL_law_458 : decode cL_law 458 = .ok (.iload_n 3, 1) := by decide +kernel
theorem dL_law_459 : decode cL_law 459 = .ok (.iconst 4, 1) := by decide +kernel
theorem dL_law_460 : decode cL_law 460 = .ok (.iadd, 1) := by decide +kernel
theorem dL_law_461 : decode cL_law 461 = .ok (.iaload, 1) := by decide +kernel
theorem dL_law_462 : decode cL_law 462 = .ok (.aload_n 0, 1) := by decide +kernel
theorem dL_law_463 : decode cL_law 463 = .ok (.iload_n 3, 1) := by decide +kernel
theorem dL_law_464 : decode cL_law 464 = .ok (.iconst 5, 1) := by decide +kernel
theorem dL_law_465 : decode cL_law 465 = .ok (.iadd, 1) := by decide +kernel
theorem dL_law_466 : decode cL_law 466 = .ok (.iaload, 1) := by decide +kernel
theorem dL_law_467 : decode cL_law 467 = .ok (.invokevirtual 51, 3) := by decide +kernel
theorem dL_law_470 : decode cL_law 470 = .ok (.if_icmp .eq 229, 3) := by decide +kernel
theorem dL_law_473 : decode cL_law 473 = .ok (.iconst 0, 1) := by decide +kernel
theorem dL_law_474 : decode cL_law 474 = .ok (.ireturn, 1) := by decide +kernel
theorem dL_law_475 : decode cL_law 475 = .ok (.aload_n 1, 1) := by decide +kernel
theorem dL_law_476 : decode cL_law 476 = .ok (.aload_n 0, 1) := by decide +kernel
theorem dL_law_477 : decode cL_law 477 = .ok (.iload_n 3, 1) := by decide +kernel
theorem dL_law_478 : decode cL_law 478 = .ok (.iconst 1, 1) := by decide +kernel
theorem dL_law_479 : decode cL_law 479 = .ok (.iadd, 1) := by decide +kernel
theorem dL_law_480 : decode cL_law 480 = .ok (.iaload, 1) := by decide +kernel
theorem dL_law_481 : decode cL_law 481 = .ok (.aload_n 0, 1) := by decide +kernel
theorem dL_law_482 : decode cL_law 482 = .ok (.iload_n 3, 1) := by decide +kernel
theorem dL_law_483 : decode cL_law 483 = .ok (.iconst 2, 1) := by decide +kernel
theorem dL_law_484 : decode cL_law 484 = .ok (.iadd, 1) := by decide +kernel
theorem dL_law_485 : decode cL_law 485 = .ok (.iaload, 1) := by decide +kernel
theorem dL_law_486 : decode cL_law 486 = .ok (.aload_n 0, 1) := by decide +kernel
theorem dL_law_487 : decode cL_law 487 = .ok (.iload_n 3, 1) := by decide +kernel
theorem dL_law_488 : decode cL_law 488 = .ok (.iconst 3, 1) := by decide +kernel
theorem dL_law_489 : decode cL_law 489 = .ok (.iadd, 1) := by decide +kernel
theorem dL_law_490 : decode cL_law 490 = .ok (.iaload, 1) := by decide +kernel
theorem dL_law_491 : decode cL_law 491 = .ok (.aload_n 0, 1) := by decide +kernel
theorem dL_law_492 : decode cL_law 492 = .ok (.iload_n 3, 1) := by decide +kernel
theorem dL_law_493 : decode cL_law 493 = .ok (.iconst 4, 1) := by decide +kernel
theorem dL_law_494 : decode cL_law 494 = .ok (.iadd, 1) := by decide +kernel
theorem dL_law_495 : decode cL_law 495 = .ok (.iaload, 1) := by decide +kernel
theorem dL_law_496 : decode cL_law 496 = .ok (.aload_n 0, 1) := by decide +kernel
theorem dL_law_497 : decode cL_law 497 = .ok (.iload_n 3, 1) := by decide +kernel
theorem dL_law_498 : decode cL_law 498 = .ok (.iconst 5, 1) := by decide +kernel
theorem dL_law_499 : decode cL_law 499 = .ok (.iadd, 1) := by decide +kernel
theorem dL_law_500 : decode cL_law 500 = .ok (.iaload, 1) := by decide +kernel
theorem dL_law_501 : decode cL_law 501 = .ok (.invokevirtual 52, 3) := by decide +kernel
theorem dL_law_504 : decode cL_law 504 = .ok (.aload_n 2, 1) := by decide +kernel
theorem dL_law_505 : decode cL_law 505 = .ok (.aload_n 0, 1) := by decide +kernel
theorem dL_law_506 : decode cL_law 506 = .ok (.iload_n 3, 1) := by decide +kernel
theorem dL_law_507 : decode cL_law 507 = .ok (.iconst 1, 1) := by decide +kernel
theorem dL_law_508 : decode cL_law 508 = .ok (.iadd, 1) := by decide +kernel
theorem dL_law_509 : decode cL_law 509 = .ok (.iaload, 1) := by decide +kernel
theorem dL_law_510 : decode cL_law 510 = .ok (.aload_n 0, 1) := by decide +kernel
theorem dL_law_511 : decode cL_law 511 = .ok (.iload_n 3, 1) := by decide +kernel
theorem dL_law_512 : decode cL_law 512 = .ok (.iconst 2, 1) := by decide +kernel
theorem dL_law_513 : decode cL_law 513 = .ok (.iadd, 1) := by decide +kernel
theorem dL_law_514 : decode cL_law 514 = .ok (.iaload, 1) := by decide +kernel
theorem dL_law_515 : decode cL_law 515 = .ok (.aload_n 0, 1) := by decide +kernel
theorem dL_law_516 : decode cL_law 516 = .ok (.iload_n 3, 1) := by decide +kernel
theorem dL_law_517 : decode cL_law 517 = .ok (.iconst 3, 1) := by decide +kernel
theorem dL_law_518 : decode cL_law 518 = .ok (.iadd, 1) := by decide +kernel
theorem dL_law_519 : decode cL_law 519 = .ok (.iaload, 1) := by decide +kernel
theorem dL_law_520 : decode cL_law 520 = .ok (.aload_n 0, 1) := by decide +kernel
theorem dL_law_521 : decode cL_law 521 = .ok (.iload_n 3, 1) := by decide +kernel
theorem dL_law_522 : decode cL_law 522 = .ok (.iconst 4, 1) := by decide +kernel
theorem dL_law_523 : decode cL_law 523 = .ok (.iadd, 1) := by decide +kernel
theorem dL_law_524 : decode cL_law 524 = .ok (.iaload, 1) := by decide +kernel
theorem dL_law_525 : decode cL_law 525 = .ok (.aload_n 0, 1) := by decide +kernel
theorem dL_law_526 : decode cL_law 526 = .ok (.iload_n 3, 1) := by decide +kernel
theorem dL_law_527 : decode cL_law 527 = .ok (.iconst 5, 1) := by decide +kernel
theorem dL_law_528 : decode cL_law 528 = .ok (.iadd, 1) := by decide +kernel
theorem dL_law_529 : decode cL_law 529 = .ok (.iaload, 1) := by decide +kernel
theorem dL_law_530 : decode cL_law 530 = .ok (.invokevirtual 55, 3) := by decide +kernel
theorem dL_law_533 : decode cL_law 533 = .ok (.if_icmp .eq 166, 3) := by decide +kernel
theorem dL_law_536 : decode cL_law 536 = .ok (.iconst 0, 1) := by decide +kernel
theorem dL_law_537 : decode cL_law 537 = .ok (.ireturn, 1) := by decide +kernel
theorem dL_law_538 : decode cL_law 538 = .ok (.aload_n 1, 1) := by decide +kernel
theorem dL_law_539 : decode cL_law 539 = .ok (.aload_n 0, 1) := by decide +kernel
theorem dL_law_540 : decode cL_law 540 = .ok (.iload_n 3, 1) := by decide +kernel
theorem dL_law_541 : decode cL_law 541 = .ok (.iconst 1, 1) := by decide +kernel
theorem dL_law_542 : decode cL_law 542 = .ok (.iadd, 1) := by decide +kernel
theorem dL_law_543 : decode cL_law 543 = .ok (.iaload, 1) := by decide +kernel
theorem dL_law_544 : decode cL_law 544 = .ok (.aload_n 0, 1) := by decide +kernel
theorem dL_law_545 : decode cL_law 545 = .ok (.iload_n 3, 1) := by decide +kernel
theorem dL_law_546 : decode cL_law 546 = .ok (.iconst 2, 1) := by decide +kernel
theorem dL_law_547 : decode cL_law 547 = .ok (.iadd, 1) := by decide +kernel
theorem dL_law_548 : decode cL_law 548 = .ok (.iaload, 1) := by decide +kernel
theorem dL_law_549 : decode cL_law 549 = .ok (.ifCond .eq 7, 3) := by decide +kernel
theorem dL_law_552 : decode cL_law 552 = .ok (.iconst 1, 1) := by decide +kernel
theorem dL_law_553 : decode cL_law 553 = .ok (.goto 4, 3) := by decide +kernel
theorem dL_law_556 : decode cL_law 556 = .ok (.iconst 0, 1) := by decide +kernel
theorem dL_law_557 : decode cL_law 557 = .ok (.invokevirtual 56, 3) := by decide +kernel
theorem dL_law_560 : decode cL_law 560 = .ok (.aload_n 2, 1) := by decide +kernel
theorem dL_law_561 : decode cL_law 561 = .ok (.aload_n 0, 1) := by decide +kernel
theorem dL_law_562 : decode cL_law 562 = .ok (.iload_n 3, 1) := by decide +kernel
theorem dL_law_563 : decode cL_law 563 = .ok (.iconst 1, 1) := by decide +kernel
theorem dL_law_564 : decode cL_law 564 = .ok (.iadd, 1) := by decide +kernel
theorem dL_law_565 : decode cL_law 565 = .ok (.iaload, 1) := by decide +kernel
theorem dL_law_566 : decode cL_law 566 = .ok (.aload_n 0, 1) := by decide +kernel
theorem dL_law_567 : decode cL_law 567 = .ok (.iload_n 3, 1) := by decide +kernel
theorem dL_law_568 : decode cL_law 568 = .ok (.iconst 2, 1) := by decide +kernel
theorem dL_law_569 : decode cL_law 569 = .ok (.iadd, 1) := by decide +kernel
theorem dL_law_570 : decode cL_law 570 = .ok (.iaload, 1) := by decide +kernel
theorem dL_law_571 : decode cL_law 571 = .ok (.ifCond .eq 7, 3) := by decide +kernel
theorem dL_law_574 : decode cL_law 574 = .ok (.iconst 1, 1) := by decide +kernel
theorem dL_law_575 : decode cL_law 575 = .ok (.goto 4, 3) := by decide +kernel
theorem dL_law_578 : decode cL_law 578 = .ok (.iconst 0, 1) := by decide +kernel
theorem dL_law_579 : decode cL_law 579 = .ok (.invokevirtual 60, 3) := by decide +kernel
theorem dL_law_582 : decode cL_law 582 = .ok (.if_icmp .eq 117, 3) := by decide +kernel
theorem dL_law_585 : decode cL_law 585 = .ok (.iconst 0, 1) := by decide +kernel
theorem dL_law_586 : decode cL_law 586 = .ok (.ireturn, 1) := by decide +kernel
theorem dL_law_587 : decode cL_law 587 = .ok (.aload_n 1, 1) := by decide +kernel
theorem dL_law_588 : decode cL_law 588 = .ok (.aload_n 0, 1) := by decide +kernel
theorem dL_law_589 : decode cL_law 589 = .ok (.iload_n 3, 1) := by decide +kernel
theorem dL_law_590 : decode cL_law 590 = .ok (.iconst 1, 1) := by decide +kernel
theorem dL_law_591 : decode cL_law 591 = .ok (.iadd, 1) := by decide +kernel
theorem dL_law_592 : decode cL_law 592 = .ok (.iaload, 1) := by decide +kernel
theorem dL_law_593 : decode cL_law 593 = .ok (.aload_n 0, 1) := by decide +kernel
theorem dL_law_594 : decode cL_law 594 = .ok (.iload_n 3, 1) := by decide +kernel
theorem dL_law_595 : decode cL_law 595 = .ok (.iconst 2, 1) := by decide +kernel
theorem dL_law_596 : decode cL_law 596 = .ok (.iadd, 1) := by decide +kernel
theorem dL_law_597 : decode cL_law 597 = .ok (.iaload, 1) := by decide +kernel
theorem dL_law_598 : decode cL_law 598 = .ok (.invokevirtual 61, 3) := by decide +kernel
theorem dL_law_601 : decode cL_law 601 = .ok (.aload_n 2, 1) := by decide +kernel
theorem dL_law_602 : decode cL_law 602 = .ok (.aload_n 0, 1) := by decide +kernel
theorem dL_law_603 : decode cL_law 603 = .ok (.iload_n 3, 1) := by decide +kernel
theorem dL_law_604 : decode cL_law 604 = .ok (.iconst 1, 1) := by decide +kernel
theorem dL_law_605 : decode cL_law 605 = .ok (.iadd, 1) := by decide +kernel
theorem dL_law_606 : decode cL_law 606 = .ok (.iaload, 1) := by decide +kernel
theorem dL_law_607 : decode cL_law 607 = .ok (.aload_n 0, 1) := by decide +kernel
theorem dL_law_608 : decode cL_law 608 = .ok (.iload_n 3, 1) := by decide +kernel
theorem dL_law_609 : decode cL_law 609 = .ok (.iconst 2, 1) := by decide +kernel
theorem dL_law_610 : decode cL_law 610 = .ok (.iadd, 1) := by decide +kernel
theorem dL_law_611 : decode cL_law 611 = .ok (.iaload, 1) := by decide +kernel
theorem dL_law_612 : decode cL_law 612 = .ok (.invokevirtual 64, 3) := by decide +kernel
theorem dL_law_615 : decode cL_law 615 = .ok (.if_icmp .eq 84, 3) := by decide +kernel
theorem dL_law_618 : decode cL_law 618 = .ok (.iconst 0, 1) := by decide +kernel
theorem dL_law_619 : decode cL_law 619 = .ok (.ireturn, 1) := by decide +kernel
theorem dL_law_620 : decode cL_law 620 = .ok (.aload_n 1, 1) := by decide +kernel
theorem dL_law_621 : decode cL_law 621 = .ok (.aload_n 0, 1) := by decide +kernel
theorem dL_law_622 : decode cL_law 622 = .ok (.iload_n 3, 1) := by decide +kernel
theorem dL_law_623 : decode cL_law 623 = .ok (.iconst 1, 1) := by decide +kernel
theorem dL_law_624 : decode cL_law 624 = .ok (.iadd, 1) := by decide +kernel
theorem dL_law_625 : decode cL_law 625 = .ok (.iaload, 1) := by decide +kernel
theorem dL_law_626 : decode cL_law 626 = .ok (.invokevirtual 65, 3) := by decide +kernel
theorem dL_law_629 : decode cL_law 629 = .ok (.aload_n 2, 1) := by decide +kernel
theorem dL_law_630 : decode cL_law 630 = .ok (.aload_n 0, 1) := by decide +kernel
theorem dL_law_631 : decode cL_law 631 = .ok (.iload_n 3, 1) := by decide +kernel
theorem dL_law_632 : decode cL_law 632 = .ok (.iconst 1, 1) := by decide +kernel
theorem dL_law_633 : decode cL_law 633 = .ok (.iadd, 1) := by decide +kernel
theorem dL_law_634 : decode cL_law 634 = .ok (.iaload, 1) := by decide +kernel
theorem dL_law_635 : decode cL_law 635 = .ok (.invokevirtual 69, 3) := by decide +kernel
theorem dL_law_638 : decode cL_law 638 = .ok (.if_icmp .eq 61, 3) := by decide +kernel
theorem dL_law_641 : decode cL_law 641 = .ok (.iconst 0, 1) := by decide +kernel
theorem dL_law_642 : decode cL_law 642 = .ok (.ireturn, 1) := by decide +kernel
theorem dL_law_643 : decode cL_law 643 = .ok (.aload_n 1, 1) := by decide +kernel
theorem dL_law_644 : decode cL_law 644 = .ok (.aload_n 0, 1) := by decide +kernel
theorem dL_law_645 : decode cL_law 645 = .ok (.iload_n 3, 1) := by decide +kernel
theorem dL_law_646 : decode cL_law 646 = .ok (.iconst 1, 1) := by decide +kernel
theorem dL_law_647 : decode cL_law 647 = .ok (.iadd, 1) := by decide +kernel
theorem dL_law_648 : decode cL_law 648 = .ok (.iaload, 1) := by decide +kernel
theorem dL_law_649 : decode cL_law 649 = .ok (.aload_n 0, 1) := by decide +kernel
theorem dL_law_650 : decode cL_law 650 = .ok (.iload_n 3, 1) := by decide +kernel
theorem dL_law_651 : decode cL_law 651 = .ok (.iconst 2, 1) := by decide +kernel
theorem dL_law_652 : decode cL_law 652 = .ok (.iadd, 1) := by decide +kernel
theorem dL_law_653 : decode cL_law 653 = .ok (.iaload, 1) := by decide +kernel
theorem dL_law_654 : decode cL_law 654 = .ok (.invokevirtual 70, 3) := by decide +kernel
theorem dL_law_657 : decode cL_law 657 = .ok (.aload_n 2, 1) := by decide +kernel
theorem dL_law_658 : decode cL_law 658 = .ok (.aload_n 0, 1) := by decide +kernel
theorem dL_law_659 : decode cL_law 659 = .ok (.iload_n 3, 1) := by decide +kernel
theorem dL_law_660 : decode cL_law 660 = .ok (.iconst 1, 1) := by decide +kernel
theorem dL_law_661 : decode cL_law 661 = .ok (.iadd, 1) := by decide +kernel
theorem dL_law_662 : decode cL_law 662 = .ok (.iaload, 1) := by decide +kernel
theorem dL_law_663 : decode cL_law 663 = .ok (.aload_n 0, 1) := by decide +kernel
theorem dL_law_664 : decode cL_law 664 = .ok (.iload_n 3, 1) := by decide +kernel
theorem dL_law_665 : decode cL_law 665 = .ok (.iconst 2, 1) := by decide +kernel
theorem dL_law_666 : decode cL_law 666 = .ok (.iadd, 1) := by decide +kernel
theorem dL_law_667 : decode cL_law 667 = .ok (.iaload, 1) := by decide +kernel
theorem dL_law_668 : decode cL_law 668 = .ok (.invokevirtual 73, 3) := by decide +kernel
theorem dL_law_671 : decode cL_law 671 = .ok (.if_icmp .eq 28, 3) := by decide +kernel
theorem dL_law_674 : decode cL_law 674 = .ok (.iconst 0, 1) := by decide +kernel
theorem dL_law_675 : decode cL_law 675 = .ok (.ireturn, 1) := by decide +kernel
theorem dL_law_676 : decode cL_law 676 = .ok (.aload_n 1, 1) := by decide +kernel
theorem dL_law_677 : decode cL_law 677 = .ok (.aload_n 0, 1) := by decide +kernel
theorem dL_law_678 : decode cL_law 678 = .ok (.iload_n 3, 1) := by decide +kernel
theorem dL_law_679 : decode cL_law 679 = .ok (.iconst 1, 1) := by decide +kernel
theorem dL_law_680 : decode cL_law 680 = .ok (.iadd, 1) := by decide +kernel
theorem dL_law_681 : decode cL_law 681 = .ok (.iaload, 1) := by decide +kernel
theorem dL_law_682 : decode cL_law 682 = .ok (.invokevirtual 74, 3) := by decide +kernel
theorem dL_law_685 : decode cL_law 685 = .ok (.aload_n 2, 1) := by decide +kernel
theorem dL_law_686 : decode cL_law 686 = .ok (.aload_n 0, 1) := by decide +kernel
theorem dL_law_687 : decode cL_law 687 = .ok (.iload_n 3, 1) := by decide +kernel
theorem dL_law_688 : decode cL_law 688 = .ok (.iconst 1, 1) := by decide +kernel
theorem dL_law_689 : decode cL_law 689 = .ok (.iadd, 1) := by decide +kernel
theorem dL_law_690 : decode cL_law 690 = .ok (.iaload, 1) := by decide +kernel
theorem dL_law_691 : decode cL_law 691 = .ok (.invokevirtual 77, 3) := by decide +kernel
theorem dL_law_694 : decode cL_law 694 = .ok (.if_icmp .eq 5, 3) := by decide +kernel
theorem dL_law_697 : decode cL_law 697 = .ok (.iconst 0, 1) := by decide +kernel
theorem dL_law_698 : decode cL_law 698 = .ok (.ireturn, 1) := by decide +kernel
theorem dL_law_699 : decode cL_law 699 = .ok (.iinc 3 6, 3) := by decide +kernel
theorem dL_law_702 : decode cL_law 702 = .ok (.goto (-684), 3) := by decide +kernel
theorem dL_law_705 : decode cL_law 705 = .ok (.iconst 1, 1) := by decide +kernel
theorem dL_law_706 : decode cL_law 706 = .ok (.ireturn, 1) := by decide +kernel
