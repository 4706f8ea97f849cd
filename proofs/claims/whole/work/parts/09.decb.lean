theorem dX6_init_10 : decode cX6_init 10 = .ok (.iload_n 1, 1) := by decide +kernel
theorem dX6_init_11 : decode cX6_init 11 = .ok (.ifCond .le 7, 3) := by decide +kernel
theorem dX6_init_14 : decode cX6_init 14 = .ok (.iload_n 1, 1) := by decide +kernel
theorem dX6_init_15 : decode cX6_init 15 = .ok (.goto 4, 3) := by decide +kernel
theorem dX6_init_18 : decode cX6_init 18 = .ok (.iconst 0, 1) := by decide +kernel
theorem dX6_init_19 : decode cX6_init 19 = .ok (.newarray .int, 2) := by decide +kernel
theorem dX6_init_21 : decode cX6_init 21 = .ok (.putfield 15, 3) := by decide +kernel
theorem dX6_init_24 : decode cX6_init 24 = .ok (.return_, 1) := by decide +kernel
theorem dX6_length_0 : decode cX6_length 0 = .ok (.aload_n 0, 1) := by decide +kernel
theorem dX6_length_1 : decode cX6_length 1 = .ok (.getfield 9, 3) := by decide +kernel
theorem dX6_length_4 : decode cX6_length 4 = .ok (.ireturn, 1) := by decide +kernel
theorem dX6_has_0 : decode cX6_has 0 = .ok (.iload_n 1, 1) := by decide +kernel
theorem dX6_has_1 : decode cX6_has 1 = .ok (.ifCond .lt 24, 3) := by decide +kernel
theorem dX6_has_4 : decode cX6_has 4 = .ok (.iload_n 1, 1) := by decide +kernel
theorem dX6_has_5 : decode cX6_has 5 = .ok (.aload_n 0, 1) := by decide +kernel
theorem dX6_has_6 : decode cX6_has 6 = .ok (.getfield 9, 3) := by decide +kernel
theorem dX6_has_9 : decode cX6_has 9 = .ok (.if_icmp .ge 16, 3) := by decide +kernel
theorem dX6_has_12 : decode cX6_has 12 = .ok (.iload_n 1, 1) := by decide +kernel
theorem dX6_has_13 : decode cX6_has 13 = .ok (.aload_n 0, 1) := by decide +kernel
theorem dX6_has_14 : decode cX6_has 14 = .ok (.getfield 15, 3) := by decide +kernel
theorem dX6_has_17 : decode cX6_has 17 = .ok (.arraylength, 1) := by decide +kernel
theorem dX6_has_18 : decode cX6_has 18 = .ok (.if_icmp .ge 7, 3) := by decide +kernel
theorem dX6_has_21 : decode cX6_has 21 = .ok (.iconst 1, 1) := by decide +kernel
theorem dX6_has_22 : decode cX6_has 22 = .ok (.goto 4, 3) := by decide +kernel
theorem dX6_has_25 : decode cX6_has 25 = .ok (.iconst 0, 1) := by decide +kernel
theorem dX6_has_26 : decode cX6_has 26 = .ok (.ireturn, 1) := by decide +kernel
theorem dX6_at_0 : decode cX6_at 0 = .ok (.iload_n 1, 1) := by decide +kernel
theorem dX6_at_1 : decode cX6_at 1 = .ok (.ifCond .lt 29, 3) := by decide +kernel
theorem dX6_at_4 : decode cX6_at 4 = .ok (.iload_n 1, 1) := by decide +kernel
theorem dX6_at_5 : decode cX6_at 5 = .ok (.aload_n 0, 1) := by decide +kernel
theorem dX6_at_6 : decode cX6_at 6 = .ok (.getfield 9, 3) := by decide +kernel
theorem dX6_at_9 : decode cX6_at 9 = .ok (.if_icmp .ge 21, 3) := by decide +kernel
theorem dX6_at_12 : decode cX6_at 12 = .ok (.iload_n 1, 1) := by decide +kernel
theorem dX6_at_13 : decode cX6_at 13 = .ok (.aload_n 0, 1) := by decide +kernel
theorem dX6_at_14 : decode cX6_at 14 = .ok (.getfield 15, 3) := by decide +kernel
theorem dX6_at_17 : decode cX6_at 17 = .ok (.arraylength, 1) := by decide +kernel
theorem dX6_at_18 : decode cX6_at 18 = .ok (.if_icmp .ge 12, 3) := by decide +kernel
theorem dX6_at_21 : decode cX6_at 21 = .ok (.aload_n 0, 1) := by decide +kernel
theorem dX6_at_22 : decode cX6_at 22 = .ok (.getfield 15, 3) := by decide +kernel
theorem dX6_at_25 : decode cX6_at 25 = .ok (.iload_n 1, 1) := by decide +kernel
theorem dX6_at_26 : decode cX6_at 26 = .ok (.iaload, 1) := by decide +kernel
theorem dX6_at_27 : decode cX6_at 27 = .ok (.goto 4, 3) := by decide +kernel
theorem dX6_at_30 : decode cX6_at 30 = .ok (.iconst (-1), 1) := by decide +kernel
theorem dX6_at_31 : decode cX6_at 31 = .ok (.ireturn, 1) := by decide +kernel
theorem dX6_put_0 : decode cX6_put 0 = .ok (.iload_n 1, 1) := by decide +kernel
theorem dX6_put_1 : decode cX6_put 1 = .ok (.ifCond .lt 27, 3) := by decide +kernel
theorem dX6_put_4 : decode cX6_put 4 = .ok (.iload_n 1, 1) := by decide +kernel
theorem dX6_put_5 : decode cX6_put 5 = .ok (.aload_n 0, 1) := by decide +kernel
theorem dX6_put_6 : decode cX6_put 6 = .ok (.getfield 9, 3) := by decide +kernel
theorem dX6_put_9 : decode cX6_put 9 = .ok (.if_icmp .ge 19, 3) := by decide +kernel
theorem dX6_put_12 : decode cX6_put 12 = .ok (.iload_n 1, 1) := by decide +kernel
theorem dX6_put_13 : decode cX6_put 13 = .ok (.aload_n 0, 1) := by decide +kernel
theorem dX6_put_14 : decode cX6_put 14 = .ok (.getfield 15, 3) := by decide +kernel
theorem dX6_put_17 : decode cX6_put 17 = .ok (.arraylength, 1) := by decide +kernel
theorem dX6_put_18 : decode cX6_put 18 = .ok (.if_icmp .ge 10, 3) := by decide +kernel
theorem dX6_put_21 : decode cX6_put 21 = .ok (.aload_n 0, 1) := by decide +kernel
theorem dX6_put_22 : decode cX6_put 22 = .ok (.getfield 15, 3) := by decide +kernel
theorem dX6_put_25 : decode cX6_put 25 = .ok (.iload_n 1, 1) := by decide +kernel
theorem dX6_put_26 : decode cX6_put 26 = .ok (.iload_n 2, 1) := by decide +kernel
theorem dX6_put_27 : decode cX6_put 27 = .ok (.iastore, 1) := by decide +kernel
theorem dX6_put_28 : decode cX6_put 28 = .ok (.return_, 1) := by decide +kernel
theorem dX6_add_0 : decode cX6_add 0 = .ok (.aload_n 0, 1) := by decide +kernel
theorem dX6_add_1 : decode cX6_add 1 = .ok (.getfield 9, 3) := by decide +kernel
theorem dX6_add_4 : decode cX6_add 4 = .ok (.ifCond .lt 35, 3) := by decide +kernel
theorem dX6_add_7 : decode cX6_add 7 = .ok (.aload_n 0, 1) := by decide +kernel
theorem dX6_add_8 : decode cX6_add 8 = .ok (.getfield 9, 3) := by decide +kernel
theorem dX6_add_11 : decode cX6_add 11 = .ok (.aload_n 0, 1) := by decide +kernel
theorem dX6_add_12 : decode cX6_add 12 = .ok (.getfield 15, 3) := by decide +kernel
theorem dX6_add_15 : decode cX6_add 15 = .ok (.arraylength, 1) := by decide +kernel
theorem dX6_add_16 : decode cX6_add 16 = .ok (.if_icmp .ge 23, 3) := by decide +kernel
theorem dX6_add_19 : decode cX6_add 19 = .ok (.aload_n 0, 1) := by decide +kernel
theorem dX6_add_20 : decode cX6_add 20 = .ok (.getfield 15, 3) := by decide +kernel
theorem dX6_add_23 : decode cX6_add 23 = .ok (.aload_n 0, 1) := by decide +kernel
theorem dX6_add_24 : decode cX6_add 24 = .ok (.getfield 9, 3) := by decide +kernel
theorem dX6_add_27 : decode cX6_add 27 = .ok (.iload_n 1, 1) := by decide +kernel
theorem dX6_add_28 : decode cX6_add 28 = .ok (.iastore, 1) := by decide +kernel
theorem dX6_add_29 : decode cX6_add 29 = .ok (.aload_n 0, 1) := by decide +kernel
theorem dX6_add_30 : decode cX6_add 30 = .ok (.dup, 1) := by decide +kernel
theorem dX6_add_31 : decode cX6_add 31 = .ok (.getfield 9, 3) := by decide +kernel
theorem dX6_add_34 : decode cX6_add 34 = .ok (.iconst 1, 1) := by decide +kernel
theorem dX6_add_35 : decode cX6_add 35 = .ok (.iadd, 1) := by decide +kernel
theorem dX6_add_36 : decode cX6_add 36 = .ok (.putfield 9, 3) := by decide +kernel
theorem dX6_add_39 : decode cX6_add 39 = .ok (.return_, 1) := by decide +kernel
theorem dX6_clear_0 : decode cX6_clear 0 = .ok (.aload_n 0, 1) := by decide +kernel
theorem dX6_clear_1 : decode cX6_clear 1 = .ok (.iconst 0, 1) := by decide +kernel
theorem dX6_clear_2 : decode cX6_clear 2 = .ok (.putfield 9, 3) := by decide +kernel
theorem dX6_clear_5 : decode cX6_clear 5 = .ok (.return_, 1) := by decide +kernel
theorem dX6_fill_0 : decode cX6_fill 0 = .ok (.aload_n 0, 1) := by decide +kernel
theorem dX6_fill_1 : decode cX6_fill 1 = .ok (.invokevirtual 19, 3) := by decide +kernel
theorem dX6_fill_4 : decode cX6_fill 4 = .ok (.iconst 0, 1) := by decide +kernel
theorem dX6_fill_5 : decode cX6_fill 5 = .ok (.istore_n 3, 1) := by decide +kernel
theorem dX6_fill_6 : decode cX6_fill 6 = .ok (.iload_n 3, 1) := by decide +kernel
theorem dX6_fill_7 : decode cX6_fill 7 = .ok (.iload_n 1, 1) := by decide +kernel
theorem dX6_fill_8 : decode cX6_fill 8 = .ok (.if_icmp .ge 14, 3) := by decide +kernel
theorem dX6_fill_11 : decode cX6_fill 11 = .ok (.aload_n 0, 1) := by decide +kernel
theorem dX6_fill_12 : decode cX6_fill 12 = .ok (.iload_n 2, 1) := by decide +kernel
theorem dX6_fill_13 : decode cX6_fill 13 = .ok (.invokevirtual 22, 3) := by decide +kernel
theorem dX6_fill_16 : decode cX6_fill 16 = .ok (.iinc 3 1, 3) := by decide +kernel
theorem dX6_fill_19 : decode cX6_fill 19 = .ok (.goto (-13), 3) := by decide +kernel
theorem dX6_fill_22 : decode cX6_fill 22 = .ok (.return_, 1) := by decide +kernel
theorem dX6_takeFrom_0 : decode cX6_takeFrom 0 = .ok (.aload_n 1, 1) := by decide +kernel
theorem dX6_takeFrom_1 : decode cX6_takeFrom 1 = .ok (.getfield 9, 3) := by decide +kernel
theorem dX6_takeFrom_4 : decode cX6_takeFrom 4 = .ok (.aload_n 1, 1) := by decide +kernel
theorem dX6_takeFrom_5 : decode cX6_takeFrom 5 = .ok (.getfield 15, 3) := by decide +kernel
theorem dX6_takeFrom_8 : decode cX6_takeFrom 8 = .ok (.arraylength, 1) := by decide +kernel
theorem dX6_takeFrom_9 : decode cX6_takeFrom 9 = .ok (.aload_n 0, 1) := by decide +kernel
theorem dX6_takeFrom_10 : decode cX6_takeFrom 10 = .ok (.getfield 15, 3) := by decide +kernel
theorem dX6_takeFrom_13 : decode cX6_takeFrom 13 = .ok (.arraylength, 1) := by decide +kernel
theorem dX6_takeFrom_14 : decode cX6_takeFrom 14 = .ok (.invokestatic 26, 3) := by decide +kernel
theorem dX6_takeFrom_17 : decode cX6_takeFrom 17 = .ok (.invokestatic 26, 3) := by decide +kernel
theorem dX6_takeFrom_20 : decode cX6_takeFrom 20 = .ok (.istore_n 2, 1) := by decide +kernel
theorem dX6_takeFrom_21 : decode cX6_takeFrom 21 = .ok (.iconst 0, 1) := by decide +kernel
theorem dX6_takeFrom_22 : decode cX6_takeFrom 22 = .ok (.istore_n 3, 1) := by decide +kernel
theorem dX6_takeFrom_23 : decode cX6_takeFrom 23 = .ok (.iload_n 3, 1) := by decide +kernel
theorem dX6_takeFrom_24 : decode cX6_takeFrom 24 = .ok (.iload_n 2, 1) := by decide +kernel
theorem dX6_takeFrom_25 : decode cX6_takeFrom 25 = .ok (.if_icmp .ge 21, 3) := by decide +kernel
theorem dX6_takeFrom_28 : decode cX6_takeFrom 28 = .ok (.aload_n 0, 1) := by decide +kernel
theorem dX6_takeFrom_29 : decode cX6_takeFrom 29 = .ok (.getfield 15, 3) := by decide +kernel
theorem dX6_takeFrom_32 : decode cX6_takeFrom 32 = .ok (.iload_n 3, 1) := by decide +kernel
theorem dX6_takeFrom_33 : decode cX6_takeFrom 33 = .ok (.aload_n 1, 1) := by decide +kernel
theorem dX6_takeFrom_34 : decode cX6_takeFrom 34 = .ok (.getfield 15, 3) := by decide +kernel
theorem dX6_takeFrom_37 : decode cX6_takeFrom 37 = .ok (.iload_n 3, 1) := by decide +kernel
theorem dX6_takeFrom_38 : decode cX6_takeFrom 38 = .ok (.iaload, 1) := by decide +kernel
theorem dX6_takeFrom_39 : decode cX6_takeFrom 39 = .ok (.iastore, 1) := by decide +kernel
theorem dX6_takeFrom_40 : decode cX6_takeFrom 40 = .ok (.iinc 3 1, 3) := by decide +kernel
theorem dX6_takeFrom_43 : decode cX6_takeFrom 43 = .ok (.goto (-20), 3) := by decide +kernel
theorem dX6_takeFrom_46 : decode cX6_takeFrom 46 = .ok (.aload_n 0, 1) := by decide +kernel
theorem dX6_takeFrom_47 : decode cX6_takeFrom 47 = .ok (.iload_n 2, 1) := by decide +kernel
theorem dX6_takeFrom_48 : decode cX6_takeFrom 48 = .ok (.putfield 9, 3) := by decide +kernel
theorem dX6_takeFrom_51 : decode cX6_takeFrom 51 = .ok (.return_, 1) := by decide +kernel
theorem dX6_holds_0 : decode cX6_holds 0 = .ok (.iconst 0, 1) := by decide +kernel
theorem dX6_holds_1 : decode cX6_holds 1 = .ok (.istore_n 2, 1) := by decide +kernel
theorem dX6_holds_2 : decode cX6_holds 2 = .ok (.iload_n 2, 1) := by decide +kernel
theorem dX6_holds_3 : decode cX6_holds 3 = .ok (.aload_n 0, 1) := by decide +kernel
theorem dX6_holds_4 : decode cX6_holds 4 = .ok (.getfield 9, 3) := by decide +kernel
theorem dX6_holds_7 : decode cX6_holds 7 = .ok (.if_icmp .ge 20, 3) := by decide +kernel
theorem dX6_holds_10 : decode cX6_holds 10 = .ok (.aload_n 0, 1) := by decide +kernel
theorem dX6_holds_11 : decode cX6_holds 11 = .ok (.iload_n 2, 1) := by decide +kernel
theorem dX6_holds_12 : decode cX6_holds 12 = .ok (.invokevirtual 32, 3) := by decide +kernel
theorem dX6_holds_15 : decode cX6_holds 15 = .ok (.iload_n 1, 1) := by decide +kernel
theorem dX6_holds_16 : decode cX6_holds 16 = .ok (.if_icmp .ne 5, 3) := by decide +kernel
theorem dX6_holds_19 : decode cX6_holds 19 = .ok (.iconst 1, 1) := by decide +kernel
theorem dX6_holds_20 : decode cX6_holds 20 = .ok (.ireturn, 1) := by decide +kernel
theorem dX6_holds_21 : decode cX6_holds 21 = .ok (.iinc 2 1, 3) := by decide +kernel
theorem dX6_holds_24 : decode cX6_holds 24 = .ok (.goto (-22), 3) := by decide +kernel
theorem dX6_holds_27 : decode cX6_holds 27 = .ok (.iconst 0, 1) := by decide +kernel
theorem dX6_holds_28 : decode cX6_holds 28 = .ok (.ireturn, 1) := by decide +kernel
theorem dX6_cut_0 : decode cX6_cut 0 = .ok (.aload_n 0, 1) := by decide +kernel
theorem dX6_cut_1 : decode cX6_cut 1 = .ok (.iload_n 1, 1) := by decide +kernel
theorem dX6_cut_2 : decode cX6_cut 2 = .ok (.invokevirtual 36, 3) := by decide +kernel
theorem dX6_cut_5 : decode cX6_cut 5 = .ok (.ifCond .eq 16, 3) := by decide +kernel
theorem dX6_cut_8 : decode cX6_cut 8 = .ok (.aload_n 0, 1) := by decide +kernel
theorem dX6_cut_9 : decode cX6_cut 9 = .ok (.iload_n 2, 1) := by decide +kernel
theorem dX6_cut_10 : decode cX6_cut 10 = .ok (.invokevirtual 36, 3) := by decide +kernel
theorem dX6_cut_13 : decode cX6_cut 13 = .ok (.ifCond .eq 8, 3) := by decide +kernel
theorem dX6_cut_16 : decode cX6_cut 16 = .ok (.iload_n 1, 1) := by decide +kernel
theorem dX6_cut_17 : decode cX6_cut 17 = .ok (.iload_n 2, 1) := by decide +kernel
theorem dX6_cut_18 : decode cX6_cut 18 = .ok (.if_icmp .le 4, 3) := by decide +kernel
theorem dX6_cut_21 : decode cX6_cut 21 = .ok (.return_, 1) := by decide +kernel
theorem dX6_cut_22 : decode cX6_cut 22 = .ok (.iload_n 2, 1) := by decide +kernel
theorem dX6_cut_23 : decode cX6_cut 23 = .ok (.iload_n 1, 1) := by decide +kernel
theorem dX6_cut_24 : decode cX6_cut 24 = .ok (.isub, 1) := by decide +kernel
theorem dX6_cut_25 : decode cX6_cut 25 = .ok (.iconst 1, 1) := by decide +kernel
theorem dX6_cut_26 : decode cX6_cut 26 = .ok (.iadd, 1) := by decide +kernel
theorem dX6_cut_27 : decode cX6_cut 27 = .ok (.istore_n 3, 1) := by decide +kernel
theorem dX6_cut_28 : decode cX6_cut 28 = .ok (.iload_n 2, 1) := by decide +kernel
theorem dX6_cut_29 : decode cX6_cut 29 = .ok (.iconst 1, 1) := by decide +kernel
theorem dX6_cut_30 : decode cX6_cut 30 = .ok (.iadd, 1) := by decide +kernel
theorem dX6_cut_31 : decode cX6_cut 31 = .ok (.istore 4, 2) := by decide +kernel
theorem dX6_cut_33 : decode cX6_cut 33 = .ok (.iload 4, 2) := by decide +kernel
theorem dX6_cut_35 : decode cX6_cut 35 = .ok (.aload_n 0, 1) := by decide +kernel
theorem dX6_cut_36 : decode cX6_cut 36 = .ok (.getfield 9, 3) := by decide +kernel
theorem dX6_cut_39 : decode cX6_cut 39 = .ok (.if_icmp .ge 23, 3) := by decide +kernel
theorem dX6_cut_42 : decode cX6_cut 42 = .ok (.aload_n 0, 1) := by decide +kernel
theorem dX6_cut_43 : decode cX6_cut 43 = .ok (.iload 4, 2) := by decide +kernel
theorem dX6_cut_45 : decode cX6_cut 45 = .ok (.iload_n 3, 1) := by decide +kernel
theorem dX6_cut_46 : decode cX6_cut 46 = .ok (.isub, 1) := by decide +kernel
theorem dX6_cut_47 : decode cX6_cut 47 = .ok (.aload_n 0, 1) := by decide +kernel
theorem dX6_cut_48 : decode cX6_cut 48 = .ok (.iload 4, 2) := by decide +kernel
theorem dX6_cut_50 : decode cX6_cut 50 = .ok (.invokevirtual 32, 3) := by decide +kernel
theorem dX6_cut_53 : decode cX6_cut 53 = .ok (.invokevirtual 40, 3) := by decide +kernel
theorem dX6_cut_56 : decode cX6_cut 56 = .ok (.iinc 4 1, 3) := by decide +kernel
theorem dX6_cut_59 : decode cX6_cut 59 = .ok (.goto (-26), 3) := by decide +kernel
theorem dX6_cut_62 : decode cX6_cut 62 = .ok (.aload_n 0, 1) := by decide +kernel
theorem dX6_cut_63 : decode cX6_cut 63 = .ok (.dup, 1) := by decide +kernel
theorem dX6_cut_64 : decode cX6_cut 64 = .ok (.getfield 9, 3) := by decide +kernel
theorem dX6_cut_67 : decode cX6_cut 67 = .ok (.iload_n 3, 1) := by decide +kernel
theorem dX6_cut_68 : decode cX6_cut 68 = .ok (.isub, 1) := by decide +kernel
theorem dX6_cut_69 : decode cX6_cut 69 = .ok (.putfield 9, 3) := by decide +kernel
theorem dX6_cut_72 : decode cX6_cut 72 = .ok (.return_, 1) := by decide +kernel
theorem dX6_insert_0 : decode cX6_insert 0 = .ok (.aload_n 2, 1) := by decide +kernel
theorem dX6_insert_1 : decode cX6_insert 1 = .ok (.invokevirtual 44, 3) := by decide +kernel
theorem dX6_insert_4 : decode cX6_insert 4 = .ok (.istore_n 3, 1) := by decide +kernel
theorem dX6_insert_5 : decode cX6_insert 5 = .ok (.aload_n 0, 1) := by decide +kernel
theorem dX6_insert_6 : decode cX6_insert 6 = .ok (.getfield 9, 3) := by decide +kernel
theorem dX6_insert_9 : decode cX6_insert 9 = .ok (.istore 4, 2) := by decide +kernel
theorem dX6_insert_11 : decode cX6_insert 11 = .ok (.iload_n 1, 1) := by decide +kernel
theorem dX6_insert_12 : decode cX6_insert 12 = .ok (.ifCond .lt 21, 3) := by decide +kernel
theorem dX6_insert_15 : decode cX6_insert 15 = .ok (.iload_n 1, 1) := by decide +kernel
theorem dX6_insert_16 : decode cX6_insert 16 = .ok (.iload 4, 2) := by decide +kernel
theorem dX6_insert_18 : decode cX6_insert 18 = .ok (.if_icmp .gt 15, 3) := by decide +kernel
theorem dX6_insert_21 : decode cX6_insert 21 = .ok (.iload 4, 2) := by decide +kernel
theorem dX6_insert_23 : decode cX6_insert 23 = .ok (.iload_n 3, 1) := by decide +kernel
theorem dX6_insert_24 : decode cX6_insert 24 = .ok (.iadd, 1) := by decide +kernel
theorem dX6_insert_25 : decode cX6_insert 25 = .ok (.aload_n 0, 1) := by decide +kernel
theorem dX6_insert_26 : decode cX6_insert 26 = .ok (.getfield 15, 3) := by decide +kernel
theorem dX6_insert_29 : decode cX6_insert 29 = .ok (.arraylength, 1) := by decide +kernel
theorem dX6_insert_30 : decode cX6_insert 30 = .ok (.if_icmp .le 4, 3) := by decide +kernel
theorem dX6_insert_33 : decode cX6_insert 33 = .ok (.return_, 1) := by decide +kernel
theorem dX6_insert_34 : decode cX6_insert 34 = .ok (.aload_n 0, 1) := by decide +kernel
theorem dX6_insert_35 : decode cX6_insert 35 = .ok (.iload 4, 2) := by decide +kernel
theorem dX6_insert_37 : decode cX6_insert 37 = .ok (.iload_n 3, 1) := by decide +kernel
theorem dX6_insert_38 : decode cX6_insert 38 = .ok (.iadd, 1) := by decide +kernel
theorem dX6_insert_39 : decode cX6_insert 39 = .ok (.putfield 9, 3) := by decide +kernel
theorem dX6_insert_42 : decode cX6_insert 42 = .ok (.iload 4, 2) := by decide +kernel
theorem dX6_insert_44 : decode cX6_insert 44 = .ok (.iconst 1, 1) := by decide +kernel
theorem dX6_insert_45 : decode cX6_insert 45 = .ok (.isub, 1) := by decide +kernel
theorem dX6_insert_46 : decode cX6_insert 46 = .ok (.istore 5, 2) := by decide +kernel
theorem dX6_insert_48 : decode cX6_insert 48 = .ok (.iload 5, 2) := by decide +kernel
theorem dX6_insert_50 : decode cX6_insert 50 = .ok (.iload_n 1, 1) := by decide +kernel
theorem dX6_insert_51 : decode cX6_insert 51 = .ok (.if_icmp .lt 23, 3) := by decide +kernel
theorem dX6_insert_54 : decode cX6_insert 54 = .ok (.aload_n 0, 1) := by decide +kernel
theorem dX6_insert_55 : decode cX6_insert 55 = .ok (.iload 5, 2) := by decide +kernel
theorem dX6_insert_57 : decode cX6_insert 57 = .ok (.iload_n 3, 1) := by decide +kernel
theorem dX6_insert_58 : decode cX6_insert 58 = .ok (.iadd, 1) := by decide +kernel
theorem dX6_insert_59 : decode cX6_insert 59 = .ok (.aload_n 0, 1) := by decide +kernel
theorem dX6_insert_60 : decode cX6_insert 60 = .ok (.iload 5, 2) := by decide +kernel
theorem dX6_insert_62 : decode cX6_insert 62 = .ok (.invokevirtual 32, 3) := by decide +kernel
theorem dX6_insert_65 : decode cX6_insert 65 = .ok (.invokevirtual 40, 3) := by decide +kernel
theorem dX6_insert_68 : decode cX6_insert 68 = .ok (.iinc 5 (-1), 3) := by decide +kernel
theorem dX6_insert_71 : decode cX6_insert 71 = .ok (.goto (-23), 3) := by decide +kernel
theorem dX6_insert_74 : decode cX6_insert 74 = .ok (.iconst 0, 1) := by decide +kernel
theorem dX6_insert_75 : decode cX6_insert 75 = .ok (.istore 5, 2) := by decide +kernel
theorem dX6_insert_77 : decode cX6_insert 77 = .ok (.iload 5, 2) := by decide +kernel
theorem dX6_insert_79 : decode cX6_insert 79 = .ok (.iload_n 3, 1) := by decide +kernel
theorem dX6_insert_80 : decode cX6_insert 80 = .ok (.if_icmp .ge 23, 3) := by decide +kernel
theorem dX6_insert_83 : decode cX6_insert 83 = .ok (.aload_n 0, 1) := by decide +kernel
theorem dX6_insert_84 : decode cX6_insert 84 = .ok (.iload_n 1, 1) := by decide +kernel
theorem dX6_insert_85 : decode cX6_insert 85 = .ok (.iload 5, 2) := by decide +kernel
theorem dX6_insert_87 : decode cX6_insert 87 = .ok (.iadd, 1) := by decide +kernel
theorem dX6_insert_88 : decode cX6_insert 88 = .ok (.aload_n 2, 1) := by decide +kernel
theorem dX6_insert_89 : decode cX6_insert 89 = .ok (.iload 5, 2) := by decide +kernel
theorem dX6_insert_91 : decode cX6_insert 91 = .ok (.invokevirtual 32, 3) := by decide +kernel
theorem dX6_insert_94 : decode cX6_insert 94 = .ok (.invokevirtual 40, 3) := by decide +kernel
theorem dX6_insert_97 : decode cX6_insert 97 = .ok (.iinc 5 1, 3) := by decide +kernel
theorem dX6_insert_100 : decode cX6_insert 100 = .ok (.goto (-23), 3) := by decide +kernel
theorem dX6_insert_103 : decode cX6_insert 103 = .ok (.return_, 1) := by decide +kernel
theorem dX7_init_0 : decode cX7_init 0 = .ok (.aload_n 0, 1) := by decide +kernel
theorem dX7_init_1 : decode cX7_init 1 = .ok (.invokespecial 3, 3) := by decide +kernel
theorem dX7_init_4 : decode cX7_init 4 = .ok (.aload_n 0, 1) := by decide +kernel
theorem dX7_init_5 : decode cX7_init 5 = .ok (.new 9, 3) := by decide +kernel
theorem dX7_init_8 : decode cX7_init 8 = .ok (.dup, 1) := by decide +kernel
theorem dX7_init_9 : decode cX7_init 9 = .ok (.iconst 4, 1) := by decide +kernel
theorem dX7_init_10 : decode cX7_init 10 = .ok (.invokespecial 11, 3) := by decide +kernel
theorem dX7_init_13 : decode cX7_init 13 = .ok (.putfield 14, 3) := by decide +kernel
theorem dX7_init_16 : decode cX7_init 16 = .ok (.return_, 1) := by decide +kernel
theorem dX7_write_0 : decode cX7_write 0 = .ok (.aload_n 0, 1) := by decide +kernel
theorem dX7_write_1 : decode cX7_write 1 = .ok (.aload_n 1, 1) := by decide +kernel
theorem dX7_write_2 : decode cX7_write 2 = .ok (.aload_n 2, 1) := by decide +kernel
theorem dX7_write_3 : decode cX7_write 3 = .ok (.invokevirtual 20, 3) := by decide +kernel
theorem dX7_write_6 : decode cX7_write 6 = .ok (.aload_n 2, 1) := by decide +kernel
theorem dX7_write_7 : decode cX7_write 7 = .ok (.getfield 24, 3) := by decide +kernel
theorem dX7_write_10 : decode cX7_write 10 = .ok (.iconst 1, 1) := by decide +kernel
theorem dX7_write_11 : decode cX7_write 11 = .ok (.invokevirtual 29, 3) := by decide +kernel
theorem dX7_write_14 : decode cX7_write 14 = .ok (.iconst (-1), 1) := by decide +kernel
theorem dX7_write_15 : decode cX7_write 15 = .ok (.if_icmp .eq 8, 3) := by decide +kernel
theorem dX7_write_18 : decode cX7_write 18 = .ok (.aload_n 1, 1) := by decide +kernel
theorem dX7_write_19 : decode cX7_write 19 = .ok (.aload_n 2, 1) := by decide +kernel
theorem dX7_write_20 : decode cX7_write 20 = .ok (.invokestatic 33, 3) := by decide +kernel
theorem dX7_write_23 : decode cX7_write 23 = .ok (.aload_n 2, 1) := by decide +kernel
theorem dX7_write_24 : decode cX7_write 24 = .ok (.getfield 24, 3) := by decide +kernel
theorem dX7_write_27 : decode cX7_write 27 = .ok (.iconst 2, 1) := by decide +kernel
theorem dX7_write_28 : decode cX7_write 28 = .ok (.invokevirtual 29, 3) := by decide +kernel
theorem dX7_write_31 : decode cX7_write 31 = .ok (.iconst (-1), 1) := by decide +kernel
theorem dX7_write_32 : decode cX7_write 32 = .ok (.if_icmp .eq 8, 3) := by decide +kernel
theorem dX7_write_35 : decode cX7_write 35 = .ok (.aload_n 1, 1) := by decide +kernel
theorem dX7_write_36 : decode cX7_write 36 = .ok (.aload_n 2, 1) := by decide +kernel
theorem dX7_write_37 : decode cX7_write 37 = .ok (.invokestatic 36, 3) := by decide +kernel
theorem dX7_write_40 : decode cX7_write 40 = .ok (.aload_n 2, 1) := by decide +kernel
theorem dX7_write_41 : decode cX7_write 41 = .ok (.getfield 24, 3) := by decide +kernel
theorem dX7_write_44 : decode cX7_write 44 = .ok (.iconst 3, 1) := by decide +kernel
theorem dX7_write_45 : decode cX7_write 45 = .ok (.invokevirtual 29, 3) := by decide +kernel
theorem dX7_write_48 : decode cX7_write 48 = .ok (.iconst (-1), 1) := by decide +kernel
theorem dX7_write_49 : decode cX7_write 49 = .ok (.if_icmp .eq 8, 3) := by decide +kernel
theorem dX7_write_52 : decode cX7_write 52 = .ok (.aload_n 1, 1) := by decide +kernel
theorem dX7_write_53 : decode cX7_write 53 = .ok (.aload_n 2, 1) := by decide +kernel
theorem dX7_write_54 : decode cX7_write 54 = .ok (.invokestatic 39, 3) := by decide +kernel
theorem dX7_write_57 : decode cX7_write 57 = .ok (.aload_n 2, 1) := by decide +kernel
theorem dX7_write_58 : decode cX7_write 58 = .ok (.getfield 24, 3) := by decide +kernel
theorem dX7_write_61 : decode cX7_write 61 = .ok (.iconst 4, 1) := by decide +kernel
theorem dX7_write_62 : decode cX7_write 62 = .ok (.invokevirtual 29, 3) := by decide +kernel
theorem dX7_write_65 : decode cX7_write 65 = .ok (.iconst (-1), 1) := by decide +kernel
theorem dX7_write_66 : decode cX7_write 66 = .ok (.if_icmp .eq 8, 3) := by decide +kernel
theorem dX7_write_69 : decode cX7_write 69 = .ok (.aload_n 1, 1) := by decide +kernel
theorem dX7_write_70 : decode cX7_write 70 = .ok (.aload_n 2, 1) := by decide +kernel
theorem dX7_write_71 : decode cX7_write 71 = .ok (.invokestatic 42, 3) := by decide +kernel
theorem dX7_write_74 : decode cX7_write 74 = .ok (.aload_n 2, 1) := by decide +kernel
theorem dX7_write_75 : decode cX7_write 75 = .ok (.getfield 24, 3) := by decide +kernel
theorem dX7_write_78 : decode cX7_write 78 = .ok (.iconst 5, 1) := by decide +kernel
theorem dX7_write_79 : decode cX7_write 79 = .ok (.invokevirtual 29, 3) := by decide +kernel
theorem dX7_write_82 : decode cX7_write 82 = .ok (.iconst (-1), 1) := by decide +kernel
theorem dX7_write_83 : decode cX7_write 83 = .ok (.if_icmp .eq 8, 3) := by decide +kernel
theorem dX7_write_86 : decode cX7_write 86 = .ok (.aload_n 1, 1) := by decide +kernel
theorem dX7_write_87 : decode cX7_write 87 = .ok (.aload_n 2, 1) := by decide +kernel
theorem dX7_write_88 : decode cX7_write 88 = .ok (.invokestatic 45, 3) := by decide +kernel
theorem dX7_write_91 : decode cX7_write 91 = .ok (.aload_n 1, 1) := by decide +kernel
theorem dX7_write_92 : decode cX7_write 92 = .ok (.invokevirtual 48, 3) := by decide +kernel
theorem dX7_write_95 : decode cX7_write 95 = .ok (.return_, 1) := by decide +kernel
theorem dX7_chance_0 : decode cX7_chance 0 = .ok (.iload_n 0, 1) := by decide +kernel
theorem dX7_chance_1 : decode cX7_chance 1 = .ok (.aload_n 1, 1) := by decide +kernel
theorem dX7_chance_2 : decode cX7_chance 2 = .ok (.getfield 53, 3) := by decide +kernel
theorem dX7_chance_5 : decode cX7_chance 5 = .ok (.iload_n 0, 1) := by decide +kernel
theorem dX7_chance_6 : decode cX7_chance 6 = .ok (.invokevirtual 29, 3) := by decide +kernel
theorem dX7_chance_9 : decode cX7_chance 9 = .ok (.iconst 1, 1) := by decide +kernel
theorem dX7_chance_10 : decode cX7_chance 10 = .ok (.iadd, 1) := by decide +kernel
theorem dX7_chance_11 : decode cX7_chance 11 = .ok (.aload_n 2, 1) := by decide +kernel
theorem dX7_chance_12 : decode cX7_chance 12 = .ok (.getfield 24, 3) := by decide +kernel
theorem dX7_chance_15 : decode cX7_chance 15 = .ok (.iload_n 0, 1) := by decide +kernel
theorem dX7_chance_16 : decode cX7_chance 16 = .ok (.invokevirtual 29, 3) := by decide +kernel
theorem dX7_chance_19 : decode cX7_chance 19 = .ok (.aload_n 1, 1) := by decide +kernel
theorem dX7_chance_20 : decode cX7_chance 20 = .ok (.invokestatic 56, 3) := by decide +kernel
theorem dX7_chance_23 : decode cX7_chance 23 = .ok (.ireturn, 1) := by decide +kernel
theorem dX7_isTaken_0 : decode cX7_isTaken 0 = .ok (.aload_n 3, 1) := by decide +kernel
theorem dX7_isTaken_1 : decode cX7_isTaken 1 = .ok (.getfield 53, 3) := by decide +kernel
theorem dX7_isTaken_4 : decode cX7_isTaken 4 = .ok (.iload_n 0, 1) := by decide +kernel
theorem dX7_isTaken_5 : decode cX7_isTaken 5 = .ok (.aload_n 3, 1) := by decide +kernel
theorem dX7_isTaken_6 : decode cX7_isTaken 6 = .ok (.getfield 53, 3) := by decide +kernel
theorem dX7_isTaken_9 : decode cX7_isTaken 9 = .ok (.iload_n 0, 1) := by decide +kernel
theorem dX7_isTaken_10 : decode cX7_isTaken 10 = .ok (.invokevirtual 29, 3) := by decide +kernel
theorem dX7_isTaken_13 : decode cX7_isTaken 13 = .ok (.iconst 1, 1) := by decide +kernel
theorem dX7_isTaken_14 : decode cX7_isTaken 14 = .ok (.iadd, 1) := by decide +kernel
theorem dX7_isTaken_15 : decode cX7_isTaken 15 = .ok (.invokevirtual 60, 3) := by decide +kernel
theorem dX7_isTaken_18 : decode cX7_isTaken 18 = .ok (.iload_n 2, 1) := by decide +kernel
theorem dX7_isTaken_19 : decode cX7_isTaken 19 = .ok (.ifCond .le 9, 3) := by decide +kernel
theorem dX7_isTaken_22 : decode cX7_isTaken 22 = .ok (.iload_n 1, 1) := by decide +kernel
theorem dX7_isTaken_23 : decode cX7_isTaken 23 = .ok (.iload_n 2, 1) := by decide +kernel
theorem dX7_isTaken_24 : decode cX7_isTaken 24 = .ok (.irem, 1) := by decide +kernel
theorem dX7_isTaken_25 : decode cX7_isTaken 25 = .ok (.ifCond .eq 5, 3) := by decide +kernel
theorem dX7_isTaken_28 : decode cX7_isTaken 28 = .ok (.iconst 0, 1) := by decide +kernel
theorem dX7_isTaken_29 : decode cX7_isTaken 29 = .ok (.ireturn, 1) := by decide +kernel
theorem dX7_isTaken_30 : decode cX7_isTaken 30 = .ok (.aload_n 3, 1) := by decide +kernel
theorem dX7_isTaken_31 : decode cX7_isTaken 31 = .ok (.getfield 64, 3) := by decide +kernel
theorem dX7_isTaken_34 : decode cX7_isTaken 34 = .ok (.iload_n 0, 1) := by decide +kernel
theorem dX7_isTaken_35 : decode cX7_isTaken 35 = .ok (.aload_n 3, 1) := by decide +kernel
theorem dX7_isTaken_36 : decode cX7_isTaken 36 = .ok (.getfield 64, 3) := by decide +kernel
theorem dX7_isTaken_39 : decode cX7_isTaken 39 = .ok (.iload_n 0, 1) := by decide +kernel
theorem dX7_isTaken_40 : decode cX7_isTaken 40 = .ok (.invokevirtual 29, 3) := by decide +kernel
theorem dX7_isTaken_43 : decode cX7_isTaken 43 = .ok (.iconst 1, 1) := by decide +kernel
theorem dX7_isTaken_44 : decode cX7_isTaken 44 = .ok (.iadd, 1) := by decide +kernel
theorem dX7_isTaken_45 : decode cX7_isTaken 45 = .ok (.invokevirtual 60, 3) := by decide +kernel
theorem dX7_isTaken_48 : decode cX7_isTaken 48 = .ok (.iconst 1, 1) := by decide +kernel
theorem dX7_isTaken_49 : decode cX7_isTaken 49 = .ok (.ireturn, 1) := by decide +kernel
theorem dX7_putForOthers_0 : decode cX7_putForOthers 0 = .ok (.aload_n 0, 1) := by decide +kernel
theorem dX7_putForOthers_1 : decode cX7_putForOthers 1 = .ok (.getfield 14, 3) := by decide +kernel
theorem dX7_putForOthers_4 : decode cX7_putForOthers 4 = .ok (.aload_n 2, 1) := by decide +kernel
theorem dX7_putForOthers_5 : decode cX7_putForOthers 5 = .ok (.getfield 67, 3) := by decide +kernel
theorem dX7_putForOthers_8 : decode cX7_putForOthers 8 = .ok (.invokevirtual 70, 3) := by decide +kernel
theorem dX7_putForOthers_11 : decode cX7_putForOthers 11 = .ok (.iconst 0, 1) := by decide +kernel
theorem dX7_putForOthers_12 : decode cX7_putForOthers 12 = .ok (.invokevirtual 74, 3) := by decide +kernel
theorem dX7_putForOthers_15 : decode cX7_putForOthers 15 = .ok (.aload_n 0, 1) := by decide +kernel
theorem dX7_putForOthers_16 : decode cX7_putForOthers 16 = .ok (.aload_n 1, 1) := by decide +kernel
theorem dX7_putForOthers_17 : decode cX7_putForOthers 17 = .ok (.getfield 77, 3) := by decide +kernel
theorem dX7_putForOthers_20 : decode cX7_putForOthers 20 = .ok (.aload_n 1, 1) := by decide +kernel
theorem dX7_putForOthers_21 : decode cX7_putForOthers 21 = .ok (.aload_n 2, 1) := by decide +kernel
theorem dX7_putForOthers_22 : decode cX7_putForOthers 22 = .ok (.invokevirtual 80, 3) := by decide +kernel
theorem dX7_putForOthers_25 : decode cX7_putForOthers 25 = .ok (.iconst 0, 1) := by decide +kernel
theorem dX7_putForOthers_26 : decode cX7_putForOthers 26 = .ok (.istore_n 3, 1) := by decide +kernel
theorem dX7_putForOthers_27 : decode cX7_putForOthers 27 = .ok (.iload_n 3, 1) := by decide +kernel
theorem dX7_putForOthers_28 : decode cX7_putForOthers 28 = .ok (.aload_n 1, 1) := by decide +kernel
theorem dX7_putForOthers_29 : decode cX7_putForOthers 29 = .ok (.getfield 84, 3) := by decide +kernel
theorem dX7_putForOthers_32 : decode cX7_putForOthers 32 = .ok (.if_icmp .ge 20, 3) := by decide +kernel
theorem dX7_putForOthers_35 : decode cX7_putForOthers 35 = .ok (.aload_n 0, 1) := by decide +kernel
theorem dX7_putForOthers_36 : decode cX7_putForOthers 36 = .ok (.aload_n 1, 1) := by decide +kernel
theorem dX7_putForOthers_37 : decode cX7_putForOthers 37 = .ok (.iload_n 3, 1) := by decide +kernel
theorem dX7_putForOthers_38 : decode cX7_putForOthers 38 = .ok (.invokevirtual 88, 3) := by decide +kernel
theorem dX7_putForOthers_41 : decode cX7_putForOthers 41 = .ok (.aload_n 1, 1) := by decide +kernel
theorem dX7_putForOthers_42 : decode cX7_putForOthers 42 = .ok (.aload_n 2, 1) := by decide +kernel
theorem dX7_putForOthers_43 : decode cX7_putForOthers 43 = .ok (.invokevirtual 80, 3) := by decide +kernel
theorem dX7_putForOthers_46 : decode cX7_putForOthers 46 = .ok (.iinc 3 1, 3) := by decide +kernel
theorem dX7_putForOthers_49 : decode cX7_putForOthers 49 = .ok (.goto (-22), 3) := by decide +kernel
theorem dX7_putForOthers_52 : decode cX7_putForOthers 52 = .ok (.return_, 1) := by decide +kernel
theorem dX7_putForOthersIn_0 : decode cX7_putForOthersIn 0 = .ok (.iconst 0, 1) := by decide +kernel
theorem dX7_putForOthersIn_1 : decode cX7_putForOthersIn 1 = .ok (.istore 4, 2) := by decide +kernel
theorem dX7_putForOthersIn_3 : decode cX7_putForOthersIn 3 = .ok (.iload 4, 2) := by decide +kernel
theorem dX7_putForOthersIn_5 : decode cX7_putForOthersIn 5 = .ok (.aload_n 1, 1) := by decide +kernel
theorem dX7_putForOthersIn_6 : decode cX7_putForOthersIn 6 = .ok (.invokevirtual 70, 3) := by decide +kernel
theorem dX7_putForOthersIn_9 : decode cX7_putForOthersIn 9 = .ok (.if_icmp .ge 110, 3) := by decide +kernel
theorem dX7_putForOthersIn_12 : decode cX7_putForOthersIn 12 = .ok (.aload_n 1, 1) := by decide +kernel
theorem dX7_putForOthersIn_13 : decode cX7_putForOthersIn 13 = .ok (.iload 4, 2) := by decide +kernel
theorem dX7_putForOthersIn_15 : decode cX7_putForOthersIn 15 = .ok (.invokevirtual 29, 3) := by decide +kernel
theorem dX7_putForOthersIn_18 : decode cX7_putForOthersIn 18 = .ok (.istore 5, 2) := by decide +kernel
theorem dX7_putForOthersIn_20 : decode cX7_putForOthersIn 20 = .ok (.iconst 0, 1) := by decide +kernel
theorem dX7_putForOthersIn_21 : decode cX7_putForOthersIn 21 = .ok (.istore 6, 2) := by decide +kernel
theorem dX7_putForOthersIn_23 : decode cX7_putForOthersIn 23 = .ok (.iload 6, 2) := by decide +kernel
theorem dX7_putForOthersIn_25 : decode cX7_putForOthersIn 25 = .ok (.aload_n 3, 1) := by decide +kernel
theorem dX7_putForOthersIn_26 : decode cX7_putForOthersIn 26 = .ok (.getfield 67, 3) := by decide +kernel
theorem dX7_putForOthersIn_29 : decode cX7_putForOthersIn 29 = .ok (.invokevirtual 70, 3) := by decide +kernel
theorem dX7_putForOthersIn_32 : decode cX7_putForOthersIn 32 = .ok (.if_icmp .ge 81, 3) := by decide +kernel
theorem dX7_putForOthersIn_35 : decode cX7_putForOthersIn 35 = .ok (.aload_n 3, 1) := by decide +kernel
theorem dX7_putForOthersIn_36 : decode cX7_putForOthersIn 36 = .ok (.getfield 67, 3) := by decide +kernel
theorem dX7_putForOthersIn_39 : decode cX7_putForOthersIn 39 = .ok (.iload 6, 2) := by decide +kernel
theorem dX7_putForOthersIn_41 : decode cX7_putForOthersIn 41 = .ok (.invokevirtual 29, 3) := by decide +kernel
theorem dX7_putForOthersIn_44 : decode cX7_putForOthersIn 44 = .ok (.iload 5, 2) := by decide +kernel
theorem dX7_putForOthersIn_46 : decode cX7_putForOthersIn 46 = .ok (.if_icmp .ne 61, 3) := by decide +kernel
theorem dX7_putForOthersIn_49 : decode cX7_putForOthersIn 49 = .ok (.aload_n 0, 1) := by decide +kernel
theorem dX7_putForOthersIn_50 : decode cX7_putForOthersIn 50 = .ok (.getfield 14, 3) := by decide +kernel
theorem dX7_putForOthersIn_53 : decode cX7_putForOthersIn 53 = .ok (.iload 6, 2) := by decide +kernel
theorem dX7_putForOthersIn_55 : decode cX7_putForOthersIn 55 = .ok (.invokevirtual 29, 3) := by decide +kernel
theorem dX7_putForOthersIn_58 : decode cX7_putForOthersIn 58 = .ok (.iconst 1, 1) := by decide +kernel
theorem dX7_putForOthersIn_59 : decode cX7_putForOthersIn 59 = .ok (.iadd, 1) := by decide +kernel
theorem dX7_putForOthersIn_60 : decode cX7_putForOthersIn 60 = .ok (.istore 7, 2) := by decide +kernel
theorem dX7_putForOthersIn_62 : decode cX7_putForOthersIn 62 = .ok (.aload_n 0, 1) := by decide +kernel
theorem dX7_putForOthersIn_63 : decode cX7_putForOthersIn 63 = .ok (.getfield 14, 3) := by decide +kernel
theorem dX7_putForOthersIn_66 : decode cX7_putForOthersIn 66 = .ok (.iload 6, 2) := by decide +kernel
theorem dX7_putForOthersIn_68 : decode cX7_putForOthersIn 68 = .ok (.iload 7, 2) := by decide +kernel
theorem dX7_putForOthersIn_70 : decode cX7_putForOthersIn 70 = .ok (.invokevirtual 60, 3) := by decide +kernel
theorem dX7_putForOthersIn_73 : decode cX7_putForOthersIn 73 = .ok (.iconst 0, 1) := by decide +kernel
theorem dX7_putForOthersIn_74 : decode cX7_putForOthersIn 74 = .ok (.iload 7, 2) := by decide +kernel
theorem dX7_putForOthersIn_76 : decode cX7_putForOthersIn 76 = .ok (.aload_n 3, 1) := by decide +kernel
theorem dX7_putForOthersIn_77 : decode cX7_putForOthersIn 77 = .ok (.getfield 92, 3) := by decide +kernel
theorem dX7_putForOthersIn_80 : decode cX7_putForOthersIn 80 = .ok (.iload 6, 2) := by decide +kernel
theorem dX7_putForOthersIn_82 : decode cX7_putForOthersIn 82 = .ok (.invokevirtual 29, 3) := by decide +kernel
theorem dX7_putForOthersIn_85 : decode cX7_putForOthersIn 85 = .ok (.aload_n 2, 1) := by decide +kernel
theorem dX7_putForOthersIn_86 : decode cX7_putForOthersIn 86 = .ok (.invokestatic 56, 3) := by decide +kernel
theorem dX7_putForOthersIn_89 : decode cX7_putForOthersIn 89 = .ok (.ifCond .eq 18, 3) := by decide +kernel
theorem dX7_putForOthersIn_92 : decode cX7_putForOthersIn 92 = .ok (.aload_n 1, 1) := by decide +kernel
theorem dX7_putForOthersIn_93 : decode cX7_putForOthersIn 93 = .ok (.iload 4, 2) := by decide +kernel
theorem dX7_putForOthersIn_95 : decode cX7_putForOthersIn 95 = .ok (.aload_n 3, 1) := by decide +kernel
theorem dX7_putForOthersIn_96 : decode cX7_putForOthersIn 96 = .ok (.getfield 95, 3) := by decide +kernel
theorem dX7_putForOthersIn_99 : decode cX7_putForOthersIn 99 = .ok (.iload 6, 2) := by decide +kernel
theorem dX7_putForOthersIn_101 : decode cX7_putForOthersIn 101 = .ok (.invokevirtual 29, 3) := by decide +kernel
theorem dX7_putForOthersIn_104 : decode cX7_putForOthersIn 104 = .ok (.invokevirtual 60, 3) := by decide +kernel
theorem dX7_putForOthersIn_107 : decode cX7_putForOthersIn 107 = .ok (.iinc 6 1, 3) := by decide +kernel
theorem dX7_putForOthersIn_110 : decode cX7_putForOthersIn 110 = .ok (.goto (-87), 3) := by decide +kernel
theorem dX7_putForOthersIn_113 : decode cX7_putForOthersIn 113 = .ok (.iinc 4 1, 3) := by decide +kernel
theorem dX7_putForOthersIn_116 : decode cX7_putForOthersIn 116 = .ok (.goto (-113), 3) := by decide +kernel
theorem dX7_putForOthersIn_119 : decode cX7_putForOthersIn 119 = .ok (.return_, 1) := by decide +kernel
theorem dX7_skip_0 : decode cX7_skip 0 = .ok (.iconst 0, 1) := by decide +kernel
theorem dX7_skip_1 : decode cX7_skip 1 = .ok (.istore_n 2, 1) := by decide +kernel
theorem dX7_skip_2 : decode cX7_skip 2 = .ok (.iconst 0, 1) := by decide +kernel
theorem dX7_skip_3 : decode cX7_skip 3 = .ok (.istore_n 3, 1) := by decide +kernel
theorem dX7_skip_4 : decode cX7_skip 4 = .ok (.iload_n 3, 1) := by decide +kernel
theorem dX7_skip_5 : decode cX7_skip 5 = .ok (.bipush 40, 2) := by decide +kernel
theorem dX7_skip_7 : decode cX7_skip 7 = .ok (.if_icmp .ge 64, 3) := by decide +kernel
theorem dX7_skip_10 : decode cX7_skip 10 = .ok (.iload_n 2, 1) := by decide +kernel
theorem dX7_skip_11 : decode cX7_skip 11 = .ok (.aload_n 0, 1) := by decide +kernel
theorem dX7_skip_12 : decode cX7_skip 12 = .ok (.getfield 77, 3) := by decide +kernel
theorem dX7_skip_15 : decode cX7_skip 15 = .ok (.invokevirtual 70, 3) := by decide +kernel
theorem dX7_skip_18 : decode cX7_skip 18 = .ok (.if_icmp .ge 53, 3) := by decide +kernel
theorem dX7_skip_21 : decode cX7_skip 21 = .ok (.aload_n 0, 1) := by decide +kernel
theorem dX7_skip_22 : decode cX7_skip 22 = .ok (.getfield 77, 3) := by decide +kernel
theorem dX7_skip_25 : decode cX7_skip 25 = .ok (.iload_n 2, 1) := by decide +kernel
theorem dX7_skip_26 : decode cX7_skip 26 = .ok (.aload_n 1, 1) := by decide +kernel
theorem dX7_skip_27 : decode cX7_skip 27 = .ok (.getfield 98, 3) := by decide +kernel
theorem dX7_skip_30 : decode cX7_skip 30 = .ok (.invokestatic 101, 3) := by decide +kernel
theorem dX7_skip_33 : decode cX7_skip 33 = .ok (.istore 4, 2) := by decide +kernel
theorem dX7_skip_35 : decode cX7_skip 35 = .ok (.iload 4, 2) := by decide +kernel
theorem dX7_skip_37 : decode cX7_skip 37 = .ok (.iconst (-1), 1) := by decide +kernel
theorem dX7_skip_38 : decode cX7_skip 38 = .ok (.if_icmp .eq 24, 3) := by decide +kernel
theorem dX7_skip_41 : decode cX7_skip 41 = .ok (.iconst 1, 1) := by decide +kernel
theorem dX7_skip_42 : decode cX7_skip 42 = .ok (.aload_n 0, 1) := by decide +kernel
theorem dX7_skip_43 : decode cX7_skip 43 = .ok (.aload_n 1, 1) := by decide +kernel
theorem dX7_skip_44 : decode cX7_skip 44 = .ok (.invokestatic 105, 3) := by decide +kernel
theorem dX7_skip_47 : decode cX7_skip 47 = .ok (.ifCond .eq 15, 3) := by decide +kernel
theorem dX7_skip_50 : decode cX7_skip 50 = .ok (.aload_n 0, 1) := by decide +kernel
theorem dX7_skip_51 : decode cX7_skip 51 = .ok (.iload_n 2, 1) := by decide +kernel
theorem dX7_skip_52 : decode cX7_skip 52 = .ok (.iconst 1, 1) := by decide +kernel
theorem dX7_skip_53 : decode cX7_skip 53 = .ok (.iadd, 1) := by decide +kernel
theorem dX7_skip_54 : decode cX7_skip 54 = .ok (.iload 4, 2) := by decide +kernel
theorem dX7_skip_56 : decode cX7_skip 56 = .ok (.invokestatic 109, 3) := by decide +kernel
theorem dX7_skip_59 : decode cX7_skip 59 = .ok (.goto 6, 3) := by decide +kernel
theorem dX7_skip_62 : decode cX7_skip 62 = .ok (.iinc 2 1, 3) := by decide +kernel
theorem dX7_skip_65 : decode cX7_skip 65 = .ok (.iinc 3 1, 3) := by decide +kernel
theorem dX7_skip_68 : decode cX7_skip 68 = .ok (.goto (-64), 3) := by decide +kernel
theorem dX7_skip_71 : decode cX7_skip 71 = .ok (.return_, 1) := by decide +kernel
theorem dX7_nextLike_0 : decode cX7_nextLike 0 = .ok (.iload_n 1, 1) := by decide +kernel
theorem dX7_nextLike_1 : decode cX7_nextLike 1 = .ok (.iconst 1, 1) := by decide +kernel
theorem dX7_nextLike_2 : decode cX7_nextLike 2 = .ok (.iadd, 1) := by decide +kernel
theorem dX7_nextLike_3 : decode cX7_nextLike 3 = .ok (.istore_n 3, 1) := by decide +kernel
theorem dX7_nextLike_4 : decode cX7_nextLike 4 = .ok (.iload_n 3, 1) := by decide +kernel
theorem dX7_nextLike_5 : decode cX7_nextLike 5 = .ok (.iload_n 1, 1) := by decide +kernel
theorem dX7_nextLike_6 : decode cX7_nextLike 6 = .ok (.iload_n 2, 1) := by decide +kernel
theorem dX7_nextLike_7 : decode cX7_nextLike 7 = .ok (.iadd, 1) := by decide +kernel
theorem dX7_nextLike_8 : decode cX7_nextLike 8 = .ok (.if_icmp .gt 32, 3) := by decide +kernel
theorem dX7_nextLike_11 : decode cX7_nextLike 11 = .ok (.iload_n 3, 1) := by decide +kernel
theorem dX7_nextLike_12 : decode cX7_nextLike 12 = .ok (.aload_n 0, 1) := by decide +kernel
theorem dX7_nextLike_13 : decode cX7_nextLike 13 = .ok (.invokevirtual 70, 3) := by decide +kernel
theorem dX7_nextLike_16 : decode cX7_nextLike 16 = .ok (.if_icmp .ge 24, 3) := by decide +kernel
theorem dX7_nextLike_19 : decode cX7_nextLike 19 = .ok (.aload_n 0, 1) := by decide +kernel
theorem dX7_nextLike_20 : decode cX7_nextLike 20 = .ok (.iload_n 3, 1) := by decide +kernel
theorem dX7_nextLike_21 : decode cX7_nextLike 21 = .ok (.invokevirtual 29, 3) := by decide +kernel
theorem dX7_nextLike_24 : decode cX7_nextLike 24 = .ok (.aload_n 0, 1) := by decide +kernel
theorem dX7_nextLike_25 : decode cX7_nextLike 25 = .ok (.iload_n 1, 1) := by decide +kernel
theorem dX7_nextLike_26 : decode cX7_nextLike 26 = .ok (.invokevirtual 29, 3) := by decide +kernel
theorem dX7_nextLike_29 : decode cX7_nextLike 29 = .ok (.if_icmp .ne 5, 3) := by decide +kernel
theorem dX7_nextLike_32 : decode cX7_nextLike 32 = .ok (.iload_n 3, 1) := by decide +kernel
theorem dX7_nextLike_33 : decode cX7_nextLike 33 = .ok (.ireturn, 1) := by decide +kernel
theorem dX7_nextLike_34 : decode cX7_nextLike 34 = .ok (.iinc 3 1, 3) := by decide +kernel
theorem dX7_nextLike_37 : decode cX7_nextLike 37 = .ok (.goto (-33), 3) := by decide +kernel
theorem dX7_nextLike_40 : decode cX7_nextLike 40 = .ok (.iconst (-1), 1) := by decide +kernel
theorem dX7_nextLike_41 : decode cX7_nextLike 41 = .ok (.ireturn, 1) := by decide +kernel
theorem dX7_leaveOut_0 : decode cX7_leaveOut 0 = .ok (.aload_n 0, 1) := by decide +kernel
theorem dX7_leaveOut_1 : decode cX7_leaveOut 1 = .ok (.getfield 77, 3) := by decide +kernel
theorem dX7_leaveOut_4 : decode cX7_leaveOut 4 = .ok (.iload_n 1, 1) := by decide +kernel
theorem dX7_leaveOut_5 : decode cX7_leaveOut 5 = .ok (.iload_n 2, 1) := by decide +kernel
theorem dX7_leaveOut_6 : decode cX7_leaveOut 6 = .ok (.invokevirtual 113, 3) := by decide +kernel
theorem dX7_leaveOut_9 : decode cX7_leaveOut 9 = .ok (.iconst 0, 1) := by decide +kernel
theorem dX7_leaveOut_10 : decode cX7_leaveOut 10 = .ok (.istore_n 3, 1) := by decide +kernel
theorem dX7_leaveOut_11 : decode cX7_leaveOut 11 = .ok (.iload_n 3, 1) := by decide +kernel
theorem dX7_leaveOut_12 : decode cX7_leaveOut 12 = .ok (.aload_n 0, 1) := by decide +kernel
theorem dX7_leaveOut_13 : decode cX7_leaveOut 13 = .ok (.getfield 84, 3) := by decide +kernel
theorem dX7_leaveOut_16 : decode cX7_leaveOut 16 = .ok (.if_icmp .ge 83, 3) := by decide +kernel
theorem dX7_leaveOut_19 : decode cX7_leaveOut 19 = .ok (.aload_n 0, 1) := by decide +kernel
theorem dX7_leaveOut_20 : decode cX7_leaveOut 20 = .ok (.iload_n 3, 1) := by decide +kernel
theorem dX7_leaveOut_21 : decode cX7_leaveOut 21 = .ok (.invokevirtual 116, 3) := by decide +kernel
theorem dX7_leaveOut_24 : decode cX7_leaveOut 24 = .ok (.astore 4, 2) := by decide +kernel
theorem dX7_leaveOut_26 : decode cX7_leaveOut 26 = .ok (.aload 4, 2) := by decide +kernel
theorem dX7_leaveOut_28 : decode cX7_leaveOut 28 = .ok (.ifnull 65, 3) := by decide +kernel
theorem dX7_leaveOut_31 : decode cX7_leaveOut 31 = .ok (.aload 4, 2) := by decide +kernel
theorem dX7_leaveOut_33 : decode cX7_leaveOut 33 = .ok (.invokevirtual 120, 3) := by decide +kernel
theorem dX7_leaveOut_36 : decode cX7_leaveOut 36 = .ok (.ifCond .eq 57, 3) := by decide +kernel
theorem dX7_leaveOut_39 : decode cX7_leaveOut 39 = .ok (.aload 4, 2) := by decide +kernel
theorem dX7_leaveOut_41 : decode cX7_leaveOut 41 = .ok (.getfield 126, 3) := by decide +kernel
theorem dX7_leaveOut_44 : decode cX7_leaveOut 44 = .ok (.iload_n 1, 1) := by decide +kernel
theorem dX7_leaveOut_45 : decode cX7_leaveOut 45 = .ok (.iload_n 2, 1) := by decide +kernel
theorem dX7_leaveOut_46 : decode cX7_leaveOut 46 = .ok (.invokestatic 129, 3) := by decide +kernel
theorem dX7_leaveOut_49 : decode cX7_leaveOut 49 = .ok (.istore 5, 2) := by decide +kernel
theorem dX7_leaveOut_51 : decode cX7_leaveOut 51 = .ok (.aload 4, 2) := by decide +kernel
theorem dX7_leaveOut_53 : decode cX7_leaveOut 53 = .ok (.getfield 133, 3) := by decide +kernel
theorem dX7_leaveOut_56 : decode cX7_leaveOut 56 = .ok (.iconst 1, 1) := by decide +kernel
theorem dX7_leaveOut_57 : decode cX7_leaveOut 57 = .ok (.iadd, 1) := by decide +kernel
theorem dX7_leaveOut_58 : decode cX7_leaveOut 58 = .ok (.iload_n 1, 1) := by decide +kernel
theorem dX7_leaveOut_59 : decode cX7_leaveOut 59 = .ok (.iload_n 2, 1) := by decide +kernel
theorem dX7_leaveOut_60 : decode cX7_leaveOut 60 = .ok (.invokestatic 129, 3) := by decide +kernel
theorem dX7_leaveOut_63 : decode cX7_leaveOut 63 = .ok (.istore 6, 2) := by decide +kernel
theorem dX7_leaveOut_65 : decode cX7_leaveOut 65 = .ok (.aload 4, 2) := by decide +kernel
theorem dX7_leaveOut_67 : decode cX7_leaveOut 67 = .ok (.iload 5, 2) := by decide +kernel
theorem dX7_leaveOut_69 : decode cX7_leaveOut 69 = .ok (.putfield 126, 3) := by decide +kernel
theorem dX7_leaveOut_72 : decode cX7_leaveOut 72 = .ok (.aload 4, 2) := by decide +kernel
theorem dX7_leaveOut_74 : decode cX7_leaveOut 74 = .ok (.iload 6, 2) := by decide +kernel
theorem dX7_leaveOut_76 : decode cX7_leaveOut 76 = .ok (.iconst 1, 1) := by decide +kernel
theorem dX7_leaveOut_77 : decode cX7_leaveOut 77 = .ok (.isub, 1) := by decide +kernel
theorem dX7_leaveOut_78 : decode cX7_leaveOut 78 = .ok (.putfield 133, 3) := by decide +kernel
theorem dX7_leaveOut_81 : decode cX7_leaveOut 81 = .ok (.iload 5, 2) := by decide +kernel
theorem dX7_leaveOut_83 : decode cX7_leaveOut 83 = .ok (.iload 6, 2) := by decide +kernel
theorem dX7_leaveOut_85 : decode cX7_leaveOut 85 = .ok (.if_icmp .ne 8, 3) := by decide +kernel
theorem dX7_leaveOut_88 : decode cX7_leaveOut 88 = .ok (.aload_n 0, 1) := by decide +kernel
theorem dX7_leaveOut_89 : decode cX7_leaveOut 89 = .ok (.iload_n 3, 1) := by decide +kernel
theorem dX7_leaveOut_90 : decode cX7_leaveOut 90 = .ok (.invokevirtual 136, 3) := by decide +kernel
theorem dX7_leaveOut_93 : decode cX7_leaveOut 93 = .ok (.iinc 3 1, 3) := by decide +kernel
theorem dX7_leaveOut_96 : decode cX7_leaveOut 96 = .ok (.goto (-85), 3) := by decide +kernel
theorem dX7_leaveOut_99 : decode cX7_leaveOut 99 = .ok (.return_, 1) := by decide +kernel
theorem dX7_placeLeft_0 : decode cX7_placeLeft 0 = .ok (.iload_n 0, 1) := by decide +kernel
theorem dX7_placeLeft_1 : decode cX7_placeLeft 1 = .ok (.iload_n 1, 1) := by decide +kernel
theorem dX7_placeLeft_2 : decode cX7_placeLeft 2 = .ok (.if_icmp .gt 5, 3) := by decide +kernel
theorem dX7_placeLeft_5 : decode cX7_placeLeft 5 = .ok (.iload_n 0, 1) := by decide +kernel
theorem dX7_placeLeft_6 : decode cX7_placeLeft 6 = .ok (.ireturn, 1) := by decide +kernel
theorem dX7_placeLeft_7 : decode cX7_placeLeft 7 = .ok (.iload_n 0, 1) := by decide +kernel
theorem dX7_placeLeft_8 : decode cX7_placeLeft 8 = .ok (.iload_n 2, 1) := by decide +kernel
theorem dX7_placeLeft_9 : decode cX7_placeLeft 9 = .ok (.if_icmp .gt 7, 3) := by decide +kernel
theorem dX7_placeLeft_12 : decode cX7_placeLeft 12 = .ok (.iload_n 1, 1) := by decide +kernel
theorem dX7_placeLeft_13 : decode cX7_placeLeft 13 = .ok (.goto 10, 3) := by decide +kernel
theorem dX7_placeLeft_16 : decode cX7_placeLeft 16 = .ok (.iload_n 0, 1) := by decide +kernel
theorem dX7_placeLeft_17 : decode cX7_placeLeft 17 = .ok (.iload_n 2, 1) := by decide +kernel
theorem dX7_placeLeft_18 : decode cX7_placeLeft 18 = .ok (.iload_n 1, 1) := by decide +kernel
theorem dX7_placeLeft_19 : decode cX7_placeLeft 19 = .ok (.isub, 1) := by decide +kernel
theorem dX7_placeLeft_20 : decode cX7_placeLeft 20 = .ok (.iconst 1, 1) := by decide +kernel
theorem dX7_placeLeft_21 : decode cX7_placeLeft 21 = .ok (.iadd, 1) := by decide +kernel
theorem dX7_placeLeft_22 : decode cX7_placeLeft 22 = .ok (.isub, 1) := by decide +kernel
theorem dX7_placeLeft_23 : decode cX7_placeLeft 23 = .ok (.ireturn, 1) := by decide +kernel
theorem dX7_turn_0 : decode cX7_turn 0 = .ok (.aload_n 0, 1) := by decide +kernel
theorem dX7_turn_1 : decode cX7_turn 1 = .ok (.getfield 77, 3) := by decide +kernel
theorem dX7_turn_4 : decode cX7_turn 4 = .ok (.astore_n 2, 1) := by decide +kernel
theorem dX7_turn_5 : decode cX7_turn 5 = .ok (.iconst 0, 1) := by decide +kernel
theorem dX7_turn_6 : decode cX7_turn 6 = .ok (.istore_n 3, 1) := by decide +kernel
theorem dX7_turn_7 : decode cX7_turn 7 = .ok (.iload_n 3, 1) := by decide +kernel
theorem dX7_turn_8 : decode cX7_turn 8 = .ok (.iconst 1, 1) := by decide +kernel
theorem dX7_turn_9 : decode cX7_turn 9 = .ok (.iadd, 1) := by decide +kernel
theorem dX7_turn_10 : decode cX7_turn 10 = .ok (.aload_n 2, 1) := by decide +kernel
theorem dX7_turn_11 : decode cX7_turn 11 = .ok (.invokevirtual 70, 3) := by decide +kernel
theorem dX7_turn_14 : decode cX7_turn 14 = .ok (.if_icmp .ge 90, 3) := by decide +kernel
theorem dX7_turn_17 : decode cX7_turn 17 = .ok (.aload_n 2, 1) := by decide +kernel
theorem dX7_turn_18 : decode cX7_turn 18 = .ok (.iload_n 3, 1) := by decide +kernel
theorem dX7_turn_19 : decode cX7_turn 19 = .ok (.invokevirtual 29, 3) := by decide +kernel
theorem dX7_turn_22 : decode cX7_turn 22 = .ok (.istore 4, 2) := by decide +kernel
theorem dX7_turn_24 : decode cX7_turn 24 = .ok (.aload_n 2, 1) := by decide +kernel
theorem dX7_turn_25 : decode cX7_turn 25 = .ok (.iload_n 3, 1) := by decide +kernel
theorem dX7_turn_26 : decode cX7_turn 26 = .ok (.iconst 1, 1) := by decide +kernel
theorem dX7_turn_27 : decode cX7_turn 27 = .ok (.iadd, 1) := by decide +kernel
theorem dX7_turn_28 : decode cX7_turn 28 = .ok (.invokevirtual 29, 3) := by decide +kernel
theorem dX7_turn_31 : decode cX7_turn 31 = .ok (.istore 5, 2) := by decide +kernel
theorem dX7_turn_33 : decode cX7_turn 33 = .ok (.aload_n 0, 1) := by decide +kernel
theorem dX7_turn_34 : decode cX7_turn 34 = .ok (.iload_n 3, 1) := by decide +kernel
theorem dX7_turn_35 : decode cX7_turn 35 = .ok (.invokevirtual 139, 3) := by decide +kernel
theorem dX7_turn_38 : decode cX7_turn 38 = .ok (.ifCond .ne 17, 3) := by decide +kernel
theorem dX7_turn_41 : decode cX7_turn 41 = .ok (.aload_n 0, 1) := by decide +kernel
theorem dX7_turn_42 : decode cX7_turn 42 = .ok (.iload_n 3, 1) := by decide +kernel
theorem dX7_turn_43 : decode cX7_turn 43 = .ok (.iconst 1, 1) := by decide +kernel
theorem dX7_turn_44 : decode cX7_turn 44 = .ok (.iadd, 1) := by decide +kernel
theorem dX7_turn_45 : decode cX7_turn 45 = .ok (.invokevirtual 139, 3) := by decide +kernel
theorem dX7_turn_48 : decode cX7_turn 48 = .ok (.ifCond .ne 7, 3) := by decide +kernel
theorem dX7_turn_51 : decode cX7_turn 51 = .ok (.iconst 1, 1) := by decide +kernel
theorem dX7_turn_52 : decode cX7_turn 52 = .ok (.goto 4, 3) := by decide +kernel
theorem dX7_turn_55 : decode cX7_turn 55 = .ok (.iconst 0, 1) := by decide +kernel
theorem dX7_turn_56 : decode cX7_turn 56 = .ok (.istore 6, 2) := by decide +kernel
theorem dX7_turn_58 : decode cX7_turn 58 = .ok (.iload 4, 2) := by decide +kernel
theorem dX7_turn_60 : decode cX7_turn 60 = .ok (.iload 5, 2) := by decide +kernel
theorem dX7_turn_62 : decode cX7_turn 62 = .ok (.if_icmp .eq 36, 3) := by decide +kernel
theorem dX7_turn_65 : decode cX7_turn 65 = .ok (.iload 6, 2) := by decide +kernel
theorem dX7_turn_67 : decode cX7_turn 67 = .ok (.ifCond .eq 31, 3) := by decide +kernel
theorem dX7_turn_70 : decode cX7_turn 70 = .ok (.iconst 2, 1) := by decide +kernel
theorem dX7_turn_71 : decode cX7_turn 71 = .ok (.aload_n 0, 1) := by decide +kernel
theorem dX7_turn_72 : decode cX7_turn 72 = .ok (.aload_n 1, 1) := by decide +kernel
theorem dX7_turn_73 : decode cX7_turn 73 = .ok (.invokestatic 105, 3) := by decide +kernel
theorem dX7_turn_76 : decode cX7_turn 76 = .ok (.ifCond .eq 22, 3) := by decide +kernel
theorem dX7_turn_79 : decode cX7_turn 79 = .ok (.aload_n 2, 1) := by decide +kernel
theorem dX7_turn_80 : decode cX7_turn 80 = .ok (.iload_n 3, 1) := by decide +kernel
theorem dX7_turn_81 : decode cX7_turn 81 = .ok (.iload 5, 2) := by decide +kernel
theorem dX7_turn_83 : decode cX7_turn 83 = .ok (.invokevirtual 60, 3) := by decide +kernel
theorem dX7_turn_86 : decode cX7_turn 86 = .ok (.aload_n 2, 1) := by decide +kernel
theorem dX7_turn_87 : decode cX7_turn 87 = .ok (.iload_n 3, 1) := by decide +kernel
theorem dX7_turn_88 : decode cX7_turn 88 = .ok (.iconst 1, 1) := by decide +kernel
theorem dX7_turn_89 : decode cX7_turn 89 = .ok (.iadd, 1) := by decide +kernel
theorem dX7_turn_90 : decode cX7_turn 90 = .ok (.iload 4, 2) := by decide +kernel
theorem dX7_turn_92 : decode cX7_turn 92 = .ok (.invokevirtual 60, 3) := by decide +kernel
theorem dX7_turn_95 : decode cX7_turn 95 = .ok (.iinc 3 1, 3) := by decide +kernel
theorem dX7_turn_98 : decode cX7_turn 98 = .ok (.iinc 3 1, 3) := by decide +kernel
theorem dX7_turn_101 : decode cX7_turn 101 = .ok (.goto (-94), 3) := by decide +kernel
theorem dX7_turn_104 : decode cX7_turn 104 = .ok (.return_, 1) := by decide +kernel
theorem dX7_slipIn_0 : decode cX7_slipIn 0 = .ok (.iconst 0, 1) := by decide +kernel
theorem dX7_slipIn_1 : decode cX7_slipIn 1 = .ok (.istore_n 2, 1) := by decide +kernel
theorem dX7_slipIn_2 : decode cX7_slipIn 2 = .ok (.iload_n 2, 1) := by decide +kernel
theorem dX7_slipIn_3 : decode cX7_slipIn 3 = .ok (.aload_n 0, 1) := by decide +kernel
theorem dX7_slipIn_4 : decode cX7_slipIn 4 = .ok (.getfield 84, 3) := by decide +kernel
theorem dX7_slipIn_7 : decode cX7_slipIn 7 = .ok (.if_icmp .ge 101, 3) := by decide +kernel
theorem dX7_slipIn_10 : decode cX7_slipIn 10 = .ok (.aload_n 0, 1) := by decide +kernel
theorem dX7_slipIn_11 : decode cX7_slipIn 11 = .ok (.iload_n 2, 1) := by decide +kernel
theorem dX7_slipIn_12 : decode cX7_slipIn 12 = .ok (.invokevirtual 116, 3) := by decide +kernel
theorem dX7_slipIn_15 : decode cX7_slipIn 15 = .ok (.astore_n 3, 1) := by decide +kernel
theorem dX7_slipIn_16 : decode cX7_slipIn 16 = .ok (.aload_n 3, 1) := by decide +kernel
theorem dX7_slipIn_17 : decode cX7_slipIn 17 = .ok (.ifnull 85, 3) := by decide +kernel
theorem dX7_slipIn_20 : decode cX7_slipIn 20 = .ok (.aload_n 3, 1) := by decide +kernel
theorem dX7_slipIn_21 : decode cX7_slipIn 21 = .ok (.invokevirtual 120, 3) := by decide +kernel
theorem dX7_slipIn_24 : decode cX7_slipIn 24 = .ok (.ifCond .eq 78, 3) := by decide +kernel
theorem dX7_slipIn_27 : decode cX7_slipIn 27 = .ok (.aload_n 3, 1) := by decide +kernel
theorem dX7_slipIn_28 : decode cX7_slipIn 28 = .ok (.getfield 143, 3) := by decide +kernel
theorem dX7_slipIn_31 : decode cX7_slipIn 31 = .ok (.ifCond .ne 71, 3) := by decide +kernel
theorem dX7_slipIn_34 : decode cX7_slipIn 34 = .ok (.aload_n 1, 1) := by decide +kernel
theorem dX7_slipIn_35 : decode cX7_slipIn 35 = .ok (.getfield 146, 3) := by decide +kernel
theorem dX7_slipIn_38 : decode cX7_slipIn 38 = .ok (.iconst 2, 1) := by decide +kernel
theorem dX7_slipIn_39 : decode cX7_slipIn 39 = .ok (.if_icmp .ne 10, 3) := by decide +kernel
theorem dX7_slipIn_42 : decode cX7_slipIn 42 = .ok (.aload_n 3, 1) := by decide +kernel
theorem dX7_slipIn_43 : decode cX7_slipIn 43 = .ok (.invokevirtual 149, 3) := by decide +kernel
theorem dX7_slipIn_46 : decode cX7_slipIn 46 = .ok (.goto 4, 3) := by decide +kernel
theorem dX7_slipIn_49 : decode cX7_slipIn 49 = .ok (.iconst 0, 1) := by decide +kernel
theorem dX7_slipIn_50 : decode cX7_slipIn 50 = .ok (.istore 4, 2) := by decide +kernel
theorem dX7_slipIn_52 : decode cX7_slipIn 52 = .ok (.aload_n 0, 1) := by decide +kernel
theorem dX7_slipIn_53 : decode cX7_slipIn 53 = .ok (.getfield 77, 3) := by decide +kernel
theorem dX7_slipIn_56 : decode cX7_slipIn 56 = .ok (.invokevirtual 70, 3) := by decide +kernel
theorem dX7_slipIn_59 : decode cX7_slipIn 59 = .ok (.iload 4, 2) := by decide +kernel
theorem dX7_slipIn_61 : decode cX7_slipIn 61 = .ok (.isub, 1) := by decide +kernel
theorem dX7_slipIn_62 : decode cX7_slipIn 62 = .ok (.aload_n 3, 1) := by decide +kernel
theorem dX7_slipIn_63 : decode cX7_slipIn 63 = .ok (.getfield 152, 3) := by decide +kernel
theorem dX7_slipIn_66 : decode cX7_slipIn 66 = .ok (.invokevirtual 70, 3) := by decide +kernel
theorem dX7_slipIn_69 : decode cX7_slipIn 69 = .ok (.iadd, 1) := by decide +kernel
theorem dX7_slipIn_70 : decode cX7_slipIn 70 = .ok (.istore 5, 2) := by decide +kernel
theorem dX7_slipIn_72 : decode cX7_slipIn 72 = .ok (.iload 5, 2) := by decide +kernel
theorem dX7_slipIn_74 : decode cX7_slipIn 74 = .ok (.bipush 40, 2) := by decide +kernel
theorem dX7_slipIn_76 : decode cX7_slipIn 76 = .ok (.if_icmp .gt 26, 3) := by decide +kernel
theorem dX7_slipIn_79 : decode cX7_slipIn 79 = .ok (.iconst 3, 1) := by decide +kernel
theorem dX7_slipIn_80 : decode cX7_slipIn 80 = .ok (.aload_n 0, 1) := by decide +kernel
theorem dX7_slipIn_81 : decode cX7_slipIn 81 = .ok (.aload_n 1, 1) := by decide +kernel
theorem dX7_slipIn_82 : decode cX7_slipIn 82 = .ok (.invokestatic 105, 3) := by decide +kernel
theorem dX7_slipIn_85 : decode cX7_slipIn 85 = .ok (.ifCond .eq 17, 3) := by decide +kernel
theorem dX7_slipIn_88 : decode cX7_slipIn 88 = .ok (.aload_n 0, 1) := by decide +kernel
theorem dX7_slipIn_89 : decode cX7_slipIn 89 = .ok (.aload_n 3, 1) := by decide +kernel
theorem dX7_slipIn_90 : decode cX7_slipIn 90 = .ok (.aload_n 1, 1) := by decide +kernel
theorem dX7_slipIn_91 : decode cX7_slipIn 91 = .ok (.getfield 146, 3) := by decide +kernel
theorem dX7_slipIn_94 : decode cX7_slipIn 94 = .ok (.invokestatic 155, 3) := by decide +kernel
theorem dX7_slipIn_97 : decode cX7_slipIn 97 = .ok (.aload_n 0, 1) := by decide +kernel
theorem dX7_slipIn_98 : decode cX7_slipIn 98 = .ok (.iload_n 2, 1) := by decide +kernel
theorem dX7_slipIn_99 : decode cX7_slipIn 99 = .ok (.invokevirtual 136, 3) := by decide +kernel
theorem dX7_slipIn_102 : decode cX7_slipIn 102 = .ok (.iinc 2 1, 3) := by decide +kernel
theorem dX7_slipIn_105 : decode cX7_slipIn 105 = .ok (.goto (-103), 3) := by decide +kernel
theorem dX7_slipIn_108 : decode cX7_slipIn 108 = .ok (.return_, 1) := by decide +kernel
theorem dX7_slipOne_0 : decode cX7_slipOne 0 = .ok (.aload_n 1, 1) := by decide +kernel
theorem dX7_slipOne_1 : decode cX7_slipOne 1 = .ok (.getfield 126, 3) := by decide +kernel
theorem dX7_slipOne_4 : decode cX7_slipOne 4 = .ok (.istore_n 3, 1) := by decide +kernel
theorem dX7_slipOne_5 : decode cX7_slipOne 5 = .ok (.aload_n 1, 1) := by decide +kernel
theorem dX7_slipOne_6 : decode cX7_slipOne 6 = .ok (.getfield 133, 3) := by decide +kernel
theorem dX7_slipOne_9 : decode cX7_slipOne 9 = .ok (.istore 4, 2) := by decide +kernel
theorem dX7_slipOne_11 : decode cX7_slipOne 11 = .ok (.aload_n 1, 1) := by decide +kernel
theorem dX7_slipOne_12 : decode cX7_slipOne 12 = .ok (.getfield 152, 3) := by decide +kernel
theorem dX7_slipOne_15 : decode cX7_slipOne 15 = .ok (.invokevirtual 70, 3) := by decide +kernel
theorem dX7_slipOne_18 : decode cX7_slipOne 18 = .ok (.istore 5, 2) := by decide +kernel
theorem dX7_slipOne_20 : decode cX7_slipOne 20 = .ok (.iload_n 2, 1) := by decide +kernel
theorem dX7_slipOne_21 : decode cX7_slipOne 21 = .ok (.lookupswitch 77 #[(0, 27), (1, 49)], 27) := by decide +kernel
theorem dX7_slipOne_48 : decode cX7_slipOne 48 = .ok (.aload_n 0, 1) := by decide +kernel
theorem dX7_slipOne_49 : decode cX7_slipOne 49 = .ok (.iload_n 3, 1) := by decide +kernel
theorem dX7_slipOne_50 : decode cX7_slipOne 50 = .ok (.iload 5, 2) := by decide +kernel
theorem dX7_slipOne_52 : decode cX7_slipOne 52 = .ok (.invokestatic 159, 3) := by decide +kernel
theorem dX7_slipOne_55 : decode cX7_slipOne 55 = .ok (.aload_n 0, 1) := by decide +kernel
theorem dX7_slipOne_56 : decode cX7_slipOne 56 = .ok (.getfield 77, 3) := by decide +kernel
theorem dX7_slipOne_59 : decode cX7_slipOne 59 = .ok (.iload_n 3, 1) := by decide +kernel
theorem dX7_slipOne_60 : decode cX7_slipOne 60 = .ok (.aload_n 1, 1) := by decide +kernel
theorem dX7_slipOne_61 : decode cX7_slipOne 61 = .ok (.getfield 152, 3) := by decide +kernel
theorem dX7_slipOne_64 : decode cX7_slipOne 64 = .ok (.invokevirtual 162, 3) := by decide +kernel
theorem dX7_slipOne_67 : decode cX7_slipOne 67 = .ok (.goto 79, 3) := by decide +kernel
theorem dX7_slipOne_70 : decode cX7_slipOne 70 = .ok (.aload_n 0, 1) := by decide +kernel
theorem dX7_slipOne_71 : decode cX7_slipOne 71 = .ok (.iload 4, 2) := by decide +kernel
theorem dX7_slipOne_73 : decode cX7_slipOne 73 = .ok (.iconst 1, 1) := by decide +kernel
theorem dX7_slipOne_74 : decode cX7_slipOne 74 = .ok (.iadd, 1) := by decide +kernel
theorem dX7_slipOne_75 : decode cX7_slipOne 75 = .ok (.iload 5, 2) := by decide +kernel
theorem dX7_slipOne_77 : decode cX7_slipOne 77 = .ok (.invokestatic 159, 3) := by decide +kernel
theorem dX7_slipOne_80 : decode cX7_slipOne 80 = .ok (.aload_n 0, 1) := by decide +kernel
theorem dX7_slipOne_81 : decode cX7_slipOne 81 = .ok (.getfield 77, 3) := by decide +kernel
theorem dX7_slipOne_84 : decode cX7_slipOne 84 = .ok (.iload 4, 2) := by decide +kernel
theorem dX7_slipOne_86 : decode cX7_slipOne 86 = .ok (.iconst 1, 1) := by decide +kernel
theorem dX7_slipOne_87 : decode cX7_slipOne 87 = .ok (.iadd, 1) := by decide +kernel
theorem dX7_slipOne_88 : decode cX7_slipOne 88 = .ok (.aload_n 1, 1) := by decide +kernel
theorem dX7_slipOne_89 : decode cX7_slipOne 89 = .ok (.getfield 152, 3) := by decide +kernel
theorem dX7_slipOne_92 : decode cX7_slipOne 92 = .ok (.invokevirtual 162, 3) := by decide +kernel
theorem dX7_slipOne_95 : decode cX7_slipOne 95 = .ok (.goto 51, 3) := by decide +kernel
theorem dX7_slipOne_98 : decode cX7_slipOne 98 = .ok (.aload_n 0, 1) := by decide +kernel
theorem dX7_slipOne_99 : decode cX7_slipOne 99 = .ok (.iload 4, 2) := by decide +kernel
theorem dX7_slipOne_101 : decode cX7_slipOne 101 = .ok (.iconst 1, 1) := by decide +kernel
theorem dX7_slipOne_102 : decode cX7_slipOne 102 = .ok (.iadd, 1) := by decide +kernel
theorem dX7_slipOne_103 : decode cX7_slipOne 103 = .ok (.iload 5, 2) := by decide +kernel
theorem dX7_slipOne_105 : decode cX7_slipOne 105 = .ok (.aload_n 1, 1) := by decide +kernel
theorem dX7_slipOne_106 : decode cX7_slipOne 106 = .ok (.invokevirtual 149, 3) := by decide +kernel
theorem dX7_slipOne_109 : decode cX7_slipOne 109 = .ok (.isub, 1) := by decide +kernel
theorem dX7_slipOne_110 : decode cX7_slipOne 110 = .ok (.invokestatic 159, 3) := by decide +kernel
theorem dX7_slipOne_113 : decode cX7_slipOne 113 = .ok (.aload_n 0, 1) := by decide +kernel
theorem dX7_slipOne_114 : decode cX7_slipOne 114 = .ok (.iload_n 3, 1) := by decide +kernel
theorem dX7_slipOne_115 : decode cX7_slipOne 115 = .ok (.iload_n 3, 1) := by decide +kernel
theorem dX7_slipOne_116 : decode cX7_slipOne 116 = .ok (.iload 5, 2) := by decide +kernel
theorem dX7_slipOne_118 : decode cX7_slipOne 118 = .ok (.iadd, 1) := by decide +kernel
theorem dX7_slipOne_119 : decode cX7_slipOne 119 = .ok (.iconst 1, 1) := by decide +kernel
theorem dX7_slipOne_120 : decode cX7_slipOne 120 = .ok (.isub, 1) := by decide +kernel
theorem dX7_slipOne_121 : decode cX7_slipOne 121 = .ok (.invokestatic 166, 3) := by decide +kernel
theorem dX7_slipOne_124 : decode cX7_slipOne 124 = .ok (.aload_n 0, 1) := by decide +kernel
theorem dX7_slipOne_125 : decode cX7_slipOne 125 = .ok (.getfield 77, 3) := by decide +kernel
theorem dX7_slipOne_128 : decode cX7_slipOne 128 = .ok (.iload_n 3, 1) := by decide +kernel
theorem dX7_slipOne_129 : decode cX7_slipOne 129 = .ok (.iload 4, 2) := by decide +kernel
theorem dX7_slipOne_131 : decode cX7_slipOne 131 = .ok (.invokevirtual 113, 3) := by decide +kernel
theorem dX7_slipOne_134 : decode cX7_slipOne 134 = .ok (.aload_n 0, 1) := by decide +kernel
theorem dX7_slipOne_135 : decode cX7_slipOne 135 = .ok (.getfield 77, 3) := by decide +kernel
theorem dX7_slipOne_138 : decode cX7_slipOne 138 = .ok (.iload_n 3, 1) := by decide +kernel
theorem dX7_slipOne_139 : decode cX7_slipOne 139 = .ok (.aload_n 1, 1) := by decide +kernel
theorem dX7_slipOne_140 : decode cX7_slipOne 140 = .ok (.getfield 152, 3) := by decide +kernel
theorem dX7_slipOne_143 : decode cX7_slipOne 143 = .ok (.invokevirtual 162, 3) := by decide +kernel
theorem dX7_slipOne_146 : decode cX7_slipOne 146 = .ok (.return_, 1) := by decide +kernel
theorem dX7_shiftSpans_0 : decode cX7_shiftSpans 0 = .ok (.iconst 0, 1) := by decide +kernel
theorem dX7_shiftSpans_1 : decode cX7_shiftSpans 1 = .ok (.istore_n 3, 1) := by decide +kernel
theorem dX7_shiftSpans_2 : decode cX7_shiftSpans 2 = .ok (.iload_n 3, 1) := by decide +kernel
theorem dX7_shiftSpans_3 : decode cX7_shiftSpans 3 = .ok (.aload_n 0, 1) := by decide +kernel
theorem dX7_shiftSpans_4 : decode cX7_shiftSpans 4 = .ok (.getfield 84, 3) := by decide +kernel
theorem dX7_shiftSpans_7 : decode cX7_shiftSpans 7 = .ok (.if_icmp .ge 44, 3) := by decide +kernel
theorem dX7_shiftSpans_10 : decode cX7_shiftSpans 10 = .ok (.aload_n 0, 1) := by decide +kernel
theorem dX7_shiftSpans_11 : decode cX7_shiftSpans 11 = .ok (.iload_n 3, 1) := by decide +kernel
theorem dX7_shiftSpans_12 : decode cX7_shiftSpans 12 = .ok (.invokevirtual 116, 3) := by decide +kernel
theorem dX7_shiftSpans_15 : decode cX7_shiftSpans 15 = .ok (.astore 4, 2) := by decide +kernel
theorem dX7_shiftSpans_17 : decode cX7_shiftSpans 17 = .ok (.aload 4, 2) := by decide +kernel
theorem dX7_shiftSpans_19 : decode cX7_shiftSpans 19 = .ok (.ifnull 26, 3) := by decide +kernel
theorem dX7_shiftSpans_22 : decode cX7_shiftSpans 22 = .ok (.aload 4, 2) := by decide +kernel
theorem dX7_shiftSpans_24 : decode cX7_shiftSpans 24 = .ok (.invokevirtual 120, 3) := by decide +kernel
theorem dX7_shiftSpans_27 : decode cX7_shiftSpans 27 = .ok (.ifCond .eq 18, 3) := by decide +kernel
theorem dX7_shiftSpans_30 : decode cX7_shiftSpans 30 = .ok (.aload 4, 2) := by decide +kernel
theorem dX7_shiftSpans_32 : decode cX7_shiftSpans 32 = .ok (.getfield 126, 3) := by decide +kernel
theorem dX7_shiftSpans_35 : decode cX7_shiftSpans 35 = .ok (.iload_n 1, 1) := by decide +kernel
theorem dX7_shiftSpans_36 : decode cX7_shiftSpans 36 = .ok (.if_icmp .lt 9, 3) := by decide +kernel
theorem dX7_shiftSpans_39 : decode cX7_shiftSpans 39 = .ok (.aload 4, 2) := by decide +kernel
theorem dX7_shiftSpans_41 : decode cX7_shiftSpans 41 = .ok (.iload_n 2, 1) := by decide +kernel
theorem dX7_shiftSpans_42 : decode cX7_shiftSpans 42 = .ok (.invokevirtual 169, 3) := by decide +kernel
theorem dX7_shiftSpans_45 : decode cX7_shiftSpans 45 = .ok (.iinc 3 1, 3) := by decide +kernel
theorem dX7_shiftSpans_48 : decode cX7_shiftSpans 48 = .ok (.goto (-46), 3) := by decide +kernel
theorem dX7_shiftSpans_51 : decode cX7_shiftSpans 51 = .ok (.return_, 1) := by decide +kernel
theorem dX7_stretchSpan_0 : decode cX7_stretchSpan 0 = .ok (.iconst 0, 1) := by decide +kernel
theorem dX7_stretchSpan_1 : decode cX7_stretchSpan 1 = .ok (.istore_n 3, 1) := by decide +kernel
theorem dX7_stretchSpan_2 : decode cX7_stretchSpan 2 = .ok (.iload_n 3, 1) := by decide +kernel
theorem dX7_stretchSpan_3 : decode cX7_stretchSpan 3 = .ok (.aload_n 0, 1) := by decide +kernel
theorem dX7_stretchSpan_4 : decode cX7_stretchSpan 4 = .ok (.getfield 84, 3) := by decide +kernel
theorem dX7_stretchSpan_7 : decode cX7_stretchSpan 7 = .ok (.if_icmp .ge 44, 3) := by decide +kernel
theorem dX7_stretchSpan_10 : decode cX7_stretchSpan 10 = .ok (.aload_n 0, 1) := by decide +kernel
theorem dX7_stretchSpan_11 : decode cX7_stretchSpan 11 = .ok (.iload_n 3, 1) := by decide +kernel
theorem dX7_stretchSpan_12 : decode cX7_stretchSpan 12 = .ok (.invokevirtual 116, 3) := by decide +kernel
theorem dX7_stretchSpan_15 : decode cX7_stretchSpan 15 = .ok (.astore 4, 2) := by decide +kernel
theorem dX7_stretchSpan_17 : decode cX7_stretchSpan 17 = .ok (.aload 4, 2) := by decide +kernel
theorem dX7_stretchSpan_19 : decode cX7_stretchSpan 19 = .ok (.ifnull 26, 3) := by decide +kernel
theorem dX7_stretchSpan_22 : decode cX7_stretchSpan 22 = .ok (.aload 4, 2) := by decide +kernel
theorem dX7_stretchSpan_24 : decode cX7_stretchSpan 24 = .ok (.invokevirtual 120, 3) := by decide +kernel
theorem dX7_stretchSpan_27 : decode cX7_stretchSpan 27 = .ok (.ifCond .eq 18, 3) := by decide +kernel
theorem dX7_stretchSpan_30 : decode cX7_stretchSpan 30 = .ok (.aload 4, 2) := by decide +kernel
theorem dX7_stretchSpan_32 : decode cX7_stretchSpan 32 = .ok (.getfield 126, 3) := by decide +kernel
theorem dX7_stretchSpan_35 : decode cX7_stretchSpan 35 = .ok (.iload_n 1, 1) := by decide +kernel
theorem dX7_stretchSpan_36 : decode cX7_stretchSpan 36 = .ok (.if_icmp .ne 9, 3) := by decide +kernel
theorem dX7_stretchSpan_39 : decode cX7_stretchSpan 39 = .ok (.aload 4, 2) := by decide +kernel
theorem dX7_stretchSpan_41 : decode cX7_stretchSpan 41 = .ok (.iload_n 2, 1) := by decide +kernel
theorem dX7_stretchSpan_42 : decode cX7_stretchSpan 42 = .ok (.putfield 133, 3) := by decide +kernel
theorem dX7_stretchSpan_45 : decode cX7_stretchSpan 45 = .ok (.iinc 3 1, 3) := by decide +kernel
theorem dX7_stretchSpan_48 : decode cX7_stretchSpan 48 = .ok (.goto (-46), 3) := by decide +kernel
theorem dX7_stretchSpan_51 : decode cX7_stretchSpan 51 = .ok (.return_, 1) := by decide +kernel
theorem dX7_drop_0 : decode cX7_drop 0 = .ok (.iconst 0, 1) := by decide +kernel
theorem dX7_drop_1 : decode cX7_drop 1 = .ok (.istore_n 2, 1) := by decide +kernel
theorem dX7_drop_2 : decode cX7_drop 2 = .ok (.iload_n 2, 1) := by decide +kernel
theorem dX7_drop_3 : decode cX7_drop 3 = .ok (.aload_n 0, 1) := by decide +kernel
theorem dX7_drop_4 : decode cX7_drop 4 = .ok (.getfield 84, 3) := by decide +kernel
theorem dX7_drop_7 : decode cX7_drop 7 = .ok (.if_icmp .ge 40, 3) := by decide +kernel
theorem dX7_drop_10 : decode cX7_drop 10 = .ok (.aload_n 0, 1) := by decide +kernel
theorem dX7_drop_11 : decode cX7_drop 11 = .ok (.iload_n 2, 1) := by decide +kernel
theorem dX7_drop_12 : decode cX7_drop 12 = .ok (.invokevirtual 116, 3) := by decide +kernel
theorem dX7_drop_15 : decode cX7_drop 15 = .ok (.astore_n 3, 1) := by decide +kernel
theorem dX7_drop_16 : decode cX7_drop 16 = .ok (.aload_n 3, 1) := by decide +kernel
theorem dX7_drop_17 : decode cX7_drop 17 = .ok (.ifnull 24, 3) := by decide +kernel
theorem dX7_drop_20 : decode cX7_drop 20 = .ok (.aload_n 3, 1) := by decide +kernel
theorem dX7_drop_21 : decode cX7_drop 21 = .ok (.getfield 172, 3) := by decide +kernel
theorem dX7_drop_24 : decode cX7_drop 24 = .ok (.ifCond .ne 17, 3) := by decide +kernel
theorem dX7_drop_27 : decode cX7_drop 27 = .ok (.iconst 4, 1) := by decide +kernel
theorem dX7_drop_28 : decode cX7_drop 28 = .ok (.aload_n 0, 1) := by decide +kernel
theorem dX7_drop_29 : decode cX7_drop 29 = .ok (.aload_n 1, 1) := by decide +kernel
theorem dX7_drop_30 : decode cX7_drop 30 = .ok (.invokestatic 105, 3) := by decide +kernel
theorem dX7_drop_33 : decode cX7_drop 33 = .ok (.ifCond .eq 8, 3) := by decide +kernel
theorem dX7_drop_36 : decode cX7_drop 36 = .ok (.aload_n 0, 1) := by decide +kernel
theorem dX7_drop_37 : decode cX7_drop 37 = .ok (.iload_n 2, 1) := by decide +kernel
theorem dX7_drop_38 : decode cX7_drop 38 = .ok (.invokevirtual 136, 3) := by decide +kernel
theorem dX7_drop_41 : decode cX7_drop 41 = .ok (.iinc 2 1, 3) := by decide +kernel
theorem dX7_drop_44 : decode cX7_drop 44 = .ok (.goto (-42), 3) := by decide +kernel
theorem dX7_drop_47 : decode cX7_drop 47 = .ok (.return_, 1) := by decide +kernel
theorem dX7_move_0 : decode cX7_move 0 = .ok (.iconst 0, 1) := by decide +kernel
theorem dX7_move_1 : decode cX7_move 1 = .ok (.istore_n 2, 1) := by decide +kernel
theorem dX7_move_2 : decode cX7_move 2 = .ok (.iload_n 2, 1) := by decide +kernel
theorem dX7_move_3 : decode cX7_move 3 = .ok (.aload_n 0, 1) := by decide +kernel
theorem dX7_move_4 : decode cX7_move 4 = .ok (.getfield 84, 3) := by decide +kernel
theorem dX7_move_7 : decode cX7_move 7 = .ok (.if_icmp .ge 41, 3) := by decide +kernel
theorem dX7_move_10 : decode cX7_move 10 = .ok (.aload_n 0, 1) := by decide +kernel
theorem dX7_move_11 : decode cX7_move 11 = .ok (.iload_n 2, 1) := by decide +kernel
theorem dX7_move_12 : decode cX7_move 12 = .ok (.invokevirtual 116, 3) := by decide +kernel
theorem dX7_move_15 : decode cX7_move 15 = .ok (.astore_n 3, 1) := by decide +kernel
theorem dX7_move_16 : decode cX7_move 16 = .ok (.aload_n 3, 1) := by decide +kernel
theorem dX7_move_17 : decode cX7_move 17 = .ok (.ifnull 25, 3) := by decide +kernel
theorem dX7_move_20 : decode cX7_move 20 = .ok (.aload_n 0, 1) := by decide +kernel
theorem dX7_move_21 : decode cX7_move 21 = .ok (.aload_n 3, 1) := by decide +kernel
theorem dX7_move_22 : decode cX7_move 22 = .ok (.invokestatic 176, 3) := by decide +kernel
theorem dX7_move_25 : decode cX7_move 25 = .ok (.ifCond .eq 17, 3) := by decide +kernel
theorem dX7_move_28 : decode cX7_move 28 = .ok (.iconst 5, 1) := by decide +kernel
theorem dX7_move_29 : decode cX7_move 29 = .ok (.aload_n 0, 1) := by decide +kernel
theorem dX7_move_30 : decode cX7_move 30 = .ok (.aload_n 1, 1) := by decide +kernel
theorem dX7_move_31 : decode cX7_move 31 = .ok (.invokestatic 105, 3) := by decide +kernel
theorem dX7_move_34 : decode cX7_move 34 = .ok (.ifCond .eq 8, 3) := by decide +kernel
theorem dX7_move_37 : decode cX7_move 37 = .ok (.aload_n 3, 1) := by decide +kernel
theorem dX7_move_38 : decode cX7_move 38 = .ok (.iconst 1, 1) := by decide +kernel
theorem dX7_move_39 : decode cX7_move 39 = .ok (.invokevirtual 169, 3) := by decide +kernel
theorem dX7_move_42 : decode cX7_move 42 = .ok (.iinc 2 1, 3) := by decide +kernel
theorem dX7_move_45 : decode cX7_move 45 = .ok (.goto (-43), 3) := by decide +kernel
theorem dX7_move_48 : decode cX7_move 48 = .ok (.return_, 1) := by decide +kernel
theorem dX7_canMove_0 : decode cX7_canMove 0 = .ok (.aload_n 1, 1) := by decide +kernel
theorem dX7_canMove_1 : decode cX7_canMove 1 = .ok (.invokevirtual 120, 3) := by decide +kernel
theorem dX7_canMove_4 : decode cX7_canMove 4 = .ok (.ifCond .eq 60, 3) := by decide +kernel
theorem dX7_canMove_7 : decode cX7_canMove 7 = .ok (.aload_n 1, 1) := by decide +kernel
theorem dX7_canMove_8 : decode cX7_canMove 8 = .ok (.getfield 143, 3) := by decide +kernel
theorem dX7_canMove_11 : decode cX7_canMove 11 = .ok (.iconst 1, 1) := by decide +kernel
theorem dX7_canMove_12 : decode cX7_canMove 12 = .ok (.if_icmp .ne 52, 3) := by decide +kernel
theorem dX7_canMove_15 : decode cX7_canMove 15 = .ok (.aload_n 1, 1) := by decide +kernel
theorem dX7_canMove_16 : decode cX7_canMove 16 = .ok (.invokevirtual 149, 3) := by decide +kernel
theorem dX7_canMove_19 : decode cX7_canMove 19 = .ok (.iconst 1, 1) := by decide +kernel
theorem dX7_canMove_20 : decode cX7_canMove 20 = .ok (.if_icmp .ne 44, 3) := by decide +kernel
theorem dX7_canMove_23 : decode cX7_canMove 23 = .ok (.aload_n 0, 1) := by decide +kernel
theorem dX7_canMove_24 : decode cX7_canMove 24 = .ok (.aload_n 1, 1) := by decide +kernel
theorem dX7_canMove_25 : decode cX7_canMove 25 = .ok (.invokevirtual 180, 3) := by decide +kernel
theorem dX7_canMove_28 : decode cX7_canMove 28 = .ok (.ifCond .eq 36, 3) := by decide +kernel
theorem dX7_canMove_31 : decode cX7_canMove 31 = .ok (.aload_n 0, 1) := by decide +kernel
theorem dX7_canMove_32 : decode cX7_canMove 32 = .ok (.getfield 77, 3) := by decide +kernel
theorem dX7_canMove_35 : decode cX7_canMove 35 = .ok (.aload_n 1, 1) := by decide +kernel
theorem dX7_canMove_36 : decode cX7_canMove 36 = .ok (.getfield 133, 3) := by decide +kernel
theorem dX7_canMove_39 : decode cX7_canMove 39 = .ok (.iconst 1, 1) := by decide +kernel
theorem dX7_canMove_40 : decode cX7_canMove 40 = .ok (.iadd, 1) := by decide +kernel
theorem dX7_canMove_41 : decode cX7_canMove 41 = .ok (.invokevirtual 184, 3) := by decide +kernel
theorem dX7_canMove_44 : decode cX7_canMove 44 = .ok (.ifCond .eq 20, 3) := by decide +kernel
theorem dX7_canMove_47 : decode cX7_canMove 47 = .ok (.aload_n 0, 1) := by decide +kernel
theorem dX7_canMove_48 : decode cX7_canMove 48 = .ok (.aload_n 1, 1) := by decide +kernel
theorem dX7_canMove_49 : decode cX7_canMove 49 = .ok (.getfield 133, 3) := by decide +kernel
theorem dX7_canMove_52 : decode cX7_canMove 52 = .ok (.iconst 1, 1) := by decide +kernel
theorem dX7_canMove_53 : decode cX7_canMove 53 = .ok (.iadd, 1) := by decide +kernel
theorem dX7_canMove_54 : decode cX7_canMove 54 = .ok (.invokevirtual 139, 3) := by decide +kernel
theorem dX7_canMove_57 : decode cX7_canMove 57 = .ok (.ifCond .ne 7, 3) := by decide +kernel
theorem dX7_canMove_60 : decode cX7_canMove 60 = .ok (.iconst 1, 1) := by decide +kernel
theorem dX7_canMove_61 : decode cX7_canMove 61 = .ok (.goto 4, 3) := by decide +kernel
theorem dX7_canMove_64 : decode cX7_canMove 64 = .ok (.iconst 0, 1) := by decide +kernel
theorem dX7_canMove_65 : decode cX7_canMove 65 = .ok (.ireturn, 1) := by decide +kernel
theorem dX8_init_0 : decode cX8_init 0 = .ok (.aload_n 0, 1) := by decide +kernel
theorem dX8_init_1 : decode cX8_init 1 = .ok (.invokespecial 3, 3) := by decide +kernel
theorem dX8_init_4 : decode cX8_init 4 = .ok (.aload_n 0, 1) := by decide +kernel
theorem dX8_init_5 : decode cX8_init 5 = .ok (.new 9, 3) := by decide +kernel
theorem dX8_init_8 : decode cX8_init 8 = .ok (.dup, 1) := by decide +kernel
theorem dX8_init_9 : decode cX8_init 9 = .ok (.sipush 320, 3) := by decide +kernel
theorem dX8_init_12 : decode cX8_init 12 = .ok (.invokespecial 11, 3) := by decide +kernel
theorem dX8_init_15 : decode cX8_init 15 = .ok (.putfield 14, 3) := by decide +kernel
theorem dX8_init_18 : decode cX8_init 18 = .ok (.aload_n 0, 1) := by decide +kernel
theorem dX8_init_19 : decode cX8_init 19 = .ok (.iconst 0, 1) := by decide +kernel
theorem dX8_init_20 : decode cX8_init 20 = .ok (.putfield 20, 3) := by decide +kernel
theorem dX8_init_23 : decode cX8_init 23 = .ok (.aload_n 0, 1) := by decide +kernel
theorem dX8_init_24 : decode cX8_init 24 = .ok (.iconst 0, 1) := by decide +kernel
theorem dX8_init_25 : decode cX8_init 25 = .ok (.putfield 24, 3) := by decide +kernel
theorem dX8_init_28 : decode cX8_init 28 = .ok (.aload_n 0, 1) := by decide +kernel
theorem dX8_init_29 : decode cX8_init 29 = .ok (.iconst 0, 1) := by decide +kernel
theorem dX8_init_30 : decode cX8_init 30 = .ok (.putfield 27, 3) := by decide +kernel
theorem dX8_init_33 : decode cX8_init 33 = .ok (.aload_n 0, 1) := by decide +kernel
theorem dX8_init_34 : decode cX8_init 34 = .ok (.iconst (-1), 1) := by decide +kernel
theorem dX8_init_35 : decode cX8_init 35 = .ok (.putfield 30, 3) := by decide +kernel
theorem dX8_init_38 : decode cX8_init 38 = .ok (.return_, 1) := by decide +kernel
theorem dX8_begin_0 : decode cX8_begin 0 = .ok (.aload_n 0, 1) := by decide +kernel
theorem dX8_begin_1 : decode cX8_begin 1 = .ok (.iconst 0, 1) := by decide +kernel
theorem dX8_begin_2 : decode cX8_begin 2 = .ok (.putfield 20, 3) := by decide +kernel
theorem dX8_begin_5 : decode cX8_begin 5 = .ok (.aload_n 0, 1) := by decide +kernel
theorem dX8_begin_6 : decode cX8_begin 6 = .ok (.iconst 0, 1) := by decide +kernel
theorem dX8_begin_7 : decode cX8_begin 7 = .ok (.putfield 24, 3) := by decide +kernel
theorem dX8_begin_10 : decode cX8_begin 10 = .ok (.aload_n 0, 1) := by decide +kernel
theorem dX8_begin_11 : decode cX8_begin 11 = .ok (.iconst 0, 1) := by decide +kernel
theorem dX8_begin_12 : decode cX8_begin 12 = .ok (.putfield 27, 3) := by decide +kernel
theorem dX8_begin_15 : decode cX8_begin 15 = .ok (.aload_n 0, 1) := by decide +kernel
theorem dX8_begin_16 : decode cX8_begin 16 = .ok (.iconst (-1), 1) := by decide +kernel
theorem dX8_begin_17 : decode cX8_begin 17 = .ok (.putfield 30, 3) := by decide +kernel
theorem dX8_begin_20 : decode cX8_begin 20 = .ok (.return_, 1) := by decide +kernel
theorem dX8_fail_0 : decode cX8_fail 0 = .ok (.aload_n 0, 1) := by decide +kernel
theorem dX8_fail_1 : decode cX8_fail 1 = .ok (.iload_n 1, 1) := by decide +kernel
theorem dX8_fail_2 : decode cX8_fail 2 = .ok (.putfield 27, 3) := by decide +kernel
theorem dX8_fail_5 : decode cX8_fail 5 = .ok (.aload_n 0, 1) := by decide +kernel
theorem dX8_fail_6 : decode cX8_fail 6 = .ok (.iload_n 2, 1) := by decide +kernel
theorem dX8_fail_7 : decode cX8_fail 7 = .ok (.putfield 30, 3) := by decide +kernel
theorem dX8_fail_10 : decode cX8_fail 10 = .ok (.iconst 0, 1) := by decide +kernel
theorem dX8_fail_11 : decode cX8_fail 11 = .ok (.ireturn, 1) := by decide +kernel
theorem dX8_isFigure_0 : decode cX8_isFigure 0 = .ok (.iload_n 0, 1) := by decide +kernel
theorem dX8_isFigure_1 : decode cX8_isFigure 1 = .ok (.bipush 48, 2) := by decide +kernel
theorem dX8_isFigure_3 : decode cX8_isFigure 3 = .ok (.if_icmp .lt 13, 3) := by decide +kernel
theorem dX8_isFigure_6 : decode cX8_isFigure 6 = .ok (.iload_n 0, 1) := by decide +kernel
theorem dX8_isFigure_7 : decode cX8_isFigure 7 = .ok (.bipush 57, 2) := by decide +kernel
theorem dX8_isFigure_9 : decode cX8_isFigure 9 = .ok (.if_icmp .gt 7, 3) := by decide +kernel
theorem dX8_isFigure_12 : decode cX8_isFigure 12 = .ok (.iconst 1, 1) := by decide +kernel
theorem dX8_isFigure_13 : decode cX8_isFigure 13 = .ok (.goto 4, 3) := by decide +kernel
theorem dX8_isFigure_16 : decode cX8_isFigure 16 = .ok (.iconst 0, 1) := by decide +kernel
theorem dX8_isFigure_17 : decode cX8_isFigure 17 = .ok (.ireturn, 1) := by decide +kernel
theorem dX8_isLetter_0 : decode cX8_isLetter 0 = .ok (.iload_n 0, 1) := by decide +kernel
theorem dX8_isLetter_1 : decode cX8_isLetter 1 = .ok (.bipush 97, 2) := by decide +kernel
theorem dX8_isLetter_3 : decode cX8_isLetter 3 = .ok (.if_icmp .lt 13, 3) := by decide +kernel
theorem dX8_isLetter_6 : decode cX8_isLetter 6 = .ok (.iload_n 0, 1) := by decide +kernel
theorem dX8_isLetter_7 : decode cX8_isLetter 7 = .ok (.bipush 122, 2) := by decide +kernel
theorem dX8_isLetter_9 : decode cX8_isLetter 9 = .ok (.if_icmp .gt 7, 3) := by decide +kernel
theorem dX8_isLetter_12 : decode cX8_isLetter 12 = .ok (.iconst 1, 1) := by decide +kernel
theorem dX8_isLetter_13 : decode cX8_isLetter 13 = .ok (.goto 4, 3) := by decide +kernel
theorem dX8_isLetter_16 : decode cX8_isLetter 16 = .ok (.iconst 0, 1) := by decide +kernel
theorem dX8_isLetter_17 : decode cX8_isLetter 17 = .ok (.ireturn, 1) := by decide +kernel
theorem dX8_peek_0 : decode cX8_peek 0 = .ok (.aload_n 0, 1) := by decide +kernel
theorem dX8_peek_1 : decode cX8_peek 1 = .ok (.getfield 20, 3) := by decide +kernel
theorem dX8_peek_4 : decode cX8_peek 4 = .ok (.aload_n 0, 1) := by decide +kernel
theorem dX8_peek_5 : decode cX8_peek 5 = .ok (.getfield 14, 3) := by decide +kernel
theorem dX8_peek_8 : decode cX8_peek 8 = .ok (.invokevirtual 33, 3) := by decide +kernel
theorem dX8_peek_11 : decode cX8_peek 11 = .ok (.if_icmp .ge 32, 3) := by decide +kernel
theorem dX8_peek_14 : decode cX8_peek 14 = .ok (.aload_n 0, 1) := by decide +kernel
theorem dX8_peek_15 : decode cX8_peek 15 = .ok (.getfield 14, 3) := by decide +kernel
theorem dX8_peek_18 : decode cX8_peek 18 = .ok (.aload_n 0, 1) := by decide +kernel
theorem dX8_peek_19 : decode cX8_peek 19 = .ok (.getfield 20, 3) := by decide +kernel
theorem dX8_peek_22 : decode cX8_peek 22 = .ok (.invokevirtual 37, 3) := by decide +kernel
theorem dX8_peek_25 : decode cX8_peek 25 = .ok (.bipush 32, 2) := by decide +kernel
theorem dX8_peek_27 : decode cX8_peek 27 = .ok (.if_icmp .ne 16, 3) := by decide +kernel
theorem dX8_peek_30 : decode cX8_peek 30 = .ok (.aload_n 0, 1) := by decide +kernel
theorem dX8_peek_31 : decode cX8_peek 31 = .ok (.dup, 1) := by decide +kernel
theorem dX8_peek_32 : decode cX8_peek 32 = .ok (.getfield 20, 3) := by decide +kernel
theorem dX8_peek_35 : decode cX8_peek 35 = .ok (.iconst 1, 1) := by decide +kernel
theorem dX8_peek_36 : decode cX8_peek 36 = .ok (.iadd, 1) := by decide +kernel
theorem dX8_peek_37 : decode cX8_peek 37 = .ok (.putfield 20, 3) := by decide +kernel
theorem dX8_peek_40 : decode cX8_peek 40 = .ok (.goto (-40), 3) := by decide +kernel
theorem dX8_peek_43 : decode cX8_peek 43 = .ok (.aload_n 0, 1) := by decide +kernel
theorem dX8_peek_44 : decode cX8_peek 44 = .ok (.getfield 14, 3) := by decide +kernel
theorem dX8_peek_47 : decode cX8_peek 47 = .ok (.aload_n 0, 1) := by decide +kernel
theorem dX8_peek_48 : decode cX8_peek 48 = .ok (.getfield 20, 3) := by decide +kernel
theorem dX8_peek_51 : decode cX8_peek 51 = .ok (.invokevirtual 37, 3) := by decide +kernel
theorem dX8_peek_54 : decode cX8_peek 54 = .ok (.ireturn, 1) := by decide +kernel
theorem dX8_takeNumber_0 : decode cX8_takeNumber 0 = .ok (.aload_n 0, 1) := by decide +kernel
theorem dX8_takeNumber_1 : decode cX8_takeNumber 1 = .ok (.invokevirtual 40, 3) := by decide +kernel
theorem dX8_takeNumber_4 : decode cX8_takeNumber 4 = .ok (.invokestatic 43, 3) := by decide +kernel
theorem dX8_takeNumber_7 : decode cX8_takeNumber 7 = .ok (.ifCond .ne 15, 3) := by decide +kernel
theorem dX8_takeNumber_10 : decode cX8_takeNumber 10 = .ok (.aload_n 0, 1) := by decide +kernel
theorem dX8_takeNumber_11 : decode cX8_takeNumber 11 = .ok (.iconst 1, 1) := by decide +kernel
theorem dX8_takeNumber_12 : decode cX8_takeNumber 12 = .ok (.aload_n 0, 1) := by decide +kernel
theorem dX8_takeNumber_13 : decode cX8_takeNumber 13 = .ok (.getfield 20, 3) := by decide +kernel
theorem dX8_takeNumber_16 : decode cX8_takeNumber 16 = .ok (.invokevirtual 47, 3) := by decide +kernel
theorem dX8_takeNumber_19 : decode cX8_takeNumber 19 = .ok (.pop, 1) := by decide +kernel
theorem dX8_takeNumber_20 : decode cX8_takeNumber 20 = .ok (.iconst (-1), 1) := by decide +kernel
theorem dX8_takeNumber_21 : decode cX8_takeNumber 21 = .ok (.ireturn, 1) := by decide +kernel
theorem dX8_takeNumber_22 : decode cX8_takeNumber 22 = .ok (.aload_n 0, 1) := by decide +kernel
theorem dX8_takeNumber_23 : decode cX8_takeNumber 23 = .ok (.aload_n 0, 1) := by decide +kernel
theorem dX8_takeNumber_24 : decode cX8_takeNumber 24 = .ok (.getfield 20, 3) := by decide +kernel
theorem dX8_takeNumber_27 : decode cX8_takeNumber 27 = .ok (.putfield 24, 3) := by decide +kernel
theorem dX8_takeNumber_30 : decode cX8_takeNumber 30 = .ok (.iconst 0, 1) := by decide +kernel
theorem dX8_takeNumber_31 : decode cX8_takeNumber 31 = .ok (.istore_n 3, 1) := by decide +kernel
theorem dX8_takeNumber_32 : decode cX8_takeNumber 32 = .ok (.aload_n 0, 1) := by decide +kernel
theorem dX8_takeNumber_33 : decode cX8_takeNumber 33 = .ok (.getfield 20, 3) := by decide +kernel
theorem dX8_takeNumber_36 : decode cX8_takeNumber 36 = .ok (.aload_n 0, 1) := by decide +kernel
theorem dX8_takeNumber_37 : decode cX8_takeNumber 37 = .ok (.getfield 14, 3) := by decide +kernel
theorem dX8_takeNumber_40 : decode cX8_takeNumber 40 = .ok (.invokevirtual 33, 3) := by decide +kernel
theorem dX8_takeNumber_43 : decode cX8_takeNumber 43 = .ok (.if_icmp .ge 70, 3) := by decide +kernel
theorem dX8_takeNumber_46 : decode cX8_takeNumber 46 = .ok (.aload_n 0, 1) := by decide +kernel
theorem dX8_takeNumber_47 : decode cX8_takeNumber 47 = .ok (.getfield 14, 3) := by decide +kernel
theorem dX8_takeNumber_50 : decode cX8_takeNumber 50 = .ok (.aload_n 0, 1) := by decide +kernel
theorem dX8_takeNumber_51 : decode cX8_takeNumber 51 = .ok (.getfield 20, 3) := by decide +kernel
theorem dX8_takeNumber_54 : decode cX8_takeNumber 54 = .ok (.invokevirtual 37, 3) := by decide +kernel
theorem dX8_takeNumber_57 : decode cX8_takeNumber 57 = .ok (.invokestatic 43, 3) := by decide +kernel
theorem dX8_takeNumber_60 : decode cX8_takeNumber 60 = .ok (.ifCond .eq 53, 3) := by decide +kernel
theorem dX8_takeNumber_63 : decode cX8_takeNumber 63 = .ok (.aload_n 0, 1) := by decide +kernel
theorem dX8_takeNumber_64 : decode cX8_takeNumber 64 = .ok (.getfield 20, 3) := by decide +kernel
theorem dX8_takeNumber_67 : decode cX8_takeNumber 67 = .ok (.aload_n 0, 1) := by decide +kernel
theorem dX8_takeNumber_68 : decode cX8_takeNumber 68 = .ok (.getfield 24, 3) := by decide +kernel
theorem dX8_takeNumber_71 : decode cX8_takeNumber 71 = .ok (.isub, 1) := by decide +kernel
theorem dX8_takeNumber_72 : decode cX8_takeNumber 72 = .ok (.iconst 2, 1) := by decide +kernel
theorem dX8_takeNumber_73 : decode cX8_takeNumber 73 = .ok (.if_icmp .ge 25, 3) := by decide +kernel
theorem dX8_takeNumber_76 : decode cX8_takeNumber 76 = .ok (.iload_n 3, 1) := by decide +kernel
theorem dX8_takeNumber_77 : decode cX8_takeNumber 77 = .ok (.bipush 10, 2) := by decide +kernel
theorem dX8_takeNumber_79 : decode cX8_takeNumber 79 = .ok (.imul, 1) := by decide +kernel
theorem dX8_takeNumber_80 : decode cX8_takeNumber 80 = .ok (.aload_n 0, 1) := by decide +kernel
theorem dX8_takeNumber_81 : decode cX8_takeNumber 81 = .ok (.getfield 14, 3) := by decide +kernel
theorem dX8_takeNumber_84 : decode cX8_takeNumber 84 = .ok (.aload_n 0, 1) := by decide +kernel
theorem dX8_takeNumber_85 : decode cX8_takeNumber 85 = .ok (.getfield 20, 3) := by decide +kernel
theorem dX8_takeNumber_88 : decode cX8_takeNumber 88 = .ok (.invokevirtual 37, 3) := by decide +kernel
theorem dX8_takeNumber_91 : decode cX8_takeNumber 91 = .ok (.iadd, 1) := by decide +kernel
theorem dX8_takeNumber_92 : decode cX8_takeNumber 92 = .ok (.bipush 48, 2) := by decide +kernel
theorem dX8_takeNumber_94 : decode cX8_takeNumber 94 = .ok (.isub, 1) := by decide +kernel
theorem dX8_takeNumber_95 : decode cX8_takeNumber 95 = .ok (.goto 4, 3) := by decide +kernel
theorem dX8_takeNumber_98 : decode cX8_takeNumber 98 = .ok (.iload_n 3, 1) := by decide +kernel
theorem dX8_takeNumber_99 : decode cX8_takeNumber 99 = .ok (.istore_n 3, 1) := by decide +kernel
theorem dX8_takeNumber_100 : decode cX8_takeNumber 100 = .ok (.aload_n 0, 1) := by decide +kernel
theorem dX8_takeNumber_101 : decode cX8_takeNumber 101 = .ok (.dup, 1) := by decide +kernel
theorem dX8_takeNumber_102 : decode cX8_takeNumber 102 = .ok (.getfield 20, 3) := by decide +kernel
theorem dX8_takeNumber_105 : decode cX8_takeNumber 105 = .ok (.iconst 1, 1) := by decide +kernel
theorem dX8_takeNumber_106 : decode cX8_takeNumber 106 = .ok (.iadd, 1) := by decide +kernel
theorem dX8_takeNumber_107 : decode cX8_takeNumber 107 = .ok (.putfield 20, 3) := by decide +kernel
theorem dX8_takeNumber_110 : decode cX8_takeNumber 110 = .ok (.goto (-78), 3) := by decide +kernel
theorem dX8_takeNumber_113 : decode cX8_takeNumber 113 = .ok (.aload_n 0, 1) := by decide +kernel
theorem dX8_takeNumber_114 : decode cX8_takeNumber 114 = .ok (.getfield 20, 3) := by decide +kernel
theorem dX8_takeNumber_117 : decode cX8_takeNumber 117 = .ok (.aload_n 0, 1) := by decide +kernel
theorem dX8_takeNumber_118 : decode cX8_takeNumber 118 = .ok (.getfield 24, 3) := by decide +kernel
theorem dX8_takeNumber_121 : decode cX8_takeNumber 121 = .ok (.isub, 1) := by decide +kernel
theorem dX8_takeNumber_122 : decode cX8_takeNumber 122 = .ok (.iconst 2, 1) := by decide +kernel
theorem dX8_takeNumber_123 : decode cX8_takeNumber 123 = .ok (.if_icmp .gt 13, 3) := by decide +kernel
theorem dX8_takeNumber_126 : decode cX8_takeNumber 126 = .ok (.iload_n 3, 1) := by decide +kernel
theorem dX8_takeNumber_127 : decode cX8_takeNumber 127 = .ok (.iload_n 1, 1) := by decide +kernel
theorem dX8_takeNumber_128 : decode cX8_takeNumber 128 = .ok (.if_icmp .lt 8, 3) := by decide +kernel
theorem dX8_takeNumber_131 : decode cX8_takeNumber 131 = .ok (.iload_n 3, 1) := by decide +kernel
theorem dX8_takeNumber_132 : decode cX8_takeNumber 132 = .ok (.iload_n 2, 1) := by decide +kernel
theorem dX8_takeNumber_133 : decode cX8_takeNumber 133 = .ok (.if_icmp .le 15, 3) := by decide +kernel
theorem dX8_takeNumber_136 : decode cX8_takeNumber 136 = .ok (.aload_n 0, 1) := by decide +kernel
theorem dX8_takeNumber_137 : decode cX8_takeNumber 137 = .ok (.iconst 2, 1) := by decide +kernel
theorem dX8_takeNumber_138 : decode cX8_takeNumber 138 = .ok (.aload_n 0, 1) := by decide +kernel
theorem dX8_takeNumber_139 : decode cX8_takeNumber 139 = .ok (.getfield 24, 3) := by decide +kernel
theorem dX8_takeNumber_142 : decode cX8_takeNumber 142 = .ok (.invokevirtual 47, 3) := by decide +kernel
theorem dX8_takeNumber_145 : decode cX8_takeNumber 145 = .ok (.pop, 1) := by decide +kernel
theorem dX8_takeNumber_146 : decode cX8_takeNumber 146 = .ok (.iconst (-1), 1) := by decide +kernel
theorem dX8_takeNumber_147 : decode cX8_takeNumber 147 = .ok (.ireturn, 1) := by decide +kernel
theorem dX8_takeNumber_148 : decode cX8_takeNumber 148 = .ok (.iload_n 3, 1) := by decide +kernel
theorem dX8_takeNumber_149 : decode cX8_takeNumber 149 = .ok (.ireturn, 1) := by decide +kernel
theorem dX8_takeLetters_0 : decode cX8_takeLetters 0 = .ok (.aload_n 0, 1) := by decide +kernel
theorem dX8_takeLetters_1 : decode cX8_takeLetters 1 = .ok (.invokevirtual 40, 3) := by decide +kernel
theorem dX8_takeLetters_4 : decode cX8_takeLetters 4 = .ok (.pop, 1) := by decide +kernel
theorem dX8_takeLetters_5 : decode cX8_takeLetters 5 = .ok (.aload_n 0, 1) := by decide +kernel
theorem dX8_takeLetters_6 : decode cX8_takeLetters 6 = .ok (.aload_n 0, 1) := by decide +kernel
theorem dX8_takeLetters_7 : decode cX8_takeLetters 7 = .ok (.getfield 20, 3) := by decide +kernel
theorem dX8_takeLetters_10 : decode cX8_takeLetters 10 = .ok (.putfield 24, 3) := by decide +kernel
theorem dX8_takeLetters_13 : decode cX8_takeLetters 13 = .ok (.aload_n 0, 1) := by decide +kernel
theorem dX8_takeLetters_14 : decode cX8_takeLetters 14 = .ok (.getfield 20, 3) := by decide +kernel
theorem dX8_takeLetters_17 : decode cX8_takeLetters 17 = .ok (.aload_n 0, 1) := by decide +kernel
theorem dX8_takeLetters_18 : decode cX8_takeLetters 18 = .ok (.getfield 14, 3) := by decide +kernel
theorem dX8_takeLetters_21 : decode cX8_takeLetters 21 = .ok (.invokevirtual 33, 3) := by decide +kernel
theorem dX8_takeLetters_24 : decode cX8_takeLetters 24 = .ok (.if_icmp .ge 33, 3) := by decide +kernel
theorem dX8_takeLetters_27 : decode cX8_takeLetters 27 = .ok (.aload_n 0, 1) := by decide +kernel
theorem dX8_takeLetters_28 : decode cX8_takeLetters 28 = .ok (.getfield 14, 3) := by decide +kernel
theorem dX8_takeLetters_31 : decode cX8_takeLetters 31 = .ok (.aload_n 0, 1) := by decide +kernel
theorem dX8_takeLetters_32 : decode cX8_takeLetters 32 = .ok (.getfield 20, 3) := by decide +kernel
theorem dX8_takeLetters_35 : decode cX8_takeLetters 35 = .ok (.invokevirtual 37, 3) := by decide +kernel
theorem dX8_takeLetters_38 : decode cX8_takeLetters 38 = .ok (.invokestatic 51, 3) := by decide +kernel
theorem dX8_takeLetters_41 : decode cX8_takeLetters 41 = .ok (.ifCond .eq 16, 3) := by decide +kernel
theorem dX8_takeLetters_44 : decode cX8_takeLetters 44 = .ok (.aload_n 0, 1) := by decide +kernel
theorem dX8_takeLetters_45 : decode cX8_takeLetters 45 = .ok (.dup, 1) := by decide +kernel
theorem dX8_takeLetters_46 : decode cX8_takeLetters 46 = .ok (.getfield 20, 3) := by decide +kernel
theorem dX8_takeLetters_49 : decode cX8_takeLetters 49 = .ok (.iconst 1, 1) := by decide +kernel
theorem dX8_takeLetters_50 : decode cX8_takeLetters 50 = .ok (.iadd, 1) := by decide +kernel
theorem dX8_takeLetters_51 : decode cX8_takeLetters 51 = .ok (.putfield 20, 3) := by decide +kernel
theorem dX8_takeLetters_54 : decode cX8_takeLetters 54 = .ok (.goto (-41), 3) := by decide +kernel
theorem dX8_takeLetters_57 : decode cX8_takeLetters 57 = .ok (.return_, 1) := by decide +kernel
theorem dX8_tokenIs_0 : decode cX8_tokenIs 0 = .ok (.aload_n 0, 1) := by decide +kernel
theorem dX8_tokenIs_1 : decode cX8_tokenIs 1 = .ok (.getfield 20, 3) := by decide +kernel
theorem dX8_tokenIs_4 : decode cX8_tokenIs 4 = .ok (.aload_n 0, 1) := by decide +kernel
theorem dX8_tokenIs_5 : decode cX8_tokenIs 5 = .ok (.getfield 24, 3) := by decide +kernel
theorem dX8_tokenIs_8 : decode cX8_tokenIs 8 = .ok (.isub, 1) := by decide +kernel
theorem dX8_tokenIs_9 : decode cX8_tokenIs 9 = .ok (.aload_n 1, 1) := by decide +kernel
theorem dX8_tokenIs_10 : decode cX8_tokenIs 10 = .ok (.invokevirtual 54, 3) := by decide +kernel
theorem dX8_tokenIs_13 : decode cX8_tokenIs 13 = .ok (.if_icmp .eq 5, 3) := by decide +kernel
theorem dX8_tokenIs_16 : decode cX8_tokenIs 16 = .ok (.iconst 0, 1) := by decide +kernel
theorem dX8_tokenIs_17 : decode cX8_tokenIs 17 = .ok (.ireturn, 1) := by decide +kernel
theorem dX8_tokenIs_18 : decode cX8_tokenIs 18 = .ok (.iconst 0, 1) := by decide +kernel
theorem dX8_tokenIs_19 : decode cX8_tokenIs 19 = .ok (.istore_n 2, 1) := by decide +kernel
theorem dX8_tokenIs_20 : decode cX8_tokenIs 20 = .ok (.iload_n 2, 1) := by decide +kernel
theorem dX8_tokenIs_21 : decode cX8_tokenIs 21 = .ok (.aload_n 1, 1) := by decide +kernel
theorem dX8_tokenIs_22 : decode cX8_tokenIs 22 = .ok (.invokevirtual 54, 3) := by decide +kernel
theorem dX8_tokenIs_25 : decode cX8_tokenIs 25 = .ok (.if_icmp .ge 32, 3) := by decide +kernel
theorem dX8_tokenIs_28 : decode cX8_tokenIs 28 = .ok (.aload_n 0, 1) := by decide +kernel
theorem dX8_tokenIs_29 : decode cX8_tokenIs 29 = .ok (.getfield 14, 3) := by decide +kernel
theorem dX8_tokenIs_32 : decode cX8_tokenIs 32 = .ok (.aload_n 0, 1) := by decide +kernel
theorem dX8_tokenIs_33 : decode cX8_tokenIs 33 = .ok (.getfield 24, 3) := by decide +kernel
theorem dX8_tokenIs_36 : decode cX8_tokenIs 36 = .ok (.iload_n 2, 1) := by decide +kernel
theorem dX8_tokenIs_37 : decode cX8_tokenIs 37 = .ok (.iadd, 1) := by decide +kernel
theorem dX8_tokenIs_38 : decode cX8_tokenIs 38 = .ok (.invokevirtual 37, 3) := by decide +kernel
theorem dX8_tokenIs_41 : decode cX8_tokenIs 41 = .ok (.aload_n 1, 1) := by decide +kernel
theorem dX8_tokenIs_42 : decode cX8_tokenIs 42 = .ok (.iload_n 2, 1) := by decide +kernel
theorem dX8_tokenIs_43 : decode cX8_tokenIs 43 = .ok (.invokevirtual 57, 3) := by decide +kernel
theorem dX8_tokenIs_46 : decode cX8_tokenIs 46 = .ok (.if_icmp .eq 5, 3) := by decide +kernel
theorem dX8_tokenIs_49 : decode cX8_tokenIs 49 = .ok (.iconst 0, 1) := by decide +kernel
theorem dX8_tokenIs_50 : decode cX8_tokenIs 50 = .ok (.ireturn, 1) := by decide +kernel
theorem dX8_tokenIs_51 : decode cX8_tokenIs 51 = .ok (.iinc 2 1, 3) := by decide +kernel
theorem dX8_tokenIs_54 : decode cX8_tokenIs 54 = .ok (.goto (-34), 3) := by decide +kernel
theorem dX8_tokenIs_57 : decode cX8_tokenIs 57 = .ok (.iconst 1, 1) := by decide +kernel
theorem dX8_tokenIs_58 : decode cX8_tokenIs 58 = .ok (.ireturn, 1) := by decide +kernel
theorem dX8_takeSign_0 : decode cX8_takeSign 0 = .ok (.aload_n 0, 1) := by decide +kernel
theorem dX8_takeSign_1 : decode cX8_takeSign 1 = .ok (.invokevirtual 40, 3) := by decide +kernel
theorem dX8_takeSign_4 : decode cX8_takeSign 4 = .ok (.iload_n 1, 1) := by decide +kernel
theorem dX8_takeSign_5 : decode cX8_takeSign 5 = .ok (.if_icmp .eq 13, 3) := by decide +kernel
theorem dX8_takeSign_8 : decode cX8_takeSign 8 = .ok (.aload_n 0, 1) := by decide +kernel
theorem dX8_takeSign_9 : decode cX8_takeSign 9 = .ok (.iconst 1, 1) := by decide +kernel
theorem dX8_takeSign_10 : decode cX8_takeSign 10 = .ok (.aload_n 0, 1) := by decide +kernel
theorem dX8_takeSign_11 : decode cX8_takeSign 11 = .ok (.getfield 20, 3) := by decide +kernel
theorem dX8_takeSign_14 : decode cX8_takeSign 14 = .ok (.invokevirtual 47, 3) := by decide +kernel
theorem dX8_takeSign_17 : decode cX8_takeSign 17 = .ok (.ireturn, 1) := by decide +kernel
theorem dX8_takeSign_18 : decode cX8_takeSign 18 = .ok (.aload_n 0, 1) := by decide +kernel
theorem dX8_takeSign_19 : decode cX8_takeSign 19 = .ok (.dup, 1) := by decide +kernel
theorem dX8_takeSign_20 : decode cX8_takeSign 20 = .ok (.getfield 20, 3) := by decide +kernel
theorem dX8_takeSign_23 : decode cX8_takeSign 23 = .ok (.iconst 1, 1) := by decide +kernel
theorem dX8_takeSign_24 : decode cX8_takeSign 24 = .ok (.iadd, 1) := by decide +kernel
theorem dX8_takeSign_25 : decode cX8_takeSign 25 = .ok (.putfield 20, 3) := by decide +kernel
theorem dX8_takeSign_28 : decode cX8_takeSign 28 = .ok (.iconst 1, 1) := by decide +kernel
theorem dX8_takeSign_29 : decode cX8_takeSign 29 = .ok (.ireturn, 1) := by decide +kernel
theorem dX9_init_0 : decode cX9_init 0 = .ok (.aload_n 0, 1) := by decide +kernel
theorem dX9_init_1 : decode cX9_init 1 = .ok (.invokespecial 3, 3) := by decide +kernel
theorem dX9_init_4 : decode cX9_init 4 = .ok (.aload_n 0, 1) := by decide +kernel
theorem dX9_init_5 : decode cX9_init 5 = .ok (.new 9, 3) := by decide +kernel
theorem dX9_init_8 : decode cX9_init 8 = .ok (.dup, 1) := by decide +kernel
theorem dX9_init_9 : decode cX9_init 9 = .ok (.bipush 100, 2) := by decide +kernel
theorem dX9_init_11 : decode cX9_init 11 = .ok (.invokespecial 11, 3) := by decide +kernel
theorem dX9_init_14 : decode cX9_init 14 = .ok (.putfield 14, 3) := by decide +kernel
theorem dX9_init_17 : decode cX9_init 17 = .ok (.aload_n 0, 1) := by decide +kernel
theorem dX9_init_18 : decode cX9_init 18 = .ok (.new 9, 3) := by decide +kernel
theorem dX9_init_21 : decode cX9_init 21 = .ok (.dup, 1) := by decide +kernel
theorem dX9_init_22 : decode cX9_init 22 = .ok (.bipush 10, 2) := by decide +kernel
theorem dX9_init_24 : decode cX9_init 24 = .ok (.invokespecial 11, 3) := by decide +kernel
theorem dX9_init_27 : decode cX9_init 27 = .ok (.putfield 20, 3) := by decide +kernel
theorem dX9_init_30 : decode cX9_init 30 = .ok (.aload_n 0, 1) := by decide +kernel
theorem dX9_init_31 : decode cX9_init 31 = .ok (.iconst 0, 1) := by decide +kernel
theorem dX9_init_32 : decode cX9_init 32 = .ok (.putfield 23, 3) := by decide +kernel
theorem dX9_init_35 : decode cX9_init 35 = .ok (.return_, 1) := by decide +kernel
theorem dX9_begin_0 : decode cX9_begin 0 = .ok (.aload_n 0, 1) := by decide +kernel
theorem dX9_begin_1 : decode cX9_begin 1 = .ok (.getfield 14, 3) := by decide +kernel
theorem dX9_begin_4 : decode cX9_begin 4 = .ok (.bipush 100, 2) := by decide +kernel
theorem dX9_begin_6 : decode cX9_begin 6 = .ok (.iconst 0, 1) := by decide +kernel
theorem dX9_begin_7 : decode cX9_begin 7 = .ok (.invokevirtual 27, 3) := by decide +kernel
theorem dX9_begin_10 : decode cX9_begin 10 = .ok (.aload_n 0, 1) := by decide +kernel
theorem dX9_begin_11 : decode cX9_begin 11 = .ok (.getfield 20, 3) := by decide +kernel
theorem dX9_begin_14 : decode cX9_begin 14 = .ok (.bipush 10, 2) := by decide +kernel
theorem dX9_begin_16 : decode cX9_begin 16 = .ok (.iconst (-1), 1) := by decide +kernel
theorem dX9_begin_17 : decode cX9_begin 17 = .ok (.invokevirtual 27, 3) := by decide +kernel
theorem dX9_begin_20 : decode cX9_begin 20 = .ok (.aload_n 0, 1) := by decide +kernel
theorem dX9_begin_21 : decode cX9_begin 21 = .ok (.iconst 0, 1) := by decide +kernel
theorem dX9_begin_22 : decode cX9_begin 22 = .ok (.putfield 23, 3) := by decide +kernel
theorem dX9_begin_25 : decode cX9_begin 25 = .ok (.return_, 1) := by decide +kernel
theorem dX9_tellDistance_0 : decode cX9_tellDistance 0 = .ok (.aload_n 0, 1) := by decide +kernel
theorem dX9_tellDistance_1 : decode cX9_tellDistance 1 = .ok (.getfield 14, 3) := by decide +kernel
theorem dX9_tellDistance_4 : decode cX9_tellDistance 4 = .ok (.iload_n 1, 1) := by decide +kernel
theorem dX9_tellDistance_5 : decode cX9_tellDistance 5 = .ok (.bipush 10, 2) := by decide +kernel
theorem dX9_tellDistance_7 : decode cX9_tellDistance 7 = .ok (.imul, 1) := by decide +kernel
theorem dX9_tellDistance_8 : decode cX9_tellDistance 8 = .ok (.iload_n 2, 1) := by decide +kernel
theorem dX9_tellDistance_9 : decode cX9_tellDistance 9 = .ok (.iadd, 1) := by decide +kernel
theorem dX9_tellDistance_10 : decode cX9_tellDistance 10 = .ok (.iload_n 3, 1) := by decide +kernel
theorem dX9_tellDistance_11 : decode cX9_tellDistance 11 = .ok (.invokevirtual 31, 3) := by decide +kernel
theorem dX9_tellDistance_14 : decode cX9_tellDistance 14 = .ok (.aload_n 0, 1) := by decide +kernel
theorem dX9_tellDistance_15 : decode cX9_tellDistance 15 = .ok (.getfield 14, 3) := by decide +kernel
theorem dX9_tellDistance_18 : decode cX9_tellDistance 18 = .ok (.iload_n 2, 1) := by decide +kernel
theorem dX9_tellDistance_19 : decode cX9_tellDistance 19 = .ok (.bipush 10, 2) := by decide +kernel
theorem dX9_tellDistance_21 : decode cX9_tellDistance 21 = .ok (.imul, 1) := by decide +kernel
theorem dX9_tellDistance_22 : decode cX9_tellDistance 22 = .ok (.iload_n 1, 1) := by decide +kernel
theorem dX9_tellDistance_23 : decode cX9_tellDistance 23 = .ok (.iadd, 1) := by decide +kernel
theorem dX9_tellDistance_24 : decode cX9_tellDistance 24 = .ok (.iload_n 3, 1) := by decide +kernel
theorem dX9_tellDistance_25 : decode cX9_tellDistance 25 = .ok (.invokevirtual 31, 3) := by decide +kernel
theorem dX9_tellDistance_28 : decode cX9_tellDistance 28 = .ok (.return_, 1) := by decide +kernel
theorem dX9_apart_0 : decode cX9_apart 0 = .ok (.aload_n 0, 1) := by decide +kernel
theorem dX9_apart_1 : decode cX9_apart 1 = .ok (.getfield 14, 3) := by decide +kernel
theorem dX9_apart_4 : decode cX9_apart 4 = .ok (.iload_n 1, 1) := by decide +kernel
theorem dX9_apart_5 : decode cX9_apart 5 = .ok (.bipush 10, 2) := by decide +kernel
theorem dX9_apart_7 : decode cX9_apart 7 = .ok (.imul, 1) := by decide +kernel
theorem dX9_apart_8 : decode cX9_apart 8 = .ok (.iload_n 2, 1) := by decide +kernel
theorem dX9_apart_9 : decode cX9_apart 9 = .ok (.iadd, 1) := by decide +kernel
theorem dX9_apart_10 : decode cX9_apart 10 = .ok (.invokevirtual 34, 3) := by decide +kernel
theorem dX9_apart_13 : decode cX9_apart 13 = .ok (.ireturn, 1) := by decide +kernel
theorem dX9_grow_0 : decode cX9_grow 0 = .ok (.iconst 1, 1) := by decide +kernel
theorem dX9_grow_1 : decode cX9_grow 1 = .ok (.iload_n 1, 1) := by decide +kernel
theorem dX9_grow_2 : decode cX9_grow 2 = .ok (.ishl, 1) := by decide +kernel
theorem dX9_grow_3 : decode cX9_grow 3 = .ok (.istore_n 3, 1) := by decide +kernel
theorem dX9_grow_4 : decode cX9_grow 4 = .ok (.iconst 0, 1) := by decide +kernel
theorem dX9_grow_5 : decode cX9_grow 5 = .ok (.istore 4, 2) := by decide +kernel
theorem dX9_grow_7 : decode cX9_grow 7 = .ok (.iload 4, 2) := by decide +kernel
theorem dX9_grow_9 : decode cX9_grow 9 = .ok (.bipush 10, 2) := by decide +kernel
theorem dX9_grow_11 : decode cX9_grow 11 = .ok (.if_icmp .ge 138, 3) := by decide +kernel
theorem dX9_grow_14 : decode cX9_grow 14 = .ok (.iload_n 3, 1) := by decide +kernel
theorem dX9_grow_15 : decode cX9_grow 15 = .ok (.iload_n 2, 1) := by decide +kernel
theorem dX9_grow_16 : decode cX9_grow 16 = .ok (.if_icmp .eq 133, 3) := by decide +kernel
theorem dX9_grow_19 : decode cX9_grow 19 = .ok (.iconst (-1), 1) := by decide +kernel
theorem dX9_grow_20 : decode cX9_grow 20 = .ok (.istore 5, 2) := by decide +kernel
theorem dX9_grow_22 : decode cX9_grow 22 = .ok (.iconst (-1), 1) := by decide +kernel
theorem dX9_grow_23 : decode cX9_grow 23 = .ok (.istore 6, 2) := by decide +kernel
theorem dX9_grow_25 : decode cX9_grow 25 = .ok (.iconst 0, 1) := by decide +kernel
theorem dX9_grow_26 : decode cX9_grow 26 = .ok (.istore 7, 2) := by decide +kernel
theorem dX9_grow_28 : decode cX9_grow 28 = .ok (.iload 7, 2) := by decide +kernel
theorem dX9_grow_30 : decode cX9_grow 30 = .ok (.bipush 10, 2) := by decide +kernel
theorem dX9_grow_32 : decode cX9_grow 32 = .ok (.if_icmp .ge 69, 3) := by decide +kernel
theorem dX9_grow_35 : decode cX9_grow 35 = .ok (.iload_n 2, 1) := by decide +kernel
theorem dX9_grow_36 : decode cX9_grow 36 = .ok (.iload 7, 2) := by decide +kernel
theorem dX9_grow_38 : decode cX9_grow 38 = .ok (.invokestatic 38, 3) := by decide +kernel
theorem dX9_grow_41 : decode cX9_grow 41 = .ok (.ifCond .eq 54, 3) := by decide +kernel
theorem dX9_grow_44 : decode cX9_grow 44 = .ok (.iload_n 3, 1) := by decide +kernel
theorem dX9_grow_45 : decode cX9_grow 45 = .ok (.iload 7, 2) := by decide +kernel
theorem dX9_grow_47 : decode cX9_grow 47 = .ok (.invokestatic 38, 3) := by decide +kernel
theorem dX9_grow_50 : decode cX9_grow 50 = .ok (.ifCond .ne 45, 3) := by decide +kernel
theorem dX9_grow_53 : decode cX9_grow 53 = .ok (.aload_n 0, 1) := by decide +kernel
theorem dX9_grow_54 : decode cX9_grow 54 = .ok (.iload 7, 2) := by decide +kernel
theorem dX9_grow_56 : decode cX9_grow 56 = .ok (.iload_n 3, 1) := by decide +kernel
theorem dX9_grow_57 : decode cX9_grow 57 = .ok (.invokevirtual 42, 3) := by decide +kernel
theorem dX9_grow_60 : decode cX9_grow 60 = .ok (.istore 8, 2) := by decide +kernel
theorem dX9_grow_62 : decode cX9_grow 62 = .ok (.iload 5, 2) := by decide +kernel
theorem dX9_grow_64 : decode cX9_grow 64 = .ok (.iconst (-1), 1) := by decide +kernel
theorem dX9_grow_65 : decode cX9_grow 65 = .ok (.if_icmp .eq 22, 3) := by decide +kernel
theorem dX9_grow_68 : decode cX9_grow 68 = .ok (.aload_n 0, 1) := by decide +kernel
theorem dX9_grow_69 : decode cX9_grow 69 = .ok (.iload 8, 2) := by decide +kernel
theorem dX9_grow_71 : decode cX9_grow 71 = .ok (.iload 7, 2) := by decide +kernel
theorem dX9_grow_73 : decode cX9_grow 73 = .ok (.invokevirtual 46, 3) := by decide +kernel
theorem dX9_grow_76 : decode cX9_grow 76 = .ok (.aload_n 0, 1) := by decide +kernel
theorem dX9_grow_77 : decode cX9_grow 77 = .ok (.iload 6, 2) := by decide +kernel
theorem dX9_grow_79 : decode cX9_grow 79 = .ok (.iload 5, 2) := by decide +kernel
theorem dX9_grow_81 : decode cX9_grow 81 = .ok (.invokevirtual 46, 3) := by decide +kernel
theorem dX9_grow_84 : decode cX9_grow 84 = .ok (.if_icmp .ge 11, 3) := by decide +kernel
theorem dX9_grow_87 : decode cX9_grow 87 = .ok (.iload 7, 2) := by decide +kernel
theorem dX9_grow_89 : decode cX9_grow 89 = .ok (.istore 5, 2) := by decide +kernel
theorem dX9_grow_91 : decode cX9_grow 91 = .ok (.iload 8, 2) := by decide +kernel
theorem dX9_grow_93 : decode cX9_grow 93 = .ok (.istore 6, 2) := by decide +kernel
theorem dX9_grow_95 : decode cX9_grow 95 = .ok (.iinc 7 1, 3) := by decide +kernel
theorem dX9_grow_98 : decode cX9_grow 98 = .ok (.goto (-70), 3) := by decide +kernel
theorem dX9_grow_101 : decode cX9_grow 101 = .ok (.iload 5, 2) := by decide +kernel
theorem dX9_grow_103 : decode cX9_grow 103 = .ok (.iconst (-1), 1) := by decide +kernel
theorem dX9_grow_104 : decode cX9_grow 104 = .ok (.if_icmp .ne 4, 3) := by decide +kernel
theorem dX9_grow_107 : decode cX9_grow 107 = .ok (.return_, 1) := by decide +kernel
theorem dX9_grow_108 : decode cX9_grow 108 = .ok (.aload_n 0, 1) := by decide +kernel
theorem dX9_grow_109 : decode cX9_grow 109 = .ok (.getfield 20, 3) := by decide +kernel
theorem dX9_grow_112 : decode cX9_grow 112 = .ok (.iload 5, 2) := by decide +kernel
theorem dX9_grow_114 : decode cX9_grow 114 = .ok (.iload 6, 2) := by decide +kernel
theorem dX9_grow_116 : decode cX9_grow 116 = .ok (.invokevirtual 31, 3) := by decide +kernel
theorem dX9_grow_119 : decode cX9_grow 119 = .ok (.aload_n 0, 1) := by decide +kernel
theorem dX9_grow_120 : decode cX9_grow 120 = .ok (.dup, 1) := by decide +kernel
theorem dX9_grow_121 : decode cX9_grow 121 = .ok (.getfield 23, 3) := by decide +kernel
theorem dX9_grow_124 : decode cX9_grow 124 = .ok (.aload_n 0, 1) := by decide +kernel
theorem dX9_grow_125 : decode cX9_grow 125 = .ok (.iload 6, 2) := by decide +kernel
theorem dX9_grow_127 : decode cX9_grow 127 = .ok (.iload 5, 2) := by decide +kernel
theorem dX9_grow_129 : decode cX9_grow 129 = .ok (.invokevirtual 46, 3) := by decide +kernel
theorem dX9_grow_132 : decode cX9_grow 132 = .ok (.iadd, 1) := by decide +kernel
theorem dX9_grow_133 : decode cX9_grow 133 = .ok (.putfield 23, 3) := by decide +kernel
theorem dX9_grow_136 : decode cX9_grow 136 = .ok (.iload_n 3, 1) := by decide +kernel
theorem dX9_grow_137 : decode cX9_grow 137 = .ok (.iconst 1, 1) := by decide +kernel
theorem dX9_grow_138 : decode cX9_grow 138 = .ok (.iload 5, 2) := by decide +kernel
theorem dX9_grow_140 : decode cX9_grow 140 = .ok (.ishl, 1) := by decide +kernel
theorem dX9_grow_141 : decode cX9_grow 141 = .ok (.ior, 1) := by decide +kernel
theorem dX9_grow_142 : decode cX9_grow 142 = .ok (.istore_n 3, 1) := by decide +kernel
theorem dX9_grow_143 : decode cX9_grow 143 = .ok (.iinc 4 1, 3) := by decide +kernel
theorem dX9_grow_146 : decode cX9_grow 146 = .ok (.goto (-139), 3) := by decide +kernel
theorem dX9_grow_149 : decode cX9_grow 149 = .ok (.return_, 1) := by decide +kernel
theorem dX9_nearest_0 : decode cX9_nearest 0 = .ok (.iconst (-1), 1) := by decide +kernel
theorem dX9_nearest_1 : decode cX9_nearest 1 = .ok (.istore_n 3, 1) := by decide +kernel
theorem dX9_nearest_2 : decode cX9_nearest 2 = .ok (.iconst 0, 1) := by decide +kernel
theorem dX9_nearest_3 : decode cX9_nearest 3 = .ok (.istore 4, 2) := by decide +kernel
theorem dX9_nearest_5 : decode cX9_nearest 5 = .ok (.iload 4, 2) := by decide +kernel
theorem dX9_nearest_7 : decode cX9_nearest 7 = .ok (.bipush 10, 2) := by decide +kernel
theorem dX9_nearest_9 : decode cX9_nearest 9 = .ok (.if_icmp .ge 42, 3) := by decide +kernel
theorem dX9_nearest_12 : decode cX9_nearest 12 = .ok (.iload_n 2, 1) := by decide +kernel
theorem dX9_nearest_13 : decode cX9_nearest 13 = .ok (.iload 4, 2) := by decide +kernel
theorem dX9_nearest_15 : decode cX9_nearest 15 = .ok (.invokestatic 38, 3) := by decide +kernel
theorem dX9_nearest_18 : decode cX9_nearest 18 = .ok (.ifCond .eq 27, 3) := by decide +kernel
theorem dX9_nearest_21 : decode cX9_nearest 21 = .ok (.iload_n 3, 1) := by decide +kernel
theorem dX9_nearest_22 : decode cX9_nearest 22 = .ok (.iconst (-1), 1) := by decide +kernel
theorem dX9_nearest_23 : decode cX9_nearest 23 = .ok (.if_icmp .eq 19, 3) := by decide +kernel
theorem dX9_nearest_26 : decode cX9_nearest 26 = .ok (.aload_n 0, 1) := by decide +kernel
theorem dX9_nearest_27 : decode cX9_nearest 27 = .ok (.iload 4, 2) := by decide +kernel
theorem dX9_nearest_29 : decode cX9_nearest 29 = .ok (.iload_n 1, 1) := by decide +kernel
theorem dX9_nearest_30 : decode cX9_nearest 30 = .ok (.invokevirtual 46, 3) := by decide +kernel
theorem dX9_nearest_33 : decode cX9_nearest 33 = .ok (.aload_n 0, 1) := by decide +kernel
theorem dX9_nearest_34 : decode cX9_nearest 34 = .ok (.iload_n 3, 1) := by decide +kernel
theorem dX9_nearest_35 : decode cX9_nearest 35 = .ok (.iload_n 1, 1) := by decide +kernel
theorem dX9_nearest_36 : decode cX9_nearest 36 = .ok (.invokevirtual 46, 3) := by decide +kernel
theorem dX9_nearest_39 : decode cX9_nearest 39 = .ok (.if_icmp .ge 6, 3) := by decide +kernel
theorem dX9_nearest_42 : decode cX9_nearest 42 = .ok (.iload 4, 2) := by decide +kernel
theorem dX9_nearest_44 : decode cX9_nearest 44 = .ok (.istore_n 3, 1) := by decide +kernel
theorem dX9_nearest_45 : decode cX9_nearest 45 = .ok (.iinc 4 1, 3) := by decide +kernel
theorem dX9_nearest_48 : decode cX9_nearest 48 = .ok (.goto (-43), 3) := by decide +kernel
theorem dX9_nearest_51 : decode cX9_nearest 51 = .ok (.iload_n 3, 1) := by decide +kernel
theorem dX9_nearest_52 : decode cX9_nearest 52 = .ok (.ireturn, 1) := by decide +kernel
theorem dX10_init_0 : decode cX10_init 0 = .ok (.aload_n 0, 1) := by decide +kernel
theorem dX10_init_1 : decode cX10_init 1 = .ok (.invokespecial 3, 3) := by decide +kernel
theorem dX10_init_4 : decode cX10_init 4 = .ok (.aload_n 0, 1) := by decide +kernel
theorem dX10_init_5 : decode cX10_init 5 = .ok (.new 9, 3) := by decide +kernel
theorem dX10_init_8 : decode cX10_init 8 = .ok (.dup, 1) := by decide +kernel
theorem dX10_init_9 : decode cX10_init 9 = .ok (.sipush 400, 3) := by decide +kernel
theorem dX10_init_12 : decode cX10_init 12 = .ok (.invokespecial 11, 3) := by decide +kernel
theorem dX10_init_15 : decode cX10_init 15 = .ok (.putfield 14, 3) := by decide +kernel
theorem dX10_init_18 : decode cX10_init 18 = .ok (.aload_n 0, 1) := by decide +kernel
theorem dX10_init_19 : decode cX10_init 19 = .ok (.new 9, 3) := by decide +kernel
theorem dX10_init_22 : decode cX10_init 22 = .ok (.dup, 1) := by decide +kernel
theorem dX10_init_23 : decode cX10_init 23 = .ok (.sipush 160, 3) := by decide +kernel
theorem dX10_init_26 : decode cX10_init 26 = .ok (.invokespecial 11, 3) := by decide +kernel
theorem dX10_init_29 : decode cX10_init 29 = .ok (.putfield 20, 3) := by decide +kernel
theorem dX10_init_32 : decode cX10_init 32 = .ok (.aload_n 0, 1) := by decide +kernel
theorem dX10_init_33 : decode cX10_init 33 = .ok (.new 9, 3) := by decide +kernel
theorem dX10_init_36 : decode cX10_init 36 = .ok (.dup, 1) := by decide +kernel
theorem dX10_init_37 : decode cX10_init 37 = .ok (.sipush 160, 3) := by decide +kernel
theorem dX10_init_40 : decode cX10_init 40 = .ok (.invokespecial 11, 3) := by decide +kernel
theorem dX10_init_43 : decode cX10_init 43 = .ok (.putfield 23, 3) := by decide +kernel
theorem dX10_init_46 : decode cX10_init 46 = .ok (.aload_n 0, 1) := by decide +kernel
theorem dX10_init_47 : decode cX10_init 47 = .ok (.iconst 0, 1) := by decide +kernel
theorem dX10_init_48 : decode cX10_init 48 = .ok (.putfield 26, 3) := by decide +kernel
theorem dX10_init_51 : decode cX10_init 51 = .ok (.aload_n 0, 1) := by decide +kernel
theorem dX10_init_52 : decode cX10_init 52 = .ok (.iconst 0, 1) := by decide +kernel
theorem dX10_init_53 : decode cX10_init 53 = .ok (.putfield 30, 3) := by decide +kernel
theorem dX10_init_56 : decode cX10_init 56 = .ok (.aload_n 0, 1) := by decide +kernel
theorem dX10_init_57 : decode cX10_init 57 = .ok (.iconst 0, 1) := by decide +kernel
theorem dX10_init_58 : decode cX10_init 58 = .ok (.putfield 33, 3) := by decide +kernel
theorem dX10_init_61 : decode cX10_init 61 = .ok (.return_, 1) := by decide +kernel
theorem dX10_begin_0 : decode cX10_begin 0 = .ok (.aload_n 0, 1) := by decide +kernel
theorem dX10_begin_1 : decode cX10_begin 1 = .ok (.iload_n 1, 1) := by decide +kernel
theorem dX10_begin_2 : decode cX10_begin 2 = .ok (.putfield 26, 3) := by decide +kernel
theorem dX10_begin_5 : decode cX10_begin 5 = .ok (.aload_n 0, 1) := by decide +kernel
theorem dX10_begin_6 : decode cX10_begin 6 = .ok (.iload_n 2, 1) := by decide +kernel
theorem dX10_begin_7 : decode cX10_begin 7 = .ok (.putfield 30, 3) := by decide +kernel
theorem dX10_begin_10 : decode cX10_begin 10 = .ok (.aload_n 0, 1) := by decide +kernel
theorem dX10_begin_11 : decode cX10_begin 11 = .ok (.iload_n 3, 1) := by decide +kernel
theorem dX10_begin_12 : decode cX10_begin 12 = .ok (.putfield 33, 3) := by decide +kernel
theorem dX10_begin_15 : decode cX10_begin 15 = .ok (.aload_n 0, 1) := by decide +kernel
theorem dX10_begin_16 : decode cX10_begin 16 = .ok (.getfield 14, 3) := by decide +kernel
theorem dX10_begin_19 : decode cX10_begin 19 = .ok (.sipush 400, 3) := by decide +kernel
theorem dX10_begin_22 : decode cX10_begin 22 = .ok (.iconst (-1), 1) := by decide +kernel
theorem dX10_begin_23 : decode cX10_begin 23 = .ok (.invokevirtual 36, 3) := by decide +kernel
theorem dX10_begin_26 : decode cX10_begin 26 = .ok (.return_, 1) := by decide +kernel
theorem dX10_hear_0 : decode cX10_hear 0 = .ok (.aload_n 0, 1) := by decide +kernel
theorem dX10_hear_1 : decode cX10_hear 1 = .ok (.getfield 14, 3) := by decide +kernel
theorem dX10_hear_4 : decode cX10_hear 4 = .ok (.iload_n 1, 1) := by decide +kernel
theorem dX10_hear_5 : decode cX10_hear 5 = .ok (.bipush 40, 2) := by decide +kernel
theorem dX10_hear_7 : decode cX10_hear 7 = .ok (.imul, 1) := by decide +kernel
theorem dX10_hear_8 : decode cX10_hear 8 = .ok (.iload_n 2, 1) := by decide +kernel
theorem dX10_hear_9 : decode cX10_hear 9 = .ok (.iadd, 1) := by decide +kernel
theorem dX10_hear_10 : decode cX10_hear 10 = .ok (.iload_n 3, 1) := by decide +kernel
theorem dX10_hear_11 : decode cX10_hear 11 = .ok (.invokevirtual 40, 3) := by decide +kernel
theorem dX10_hear_14 : decode cX10_hear 14 = .ok (.return_, 1) := by decide +kernel
theorem dX10_heard_0 : decode cX10_heard 0 = .ok (.aload_n 0, 1) := by decide +kernel
theorem dX10_heard_1 : decode cX10_heard 1 = .ok (.getfield 14, 3) := by decide +kernel
theorem dX10_heard_4 : decode cX10_heard 4 = .ok (.iload_n 1, 1) := by decide +kernel
theorem dX10_heard_5 : decode cX10_heard 5 = .ok (.bipush 40, 2) := by decide +kernel
theorem dX10_heard_7 : decode cX10_heard 7 = .ok (.imul, 1) := by decide +kernel
theorem dX10_heard_8 : decode cX10_heard 8 = .ok (.iload_n 2, 1) := by decide +kernel
theorem dX10_heard_9 : decode cX10_heard 9 = .ok (.iadd, 1) := by decide +kernel
theorem dX10_heard_10 : decode cX10_heard 10 = .ok (.invokevirtual 43, 3) := by decide +kernel
theorem dX10_heard_13 : decode cX10_heard 13 = .ok (.ireturn, 1) := by decide +kernel
theorem dX10_votes_0 : decode cX10_votes 0 = .ok (.iconst 0, 1) := by decide +kernel
theorem dX10_votes_1 : decode cX10_votes 1 = .ok (.istore_n 3, 1) := by decide +kernel
theorem dX10_votes_2 : decode cX10_votes 2 = .ok (.iconst 0, 1) := by decide +kernel
theorem dX10_votes_3 : decode cX10_votes 3 = .ok (.istore 4, 2) := by decide +kernel
theorem dX10_votes_5 : decode cX10_votes 5 = .ok (.iload 4, 2) := by decide +kernel
theorem dX10_votes_7 : decode cX10_votes 7 = .ok (.bipush 10, 2) := by decide +kernel
theorem dX10_votes_9 : decode cX10_votes 9 = .ok (.if_icmp .ge 44, 3) := by decide +kernel
theorem dX10_votes_12 : decode cX10_votes 12 = .ok (.iload 4, 2) := by decide +kernel
theorem dX10_votes_14 : decode cX10_votes 14 = .ok (.aload_n 0, 1) := by decide +kernel
theorem dX10_votes_15 : decode cX10_votes 15 = .ok (.getfield 26, 3) := by decide +kernel
theorem dX10_votes_18 : decode cX10_votes 18 = .ok (.if_icmp .eq 15, 3) := by decide +kernel
theorem dX10_votes_21 : decode cX10_votes 21 = .ok (.aload_n 0, 1) := by decide +kernel
theorem dX10_votes_22 : decode cX10_votes 22 = .ok (.getfield 30, 3) := by decide +kernel
theorem dX10_votes_25 : decode cX10_votes 25 = .ok (.iload 4, 2) := by decide +kernel
theorem dX10_votes_27 : decode cX10_votes 27 = .ok (.invokestatic 47, 3) := by decide +kernel
theorem dX10_votes_30 : decode cX10_votes 30 = .ok (.ifCond .eq 17, 3) := by decide +kernel
theorem dX10_votes_33 : decode cX10_votes 33 = .ok (.aload_n 0, 1) := by decide +kernel
theorem dX10_votes_34 : decode cX10_votes 34 = .ok (.iload 4, 2) := by decide +kernel
theorem dX10_votes_36 : decode cX10_votes 36 = .ok (.iload_n 1, 1) := by decide +kernel
theorem dX10_votes_37 : decode cX10_votes 37 = .ok (.invokevirtual 51, 3) := by decide +kernel
theorem dX10_votes_40 : decode cX10_votes 40 = .ok (.iload_n 2, 1) := by decide +kernel
theorem dX10_votes_41 : decode cX10_votes 41 = .ok (.if_icmp .ne 6, 3) := by decide +kernel
theorem dX10_votes_44 : decode cX10_votes 44 = .ok (.iinc 3 1, 3) := by decide +kernel
theorem dX10_votes_47 : decode cX10_votes 47 = .ok (.iinc 4 1, 3) := by decide +kernel
theorem dX10_votes_50 : decode cX10_votes 50 = .ok (.goto (-45), 3) := by decide +kernel
theorem dX10_votes_53 : decode cX10_votes 53 = .ok (.iload_n 3, 1) := by decide +kernel
theorem dX10_votes_54 : decode cX10_votes 54 = .ok (.ireturn, 1) := by decide +kernel
theorem dX10_mostAt_0 : decode cX10_mostAt 0 = .ok (.aload_n 0, 1) := by decide +kernel
theorem dX10_mostAt_1 : decode cX10_mostAt 1 = .ok (.aload_n 0, 1) := by decide +kernel
theorem dX10_mostAt_2 : decode cX10_mostAt 2 = .ok (.getfield 26, 3) := by decide +kernel
theorem dX10_mostAt_5 : decode cX10_mostAt 5 = .ok (.iload_n 1, 1) := by decide +kernel
theorem dX10_mostAt_6 : decode cX10_mostAt 6 = .ok (.invokevirtual 51, 3) := by decide +kernel
theorem dX10_mostAt_9 : decode cX10_mostAt 9 = .ok (.istore_n 2, 1) := by decide +kernel
theorem dX10_mostAt_10 : decode cX10_mostAt 10 = .ok (.aload_n 0, 1) := by decide +kernel
theorem dX10_mostAt_11 : decode cX10_mostAt 11 = .ok (.iload_n 1, 1) := by decide +kernel
theorem dX10_mostAt_12 : decode cX10_mostAt 12 = .ok (.iload_n 2, 1) := by decide +kernel
theorem dX10_mostAt_13 : decode cX10_mostAt 13 = .ok (.invokevirtual 55, 3) := by decide +kernel
theorem dX10_mostAt_16 : decode cX10_mostAt 16 = .ok (.istore_n 3, 1) := by decide +kernel
theorem dX10_mostAt_17 : decode cX10_mostAt 17 = .ok (.aload_n 0, 1) := by decide +kernel
theorem dX10_mostAt_18 : decode cX10_mostAt 18 = .ok (.iload_n 1, 1) := by decide +kernel
theorem dX10_mostAt_19 : decode cX10_mostAt 19 = .ok (.bipush (-2), 2) := by decide +kernel
theorem dX10_mostAt_21 : decode cX10_mostAt 21 = .ok (.invokevirtual 58, 3) := by decide +kernel
theorem dX10_mostAt_24 : decode cX10_mostAt 24 = .ok (.istore 4, 2) := by decide +kernel
theorem dX10_mostAt_26 : decode cX10_mostAt 26 = .ok (.iconst 0, 1) := by decide +kernel
theorem dX10_mostAt_27 : decode cX10_mostAt 27 = .ok (.istore 5, 2) := by decide +kernel
theorem dX10_mostAt_29 : decode cX10_mostAt 29 = .ok (.iload 5, 2) := by decide +kernel
theorem dX10_mostAt_31 : decode cX10_mostAt 31 = .ok (.bipush 10, 2) := by decide +kernel
theorem dX10_mostAt_33 : decode cX10_mostAt 33 = .ok (.if_icmp .ge 46, 3) := by decide +kernel
theorem dX10_mostAt_36 : decode cX10_mostAt 36 = .ok (.iload 4, 2) := by decide +kernel
theorem dX10_mostAt_38 : decode cX10_mostAt 38 = .ok (.bipush 64, 2) := by decide +kernel
theorem dX10_mostAt_40 : decode cX10_mostAt 40 = .ok (.if_icmp .ge 39, 3) := by decide +kernel
theorem dX10_mostAt_43 : decode cX10_mostAt 43 = .ok (.aload_n 0, 1) := by decide +kernel
theorem dX10_mostAt_44 : decode cX10_mostAt 44 = .ok (.iload_n 1, 1) := by decide +kernel
theorem dX10_mostAt_45 : decode cX10_mostAt 45 = .ok (.iload 4, 2) := by decide +kernel
theorem dX10_mostAt_47 : decode cX10_mostAt 47 = .ok (.invokevirtual 55, 3) := by decide +kernel
theorem dX10_mostAt_50 : decode cX10_mostAt 50 = .ok (.istore 6, 2) := by decide +kernel
theorem dX10_mostAt_52 : decode cX10_mostAt 52 = .ok (.iload 6, 2) := by decide +kernel
theorem dX10_mostAt_54 : decode cX10_mostAt 54 = .ok (.iload_n 3, 1) := by decide +kernel
theorem dX10_mostAt_55 : decode cX10_mostAt 55 = .ok (.if_icmp .le 9, 3) := by decide +kernel
theorem dX10_mostAt_58 : decode cX10_mostAt 58 = .ok (.iload 4, 2) := by decide +kernel
theorem dX10_mostAt_60 : decode cX10_mostAt 60 = .ok (.istore_n 2, 1) := by decide +kernel
theorem dX10_mostAt_61 : decode cX10_mostAt 61 = .ok (.iload 6, 2) := by decide +kernel
theorem dX10_mostAt_63 : decode cX10_mostAt 63 = .ok (.istore_n 3, 1) := by decide +kernel
theorem dX10_mostAt_64 : decode cX10_mostAt 64 = .ok (.aload_n 0, 1) := by decide +kernel
theorem dX10_mostAt_65 : decode cX10_mostAt 65 = .ok (.iload_n 1, 1) := by decide +kernel
theorem dX10_mostAt_66 : decode cX10_mostAt 66 = .ok (.iload 4, 2) := by decide +kernel
theorem dX10_mostAt_68 : decode cX10_mostAt 68 = .ok (.invokevirtual 58, 3) := by decide +kernel
theorem dX10_mostAt_71 : decode cX10_mostAt 71 = .ok (.istore 4, 2) := by decide +kernel
theorem dX10_mostAt_73 : decode cX10_mostAt 73 = .ok (.iinc 5 1, 3) := by decide +kernel
theorem dX10_mostAt_76 : decode cX10_mostAt 76 = .ok (.goto (-47), 3) := by decide +kernel
theorem dX10_mostAt_79 : decode cX10_mostAt 79 = .ok (.iload_n 2, 1) := by decide +kernel
theorem dX10_mostAt_80 : decode cX10_mostAt 80 = .ok (.ireturn, 1) := by decide +kernel
theorem dX10_nextReading_0 : decode cX10_nextReading 0 = .ok (.bipush 64, 2) := by decide +kernel
theorem dX10_nextReading_2 : decode cX10_nextReading 2 = .ok (.istore_n 3, 1) := by decide +kernel
theorem dX10_nextReading_3 : decode cX10_nextReading 3 = .ok (.iconst 0, 1) := by decide +kernel
theorem dX10_nextReading_4 : decode cX10_nextReading 4 = .ok (.istore 4, 2) := by decide +kernel
theorem dX10_nextReading_6 : decode cX10_nextReading 6 = .ok (.iload 4, 2) := by decide +kernel
theorem dX10_nextReading_8 : decode cX10_nextReading 8 = .ok (.bipush 10, 2) := by decide +kernel
theorem dX10_nextReading_10 : decode cX10_nextReading 10 = .ok (.if_icmp .ge 44, 3) := by decide +kernel
theorem dX10_nextReading_13 : decode cX10_nextReading 13 = .ok (.aload_n 0, 1) := by decide +kernel
theorem dX10_nextReading_14 : decode cX10_nextReading 14 = .ok (.getfield 30, 3) := by decide +kernel
theorem dX10_nextReading_17 : decode cX10_nextReading 17 = .ok (.iload 4, 2) := by decide +kernel
theorem dX10_nextReading_19 : decode cX10_nextReading 19 = .ok (.invokestatic 47, 3) := by decide +kernel
theorem dX10_nextReading_22 : decode cX10_nextReading 22 = .ok (.ifCond .eq 26, 3) := by decide +kernel
theorem dX10_nextReading_25 : decode cX10_nextReading 25 = .ok (.aload_n 0, 1) := by decide +kernel
theorem dX10_nextReading_26 : decode cX10_nextReading 26 = .ok (.iload 4, 2) := by decide +kernel
theorem dX10_nextReading_28 : decode cX10_nextReading 28 = .ok (.iload_n 1, 1) := by decide +kernel
theorem dX10_nextReading_29 : decode cX10_nextReading 29 = .ok (.invokevirtual 51, 3) := by decide +kernel
theorem dX10_nextReading_32 : decode cX10_nextReading 32 = .ok (.iload_n 2, 1) := by decide +kernel
theorem dX10_nextReading_33 : decode cX10_nextReading 33 = .ok (.if_icmp .le 15, 3) := by decide +kernel
theorem dX10_nextReading_36 : decode cX10_nextReading 36 = .ok (.iload_n 3, 1) := by decide +kernel
theorem dX10_nextReading_37 : decode cX10_nextReading 37 = .ok (.aload_n 0, 1) := by decide +kernel
theorem dX10_nextReading_38 : decode cX10_nextReading 38 = .ok (.iload 4, 2) := by decide +kernel
theorem dX10_nextReading_40 : decode cX10_nextReading 40 = .ok (.iload_n 1, 1) := by decide +kernel
theorem dX10_nextReading_41 : decode cX10_nextReading 41 = .ok (.invokevirtual 51, 3) := by decide +kernel
theorem dX10_nextReading_44 : decode cX10_nextReading 44 = .ok (.invokestatic 61, 3) := by decide +kernel
theorem dX10_nextReading_47 : decode cX10_nextReading 47 = .ok (.istore_n 3, 1) := by decide +kernel
theorem dX10_nextReading_48 : decode cX10_nextReading 48 = .ok (.iinc 4 1, 3) := by decide +kernel
theorem dX10_nextReading_51 : decode cX10_nextReading 51 = .ok (.goto (-45), 3) := by decide +kernel
theorem dX10_nextReading_54 : decode cX10_nextReading 54 = .ok (.iload_n 3, 1) := by decide +kernel
theorem dX10_nextReading_55 : decode cX10_nextReading 55 = .ok (.ireturn, 1) := by decide +kernel
theorem dX10_restoredText_0 : decode cX10_restoredText 0 = .ok (.aload_n 0, 1) := by decide +kernel
theorem dX10_restoredText_1 : decode cX10_restoredText 1 = .ok (.getfield 23, 3) := by decide +kernel
theorem dX10_restoredText_4 : decode cX10_restoredText 4 = .ok (.invokevirtual 66, 3) := by decide +kernel
theorem dX10_restoredText_7 : decode cX10_restoredText 7 = .ok (.iconst 0, 1) := by decide +kernel
theorem dX10_restoredText_8 : decode cX10_restoredText 8 = .ok (.istore_n 1, 1) := by decide +kernel
theorem dX10_restoredText_9 : decode cX10_restoredText 9 = .ok (.iload_n 1, 1) := by decide +kernel
theorem dX10_restoredText_10 : decode cX10_restoredText 10 = .ok (.aload_n 0, 1) := by decide +kernel
theorem dX10_restoredText_11 : decode cX10_restoredText 11 = .ok (.getfield 33, 3) := by decide +kernel
theorem dX10_restoredText_14 : decode cX10_restoredText 14 = .ok (.if_icmp .ge 28, 3) := by decide +kernel
theorem dX10_restoredText_17 : decode cX10_restoredText 17 = .ok (.aload_n 0, 1) := by decide +kernel
theorem dX10_restoredText_18 : decode cX10_restoredText 18 = .ok (.iload_n 1, 1) := by decide +kernel
theorem dX10_restoredText_19 : decode cX10_restoredText 19 = .ok (.invokevirtual 69, 3) := by decide +kernel
theorem dX10_restoredText_22 : decode cX10_restoredText 22 = .ok (.istore_n 2, 1) := by decide +kernel
theorem dX10_restoredText_23 : decode cX10_restoredText 23 = .ok (.iload_n 2, 1) := by decide +kernel
theorem dX10_restoredText_24 : decode cX10_restoredText 24 = .ok (.iconst (-1), 1) := by decide +kernel
theorem dX10_restoredText_25 : decode cX10_restoredText 25 = .ok (.if_icmp .eq 11, 3) := by decide +kernel
theorem dX10_restoredText_28 : decode cX10_restoredText 28 = .ok (.aload_n 0, 1) := by decide +kernel
theorem dX10_restoredText_29 : decode cX10_restoredText 29 = .ok (.getfield 23, 3) := by decide +kernel
theorem dX10_restoredText_32 : decode cX10_restoredText 32 = .ok (.iload_n 2, 1) := by decide +kernel
theorem dX10_restoredText_33 : decode cX10_restoredText 33 = .ok (.invokevirtual 72, 3) := by decide +kernel
theorem dX10_restoredText_36 : decode cX10_restoredText 36 = .ok (.iinc 1 1, 3) := by decide +kernel
theorem dX10_restoredText_39 : decode cX10_restoredText 39 = .ok (.goto (-30), 3) := by decide +kernel
theorem dX10_restoredText_42 : decode cX10_restoredText 42 = .ok (.aload_n 0, 1) := by decide +kernel
theorem dX10_restoredText_43 : decode cX10_restoredText 43 = .ok (.getfield 23, 3) := by decide +kernel
theorem dX10_restoredText_46 : decode cX10_restoredText 46 = .ok (.areturn, 1) := by decide +kernel
theorem dX10_findGroups_0 : decode cX10_findGroups 0 = .ok (.aload_n 0, 1) := by decide +kernel
theorem dX10_findGroups_1 : decode cX10_findGroups 1 = .ok (.getfield 20, 3) := by decide +kernel
theorem dX10_findGroups_4 : decode cX10_findGroups 4 = .ok (.invokevirtual 66, 3) := by decide +kernel
theorem dX10_findGroups_7 : decode cX10_findGroups 7 = .ok (.iconst 0, 1) := by decide +kernel
theorem dX10_findGroups_8 : decode cX10_findGroups 8 = .ok (.istore_n 1, 1) := by decide +kernel
theorem dX10_findGroups_9 : decode cX10_findGroups 9 = .ok (.iload_n 1, 1) := by decide +kernel
theorem dX10_findGroups_10 : decode cX10_findGroups 10 = .ok (.aload_n 0, 1) := by decide +kernel
theorem dX10_findGroups_11 : decode cX10_findGroups 11 = .ok (.getfield 33, 3) := by decide +kernel
theorem dX10_findGroups_14 : decode cX10_findGroups 14 = .ok (.if_icmp .ge 107, 3) := by decide +kernel
theorem dX10_findGroups_17 : decode cX10_findGroups 17 = .ok (.aload_n 0, 1) := by decide +kernel
theorem dX10_findGroups_18 : decode cX10_findGroups 18 = .ok (.iload_n 1, 1) := by decide +kernel
theorem dX10_findGroups_19 : decode cX10_findGroups 19 = .ok (.bipush (-2), 2) := by decide +kernel
theorem dX10_findGroups_21 : decode cX10_findGroups 21 = .ok (.invokevirtual 58, 3) := by decide +kernel
theorem dX10_findGroups_24 : decode cX10_findGroups 24 = .ok (.istore_n 2, 1) := by decide +kernel
theorem dX10_findGroups_25 : decode cX10_findGroups 25 = .ok (.iconst 0, 1) := by decide +kernel
theorem dX10_findGroups_26 : decode cX10_findGroups 26 = .ok (.istore_n 3, 1) := by decide +kernel
theorem dX10_findGroups_27 : decode cX10_findGroups 27 = .ok (.iload_n 3, 1) := by decide +kernel
theorem dX10_findGroups_28 : decode cX10_findGroups 28 = .ok (.bipush 10, 2) := by decide +kernel
theorem dX10_findGroups_30 : decode cX10_findGroups 30 = .ok (.if_icmp .ge 85, 3) := by decide +kernel
theorem dX10_findGroups_33 : decode cX10_findGroups 33 = .ok (.iload_n 2, 1) := by decide +kernel
theorem dX10_findGroups_34 : decode cX10_findGroups 34 = .ok (.bipush 64, 2) := by decide +kernel
theorem dX10_findGroups_36 : decode cX10_findGroups 36 = .ok (.if_icmp .ge 79, 3) := by decide +kernel
theorem dX10_findGroups_39 : decode cX10_findGroups 39 = .ok (.aload_n 0, 1) := by decide +kernel
theorem dX10_findGroups_40 : decode cX10_findGroups 40 = .ok (.iload_n 1, 1) := by decide +kernel
theorem dX10_findGroups_41 : decode cX10_findGroups 41 = .ok (.iload_n 2, 1) := by decide +kernel
theorem dX10_findGroups_42 : decode cX10_findGroups 42 = .ok (.invokevirtual 75, 3) := by decide +kernel
theorem dX10_findGroups_45 : decode cX10_findGroups 45 = .ok (.istore 4, 2) := by decide +kernel
theorem dX10_findGroups_47 : decode cX10_findGroups 47 = .ok (.iload_n 2, 1) := by decide +kernel
theorem dX10_findGroups_48 : decode cX10_findGroups 48 = .ok (.aload_n 0, 1) := by decide +kernel
theorem dX10_findGroups_49 : decode cX10_findGroups 49 = .ok (.aload_n 0, 1) := by decide +kernel
theorem dX10_findGroups_50 : decode cX10_findGroups 50 = .ok (.getfield 26, 3) := by decide +kernel
theorem dX10_findGroups_53 : decode cX10_findGroups 53 = .ok (.iload_n 1, 1) := by decide +kernel
theorem dX10_findGroups_54 : decode cX10_findGroups 54 = .ok (.invokevirtual 51, 3) := by decide +kernel
theorem dX10_findGroups_57 : decode cX10_findGroups 57 = .ok (.if_icmp .eq 7, 3) := by decide +kernel
theorem dX10_findGroups_60 : decode cX10_findGroups 60 = .ok (.iconst 1, 1) := by decide +kernel
theorem dX10_findGroups_61 : decode cX10_findGroups 61 = .ok (.goto 4, 3) := by decide +kernel
theorem dX10_findGroups_64 : decode cX10_findGroups 64 = .ok (.iconst 0, 1) := by decide +kernel
theorem dX10_findGroups_65 : decode cX10_findGroups 65 = .ok (.istore 5, 2) := by decide +kernel
theorem dX10_findGroups_67 : decode cX10_findGroups 67 = .ok (.iload 5, 2) := by decide +kernel
theorem dX10_findGroups_69 : decode cX10_findGroups 69 = .ok (.ifCond .eq 33, 3) := by decide +kernel
theorem dX10_findGroups_72 : decode cX10_findGroups 72 = .ok (.iload 4, 2) := by decide +kernel
theorem dX10_findGroups_74 : decode cX10_findGroups 74 = .ok (.invokestatic 78, 3) := by decide +kernel
theorem dX10_findGroups_77 : decode cX10_findGroups 77 = .ok (.iconst 2, 1) := by decide +kernel
theorem dX10_findGroups_78 : decode cX10_findGroups 78 = .ok (.if_icmp .lt 24, 3) := by decide +kernel
theorem dX10_findGroups_81 : decode cX10_findGroups 81 = .ok (.aload_n 0, 1) := by decide +kernel
theorem dX10_findGroups_82 : decode cX10_findGroups 82 = .ok (.getfield 20, 3) := by decide +kernel
theorem dX10_findGroups_85 : decode cX10_findGroups 85 = .ok (.iload 4, 2) := by decide +kernel
theorem dX10_findGroups_87 : decode cX10_findGroups 87 = .ok (.invokevirtual 83, 3) := by decide +kernel
theorem dX10_findGroups_90 : decode cX10_findGroups 90 = .ok (.ifCond .ne 12, 3) := by decide +kernel
theorem dX10_findGroups_93 : decode cX10_findGroups 93 = .ok (.aload_n 0, 1) := by decide +kernel
theorem dX10_findGroups_94 : decode cX10_findGroups 94 = .ok (.getfield 20, 3) := by decide +kernel
theorem dX10_findGroups_97 : decode cX10_findGroups 97 = .ok (.iload 4, 2) := by decide +kernel
theorem dX10_findGroups_99 : decode cX10_findGroups 99 = .ok (.invokevirtual 72, 3) := by decide +kernel
theorem dX10_findGroups_102 : decode cX10_findGroups 102 = .ok (.aload_n 0, 1) := by decide +kernel
theorem dX10_findGroups_103 : decode cX10_findGroups 103 = .ok (.iload_n 1, 1) := by decide +kernel
theorem dX10_findGroups_104 : decode cX10_findGroups 104 = .ok (.iload_n 2, 1) := by decide +kernel
theorem dX10_findGroups_105 : decode cX10_findGroups 105 = .ok (.invokevirtual 58, 3) := by decide +kernel
theorem dX10_findGroups_108 : decode cX10_findGroups 108 = .ok (.istore_n 2, 1) := by decide +kernel
theorem dX10_findGroups_109 : decode cX10_findGroups 109 = .ok (.iinc 3 1, 3) := by decide +kernel
theorem dX10_findGroups_112 : decode cX10_findGroups 112 = .ok (.goto (-85), 3) := by decide +kernel
theorem dX10_findGroups_115 : decode cX10_findGroups 115 = .ok (.iinc 1 1, 3) := by decide +kernel
theorem dX10_findGroups_118 : decode cX10_findGroups 118 = .ok (.goto (-109), 3) := by decide +kernel
theorem dX10_findGroups_121 : decode cX10_findGroups 121 = .ok (.aload_n 0, 1) := by decide +kernel
theorem dX10_findGroups_122 : decode cX10_findGroups 122 = .ok (.getfield 20, 3) := by decide +kernel
theorem dX10_findGroups_125 : decode cX10_findGroups 125 = .ok (.areturn, 1) := by decide +kernel
theorem dX10_membersOf_0 : decode cX10_membersOf 0 = .ok (.iconst 0, 1) := by decide +kernel
theorem dX10_membersOf_1 : decode cX10_membersOf 1 = .ok (.istore_n 3, 1) := by decide +kernel
theorem dX10_membersOf_2 : decode cX10_membersOf 2 = .ok (.iconst 0, 1) := by decide +kernel
theorem dX10_membersOf_3 : decode cX10_membersOf 3 = .ok (.istore 4, 2) := by decide +kernel
theorem dX10_membersOf_5 : decode cX10_membersOf 5 = .ok (.iload 4, 2) := by decide +kernel
theorem dX10_membersOf_7 : decode cX10_membersOf 7 = .ok (.bipush 10, 2) := by decide +kernel
theorem dX10_membersOf_9 : decode cX10_membersOf 9 = .ok (.if_icmp .ge 39, 3) := by decide +kernel
theorem dX10_membersOf_12 : decode cX10_membersOf 12 = .ok (.aload_n 0, 1) := by decide +kernel
theorem dX10_membersOf_13 : decode cX10_membersOf 13 = .ok (.getfield 30, 3) := by decide +kernel
theorem dX10_membersOf_16 : decode cX10_membersOf 16 = .ok (.iload 4, 2) := by decide +kernel
theorem dX10_membersOf_18 : decode cX10_membersOf 18 = .ok (.invokestatic 47, 3) := by decide +kernel
theorem dX10_membersOf_21 : decode cX10_membersOf 21 = .ok (.ifCond .eq 21, 3) := by decide +kernel
theorem dX10_membersOf_24 : decode cX10_membersOf 24 = .ok (.aload_n 0, 1) := by decide +kernel
theorem dX10_membersOf_25 : decode cX10_membersOf 25 = .ok (.iload 4, 2) := by decide +kernel
theorem dX10_membersOf_27 : decode cX10_membersOf 27 = .ok (.iload_n 1, 1) := by decide +kernel
theorem dX10_membersOf_28 : decode cX10_membersOf 28 = .ok (.invokevirtual 51, 3) := by decide +kernel
theorem dX10_membersOf_31 : decode cX10_membersOf 31 = .ok (.iload_n 2, 1) := by decide +kernel
theorem dX10_membersOf_32 : decode cX10_membersOf 32 = .ok (.if_icmp .ne 10, 3) := by decide +kernel
theorem dX10_membersOf_35 : decode cX10_membersOf 35 = .ok (.iload_n 3, 1) := by decide +kernel
theorem dX10_membersOf_36 : decode cX10_membersOf 36 = .ok (.iconst 1, 1) := by decide +kernel
theorem dX10_membersOf_37 : decode cX10_membersOf 37 = .ok (.iload 4, 2) := by decide +kernel
theorem dX10_membersOf_39 : decode cX10_membersOf 39 = .ok (.ishl, 1) := by decide +kernel
theorem dX10_membersOf_40 : decode cX10_membersOf 40 = .ok (.ior, 1) := by decide +kernel
theorem dX10_membersOf_41 : decode cX10_membersOf 41 = .ok (.istore_n 3, 1) := by decide +kernel
theorem dX10_membersOf_42 : decode cX10_membersOf 42 = .ok (.iinc 4 1, 3) := by decide +kernel
theorem dX10_membersOf_45 : decode cX10_membersOf 45 = .ok (.goto (-40), 3) := by decide +kernel
theorem dX10_membersOf_48 : decode cX10_membersOf 48 = .ok (.iload_n 3, 1) := by decide +kernel
theorem dX10_membersOf_49 : decode cX10_membersOf 49 = .ok (.ireturn, 1) := by decide +kernel
theorem dX10_doClash_0 : decode cX10_doClash 0 = .ok (.iload_n 0, 1) := by decide +kernel
theorem dX10_doClash_1 : decode cX10_doClash 1 = .ok (.iload_n 1, 1) := by decide +kernel
theorem dX10_doClash_2 : decode cX10_doClash 2 = .ok (.iand, 1) := by decide +kernel
theorem dX10_doClash_3 : decode cX10_doClash 3 = .ok (.ifCond .eq 23, 3) := by decide +kernel
theorem dX10_doClash_6 : decode cX10_doClash 6 = .ok (.iload_n 0, 1) := by decide +kernel
theorem dX10_doClash_7 : decode cX10_doClash 7 = .ok (.iload_n 1, 1) := by decide +kernel
theorem dX10_doClash_8 : decode cX10_doClash 8 = .ok (.iconst (-1), 1) := by decide +kernel
theorem dX10_doClash_9 : decode cX10_doClash 9 = .ok (.ixor, 1) := by decide +kernel
theorem dX10_doClash_10 : decode cX10_doClash 10 = .ok (.iand, 1) := by decide +kernel
theorem dX10_doClash_11 : decode cX10_doClash 11 = .ok (.ifCond .eq 15, 3) := by decide +kernel
theorem dX10_doClash_14 : decode cX10_doClash 14 = .ok (.iload_n 1, 1) := by decide +kernel
theorem dX10_doClash_15 : decode cX10_doClash 15 = .ok (.iload_n 0, 1) := by decide +kernel
theorem dX10_doClash_16 : decode cX10_doClash 16 = .ok (.iconst (-1), 1) := by decide +kernel
theorem dX10_doClash_17 : decode cX10_doClash 17 = .ok (.ixor, 1) := by decide +kernel
theorem dX10_doClash_18 : decode cX10_doClash 18 = .ok (.iand, 1) := by decide +kernel
theorem dX10_doClash_19 : decode cX10_doClash 19 = .ok (.ifCond .eq 7, 3) := by decide +kernel
theorem dX10_doClash_22 : decode cX10_doClash 22 = .ok (.iconst 1, 1) := by decide +kernel
theorem dX10_doClash_23 : decode cX10_doClash 23 = .ok (.goto 4, 3) := by decide +kernel
theorem dX10_doClash_26 : decode cX10_doClash 26 = .ok (.iconst 0, 1) := by decide +kernel
theorem dX10_doClash_27 : decode cX10_doClash 27 = .ok (.ireturn, 1) := by decide +kernel
theorem dX10_clashingPairs_0 : decode cX10_clashingPairs 0 = .ok (.iconst 0, 1) := by decide +kernel
theorem dX10_clashingPairs_1 : decode cX10_clashingPairs 1 = .ok (.istore_n 1, 1) := by decide +kernel
theorem dX10_clashingPairs_2 : decode cX10_clashingPairs 2 = .ok (.iconst 0, 1) := by decide +kernel
theorem dX10_clashingPairs_3 : decode cX10_clashingPairs 3 = .ok (.istore_n 2, 1) := by decide +kernel
theorem dX10_clashingPairs_4 : decode cX10_clashingPairs 4 = .ok (.iload_n 2, 1) := by decide +kernel
theorem dX10_clashingPairs_5 : decode cX10_clashingPairs 5 = .ok (.aload_n 0, 1) := by decide +kernel
theorem dX10_clashingPairs_6 : decode cX10_clashingPairs 6 = .ok (.getfield 20, 3) := by decide +kernel
theorem dX10_clashingPairs_9 : decode cX10_clashingPairs 9 = .ok (.invokevirtual 87, 3) := by decide +kernel
theorem dX10_clashingPairs_12 : decode cX10_clashingPairs 12 = .ok (.if_icmp .ge 47, 3) := by decide +kernel
theorem dX10_clashingPairs_15 : decode cX10_clashingPairs 15 = .ok (.iconst 0, 1) := by decide +kernel
theorem dX10_clashingPairs_16 : decode cX10_clashingPairs 16 = .ok (.istore_n 3, 1) := by decide +kernel
theorem dX10_clashingPairs_17 : decode cX10_clashingPairs 17 = .ok (.iload_n 3, 1) := by decide +kernel
theorem dX10_clashingPairs_18 : decode cX10_clashingPairs 18 = .ok (.iload_n 2, 1) := by decide +kernel
theorem dX10_clashingPairs_19 : decode cX10_clashingPairs 19 = .ok (.if_icmp .ge 34, 3) := by decide +kernel
theorem dX10_clashingPairs_22 : decode cX10_clashingPairs 22 = .ok (.aload_n 0, 1) := by decide +kernel
theorem dX10_clashingPairs_23 : decode cX10_clashingPairs 23 = .ok (.getfield 20, 3) := by decide +kernel
theorem dX10_clashingPairs_26 : decode cX10_clashingPairs 26 = .ok (.iload_n 2, 1) := by decide +kernel
theorem dX10_clashingPairs_27 : decode cX10_clashingPairs 27 = .ok (.invokevirtual 43, 3) := by decide +kernel
theorem dX10_clashingPairs_30 : decode cX10_clashingPairs 30 = .ok (.aload_n 0, 1) := by decide +kernel
theorem dX10_clashingPairs_31 : decode cX10_clashingPairs 31 = .ok (.getfield 20, 3) := by decide +kernel
theorem dX10_clashingPairs_34 : decode cX10_clashingPairs 34 = .ok (.iload_n 3, 1) := by decide +kernel
theorem dX10_clashingPairs_35 : decode cX10_clashingPairs 35 = .ok (.invokevirtual 43, 3) := by decide +kernel
theorem dX10_clashingPairs_38 : decode cX10_clashingPairs 38 = .ok (.invokestatic 91, 3) := by decide +kernel
theorem dX10_clashingPairs_41 : decode cX10_clashingPairs 41 = .ok (.ifCond .eq 6, 3) := by decide +kernel
theorem dX10_clashingPairs_44 : decode cX10_clashingPairs 44 = .ok (.iinc 1 1, 3) := by decide +kernel
theorem dX10_clashingPairs_47 : decode cX10_clashingPairs 47 = .ok (.iinc 3 1, 3) := by decide +kernel
theorem dX10_clashingPairs_50 : decode cX10_clashingPairs 50 = .ok (.goto (-33), 3) := by decide +kernel
theorem dX10_clashingPairs_53 : decode cX10_clashingPairs 53 = .ok (.iinc 2 1, 3) := by decide +kernel
theorem dX10_clashingPairs_56 : decode cX10_clashingPairs 56 = .ok (.goto (-52), 3) := by decide +kernel
theorem dX10_clashingPairs_59 : decode cX10_clashingPairs 59 = .ok (.iload_n 1, 1) := by decide +kernel
theorem dX10_clashingPairs_60 : decode cX10_clashingPairs 60 = .ok (.ireturn, 1) := by decide +kernel
theorem dX10_soundGroups_0 : decode cX10_soundGroups 0 = .ok (.aload_n 0, 1) := by decide +kernel
theorem dX10_soundGroups_1 : decode cX10_soundGroups 1 = .ok (.getfield 23, 3) := by decide +kernel
theorem dX10_soundGroups_4 : decode cX10_soundGroups 4 = .ok (.invokevirtual 66, 3) := by decide +kernel
theorem dX10_soundGroups_7 : decode cX10_soundGroups 7 = .ok (.iconst 0, 1) := by decide +kernel
theorem dX10_soundGroups_8 : decode cX10_soundGroups 8 = .ok (.istore_n 1, 1) := by decide +kernel
theorem dX10_soundGroups_9 : decode cX10_soundGroups 9 = .ok (.iload_n 1, 1) := by decide +kernel
theorem dX10_soundGroups_10 : decode cX10_soundGroups 10 = .ok (.aload_n 0, 1) := by decide +kernel
theorem dX10_soundGroups_11 : decode cX10_soundGroups 11 = .ok (.getfield 20, 3) := by decide +kernel
theorem dX10_soundGroups_14 : decode cX10_soundGroups 14 = .ok (.invokevirtual 87, 3) := by decide +kernel
theorem dX10_soundGroups_17 : decode cX10_soundGroups 17 = .ok (.if_icmp .ge 39, 3) := by decide +kernel
theorem dX10_soundGroups_20 : decode cX10_soundGroups 20 = .ok (.aload_n 0, 1) := by decide +kernel
theorem dX10_soundGroups_21 : decode cX10_soundGroups 21 = .ok (.aload_n 0, 1) := by decide +kernel
theorem dX10_soundGroups_22 : decode cX10_soundGroups 22 = .ok (.getfield 20, 3) := by decide +kernel
theorem dX10_soundGroups_25 : decode cX10_soundGroups 25 = .ok (.iload_n 1, 1) := by decide +kernel
theorem dX10_soundGroups_26 : decode cX10_soundGroups 26 = .ok (.invokevirtual 43, 3) := by decide +kernel
theorem dX10_soundGroups_29 : decode cX10_soundGroups 29 = .ok (.invokevirtual 94, 3) := by decide +kernel
theorem dX10_soundGroups_32 : decode cX10_soundGroups 32 = .ok (.ifCond .eq 18, 3) := by decide +kernel
theorem dX10_soundGroups_35 : decode cX10_soundGroups 35 = .ok (.aload_n 0, 1) := by decide +kernel
theorem dX10_soundGroups_36 : decode cX10_soundGroups 36 = .ok (.getfield 23, 3) := by decide +kernel
theorem dX10_soundGroups_39 : decode cX10_soundGroups 39 = .ok (.aload_n 0, 1) := by decide +kernel
theorem dX10_soundGroups_40 : decode cX10_soundGroups 40 = .ok (.getfield 20, 3) := by decide +kernel
theorem dX10_soundGroups_43 : decode cX10_soundGroups 43 = .ok (.iload_n 1, 1) := by decide +kernel
theorem dX10_soundGroups_44 : decode cX10_soundGroups 44 = .ok (.invokevirtual 43, 3) := by decide +kernel
theorem dX10_soundGroups_47 : decode cX10_soundGroups 47 = .ok (.invokevirtual 72, 3) := by decide +kernel
theorem dX10_soundGroups_50 : decode cX10_soundGroups 50 = .ok (.iinc 1 1, 3) := by decide +kernel
theorem dX10_soundGroups_53 : decode cX10_soundGroups 53 = .ok (.goto (-44), 3) := by decide +kernel
theorem dX10_soundGroups_56 : decode cX10_soundGroups 56 = .ok (.aload_n 0, 1) := by decide +kernel
theorem dX10_soundGroups_57 : decode cX10_soundGroups 57 = .ok (.getfield 23, 3) := by decide +kernel
theorem dX10_soundGroups_60 : decode cX10_soundGroups 60 = .ok (.areturn, 1) := by decide +kernel
theorem dX10_isSound_0 : decode cX10_isSound 0 = .ok (.iconst 0, 1) := by decide +kernel
theorem dX10_isSound_1 : decode cX10_isSound 1 = .ok (.istore_n 2, 1) := by decide +kernel
theorem dX10_isSound_2 : decode cX10_isSound 2 = .ok (.iload_n 2, 1) := by decide +kernel
theorem dX10_isSound_3 : decode cX10_isSound 3 = .ok (.aload_n 0, 1) := by decide +kernel
theorem dX10_isSound_4 : decode cX10_isSound 4 = .ok (.getfield 20, 3) := by decide +kernel
theorem dX10_isSound_7 : decode cX10_isSound 7 = .ok (.invokevirtual 87, 3) := by decide +kernel
theorem dX10_isSound_10 : decode cX10_isSound 10 = .ok (.if_icmp .ge 26, 3) := by decide +kernel
theorem dX10_isSound_13 : decode cX10_isSound 13 = .ok (.iload_n 1, 1) := by decide +kernel
theorem dX10_isSound_14 : decode cX10_isSound 14 = .ok (.aload_n 0, 1) := by decide +kernel
theorem dX10_isSound_15 : decode cX10_isSound 15 = .ok (.getfield 20, 3) := by decide +kernel
theorem dX10_isSound_18 : decode cX10_isSound 18 = .ok (.iload_n 2, 1) := by decide +kernel
theorem dX10_isSound_19 : decode cX10_isSound 19 = .ok (.invokevirtual 43, 3) := by decide +kernel
theorem dX10_isSound_22 : decode cX10_isSound 22 = .ok (.invokestatic 91, 3) := by decide +kernel
theorem dX10_isSound_25 : decode cX10_isSound 25 = .ok (.ifCond .eq 5, 3) := by decide +kernel
theorem dX10_isSound_28 : decode cX10_isSound 28 = .ok (.iconst 0, 1) := by decide +kernel
theorem dX10_isSound_29 : decode cX10_isSound 29 = .ok (.ireturn, 1) := by decide +kernel
theorem dX10_isSound_30 : decode cX10_isSound 30 = .ok (.iinc 2 1, 3) := by decide +kernel
theorem dX10_isSound_33 : decode cX10_isSound 33 = .ok (.goto (-31), 3) := by decide +kernel
theorem dX10_isSound_36 : decode cX10_isSound 36 = .ok (.iconst 1, 1) := by decide +kernel
theorem dX10_isSound_37 : decode cX10_isSound 37 = .ok (.ireturn, 1) := by decide +kernel
theorem dX11_init_0 : decode cX11_init 0 = .ok (.aload_n 0, 1) := by decide +kernel
theorem dX11_init_1 : decode cX11_init 1 = .ok (.invokespecial 1, 3) := by decide +kernel
theorem dX11_init_4 : decode cX11_init 4 = .ok (.aload_n 0, 1) := by decide +kernel
theorem dX11_init_5 : decode cX11_init 5 = .ok (.bipush 10, 2) := by decide +kernel
theorem dX11_init_7 : decode cX11_init 7 = .ok (.anewarray 9, 3) := by decide +kernel
theorem dX11_init_10 : decode cX11_init 10 = .ok (.putfield 11, 3) := by decide +kernel
theorem dX11_init_13 : decode cX11_init 13 = .ok (.aload_n 0, 1) := by decide +kernel
theorem dX11_init_14 : decode cX11_init 14 = .ok (.iconst 4, 1) := by decide +kernel
theorem dX11_init_15 : decode cX11_init 15 = .ok (.anewarray 15, 3) := by decide +kernel
theorem dX11_init_18 : decode cX11_init 18 = .ok (.putfield 17, 3) := by decide +kernel
theorem dX11_init_21 : decode cX11_init 21 = .ok (.aload_n 0, 1) := by decide +kernel
theorem dX11_init_22 : decode cX11_init 22 = .ok (.new 15, 3) := by decide +kernel
theorem dX11_init_25 : decode cX11_init 25 = .ok (.dup, 1) := by decide +kernel
theorem dX11_init_26 : decode cX11_init 26 = .ok (.invokespecial 21, 3) := by decide +kernel
theorem dX11_init_29 : decode cX11_init 29 = .ok (.putfield 22, 3) := by decide +kernel
theorem dX11_init_32 : decode cX11_init 32 = .ok (.aload_n 0, 1) := by decide +kernel
theorem dX11_init_33 : decode cX11_init 33 = .ok (.new 26, 3) := by decide +kernel
theorem dX11_init_36 : decode cX11_init 36 = .ok (.dup, 1) := by decide +kernel
theorem dX11_init_37 : decode cX11_init 37 = .ok (.invokespecial 28, 3) := by decide +kernel
theorem dX11_init_40 : decode cX11_init 40 = .ok (.putfield 29, 3) := by decide +kernel
theorem dX11_init_43 : decode cX11_init 43 = .ok (.aload_n 0, 1) := by decide +kernel
theorem dX11_init_44 : decode cX11_init 44 = .ok (.new 33, 3) := by decide +kernel
theorem dX11_init_47 : decode cX11_init 47 = .ok (.dup, 1) := by decide +kernel
theorem dX11_init_48 : decode cX11_init 48 = .ok (.invokespecial 35, 3) := by decide +kernel
theorem dX11_init_51 : decode cX11_init 51 = .ok (.putfield 36, 3) := by decide +kernel
theorem dX11_init_54 : decode cX11_init 54 = .ok (.aload_n 0, 1) := by decide +kernel
theorem dX11_init_55 : decode cX11_init 55 = .ok (.new 40, 3) := by decide +kernel
theorem dX11_init_58 : decode cX11_init 58 = .ok (.dup, 1) := by decide +kernel
theorem dX11_init_59 : decode cX11_init 59 = .ok (.invokespecial 42, 3) := by decide +kernel
theorem dX11_init_62 : decode cX11_init 62 = .ok (.putfield 43, 3) := by decide +kernel
theorem dX11_init_65 : decode cX11_init 65 = .ok (.aload_n 0, 1) := by decide +kernel
theorem dX11_init_66 : decode cX11_init 66 = .ok (.new 47, 3) := by decide +kernel
theorem dX11_init_69 : decode cX11_init 69 = .ok (.dup, 1) := by decide +kernel
theorem dX11_init_70 : decode cX11_init 70 = .ok (.invokespecial 49, 3) := by decide +kernel
theorem dX11_init_73 : decode cX11_init 73 = .ok (.putfield 50, 3) := by decide +kernel
theorem dX11_init_76 : decode cX11_init 76 = .ok (.aload_n 0, 1) := by decide +kernel
theorem dX11_init_77 : decode cX11_init 77 = .ok (.new 54, 3) := by decide +kernel
theorem dX11_init_80 : decode cX11_init 80 = .ok (.dup, 1) := by decide +kernel
theorem dX11_init_81 : decode cX11_init 81 = .ok (.invokespecial 56, 3) := by decide +kernel
theorem dX11_init_84 : decode cX11_init 84 = .ok (.putfield 57, 3) := by decide +kernel
theorem dX11_init_87 : decode cX11_init 87 = .ok (.aload_n 0, 1) := by decide +kernel
theorem dX11_init_88 : decode cX11_init 88 = .ok (.new 61, 3) := by decide +kernel
theorem dX11_init_91 : decode cX11_init 91 = .ok (.dup, 1) := by decide +kernel
theorem dX11_init_92 : decode cX11_init 92 = .ok (.invokespecial 63, 3) := by decide +kernel
theorem dX11_init_95 : decode cX11_init 95 = .ok (.putfield 64, 3) := by decide +kernel
theorem dX11_init_98 : decode cX11_init 98 = .ok (.aload_n 0, 1) := by decide +kernel
theorem dX11_init_99 : decode cX11_init 99 = .ok (.new 68, 3) := by decide +kernel
theorem dX11_init_102 : decode cX11_init 102 = .ok (.dup, 1) := by decide +kernel
theorem dX11_init_103 : decode cX11_init 103 = .ok (.sipush 700, 3) := by decide +kernel
theorem dX11_init_106 : decode cX11_init 106 = .ok (.invokespecial 70, 3) := by decide +kernel
theorem dX11_init_109 : decode cX11_init 109 = .ok (.putfield 73, 3) := by decide +kernel
theorem dX11_init_112 : decode cX11_init 112 = .ok (.aload_n 0, 1) := by decide +kernel
theorem dX11_init_113 : decode cX11_init 113 = .ok (.iconst 0, 1) := by decide +kernel
theorem dX11_init_114 : decode cX11_init 114 = .ok (.putfield 77, 3) := by decide +kernel
theorem dX11_init_117 : decode cX11_init 117 = .ok (.aload_n 0, 1) := by decide +kernel
theorem dX11_init_118 : decode cX11_init 118 = .ok (.iconst (-1), 1) := by decide +kernel
theorem dX11_init_119 : decode cX11_init 119 = .ok (.putfield 81, 3) := by decide +kernel
theorem dX11_init_122 : decode cX11_init 122 = .ok (.iconst 0, 1) := by decide +kernel
theorem dX11_init_123 : decode cX11_init 123 = .ok (.istore_n 1, 1) := by decide +kernel
theorem dX11_init_124 : decode cX11_init 124 = .ok (.iload_n 1, 1) := by decide +kernel
theorem dX11_init_125 : decode cX11_init 125 = .ok (.aload_n 0, 1) := by decide +kernel
theorem dX11_init_126 : decode cX11_init 126 = .ok (.getfield 11, 3) := by decide +kernel
theorem dX11_init_129 : decode cX11_init 129 = .ok (.arraylength, 1) := by decide +kernel
theorem dX11_init_130 : decode cX11_init 130 = .ok (.if_icmp .ge 22, 3) := by decide +kernel
theorem dX11_init_133 : decode cX11_init 133 = .ok (.aload_n 0, 1) := by decide +kernel
theorem dX11_init_134 : decode cX11_init 134 = .ok (.getfield 11, 3) := by decide +kernel
theorem dX11_init_137 : decode cX11_init 137 = .ok (.iload_n 1, 1) := by decide +kernel
theorem dX11_init_138 : decode cX11_init 138 = .ok (.new 9, 3) := by decide +kernel
theorem dX11_init_141 : decode cX11_init 141 = .ok (.dup, 1) := by decide +kernel
theorem dX11_init_142 : decode cX11_init 142 = .ok (.invokespecial 84, 3) := by decide +kernel
theorem dX11_init_145 : decode cX11_init 145 = .ok (.aastore, 1) := by decide +kernel
theorem dX11_init_146 : decode cX11_init 146 = .ok (.iinc 1 1, 3) := by decide +kernel
theorem dX11_init_149 : decode cX11_init 149 = .ok (.goto (-25), 3) := by decide +kernel
theorem dX11_init_152 : decode cX11_init 152 = .ok (.iconst 0, 1) := by decide +kernel
theorem dX11_init_153 : decode cX11_init 153 = .ok (.istore_n 1, 1) := by decide +kernel
theorem dX11_init_154 : decode cX11_init 154 = .ok (.iload_n 1, 1) := by decide +kernel
theorem dX11_init_155 : decode cX11_init 155 = .ok (.aload_n 0, 1) := by decide +kernel
theorem dX11_init_156 : decode cX11_init 156 = .ok (.getfield 17, 3) := by decide +kernel
theorem dX11_init_159 : decode cX11_init 159 = .ok (.arraylength, 1) := by decide +kernel
theorem dX11_init_160 : decode cX11_init 160 = .ok (.if_icmp .ge 22, 3) := by decide +kernel
theorem dX11_init_163 : decode cX11_init 163 = .ok (.aload_n 0, 1) := by decide +kernel
theorem dX11_init_164 : decode cX11_init 164 = .ok (.getfield 17, 3) := by decide +kernel
theorem dX11_init_167 : decode cX11_init 167 = .ok (.iload_n 1, 1) := by decide +kernel
theorem dX11_init_168 : decode cX11_init 168 = .ok (.new 15, 3) := by decide +kernel
theorem dX11_init_171 : decode cX11_init 171 = .ok (.dup, 1) := by decide +kernel
theorem dX11_init_172 : decode cX11_init 172 = .ok (.invokespecial 21, 3) := by decide +kernel
theorem dX11_init_175 : decode cX11_init 175 = .ok (.aastore, 1) := by decide +kernel
theorem dX11_init_176 : decode cX11_init 176 = .ok (.iinc 1 1, 3) := by decide +kernel
theorem dX11_init_179 : decode cX11_init 179 = .ok (.goto (-25), 3) := by decide +kernel
theorem dX11_init_182 : decode cX11_init 182 = .ok (.return_, 1) := by decide +kernel
theorem dX11_feed_0 : decode cX11_feed 0 = .ok (.iload_n 1, 1) := by decide +kernel
theorem dX11_feed_1 : decode cX11_feed 1 = .ok (.iconst 1, 1) := by decide +kernel
theorem dX11_feed_2 : decode cX11_feed 2 = .ok (.if_icmp .lt 9, 3) := by decide +kernel
theorem dX11_feed_5 : decode cX11_feed 5 = .ok (.iload_n 1, 1) := by decide +kernel
theorem dX11_feed_6 : decode cX11_feed 6 = .ok (.bipush 8, 2) := by decide +kernel
theorem dX11_feed_8 : decode cX11_feed 8 = .ok (.if_icmp .le 7, 3) := by decide +kernel
theorem dX11_feed_11 : decode cX11_feed 11 = .ok (.sipush (-1002), 3) := by decide +kernel
theorem dX11_feed_14 : decode cX11_feed 14 = .ok (.ireturn, 1) := by decide +kernel
theorem dX11_feed_15 : decode cX11_feed 15 = .ok (.aload_n 0, 1) := by decide +kernel
theorem dX11_feed_16 : decode cX11_feed 16 = .ok (.getfield 29, 3) := by decide +kernel
theorem dX11_feed_19 : decode cX11_feed 19 = .ok (.getfield 85, 3) := by decide +kernel
theorem dX11_feed_22 : decode cX11_feed 22 = .ok (.invokevirtual 88, 3) := by decide +kernel
theorem dX11_feed_25 : decode cX11_feed 25 = .ok (.iload_n 1, 1) := by decide +kernel
theorem dX11_feed_26 : decode cX11_feed 26 = .ok (.iadd, 1) := by decide +kernel
theorem dX11_feed_27 : decode cX11_feed 27 = .ok (.sipush 320, 3) := by decide +kernel
theorem dX11_feed_30 : decode cX11_feed 30 = .ok (.if_icmp .le 7, 3) := by decide +kernel
theorem dX11_feed_33 : decode cX11_feed 33 = .ok (.sipush (-1004), 3) := by decide +kernel
theorem dX11_feed_36 : decode cX11_feed 36 = .ok (.ireturn, 1) := by decide +kernel
theorem dX11_feed_37 : decode cX11_feed 37 = .ok (.iload_n 1, 1) := by decide +kernel
theorem dX11_feed_38 : decode cX11_feed 38 = .ok (.iconst 1, 1) := by decide +kernel
theorem dX11_feed_39 : decode cX11_feed 39 = .ok (.isub, 1) := by decide +kernel
theorem dX11_feed_40 : decode cX11_feed 40 = .ok (.istore 4, 2) := by decide +kernel
theorem dX11_feed_42 : decode cX11_feed 42 = .ok (.iload 4, 2) := by decide +kernel
theorem dX11_feed_44 : decode cX11_feed 44 = .ok (.ifCond .lt 31, 3) := by decide +kernel
theorem dX11_feed_47 : decode cX11_feed 47 = .ok (.aload_n 0, 1) := by decide +kernel
theorem dX11_feed_48 : decode cX11_feed 48 = .ok (.getfield 29, 3) := by decide +kernel
theorem dX11_feed_51 : decode cX11_feed 51 = .ok (.getfield 85, 3) := by decide +kernel
theorem dX11_feed_54 : decode cX11_feed 54 = .ok (.lload_n 2, 1) := by decide +kernel
theorem dX11_feed_55 : decode cX11_feed 55 = .ok (.bipush 8, 2) := by decide +kernel
theorem dX11_feed_57 : decode cX11_feed 57 = .ok (.iload 4, 2) := by decide +kernel
theorem dX11_feed_59 : decode cX11_feed 59 = .ok (.imul, 1) := by decide +kernel
theorem dX11_feed_60 : decode cX11_feed 60 = .ok (.lushr, 1) := by decide +kernel
theorem dX11_feed_61 : decode cX11_feed 61 = .ok (.l2i, 1) := by decide +kernel
theorem dX11_feed_62 : decode cX11_feed 62 = .ok (.sipush 255, 3) := by decide +kernel
theorem dX11_feed_65 : decode cX11_feed 65 = .ok (.iand, 1) := by decide +kernel
theorem dX11_feed_66 : decode cX11_feed 66 = .ok (.invokevirtual 92, 3) := by decide +kernel
theorem dX11_feed_69 : decode cX11_feed 69 = .ok (.iinc 4 (-1), 3) := by decide +kernel
theorem dX11_feed_72 : decode cX11_feed 72 = .ok (.goto (-30), 3) := by decide +kernel
theorem dX11_feed_75 : decode cX11_feed 75 = .ok (.aload_n 0, 1) := by decide +kernel
theorem dX11_feed_76 : decode cX11_feed 76 = .ok (.getfield 29, 3) := by decide +kernel
theorem dX11_feed_79 : decode cX11_feed 79 = .ok (.getfield 85, 3) := by decide +kernel
theorem dX11_feed_82 : decode cX11_feed 82 = .ok (.invokevirtual 88, 3) := by decide +kernel
theorem dX11_feed_85 : decode cX11_feed 85 = .ok (.ireturn, 1) := by decide +kernel
theorem dX11_book_0 : decode cX11_book 0 = .ok (.aload_n 0, 1) := by decide +kernel
theorem dX11_book_1 : decode cX11_book 1 = .ok (.invokevirtual 95, 3) := by decide +kernel
theorem dX11_book_4 : decode cX11_book 4 = .ok (.astore_n 1, 1) := by decide +kernel
theorem dX11_book_5 : decode cX11_book 5 = .ok (.aload_n 1, 1) := by decide +kernel
theorem dX11_book_6 : decode cX11_book 6 = .ok (.ifnonnull 7, 3) := by decide +kernel
theorem dX11_book_9 : decode cX11_book 9 = .ok (.sipush (-1004), 3) := by decide +kernel
theorem dX11_book_12 : decode cX11_book 12 = .ok (.ireturn, 1) := by decide +kernel
theorem dX11_book_13 : decode cX11_book 13 = .ok (.aload_n 0, 1) := by decide +kernel
theorem dX11_book_14 : decode cX11_book 14 = .ok (.getfield 36, 3) := by decide +kernel
theorem dX11_book_17 : decode cX11_book 17 = .ok (.aload_n 0, 1) := by decide +kernel
theorem dX11_book_18 : decode cX11_book 18 = .ok (.getfield 29, 3) := by decide +kernel
theorem dX11_book_21 : decode cX11_book 21 = .ok (.aload_n 1, 1) := by decide +kernel
theorem dX11_book_22 : decode cX11_book 22 = .ok (.invokevirtual 99, 3) := by decide +kernel
theorem dX11_book_25 : decode cX11_book 25 = .ok (.aload_n 0, 1) := by decide +kernel
theorem dX11_book_26 : decode cX11_book 26 = .ok (.invokevirtual 103, 3) := by decide +kernel
theorem dX11_book_29 : decode cX11_book 29 = .ok (.ifCond .eq 14, 3) := by decide +kernel
theorem dX11_book_32 : decode cX11_book 32 = .ok (.bipush (-10), 2) := by decide +kernel
theorem dX11_book_34 : decode cX11_book 34 = .ok (.aload_n 0, 1) := by decide +kernel
theorem dX11_book_35 : decode cX11_book 35 = .ok (.getfield 29, 3) := by decide +kernel
theorem dX11_book_38 : decode cX11_book 38 = .ok (.getfield 106, 3) := by decide +kernel
theorem dX11_book_41 : decode cX11_book 41 = .ok (.isub, 1) := by decide +kernel
theorem dX11_book_42 : decode cX11_book 42 = .ok (.ireturn, 1) := by decide +kernel
theorem dX11_book_43 : decode cX11_book 43 = .ok (.aload_n 0, 1) := by decide +kernel
theorem dX11_book_44 : decode cX11_book 44 = .ok (.dup, 1) := by decide +kernel
theorem dX11_book_45 : decode cX11_book 45 = .ok (.getfield 77, 3) := by decide +kernel
theorem dX11_book_48 : decode cX11_book 48 = .ok (.iconst 1, 1) := by decide +kernel
theorem dX11_book_49 : decode cX11_book 49 = .ok (.iadd, 1) := by decide +kernel
theorem dX11_book_50 : decode cX11_book 50 = .ok (.putfield 77, 3) := by decide +kernel
theorem dX11_book_53 : decode cX11_book 53 = .ok (.aload_n 0, 1) := by decide +kernel
theorem dX11_book_54 : decode cX11_book 54 = .ok (.getfield 77, 3) := by decide +kernel
theorem dX11_book_57 : decode cX11_book 57 = .ok (.iconst 1, 1) := by decide +kernel
theorem dX11_book_58 : decode cX11_book 58 = .ok (.isub, 1) := by decide +kernel
theorem dX11_book_59 : decode cX11_book 59 = .ok (.ireturn, 1) := by decide +kernel
theorem dX11_hand_0 : decode cX11_hand 0 = .ok (.aload_n 0, 1) := by decide +kernel
theorem dX11_hand_1 : decode cX11_hand 1 = .ok (.iload_n 1, 1) := by decide +kernel
theorem dX11_hand_2 : decode cX11_hand 2 = .ok (.invokevirtual 109, 3) := by decide +kernel
theorem dX11_hand_5 : decode cX11_hand 5 = .ok (.astore_n 2, 1) := by decide +kernel
theorem dX11_hand_6 : decode cX11_hand 6 = .ok (.aload_n 2, 1) := by decide +kernel
theorem dX11_hand_7 : decode cX11_hand 7 = .ok (.ifnonnull 7, 3) := by decide +kernel
theorem dX11_hand_10 : decode cX11_hand 10 = .ok (.sipush (-1001), 3) := by decide +kernel
theorem dX11_hand_13 : decode cX11_hand 13 = .ok (.ireturn, 1) := by decide +kernel
theorem dX11_hand_14 : decode cX11_hand 14 = .ok (.aload_n 0, 1) := by decide +kernel
theorem dX11_hand_15 : decode cX11_hand 15 = .ok (.getfield 29, 3) := by decide +kernel
theorem dX11_hand_18 : decode cX11_hand 18 = .ok (.getfield 85, 3) := by decide +kernel
theorem dX11_hand_21 : decode cX11_hand 21 = .ok (.invokevirtual 88, 3) := by decide +kernel
theorem dX11_hand_24 : decode cX11_hand 24 = .ok (.sipush 160, 3) := by decide +kernel
theorem dX11_hand_27 : decode cX11_hand 27 = .ok (.if_icmp .le 7, 3) := by decide +kernel
theorem dX11_hand_30 : decode cX11_hand 30 = .ok (.sipush (-1002), 3) := by decide +kernel
theorem dX11_hand_33 : decode cX11_hand 33 = .ok (.ireturn, 1) := by decide +kernel
theorem dX11_hand_34 : decode cX11_hand 34 = .ok (.aload_n 0, 1) := by decide +kernel
theorem dX11_hand_35 : decode cX11_hand 35 = .ok (.getfield 29, 3) := by decide +kernel
theorem dX11_hand_38 : decode cX11_hand 38 = .ok (.aload_n 0, 1) := by decide +kernel
theorem dX11_hand_39 : decode cX11_hand 39 = .ok (.getfield 22, 3) := by decide +kernel
theorem dX11_hand_42 : decode cX11_hand 42 = .ok (.invokestatic 113, 3) := by decide +kernel
theorem dX11_hand_45 : decode cX11_hand 45 = .ok (.aload_n 0, 1) := by decide +kernel
theorem dX11_hand_46 : decode cX11_hand 46 = .ok (.invokevirtual 103, 3) := by decide +kernel
theorem dX11_hand_49 : decode cX11_hand 49 = .ok (.ifCond .eq 14, 3) := by decide +kernel
theorem dX11_hand_52 : decode cX11_hand 52 = .ok (.bipush (-10), 2) := by decide +kernel
theorem dX11_hand_54 : decode cX11_hand 54 = .ok (.aload_n 0, 1) := by decide +kernel
theorem dX11_hand_55 : decode cX11_hand 55 = .ok (.getfield 29, 3) := by decide +kernel
theorem dX11_hand_58 : decode cX11_hand 58 = .ok (.getfield 106, 3) := by decide +kernel
theorem dX11_hand_61 : decode cX11_hand 61 = .ok (.isub, 1) := by decide +kernel
theorem dX11_hand_62 : decode cX11_hand 62 = .ok (.ireturn, 1) := by decide +kernel
theorem dX11_hand_63 : decode cX11_hand 63 = .ok (.aload_n 2, 1) := by decide +kernel
theorem dX11_hand_64 : decode cX11_hand 64 = .ok (.aload_n 0, 1) := by decide +kernel
theorem dX11_hand_65 : decode cX11_hand 65 = .ok (.getfield 22, 3) := by decide +kernel
theorem dX11_hand_68 : decode cX11_hand 68 = .ok (.invokevirtual 119, 3) := by decide +kernel
theorem dX11_hand_71 : decode cX11_hand 71 = .ok (.aload_n 2, 1) := by decide +kernel
theorem dX11_hand_72 : decode cX11_hand 72 = .ok (.invokevirtual 123, 3) := by decide +kernel
theorem dX11_hand_75 : decode cX11_hand 75 = .ok (.ireturn, 1) := by decide +kernel
theorem dX11_fault_0 : decode cX11_fault 0 = .ok (.aload_n 0, 1) := by decide +kernel
theorem dX11_fault_1 : decode cX11_fault 1 = .ok (.getfield 81, 3) := by decide +kernel
theorem dX11_fault_4 : decode cX11_fault 4 = .ok (.ireturn, 1) := by decide +kernel
theorem dX11_habit_0 : decode cX11_habit 0 = .ok (.aload_n 0, 1) := by decide +kernel
theorem dX11_habit_1 : decode cX11_habit 1 = .ok (.iload_n 1, 1) := by decide +kernel
theorem dX11_habit_2 : decode cX11_habit 2 = .ok (.invokevirtual 109, 3) := by decide +kernel
theorem dX11_habit_5 : decode cX11_habit 5 = .ok (.astore_n 3, 1) := by decide +kernel
theorem dX11_habit_6 : decode cX11_habit 6 = .ok (.aload_n 3, 1) := by decide +kernel
