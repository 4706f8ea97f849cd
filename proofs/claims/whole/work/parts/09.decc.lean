theorem dX11_habit_7 : decode cX11_habit 7 = .ok (.ifnonnull 7, 3) := by decide +kernel
theorem dX11_habit_10 : decode cX11_habit 10 = .ok (.sipush (-1001), 3) := by decide +kernel
theorem dX11_habit_13 : decode cX11_habit 13 = .ok (.ireturn, 1) := by decide +kernel
theorem dX11_habit_14 : decode cX11_habit 14 = .ok (.iload_n 2, 1) := by decide +kernel
theorem dX11_habit_15 : decode cX11_habit 15 = .ok (.ifCond .ne 11, 3) := by decide +kernel
theorem dX11_habit_18 : decode cX11_habit 18 = .ok (.aload_n 3, 1) := by decide +kernel
theorem dX11_habit_19 : decode cX11_habit 19 = .ok (.getfield 126, 3) := by decide +kernel
theorem dX11_habit_22 : decode cX11_habit 22 = .ok (.invokevirtual 88, 3) := by decide +kernel
theorem dX11_habit_25 : decode cX11_habit 25 = .ok (.ireturn, 1) := by decide +kernel
theorem dX11_habit_26 : decode cX11_habit 26 = .ok (.iload_n 2, 1) := by decide +kernel
theorem dX11_habit_27 : decode cX11_habit 27 = .ok (.iconst 1, 1) := by decide +kernel
theorem dX11_habit_28 : decode cX11_habit 28 = .ok (.if_icmp .lt 17, 3) := by decide +kernel
theorem dX11_habit_31 : decode cX11_habit 31 = .ok (.iload_n 2, 1) := by decide +kernel
theorem dX11_habit_32 : decode cX11_habit 32 = .ok (.iconst 5, 1) := by decide +kernel
theorem dX11_habit_33 : decode cX11_habit 33 = .ok (.if_icmp .gt 12, 3) := by decide +kernel
theorem dX11_habit_36 : decode cX11_habit 36 = .ok (.aload_n 3, 1) := by decide +kernel
theorem dX11_habit_37 : decode cX11_habit 37 = .ok (.getfield 129, 3) := by decide +kernel
theorem dX11_habit_40 : decode cX11_habit 40 = .ok (.iload_n 2, 1) := by decide +kernel
theorem dX11_habit_41 : decode cX11_habit 41 = .ok (.invokevirtual 132, 3) := by decide +kernel
theorem dX11_habit_44 : decode cX11_habit 44 = .ok (.ireturn, 1) := by decide +kernel
theorem dX11_habit_45 : decode cX11_habit 45 = .ok (.iload_n 2, 1) := by decide +kernel
theorem dX11_habit_46 : decode cX11_habit 46 = .ok (.bipush 6, 2) := by decide +kernel
theorem dX11_habit_48 : decode cX11_habit 48 = .ok (.if_icmp .ne 8, 3) := by decide +kernel
theorem dX11_habit_51 : decode cX11_habit 51 = .ok (.aload_n 3, 1) := by decide +kernel
theorem dX11_habit_52 : decode cX11_habit 52 = .ok (.getfield 136, 3) := by decide +kernel
theorem dX11_habit_55 : decode cX11_habit 55 = .ok (.ireturn, 1) := by decide +kernel
theorem dX11_habit_56 : decode cX11_habit 56 = .ok (.iload_n 2, 1) := by decide +kernel
theorem dX11_habit_57 : decode cX11_habit 57 = .ok (.bipush 7, 2) := by decide +kernel
theorem dX11_habit_59 : decode cX11_habit 59 = .ok (.if_icmp .ne 10, 3) := by decide +kernel
theorem dX11_habit_62 : decode cX11_habit 62 = .ok (.aload_n 3, 1) := by decide +kernel
theorem dX11_habit_63 : decode cX11_habit 63 = .ok (.getfield 139, 3) := by decide +kernel
theorem dX11_habit_66 : decode cX11_habit 66 = .ok (.goto 6, 3) := by decide +kernel
theorem dX11_habit_69 : decode cX11_habit 69 = .ok (.sipush (-1002), 3) := by decide +kernel
theorem dX11_habit_72 : decode cX11_habit 72 = .ok (.ireturn, 1) := by decide +kernel
theorem dX11_copy_0 : decode cX11_copy 0 = .ok (.aload_n 0, 1) := by decide +kernel
theorem dX11_copy_1 : decode cX11_copy 1 = .ok (.iload_n 1, 1) := by decide +kernel
theorem dX11_copy_2 : decode cX11_copy 2 = .ok (.invokevirtual 142, 3) := by decide +kernel
theorem dX11_copy_5 : decode cX11_copy 5 = .ok (.astore_n 3, 1) := by decide +kernel
theorem dX11_copy_6 : decode cX11_copy 6 = .ok (.aload_n 0, 1) := by decide +kernel
theorem dX11_copy_7 : decode cX11_copy 7 = .ok (.iload_n 2, 1) := by decide +kernel
theorem dX11_copy_8 : decode cX11_copy 8 = .ok (.invokevirtual 109, 3) := by decide +kernel
theorem dX11_copy_11 : decode cX11_copy 11 = .ok (.astore 4, 2) := by decide +kernel
theorem dX11_copy_13 : decode cX11_copy 13 = .ok (.aload_n 3, 1) := by decide +kernel
theorem dX11_copy_14 : decode cX11_copy 14 = .ok (.ifnull 8, 3) := by decide +kernel
theorem dX11_copy_17 : decode cX11_copy 17 = .ok (.aload 4, 2) := by decide +kernel
theorem dX11_copy_19 : decode cX11_copy 19 = .ok (.ifnonnull 7, 3) := by decide +kernel
theorem dX11_copy_22 : decode cX11_copy 22 = .ok (.sipush (-1001), 3) := by decide +kernel
theorem dX11_copy_25 : decode cX11_copy 25 = .ok (.ireturn, 1) := by decide +kernel
theorem dX11_copy_26 : decode cX11_copy 26 = .ok (.aload_n 0, 1) := by decide +kernel
theorem dX11_copy_27 : decode cX11_copy 27 = .ok (.invokevirtual 95, 3) := by decide +kernel
theorem dX11_copy_30 : decode cX11_copy 30 = .ok (.astore 5, 2) := by decide +kernel
theorem dX11_copy_32 : decode cX11_copy 32 = .ok (.aload 5, 2) := by decide +kernel
theorem dX11_copy_34 : decode cX11_copy 34 = .ok (.ifnonnull 7, 3) := by decide +kernel
theorem dX11_copy_37 : decode cX11_copy 37 = .ok (.sipush (-1004), 3) := by decide +kernel
theorem dX11_copy_40 : decode cX11_copy 40 = .ok (.ireturn, 1) := by decide +kernel
theorem dX11_copy_41 : decode cX11_copy 41 = .ok (.aload 5, 2) := by decide +kernel
theorem dX11_copy_43 : decode cX11_copy 43 = .ok (.aload_n 3, 1) := by decide +kernel
theorem dX11_copy_44 : decode cX11_copy 44 = .ok (.invokevirtual 146, 3) := by decide +kernel
theorem dX11_copy_47 : decode cX11_copy 47 = .ok (.aload 5, 2) := by decide +kernel
theorem dX11_copy_49 : decode cX11_copy 49 = .ok (.iload_n 1, 1) := by decide +kernel
theorem dX11_copy_50 : decode cX11_copy 50 = .ok (.putfield 149, 3) := by decide +kernel
theorem dX11_copy_53 : decode cX11_copy 53 = .ok (.aload 5, 2) := by decide +kernel
theorem dX11_copy_55 : decode cX11_copy 55 = .ok (.iload_n 2, 1) := by decide +kernel
theorem dX11_copy_56 : decode cX11_copy 56 = .ok (.putfield 152, 3) := by decide +kernel
theorem dX11_copy_59 : decode cX11_copy 59 = .ok (.aload_n 0, 1) := by decide +kernel
theorem dX11_copy_60 : decode cX11_copy 60 = .ok (.getfield 43, 3) := by decide +kernel
theorem dX11_copy_63 : decode cX11_copy 63 = .ok (.aload 5, 2) := by decide +kernel
theorem dX11_copy_65 : decode cX11_copy 65 = .ok (.aload 4, 2) := by decide +kernel
theorem dX11_copy_67 : decode cX11_copy 67 = .ok (.invokevirtual 154, 3) := by decide +kernel
theorem dX11_copy_70 : decode cX11_copy 70 = .ok (.aload_n 0, 1) := by decide +kernel
theorem dX11_copy_71 : decode cX11_copy 71 = .ok (.dup, 1) := by decide +kernel
theorem dX11_copy_72 : decode cX11_copy 72 = .ok (.getfield 77, 3) := by decide +kernel
theorem dX11_copy_75 : decode cX11_copy 75 = .ok (.iconst 1, 1) := by decide +kernel
theorem dX11_copy_76 : decode cX11_copy 76 = .ok (.iadd, 1) := by decide +kernel
theorem dX11_copy_77 : decode cX11_copy 77 = .ok (.putfield 77, 3) := by decide +kernel
theorem dX11_copy_80 : decode cX11_copy 80 = .ok (.aload_n 0, 1) := by decide +kernel
theorem dX11_copy_81 : decode cX11_copy 81 = .ok (.getfield 77, 3) := by decide +kernel
theorem dX11_copy_84 : decode cX11_copy 84 = .ok (.iconst 1, 1) := by decide +kernel
theorem dX11_copy_85 : decode cX11_copy 85 = .ok (.isub, 1) := by decide +kernel
theorem dX11_copy_86 : decode cX11_copy 86 = .ok (.ireturn, 1) := by decide +kernel
theorem dX11_taken_0 : decode cX11_taken 0 = .ok (.aload_n 0, 1) := by decide +kernel
theorem dX11_taken_1 : decode cX11_taken 1 = .ok (.iload_n 1, 1) := by decide +kernel
theorem dX11_taken_2 : decode cX11_taken 2 = .ok (.invokevirtual 142, 3) := by decide +kernel
theorem dX11_taken_5 : decode cX11_taken 5 = .ok (.astore 4, 2) := by decide +kernel
theorem dX11_taken_7 : decode cX11_taken 7 = .ok (.aload 4, 2) := by decide +kernel
theorem dX11_taken_9 : decode cX11_taken 9 = .ok (.ifnonnull 7, 3) := by decide +kernel
theorem dX11_taken_12 : decode cX11_taken 12 = .ok (.sipush (-1001), 3) := by decide +kernel
theorem dX11_taken_15 : decode cX11_taken 15 = .ok (.ireturn, 1) := by decide +kernel
theorem dX11_taken_16 : decode cX11_taken 16 = .ok (.iload_n 2, 1) := by decide +kernel
theorem dX11_taken_17 : decode cX11_taken 17 = .ok (.ifCond .lt 8, 3) := by decide +kernel
theorem dX11_taken_20 : decode cX11_taken 20 = .ok (.iload_n 2, 1) := by decide +kernel
theorem dX11_taken_21 : decode cX11_taken 21 = .ok (.iconst 5, 1) := by decide +kernel
theorem dX11_taken_22 : decode cX11_taken 22 = .ok (.if_icmp .le 7, 3) := by decide +kernel
theorem dX11_taken_25 : decode cX11_taken 25 = .ok (.sipush (-1002), 3) := by decide +kernel
theorem dX11_taken_28 : decode cX11_taken 28 = .ok (.ireturn, 1) := by decide +kernel
theorem dX11_taken_29 : decode cX11_taken 29 = .ok (.aload 4, 2) := by decide +kernel
theorem dX11_taken_31 : decode cX11_taken 31 = .ok (.getfield 149, 3) := by decide +kernel
theorem dX11_taken_34 : decode cX11_taken 34 = .ok (.iconst (-1), 1) := by decide +kernel
theorem dX11_taken_35 : decode cX11_taken 35 = .ok (.if_icmp .ne 7, 3) := by decide +kernel
theorem dX11_taken_38 : decode cX11_taken 38 = .ok (.sipush (-1003), 3) := by decide +kernel
theorem dX11_taken_41 : decode cX11_taken 41 = .ok (.ireturn, 1) := by decide +kernel
theorem dX11_taken_42 : decode cX11_taken 42 = .ok (.iload_n 3, 1) := by decide +kernel
theorem dX11_taken_43 : decode cX11_taken 43 = .ok (.ifCond .eq 15, 3) := by decide +kernel
theorem dX11_taken_46 : decode cX11_taken 46 = .ok (.aload 4, 2) := by decide +kernel
theorem dX11_taken_48 : decode cX11_taken 48 = .ok (.getfield 158, 3) := by decide +kernel
theorem dX11_taken_51 : decode cX11_taken 51 = .ok (.iload_n 2, 1) := by decide +kernel
theorem dX11_taken_52 : decode cX11_taken 52 = .ok (.invokevirtual 132, 3) := by decide +kernel
theorem dX11_taken_55 : decode cX11_taken 55 = .ok (.goto 12, 3) := by decide +kernel
theorem dX11_taken_58 : decode cX11_taken 58 = .ok (.aload 4, 2) := by decide +kernel
theorem dX11_taken_60 : decode cX11_taken 60 = .ok (.getfield 161, 3) := by decide +kernel
theorem dX11_taken_63 : decode cX11_taken 63 = .ok (.iload_n 2, 1) := by decide +kernel
theorem dX11_taken_64 : decode cX11_taken 64 = .ok (.invokevirtual 132, 3) := by decide +kernel
theorem dX11_taken_67 : decode cX11_taken 67 = .ok (.ireturn, 1) := by decide +kernel
theorem dX11_amend_0 : decode cX11_amend 0 = .ok (.aload_n 0, 1) := by decide +kernel
theorem dX11_amend_1 : decode cX11_amend 1 = .ok (.iload_n 1, 1) := by decide +kernel
theorem dX11_amend_2 : decode cX11_amend 2 = .ok (.invokevirtual 142, 3) := by decide +kernel
theorem dX11_amend_5 : decode cX11_amend 5 = .ok (.astore 4, 2) := by decide +kernel
theorem dX11_amend_7 : decode cX11_amend 7 = .ok (.aload 4, 2) := by decide +kernel
theorem dX11_amend_9 : decode cX11_amend 9 = .ok (.ifnonnull 7, 3) := by decide +kernel
theorem dX11_amend_12 : decode cX11_amend 12 = .ok (.sipush (-1001), 3) := by decide +kernel
theorem dX11_amend_15 : decode cX11_amend 15 = .ok (.ireturn, 1) := by decide +kernel
theorem dX11_amend_16 : decode cX11_amend 16 = .ok (.aload 4, 2) := by decide +kernel
theorem dX11_amend_18 : decode cX11_amend 18 = .ok (.getfield 164, 3) := by decide +kernel
theorem dX11_amend_21 : decode cX11_amend 21 = .ok (.iload_n 2, 1) := by decide +kernel
theorem dX11_amend_22 : decode cX11_amend 22 = .ok (.invokevirtual 167, 3) := by decide +kernel
theorem dX11_amend_25 : decode cX11_amend 25 = .ok (.ifCond .eq 10, 3) := by decide +kernel
theorem dX11_amend_28 : decode cX11_amend 28 = .ok (.iload_n 3, 1) := by decide +kernel
theorem dX11_amend_29 : decode cX11_amend 29 = .ok (.invokestatic 171, 3) := by decide +kernel
theorem dX11_amend_32 : decode cX11_amend 32 = .ok (.ifCond .ne 7, 3) := by decide +kernel
theorem dX11_amend_35 : decode cX11_amend 35 = .ok (.sipush (-1002), 3) := by decide +kernel
theorem dX11_amend_38 : decode cX11_amend 38 = .ok (.ireturn, 1) := by decide +kernel
theorem dX11_amend_39 : decode cX11_amend 39 = .ok (.aload 4, 2) := by decide +kernel
theorem dX11_amend_41 : decode cX11_amend 41 = .ok (.getfield 164, 3) := by decide +kernel
theorem dX11_amend_44 : decode cX11_amend 44 = .ok (.iload_n 2, 1) := by decide +kernel
theorem dX11_amend_45 : decode cX11_amend 45 = .ok (.invokevirtual 132, 3) := by decide +kernel
theorem dX11_amend_48 : decode cX11_amend 48 = .ok (.istore 5, 2) := by decide +kernel
theorem dX11_amend_50 : decode cX11_amend 50 = .ok (.aload 4, 2) := by decide +kernel
theorem dX11_amend_52 : decode cX11_amend 52 = .ok (.getfield 164, 3) := by decide +kernel
theorem dX11_amend_55 : decode cX11_amend 55 = .ok (.iload_n 2, 1) := by decide +kernel
theorem dX11_amend_56 : decode cX11_amend 56 = .ok (.iload_n 3, 1) := by decide +kernel
theorem dX11_amend_57 : decode cX11_amend 57 = .ok (.invokevirtual 174, 3) := by decide +kernel
theorem dX11_amend_60 : decode cX11_amend 60 = .ok (.iload 5, 2) := by decide +kernel
theorem dX11_amend_62 : decode cX11_amend 62 = .ok (.ireturn, 1) := by decide +kernel
theorem dX11_lift_0 : decode cX11_lift 0 = .ok (.aload_n 0, 1) := by decide +kernel
theorem dX11_lift_1 : decode cX11_lift 1 = .ok (.iload_n 1, 1) := by decide +kernel
theorem dX11_lift_2 : decode cX11_lift 2 = .ok (.invokevirtual 142, 3) := by decide +kernel
theorem dX11_lift_5 : decode cX11_lift 5 = .ok (.astore_n 3, 1) := by decide +kernel
theorem dX11_lift_6 : decode cX11_lift 6 = .ok (.aload_n 3, 1) := by decide +kernel
theorem dX11_lift_7 : decode cX11_lift 7 = .ok (.ifnull 11, 3) := by decide +kernel
theorem dX11_lift_10 : decode cX11_lift 10 = .ok (.aload_n 3, 1) := by decide +kernel
theorem dX11_lift_11 : decode cX11_lift 11 = .ok (.iload_n 2, 1) := by decide +kernel
theorem dX11_lift_12 : decode cX11_lift 12 = .ok (.invokevirtual 178, 3) := by decide +kernel
theorem dX11_lift_15 : decode cX11_lift 15 = .ok (.ifnonnull 7, 3) := by decide +kernel
theorem dX11_lift_18 : decode cX11_lift 18 = .ok (.sipush (-1001), 3) := by decide +kernel
theorem dX11_lift_21 : decode cX11_lift 21 = .ok (.ireturn, 1) := by decide +kernel
theorem dX11_lift_22 : decode cX11_lift 22 = .ok (.aload_n 3, 1) := by decide +kernel
theorem dX11_lift_23 : decode cX11_lift 23 = .ok (.getfield 182, 3) := by decide +kernel
theorem dX11_lift_26 : decode cX11_lift 26 = .ok (.istore 4, 2) := by decide +kernel
theorem dX11_lift_28 : decode cX11_lift 28 = .ok (.aload_n 3, 1) := by decide +kernel
theorem dX11_lift_29 : decode cX11_lift 29 = .ok (.iload_n 2, 1) := by decide +kernel
theorem dX11_lift_30 : decode cX11_lift 30 = .ok (.invokevirtual 185, 3) := by decide +kernel
theorem dX11_lift_33 : decode cX11_lift 33 = .ok (.aload_n 3, 1) := by decide +kernel
theorem dX11_lift_34 : decode cX11_lift 34 = .ok (.invokevirtual 188, 3) := by decide +kernel
theorem dX11_lift_37 : decode cX11_lift 37 = .ok (.iload 4, 2) := by decide +kernel
theorem dX11_lift_39 : decode cX11_lift 39 = .ok (.aload_n 3, 1) := by decide +kernel
theorem dX11_lift_40 : decode cX11_lift 40 = .ok (.getfield 182, 3) := by decide +kernel
theorem dX11_lift_43 : decode cX11_lift 43 = .ok (.isub, 1) := by decide +kernel
theorem dX11_lift_44 : decode cX11_lift 44 = .ok (.ireturn, 1) := by decide +kernel
theorem dX11_print_0 : decode cX11_print 0 = .ok (.aload_n 0, 1) := by decide +kernel
theorem dX11_print_1 : decode cX11_print 1 = .ok (.iload_n 1, 1) := by decide +kernel
theorem dX11_print_2 : decode cX11_print 2 = .ok (.invokevirtual 142, 3) := by decide +kernel
theorem dX11_print_5 : decode cX11_print 5 = .ok (.astore_n 3, 1) := by decide +kernel
theorem dX11_print_6 : decode cX11_print 6 = .ok (.aload_n 3, 1) := by decide +kernel
theorem dX11_print_7 : decode cX11_print 7 = .ok (.ifnonnull 7, 3) := by decide +kernel
theorem dX11_print_10 : decode cX11_print 10 = .ok (.sipush (-1001), 3) := by decide +kernel
theorem dX11_print_13 : decode cX11_print 13 = .ok (.ireturn, 1) := by decide +kernel
theorem dX11_print_14 : decode cX11_print 14 = .ok (.aload_n 3, 1) := by decide +kernel
theorem dX11_print_15 : decode cX11_print 15 = .ok (.aload_n 0, 1) := by decide +kernel
theorem dX11_print_16 : decode cX11_print 16 = .ok (.getfield 73, 3) := by decide +kernel
theorem dX11_print_19 : decode cX11_print 19 = .ok (.invokevirtual 191, 3) := by decide +kernel
theorem dX11_print_22 : decode cX11_print 22 = .ok (.iload_n 2, 1) := by decide +kernel
theorem dX11_print_23 : decode cX11_print 23 = .ok (.iconst (-1), 1) := by decide +kernel
theorem dX11_print_24 : decode cX11_print 24 = .ok (.if_icmp .ne 13, 3) := by decide +kernel
theorem dX11_print_27 : decode cX11_print 27 = .ok (.aload_n 0, 1) := by decide +kernel
theorem dX11_print_28 : decode cX11_print 28 = .ok (.getfield 73, 3) := by decide +kernel
theorem dX11_print_31 : decode cX11_print 31 = .ok (.invokevirtual 88, 3) := by decide +kernel
theorem dX11_print_34 : decode cX11_print 34 = .ok (.goto 11, 3) := by decide +kernel
theorem dX11_print_37 : decode cX11_print 37 = .ok (.aload_n 0, 1) := by decide +kernel
theorem dX11_print_38 : decode cX11_print 38 = .ok (.getfield 73, 3) := by decide +kernel
theorem dX11_print_41 : decode cX11_print 41 = .ok (.iload_n 2, 1) := by decide +kernel
theorem dX11_print_42 : decode cX11_print 42 = .ok (.invokevirtual 132, 3) := by decide +kernel
theorem dX11_print_45 : decode cX11_print 45 = .ok (.ireturn, 1) := by decide +kernel
theorem dX11_word_0 : decode cX11_word 0 = .ok (.aload_n 0, 1) := by decide +kernel
theorem dX11_word_1 : decode cX11_word 1 = .ok (.iload_n 1, 1) := by decide +kernel
theorem dX11_word_2 : decode cX11_word 2 = .ok (.invokevirtual 142, 3) := by decide +kernel
theorem dX11_word_5 : decode cX11_word 5 = .ok (.astore_n 3, 1) := by decide +kernel
theorem dX11_word_6 : decode cX11_word 6 = .ok (.aload_n 3, 1) := by decide +kernel
theorem dX11_word_7 : decode cX11_word 7 = .ok (.ifnonnull 9, 3) := by decide +kernel
theorem dX11_word_10 : decode cX11_word 10 = .ok (.sipush (-1001), 3) := by decide +kernel
theorem dX11_word_13 : decode cX11_word 13 = .ok (.goto 11, 3) := by decide +kernel
theorem dX11_word_16 : decode cX11_word 16 = .ok (.aload_n 3, 1) := by decide +kernel
theorem dX11_word_17 : decode cX11_word 17 = .ok (.getfield 164, 3) := by decide +kernel
theorem dX11_word_20 : decode cX11_word 20 = .ok (.iload_n 2, 1) := by decide +kernel
theorem dX11_word_21 : decode cX11_word 21 = .ok (.invokevirtual 132, 3) := by decide +kernel
theorem dX11_word_24 : decode cX11_word 24 = .ok (.ireturn, 1) := by decide +kernel
theorem dX11_about_0 : decode cX11_about 0 = .ok (.aload_n 0, 1) := by decide +kernel
theorem dX11_about_1 : decode cX11_about 1 = .ok (.iload_n 1, 1) := by decide +kernel
theorem dX11_about_2 : decode cX11_about 2 = .ok (.invokevirtual 142, 3) := by decide +kernel
theorem dX11_about_5 : decode cX11_about 5 = .ok (.astore_n 3, 1) := by decide +kernel
theorem dX11_about_6 : decode cX11_about 6 = .ok (.aload_n 3, 1) := by decide +kernel
theorem dX11_about_7 : decode cX11_about 7 = .ok (.ifnonnull 7, 3) := by decide +kernel
theorem dX11_about_10 : decode cX11_about 10 = .ok (.sipush (-1001), 3) := by decide +kernel
theorem dX11_about_13 : decode cX11_about 13 = .ok (.ireturn, 1) := by decide +kernel
theorem dX11_about_14 : decode cX11_about 14 = .ok (.iload_n 2, 1) := by decide +kernel
theorem dX11_about_15 : decode cX11_about 15 = .ok (.tableswitch 88 0 7 #[45, 53, 58, 63, 68, 73, 78, 83], 45) := by decide +kernel
theorem dX11_about_60 : decode cX11_about 60 = .ok (.aload_n 3, 1) := by decide +kernel
theorem dX11_about_61 : decode cX11_about 61 = .ok (.getfield 164, 3) := by decide +kernel
theorem dX11_about_64 : decode cX11_about 64 = .ok (.invokevirtual 88, 3) := by decide +kernel
theorem dX11_about_67 : decode cX11_about 67 = .ok (.ireturn, 1) := by decide +kernel
theorem dX11_about_68 : decode cX11_about 68 = .ok (.aload_n 3, 1) := by decide +kernel
theorem dX11_about_69 : decode cX11_about 69 = .ok (.getfield 182, 3) := by decide +kernel
theorem dX11_about_72 : decode cX11_about 72 = .ok (.ireturn, 1) := by decide +kernel
theorem dX11_about_73 : decode cX11_about 73 = .ok (.aload_n 3, 1) := by decide +kernel
theorem dX11_about_74 : decode cX11_about 74 = .ok (.invokevirtual 195, 3) := by decide +kernel
theorem dX11_about_77 : decode cX11_about 77 = .ok (.ireturn, 1) := by decide +kernel
theorem dX11_about_78 : decode cX11_about 78 = .ok (.aload_n 3, 1) := by decide +kernel
theorem dX11_about_79 : decode cX11_about 79 = .ok (.getfield 149, 3) := by decide +kernel
theorem dX11_about_82 : decode cX11_about 82 = .ok (.ireturn, 1) := by decide +kernel
theorem dX11_about_83 : decode cX11_about 83 = .ok (.aload_n 3, 1) := by decide +kernel
theorem dX11_about_84 : decode cX11_about 84 = .ok (.getfield 152, 3) := by decide +kernel
theorem dX11_about_87 : decode cX11_about 87 = .ok (.ireturn, 1) := by decide +kernel
theorem dX11_about_88 : decode cX11_about 88 = .ok (.aload_n 3, 1) := by decide +kernel
theorem dX11_about_89 : decode cX11_about 89 = .ok (.invokevirtual 198, 3) := by decide +kernel
theorem dX11_about_92 : decode cX11_about 92 = .ok (.ireturn, 1) := by decide +kernel
theorem dX11_about_93 : decode cX11_about 93 = .ok (.aload_n 3, 1) := by decide +kernel
theorem dX11_about_94 : decode cX11_about 94 = .ok (.invokevirtual 201, 3) := by decide +kernel
theorem dX11_about_97 : decode cX11_about 97 = .ok (.ireturn, 1) := by decide +kernel
theorem dX11_about_98 : decode cX11_about 98 = .ok (.aload_n 3, 1) := by decide +kernel
theorem dX11_about_99 : decode cX11_about 99 = .ok (.invokevirtual 204, 3) := by decide +kernel
theorem dX11_about_102 : decode cX11_about 102 = .ok (.ireturn, 1) := by decide +kernel
theorem dX11_about_103 : decode cX11_about 103 = .ok (.sipush (-1002), 3) := by decide +kernel
theorem dX11_about_106 : decode cX11_about 106 = .ok (.ireturn, 1) := by decide +kernel
theorem dX11_gloss_0 : decode cX11_gloss 0 = .ok (.aload_n 0, 1) := by decide +kernel
theorem dX11_gloss_1 : decode cX11_gloss 1 = .ok (.iload_n 1, 1) := by decide +kernel
theorem dX11_gloss_2 : decode cX11_gloss 2 = .ok (.invokevirtual 142, 3) := by decide +kernel
theorem dX11_gloss_5 : decode cX11_gloss 5 = .ok (.astore 4, 2) := by decide +kernel
theorem dX11_gloss_7 : decode cX11_gloss 7 = .ok (.aload 4, 2) := by decide +kernel
theorem dX11_gloss_9 : decode cX11_gloss 9 = .ok (.ifnonnull 7, 3) := by decide +kernel
theorem dX11_gloss_12 : decode cX11_gloss 12 = .ok (.aconst_null, 1) := by decide +kernel
theorem dX11_gloss_13 : decode cX11_gloss 13 = .ok (.goto 9, 3) := by decide +kernel
theorem dX11_gloss_16 : decode cX11_gloss 16 = .ok (.aload 4, 2) := by decide +kernel
theorem dX11_gloss_18 : decode cX11_gloss 18 = .ok (.iload_n 2, 1) := by decide +kernel
theorem dX11_gloss_19 : decode cX11_gloss 19 = .ok (.invokevirtual 178, 3) := by decide +kernel
theorem dX11_gloss_22 : decode cX11_gloss 22 = .ok (.astore 5, 2) := by decide +kernel
theorem dX11_gloss_24 : decode cX11_gloss 24 = .ok (.aload 4, 2) := by decide +kernel
theorem dX11_gloss_26 : decode cX11_gloss 26 = .ok (.ifnull 8, 3) := by decide +kernel
theorem dX11_gloss_29 : decode cX11_gloss 29 = .ok (.aload 5, 2) := by decide +kernel
theorem dX11_gloss_31 : decode cX11_gloss 31 = .ok (.ifnonnull 7, 3) := by decide +kernel
theorem dX11_gloss_34 : decode cX11_gloss 34 = .ok (.sipush (-1001), 3) := by decide +kernel
theorem dX11_gloss_37 : decode cX11_gloss 37 = .ok (.ireturn, 1) := by decide +kernel
theorem dX11_gloss_38 : decode cX11_gloss 38 = .ok (.iload_n 3, 1) := by decide +kernel
theorem dX11_gloss_39 : decode cX11_gloss 39 = .ok (.tableswitch 88 0 6 #[41, 47, 53, 59, 65, 74, 81], 41) := by decide +kernel
theorem dX11_gloss_80 : decode cX11_gloss 80 = .ok (.aload 5, 2) := by decide +kernel
theorem dX11_gloss_82 : decode cX11_gloss 82 = .ok (.getfield 207, 3) := by decide +kernel
theorem dX11_gloss_85 : decode cX11_gloss 85 = .ok (.ireturn, 1) := by decide +kernel
theorem dX11_gloss_86 : decode cX11_gloss 86 = .ok (.aload 5, 2) := by decide +kernel
theorem dX11_gloss_88 : decode cX11_gloss 88 = .ok (.getfield 212, 3) := by decide +kernel
theorem dX11_gloss_91 : decode cX11_gloss 91 = .ok (.ireturn, 1) := by decide +kernel
theorem dX11_gloss_92 : decode cX11_gloss 92 = .ok (.aload 5, 2) := by decide +kernel
theorem dX11_gloss_94 : decode cX11_gloss 94 = .ok (.getfield 215, 3) := by decide +kernel
theorem dX11_gloss_97 : decode cX11_gloss 97 = .ok (.ireturn, 1) := by decide +kernel
theorem dX11_gloss_98 : decode cX11_gloss 98 = .ok (.aload 5, 2) := by decide +kernel
theorem dX11_gloss_100 : decode cX11_gloss 100 = .ok (.getfield 218, 3) := by decide +kernel
theorem dX11_gloss_103 : decode cX11_gloss 103 = .ok (.ireturn, 1) := by decide +kernel
theorem dX11_gloss_104 : decode cX11_gloss 104 = .ok (.aload 5, 2) := by decide +kernel
theorem dX11_gloss_106 : decode cX11_gloss 106 = .ok (.getfield 221, 3) := by decide +kernel
theorem dX11_gloss_109 : decode cX11_gloss 109 = .ok (.invokevirtual 88, 3) := by decide +kernel
theorem dX11_gloss_112 : decode cX11_gloss 112 = .ok (.ireturn, 1) := by decide +kernel
theorem dX11_gloss_113 : decode cX11_gloss 113 = .ok (.aload 4, 2) := by decide +kernel
theorem dX11_gloss_115 : decode cX11_gloss 115 = .ok (.iload_n 2, 1) := by decide +kernel
theorem dX11_gloss_116 : decode cX11_gloss 116 = .ok (.invokevirtual 224, 3) := by decide +kernel
theorem dX11_gloss_119 : decode cX11_gloss 119 = .ok (.ireturn, 1) := by decide +kernel
theorem dX11_gloss_120 : decode cX11_gloss 120 = .ok (.aload 4, 2) := by decide +kernel
theorem dX11_gloss_122 : decode cX11_gloss 122 = .ok (.iload_n 2, 1) := by decide +kernel
theorem dX11_gloss_123 : decode cX11_gloss 123 = .ok (.invokevirtual 227, 3) := by decide +kernel
theorem dX11_gloss_126 : decode cX11_gloss 126 = .ok (.ireturn, 1) := by decide +kernel
theorem dX11_gloss_127 : decode cX11_gloss 127 = .ok (.iload_n 3, 1) := by decide +kernel
theorem dX11_gloss_128 : decode cX11_gloss 128 = .ok (.bipush 7, 2) := by decide +kernel
theorem dX11_gloss_130 : decode cX11_gloss 130 = .ok (.if_icmp .lt 24, 3) := by decide +kernel
theorem dX11_gloss_133 : decode cX11_gloss 133 = .ok (.iload_n 3, 1) := by decide +kernel
theorem dX11_gloss_134 : decode cX11_gloss 134 = .ok (.bipush 15, 2) := by decide +kernel
theorem dX11_gloss_136 : decode cX11_gloss 136 = .ok (.if_icmp .ge 18, 3) := by decide +kernel
theorem dX11_gloss_139 : decode cX11_gloss 139 = .ok (.aload 5, 2) := by decide +kernel
theorem dX11_gloss_141 : decode cX11_gloss 141 = .ok (.getfield 221, 3) := by decide +kernel
theorem dX11_gloss_144 : decode cX11_gloss 144 = .ok (.iload_n 3, 1) := by decide +kernel
theorem dX11_gloss_145 : decode cX11_gloss 145 = .ok (.bipush 7, 2) := by decide +kernel
theorem dX11_gloss_147 : decode cX11_gloss 147 = .ok (.isub, 1) := by decide +kernel
theorem dX11_gloss_148 : decode cX11_gloss 148 = .ok (.invokevirtual 132, 3) := by decide +kernel
theorem dX11_gloss_151 : decode cX11_gloss 151 = .ok (.goto 6, 3) := by decide +kernel
theorem dX11_gloss_154 : decode cX11_gloss 154 = .ok (.sipush (-1002), 3) := by decide +kernel
theorem dX11_gloss_157 : decode cX11_gloss 157 = .ok (.ireturn, 1) := by decide +kernel
theorem dX11_count_0 : decode cX11_count 0 = .ok (.iload_n 1, 1) := by decide +kernel
theorem dX11_count_1 : decode cX11_count 1 = .ok (.tableswitch 48 0 2 #[27, 32, 43], 27) := by decide +kernel
theorem dX11_count_28 : decode cX11_count 28 = .ok (.aload_n 0, 1) := by decide +kernel
theorem dX11_count_29 : decode cX11_count 29 = .ok (.getfield 77, 3) := by decide +kernel
theorem dX11_count_32 : decode cX11_count 32 = .ok (.ireturn, 1) := by decide +kernel
theorem dX11_count_33 : decode cX11_count 33 = .ok (.aload_n 0, 1) := by decide +kernel
theorem dX11_count_34 : decode cX11_count 34 = .ok (.getfield 29, 3) := by decide +kernel
theorem dX11_count_37 : decode cX11_count 37 = .ok (.getfield 85, 3) := by decide +kernel
theorem dX11_count_40 : decode cX11_count 40 = .ok (.invokevirtual 88, 3) := by decide +kernel
theorem dX11_count_43 : decode cX11_count 43 = .ok (.ireturn, 1) := by decide +kernel
theorem dX11_count_44 : decode cX11_count 44 = .ok (.aload_n 0, 1) := by decide +kernel
theorem dX11_count_45 : decode cX11_count 45 = .ok (.invokevirtual 230, 3) := by decide +kernel
theorem dX11_count_48 : decode cX11_count 48 = .ok (.ireturn, 1) := by decide +kernel
theorem dX11_count_49 : decode cX11_count 49 = .ok (.sipush (-1002), 3) := by decide +kernel
theorem dX11_count_52 : decode cX11_count 52 = .ok (.ireturn, 1) := by decide +kernel
theorem dX11_distance_0 : decode cX11_distance 0 = .ok (.aload_n 0, 1) := by decide +kernel
theorem dX11_distance_1 : decode cX11_distance 1 = .ok (.iload_n 1, 1) := by decide +kernel
theorem dX11_distance_2 : decode cX11_distance 2 = .ok (.invokevirtual 142, 3) := by decide +kernel
theorem dX11_distance_5 : decode cX11_distance 5 = .ok (.astore_n 3, 1) := by decide +kernel
theorem dX11_distance_6 : decode cX11_distance 6 = .ok (.aload_n 0, 1) := by decide +kernel
theorem dX11_distance_7 : decode cX11_distance 7 = .ok (.iload_n 2, 1) := by decide +kernel
theorem dX11_distance_8 : decode cX11_distance 8 = .ok (.invokevirtual 142, 3) := by decide +kernel
theorem dX11_distance_11 : decode cX11_distance 11 = .ok (.astore 4, 2) := by decide +kernel
theorem dX11_distance_13 : decode cX11_distance 13 = .ok (.aload_n 3, 1) := by decide +kernel
theorem dX11_distance_14 : decode cX11_distance 14 = .ok (.ifnull 8, 3) := by decide +kernel
theorem dX11_distance_17 : decode cX11_distance 17 = .ok (.aload 4, 2) := by decide +kernel
theorem dX11_distance_19 : decode cX11_distance 19 = .ok (.ifnonnull 7, 3) := by decide +kernel
theorem dX11_distance_22 : decode cX11_distance 22 = .ok (.sipush (-1001), 3) := by decide +kernel
theorem dX11_distance_25 : decode cX11_distance 25 = .ok (.ireturn, 1) := by decide +kernel
theorem dX11_distance_26 : decode cX11_distance 26 = .ok (.aload_n 0, 1) := by decide +kernel
theorem dX11_distance_27 : decode cX11_distance 27 = .ok (.getfield 50, 3) := by decide +kernel
theorem dX11_distance_30 : decode cX11_distance 30 = .ok (.aload_n 3, 1) := by decide +kernel
theorem dX11_distance_31 : decode cX11_distance 31 = .ok (.getfield 164, 3) := by decide +kernel
theorem dX11_distance_34 : decode cX11_distance 34 = .ok (.aload 4, 2) := by decide +kernel
theorem dX11_distance_36 : decode cX11_distance 36 = .ok (.getfield 164, 3) := by decide +kernel
theorem dX11_distance_39 : decode cX11_distance 39 = .ok (.invokevirtual 233, 3) := by decide +kernel
theorem dX11_distance_42 : decode cX11_distance 42 = .ok (.ireturn, 1) := by decide +kernel
theorem dX11_beside_0 : decode cX11_beside 0 = .ok (.aload_n 0, 1) := by decide +kernel
theorem dX11_beside_1 : decode cX11_beside 1 = .ok (.iload_n 1, 1) := by decide +kernel
theorem dX11_beside_2 : decode cX11_beside 2 = .ok (.invokevirtual 142, 3) := by decide +kernel
theorem dX11_beside_5 : decode cX11_beside 5 = .ok (.astore 4, 2) := by decide +kernel
theorem dX11_beside_7 : decode cX11_beside 7 = .ok (.aload_n 0, 1) := by decide +kernel
theorem dX11_beside_8 : decode cX11_beside 8 = .ok (.iload_n 2, 1) := by decide +kernel
theorem dX11_beside_9 : decode cX11_beside 9 = .ok (.invokevirtual 142, 3) := by decide +kernel
theorem dX11_beside_12 : decode cX11_beside 12 = .ok (.astore 5, 2) := by decide +kernel
theorem dX11_beside_14 : decode cX11_beside 14 = .ok (.aload 4, 2) := by decide +kernel
theorem dX11_beside_16 : decode cX11_beside 16 = .ok (.ifnull 8, 3) := by decide +kernel
theorem dX11_beside_19 : decode cX11_beside 19 = .ok (.aload 5, 2) := by decide +kernel
theorem dX11_beside_21 : decode cX11_beside 21 = .ok (.ifnonnull 7, 3) := by decide +kernel
theorem dX11_beside_24 : decode cX11_beside 24 = .ok (.sipush (-1001), 3) := by decide +kernel
theorem dX11_beside_27 : decode cX11_beside 27 = .ok (.ireturn, 1) := by decide +kernel
theorem dX11_beside_28 : decode cX11_beside 28 = .ok (.aload 4, 2) := by decide +kernel
theorem dX11_beside_30 : decode cX11_beside 30 = .ok (.getfield 164, 3) := by decide +kernel
theorem dX11_beside_33 : decode cX11_beside 33 = .ok (.iload_n 3, 1) := by decide +kernel
theorem dX11_beside_34 : decode cX11_beside 34 = .ok (.invokevirtual 167, 3) := by decide +kernel
theorem dX11_beside_37 : decode cX11_beside 37 = .ok (.ifCond .ne 7, 3) := by decide +kernel
theorem dX11_beside_40 : decode cX11_beside 40 = .ok (.sipush (-1002), 3) := by decide +kernel
theorem dX11_beside_43 : decode cX11_beside 43 = .ok (.ireturn, 1) := by decide +kernel
theorem dX11_beside_44 : decode cX11_beside 44 = .ok (.aload_n 0, 1) := by decide +kernel
theorem dX11_beside_45 : decode cX11_beside 45 = .ok (.getfield 50, 3) := by decide +kernel
theorem dX11_beside_48 : decode cX11_beside 48 = .ok (.aload 4, 2) := by decide +kernel
theorem dX11_beside_50 : decode cX11_beside 50 = .ok (.getfield 164, 3) := by decide +kernel
theorem dX11_beside_53 : decode cX11_beside 53 = .ok (.aload 5, 2) := by decide +kernel
theorem dX11_beside_55 : decode cX11_beside 55 = .ok (.getfield 164, 3) := by decide +kernel
theorem dX11_beside_58 : decode cX11_beside 58 = .ok (.invokevirtual 237, 3) := by decide +kernel
theorem dX11_beside_61 : decode cX11_beside 61 = .ok (.aload_n 0, 1) := by decide +kernel
theorem dX11_beside_62 : decode cX11_beside 62 = .ok (.getfield 50, 3) := by decide +kernel
theorem dX11_beside_65 : decode cX11_beside 65 = .ok (.getfield 241, 3) := by decide +kernel
theorem dX11_beside_68 : decode cX11_beside 68 = .ok (.iload_n 3, 1) := by decide +kernel
theorem dX11_beside_69 : decode cX11_beside 69 = .ok (.invokevirtual 132, 3) := by decide +kernel
theorem dX11_beside_72 : decode cX11_beside 72 = .ok (.ireturn, 1) := by decide +kernel
theorem dX11_slipped_0 : decode cX11_slipped 0 = .ok (.aload_n 0, 1) := by decide +kernel
theorem dX11_slipped_1 : decode cX11_slipped 1 = .ok (.iload_n 1, 1) := by decide +kernel
theorem dX11_slipped_2 : decode cX11_slipped 2 = .ok (.invokevirtual 142, 3) := by decide +kernel
theorem dX11_slipped_5 : decode cX11_slipped 5 = .ok (.astore_n 3, 1) := by decide +kernel
theorem dX11_slipped_6 : decode cX11_slipped 6 = .ok (.aload_n 0, 1) := by decide +kernel
theorem dX11_slipped_7 : decode cX11_slipped 7 = .ok (.iload_n 2, 1) := by decide +kernel
theorem dX11_slipped_8 : decode cX11_slipped 8 = .ok (.invokevirtual 142, 3) := by decide +kernel
theorem dX11_slipped_11 : decode cX11_slipped 11 = .ok (.astore 4, 2) := by decide +kernel
theorem dX11_slipped_13 : decode cX11_slipped 13 = .ok (.aload_n 3, 1) := by decide +kernel
theorem dX11_slipped_14 : decode cX11_slipped 14 = .ok (.ifnull 8, 3) := by decide +kernel
theorem dX11_slipped_17 : decode cX11_slipped 17 = .ok (.aload 4, 2) := by decide +kernel
theorem dX11_slipped_19 : decode cX11_slipped 19 = .ok (.ifnonnull 7, 3) := by decide +kernel
theorem dX11_slipped_22 : decode cX11_slipped 22 = .ok (.sipush (-1001), 3) := by decide +kernel
theorem dX11_slipped_25 : decode cX11_slipped 25 = .ok (.ireturn, 1) := by decide +kernel
theorem dX11_slipped_26 : decode cX11_slipped 26 = .ok (.aload_n 0, 1) := by decide +kernel
theorem dX11_slipped_27 : decode cX11_slipped 27 = .ok (.getfield 50, 3) := by decide +kernel
theorem dX11_slipped_30 : decode cX11_slipped 30 = .ok (.aload_n 3, 1) := by decide +kernel
theorem dX11_slipped_31 : decode cX11_slipped 31 = .ok (.getfield 164, 3) := by decide +kernel
theorem dX11_slipped_34 : decode cX11_slipped 34 = .ok (.aload 4, 2) := by decide +kernel
theorem dX11_slipped_36 : decode cX11_slipped 36 = .ok (.getfield 164, 3) := by decide +kernel
theorem dX11_slipped_39 : decode cX11_slipped 39 = .ok (.invokevirtual 237, 3) := by decide +kernel
theorem dX11_slipped_42 : decode cX11_slipped 42 = .ok (.iconst 0, 1) := by decide +kernel
theorem dX11_slipped_43 : decode cX11_slipped 43 = .ok (.istore 5, 2) := by decide +kernel
theorem dX11_slipped_45 : decode cX11_slipped 45 = .ok (.iconst 0, 1) := by decide +kernel
theorem dX11_slipped_46 : decode cX11_slipped 46 = .ok (.istore 6, 2) := by decide +kernel
theorem dX11_slipped_48 : decode cX11_slipped 48 = .ok (.iload 6, 2) := by decide +kernel
theorem dX11_slipped_50 : decode cX11_slipped 50 = .ok (.aload_n 3, 1) := by decide +kernel
theorem dX11_slipped_51 : decode cX11_slipped 51 = .ok (.getfield 182, 3) := by decide +kernel
theorem dX11_slipped_54 : decode cX11_slipped 54 = .ok (.if_icmp .ge 56, 3) := by decide +kernel
theorem dX11_slipped_57 : decode cX11_slipped 57 = .ok (.aload_n 3, 1) := by decide +kernel
theorem dX11_slipped_58 : decode cX11_slipped 58 = .ok (.iload 6, 2) := by decide +kernel
theorem dX11_slipped_60 : decode cX11_slipped 60 = .ok (.invokevirtual 178, 3) := by decide +kernel
theorem dX11_slipped_63 : decode cX11_slipped 63 = .ok (.astore 7, 2) := by decide +kernel
theorem dX11_slipped_65 : decode cX11_slipped 65 = .ok (.aload 7, 2) := by decide +kernel
theorem dX11_slipped_67 : decode cX11_slipped 67 = .ok (.ifnull 37, 3) := by decide +kernel
theorem dX11_slipped_70 : decode cX11_slipped 70 = .ok (.aload 7, 2) := by decide +kernel
theorem dX11_slipped_72 : decode cX11_slipped 72 = .ok (.invokevirtual 244, 3) := by decide +kernel
theorem dX11_slipped_75 : decode cX11_slipped 75 = .ok (.ifCond .eq 29, 3) := by decide +kernel
theorem dX11_slipped_78 : decode cX11_slipped 78 = .ok (.aload_n 0, 1) := by decide +kernel
theorem dX11_slipped_79 : decode cX11_slipped 79 = .ok (.getfield 50, 3) := by decide +kernel
theorem dX11_slipped_82 : decode cX11_slipped 82 = .ok (.aload 7, 2) := by decide +kernel
theorem dX11_slipped_84 : decode cX11_slipped 84 = .ok (.aload 4, 2) := by decide +kernel
theorem dX11_slipped_86 : decode cX11_slipped 86 = .ok (.getfield 164, 3) := by decide +kernel
theorem dX11_slipped_89 : decode cX11_slipped 89 = .ok (.invokevirtual 248, 3) := by decide +kernel
theorem dX11_slipped_92 : decode cX11_slipped 92 = .ok (.ifCond .eq 12, 3) := by decide +kernel
theorem dX11_slipped_95 : decode cX11_slipped 95 = .ok (.iload 5, 2) := by decide +kernel
theorem dX11_slipped_97 : decode cX11_slipped 97 = .ok (.iconst 1, 1) := by decide +kernel
theorem dX11_slipped_98 : decode cX11_slipped 98 = .ok (.iload 6, 2) := by decide +kernel
theorem dX11_slipped_100 : decode cX11_slipped 100 = .ok (.ishl, 1) := by decide +kernel
theorem dX11_slipped_101 : decode cX11_slipped 101 = .ok (.ior, 1) := by decide +kernel
theorem dX11_slipped_102 : decode cX11_slipped 102 = .ok (.istore 5, 2) := by decide +kernel
theorem dX11_slipped_104 : decode cX11_slipped 104 = .ok (.iinc 6 1, 3) := by decide +kernel
theorem dX11_slipped_107 : decode cX11_slipped 107 = .ok (.goto (-59), 3) := by decide +kernel
theorem dX11_slipped_110 : decode cX11_slipped 110 = .ok (.iload 5, 2) := by decide +kernel
theorem dX11_slipped_112 : decode cX11_slipped 112 = .ok (.ireturn, 1) := by decide +kernel
theorem dX11_reading_0 : decode cX11_reading 0 = .ok (.aload_n 0, 1) := by decide +kernel
theorem dX11_reading_1 : decode cX11_reading 1 = .ok (.iload_n 1, 1) := by decide +kernel
theorem dX11_reading_2 : decode cX11_reading 2 = .ok (.invokevirtual 142, 3) := by decide +kernel
theorem dX11_reading_5 : decode cX11_reading 5 = .ok (.astore 4, 2) := by decide +kernel
theorem dX11_reading_7 : decode cX11_reading 7 = .ok (.aload_n 0, 1) := by decide +kernel
theorem dX11_reading_8 : decode cX11_reading 8 = .ok (.iload_n 2, 1) := by decide +kernel
theorem dX11_reading_9 : decode cX11_reading 9 = .ok (.invokevirtual 142, 3) := by decide +kernel
theorem dX11_reading_12 : decode cX11_reading 12 = .ok (.astore 5, 2) := by decide +kernel
theorem dX11_reading_14 : decode cX11_reading 14 = .ok (.aload 4, 2) := by decide +kernel
theorem dX11_reading_16 : decode cX11_reading 16 = .ok (.ifnull 8, 3) := by decide +kernel
theorem dX11_reading_19 : decode cX11_reading 19 = .ok (.aload 5, 2) := by decide +kernel
theorem dX11_reading_21 : decode cX11_reading 21 = .ok (.ifnonnull 7, 3) := by decide +kernel
theorem dX11_reading_24 : decode cX11_reading 24 = .ok (.sipush (-1001), 3) := by decide +kernel
theorem dX11_reading_27 : decode cX11_reading 27 = .ok (.ireturn, 1) := by decide +kernel
theorem dX11_reading_28 : decode cX11_reading 28 = .ok (.aload 4, 2) := by decide +kernel
theorem dX11_reading_30 : decode cX11_reading 30 = .ok (.getfield 164, 3) := by decide +kernel
theorem dX11_reading_33 : decode cX11_reading 33 = .ok (.iload_n 3, 1) := by decide +kernel
theorem dX11_reading_34 : decode cX11_reading 34 = .ok (.invokevirtual 167, 3) := by decide +kernel
theorem dX11_reading_37 : decode cX11_reading 37 = .ok (.ifCond .ne 7, 3) := by decide +kernel
theorem dX11_reading_40 : decode cX11_reading 40 = .ok (.sipush (-1002), 3) := by decide +kernel
theorem dX11_reading_43 : decode cX11_reading 43 = .ok (.ireturn, 1) := by decide +kernel
theorem dX11_reading_44 : decode cX11_reading 44 = .ok (.aload_n 0, 1) := by decide +kernel
theorem dX11_reading_45 : decode cX11_reading 45 = .ok (.getfield 50, 3) := by decide +kernel
theorem dX11_reading_48 : decode cX11_reading 48 = .ok (.aload 4, 2) := by decide +kernel
theorem dX11_reading_50 : decode cX11_reading 50 = .ok (.getfield 164, 3) := by decide +kernel
theorem dX11_reading_53 : decode cX11_reading 53 = .ok (.aload 5, 2) := by decide +kernel
theorem dX11_reading_55 : decode cX11_reading 55 = .ok (.getfield 164, 3) := by decide +kernel
theorem dX11_reading_58 : decode cX11_reading 58 = .ok (.invokevirtual 237, 3) := by decide +kernel
theorem dX11_reading_61 : decode cX11_reading 61 = .ok (.aload 5, 2) := by decide +kernel
theorem dX11_reading_63 : decode cX11_reading 63 = .ok (.getfield 164, 3) := by decide +kernel
theorem dX11_reading_66 : decode cX11_reading 66 = .ok (.aload_n 0, 1) := by decide +kernel
theorem dX11_reading_67 : decode cX11_reading 67 = .ok (.getfield 50, 3) := by decide +kernel
theorem dX11_reading_70 : decode cX11_reading 70 = .ok (.getfield 241, 3) := by decide +kernel
theorem dX11_reading_73 : decode cX11_reading 73 = .ok (.iload_n 3, 1) := by decide +kernel
theorem dX11_reading_74 : decode cX11_reading 74 = .ok (.invokevirtual 132, 3) := by decide +kernel
theorem dX11_reading_77 : decode cX11_reading 77 = .ok (.invokevirtual 132, 3) := by decide +kernel
theorem dX11_reading_80 : decode cX11_reading 80 = .ok (.ireturn, 1) := by decide +kernel
theorem dX11_most_0 : decode cX11_most 0 = .ok (.aload_n 0, 1) := by decide +kernel
theorem dX11_most_1 : decode cX11_most 1 = .ok (.iload_n 1, 1) := by decide +kernel
theorem dX11_most_2 : decode cX11_most 2 = .ok (.invokevirtual 142, 3) := by decide +kernel
theorem dX11_most_5 : decode cX11_most 5 = .ok (.astore 5, 2) := by decide +kernel
theorem dX11_most_7 : decode cX11_most 7 = .ok (.aload 5, 2) := by decide +kernel
theorem dX11_most_9 : decode cX11_most 9 = .ok (.ifnull 11, 3) := by decide +kernel
theorem dX11_most_12 : decode cX11_most 12 = .ok (.aload_n 0, 1) := by decide +kernel
theorem dX11_most_13 : decode cX11_most 13 = .ok (.iload_n 2, 1) := by decide +kernel
theorem dX11_most_14 : decode cX11_most 14 = .ok (.invokevirtual 252, 3) := by decide +kernel
theorem dX11_most_17 : decode cX11_most 17 = .ok (.ifCond .ne 7, 3) := by decide +kernel
theorem dX11_most_20 : decode cX11_most 20 = .ok (.sipush (-1001), 3) := by decide +kernel
theorem dX11_most_23 : decode cX11_most 23 = .ok (.ireturn, 1) := by decide +kernel
theorem dX11_most_24 : decode cX11_most 24 = .ok (.aload 5, 2) := by decide +kernel
theorem dX11_most_26 : decode cX11_most 26 = .ok (.getfield 164, 3) := by decide +kernel
theorem dX11_most_29 : decode cX11_most 29 = .ok (.iload_n 3, 1) := by decide +kernel
theorem dX11_most_30 : decode cX11_most 30 = .ok (.invokevirtual 167, 3) := by decide +kernel
theorem dX11_most_33 : decode cX11_most 33 = .ok (.ifCond .eq 14, 3) := by decide +kernel
theorem dX11_most_36 : decode cX11_most 36 = .ok (.iload 4, 2) := by decide +kernel
theorem dX11_most_38 : decode cX11_most 38 = .ok (.ifCond .lt 9, 3) := by decide +kernel
theorem dX11_most_41 : decode cX11_most 41 = .ok (.iload 4, 2) := by decide +kernel
theorem dX11_most_43 : decode cX11_most 43 = .ok (.iconst 1, 1) := by decide +kernel
theorem dX11_most_44 : decode cX11_most 44 = .ok (.if_icmp .le 7, 3) := by decide +kernel
theorem dX11_most_47 : decode cX11_most 47 = .ok (.sipush (-1002), 3) := by decide +kernel
theorem dX11_most_50 : decode cX11_most 50 = .ok (.ireturn, 1) := by decide +kernel
theorem dX11_most_51 : decode cX11_most 51 = .ok (.aload_n 0, 1) := by decide +kernel
theorem dX11_most_52 : decode cX11_most 52 = .ok (.iload_n 1, 1) := by decide +kernel
theorem dX11_most_53 : decode cX11_most 53 = .ok (.iload_n 2, 1) := by decide +kernel
theorem dX11_most_54 : decode cX11_most 54 = .ok (.invokevirtual 255, 3) := by decide +kernel
theorem dX11_most_57 : decode cX11_most 57 = .ok (.aload_n 0, 1) := by decide +kernel
theorem dX11_most_58 : decode cX11_most 58 = .ok (.getfield 57, 3) := by decide +kernel
theorem dX11_most_61 : decode cX11_most 61 = .ok (.iload_n 3, 1) := by decide +kernel
theorem dX11_most_62 : decode cX11_most 62 = .ok (.invokevirtual 258, 3) := by decide +kernel
theorem dX11_most_65 : decode cX11_most 65 = .ok (.istore 6, 2) := by decide +kernel
theorem dX11_most_67 : decode cX11_most 67 = .ok (.iload 4, 2) := by decide +kernel
theorem dX11_most_69 : decode cX11_most 69 = .ok (.ifCond .ne 8, 3) := by decide +kernel
theorem dX11_most_72 : decode cX11_most 72 = .ok (.iload 6, 2) := by decide +kernel
theorem dX11_most_74 : decode cX11_most 74 = .ok (.goto 13, 3) := by decide +kernel
theorem dX11_most_77 : decode cX11_most 77 = .ok (.aload_n 0, 1) := by decide +kernel
theorem dX11_most_78 : decode cX11_most 78 = .ok (.getfield 57, 3) := by decide +kernel
theorem dX11_most_81 : decode cX11_most 81 = .ok (.iload_n 3, 1) := by decide +kernel
theorem dX11_most_82 : decode cX11_most 82 = .ok (.iload 6, 2) := by decide +kernel
theorem dX11_most_84 : decode cX11_most 84 = .ok (.invokevirtual 261, 3) := by decide +kernel
theorem dX11_most_87 : decode cX11_most 87 = .ok (.ireturn, 1) := by decide +kernel
theorem dX11_restored_0 : decode cX11_restored 0 = .ok (.aload_n 0, 1) := by decide +kernel
theorem dX11_restored_1 : decode cX11_restored 1 = .ok (.iload_n 1, 1) := by decide +kernel
theorem dX11_restored_2 : decode cX11_restored 2 = .ok (.invokevirtual 142, 3) := by decide +kernel
theorem dX11_restored_5 : decode cX11_restored 5 = .ok (.ifnull 11, 3) := by decide +kernel
theorem dX11_restored_8 : decode cX11_restored 8 = .ok (.aload_n 0, 1) := by decide +kernel
theorem dX11_restored_9 : decode cX11_restored 9 = .ok (.iload_n 2, 1) := by decide +kernel
theorem dX11_restored_10 : decode cX11_restored 10 = .ok (.invokevirtual 252, 3) := by decide +kernel
theorem dX11_restored_13 : decode cX11_restored 13 = .ok (.ifCond .ne 7, 3) := by decide +kernel
theorem dX11_restored_16 : decode cX11_restored 16 = .ok (.sipush (-1001), 3) := by decide +kernel
theorem dX11_restored_19 : decode cX11_restored 19 = .ok (.ireturn, 1) := by decide +kernel
theorem dX11_restored_20 : decode cX11_restored 20 = .ok (.aload_n 0, 1) := by decide +kernel
theorem dX11_restored_21 : decode cX11_restored 21 = .ok (.iload_n 1, 1) := by decide +kernel
theorem dX11_restored_22 : decode cX11_restored 22 = .ok (.iload_n 2, 1) := by decide +kernel
theorem dX11_restored_23 : decode cX11_restored 23 = .ok (.invokevirtual 255, 3) := by decide +kernel
theorem dX11_restored_26 : decode cX11_restored 26 = .ok (.aload_n 0, 1) := by decide +kernel
theorem dX11_restored_27 : decode cX11_restored 27 = .ok (.getfield 57, 3) := by decide +kernel
theorem dX11_restored_30 : decode cX11_restored 30 = .ok (.invokevirtual 265, 3) := by decide +kernel
theorem dX11_restored_33 : decode cX11_restored 33 = .ok (.astore 4, 2) := by decide +kernel
theorem dX11_restored_35 : decode cX11_restored 35 = .ok (.iload_n 3, 1) := by decide +kernel
theorem dX11_restored_36 : decode cX11_restored 36 = .ok (.iconst (-1), 1) := by decide +kernel
theorem dX11_restored_37 : decode cX11_restored 37 = .ok (.if_icmp .ne 11, 3) := by decide +kernel
theorem dX11_restored_40 : decode cX11_restored 40 = .ok (.aload 4, 2) := by decide +kernel
theorem dX11_restored_42 : decode cX11_restored 42 = .ok (.invokevirtual 88, 3) := by decide +kernel
theorem dX11_restored_45 : decode cX11_restored 45 = .ok (.goto 9, 3) := by decide +kernel
theorem dX11_restored_48 : decode cX11_restored 48 = .ok (.aload 4, 2) := by decide +kernel
theorem dX11_restored_50 : decode cX11_restored 50 = .ok (.iload_n 3, 1) := by decide +kernel
theorem dX11_restored_51 : decode cX11_restored 51 = .ok (.invokevirtual 132, 3) := by decide +kernel
theorem dX11_restored_54 : decode cX11_restored 54 = .ok (.ireturn, 1) := by decide +kernel
theorem dX11_group_0 : decode cX11_group 0 = .ok (.aload_n 0, 1) := by decide +kernel
theorem dX11_group_1 : decode cX11_group 1 = .ok (.iload_n 1, 1) := by decide +kernel
theorem dX11_group_2 : decode cX11_group 2 = .ok (.invokevirtual 142, 3) := by decide +kernel
theorem dX11_group_5 : decode cX11_group 5 = .ok (.ifnull 11, 3) := by decide +kernel
theorem dX11_group_8 : decode cX11_group 8 = .ok (.aload_n 0, 1) := by decide +kernel
theorem dX11_group_9 : decode cX11_group 9 = .ok (.iload_n 2, 1) := by decide +kernel
theorem dX11_group_10 : decode cX11_group 10 = .ok (.invokevirtual 252, 3) := by decide +kernel
theorem dX11_group_13 : decode cX11_group 13 = .ok (.ifCond .ne 7, 3) := by decide +kernel
theorem dX11_group_16 : decode cX11_group 16 = .ok (.sipush (-1001), 3) := by decide +kernel
theorem dX11_group_19 : decode cX11_group 19 = .ok (.ireturn, 1) := by decide +kernel
theorem dX11_group_20 : decode cX11_group 20 = .ok (.aload_n 0, 1) := by decide +kernel
theorem dX11_group_21 : decode cX11_group 21 = .ok (.iload_n 1, 1) := by decide +kernel
theorem dX11_group_22 : decode cX11_group 22 = .ok (.iload_n 2, 1) := by decide +kernel
theorem dX11_group_23 : decode cX11_group 23 = .ok (.invokevirtual 255, 3) := by decide +kernel
theorem dX11_group_26 : decode cX11_group 26 = .ok (.aload_n 0, 1) := by decide +kernel
theorem dX11_group_27 : decode cX11_group 27 = .ok (.getfield 57, 3) := by decide +kernel
theorem dX11_group_30 : decode cX11_group 30 = .ok (.invokevirtual 269, 3) := by decide +kernel
theorem dX11_group_33 : decode cX11_group 33 = .ok (.astore 4, 2) := by decide +kernel
theorem dX11_group_35 : decode cX11_group 35 = .ok (.iload_n 3, 1) := by decide +kernel
theorem dX11_group_36 : decode cX11_group 36 = .ok (.iconst (-1), 1) := by decide +kernel
theorem dX11_group_37 : decode cX11_group 37 = .ok (.if_icmp .ne 11, 3) := by decide +kernel
theorem dX11_group_40 : decode cX11_group 40 = .ok (.aload 4, 2) := by decide +kernel
theorem dX11_group_42 : decode cX11_group 42 = .ok (.invokevirtual 88, 3) := by decide +kernel
theorem dX11_group_45 : decode cX11_group 45 = .ok (.goto 9, 3) := by decide +kernel
theorem dX11_group_48 : decode cX11_group 48 = .ok (.aload 4, 2) := by decide +kernel
theorem dX11_group_50 : decode cX11_group 50 = .ok (.iload_n 3, 1) := by decide +kernel
theorem dX11_group_51 : decode cX11_group 51 = .ok (.invokevirtual 132, 3) := by decide +kernel
theorem dX11_group_54 : decode cX11_group 54 = .ok (.ireturn, 1) := by decide +kernel
theorem dX11_clash_0 : decode cX11_clash 0 = .ok (.aload_n 0, 1) := by decide +kernel
theorem dX11_clash_1 : decode cX11_clash 1 = .ok (.iload_n 1, 1) := by decide +kernel
theorem dX11_clash_2 : decode cX11_clash 2 = .ok (.invokevirtual 142, 3) := by decide +kernel
theorem dX11_clash_5 : decode cX11_clash 5 = .ok (.ifnull 11, 3) := by decide +kernel
theorem dX11_clash_8 : decode cX11_clash 8 = .ok (.aload_n 0, 1) := by decide +kernel
theorem dX11_clash_9 : decode cX11_clash 9 = .ok (.iload_n 2, 1) := by decide +kernel
theorem dX11_clash_10 : decode cX11_clash 10 = .ok (.invokevirtual 252, 3) := by decide +kernel
theorem dX11_clash_13 : decode cX11_clash 13 = .ok (.ifCond .ne 7, 3) := by decide +kernel
theorem dX11_clash_16 : decode cX11_clash 16 = .ok (.sipush (-1001), 3) := by decide +kernel
theorem dX11_clash_19 : decode cX11_clash 19 = .ok (.ireturn, 1) := by decide +kernel
theorem dX11_clash_20 : decode cX11_clash 20 = .ok (.aload_n 0, 1) := by decide +kernel
theorem dX11_clash_21 : decode cX11_clash 21 = .ok (.iload_n 1, 1) := by decide +kernel
theorem dX11_clash_22 : decode cX11_clash 22 = .ok (.iload_n 2, 1) := by decide +kernel
theorem dX11_clash_23 : decode cX11_clash 23 = .ok (.invokevirtual 255, 3) := by decide +kernel
theorem dX11_clash_26 : decode cX11_clash 26 = .ok (.aload_n 0, 1) := by decide +kernel
theorem dX11_clash_27 : decode cX11_clash 27 = .ok (.getfield 57, 3) := by decide +kernel
theorem dX11_clash_30 : decode cX11_clash 30 = .ok (.invokevirtual 269, 3) := by decide +kernel
theorem dX11_clash_33 : decode cX11_clash 33 = .ok (.pop, 1) := by decide +kernel
theorem dX11_clash_34 : decode cX11_clash 34 = .ok (.aload_n 0, 1) := by decide +kernel
theorem dX11_clash_35 : decode cX11_clash 35 = .ok (.getfield 57, 3) := by decide +kernel
theorem dX11_clash_38 : decode cX11_clash 38 = .ok (.invokevirtual 272, 3) := by decide +kernel
theorem dX11_clash_41 : decode cX11_clash 41 = .ok (.ireturn, 1) := by decide +kernel
theorem dX11_sound_0 : decode cX11_sound 0 = .ok (.aload_n 0, 1) := by decide +kernel
theorem dX11_sound_1 : decode cX11_sound 1 = .ok (.iload_n 1, 1) := by decide +kernel
theorem dX11_sound_2 : decode cX11_sound 2 = .ok (.invokevirtual 142, 3) := by decide +kernel
theorem dX11_sound_5 : decode cX11_sound 5 = .ok (.ifnull 11, 3) := by decide +kernel
theorem dX11_sound_8 : decode cX11_sound 8 = .ok (.aload_n 0, 1) := by decide +kernel
theorem dX11_sound_9 : decode cX11_sound 9 = .ok (.iload_n 2, 1) := by decide +kernel
theorem dX11_sound_10 : decode cX11_sound 10 = .ok (.invokevirtual 252, 3) := by decide +kernel
theorem dX11_sound_13 : decode cX11_sound 13 = .ok (.ifCond .ne 7, 3) := by decide +kernel
theorem dX11_sound_16 : decode cX11_sound 16 = .ok (.sipush (-1001), 3) := by decide +kernel
theorem dX11_sound_19 : decode cX11_sound 19 = .ok (.ireturn, 1) := by decide +kernel
theorem dX11_sound_20 : decode cX11_sound 20 = .ok (.aload_n 0, 1) := by decide +kernel
theorem dX11_sound_21 : decode cX11_sound 21 = .ok (.iload_n 1, 1) := by decide +kernel
theorem dX11_sound_22 : decode cX11_sound 22 = .ok (.iload_n 2, 1) := by decide +kernel
theorem dX11_sound_23 : decode cX11_sound 23 = .ok (.invokevirtual 255, 3) := by decide +kernel
theorem dX11_sound_26 : decode cX11_sound 26 = .ok (.aload_n 0, 1) := by decide +kernel
theorem dX11_sound_27 : decode cX11_sound 27 = .ok (.getfield 57, 3) := by decide +kernel
theorem dX11_sound_30 : decode cX11_sound 30 = .ok (.invokevirtual 269, 3) := by decide +kernel
theorem dX11_sound_33 : decode cX11_sound 33 = .ok (.pop, 1) := by decide +kernel
theorem dX11_sound_34 : decode cX11_sound 34 = .ok (.aload_n 0, 1) := by decide +kernel
theorem dX11_sound_35 : decode cX11_sound 35 = .ok (.getfield 57, 3) := by decide +kernel
theorem dX11_sound_38 : decode cX11_sound 38 = .ok (.invokevirtual 275, 3) := by decide +kernel
theorem dX11_sound_41 : decode cX11_sound 41 = .ok (.astore 4, 2) := by decide +kernel
theorem dX11_sound_43 : decode cX11_sound 43 = .ok (.iload_n 3, 1) := by decide +kernel
theorem dX11_sound_44 : decode cX11_sound 44 = .ok (.iconst (-1), 1) := by decide +kernel
theorem dX11_sound_45 : decode cX11_sound 45 = .ok (.if_icmp .ne 11, 3) := by decide +kernel
theorem dX11_sound_48 : decode cX11_sound 48 = .ok (.aload 4, 2) := by decide +kernel
theorem dX11_sound_50 : decode cX11_sound 50 = .ok (.invokevirtual 88, 3) := by decide +kernel
theorem dX11_sound_53 : decode cX11_sound 53 = .ok (.goto 9, 3) := by decide +kernel
theorem dX11_sound_56 : decode cX11_sound 56 = .ok (.aload 4, 2) := by decide +kernel
theorem dX11_sound_58 : decode cX11_sound 58 = .ok (.iload_n 3, 1) := by decide +kernel
theorem dX11_sound_59 : decode cX11_sound 59 = .ok (.invokevirtual 132, 3) := by decide +kernel
theorem dX11_sound_62 : decode cX11_sound 62 = .ok (.ireturn, 1) := by decide +kernel
theorem dX11_parent_0 : decode cX11_parent 0 = .ok (.aload_n 0, 1) := by decide +kernel
theorem dX11_parent_1 : decode cX11_parent 1 = .ok (.iload_n 2, 1) := by decide +kernel
theorem dX11_parent_2 : decode cX11_parent 2 = .ok (.invokevirtual 252, 3) := by decide +kernel
theorem dX11_parent_5 : decode cX11_parent 5 = .ok (.ifCond .eq 19, 3) := by decide +kernel
theorem dX11_parent_8 : decode cX11_parent 8 = .ok (.iload_n 2, 1) := by decide +kernel
theorem dX11_parent_9 : decode cX11_parent 9 = .ok (.iload_n 1, 1) := by decide +kernel
theorem dX11_parent_10 : decode cX11_parent 10 = .ok (.invokestatic 278, 3) := by decide +kernel
theorem dX11_parent_13 : decode cX11_parent 13 = .ok (.ifCond .eq 11, 3) := by decide +kernel
theorem dX11_parent_16 : decode cX11_parent 16 = .ok (.iload_n 2, 1) := by decide +kernel
theorem dX11_parent_17 : decode cX11_parent 17 = .ok (.iload_n 3, 1) := by decide +kernel
theorem dX11_parent_18 : decode cX11_parent 18 = .ok (.invokestatic 278, 3) := by decide +kernel
theorem dX11_parent_21 : decode cX11_parent 21 = .ok (.ifCond .ne 7, 3) := by decide +kernel
theorem dX11_parent_24 : decode cX11_parent 24 = .ok (.sipush (-1001), 3) := by decide +kernel
theorem dX11_parent_27 : decode cX11_parent 27 = .ok (.ireturn, 1) := by decide +kernel
theorem dX11_parent_28 : decode cX11_parent 28 = .ok (.aload_n 0, 1) := by decide +kernel
theorem dX11_parent_29 : decode cX11_parent 29 = .ok (.iload_n 1, 1) := by decide +kernel
theorem dX11_parent_30 : decode cX11_parent 30 = .ok (.iload_n 2, 1) := by decide +kernel
theorem dX11_parent_31 : decode cX11_parent 31 = .ok (.invokevirtual 282, 3) := by decide +kernel
theorem dX11_parent_34 : decode cX11_parent 34 = .ok (.aload_n 0, 1) := by decide +kernel
theorem dX11_parent_35 : decode cX11_parent 35 = .ok (.getfield 64, 3) := by decide +kernel
theorem dX11_parent_38 : decode cX11_parent 38 = .ok (.getfield 285, 3) := by decide +kernel
theorem dX11_parent_41 : decode cX11_parent 41 = .ok (.iload_n 3, 1) := by decide +kernel
theorem dX11_parent_42 : decode cX11_parent 42 = .ok (.invokevirtual 132, 3) := by decide +kernel
theorem dX11_parent_45 : decode cX11_parent 45 = .ok (.ireturn, 1) := by decide +kernel
theorem dX11_tree_0 : decode cX11_tree 0 = .ok (.aload_n 0, 1) := by decide +kernel
theorem dX11_tree_1 : decode cX11_tree 1 = .ok (.iload_n 2, 1) := by decide +kernel
theorem dX11_tree_2 : decode cX11_tree 2 = .ok (.invokevirtual 252, 3) := by decide +kernel
theorem dX11_tree_5 : decode cX11_tree 5 = .ok (.ifCond .eq 11, 3) := by decide +kernel
theorem dX11_tree_8 : decode cX11_tree 8 = .ok (.iload_n 2, 1) := by decide +kernel
theorem dX11_tree_9 : decode cX11_tree 9 = .ok (.iload_n 1, 1) := by decide +kernel
theorem dX11_tree_10 : decode cX11_tree 10 = .ok (.invokestatic 278, 3) := by decide +kernel
theorem dX11_tree_13 : decode cX11_tree 13 = .ok (.ifCond .ne 7, 3) := by decide +kernel
theorem dX11_tree_16 : decode cX11_tree 16 = .ok (.sipush (-1001), 3) := by decide +kernel
theorem dX11_tree_19 : decode cX11_tree 19 = .ok (.ireturn, 1) := by decide +kernel
theorem dX11_tree_20 : decode cX11_tree 20 = .ok (.iload_n 3, 1) := by decide +kernel
theorem dX11_tree_21 : decode cX11_tree 21 = .ok (.ifCond .lt 8, 3) := by decide +kernel
theorem dX11_tree_24 : decode cX11_tree 24 = .ok (.iload_n 3, 1) := by decide +kernel
theorem dX11_tree_25 : decode cX11_tree 25 = .ok (.iconst 1, 1) := by decide +kernel
theorem dX11_tree_26 : decode cX11_tree 26 = .ok (.if_icmp .le 7, 3) := by decide +kernel
theorem dX11_tree_29 : decode cX11_tree 29 = .ok (.sipush (-1002), 3) := by decide +kernel
theorem dX11_tree_32 : decode cX11_tree 32 = .ok (.ireturn, 1) := by decide +kernel
theorem dX11_tree_33 : decode cX11_tree 33 = .ok (.aload_n 0, 1) := by decide +kernel
theorem dX11_tree_34 : decode cX11_tree 34 = .ok (.iload_n 1, 1) := by decide +kernel
theorem dX11_tree_35 : decode cX11_tree 35 = .ok (.iload_n 2, 1) := by decide +kernel
theorem dX11_tree_36 : decode cX11_tree 36 = .ok (.invokevirtual 282, 3) := by decide +kernel
theorem dX11_tree_39 : decode cX11_tree 39 = .ok (.iload_n 3, 1) := by decide +kernel
theorem dX11_tree_40 : decode cX11_tree 40 = .ok (.ifCond .ne 13, 3) := by decide +kernel
theorem dX11_tree_43 : decode cX11_tree 43 = .ok (.aload_n 0, 1) := by decide +kernel
theorem dX11_tree_44 : decode cX11_tree 44 = .ok (.getfield 64, 3) := by decide +kernel
theorem dX11_tree_47 : decode cX11_tree 47 = .ok (.getfield 288, 3) := by decide +kernel
theorem dX11_tree_50 : decode cX11_tree 50 = .ok (.goto 9, 3) := by decide +kernel
theorem dX11_tree_53 : decode cX11_tree 53 = .ok (.aload_n 0, 1) := by decide +kernel
theorem dX11_tree_54 : decode cX11_tree 54 = .ok (.iload_n 1, 1) := by decide +kernel
theorem dX11_tree_55 : decode cX11_tree 55 = .ok (.iload_n 2, 1) := by decide +kernel
theorem dX11_tree_56 : decode cX11_tree 56 = .ok (.invokevirtual 291, 3) := by decide +kernel
theorem dX11_tree_59 : decode cX11_tree 59 = .ok (.ireturn, 1) := by decide +kernel
theorem dX11_explained_0 : decode cX11_explained 0 = .ok (.aload_n 0, 1) := by decide +kernel
theorem dX11_explained_1 : decode cX11_explained 1 = .ok (.iload_n 1, 1) := by decide +kernel
theorem dX11_explained_2 : decode cX11_explained 2 = .ok (.invokevirtual 142, 3) := by decide +kernel
theorem dX11_explained_5 : decode cX11_explained 5 = .ok (.astore_n 3, 1) := by decide +kernel
theorem dX11_explained_6 : decode cX11_explained 6 = .ok (.aload_n 3, 1) := by decide +kernel
theorem dX11_explained_7 : decode cX11_explained 7 = .ok (.ifnonnull 7, 3) := by decide +kernel
theorem dX11_explained_10 : decode cX11_explained 10 = .ok (.ldc2_w 294, 3) := by decide +kernel
theorem dX11_explained_13 : decode cX11_explained 13 = .ok (.lreturn, 1) := by decide +kernel
theorem dX11_explained_14 : decode cX11_explained 14 = .ok (.iload_n 2, 1) := by decide +kernel
theorem dX11_explained_15 : decode cX11_explained 15 = .ok (.invokestatic 171, 3) := by decide +kernel
theorem dX11_explained_18 : decode cX11_explained 18 = .ok (.ifCond .eq 13, 3) := by decide +kernel
theorem dX11_explained_21 : decode cX11_explained 21 = .ok (.aload_n 3, 1) := by decide +kernel
theorem dX11_explained_22 : decode cX11_explained 22 = .ok (.lconst 1, 1) := by decide +kernel
theorem dX11_explained_23 : decode cX11_explained 23 = .ok (.iload_n 2, 1) := by decide +kernel
theorem dX11_explained_24 : decode cX11_explained 24 = .ok (.lshl, 1) := by decide +kernel
theorem dX11_explained_25 : decode cX11_explained 25 = .ok (.invokevirtual 296, 3) := by decide +kernel
theorem dX11_explained_28 : decode cX11_explained 28 = .ok (.goto 6, 3) := by decide +kernel
theorem dX11_explained_31 : decode cX11_explained 31 = .ok (.ldc2_w 300, 3) := by decide +kernel
theorem dX11_explained_34 : decode cX11_explained 34 = .ok (.lreturn, 1) := by decide +kernel
theorem dX11_steps_0 : decode cX11_steps 0 = .ok (.aload_n 0, 1) := by decide +kernel
theorem dX11_steps_1 : decode cX11_steps 1 = .ok (.iload_n 1, 1) := by decide +kernel
theorem dX11_steps_2 : decode cX11_steps 2 = .ok (.invokevirtual 142, 3) := by decide +kernel
theorem dX11_steps_5 : decode cX11_steps 5 = .ok (.astore 4, 2) := by decide +kernel
theorem dX11_steps_7 : decode cX11_steps 7 = .ok (.aload 4, 2) := by decide +kernel
theorem dX11_steps_9 : decode cX11_steps 9 = .ok (.ifnonnull 7, 3) := by decide +kernel
theorem dX11_steps_12 : decode cX11_steps 12 = .ok (.sipush (-1001), 3) := by decide +kernel
theorem dX11_steps_15 : decode cX11_steps 15 = .ok (.ireturn, 1) := by decide +kernel
theorem dX11_steps_16 : decode cX11_steps 16 = .ok (.iload_n 2, 1) := by decide +kernel
theorem dX11_steps_17 : decode cX11_steps 17 = .ok (.invokestatic 171, 3) := by decide +kernel
theorem dX11_steps_20 : decode cX11_steps 20 = .ok (.ifCond .eq 20, 3) := by decide +kernel
theorem dX11_steps_23 : decode cX11_steps 23 = .ok (.iload_n 3, 1) := by decide +kernel
theorem dX11_steps_24 : decode cX11_steps 24 = .ok (.invokestatic 171, 3) := by decide +kernel
theorem dX11_steps_27 : decode cX11_steps 27 = .ok (.ifCond .eq 13, 3) := by decide +kernel
theorem dX11_steps_30 : decode cX11_steps 30 = .ok (.aload 4, 2) := by decide +kernel
theorem dX11_steps_32 : decode cX11_steps 32 = .ok (.iload_n 2, 1) := by decide +kernel
theorem dX11_steps_33 : decode cX11_steps 33 = .ok (.iload_n 3, 1) := by decide +kernel
theorem dX11_steps_34 : decode cX11_steps 34 = .ok (.invokevirtual 302, 3) := by decide +kernel
theorem dX11_steps_37 : decode cX11_steps 37 = .ok (.goto 6, 3) := by decide +kernel
theorem dX11_steps_40 : decode cX11_steps 40 = .ok (.sipush (-1002), 3) := by decide +kernel
theorem dX11_steps_43 : decode cX11_steps 43 = .ok (.ireturn, 1) := by decide +kernel
theorem dX11_round_0 : decode cX11_round 0 = .ok (.aload_n 0, 1) := by decide +kernel
theorem dX11_round_1 : decode cX11_round 1 = .ok (.iload_n 1, 1) := by decide +kernel
theorem dX11_round_2 : decode cX11_round 2 = .ok (.invokevirtual 142, 3) := by decide +kernel
theorem dX11_round_5 : decode cX11_round 5 = .ok (.astore_n 2, 1) := by decide +kernel
theorem dX11_round_6 : decode cX11_round 6 = .ok (.aload_n 2, 1) := by decide +kernel
theorem dX11_round_7 : decode cX11_round 7 = .ok (.ifnonnull 7, 3) := by decide +kernel
theorem dX11_round_10 : decode cX11_round 10 = .ok (.ldc2_w 294, 3) := by decide +kernel
theorem dX11_round_13 : decode cX11_round 13 = .ok (.lreturn, 1) := by decide +kernel
theorem dX11_round_14 : decode cX11_round 14 = .ok (.lconst 0, 1) := by decide +kernel
theorem dX11_round_15 : decode cX11_round 15 = .ok (.lstore_n 3, 1) := by decide +kernel
theorem dX11_round_16 : decode cX11_round 16 = .ok (.iconst 0, 1) := by decide +kernel
theorem dX11_round_17 : decode cX11_round 17 = .ok (.istore 5, 2) := by decide +kernel
theorem dX11_round_19 : decode cX11_round 19 = .ok (.iload 5, 2) := by decide +kernel
theorem dX11_round_21 : decode cX11_round 21 = .ok (.bipush 63, 2) := by decide +kernel
theorem dX11_round_23 : decode cX11_round 23 = .ok (.if_icmp .gt 28, 3) := by decide +kernel
theorem dX11_round_26 : decode cX11_round 26 = .ok (.aload_n 2, 1) := by decide +kernel
theorem dX11_round_27 : decode cX11_round 27 = .ok (.iload 5, 2) := by decide +kernel
theorem dX11_round_29 : decode cX11_round 29 = .ok (.iload 5, 2) := by decide +kernel
theorem dX11_round_31 : decode cX11_round 31 = .ok (.invokevirtual 302, 3) := by decide +kernel
theorem dX11_round_34 : decode cX11_round 34 = .ok (.iconst (-1), 1) := by decide +kernel
theorem dX11_round_35 : decode cX11_round 35 = .ok (.if_icmp .eq 10, 3) := by decide +kernel
theorem dX11_round_38 : decode cX11_round 38 = .ok (.lload_n 3, 1) := by decide +kernel
theorem dX11_round_39 : decode cX11_round 39 = .ok (.lconst 1, 1) := by decide +kernel
theorem dX11_round_40 : decode cX11_round 40 = .ok (.iload 5, 2) := by decide +kernel
theorem dX11_round_42 : decode cX11_round 42 = .ok (.lshl, 1) := by decide +kernel
theorem dX11_round_43 : decode cX11_round 43 = .ok (.lor, 1) := by decide +kernel
theorem dX11_round_44 : decode cX11_round 44 = .ok (.lstore_n 3, 1) := by decide +kernel
theorem dX11_round_45 : decode cX11_round 45 = .ok (.iinc 5 1, 3) := by decide +kernel
theorem dX11_round_48 : decode cX11_round 48 = .ok (.goto (-29), 3) := by decide +kernel
theorem dX11_round_51 : decode cX11_round 51 = .ok (.lload_n 3, 1) := by decide +kernel
theorem dX11_round_52 : decode cX11_round 52 = .ok (.lreturn, 1) := by decide +kernel
theorem dX11_bookAt_0 : decode cX11_bookAt 0 = .ok (.iload_n 1, 1) := by decide +kernel
theorem dX11_bookAt_1 : decode cX11_bookAt 1 = .ok (.ifCond .lt 29, 3) := by decide +kernel
theorem dX11_bookAt_4 : decode cX11_bookAt 4 = .ok (.iload_n 1, 1) := by decide +kernel
theorem dX11_bookAt_5 : decode cX11_bookAt 5 = .ok (.aload_n 0, 1) := by decide +kernel
theorem dX11_bookAt_6 : decode cX11_bookAt 6 = .ok (.getfield 77, 3) := by decide +kernel
theorem dX11_bookAt_9 : decode cX11_bookAt 9 = .ok (.if_icmp .ge 21, 3) := by decide +kernel
theorem dX11_bookAt_12 : decode cX11_bookAt 12 = .ok (.iload_n 1, 1) := by decide +kernel
theorem dX11_bookAt_13 : decode cX11_bookAt 13 = .ok (.aload_n 0, 1) := by decide +kernel
theorem dX11_bookAt_14 : decode cX11_bookAt 14 = .ok (.getfield 11, 3) := by decide +kernel
theorem dX11_bookAt_17 : decode cX11_bookAt 17 = .ok (.arraylength, 1) := by decide +kernel
theorem dX11_bookAt_18 : decode cX11_bookAt 18 = .ok (.if_icmp .ge 12, 3) := by decide +kernel
theorem dX11_bookAt_21 : decode cX11_bookAt 21 = .ok (.aload_n 0, 1) := by decide +kernel
theorem dX11_bookAt_22 : decode cX11_bookAt 22 = .ok (.getfield 11, 3) := by decide +kernel
theorem dX11_bookAt_25 : decode cX11_bookAt 25 = .ok (.iload_n 1, 1) := by decide +kernel
theorem dX11_bookAt_26 : decode cX11_bookAt 26 = .ok (.aaload, 1) := by decide +kernel
theorem dX11_bookAt_27 : decode cX11_bookAt 27 = .ok (.goto 4, 3) := by decide +kernel
theorem dX11_bookAt_30 : decode cX11_bookAt 30 = .ok (.aconst_null, 1) := by decide +kernel
theorem dX11_bookAt_31 : decode cX11_bookAt 31 = .ok (.areturn, 1) := by decide +kernel
theorem dX11_freshBook_0 : decode cX11_freshBook 0 = .ok (.aload_n 0, 1) := by decide +kernel
theorem dX11_freshBook_1 : decode cX11_freshBook 1 = .ok (.getfield 77, 3) := by decide +kernel
theorem dX11_freshBook_4 : decode cX11_freshBook 4 = .ok (.ifCond .lt 27, 3) := by decide +kernel
theorem dX11_freshBook_7 : decode cX11_freshBook 7 = .ok (.aload_n 0, 1) := by decide +kernel
theorem dX11_freshBook_8 : decode cX11_freshBook 8 = .ok (.getfield 77, 3) := by decide +kernel
theorem dX11_freshBook_11 : decode cX11_freshBook 11 = .ok (.aload_n 0, 1) := by decide +kernel
theorem dX11_freshBook_12 : decode cX11_freshBook 12 = .ok (.getfield 11, 3) := by decide +kernel
theorem dX11_freshBook_15 : decode cX11_freshBook 15 = .ok (.arraylength, 1) := by decide +kernel
theorem dX11_freshBook_16 : decode cX11_freshBook 16 = .ok (.if_icmp .ge 15, 3) := by decide +kernel
theorem dX11_freshBook_19 : decode cX11_freshBook 19 = .ok (.aload_n 0, 1) := by decide +kernel
theorem dX11_freshBook_20 : decode cX11_freshBook 20 = .ok (.getfield 11, 3) := by decide +kernel
theorem dX11_freshBook_23 : decode cX11_freshBook 23 = .ok (.aload_n 0, 1) := by decide +kernel
theorem dX11_freshBook_24 : decode cX11_freshBook 24 = .ok (.getfield 77, 3) := by decide +kernel
theorem dX11_freshBook_27 : decode cX11_freshBook 27 = .ok (.aaload, 1) := by decide +kernel
theorem dX11_freshBook_28 : decode cX11_freshBook 28 = .ok (.goto 4, 3) := by decide +kernel
theorem dX11_freshBook_31 : decode cX11_freshBook 31 = .ok (.aconst_null, 1) := by decide +kernel
theorem dX11_freshBook_32 : decode cX11_freshBook 32 = .ok (.areturn, 1) := by decide +kernel
theorem dX11_handAt_0 : decode cX11_handAt 0 = .ok (.iload_n 1, 1) := by decide +kernel
theorem dX11_handAt_1 : decode cX11_handAt 1 = .ok (.ifCond .lt 21, 3) := by decide +kernel
theorem dX11_handAt_4 : decode cX11_handAt 4 = .ok (.iload_n 1, 1) := by decide +kernel
theorem dX11_handAt_5 : decode cX11_handAt 5 = .ok (.aload_n 0, 1) := by decide +kernel
theorem dX11_handAt_6 : decode cX11_handAt 6 = .ok (.getfield 17, 3) := by decide +kernel
theorem dX11_handAt_9 : decode cX11_handAt 9 = .ok (.arraylength, 1) := by decide +kernel
theorem dX11_handAt_10 : decode cX11_handAt 10 = .ok (.if_icmp .ge 12, 3) := by decide +kernel
theorem dX11_handAt_13 : decode cX11_handAt 13 = .ok (.aload_n 0, 1) := by decide +kernel
theorem dX11_handAt_14 : decode cX11_handAt 14 = .ok (.getfield 17, 3) := by decide +kernel
theorem dX11_handAt_17 : decode cX11_handAt 17 = .ok (.iload_n 1, 1) := by decide +kernel
theorem dX11_handAt_18 : decode cX11_handAt 18 = .ok (.aaload, 1) := by decide +kernel
theorem dX11_handAt_19 : decode cX11_handAt 19 = .ok (.goto 4, 3) := by decide +kernel
theorem dX11_handAt_22 : decode cX11_handAt 22 = .ok (.aconst_null, 1) := by decide +kernel
theorem dX11_handAt_23 : decode cX11_handAt 23 = .ok (.areturn, 1) := by decide +kernel
theorem dX11_endReading_0 : decode cX11_endReading 0 = .ok (.aload_n 0, 1) := by decide +kernel
theorem dX11_endReading_1 : decode cX11_endReading 1 = .ok (.getfield 29, 3) := by decide +kernel
theorem dX11_endReading_4 : decode cX11_endReading 4 = .ok (.getfield 85, 3) := by decide +kernel
theorem dX11_endReading_7 : decode cX11_endReading 7 = .ok (.invokevirtual 305, 3) := by decide +kernel
theorem dX11_endReading_10 : decode cX11_endReading 10 = .ok (.aload_n 0, 1) := by decide +kernel
theorem dX11_endReading_11 : decode cX11_endReading 11 = .ok (.aload_n 0, 1) := by decide +kernel
theorem dX11_endReading_12 : decode cX11_endReading 12 = .ok (.getfield 29, 3) := by decide +kernel
theorem dX11_endReading_15 : decode cX11_endReading 15 = .ok (.getfield 308, 3) := by decide +kernel
theorem dX11_endReading_18 : decode cX11_endReading 18 = .ok (.putfield 81, 3) := by decide +kernel
theorem dX11_endReading_21 : decode cX11_endReading 21 = .ok (.aload_n 0, 1) := by decide +kernel
theorem dX11_endReading_22 : decode cX11_endReading 22 = .ok (.getfield 29, 3) := by decide +kernel
theorem dX11_endReading_25 : decode cX11_endReading 25 = .ok (.getfield 106, 3) := by decide +kernel
theorem dX11_endReading_28 : decode cX11_endReading 28 = .ok (.ireturn, 1) := by decide +kernel
theorem dX11_copyCount_0 : decode cX11_copyCount 0 = .ok (.iconst 0, 1) := by decide +kernel
theorem dX11_copyCount_1 : decode cX11_copyCount 1 = .ok (.istore_n 1, 1) := by decide +kernel
theorem dX11_copyCount_2 : decode cX11_copyCount 2 = .ok (.iconst 0, 1) := by decide +kernel
theorem dX11_copyCount_3 : decode cX11_copyCount 3 = .ok (.istore_n 2, 1) := by decide +kernel
theorem dX11_copyCount_4 : decode cX11_copyCount 4 = .ok (.iload_n 2, 1) := by decide +kernel
theorem dX11_copyCount_5 : decode cX11_copyCount 5 = .ok (.aload_n 0, 1) := by decide +kernel
theorem dX11_copyCount_6 : decode cX11_copyCount 6 = .ok (.getfield 77, 3) := by decide +kernel
theorem dX11_copyCount_9 : decode cX11_copyCount 9 = .ok (.if_icmp .ge 30, 3) := by decide +kernel
theorem dX11_copyCount_12 : decode cX11_copyCount 12 = .ok (.aload_n 0, 1) := by decide +kernel
theorem dX11_copyCount_13 : decode cX11_copyCount 13 = .ok (.iload_n 2, 1) := by decide +kernel
theorem dX11_copyCount_14 : decode cX11_copyCount 14 = .ok (.invokevirtual 142, 3) := by decide +kernel
theorem dX11_copyCount_17 : decode cX11_copyCount 17 = .ok (.astore_n 3, 1) := by decide +kernel
theorem dX11_copyCount_18 : decode cX11_copyCount 18 = .ok (.aload_n 3, 1) := by decide +kernel
theorem dX11_copyCount_19 : decode cX11_copyCount 19 = .ok (.ifnull 14, 3) := by decide +kernel
theorem dX11_copyCount_22 : decode cX11_copyCount 22 = .ok (.aload_n 3, 1) := by decide +kernel
theorem dX11_copyCount_23 : decode cX11_copyCount 23 = .ok (.getfield 149, 3) := by decide +kernel
theorem dX11_copyCount_26 : decode cX11_copyCount 26 = .ok (.iconst (-1), 1) := by decide +kernel
theorem dX11_copyCount_27 : decode cX11_copyCount 27 = .ok (.if_icmp .eq 6, 3) := by decide +kernel
theorem dX11_copyCount_30 : decode cX11_copyCount 30 = .ok (.iinc 1 1, 3) := by decide +kernel
theorem dX11_copyCount_33 : decode cX11_copyCount 33 = .ok (.iinc 2 1, 3) := by decide +kernel
theorem dX11_copyCount_36 : decode cX11_copyCount 36 = .ok (.goto (-32), 3) := by decide +kernel
theorem dX11_copyCount_39 : decode cX11_copyCount 39 = .ok (.iload_n 1, 1) := by decide +kernel
theorem dX11_copyCount_40 : decode cX11_copyCount 40 = .ok (.ireturn, 1) := by decide +kernel
theorem dX11_isSetOfBooks_0 : decode cX11_isSetOfBooks 0 = .ok (.iload_n 1, 1) := by decide +kernel
theorem dX11_isSetOfBooks_1 : decode cX11_isSetOfBooks 1 = .ok (.aload_n 0, 1) := by decide +kernel
theorem dX11_isSetOfBooks_2 : decode cX11_isSetOfBooks 2 = .ok (.getfield 77, 3) := by decide +kernel
theorem dX11_isSetOfBooks_5 : decode cX11_isSetOfBooks 5 = .ok (.iushr, 1) := by decide +kernel
theorem dX11_isSetOfBooks_6 : decode cX11_isSetOfBooks 6 = .ok (.ifCond .ne 7, 3) := by decide +kernel
theorem dX11_isSetOfBooks_9 : decode cX11_isSetOfBooks 9 = .ok (.iconst 1, 1) := by decide +kernel
theorem dX11_isSetOfBooks_10 : decode cX11_isSetOfBooks 10 = .ok (.goto 4, 3) := by decide +kernel
theorem dX11_isSetOfBooks_13 : decode cX11_isSetOfBooks 13 = .ok (.iconst 0, 1) := by decide +kernel
theorem dX11_isSetOfBooks_14 : decode cX11_isSetOfBooks 14 = .ok (.ireturn, 1) := by decide +kernel
theorem dX11_isIn_0 : decode cX11_isIn 0 = .ok (.iload_n 1, 1) := by decide +kernel
theorem dX11_isIn_1 : decode cX11_isIn 1 = .ok (.ifCond .lt 22, 3) := by decide +kernel
theorem dX11_isIn_4 : decode cX11_isIn 4 = .ok (.iload_n 1, 1) := by decide +kernel
theorem dX11_isIn_5 : decode cX11_isIn 5 = .ok (.bipush 10, 2) := by decide +kernel
theorem dX11_isIn_7 : decode cX11_isIn 7 = .ok (.if_icmp .ge 16, 3) := by decide +kernel
theorem dX11_isIn_10 : decode cX11_isIn 10 = .ok (.iload_n 0, 1) := by decide +kernel
theorem dX11_isIn_11 : decode cX11_isIn 11 = .ok (.iload_n 1, 1) := by decide +kernel
theorem dX11_isIn_12 : decode cX11_isIn 12 = .ok (.ishr, 1) := by decide +kernel
theorem dX11_isIn_13 : decode cX11_isIn 13 = .ok (.iconst 1, 1) := by decide +kernel
theorem dX11_isIn_14 : decode cX11_isIn 14 = .ok (.iand, 1) := by decide +kernel
theorem dX11_isIn_15 : decode cX11_isIn 15 = .ok (.iconst 1, 1) := by decide +kernel
theorem dX11_isIn_16 : decode cX11_isIn 16 = .ok (.if_icmp .ne 7, 3) := by decide +kernel
theorem dX11_isIn_19 : decode cX11_isIn 19 = .ok (.iconst 1, 1) := by decide +kernel
theorem dX11_isIn_20 : decode cX11_isIn 20 = .ok (.goto 4, 3) := by decide +kernel
theorem dX11_isIn_23 : decode cX11_isIn 23 = .ok (.iconst 0, 1) := by decide +kernel
theorem dX11_isIn_24 : decode cX11_isIn 24 = .ok (.ireturn, 1) := by decide +kernel
theorem dX11_isWord_0 : decode cX11_isWord 0 = .ok (.iload_n 0, 1) := by decide +kernel
theorem dX11_isWord_1 : decode cX11_isWord 1 = .ok (.ifCond .lt 13, 3) := by decide +kernel
theorem dX11_isWord_4 : decode cX11_isWord 4 = .ok (.iload_n 0, 1) := by decide +kernel
theorem dX11_isWord_5 : decode cX11_isWord 5 = .ok (.bipush 63, 2) := by decide +kernel
theorem dX11_isWord_7 : decode cX11_isWord 7 = .ok (.if_icmp .gt 7, 3) := by decide +kernel
theorem dX11_isWord_10 : decode cX11_isWord 10 = .ok (.iconst 1, 1) := by decide +kernel
theorem dX11_isWord_11 : decode cX11_isWord 11 = .ok (.goto 4, 3) := by decide +kernel
theorem dX11_isWord_14 : decode cX11_isWord 14 = .ok (.iconst 0, 1) := by decide +kernel
theorem dX11_isWord_15 : decode cX11_isWord 15 = .ok (.ireturn, 1) := by decide +kernel
theorem dX11_hearWitnesses_0 : decode cX11_hearWitnesses 0 = .ok (.aload_n 0, 1) := by decide +kernel
theorem dX11_hearWitnesses_1 : decode cX11_hearWitnesses 1 = .ok (.iload_n 1, 1) := by decide +kernel
theorem dX11_hearWitnesses_2 : decode cX11_hearWitnesses 2 = .ok (.invokevirtual 142, 3) := by decide +kernel
theorem dX11_hearWitnesses_5 : decode cX11_hearWitnesses 5 = .ok (.astore_n 3, 1) := by decide +kernel
theorem dX11_hearWitnesses_6 : decode cX11_hearWitnesses 6 = .ok (.aload_n 3, 1) := by decide +kernel
theorem dX11_hearWitnesses_7 : decode cX11_hearWitnesses 7 = .ok (.ifnonnull 4, 3) := by decide +kernel
theorem dX11_hearWitnesses_10 : decode cX11_hearWitnesses 10 = .ok (.return_, 1) := by decide +kernel
theorem dX11_hearWitnesses_11 : decode cX11_hearWitnesses 11 = .ok (.aload_n 0, 1) := by decide +kernel
theorem dX11_hearWitnesses_12 : decode cX11_hearWitnesses 12 = .ok (.getfield 57, 3) := by decide +kernel
theorem dX11_hearWitnesses_15 : decode cX11_hearWitnesses 15 = .ok (.iload_n 1, 1) := by decide +kernel
theorem dX11_hearWitnesses_16 : decode cX11_hearWitnesses 16 = .ok (.iload_n 2, 1) := by decide +kernel
theorem dX11_hearWitnesses_17 : decode cX11_hearWitnesses 17 = .ok (.aload_n 3, 1) := by decide +kernel
theorem dX11_hearWitnesses_18 : decode cX11_hearWitnesses 18 = .ok (.getfield 164, 3) := by decide +kernel
theorem dX11_hearWitnesses_21 : decode cX11_hearWitnesses 21 = .ok (.invokevirtual 88, 3) := by decide +kernel
theorem dX11_hearWitnesses_24 : decode cX11_hearWitnesses 24 = .ok (.invokevirtual 309, 3) := by decide +kernel
theorem dX11_hearWitnesses_27 : decode cX11_hearWitnesses 27 = .ok (.iconst 0, 1) := by decide +kernel
theorem dX11_hearWitnesses_28 : decode cX11_hearWitnesses 28 = .ok (.istore 4, 2) := by decide +kernel
theorem dX11_hearWitnesses_30 : decode cX11_hearWitnesses 30 = .ok (.iload 4, 2) := by decide +kernel
theorem dX11_hearWitnesses_32 : decode cX11_hearWitnesses 32 = .ok (.aload_n 0, 1) := by decide +kernel
theorem dX11_hearWitnesses_33 : decode cX11_hearWitnesses 33 = .ok (.getfield 77, 3) := by decide +kernel
theorem dX11_hearWitnesses_36 : decode cX11_hearWitnesses 36 = .ok (.if_icmp .ge 105, 3) := by decide +kernel
theorem dX11_hearWitnesses_39 : decode cX11_hearWitnesses 39 = .ok (.aload_n 0, 1) := by decide +kernel
theorem dX11_hearWitnesses_40 : decode cX11_hearWitnesses 40 = .ok (.iload 4, 2) := by decide +kernel
theorem dX11_hearWitnesses_42 : decode cX11_hearWitnesses 42 = .ok (.invokevirtual 142, 3) := by decide +kernel
theorem dX11_hearWitnesses_45 : decode cX11_hearWitnesses 45 = .ok (.astore 5, 2) := by decide +kernel
theorem dX11_hearWitnesses_47 : decode cX11_hearWitnesses 47 = .ok (.aload 5, 2) := by decide +kernel
theorem dX11_hearWitnesses_49 : decode cX11_hearWitnesses 49 = .ok (.ifnull 86, 3) := by decide +kernel
theorem dX11_hearWitnesses_52 : decode cX11_hearWitnesses 52 = .ok (.iload 4, 2) := by decide +kernel
theorem dX11_hearWitnesses_54 : decode cX11_hearWitnesses 54 = .ok (.iload_n 1, 1) := by decide +kernel
theorem dX11_hearWitnesses_55 : decode cX11_hearWitnesses 55 = .ok (.if_icmp .eq 12, 3) := by decide +kernel
theorem dX11_hearWitnesses_58 : decode cX11_hearWitnesses 58 = .ok (.iload_n 2, 1) := by decide +kernel
theorem dX11_hearWitnesses_59 : decode cX11_hearWitnesses 59 = .ok (.iload 4, 2) := by decide +kernel
theorem dX11_hearWitnesses_61 : decode cX11_hearWitnesses 61 = .ok (.invokestatic 278, 3) := by decide +kernel
theorem dX11_hearWitnesses_64 : decode cX11_hearWitnesses 64 = .ok (.ifCond .eq 71, 3) := by decide +kernel
theorem dX11_hearWitnesses_67 : decode cX11_hearWitnesses 67 = .ok (.aload_n 0, 1) := by decide +kernel
theorem dX11_hearWitnesses_68 : decode cX11_hearWitnesses 68 = .ok (.getfield 50, 3) := by decide +kernel
theorem dX11_hearWitnesses_71 : decode cX11_hearWitnesses 71 = .ok (.aload_n 3, 1) := by decide +kernel
theorem dX11_hearWitnesses_72 : decode cX11_hearWitnesses 72 = .ok (.getfield 164, 3) := by decide +kernel
theorem dX11_hearWitnesses_75 : decode cX11_hearWitnesses 75 = .ok (.aload 5, 2) := by decide +kernel
theorem dX11_hearWitnesses_77 : decode cX11_hearWitnesses 77 = .ok (.getfield 164, 3) := by decide +kernel
theorem dX11_hearWitnesses_80 : decode cX11_hearWitnesses 80 = .ok (.invokevirtual 237, 3) := by decide +kernel
theorem dX11_hearWitnesses_83 : decode cX11_hearWitnesses 83 = .ok (.iconst 0, 1) := by decide +kernel
theorem dX11_hearWitnesses_84 : decode cX11_hearWitnesses 84 = .ok (.istore 6, 2) := by decide +kernel
theorem dX11_hearWitnesses_86 : decode cX11_hearWitnesses 86 = .ok (.iload 6, 2) := by decide +kernel
theorem dX11_hearWitnesses_88 : decode cX11_hearWitnesses 88 = .ok (.aload_n 3, 1) := by decide +kernel
theorem dX11_hearWitnesses_89 : decode cX11_hearWitnesses 89 = .ok (.getfield 164, 3) := by decide +kernel
theorem dX11_hearWitnesses_92 : decode cX11_hearWitnesses 92 = .ok (.invokevirtual 88, 3) := by decide +kernel
theorem dX11_hearWitnesses_95 : decode cX11_hearWitnesses 95 = .ok (.if_icmp .ge 40, 3) := by decide +kernel
theorem dX11_hearWitnesses_98 : decode cX11_hearWitnesses 98 = .ok (.aload_n 0, 1) := by decide +kernel
theorem dX11_hearWitnesses_99 : decode cX11_hearWitnesses 99 = .ok (.getfield 57, 3) := by decide +kernel
theorem dX11_hearWitnesses_102 : decode cX11_hearWitnesses 102 = .ok (.iload 4, 2) := by decide +kernel
theorem dX11_hearWitnesses_104 : decode cX11_hearWitnesses 104 = .ok (.iload 6, 2) := by decide +kernel
theorem dX11_hearWitnesses_106 : decode cX11_hearWitnesses 106 = .ok (.aload 5, 2) := by decide +kernel
theorem dX11_hearWitnesses_108 : decode cX11_hearWitnesses 108 = .ok (.getfield 164, 3) := by decide +kernel
theorem dX11_hearWitnesses_111 : decode cX11_hearWitnesses 111 = .ok (.aload_n 0, 1) := by decide +kernel
theorem dX11_hearWitnesses_112 : decode cX11_hearWitnesses 112 = .ok (.getfield 50, 3) := by decide +kernel
theorem dX11_hearWitnesses_115 : decode cX11_hearWitnesses 115 = .ok (.getfield 241, 3) := by decide +kernel
theorem dX11_hearWitnesses_118 : decode cX11_hearWitnesses 118 = .ok (.iload 6, 2) := by decide +kernel
theorem dX11_hearWitnesses_120 : decode cX11_hearWitnesses 120 = .ok (.invokevirtual 132, 3) := by decide +kernel
theorem dX11_hearWitnesses_123 : decode cX11_hearWitnesses 123 = .ok (.invokevirtual 132, 3) := by decide +kernel
theorem dX11_hearWitnesses_126 : decode cX11_hearWitnesses 126 = .ok (.invokevirtual 313, 3) := by decide +kernel
theorem dX11_hearWitnesses_129 : decode cX11_hearWitnesses 129 = .ok (.iinc 6 1, 3) := by decide +kernel
theorem dX11_hearWitnesses_132 : decode cX11_hearWitnesses 132 = .ok (.goto (-46), 3) := by decide +kernel
theorem dX11_hearWitnesses_135 : decode cX11_hearWitnesses 135 = .ok (.iinc 4 1, 3) := by decide +kernel
theorem dX11_hearWitnesses_138 : decode cX11_hearWitnesses 138 = .ok (.goto (-108), 3) := by decide +kernel
theorem dX11_hearWitnesses_141 : decode cX11_hearWitnesses 141 = .ok (.return_, 1) := by decide +kernel
theorem dX11_growTree_0 : decode cX11_growTree 0 = .ok (.aload_n 0, 1) := by decide +kernel
theorem dX11_growTree_1 : decode cX11_growTree 1 = .ok (.getfield 64, 3) := by decide +kernel
theorem dX11_growTree_4 : decode cX11_growTree 4 = .ok (.invokevirtual 316, 3) := by decide +kernel
theorem dX11_growTree_7 : decode cX11_growTree 7 = .ok (.iconst 0, 1) := by decide +kernel
theorem dX11_growTree_8 : decode cX11_growTree 8 = .ok (.istore_n 3, 1) := by decide +kernel
theorem dX11_growTree_9 : decode cX11_growTree 9 = .ok (.iload_n 3, 1) := by decide +kernel
theorem dX11_growTree_10 : decode cX11_growTree 10 = .ok (.aload_n 0, 1) := by decide +kernel
theorem dX11_growTree_11 : decode cX11_growTree 11 = .ok (.getfield 77, 3) := by decide +kernel
theorem dX11_growTree_14 : decode cX11_growTree 14 = .ok (.if_icmp .ge 93, 3) := by decide +kernel
theorem dX11_growTree_17 : decode cX11_growTree 17 = .ok (.iconst 0, 1) := by decide +kernel
theorem dX11_growTree_18 : decode cX11_growTree 18 = .ok (.istore 4, 2) := by decide +kernel
theorem dX11_growTree_20 : decode cX11_growTree 20 = .ok (.iload 4, 2) := by decide +kernel
theorem dX11_growTree_22 : decode cX11_growTree 22 = .ok (.iload_n 3, 1) := by decide +kernel
theorem dX11_growTree_23 : decode cX11_growTree 23 = .ok (.if_icmp .ge 78, 3) := by decide +kernel
theorem dX11_growTree_26 : decode cX11_growTree 26 = .ok (.aload_n 0, 1) := by decide +kernel
theorem dX11_growTree_27 : decode cX11_growTree 27 = .ok (.iload_n 3, 1) := by decide +kernel
theorem dX11_growTree_28 : decode cX11_growTree 28 = .ok (.invokevirtual 142, 3) := by decide +kernel
theorem dX11_growTree_31 : decode cX11_growTree 31 = .ok (.astore 5, 2) := by decide +kernel
theorem dX11_growTree_33 : decode cX11_growTree 33 = .ok (.aload_n 0, 1) := by decide +kernel
theorem dX11_growTree_34 : decode cX11_growTree 34 = .ok (.iload 4, 2) := by decide +kernel
theorem dX11_growTree_36 : decode cX11_growTree 36 = .ok (.invokevirtual 142, 3) := by decide +kernel
theorem dX11_growTree_39 : decode cX11_growTree 39 = .ok (.astore 6, 2) := by decide +kernel
theorem dX11_growTree_41 : decode cX11_growTree 41 = .ok (.aload 5, 2) := by decide +kernel
theorem dX11_growTree_43 : decode cX11_growTree 43 = .ok (.ifnull 52, 3) := by decide +kernel
theorem dX11_growTree_46 : decode cX11_growTree 46 = .ok (.aload 6, 2) := by decide +kernel
theorem dX11_growTree_48 : decode cX11_growTree 48 = .ok (.ifnull 47, 3) := by decide +kernel
theorem dX11_growTree_51 : decode cX11_growTree 51 = .ok (.iload_n 2, 1) := by decide +kernel
theorem dX11_growTree_52 : decode cX11_growTree 52 = .ok (.iload_n 3, 1) := by decide +kernel
theorem dX11_growTree_53 : decode cX11_growTree 53 = .ok (.invokestatic 278, 3) := by decide +kernel
theorem dX11_growTree_56 : decode cX11_growTree 56 = .ok (.ifCond .eq 39, 3) := by decide +kernel
theorem dX11_growTree_59 : decode cX11_growTree 59 = .ok (.iload_n 2, 1) := by decide +kernel
theorem dX11_growTree_60 : decode cX11_growTree 60 = .ok (.iload 4, 2) := by decide +kernel
theorem dX11_growTree_62 : decode cX11_growTree 62 = .ok (.invokestatic 278, 3) := by decide +kernel
theorem dX11_growTree_65 : decode cX11_growTree 65 = .ok (.ifCond .eq 30, 3) := by decide +kernel
theorem dX11_growTree_68 : decode cX11_growTree 68 = .ok (.aload_n 0, 1) := by decide +kernel
theorem dX11_growTree_69 : decode cX11_growTree 69 = .ok (.getfield 64, 3) := by decide +kernel
theorem dX11_growTree_72 : decode cX11_growTree 72 = .ok (.iload_n 3, 1) := by decide +kernel
theorem dX11_growTree_73 : decode cX11_growTree 73 = .ok (.iload 4, 2) := by decide +kernel
theorem dX11_growTree_75 : decode cX11_growTree 75 = .ok (.aload_n 0, 1) := by decide +kernel
theorem dX11_growTree_76 : decode cX11_growTree 76 = .ok (.getfield 50, 3) := by decide +kernel
theorem dX11_growTree_79 : decode cX11_growTree 79 = .ok (.aload 5, 2) := by decide +kernel
theorem dX11_growTree_81 : decode cX11_growTree 81 = .ok (.getfield 164, 3) := by decide +kernel
theorem dX11_growTree_84 : decode cX11_growTree 84 = .ok (.aload 6, 2) := by decide +kernel
theorem dX11_growTree_86 : decode cX11_growTree 86 = .ok (.getfield 164, 3) := by decide +kernel
theorem dX11_growTree_89 : decode cX11_growTree 89 = .ok (.invokevirtual 233, 3) := by decide +kernel
theorem dX11_growTree_92 : decode cX11_growTree 92 = .ok (.invokevirtual 318, 3) := by decide +kernel
theorem dX11_growTree_95 : decode cX11_growTree 95 = .ok (.iinc 4 1, 3) := by decide +kernel
theorem dX11_growTree_98 : decode cX11_growTree 98 = .ok (.goto (-78), 3) := by decide +kernel
theorem dX11_growTree_101 : decode cX11_growTree 101 = .ok (.iinc 3 1, 3) := by decide +kernel
theorem dX11_growTree_104 : decode cX11_growTree 104 = .ok (.goto (-95), 3) := by decide +kernel
theorem dX11_growTree_107 : decode cX11_growTree 107 = .ok (.aload_n 0, 1) := by decide +kernel
theorem dX11_growTree_108 : decode cX11_growTree 108 = .ok (.getfield 64, 3) := by decide +kernel
theorem dX11_growTree_111 : decode cX11_growTree 111 = .ok (.iload_n 1, 1) := by decide +kernel
theorem dX11_growTree_112 : decode cX11_growTree 112 = .ok (.iload_n 2, 1) := by decide +kernel
theorem dX11_growTree_113 : decode cX11_growTree 113 = .ok (.invokevirtual 321, 3) := by decide +kernel
theorem dX11_growTree_116 : decode cX11_growTree 116 = .ok (.return_, 1) := by decide +kernel
theorem dX11_astray_0 : decode cX11_astray 0 = .ok (.iconst 0, 1) := by decide +kernel
theorem dX11_astray_1 : decode cX11_astray 1 = .ok (.istore_n 3, 1) := by decide +kernel
theorem dX11_astray_2 : decode cX11_astray 2 = .ok (.iconst 0, 1) := by decide +kernel
theorem dX11_astray_3 : decode cX11_astray 3 = .ok (.istore 4, 2) := by decide +kernel
theorem dX11_astray_5 : decode cX11_astray 5 = .ok (.iload 4, 2) := by decide +kernel
theorem dX11_astray_7 : decode cX11_astray 7 = .ok (.aload_n 0, 1) := by decide +kernel
theorem dX11_astray_8 : decode cX11_astray 8 = .ok (.getfield 77, 3) := by decide +kernel
theorem dX11_astray_11 : decode cX11_astray 11 = .ok (.if_icmp .ge 60, 3) := by decide +kernel
theorem dX11_astray_14 : decode cX11_astray 14 = .ok (.aload_n 0, 1) := by decide +kernel
theorem dX11_astray_15 : decode cX11_astray 15 = .ok (.iload 4, 2) := by decide +kernel
theorem dX11_astray_17 : decode cX11_astray 17 = .ok (.invokevirtual 142, 3) := by decide +kernel
theorem dX11_astray_20 : decode cX11_astray 20 = .ok (.astore 5, 2) := by decide +kernel
theorem dX11_astray_22 : decode cX11_astray 22 = .ok (.aload 5, 2) := by decide +kernel
theorem dX11_astray_24 : decode cX11_astray 24 = .ok (.ifnull 41, 3) := by decide +kernel
theorem dX11_astray_27 : decode cX11_astray 27 = .ok (.iload 4, 2) := by decide +kernel
theorem dX11_astray_29 : decode cX11_astray 29 = .ok (.iload_n 1, 1) := by decide +kernel
theorem dX11_astray_30 : decode cX11_astray 30 = .ok (.if_icmp .eq 35, 3) := by decide +kernel
theorem dX11_astray_33 : decode cX11_astray 33 = .ok (.iload_n 2, 1) := by decide +kernel
theorem dX11_astray_34 : decode cX11_astray 34 = .ok (.iload 4, 2) := by decide +kernel
theorem dX11_astray_36 : decode cX11_astray 36 = .ok (.invokestatic 278, 3) := by decide +kernel
theorem dX11_astray_39 : decode cX11_astray 39 = .ok (.ifCond .eq 26, 3) := by decide +kernel
theorem dX11_astray_42 : decode cX11_astray 42 = .ok (.aload_n 0, 1) := by decide +kernel
theorem dX11_astray_43 : decode cX11_astray 43 = .ok (.getfield 64, 3) := by decide +kernel
theorem dX11_astray_46 : decode cX11_astray 46 = .ok (.getfield 285, 3) := by decide +kernel
theorem dX11_astray_49 : decode cX11_astray 49 = .ok (.iload 4, 2) := by decide +kernel
theorem dX11_astray_51 : decode cX11_astray 51 = .ok (.invokevirtual 132, 3) := by decide +kernel
theorem dX11_astray_54 : decode cX11_astray 54 = .ok (.aload 5, 2) := by decide +kernel
theorem dX11_astray_56 : decode cX11_astray 56 = .ok (.getfield 149, 3) := by decide +kernel
theorem dX11_astray_59 : decode cX11_astray 59 = .ok (.if_icmp .eq 6, 3) := by decide +kernel
theorem dX11_astray_62 : decode cX11_astray 62 = .ok (.iinc 3 1, 3) := by decide +kernel
theorem dX11_astray_65 : decode cX11_astray 65 = .ok (.iinc 4 1, 3) := by decide +kernel
theorem dX11_astray_68 : decode cX11_astray 68 = .ok (.goto (-63), 3) := by decide +kernel
theorem dX11_astray_71 : decode cX11_astray 71 = .ok (.iload_n 3, 1) := by decide +kernel
theorem dX11_astray_72 : decode cX11_astray 72 = .ok (.ireturn, 1) := by decide +kernel
theorem dX12_init_0 : decode cX12_init 0 = .ok (.aload_n 0, 1) := by decide +kernel
theorem dX12_init_1 : decode cX12_init 1 = .ok (.invokespecial 1, 3) := by decide +kernel
theorem dX12_init_4 : decode cX12_init 4 = .ok (.aload_n 0, 1) := by decide +kernel
theorem dX12_init_5 : decode cX12_init 5 = .ok (.bipush 11, 2) := by decide +kernel
theorem dX12_init_7 : decode cX12_init 7 = .ok (.newarray .int, 2) := by decide +kernel
theorem dX12_init_9 : decode cX12_init 9 = .ok (.putfield 7, 3) := by decide +kernel
theorem dX12_init_12 : decode cX12_init 12 = .ok (.aload_n 0, 1) := by decide +kernel
theorem dX12_init_13 : decode cX12_init 13 = .ok (.sipush 440, 3) := by decide +kernel
theorem dX12_init_16 : decode cX12_init 16 = .ok (.newarray .int, 2) := by decide +kernel
theorem dX12_init_18 : decode cX12_init 18 = .ok (.putfield 13, 3) := by decide +kernel
theorem dX12_init_21 : decode cX12_init 21 = .ok (.aload_n 0, 1) := by decide +kernel
theorem dX12_init_22 : decode cX12_init 22 = .ok (.sipush 440, 3) := by decide +kernel
theorem dX12_init_25 : decode cX12_init 25 = .ok (.newarray .int, 2) := by decide +kernel
theorem dX12_init_27 : decode cX12_init 27 = .ok (.putfield 16, 3) := by decide +kernel
theorem dX12_init_30 : decode cX12_init 30 = .ok (.aload_n 0, 1) := by decide +kernel
theorem dX12_init_31 : decode cX12_init 31 = .ok (.bipush 11, 2) := by decide +kernel
theorem dX12_init_33 : decode cX12_init 33 = .ok (.newarray .int, 2) := by decide +kernel
theorem dX12_init_35 : decode cX12_init 35 = .ok (.putfield 19, 3) := by decide +kernel
theorem dX12_init_38 : decode cX12_init 38 = .ok (.aload_n 0, 1) := by decide +kernel
theorem dX12_init_39 : decode cX12_init 39 = .ok (.sipush 220, 3) := by decide +kernel
theorem dX12_init_42 : decode cX12_init 42 = .ok (.newarray .int, 2) := by decide +kernel
theorem dX12_init_44 : decode cX12_init 44 = .ok (.putfield 22, 3) := by decide +kernel
theorem dX12_init_47 : decode cX12_init 47 = .ok (.aload_n 0, 1) := by decide +kernel
theorem dX12_init_48 : decode cX12_init 48 = .ok (.sipush 220, 3) := by decide +kernel
theorem dX12_init_51 : decode cX12_init 51 = .ok (.newarray .int, 2) := by decide +kernel
theorem dX12_init_53 : decode cX12_init 53 = .ok (.putfield 25, 3) := by decide +kernel
theorem dX12_init_56 : decode cX12_init 56 = .ok (.aload_n 0, 1) := by decide +kernel
theorem dX12_init_57 : decode cX12_init 57 = .ok (.sipush 220, 3) := by decide +kernel
theorem dX12_init_60 : decode cX12_init 60 = .ok (.newarray .int, 2) := by decide +kernel
theorem dX12_init_62 : decode cX12_init 62 = .ok (.putfield 28, 3) := by decide +kernel
theorem dX12_init_65 : decode cX12_init 65 = .ok (.aload_n 0, 1) := by decide +kernel
theorem dX12_init_66 : decode cX12_init 66 = .ok (.sipush 220, 3) := by decide +kernel
theorem dX12_init_69 : decode cX12_init 69 = .ok (.newarray .int, 2) := by decide +kernel
theorem dX12_init_71 : decode cX12_init 71 = .ok (.putfield 31, 3) := by decide +kernel
theorem dX12_init_74 : decode cX12_init 74 = .ok (.aload_n 0, 1) := by decide +kernel
theorem dX12_init_75 : decode cX12_init 75 = .ok (.sipush 1760, 3) := by decide +kernel
theorem dX12_init_78 : decode cX12_init 78 = .ok (.newarray .int, 2) := by decide +kernel
theorem dX12_init_80 : decode cX12_init 80 = .ok (.putfield 34, 3) := by decide +kernel
theorem dX12_init_83 : decode cX12_init 83 = .ok (.aload_n 0, 1) := by decide +kernel
theorem dX12_init_84 : decode cX12_init 84 = .ok (.sipush 1760, 3) := by decide +kernel
theorem dX12_init_87 : decode cX12_init 87 = .ok (.newarray .int, 2) := by decide +kernel
theorem dX12_init_89 : decode cX12_init 89 = .ok (.putfield 37, 3) := by decide +kernel
theorem dX12_init_92 : decode cX12_init 92 = .ok (.aload_n 0, 1) := by decide +kernel
theorem dX12_init_93 : decode cX12_init 93 = .ok (.bipush 11, 2) := by decide +kernel
theorem dX12_init_95 : decode cX12_init 95 = .ok (.newarray .int, 2) := by decide +kernel
theorem dX12_init_97 : decode cX12_init 97 = .ok (.putfield 40, 3) := by decide +kernel
theorem dX12_init_100 : decode cX12_init 100 = .ok (.aload_n 0, 1) := by decide +kernel
theorem dX12_init_101 : decode cX12_init 101 = .ok (.bipush 11, 2) := by decide +kernel
theorem dX12_init_103 : decode cX12_init 103 = .ok (.newarray .int, 2) := by decide +kernel
theorem dX12_init_105 : decode cX12_init 105 = .ok (.putfield 43, 3) := by decide +kernel
theorem dX12_init_108 : decode cX12_init 108 = .ok (.aload_n 0, 1) := by decide +kernel
theorem dX12_init_109 : decode cX12_init 109 = .ok (.bipush 66, 2) := by decide +kernel
theorem dX12_init_111 : decode cX12_init 111 = .ok (.newarray .int, 2) := by decide +kernel
theorem dX12_init_113 : decode cX12_init 113 = .ok (.putfield 46, 3) := by decide +kernel
theorem dX12_init_116 : decode cX12_init 116 = .ok (.aload_n 0, 1) := by decide +kernel
theorem dX12_init_117 : decode cX12_init 117 = .ok (.bipush 66, 2) := by decide +kernel
theorem dX12_init_119 : decode cX12_init 119 = .ok (.newarray .int, 2) := by decide +kernel
theorem dX12_init_121 : decode cX12_init 121 = .ok (.putfield 49, 3) := by decide +kernel
theorem dX12_init_124 : decode cX12_init 124 = .ok (.aload_n 0, 1) := by decide +kernel
theorem dX12_init_125 : decode cX12_init 125 = .ok (.sipush 320, 3) := by decide +kernel
theorem dX12_init_128 : decode cX12_init 128 = .ok (.newarray .int, 2) := by decide +kernel
theorem dX12_init_130 : decode cX12_init 130 = .ok (.putfield 52, 3) := by decide +kernel
theorem dX12_init_133 : decode cX12_init 133 = .ok (.aload_n 0, 1) := by decide +kernel
theorem dX12_init_134 : decode cX12_init 134 = .ok (.iconst (-1), 1) := by decide +kernel
theorem dX12_init_135 : decode cX12_init 135 = .ok (.putfield 55, 3) := by decide +kernel
theorem dX12_init_138 : decode cX12_init 138 = .ok (.aload_n 0, 1) := by decide +kernel
theorem dX12_init_139 : decode cX12_init 139 = .ok (.bipush 6, 2) := by decide +kernel
theorem dX12_init_141 : decode cX12_init 141 = .ok (.newarray .int, 2) := by decide +kernel
theorem dX12_init_143 : decode cX12_init 143 = .ok (.putfield 59, 3) := by decide +kernel
theorem dX12_init_146 : decode cX12_init 146 = .ok (.aload_n 0, 1) := by decide +kernel
theorem dX12_init_147 : decode cX12_init 147 = .ok (.bipush 6, 2) := by decide +kernel
theorem dX12_init_149 : decode cX12_init 149 = .ok (.newarray .int, 2) := by decide +kernel
theorem dX12_init_151 : decode cX12_init 151 = .ok (.putfield 62, 3) := by decide +kernel
theorem dX12_init_154 : decode cX12_init 154 = .ok (.aload_n 0, 1) := by decide +kernel
theorem dX12_init_155 : decode cX12_init 155 = .ok (.iconst 4, 1) := by decide +kernel
theorem dX12_init_156 : decode cX12_init 156 = .ok (.newarray .int, 2) := by decide +kernel
theorem dX12_init_158 : decode cX12_init 158 = .ok (.putfield 65, 3) := by decide +kernel
theorem dX12_init_161 : decode cX12_init 161 = .ok (.aload_n 0, 1) := by decide +kernel
theorem dX12_init_162 : decode cX12_init 162 = .ok (.bipush 16, 2) := by decide +kernel
theorem dX12_init_164 : decode cX12_init 164 = .ok (.newarray .int, 2) := by decide +kernel
theorem dX12_init_166 : decode cX12_init 166 = .ok (.putfield 68, 3) := by decide +kernel
theorem dX12_init_169 : decode cX12_init 169 = .ok (.aload_n 0, 1) := by decide +kernel
theorem dX12_init_170 : decode cX12_init 170 = .ok (.bipush 16, 2) := by decide +kernel
theorem dX12_init_172 : decode cX12_init 172 = .ok (.newarray .int, 2) := by decide +kernel
theorem dX12_init_174 : decode cX12_init 174 = .ok (.putfield 71, 3) := by decide +kernel
theorem dX12_init_177 : decode cX12_init 177 = .ok (.aload_n 0, 1) := by decide +kernel
theorem dX12_init_178 : decode cX12_init 178 = .ok (.bipush 16, 2) := by decide +kernel
theorem dX12_init_180 : decode cX12_init 180 = .ok (.newarray .int, 2) := by decide +kernel
theorem dX12_init_182 : decode cX12_init 182 = .ok (.putfield 74, 3) := by decide +kernel
theorem dX12_init_185 : decode cX12_init 185 = .ok (.aload_n 0, 1) := by decide +kernel
theorem dX12_init_186 : decode cX12_init 186 = .ok (.bipush 24, 2) := by decide +kernel
theorem dX12_init_188 : decode cX12_init 188 = .ok (.newarray .int, 2) := by decide +kernel
theorem dX12_init_190 : decode cX12_init 190 = .ok (.putfield 77, 3) := by decide +kernel
theorem dX12_init_193 : decode cX12_init 193 = .ok (.aload_n 0, 1) := by decide +kernel
theorem dX12_init_194 : decode cX12_init 194 = .ok (.iconst 4, 1) := by decide +kernel
theorem dX12_init_195 : decode cX12_init 195 = .ok (.newarray .int, 2) := by decide +kernel
theorem dX12_init_197 : decode cX12_init 197 = .ok (.putfield 80, 3) := by decide +kernel
theorem dX12_init_200 : decode cX12_init 200 = .ok (.aload_n 0, 1) := by decide +kernel
theorem dX12_init_201 : decode cX12_init 201 = .ok (.iconst 4, 1) := by decide +kernel
theorem dX12_init_202 : decode cX12_init 202 = .ok (.newarray .int, 2) := by decide +kernel
theorem dX12_init_204 : decode cX12_init 204 = .ok (.putfield 83, 3) := by decide +kernel
theorem dX12_init_207 : decode cX12_init 207 = .ok (.aload_n 0, 1) := by decide +kernel
theorem dX12_init_208 : decode cX12_init 208 = .ok (.iconst 4, 1) := by decide +kernel
theorem dX12_init_209 : decode cX12_init 209 = .ok (.newarray .int, 2) := by decide +kernel
theorem dX12_init_211 : decode cX12_init 211 = .ok (.putfield 86, 3) := by decide +kernel
theorem dX12_init_214 : decode cX12_init 214 = .ok (.aload_n 0, 1) := by decide +kernel
theorem dX12_init_215 : decode cX12_init 215 = .ok (.iconst 4, 1) := by decide +kernel
theorem dX12_init_216 : decode cX12_init 216 = .ok (.newarray .int, 2) := by decide +kernel
theorem dX12_init_218 : decode cX12_init 218 = .ok (.putfield 89, 3) := by decide +kernel
theorem dX12_init_221 : decode cX12_init 221 = .ok (.aload_n 0, 1) := by decide +kernel
theorem dX12_init_222 : decode cX12_init 222 = .ok (.iconst 4, 1) := by decide +kernel
theorem dX12_init_223 : decode cX12_init 223 = .ok (.newarray .int, 2) := by decide +kernel
theorem dX12_init_225 : decode cX12_init 225 = .ok (.putfield 92, 3) := by decide +kernel
theorem dX12_init_228 : decode cX12_init 228 = .ok (.aload_n 0, 1) := by decide +kernel
theorem dX12_init_229 : decode cX12_init 229 = .ok (.bipush 6, 2) := by decide +kernel
theorem dX12_init_231 : decode cX12_init 231 = .ok (.newarray .int, 2) := by decide +kernel
theorem dX12_init_233 : decode cX12_init 233 = .ok (.putfield 95, 3) := by decide +kernel
theorem dX12_init_236 : decode cX12_init 236 = .ok (.aload_n 0, 1) := by decide +kernel
theorem dX12_init_237 : decode cX12_init 237 = .ok (.bipush 20, 2) := by decide +kernel
theorem dX12_init_239 : decode cX12_init 239 = .ok (.newarray .boolean, 2) := by decide +kernel
theorem dX12_init_241 : decode cX12_init 241 = .ok (.putfield 98, 3) := by decide +kernel
theorem dX12_init_244 : decode cX12_init 244 = .ok (.aload_n 0, 1) := by decide +kernel
theorem dX12_init_245 : decode cX12_init 245 = .ok (.bipush 6, 2) := by decide +kernel
theorem dX12_init_247 : decode cX12_init 247 = .ok (.newarray .int, 2) := by decide +kernel
theorem dX12_init_249 : decode cX12_init 249 = .ok (.putfield 102, 3) := by decide +kernel
theorem dX12_init_252 : decode cX12_init 252 = .ok (.aload_n 0, 1) := by decide +kernel
theorem dX12_init_253 : decode cX12_init 253 = .ok (.bipush 6, 2) := by decide +kernel
theorem dX12_init_255 : decode cX12_init 255 = .ok (.newarray .int, 2) := by decide +kernel
theorem dX12_init_257 : decode cX12_init 257 = .ok (.putfield 105, 3) := by decide +kernel
theorem dX12_init_260 : decode cX12_init 260 = .ok (.aload_n 0, 1) := by decide +kernel
theorem dX12_init_261 : decode cX12_init 261 = .ok (.bipush 6, 2) := by decide +kernel
theorem dX12_init_263 : decode cX12_init 263 = .ok (.newarray .int, 2) := by decide +kernel
theorem dX12_init_265 : decode cX12_init 265 = .ok (.putfield 108, 3) := by decide +kernel
theorem dX12_init_268 : decode cX12_init 268 = .ok (.aload_n 0, 1) := by decide +kernel
theorem dX12_init_269 : decode cX12_init 269 = .ok (.bipush 6, 2) := by decide +kernel
theorem dX12_init_271 : decode cX12_init 271 = .ok (.newarray .int, 2) := by decide +kernel
theorem dX12_init_273 : decode cX12_init 273 = .ok (.putfield 111, 3) := by decide +kernel
theorem dX12_init_276 : decode cX12_init 276 = .ok (.aload_n 0, 1) := by decide +kernel
theorem dX12_init_277 : decode cX12_init 277 = .ok (.bipush 20, 2) := by decide +kernel
theorem dX12_init_279 : decode cX12_init 279 = .ok (.newarray .int, 2) := by decide +kernel
theorem dX12_init_281 : decode cX12_init 281 = .ok (.putfield 114, 3) := by decide +kernel
theorem dX12_init_284 : decode cX12_init 284 = .ok (.aload_n 0, 1) := by decide +kernel
theorem dX12_init_285 : decode cX12_init 285 = .ok (.bipush 20, 2) := by decide +kernel
theorem dX12_init_287 : decode cX12_init 287 = .ok (.newarray .int, 2) := by decide +kernel
theorem dX12_init_289 : decode cX12_init 289 = .ok (.putfield 117, 3) := by decide +kernel
theorem dX12_init_292 : decode cX12_init 292 = .ok (.aload_n 0, 1) := by decide +kernel
theorem dX12_init_293 : decode cX12_init 293 = .ok (.sipush 1000, 3) := by decide +kernel
theorem dX12_init_296 : decode cX12_init 296 = .ok (.newarray .int, 2) := by decide +kernel
theorem dX12_init_298 : decode cX12_init 298 = .ok (.putfield 120, 3) := by decide +kernel
theorem dX12_init_301 : decode cX12_init 301 = .ok (.aload_n 0, 1) := by decide +kernel
theorem dX12_init_302 : decode cX12_init 302 = .ok (.iconst 4, 1) := by decide +kernel
theorem dX12_init_303 : decode cX12_init 303 = .ok (.newarray .int, 2) := by decide +kernel
theorem dX12_init_305 : decode cX12_init 305 = .ok (.putfield 123, 3) := by decide +kernel
theorem dX12_init_308 : decode cX12_init 308 = .ok (.aload_n 0, 1) := by decide +kernel
theorem dX12_init_309 : decode cX12_init 309 = .ok (.sipush 1681, 3) := by decide +kernel
theorem dX12_init_312 : decode cX12_init 312 = .ok (.newarray .int, 2) := by decide +kernel
theorem dX12_init_314 : decode cX12_init 314 = .ok (.putfield 126, 3) := by decide +kernel
theorem dX12_init_317 : decode cX12_init 317 = .ok (.aload_n 0, 1) := by decide +kernel
theorem dX12_init_318 : decode cX12_init 318 = .ok (.bipush 40, 2) := by decide +kernel
theorem dX12_init_320 : decode cX12_init 320 = .ok (.newarray .int, 2) := by decide +kernel
theorem dX12_init_322 : decode cX12_init 322 = .ok (.putfield 129, 3) := by decide +kernel
theorem dX12_init_325 : decode cX12_init 325 = .ok (.aload_n 0, 1) := by decide +kernel
theorem dX12_init_326 : decode cX12_init 326 = .ok (.bipush 40, 2) := by decide +kernel
theorem dX12_init_328 : decode cX12_init 328 = .ok (.newarray .boolean, 2) := by decide +kernel
theorem dX12_init_330 : decode cX12_init 330 = .ok (.putfield 132, 3) := by decide +kernel
theorem dX12_init_333 : decode cX12_init 333 = .ok (.aload_n 0, 1) := by decide +kernel
theorem dX12_init_334 : decode cX12_init 334 = .ok (.sipush 400, 3) := by decide +kernel
theorem dX12_init_337 : decode cX12_init 337 = .ok (.newarray .int, 2) := by decide +kernel
theorem dX12_init_339 : decode cX12_init 339 = .ok (.putfield 135, 3) := by decide +kernel
theorem dX12_init_342 : decode cX12_init 342 = .ok (.aload_n 0, 1) := by decide +kernel
theorem dX12_init_343 : decode cX12_init 343 = .ok (.sipush 1024, 3) := by decide +kernel
theorem dX12_init_346 : decode cX12_init 346 = .ok (.newarray .int, 2) := by decide +kernel
theorem dX12_init_348 : decode cX12_init 348 = .ok (.putfield 138, 3) := by decide +kernel
theorem dX12_init_351 : decode cX12_init 351 = .ok (.aload_n 0, 1) := by decide +kernel
theorem dX12_init_352 : decode cX12_init 352 = .ok (.bipush 10, 2) := by decide +kernel
theorem dX12_init_354 : decode cX12_init 354 = .ok (.newarray .int, 2) := by decide +kernel
theorem dX12_init_356 : decode cX12_init 356 = .ok (.putfield 141, 3) := by decide +kernel
theorem dX12_init_359 : decode cX12_init 359 = .ok (.iconst 0, 1) := by decide +kernel
theorem dX12_init_360 : decode cX12_init 360 = .ok (.istore_n 1, 1) := by decide +kernel
theorem dX12_init_361 : decode cX12_init 361 = .ok (.iload_n 1, 1) := by decide +kernel
theorem dX12_init_362 : decode cX12_init 362 = .ok (.iconst 4, 1) := by decide +kernel
theorem dX12_init_363 : decode cX12_init 363 = .ok (.if_icmp .ge 18, 3) := by decide +kernel
theorem dX12_init_366 : decode cX12_init 366 = .ok (.aload_n 0, 1) := by decide +kernel
theorem dX12_init_367 : decode cX12_init 367 = .ok (.invokevirtual 144, 3) := by decide +kernel
theorem dX12_init_370 : decode cX12_init 370 = .ok (.aload_n 0, 1) := by decide +kernel
theorem dX12_init_371 : decode cX12_init 371 = .ok (.iload_n 1, 1) := by decide +kernel
theorem dX12_init_372 : decode cX12_init 372 = .ok (.invokevirtual 147, 3) := by decide +kernel
theorem dX12_init_375 : decode cX12_init 375 = .ok (.iinc 1 1, 3) := by decide +kernel
theorem dX12_init_378 : decode cX12_init 378 = .ok (.goto (-17), 3) := by decide +kernel
theorem dX12_init_381 : decode cX12_init 381 = .ok (.return_, 1) := by decide +kernel
theorem dX12_in_0 : decode cX12_in 0 = .ok (.lload_n 0, 1) := by decide +kernel
theorem dX12_in_1 : decode cX12_in 1 = .ok (.lload_n 2, 1) := by decide +kernel
theorem dX12_in_2 : decode cX12_in 2 = .ok (.lcmp, 1) := by decide +kernel
theorem dX12_in_3 : decode cX12_in 3 = .ok (.ifCond .lt 14, 3) := by decide +kernel
theorem dX12_in_6 : decode cX12_in 6 = .ok (.lload_n 0, 1) := by decide +kernel
theorem dX12_in_7 : decode cX12_in 7 = .ok (.lload 4, 2) := by decide +kernel
theorem dX12_in_9 : decode cX12_in 9 = .ok (.lcmp, 1) := by decide +kernel
theorem dX12_in_10 : decode cX12_in 10 = .ok (.ifCond .gt 7, 3) := by decide +kernel
theorem dX12_in_13 : decode cX12_in 13 = .ok (.iconst 1, 1) := by decide +kernel
theorem dX12_in_14 : decode cX12_in 14 = .ok (.goto 4, 3) := by decide +kernel
theorem dX12_in_17 : decode cX12_in 17 = .ok (.iconst 0, 1) := by decide +kernel
theorem dX12_in_18 : decode cX12_in 18 = .ok (.ireturn, 1) := by decide +kernel
theorem dX12_isBook_0 : decode cX12_isBook 0 = .ok (.iload_n 1, 1) := by decide +kernel
theorem dX12_isBook_1 : decode cX12_isBook 1 = .ok (.i2l, 1) := by decide +kernel
theorem dX12_isBook_2 : decode cX12_isBook 2 = .ok (.lconst 0, 1) := by decide +kernel
theorem dX12_isBook_3 : decode cX12_isBook 3 = .ok (.aload_n 0, 1) := by decide +kernel
theorem dX12_isBook_4 : decode cX12_isBook 4 = .ok (.getfield 151, 3) := by decide +kernel
theorem dX12_isBook_7 : decode cX12_isBook 7 = .ok (.iconst 1, 1) := by decide +kernel
theorem dX12_isBook_8 : decode cX12_isBook 8 = .ok (.isub, 1) := by decide +kernel
theorem dX12_isBook_9 : decode cX12_isBook 9 = .ok (.i2l, 1) := by decide +kernel
theorem dX12_isBook_10 : decode cX12_isBook 10 = .ok (.invokestatic 154, 3) := by decide +kernel
theorem dX12_isBook_13 : decode cX12_isBook 13 = .ok (.ireturn, 1) := by decide +kernel
theorem dX12_areBooks_0 : decode cX12_areBooks 0 = .ok (.iload_n 1, 1) := by decide +kernel
theorem dX12_areBooks_1 : decode cX12_areBooks 1 = .ok (.i2l, 1) := by decide +kernel
theorem dX12_areBooks_2 : decode cX12_areBooks 2 = .ok (.lconst 0, 1) := by decide +kernel
theorem dX12_areBooks_3 : decode cX12_areBooks 3 = .ok (.iconst 1, 1) := by decide +kernel
theorem dX12_areBooks_4 : decode cX12_areBooks 4 = .ok (.aload_n 0, 1) := by decide +kernel
theorem dX12_areBooks_5 : decode cX12_areBooks 5 = .ok (.getfield 151, 3) := by decide +kernel
theorem dX12_areBooks_8 : decode cX12_areBooks 8 = .ok (.ishl, 1) := by decide +kernel
theorem dX12_areBooks_9 : decode cX12_areBooks 9 = .ok (.iconst 1, 1) := by decide +kernel
theorem dX12_areBooks_10 : decode cX12_areBooks 10 = .ok (.isub, 1) := by decide +kernel
theorem dX12_areBooks_11 : decode cX12_areBooks 11 = .ok (.i2l, 1) := by decide +kernel
theorem dX12_areBooks_12 : decode cX12_areBooks 12 = .ok (.invokestatic 154, 3) := by decide +kernel
theorem dX12_areBooks_15 : decode cX12_areBooks 15 = .ok (.ireturn, 1) := by decide +kernel
theorem dX12_isWord_0 : decode cX12_isWord 0 = .ok (.iload_n 0, 1) := by decide +kernel
theorem dX12_isWord_1 : decode cX12_isWord 1 = .ok (.i2l, 1) := by decide +kernel
theorem dX12_isWord_2 : decode cX12_isWord 2 = .ok (.lconst 0, 1) := by decide +kernel
theorem dX12_isWord_3 : decode cX12_isWord 3 = .ok (.ldc2_w 158, 3) := by decide +kernel
theorem dX12_isWord_6 : decode cX12_isWord 6 = .ok (.invokestatic 154, 3) := by decide +kernel
theorem dX12_isWord_9 : decode cX12_isWord 9 = .ok (.ireturn, 1) := by decide +kernel
theorem dX12_feed_0 : decode cX12_feed 0 = .ok (.iload_n 1, 1) := by decide +kernel
theorem dX12_feed_1 : decode cX12_feed 1 = .ok (.i2l, 1) := by decide +kernel
theorem dX12_feed_2 : decode cX12_feed 2 = .ok (.lconst 1, 1) := by decide +kernel
theorem dX12_feed_3 : decode cX12_feed 3 = .ok (.ldc2_w 160, 3) := by decide +kernel
theorem dX12_feed_6 : decode cX12_feed 6 = .ok (.invokestatic 154, 3) := by decide +kernel
theorem dX12_feed_9 : decode cX12_feed 9 = .ok (.ifCond .ne 7, 3) := by decide +kernel
theorem dX12_feed_12 : decode cX12_feed 12 = .ok (.sipush (-1002), 3) := by decide +kernel
theorem dX12_feed_15 : decode cX12_feed 15 = .ok (.ireturn, 1) := by decide +kernel
theorem dX12_feed_16 : decode cX12_feed 16 = .ok (.aload_n 0, 1) := by decide +kernel
theorem dX12_feed_17 : decode cX12_feed 17 = .ok (.getfield 162, 3) := by decide +kernel
theorem dX12_feed_20 : decode cX12_feed 20 = .ok (.iload_n 1, 1) := by decide +kernel
theorem dX12_feed_21 : decode cX12_feed 21 = .ok (.iadd, 1) := by decide +kernel
theorem dX12_feed_22 : decode cX12_feed 22 = .ok (.sipush 320, 3) := by decide +kernel
theorem dX12_feed_25 : decode cX12_feed 25 = .ok (.if_icmp .le 7, 3) := by decide +kernel
theorem dX12_feed_28 : decode cX12_feed 28 = .ok (.sipush (-1004), 3) := by decide +kernel
theorem dX12_feed_31 : decode cX12_feed 31 = .ok (.ireturn, 1) := by decide +kernel
theorem dX12_feed_32 : decode cX12_feed 32 = .ok (.iload_n 1, 1) := by decide +kernel
theorem dX12_feed_33 : decode cX12_feed 33 = .ok (.iconst 1, 1) := by decide +kernel
theorem dX12_feed_34 : decode cX12_feed 34 = .ok (.isub, 1) := by decide +kernel
theorem dX12_feed_35 : decode cX12_feed 35 = .ok (.istore 4, 2) := by decide +kernel
theorem dX12_feed_37 : decode cX12_feed 37 = .ok (.iload 4, 2) := by decide +kernel
theorem dX12_feed_39 : decode cX12_feed 39 = .ok (.ifCond .lt 40, 3) := by decide +kernel
theorem dX12_feed_42 : decode cX12_feed 42 = .ok (.aload_n 0, 1) := by decide +kernel
theorem dX12_feed_43 : decode cX12_feed 43 = .ok (.getfield 52, 3) := by decide +kernel
theorem dX12_feed_46 : decode cX12_feed 46 = .ok (.aload_n 0, 1) := by decide +kernel
theorem dX12_feed_47 : decode cX12_feed 47 = .ok (.getfield 162, 3) := by decide +kernel
theorem dX12_feed_50 : decode cX12_feed 50 = .ok (.lload_n 2, 1) := by decide +kernel
theorem dX12_feed_51 : decode cX12_feed 51 = .ok (.bipush 8, 2) := by decide +kernel
theorem dX12_feed_53 : decode cX12_feed 53 = .ok (.iload 4, 2) := by decide +kernel
theorem dX12_feed_55 : decode cX12_feed 55 = .ok (.imul, 1) := by decide +kernel
theorem dX12_feed_56 : decode cX12_feed 56 = .ok (.lshr, 1) := by decide +kernel
theorem dX12_feed_57 : decode cX12_feed 57 = .ok (.ldc2_w 165, 3) := by decide +kernel
theorem dX12_feed_60 : decode cX12_feed 60 = .ok (.land, 1) := by decide +kernel
theorem dX12_feed_61 : decode cX12_feed 61 = .ok (.l2i, 1) := by decide +kernel
theorem dX12_feed_62 : decode cX12_feed 62 = .ok (.iastore, 1) := by decide +kernel
theorem dX12_feed_63 : decode cX12_feed 63 = .ok (.aload_n 0, 1) := by decide +kernel
theorem dX12_feed_64 : decode cX12_feed 64 = .ok (.dup, 1) := by decide +kernel
theorem dX12_feed_65 : decode cX12_feed 65 = .ok (.getfield 162, 3) := by decide +kernel
theorem dX12_feed_68 : decode cX12_feed 68 = .ok (.iconst 1, 1) := by decide +kernel
theorem dX12_feed_69 : decode cX12_feed 69 = .ok (.iadd, 1) := by decide +kernel
theorem dX12_feed_70 : decode cX12_feed 70 = .ok (.putfield 162, 3) := by decide +kernel
theorem dX12_feed_73 : decode cX12_feed 73 = .ok (.iinc 4 (-1), 3) := by decide +kernel
theorem dX12_feed_76 : decode cX12_feed 76 = .ok (.goto (-39), 3) := by decide +kernel
theorem dX12_feed_79 : decode cX12_feed 79 = .ok (.aload_n 0, 1) := by decide +kernel
theorem dX12_feed_80 : decode cX12_feed 80 = .ok (.getfield 162, 3) := by decide +kernel
theorem dX12_feed_83 : decode cX12_feed 83 = .ok (.ireturn, 1) := by decide +kernel
theorem dX12_here_0 : decode cX12_here 0 = .ok (.aload_n 0, 1) := by decide +kernel
theorem dX12_here_1 : decode cX12_here 1 = .ok (.getfield 167, 3) := by decide +kernel
theorem dX12_here_4 : decode cX12_here 4 = .ok (.aload_n 0, 1) := by decide +kernel
theorem dX12_here_5 : decode cX12_here 5 = .ok (.getfield 162, 3) := by decide +kernel
theorem dX12_here_8 : decode cX12_here 8 = .ok (.if_icmp .ge 30, 3) := by decide +kernel
theorem dX12_here_11 : decode cX12_here 11 = .ok (.aload_n 0, 1) := by decide +kernel
theorem dX12_here_12 : decode cX12_here 12 = .ok (.getfield 52, 3) := by decide +kernel
theorem dX12_here_15 : decode cX12_here 15 = .ok (.aload_n 0, 1) := by decide +kernel
theorem dX12_here_16 : decode cX12_here 16 = .ok (.getfield 167, 3) := by decide +kernel
theorem dX12_here_19 : decode cX12_here 19 = .ok (.iaload, 1) := by decide +kernel
theorem dX12_here_20 : decode cX12_here 20 = .ok (.bipush 32, 2) := by decide +kernel
theorem dX12_here_22 : decode cX12_here 22 = .ok (.if_icmp .ne 16, 3) := by decide +kernel
theorem dX12_here_25 : decode cX12_here 25 = .ok (.aload_n 0, 1) := by decide +kernel
theorem dX12_here_26 : decode cX12_here 26 = .ok (.dup, 1) := by decide +kernel
theorem dX12_here_27 : decode cX12_here 27 = .ok (.getfield 167, 3) := by decide +kernel
theorem dX12_here_30 : decode cX12_here 30 = .ok (.iconst 1, 1) := by decide +kernel
theorem dX12_here_31 : decode cX12_here 31 = .ok (.iadd, 1) := by decide +kernel
theorem dX12_here_32 : decode cX12_here 32 = .ok (.putfield 167, 3) := by decide +kernel
theorem dX12_here_35 : decode cX12_here 35 = .ok (.goto (-35), 3) := by decide +kernel
theorem dX12_here_38 : decode cX12_here 38 = .ok (.aload_n 0, 1) := by decide +kernel
theorem dX12_here_39 : decode cX12_here 39 = .ok (.getfield 167, 3) := by decide +kernel
theorem dX12_here_42 : decode cX12_here 42 = .ok (.aload_n 0, 1) := by decide +kernel
theorem dX12_here_43 : decode cX12_here 43 = .ok (.getfield 162, 3) := by decide +kernel
theorem dX12_here_46 : decode cX12_here 46 = .ok (.if_icmp .ge 15, 3) := by decide +kernel
theorem dX12_here_49 : decode cX12_here 49 = .ok (.aload_n 0, 1) := by decide +kernel
theorem dX12_here_50 : decode cX12_here 50 = .ok (.getfield 52, 3) := by decide +kernel
theorem dX12_here_53 : decode cX12_here 53 = .ok (.aload_n 0, 1) := by decide +kernel
theorem dX12_here_54 : decode cX12_here 54 = .ok (.getfield 167, 3) := by decide +kernel
theorem dX12_here_57 : decode cX12_here 57 = .ok (.iaload, 1) := by decide +kernel
theorem dX12_here_58 : decode cX12_here 58 = .ok (.goto 4, 3) := by decide +kernel
theorem dX12_here_61 : decode cX12_here 61 = .ok (.iconst (-1), 1) := by decide +kernel
theorem dX12_here_62 : decode cX12_here 62 = .ok (.ireturn, 1) := by decide +kernel
theorem dX12_fails_0 : decode cX12_fails 0 = .ok (.aload_n 0, 1) := by decide +kernel
theorem dX12_fails_1 : decode cX12_fails 1 = .ok (.iload_n 2, 1) := by decide +kernel
theorem dX12_fails_2 : decode cX12_fails 2 = .ok (.putfield 55, 3) := by decide +kernel
theorem dX12_fails_5 : decode cX12_fails 5 = .ok (.iload_n 1, 1) := by decide +kernel
theorem dX12_fails_6 : decode cX12_fails 6 = .ok (.ireturn, 1) := by decide +kernel
theorem dX12_takeNumber_0 : decode cX12_takeNumber 0 = .ok (.aload_n 0, 1) := by decide +kernel
theorem dX12_takeNumber_1 : decode cX12_takeNumber 1 = .ok (.invokevirtual 170, 3) := by decide +kernel
theorem dX12_takeNumber_4 : decode cX12_takeNumber 4 = .ok (.istore_n 3, 1) := by decide +kernel
theorem dX12_takeNumber_5 : decode cX12_takeNumber 5 = .ok (.iload_n 3, 1) := by decide +kernel
theorem dX12_takeNumber_6 : decode cX12_takeNumber 6 = .ok (.i2l, 1) := by decide +kernel
theorem dX12_takeNumber_7 : decode cX12_takeNumber 7 = .ok (.ldc2_w 174, 3) := by decide +kernel
theorem dX12_takeNumber_10 : decode cX12_takeNumber 10 = .ok (.ldc2_w 176, 3) := by decide +kernel
theorem dX12_takeNumber_13 : decode cX12_takeNumber 13 = .ok (.invokestatic 154, 3) := by decide +kernel
theorem dX12_takeNumber_16 : decode cX12_takeNumber 16 = .ok (.ifCond .ne 13, 3) := by decide +kernel
theorem dX12_takeNumber_19 : decode cX12_takeNumber 19 = .ok (.aload_n 0, 1) := by decide +kernel
theorem dX12_takeNumber_20 : decode cX12_takeNumber 20 = .ok (.iconst 1, 1) := by decide +kernel
theorem dX12_takeNumber_21 : decode cX12_takeNumber 21 = .ok (.aload_n 0, 1) := by decide +kernel
theorem dX12_takeNumber_22 : decode cX12_takeNumber 22 = .ok (.getfield 167, 3) := by decide +kernel
theorem dX12_takeNumber_25 : decode cX12_takeNumber 25 = .ok (.invokevirtual 178, 3) := by decide +kernel
theorem dX12_takeNumber_28 : decode cX12_takeNumber 28 = .ok (.ireturn, 1) := by decide +kernel
theorem dX12_takeNumber_29 : decode cX12_takeNumber 29 = .ok (.aload_n 0, 1) := by decide +kernel
theorem dX12_takeNumber_30 : decode cX12_takeNumber 30 = .ok (.aload_n 0, 1) := by decide +kernel
theorem dX12_takeNumber_31 : decode cX12_takeNumber 31 = .ok (.getfield 167, 3) := by decide +kernel
theorem dX12_takeNumber_34 : decode cX12_takeNumber 34 = .ok (.putfield 182, 3) := by decide +kernel
theorem dX12_takeNumber_37 : decode cX12_takeNumber 37 = .ok (.aload_n 0, 1) := by decide +kernel
theorem dX12_takeNumber_38 : decode cX12_takeNumber 38 = .ok (.iconst 0, 1) := by decide +kernel
theorem dX12_takeNumber_39 : decode cX12_takeNumber 39 = .ok (.putfield 185, 3) := by decide +kernel
theorem dX12_takeNumber_42 : decode cX12_takeNumber 42 = .ok (.aload_n 0, 1) := by decide +kernel
theorem dX12_takeNumber_43 : decode cX12_takeNumber 43 = .ok (.getfield 167, 3) := by decide +kernel
theorem dX12_takeNumber_46 : decode cX12_takeNumber 46 = .ok (.aload_n 0, 1) := by decide +kernel
theorem dX12_takeNumber_47 : decode cX12_takeNumber 47 = .ok (.getfield 162, 3) := by decide +kernel
theorem dX12_takeNumber_50 : decode cX12_takeNumber 50 = .ok (.if_icmp .ge 79, 3) := by decide +kernel
theorem dX12_takeNumber_53 : decode cX12_takeNumber 53 = .ok (.aload_n 0, 1) := by decide +kernel
theorem dX12_takeNumber_54 : decode cX12_takeNumber 54 = .ok (.getfield 52, 3) := by decide +kernel
theorem dX12_takeNumber_57 : decode cX12_takeNumber 57 = .ok (.aload_n 0, 1) := by decide +kernel
theorem dX12_takeNumber_58 : decode cX12_takeNumber 58 = .ok (.getfield 167, 3) := by decide +kernel
theorem dX12_takeNumber_61 : decode cX12_takeNumber 61 = .ok (.iaload, 1) := by decide +kernel
theorem dX12_takeNumber_62 : decode cX12_takeNumber 62 = .ok (.i2l, 1) := by decide +kernel
theorem dX12_takeNumber_63 : decode cX12_takeNumber 63 = .ok (.ldc2_w 174, 3) := by decide +kernel
theorem dX12_takeNumber_66 : decode cX12_takeNumber 66 = .ok (.ldc2_w 176, 3) := by decide +kernel
theorem dX12_takeNumber_69 : decode cX12_takeNumber 69 = .ok (.invokestatic 154, 3) := by decide +kernel
theorem dX12_takeNumber_72 : decode cX12_takeNumber 72 = .ok (.ifCond .eq 57, 3) := by decide +kernel
theorem dX12_takeNumber_75 : decode cX12_takeNumber 75 = .ok (.aload_n 0, 1) := by decide +kernel
theorem dX12_takeNumber_76 : decode cX12_takeNumber 76 = .ok (.aload_n 0, 1) := by decide +kernel
theorem dX12_takeNumber_77 : decode cX12_takeNumber 77 = .ok (.getfield 185, 3) := by decide +kernel
theorem dX12_takeNumber_80 : decode cX12_takeNumber 80 = .ok (.sipush 1000, 3) := by decide +kernel
theorem dX12_takeNumber_83 : decode cX12_takeNumber 83 = .ok (.if_icmp .le 10, 3) := by decide +kernel
theorem dX12_takeNumber_86 : decode cX12_takeNumber 86 = .ok (.aload_n 0, 1) := by decide +kernel
theorem dX12_takeNumber_87 : decode cX12_takeNumber 87 = .ok (.getfield 185, 3) := by decide +kernel
theorem dX12_takeNumber_90 : decode cX12_takeNumber 90 = .ok (.goto 23, 3) := by decide +kernel
theorem dX12_takeNumber_93 : decode cX12_takeNumber 93 = .ok (.bipush 10, 2) := by decide +kernel
theorem dX12_takeNumber_95 : decode cX12_takeNumber 95 = .ok (.aload_n 0, 1) := by decide +kernel
theorem dX12_takeNumber_96 : decode cX12_takeNumber 96 = .ok (.getfield 185, 3) := by decide +kernel
theorem dX12_takeNumber_99 : decode cX12_takeNumber 99 = .ok (.imul, 1) := by decide +kernel
theorem dX12_takeNumber_100 : decode cX12_takeNumber 100 = .ok (.aload_n 0, 1) := by decide +kernel
theorem dX12_takeNumber_101 : decode cX12_takeNumber 101 = .ok (.getfield 52, 3) := by decide +kernel
theorem dX12_takeNumber_104 : decode cX12_takeNumber 104 = .ok (.aload_n 0, 1) := by decide +kernel
theorem dX12_takeNumber_105 : decode cX12_takeNumber 105 = .ok (.getfield 167, 3) := by decide +kernel
theorem dX12_takeNumber_108 : decode cX12_takeNumber 108 = .ok (.iaload, 1) := by decide +kernel
theorem dX12_takeNumber_109 : decode cX12_takeNumber 109 = .ok (.iadd, 1) := by decide +kernel
theorem dX12_takeNumber_110 : decode cX12_takeNumber 110 = .ok (.bipush 48, 2) := by decide +kernel
theorem dX12_takeNumber_112 : decode cX12_takeNumber 112 = .ok (.isub, 1) := by decide +kernel
theorem dX12_takeNumber_113 : decode cX12_takeNumber 113 = .ok (.putfield 185, 3) := by decide +kernel
theorem dX12_takeNumber_116 : decode cX12_takeNumber 116 = .ok (.aload_n 0, 1) := by decide +kernel
theorem dX12_takeNumber_117 : decode cX12_takeNumber 117 = .ok (.dup, 1) := by decide +kernel
theorem dX12_takeNumber_118 : decode cX12_takeNumber 118 = .ok (.getfield 167, 3) := by decide +kernel
theorem dX12_takeNumber_121 : decode cX12_takeNumber 121 = .ok (.iconst 1, 1) := by decide +kernel
theorem dX12_takeNumber_122 : decode cX12_takeNumber 122 = .ok (.iadd, 1) := by decide +kernel
theorem dX12_takeNumber_123 : decode cX12_takeNumber 123 = .ok (.putfield 167, 3) := by decide +kernel
theorem dX12_takeNumber_126 : decode cX12_takeNumber 126 = .ok (.goto (-84), 3) := by decide +kernel
theorem dX12_takeNumber_129 : decode cX12_takeNumber 129 = .ok (.aload_n 0, 1) := by decide +kernel
theorem dX12_takeNumber_130 : decode cX12_takeNumber 130 = .ok (.getfield 167, 3) := by decide +kernel
theorem dX12_takeNumber_133 : decode cX12_takeNumber 133 = .ok (.aload_n 0, 1) := by decide +kernel
theorem dX12_takeNumber_134 : decode cX12_takeNumber 134 = .ok (.getfield 182, 3) := by decide +kernel
theorem dX12_takeNumber_137 : decode cX12_takeNumber 137 = .ok (.isub, 1) := by decide +kernel
theorem dX12_takeNumber_138 : decode cX12_takeNumber 138 = .ok (.iconst 2, 1) := by decide +kernel
theorem dX12_takeNumber_139 : decode cX12_takeNumber 139 = .ok (.if_icmp .gt 18, 3) := by decide +kernel
theorem dX12_takeNumber_142 : decode cX12_takeNumber 142 = .ok (.aload_n 0, 1) := by decide +kernel
theorem dX12_takeNumber_143 : decode cX12_takeNumber 143 = .ok (.getfield 185, 3) := by decide +kernel
theorem dX12_takeNumber_146 : decode cX12_takeNumber 146 = .ok (.i2l, 1) := by decide +kernel
theorem dX12_takeNumber_147 : decode cX12_takeNumber 147 = .ok (.iload_n 1, 1) := by decide +kernel
theorem dX12_takeNumber_148 : decode cX12_takeNumber 148 = .ok (.i2l, 1) := by decide +kernel
theorem dX12_takeNumber_149 : decode cX12_takeNumber 149 = .ok (.iload_n 2, 1) := by decide +kernel
theorem dX12_takeNumber_150 : decode cX12_takeNumber 150 = .ok (.i2l, 1) := by decide +kernel
theorem dX12_takeNumber_151 : decode cX12_takeNumber 151 = .ok (.invokestatic 154, 3) := by decide +kernel
theorem dX12_takeNumber_154 : decode cX12_takeNumber 154 = .ok (.ifCond .ne 15, 3) := by decide +kernel
theorem dX12_takeNumber_157 : decode cX12_takeNumber 157 = .ok (.aload_n 0, 1) := by decide +kernel
theorem dX12_takeNumber_158 : decode cX12_takeNumber 158 = .ok (.iconst 2, 1) := by decide +kernel
theorem dX12_takeNumber_159 : decode cX12_takeNumber 159 = .ok (.aload_n 0, 1) := by decide +kernel
theorem dX12_takeNumber_160 : decode cX12_takeNumber 160 = .ok (.getfield 182, 3) := by decide +kernel
theorem dX12_takeNumber_163 : decode cX12_takeNumber 163 = .ok (.invokevirtual 178, 3) := by decide +kernel
theorem dX12_takeNumber_166 : decode cX12_takeNumber 166 = .ok (.goto 4, 3) := by decide +kernel
theorem dX12_takeNumber_169 : decode cX12_takeNumber 169 = .ok (.iconst 0, 1) := by decide +kernel
theorem dX12_takeNumber_170 : decode cX12_takeNumber 170 = .ok (.ireturn, 1) := by decide +kernel
theorem dX12_hostSize_0 : decode cX12_hostSize 0 = .ok (.iload_n 2, 1) := by decide +kernel
theorem dX12_hostSize_1 : decode cX12_hostSize 1 = .ok (.ifCond .ge 12, 3) := by decide +kernel
theorem dX12_hostSize_4 : decode cX12_hostSize 4 = .ok (.aload_n 0, 1) := by decide +kernel
theorem dX12_hostSize_5 : decode cX12_hostSize 5 = .ok (.getfield 7, 3) := by decide +kernel
theorem dX12_hostSize_8 : decode cX12_hostSize 8 = .ok (.iload_n 1, 1) := by decide +kernel
theorem dX12_hostSize_9 : decode cX12_hostSize 9 = .ok (.iaload, 1) := by decide +kernel
theorem dX12_hostSize_10 : decode cX12_hostSize 10 = .ok (.goto 14, 3) := by decide +kernel
theorem dX12_hostSize_13 : decode cX12_hostSize 13 = .ok (.aload_n 0, 1) := by decide +kernel
theorem dX12_hostSize_14 : decode cX12_hostSize 14 = .ok (.getfield 31, 3) := by decide +kernel
theorem dX12_hostSize_17 : decode cX12_hostSize 17 = .ok (.bipush 20, 2) := by decide +kernel
theorem dX12_hostSize_19 : decode cX12_hostSize 19 = .ok (.iload_n 1, 1) := by decide +kernel
theorem dX12_hostSize_20 : decode cX12_hostSize 20 = .ok (.imul, 1) := by decide +kernel
theorem dX12_hostSize_21 : decode cX12_hostSize 21 = .ok (.iload_n 2, 1) := by decide +kernel
theorem dX12_hostSize_22 : decode cX12_hostSize 22 = .ok (.iadd, 1) := by decide +kernel
theorem dX12_hostSize_23 : decode cX12_hostSize 23 = .ok (.iaload, 1) := by decide +kernel
theorem dX12_hostSize_24 : decode cX12_hostSize 24 = .ok (.ireturn, 1) := by decide +kernel
theorem dX12_hostMost_0 : decode cX12_hostMost 0 = .ok (.iload_n 2, 1) := by decide +kernel
theorem dX12_hostMost_1 : decode cX12_hostMost 1 = .ok (.ifCond .ge 8, 3) := by decide +kernel
theorem dX12_hostMost_4 : decode cX12_hostMost 4 = .ok (.bipush 40, 2) := by decide +kernel
theorem dX12_hostMost_6 : decode cX12_hostMost 6 = .ok (.goto 23, 3) := by decide +kernel
theorem dX12_hostMost_9 : decode cX12_hostMost 9 = .ok (.aload_n 0, 1) := by decide +kernel
theorem dX12_hostMost_10 : decode cX12_hostMost 10 = .ok (.getfield 22, 3) := by decide +kernel
theorem dX12_hostMost_13 : decode cX12_hostMost 13 = .ok (.bipush 20, 2) := by decide +kernel
theorem dX12_hostMost_15 : decode cX12_hostMost 15 = .ok (.iload_n 1, 1) := by decide +kernel
theorem dX12_hostMost_16 : decode cX12_hostMost 16 = .ok (.imul, 1) := by decide +kernel
theorem dX12_hostMost_17 : decode cX12_hostMost 17 = .ok (.iload_n 2, 1) := by decide +kernel
theorem dX12_hostMost_18 : decode cX12_hostMost 18 = .ok (.iadd, 1) := by decide +kernel
theorem dX12_hostMost_19 : decode cX12_hostMost 19 = .ok (.iaload, 1) := by decide +kernel
theorem dX12_hostMost_20 : decode cX12_hostMost 20 = .ok (.ifCond .ne 7, 3) := by decide +kernel
theorem dX12_hostMost_23 : decode cX12_hostMost 23 = .ok (.iconst 4, 1) := by decide +kernel
theorem dX12_hostMost_24 : decode cX12_hostMost 24 = .ok (.goto 5, 3) := by decide +kernel
theorem dX12_hostMost_27 : decode cX12_hostMost 27 = .ok (.bipush 8, 2) := by decide +kernel
theorem dX12_hostMost_29 : decode cX12_hostMost 29 = .ok (.ireturn, 1) := by decide +kernel
theorem dX12_wordAt_0 : decode cX12_wordAt 0 = .ok (.iload_n 2, 1) := by decide +kernel
theorem dX12_wordAt_1 : decode cX12_wordAt 1 = .ok (.ifCond .ge 17, 3) := by decide +kernel
theorem dX12_wordAt_4 : decode cX12_wordAt 4 = .ok (.aload_n 0, 1) := by decide +kernel
theorem dX12_wordAt_5 : decode cX12_wordAt 5 = .ok (.getfield 13, 3) := by decide +kernel
theorem dX12_wordAt_8 : decode cX12_wordAt 8 = .ok (.bipush 40, 2) := by decide +kernel
theorem dX12_wordAt_10 : decode cX12_wordAt 10 = .ok (.iload_n 1, 1) := by decide +kernel
theorem dX12_wordAt_11 : decode cX12_wordAt 11 = .ok (.imul, 1) := by decide +kernel
theorem dX12_wordAt_12 : decode cX12_wordAt 12 = .ok (.iload_n 3, 1) := by decide +kernel
theorem dX12_wordAt_13 : decode cX12_wordAt 13 = .ok (.iadd, 1) := by decide +kernel
theorem dX12_wordAt_14 : decode cX12_wordAt 14 = .ok (.iaload, 1) := by decide +kernel
theorem dX12_wordAt_15 : decode cX12_wordAt 15 = .ok (.goto 19, 3) := by decide +kernel
theorem dX12_wordAt_18 : decode cX12_wordAt 18 = .ok (.aload_n 0, 1) := by decide +kernel
theorem dX12_wordAt_19 : decode cX12_wordAt 19 = .ok (.getfield 34, 3) := by decide +kernel
theorem dX12_wordAt_22 : decode cX12_wordAt 22 = .ok (.bipush 8, 2) := by decide +kernel
theorem dX12_wordAt_24 : decode cX12_wordAt 24 = .ok (.bipush 20, 2) := by decide +kernel
theorem dX12_wordAt_26 : decode cX12_wordAt 26 = .ok (.iload_n 1, 1) := by decide +kernel
theorem dX12_wordAt_27 : decode cX12_wordAt 27 = .ok (.imul, 1) := by decide +kernel
theorem dX12_wordAt_28 : decode cX12_wordAt 28 = .ok (.iload_n 2, 1) := by decide +kernel
theorem dX12_wordAt_29 : decode cX12_wordAt 29 = .ok (.iadd, 1) := by decide +kernel
theorem dX12_wordAt_30 : decode cX12_wordAt 30 = .ok (.imul, 1) := by decide +kernel
theorem dX12_wordAt_31 : decode cX12_wordAt 31 = .ok (.iload_n 3, 1) := by decide +kernel
theorem dX12_wordAt_32 : decode cX12_wordAt 32 = .ok (.iadd, 1) := by decide +kernel
theorem dX12_wordAt_33 : decode cX12_wordAt 33 = .ok (.iaload, 1) := by decide +kernel
theorem dX12_wordAt_34 : decode cX12_wordAt 34 = .ok (.ireturn, 1) := by decide +kernel
theorem dX12_spanAt_0 : decode cX12_spanAt 0 = .ok (.iload_n 2, 1) := by decide +kernel
theorem dX12_spanAt_1 : decode cX12_spanAt 1 = .ok (.ifCond .ge 17, 3) := by decide +kernel
theorem dX12_spanAt_4 : decode cX12_spanAt 4 = .ok (.aload_n 0, 1) := by decide +kernel
theorem dX12_spanAt_5 : decode cX12_spanAt 5 = .ok (.getfield 16, 3) := by decide +kernel
theorem dX12_spanAt_8 : decode cX12_spanAt 8 = .ok (.bipush 40, 2) := by decide +kernel
theorem dX12_spanAt_10 : decode cX12_spanAt 10 = .ok (.iload_n 1, 1) := by decide +kernel
theorem dX12_spanAt_11 : decode cX12_spanAt 11 = .ok (.imul, 1) := by decide +kernel
theorem dX12_spanAt_12 : decode cX12_spanAt 12 = .ok (.iload_n 3, 1) := by decide +kernel
theorem dX12_spanAt_13 : decode cX12_spanAt 13 = .ok (.iadd, 1) := by decide +kernel
theorem dX12_spanAt_14 : decode cX12_spanAt 14 = .ok (.iaload, 1) := by decide +kernel
theorem dX12_spanAt_15 : decode cX12_spanAt 15 = .ok (.goto 19, 3) := by decide +kernel
theorem dX12_spanAt_18 : decode cX12_spanAt 18 = .ok (.aload_n 0, 1) := by decide +kernel
theorem dX12_spanAt_19 : decode cX12_spanAt 19 = .ok (.getfield 37, 3) := by decide +kernel
theorem dX12_spanAt_22 : decode cX12_spanAt 22 = .ok (.bipush 8, 2) := by decide +kernel
theorem dX12_spanAt_24 : decode cX12_spanAt 24 = .ok (.bipush 20, 2) := by decide +kernel
theorem dX12_spanAt_26 : decode cX12_spanAt 26 = .ok (.iload_n 1, 1) := by decide +kernel
theorem dX12_spanAt_27 : decode cX12_spanAt 27 = .ok (.imul, 1) := by decide +kernel
theorem dX12_spanAt_28 : decode cX12_spanAt 28 = .ok (.iload_n 2, 1) := by decide +kernel
theorem dX12_spanAt_29 : decode cX12_spanAt 29 = .ok (.iadd, 1) := by decide +kernel
theorem dX12_spanAt_30 : decode cX12_spanAt 30 = .ok (.imul, 1) := by decide +kernel
theorem dX12_spanAt_31 : decode cX12_spanAt 31 = .ok (.iload_n 3, 1) := by decide +kernel
theorem dX12_spanAt_32 : decode cX12_spanAt 32 = .ok (.iadd, 1) := by decide +kernel
theorem dX12_spanAt_33 : decode cX12_spanAt 33 = .ok (.iaload, 1) := by decide +kernel
theorem dX12_spanAt_34 : decode cX12_spanAt 34 = .ok (.ireturn, 1) := by decide +kernel
theorem dX12_setSpan_0 : decode cX12_setSpan 0 = .ok (.iload_n 2, 1) := by decide +kernel
theorem dX12_setSpan_1 : decode cX12_setSpan 1 = .ok (.ifCond .ge 19, 3) := by decide +kernel
theorem dX12_setSpan_4 : decode cX12_setSpan 4 = .ok (.aload_n 0, 1) := by decide +kernel
theorem dX12_setSpan_5 : decode cX12_setSpan 5 = .ok (.getfield 16, 3) := by decide +kernel
theorem dX12_setSpan_8 : decode cX12_setSpan 8 = .ok (.bipush 40, 2) := by decide +kernel
theorem dX12_setSpan_10 : decode cX12_setSpan 10 = .ok (.iload_n 1, 1) := by decide +kernel
theorem dX12_setSpan_11 : decode cX12_setSpan 11 = .ok (.imul, 1) := by decide +kernel
theorem dX12_setSpan_12 : decode cX12_setSpan 12 = .ok (.iload_n 3, 1) := by decide +kernel
theorem dX12_setSpan_13 : decode cX12_setSpan 13 = .ok (.iadd, 1) := by decide +kernel
theorem dX12_setSpan_14 : decode cX12_setSpan 14 = .ok (.iload 4, 2) := by decide +kernel
theorem dX12_setSpan_16 : decode cX12_setSpan 16 = .ok (.iastore, 1) := by decide +kernel
theorem dX12_setSpan_17 : decode cX12_setSpan 17 = .ok (.goto 21, 3) := by decide +kernel
theorem dX12_setSpan_20 : decode cX12_setSpan 20 = .ok (.aload_n 0, 1) := by decide +kernel
theorem dX12_setSpan_21 : decode cX12_setSpan 21 = .ok (.getfield 37, 3) := by decide +kernel
theorem dX12_setSpan_24 : decode cX12_setSpan 24 = .ok (.bipush 8, 2) := by decide +kernel
theorem dX12_setSpan_26 : decode cX12_setSpan 26 = .ok (.bipush 20, 2) := by decide +kernel
theorem dX12_setSpan_28 : decode cX12_setSpan 28 = .ok (.iload_n 1, 1) := by decide +kernel
theorem dX12_setSpan_29 : decode cX12_setSpan 29 = .ok (.imul, 1) := by decide +kernel
theorem dX12_setSpan_30 : decode cX12_setSpan 30 = .ok (.iload_n 2, 1) := by decide +kernel
theorem dX12_setSpan_31 : decode cX12_setSpan 31 = .ok (.iadd, 1) := by decide +kernel
theorem dX12_setSpan_32 : decode cX12_setSpan 32 = .ok (.imul, 1) := by decide +kernel
theorem dX12_setSpan_33 : decode cX12_setSpan 33 = .ok (.iload_n 3, 1) := by decide +kernel
theorem dX12_setSpan_34 : decode cX12_setSpan 34 = .ok (.iadd, 1) := by decide +kernel
theorem dX12_setSpan_35 : decode cX12_setSpan 35 = .ok (.iload 4, 2) := by decide +kernel
theorem dX12_setSpan_37 : decode cX12_setSpan 37 = .ok (.iastore, 1) := by decide +kernel
theorem dX12_setSpan_38 : decode cX12_setSpan 38 = .ok (.return_, 1) := by decide +kernel
theorem dX12_takeWord_0 : decode cX12_takeWord 0 = .ok (.aload_n 0, 1) := by decide +kernel
theorem dX12_takeWord_1 : decode cX12_takeWord 1 = .ok (.iconst 0, 1) := by decide +kernel
theorem dX12_takeWord_2 : decode cX12_takeWord 2 = .ok (.bipush 63, 2) := by decide +kernel
theorem dX12_takeWord_4 : decode cX12_takeWord 4 = .ok (.invokevirtual 188, 3) := by decide +kernel
theorem dX12_takeWord_7 : decode cX12_takeWord 7 = .ok (.istore_n 1, 1) := by decide +kernel
theorem dX12_takeWord_8 : decode cX12_takeWord 8 = .ok (.iload_n 1, 1) := by decide +kernel
theorem dX12_takeWord_9 : decode cX12_takeWord 9 = .ok (.ifCond .le 5, 3) := by decide +kernel
theorem dX12_takeWord_12 : decode cX12_takeWord 12 = .ok (.iload_n 1, 1) := by decide +kernel
theorem dX12_takeWord_13 : decode cX12_takeWord 13 = .ok (.ireturn, 1) := by decide +kernel
theorem dX12_takeWord_14 : decode cX12_takeWord 14 = .ok (.aload_n 0, 1) := by decide +kernel
theorem dX12_takeWord_15 : decode cX12_takeWord 15 = .ok (.bipush 10, 2) := by decide +kernel
theorem dX12_takeWord_17 : decode cX12_takeWord 17 = .ok (.aload_n 0, 1) := by decide +kernel
theorem dX12_takeWord_18 : decode cX12_takeWord 18 = .ok (.getfield 191, 3) := by decide +kernel
theorem dX12_takeWord_21 : decode cX12_takeWord 21 = .ok (.invokevirtual 194, 3) := by decide +kernel
theorem dX12_takeWord_24 : decode cX12_takeWord 24 = .ok (.istore_n 2, 1) := by decide +kernel
theorem dX12_takeWord_25 : decode cX12_takeWord 25 = .ok (.iload_n 2, 1) := by decide +kernel
theorem dX12_takeWord_26 : decode cX12_takeWord 26 = .ok (.aload_n 0, 1) := by decide +kernel
theorem dX12_takeWord_27 : decode cX12_takeWord 27 = .ok (.bipush 10, 2) := by decide +kernel
theorem dX12_takeWord_29 : decode cX12_takeWord 29 = .ok (.aload_n 0, 1) := by decide +kernel
theorem dX12_takeWord_30 : decode cX12_takeWord 30 = .ok (.getfield 191, 3) := by decide +kernel
theorem dX12_takeWord_33 : decode cX12_takeWord 33 = .ok (.invokevirtual 197, 3) := by decide +kernel
theorem dX12_takeWord_36 : decode cX12_takeWord 36 = .ok (.if_icmp .ne 13, 3) := by decide +kernel
theorem dX12_takeWord_39 : decode cX12_takeWord 39 = .ok (.aload_n 0, 1) := by decide +kernel
theorem dX12_takeWord_40 : decode cX12_takeWord 40 = .ok (.iconst 3, 1) := by decide +kernel
theorem dX12_takeWord_41 : decode cX12_takeWord 41 = .ok (.aload_n 0, 1) := by decide +kernel
theorem dX12_takeWord_42 : decode cX12_takeWord 42 = .ok (.getfield 182, 3) := by decide +kernel
theorem dX12_takeWord_45 : decode cX12_takeWord 45 = .ok (.invokevirtual 178, 3) := by decide +kernel
theorem dX12_takeWord_48 : decode cX12_takeWord 48 = .ok (.ireturn, 1) := by decide +kernel
theorem dX12_takeWord_49 : decode cX12_takeWord 49 = .ok (.aload_n 0, 1) := by decide +kernel
theorem dX12_takeWord_50 : decode cX12_takeWord 50 = .ok (.getfield 191, 3) := by decide +kernel
theorem dX12_takeWord_53 : decode cX12_takeWord 53 = .ok (.ifCond .ge 31, 3) := by decide +kernel
theorem dX12_takeWord_56 : decode cX12_takeWord 56 = .ok (.aload_n 0, 1) := by decide +kernel
theorem dX12_takeWord_57 : decode cX12_takeWord 57 = .ok (.getfield 13, 3) := by decide +kernel
theorem dX12_takeWord_60 : decode cX12_takeWord 60 = .ok (.sipush 400, 3) := by decide +kernel
theorem dX12_takeWord_63 : decode cX12_takeWord 63 = .ok (.iload_n 2, 1) := by decide +kernel
theorem dX12_takeWord_64 : decode cX12_takeWord 64 = .ok (.iadd, 1) := by decide +kernel
theorem dX12_takeWord_65 : decode cX12_takeWord 65 = .ok (.aload_n 0, 1) := by decide +kernel
theorem dX12_takeWord_66 : decode cX12_takeWord 66 = .ok (.getfield 185, 3) := by decide +kernel
theorem dX12_takeWord_69 : decode cX12_takeWord 69 = .ok (.iastore, 1) := by decide +kernel
theorem dX12_takeWord_70 : decode cX12_takeWord 70 = .ok (.aload_n 0, 1) := by decide +kernel
theorem dX12_takeWord_71 : decode cX12_takeWord 71 = .ok (.getfield 7, 3) := by decide +kernel
theorem dX12_takeWord_74 : decode cX12_takeWord 74 = .ok (.bipush 10, 2) := by decide +kernel
theorem dX12_takeWord_76 : decode cX12_takeWord 76 = .ok (.dup2, 1) := by decide +kernel
theorem dX12_takeWord_77 : decode cX12_takeWord 77 = .ok (.iaload, 1) := by decide +kernel
theorem dX12_takeWord_78 : decode cX12_takeWord 78 = .ok (.iconst 1, 1) := by decide +kernel
theorem dX12_takeWord_79 : decode cX12_takeWord 79 = .ok (.iadd, 1) := by decide +kernel
theorem dX12_takeWord_80 : decode cX12_takeWord 80 = .ok (.iastore, 1) := by decide +kernel
theorem dX12_takeWord_81 : decode cX12_takeWord 81 = .ok (.goto 42, 3) := by decide +kernel
theorem dX12_takeWord_84 : decode cX12_takeWord 84 = .ok (.aload_n 0, 1) := by decide +kernel
theorem dX12_takeWord_85 : decode cX12_takeWord 85 = .ok (.getfield 34, 3) := by decide +kernel
theorem dX12_takeWord_88 : decode cX12_takeWord 88 = .ok (.bipush 8, 2) := by decide +kernel
theorem dX12_takeWord_90 : decode cX12_takeWord 90 = .ok (.sipush 200, 3) := by decide +kernel
theorem dX12_takeWord_93 : decode cX12_takeWord 93 = .ok (.aload_n 0, 1) := by decide +kernel
theorem dX12_takeWord_94 : decode cX12_takeWord 94 = .ok (.getfield 191, 3) := by decide +kernel
theorem dX12_takeWord_97 : decode cX12_takeWord 97 = .ok (.iadd, 1) := by decide +kernel
theorem dX12_takeWord_98 : decode cX12_takeWord 98 = .ok (.imul, 1) := by decide +kernel
theorem dX12_takeWord_99 : decode cX12_takeWord 99 = .ok (.iload_n 2, 1) := by decide +kernel
theorem dX12_takeWord_100 : decode cX12_takeWord 100 = .ok (.iadd, 1) := by decide +kernel
theorem dX12_takeWord_101 : decode cX12_takeWord 101 = .ok (.aload_n 0, 1) := by decide +kernel
theorem dX12_takeWord_102 : decode cX12_takeWord 102 = .ok (.getfield 185, 3) := by decide +kernel
theorem dX12_takeWord_105 : decode cX12_takeWord 105 = .ok (.iastore, 1) := by decide +kernel
theorem dX12_takeWord_106 : decode cX12_takeWord 106 = .ok (.aload_n 0, 1) := by decide +kernel
theorem dX12_takeWord_107 : decode cX12_takeWord 107 = .ok (.getfield 31, 3) := by decide +kernel
theorem dX12_takeWord_110 : decode cX12_takeWord 110 = .ok (.sipush 200, 3) := by decide +kernel
theorem dX12_takeWord_113 : decode cX12_takeWord 113 = .ok (.aload_n 0, 1) := by decide +kernel
theorem dX12_takeWord_114 : decode cX12_takeWord 114 = .ok (.getfield 191, 3) := by decide +kernel
theorem dX12_takeWord_117 : decode cX12_takeWord 117 = .ok (.iadd, 1) := by decide +kernel
theorem dX12_takeWord_118 : decode cX12_takeWord 118 = .ok (.dup2, 1) := by decide +kernel
theorem dX12_takeWord_119 : decode cX12_takeWord 119 = .ok (.iaload, 1) := by decide +kernel
theorem dX12_takeWord_120 : decode cX12_takeWord 120 = .ok (.iconst 1, 1) := by decide +kernel
theorem dX12_takeWord_121 : decode cX12_takeWord 121 = .ok (.iadd, 1) := by decide +kernel
theorem dX12_takeWord_122 : decode cX12_takeWord 122 = .ok (.iastore, 1) := by decide +kernel
theorem dX12_takeWord_123 : decode cX12_takeWord 123 = .ok (.aload_n 0, 1) := by decide +kernel
theorem dX12_takeWord_124 : decode cX12_takeWord 124 = .ok (.bipush 10, 2) := by decide +kernel
theorem dX12_takeWord_126 : decode cX12_takeWord 126 = .ok (.aload_n 0, 1) := by decide +kernel
theorem dX12_takeWord_127 : decode cX12_takeWord 127 = .ok (.getfield 191, 3) := by decide +kernel
theorem dX12_takeWord_130 : decode cX12_takeWord 130 = .ok (.iload_n 2, 1) := by decide +kernel
theorem dX12_takeWord_131 : decode cX12_takeWord 131 = .ok (.aload_n 0, 1) := by decide +kernel
theorem dX12_takeWord_132 : decode cX12_takeWord 132 = .ok (.getfield 200, 3) := by decide +kernel
theorem dX12_takeWord_135 : decode cX12_takeWord 135 = .ok (.ifCond .eq 10, 3) := by decide +kernel
theorem dX12_takeWord_138 : decode cX12_takeWord 138 = .ok (.aload_n 0, 1) := by decide +kernel
theorem dX12_takeWord_139 : decode cX12_takeWord 139 = .ok (.getfield 204, 3) := by decide +kernel
theorem dX12_takeWord_142 : decode cX12_takeWord 142 = .ok (.goto 4, 3) := by decide +kernel
theorem dX12_takeWord_145 : decode cX12_takeWord 145 = .ok (.iconst (-1), 1) := by decide +kernel
theorem dX12_takeWord_146 : decode cX12_takeWord 146 = .ok (.invokevirtual 207, 3) := by decide +kernel
theorem dX12_takeWord_149 : decode cX12_takeWord 149 = .ok (.aload_n 0, 1) := by decide +kernel
theorem dX12_takeWord_150 : decode cX12_takeWord 150 = .ok (.iconst 1, 1) := by decide +kernel
theorem dX12_takeWord_151 : decode cX12_takeWord 151 = .ok (.putfield 211, 3) := by decide +kernel
theorem dX12_takeWord_154 : decode cX12_takeWord 154 = .ok (.iconst 0, 1) := by decide +kernel
theorem dX12_takeWord_155 : decode cX12_takeWord 155 = .ok (.ireturn, 1) := by decide +kernel
theorem dX12_takeBracket_0 : decode cX12_takeBracket 0 = .ok (.aload_n 0, 1) := by decide +kernel
theorem dX12_takeBracket_1 : decode cX12_takeBracket 1 = .ok (.getfield 200, 3) := by decide +kernel
theorem dX12_takeBracket_4 : decode cX12_takeBracket 4 = .ok (.ifCond .eq 13, 3) := by decide +kernel
theorem dX12_takeBracket_7 : decode cX12_takeBracket 7 = .ok (.aload_n 0, 1) := by decide +kernel
theorem dX12_takeBracket_8 : decode cX12_takeBracket 8 = .ok (.iconst 1, 1) := by decide +kernel
theorem dX12_takeBracket_9 : decode cX12_takeBracket 9 = .ok (.aload_n 0, 1) := by decide +kernel
theorem dX12_takeBracket_10 : decode cX12_takeBracket 10 = .ok (.getfield 167, 3) := by decide +kernel
theorem dX12_takeBracket_13 : decode cX12_takeBracket 13 = .ok (.invokevirtual 178, 3) := by decide +kernel
theorem dX12_takeBracket_16 : decode cX12_takeBracket 16 = .ok (.ireturn, 1) := by decide +kernel
theorem dX12_takeBracket_17 : decode cX12_takeBracket 17 = .ok (.aload_n 0, 1) := by decide +kernel
theorem dX12_takeBracket_18 : decode cX12_takeBracket 18 = .ok (.dup, 1) := by decide +kernel
theorem dX12_takeBracket_19 : decode cX12_takeBracket 19 = .ok (.getfield 167, 3) := by decide +kernel
theorem dX12_takeBracket_22 : decode cX12_takeBracket 22 = .ok (.iconst 1, 1) := by decide +kernel
theorem dX12_takeBracket_23 : decode cX12_takeBracket 23 = .ok (.iadd, 1) := by decide +kernel
theorem dX12_takeBracket_24 : decode cX12_takeBracket 24 = .ok (.putfield 167, 3) := by decide +kernel
theorem dX12_takeBracket_27 : decode cX12_takeBracket 27 = .ok (.aload_n 0, 1) := by decide +kernel
theorem dX12_takeBracket_28 : decode cX12_takeBracket 28 = .ok (.getfield 59, 3) := by decide +kernel
theorem dX12_takeBracket_31 : decode cX12_takeBracket 31 = .ok (.aload_n 0, 1) := by decide +kernel
theorem dX12_takeBracket_32 : decode cX12_takeBracket 32 = .ok (.getfield 214, 3) := by decide +kernel
theorem dX12_takeBracket_35 : decode cX12_takeBracket 35 = .ok (.aload_n 0, 1) := by decide +kernel
theorem dX12_takeBracket_36 : decode cX12_takeBracket 36 = .ok (.getfield 191, 3) := by decide +kernel
theorem dX12_takeBracket_39 : decode cX12_takeBracket 39 = .ok (.iastore, 1) := by decide +kernel
theorem dX12_takeBracket_40 : decode cX12_takeBracket 40 = .ok (.aload_n 0, 1) := by decide +kernel
theorem dX12_takeBracket_41 : decode cX12_takeBracket 41 = .ok (.aload_n 0, 1) := by decide +kernel
theorem dX12_takeBracket_42 : decode cX12_takeBracket 42 = .ok (.getfield 217, 3) := by decide +kernel
theorem dX12_takeBracket_45 : decode cX12_takeBracket 45 = .ok (.putfield 204, 3) := by decide +kernel
theorem dX12_takeBracket_48 : decode cX12_takeBracket 48 = .ok (.aload_n 0, 1) := by decide +kernel
theorem dX12_takeBracket_49 : decode cX12_takeBracket 49 = .ok (.getfield 62, 3) := by decide +kernel
theorem dX12_takeBracket_52 : decode cX12_takeBracket 52 = .ok (.aload_n 0, 1) := by decide +kernel
theorem dX12_takeBracket_53 : decode cX12_takeBracket 53 = .ok (.getfield 214, 3) := by decide +kernel
theorem dX12_takeBracket_56 : decode cX12_takeBracket 56 = .ok (.aload_n 0, 1) := by decide +kernel
theorem dX12_takeBracket_57 : decode cX12_takeBracket 57 = .ok (.getfield 204, 3) := by decide +kernel
theorem dX12_takeBracket_60 : decode cX12_takeBracket 60 = .ok (.iastore, 1) := by decide +kernel
theorem dX12_takeBracket_61 : decode cX12_takeBracket 61 = .ok (.aload_n 0, 1) := by decide +kernel
theorem dX12_takeBracket_62 : decode cX12_takeBracket 62 = .ok (.dup, 1) := by decide +kernel
theorem dX12_takeBracket_63 : decode cX12_takeBracket 63 = .ok (.getfield 214, 3) := by decide +kernel
theorem dX12_takeBracket_66 : decode cX12_takeBracket 66 = .ok (.iconst 1, 1) := by decide +kernel
theorem dX12_takeBracket_67 : decode cX12_takeBracket 67 = .ok (.iadd, 1) := by decide +kernel
theorem dX12_takeBracket_68 : decode cX12_takeBracket 68 = .ok (.putfield 214, 3) := by decide +kernel
theorem dX12_takeBracket_71 : decode cX12_takeBracket 71 = .ok (.aload_n 0, 1) := by decide +kernel
theorem dX12_takeBracket_72 : decode cX12_takeBracket 72 = .ok (.dup, 1) := by decide +kernel
theorem dX12_takeBracket_73 : decode cX12_takeBracket 73 = .ok (.getfield 217, 3) := by decide +kernel
theorem dX12_takeBracket_76 : decode cX12_takeBracket 76 = .ok (.iconst 1, 1) := by decide +kernel
theorem dX12_takeBracket_77 : decode cX12_takeBracket 77 = .ok (.iadd, 1) := by decide +kernel
theorem dX12_takeBracket_78 : decode cX12_takeBracket 78 = .ok (.putfield 217, 3) := by decide +kernel
theorem dX12_takeBracket_81 : decode cX12_takeBracket 81 = .ok (.aload_n 0, 1) := by decide +kernel
theorem dX12_takeBracket_82 : decode cX12_takeBracket 82 = .ok (.iconst 1, 1) := by decide +kernel
theorem dX12_takeBracket_83 : decode cX12_takeBracket 83 = .ok (.putfield 200, 3) := by decide +kernel
theorem dX12_takeBracket_86 : decode cX12_takeBracket 86 = .ok (.aload_n 0, 1) := by decide +kernel
theorem dX12_takeBracket_87 : decode cX12_takeBracket 87 = .ok (.iconst 0, 1) := by decide +kernel
theorem dX12_takeBracket_88 : decode cX12_takeBracket 88 = .ok (.putfield 211, 3) := by decide +kernel
theorem dX12_takeBracket_91 : decode cX12_takeBracket 91 = .ok (.iconst 0, 1) := by decide +kernel
theorem dX12_takeBracket_92 : decode cX12_takeBracket 92 = .ok (.ireturn, 1) := by decide +kernel
theorem dX12_takeBar_0 : decode cX12_takeBar 0 = .ok (.aload_n 0, 1) := by decide +kernel
theorem dX12_takeBar_1 : decode cX12_takeBar 1 = .ok (.getfield 214, 3) := by decide +kernel
theorem dX12_takeBar_4 : decode cX12_takeBar 4 = .ok (.ifCond .eq 10, 3) := by decide +kernel
theorem dX12_takeBar_7 : decode cX12_takeBar 7 = .ok (.aload_n 0, 1) := by decide +kernel
theorem dX12_takeBar_8 : decode cX12_takeBar 8 = .ok (.getfield 211, 3) := by decide +kernel
theorem dX12_takeBar_11 : decode cX12_takeBar 11 = .ok (.ifCond .ne 13, 3) := by decide +kernel
theorem dX12_takeBar_14 : decode cX12_takeBar 14 = .ok (.aload_n 0, 1) := by decide +kernel
theorem dX12_takeBar_15 : decode cX12_takeBar 15 = .ok (.iconst 1, 1) := by decide +kernel
theorem dX12_takeBar_16 : decode cX12_takeBar 16 = .ok (.aload_n 0, 1) := by decide +kernel
theorem dX12_takeBar_17 : decode cX12_takeBar 17 = .ok (.getfield 167, 3) := by decide +kernel
theorem dX12_takeBar_20 : decode cX12_takeBar 20 = .ok (.invokevirtual 178, 3) := by decide +kernel
theorem dX12_takeBar_23 : decode cX12_takeBar 23 = .ok (.ireturn, 1) := by decide +kernel
theorem dX12_takeBar_24 : decode cX12_takeBar 24 = .ok (.aload_n 0, 1) := by decide +kernel
theorem dX12_takeBar_25 : decode cX12_takeBar 25 = .ok (.getfield 19, 3) := by decide +kernel
theorem dX12_takeBar_28 : decode cX12_takeBar 28 = .ok (.bipush 10, 2) := by decide +kernel
theorem dX12_takeBar_30 : decode cX12_takeBar 30 = .ok (.iaload, 1) := by decide +kernel
theorem dX12_takeBar_31 : decode cX12_takeBar 31 = .ok (.bipush 20, 2) := by decide +kernel
theorem dX12_takeBar_33 : decode cX12_takeBar 33 = .ok (.if_icmp .eq 11, 3) := by decide +kernel
theorem dX12_takeBar_36 : decode cX12_takeBar 36 = .ok (.aload_n 0, 1) := by decide +kernel
theorem dX12_takeBar_37 : decode cX12_takeBar 37 = .ok (.getfield 214, 3) := by decide +kernel
theorem dX12_takeBar_40 : decode cX12_takeBar 40 = .ok (.iconst 4, 1) := by decide +kernel
theorem dX12_takeBar_41 : decode cX12_takeBar 41 = .ok (.if_icmp .le 29, 3) := by decide +kernel
theorem dX12_takeBar_44 : decode cX12_takeBar 44 = .ok (.aload_n 0, 1) := by decide +kernel
theorem dX12_takeBar_45 : decode cX12_takeBar 45 = .ok (.aload_n 0, 1) := by decide +kernel
theorem dX12_takeBar_46 : decode cX12_takeBar 46 = .ok (.getfield 19, 3) := by decide +kernel
theorem dX12_takeBar_49 : decode cX12_takeBar 49 = .ok (.bipush 10, 2) := by decide +kernel
theorem dX12_takeBar_51 : decode cX12_takeBar 51 = .ok (.iaload, 1) := by decide +kernel
theorem dX12_takeBar_52 : decode cX12_takeBar 52 = .ok (.bipush 20, 2) := by decide +kernel
theorem dX12_takeBar_54 : decode cX12_takeBar 54 = .ok (.if_icmp .ne 7, 3) := by decide +kernel
theorem dX12_takeBar_57 : decode cX12_takeBar 57 = .ok (.iconst 4, 1) := by decide +kernel
theorem dX12_takeBar_58 : decode cX12_takeBar 58 = .ok (.goto 4, 3) := by decide +kernel
theorem dX12_takeBar_61 : decode cX12_takeBar 61 = .ok (.iconst 5, 1) := by decide +kernel
theorem dX12_takeBar_62 : decode cX12_takeBar 62 = .ok (.aload_n 0, 1) := by decide +kernel
theorem dX12_takeBar_63 : decode cX12_takeBar 63 = .ok (.getfield 167, 3) := by decide +kernel
theorem dX12_takeBar_66 : decode cX12_takeBar 66 = .ok (.invokevirtual 178, 3) := by decide +kernel
theorem dX12_takeBar_69 : decode cX12_takeBar 69 = .ok (.ireturn, 1) := by decide +kernel
theorem dX12_takeBar_70 : decode cX12_takeBar 70 = .ok (.aload_n 0, 1) := by decide +kernel
theorem dX12_takeBar_71 : decode cX12_takeBar 71 = .ok (.dup, 1) := by decide +kernel
theorem dX12_takeBar_72 : decode cX12_takeBar 72 = .ok (.getfield 167, 3) := by decide +kernel
theorem dX12_takeBar_75 : decode cX12_takeBar 75 = .ok (.iconst 1, 1) := by decide +kernel
theorem dX12_takeBar_76 : decode cX12_takeBar 76 = .ok (.iadd, 1) := by decide +kernel
theorem dX12_takeBar_77 : decode cX12_takeBar 77 = .ok (.putfield 167, 3) := by decide +kernel
theorem dX12_takeBar_80 : decode cX12_takeBar 80 = .ok (.aload_n 0, 1) := by decide +kernel
theorem dX12_takeBar_81 : decode cX12_takeBar 81 = .ok (.invokevirtual 170, 3) := by decide +kernel
theorem dX12_takeBar_84 : decode cX12_takeBar 84 = .ok (.istore_n 1, 1) := by decide +kernel
theorem dX12_takeBar_85 : decode cX12_takeBar 85 = .ok (.iload_n 1, 1) := by decide +kernel
theorem dX12_takeBar_86 : decode cX12_takeBar 86 = .ok (.bipush 97, 2) := by decide +kernel
theorem dX12_takeBar_88 : decode cX12_takeBar 88 = .ok (.if_icmp .eq 19, 3) := by decide +kernel
theorem dX12_takeBar_91 : decode cX12_takeBar 91 = .ok (.iload_n 1, 1) := by decide +kernel
theorem dX12_takeBar_92 : decode cX12_takeBar 92 = .ok (.bipush 98, 2) := by decide +kernel
theorem dX12_takeBar_94 : decode cX12_takeBar 94 = .ok (.if_icmp .eq 13, 3) := by decide +kernel
theorem dX12_takeBar_97 : decode cX12_takeBar 97 = .ok (.aload_n 0, 1) := by decide +kernel
theorem dX12_takeBar_98 : decode cX12_takeBar 98 = .ok (.iconst 1, 1) := by decide +kernel
theorem dX12_takeBar_99 : decode cX12_takeBar 99 = .ok (.aload_n 0, 1) := by decide +kernel
theorem dX12_takeBar_100 : decode cX12_takeBar 100 = .ok (.getfield 167, 3) := by decide +kernel
theorem dX12_takeBar_103 : decode cX12_takeBar 103 = .ok (.invokevirtual 178, 3) := by decide +kernel
theorem dX12_takeBar_106 : decode cX12_takeBar 106 = .ok (.ireturn, 1) := by decide +kernel
theorem dX12_takeBar_107 : decode cX12_takeBar 107 = .ok (.aload_n 0, 1) := by decide +kernel
theorem dX12_takeBar_108 : decode cX12_takeBar 108 = .ok (.dup, 1) := by decide +kernel
theorem dX12_takeBar_109 : decode cX12_takeBar 109 = .ok (.getfield 167, 3) := by decide +kernel
theorem dX12_takeBar_112 : decode cX12_takeBar 112 = .ok (.iconst 1, 1) := by decide +kernel
theorem dX12_takeBar_113 : decode cX12_takeBar 113 = .ok (.iadd, 1) := by decide +kernel
theorem dX12_takeBar_114 : decode cX12_takeBar 114 = .ok (.putfield 167, 3) := by decide +kernel
theorem dX12_takeBar_117 : decode cX12_takeBar 117 = .ok (.sipush 200, 3) := by decide +kernel
theorem dX12_takeBar_120 : decode cX12_takeBar 120 = .ok (.aload_n 0, 1) := by decide +kernel
theorem dX12_takeBar_121 : decode cX12_takeBar 121 = .ok (.getfield 19, 3) := by decide +kernel
theorem dX12_takeBar_124 : decode cX12_takeBar 124 = .ok (.bipush 10, 2) := by decide +kernel
theorem dX12_takeBar_126 : decode cX12_takeBar 126 = .ok (.iaload, 1) := by decide +kernel
theorem dX12_takeBar_127 : decode cX12_takeBar 127 = .ok (.iadd, 1) := by decide +kernel
theorem dX12_takeBar_128 : decode cX12_takeBar 128 = .ok (.istore_n 2, 1) := by decide +kernel
theorem dX12_takeBar_129 : decode cX12_takeBar 129 = .ok (.aload_n 0, 1) := by decide +kernel
theorem dX12_takeBar_130 : decode cX12_takeBar 130 = .ok (.getfield 22, 3) := by decide +kernel
theorem dX12_takeBar_133 : decode cX12_takeBar 133 = .ok (.iload_n 2, 1) := by decide +kernel
theorem dX12_takeBar_134 : decode cX12_takeBar 134 = .ok (.iload_n 1, 1) := by decide +kernel
theorem dX12_takeBar_135 : decode cX12_takeBar 135 = .ok (.bipush 97, 2) := by decide +kernel
theorem dX12_takeBar_137 : decode cX12_takeBar 137 = .ok (.if_icmp .ne 7, 3) := by decide +kernel
theorem dX12_takeBar_140 : decode cX12_takeBar 140 = .ok (.iconst 0, 1) := by decide +kernel
theorem dX12_takeBar_141 : decode cX12_takeBar 141 = .ok (.goto 4, 3) := by decide +kernel
theorem dX12_takeBar_144 : decode cX12_takeBar 144 = .ok (.iconst 1, 1) := by decide +kernel
theorem dX12_takeBar_145 : decode cX12_takeBar 145 = .ok (.iastore, 1) := by decide +kernel
theorem dX12_takeBar_146 : decode cX12_takeBar 146 = .ok (.aload_n 0, 1) := by decide +kernel
theorem dX12_takeBar_147 : decode cX12_takeBar 147 = .ok (.getfield 25, 3) := by decide +kernel
theorem dX12_takeBar_150 : decode cX12_takeBar 150 = .ok (.iload_n 2, 1) := by decide +kernel
theorem dX12_takeBar_151 : decode cX12_takeBar 151 = .ok (.aload_n 0, 1) := by decide +kernel
theorem dX12_takeBar_152 : decode cX12_takeBar 152 = .ok (.getfield 59, 3) := by decide +kernel
theorem dX12_takeBar_155 : decode cX12_takeBar 155 = .ok (.aload_n 0, 1) := by decide +kernel
theorem dX12_takeBar_156 : decode cX12_takeBar 156 = .ok (.getfield 214, 3) := by decide +kernel
theorem dX12_takeBar_159 : decode cX12_takeBar 159 = .ok (.iconst 1, 1) := by decide +kernel
theorem dX12_takeBar_160 : decode cX12_takeBar 160 = .ok (.isub, 1) := by decide +kernel
theorem dX12_takeBar_161 : decode cX12_takeBar 161 = .ok (.iaload, 1) := by decide +kernel
theorem dX12_takeBar_162 : decode cX12_takeBar 162 = .ok (.iastore, 1) := by decide +kernel
theorem dX12_takeBar_163 : decode cX12_takeBar 163 = .ok (.aload_n 0, 1) := by decide +kernel
theorem dX12_takeBar_164 : decode cX12_takeBar 164 = .ok (.getfield 28, 3) := by decide +kernel
theorem dX12_takeBar_167 : decode cX12_takeBar 167 = .ok (.iload_n 2, 1) := by decide +kernel
theorem dX12_takeBar_168 : decode cX12_takeBar 168 = .ok (.aload_n 0, 1) := by decide +kernel
theorem dX12_takeBar_169 : decode cX12_takeBar 169 = .ok (.getfield 62, 3) := by decide +kernel
theorem dX12_takeBar_172 : decode cX12_takeBar 172 = .ok (.aload_n 0, 1) := by decide +kernel
theorem dX12_takeBar_173 : decode cX12_takeBar 173 = .ok (.getfield 214, 3) := by decide +kernel
theorem dX12_takeBar_176 : decode cX12_takeBar 176 = .ok (.iconst 1, 1) := by decide +kernel
theorem dX12_takeBar_177 : decode cX12_takeBar 177 = .ok (.isub, 1) := by decide +kernel
theorem dX12_takeBar_178 : decode cX12_takeBar 178 = .ok (.iaload, 1) := by decide +kernel
theorem dX12_takeBar_179 : decode cX12_takeBar 179 = .ok (.iastore, 1) := by decide +kernel
theorem dX12_takeBar_180 : decode cX12_takeBar 180 = .ok (.aload_n 0, 1) := by decide +kernel
theorem dX12_takeBar_181 : decode cX12_takeBar 181 = .ok (.getfield 31, 3) := by decide +kernel
theorem dX12_takeBar_184 : decode cX12_takeBar 184 = .ok (.iload_n 2, 1) := by decide +kernel
theorem dX12_takeBar_185 : decode cX12_takeBar 185 = .ok (.iconst 0, 1) := by decide +kernel
theorem dX12_takeBar_186 : decode cX12_takeBar 186 = .ok (.iastore, 1) := by decide +kernel
theorem dX12_takeBar_187 : decode cX12_takeBar 187 = .ok (.aload_n 0, 1) := by decide +kernel
theorem dX12_takeBar_188 : decode cX12_takeBar 188 = .ok (.aload_n 0, 1) := by decide +kernel
theorem dX12_takeBar_189 : decode cX12_takeBar 189 = .ok (.getfield 19, 3) := by decide +kernel
theorem dX12_takeBar_192 : decode cX12_takeBar 192 = .ok (.bipush 10, 2) := by decide +kernel
theorem dX12_takeBar_194 : decode cX12_takeBar 194 = .ok (.iaload, 1) := by decide +kernel
theorem dX12_takeBar_195 : decode cX12_takeBar 195 = .ok (.putfield 191, 3) := by decide +kernel
theorem dX12_takeBar_198 : decode cX12_takeBar 198 = .ok (.aload_n 0, 1) := by decide +kernel
theorem dX12_takeBar_199 : decode cX12_takeBar 199 = .ok (.getfield 19, 3) := by decide +kernel
theorem dX12_takeBar_202 : decode cX12_takeBar 202 = .ok (.bipush 10, 2) := by decide +kernel
theorem dX12_takeBar_204 : decode cX12_takeBar 204 = .ok (.dup2, 1) := by decide +kernel
theorem dX12_takeBar_205 : decode cX12_takeBar 205 = .ok (.iaload, 1) := by decide +kernel
theorem dX12_takeBar_206 : decode cX12_takeBar 206 = .ok (.iconst 1, 1) := by decide +kernel
theorem dX12_takeBar_207 : decode cX12_takeBar 207 = .ok (.iadd, 1) := by decide +kernel
theorem dX12_takeBar_208 : decode cX12_takeBar 208 = .ok (.iastore, 1) := by decide +kernel
theorem dX12_takeBar_209 : decode cX12_takeBar 209 = .ok (.aload_n 0, 1) := by decide +kernel
theorem dX12_takeBar_210 : decode cX12_takeBar 210 = .ok (.iconst 0, 1) := by decide +kernel
theorem dX12_takeBar_211 : decode cX12_takeBar 211 = .ok (.putfield 200, 3) := by decide +kernel
theorem dX12_takeBar_214 : decode cX12_takeBar 214 = .ok (.aload_n 0, 1) := by decide +kernel
theorem dX12_takeBar_215 : decode cX12_takeBar 215 = .ok (.iconst 0, 1) := by decide +kernel
theorem dX12_takeBar_216 : decode cX12_takeBar 216 = .ok (.putfield 211, 3) := by decide +kernel
theorem dX12_takeBar_219 : decode cX12_takeBar 219 = .ok (.iconst 0, 1) := by decide +kernel
theorem dX12_takeBar_220 : decode cX12_takeBar 220 = .ok (.ireturn, 1) := by decide +kernel
theorem dX12_takeEnd_0 : decode cX12_takeEnd 0 = .ok (.aload_n 0, 1) := by decide +kernel
theorem dX12_takeEnd_1 : decode cX12_takeEnd 1 = .ok (.getfield 214, 3) := by decide +kernel
theorem dX12_takeEnd_4 : decode cX12_takeEnd 4 = .ok (.ifCond .eq 17, 3) := by decide +kernel
theorem dX12_takeEnd_7 : decode cX12_takeEnd 7 = .ok (.aload_n 0, 1) := by decide +kernel
theorem dX12_takeEnd_8 : decode cX12_takeEnd 8 = .ok (.getfield 200, 3) := by decide +kernel
theorem dX12_takeEnd_11 : decode cX12_takeEnd 11 = .ok (.ifCond .ne 10, 3) := by decide +kernel
theorem dX12_takeEnd_14 : decode cX12_takeEnd 14 = .ok (.aload_n 0, 1) := by decide +kernel
theorem dX12_takeEnd_15 : decode cX12_takeEnd 15 = .ok (.getfield 211, 3) := by decide +kernel
theorem dX12_takeEnd_18 : decode cX12_takeEnd 18 = .ok (.ifCond .ne 13, 3) := by decide +kernel
theorem dX12_takeEnd_21 : decode cX12_takeEnd 21 = .ok (.aload_n 0, 1) := by decide +kernel
theorem dX12_takeEnd_22 : decode cX12_takeEnd 22 = .ok (.iconst 1, 1) := by decide +kernel
theorem dX12_takeEnd_23 : decode cX12_takeEnd 23 = .ok (.aload_n 0, 1) := by decide +kernel
theorem dX12_takeEnd_24 : decode cX12_takeEnd 24 = .ok (.getfield 167, 3) := by decide +kernel
theorem dX12_takeEnd_27 : decode cX12_takeEnd 27 = .ok (.invokevirtual 178, 3) := by decide +kernel
theorem dX12_takeEnd_30 : decode cX12_takeEnd 30 = .ok (.ireturn, 1) := by decide +kernel
theorem dX12_takeEnd_31 : decode cX12_takeEnd 31 = .ok (.aload_n 0, 1) := by decide +kernel
theorem dX12_takeEnd_32 : decode cX12_takeEnd 32 = .ok (.dup, 1) := by decide +kernel
theorem dX12_takeEnd_33 : decode cX12_takeEnd 33 = .ok (.getfield 167, 3) := by decide +kernel
theorem dX12_takeEnd_36 : decode cX12_takeEnd 36 = .ok (.iconst 1, 1) := by decide +kernel
theorem dX12_takeEnd_37 : decode cX12_takeEnd 37 = .ok (.iadd, 1) := by decide +kernel
theorem dX12_takeEnd_38 : decode cX12_takeEnd 38 = .ok (.putfield 167, 3) := by decide +kernel
theorem dX12_takeEnd_41 : decode cX12_takeEnd 41 = .ok (.aload_n 0, 1) := by decide +kernel
theorem dX12_takeEnd_42 : decode cX12_takeEnd 42 = .ok (.dup, 1) := by decide +kernel
theorem dX12_takeEnd_43 : decode cX12_takeEnd 43 = .ok (.getfield 214, 3) := by decide +kernel
theorem dX12_takeEnd_46 : decode cX12_takeEnd 46 = .ok (.iconst 1, 1) := by decide +kernel
theorem dX12_takeEnd_47 : decode cX12_takeEnd 47 = .ok (.isub, 1) := by decide +kernel
theorem dX12_takeEnd_48 : decode cX12_takeEnd 48 = .ok (.putfield 214, 3) := by decide +kernel
theorem dX12_takeEnd_51 : decode cX12_takeEnd 51 = .ok (.aload_n 0, 1) := by decide +kernel
theorem dX12_takeEnd_52 : decode cX12_takeEnd 52 = .ok (.aload_n 0, 1) := by decide +kernel
theorem dX12_takeEnd_53 : decode cX12_takeEnd 53 = .ok (.getfield 59, 3) := by decide +kernel
theorem dX12_takeEnd_56 : decode cX12_takeEnd 56 = .ok (.aload_n 0, 1) := by decide +kernel
theorem dX12_takeEnd_57 : decode cX12_takeEnd 57 = .ok (.getfield 214, 3) := by decide +kernel
theorem dX12_takeEnd_60 : decode cX12_takeEnd 60 = .ok (.iaload, 1) := by decide +kernel
theorem dX12_takeEnd_61 : decode cX12_takeEnd 61 = .ok (.putfield 191, 3) := by decide +kernel
theorem dX12_takeEnd_64 : decode cX12_takeEnd 64 = .ok (.aload_n 0, 1) := by decide +kernel
theorem dX12_takeEnd_65 : decode cX12_takeEnd 65 = .ok (.iconst 0, 1) := by decide +kernel
theorem dX12_takeEnd_66 : decode cX12_takeEnd 66 = .ok (.putfield 200, 3) := by decide +kernel
theorem dX12_takeEnd_69 : decode cX12_takeEnd 69 = .ok (.aload_n 0, 1) := by decide +kernel
theorem dX12_takeEnd_70 : decode cX12_takeEnd 70 = .ok (.iconst 1, 1) := by decide +kernel
theorem dX12_takeEnd_71 : decode cX12_takeEnd 71 = .ok (.putfield 211, 3) := by decide +kernel
theorem dX12_takeEnd_74 : decode cX12_takeEnd 74 = .ok (.iconst 0, 1) := by decide +kernel
theorem dX12_takeEnd_75 : decode cX12_takeEnd 75 = .ok (.ireturn, 1) := by decide +kernel
theorem dX12_beginWork_0 : decode cX12_beginWork 0 = .ok (.aload_n 0, 1) := by decide +kernel
theorem dX12_beginWork_1 : decode cX12_beginWork 1 = .ok (.getfield 7, 3) := by decide +kernel
theorem dX12_beginWork_4 : decode cX12_beginWork 4 = .ok (.bipush 10, 2) := by decide +kernel
theorem dX12_beginWork_6 : decode cX12_beginWork 6 = .ok (.iconst 0, 1) := by decide +kernel
theorem dX12_beginWork_7 : decode cX12_beginWork 7 = .ok (.iastore, 1) := by decide +kernel
theorem dX12_beginWork_8 : decode cX12_beginWork 8 = .ok (.aload_n 0, 1) := by decide +kernel
theorem dX12_beginWork_9 : decode cX12_beginWork 9 = .ok (.getfield 19, 3) := by decide +kernel
theorem dX12_beginWork_12 : decode cX12_beginWork 12 = .ok (.bipush 10, 2) := by decide +kernel
theorem dX12_beginWork_14 : decode cX12_beginWork 14 = .ok (.iconst 0, 1) := by decide +kernel
theorem dX12_beginWork_15 : decode cX12_beginWork 15 = .ok (.iastore, 1) := by decide +kernel
theorem dX12_beginWork_16 : decode cX12_beginWork 16 = .ok (.aload_n 0, 1) := by decide +kernel
theorem dX12_beginWork_17 : decode cX12_beginWork 17 = .ok (.getfield 40, 3) := by decide +kernel
theorem dX12_beginWork_20 : decode cX12_beginWork 20 = .ok (.bipush 10, 2) := by decide +kernel
theorem dX12_beginWork_22 : decode cX12_beginWork 22 = .ok (.iconst (-1), 1) := by decide +kernel
theorem dX12_beginWork_23 : decode cX12_beginWork 23 = .ok (.iastore, 1) := by decide +kernel
theorem dX12_beginWork_24 : decode cX12_beginWork 24 = .ok (.aload_n 0, 1) := by decide +kernel
theorem dX12_beginWork_25 : decode cX12_beginWork 25 = .ok (.getfield 43, 3) := by decide +kernel
theorem dX12_beginWork_28 : decode cX12_beginWork 28 = .ok (.bipush 10, 2) := by decide +kernel
theorem dX12_beginWork_30 : decode cX12_beginWork 30 = .ok (.iconst (-1), 1) := by decide +kernel
theorem dX12_beginWork_31 : decode cX12_beginWork 31 = .ok (.iastore, 1) := by decide +kernel
theorem dX12_beginWork_32 : decode cX12_beginWork 32 = .ok (.iconst 0, 1) := by decide +kernel
theorem dX12_beginWork_33 : decode cX12_beginWork 33 = .ok (.istore_n 1, 1) := by decide +kernel
theorem dX12_beginWork_34 : decode cX12_beginWork 34 = .ok (.iload_n 1, 1) := by decide +kernel
theorem dX12_beginWork_35 : decode cX12_beginWork 35 = .ok (.bipush 6, 2) := by decide +kernel
theorem dX12_beginWork_37 : decode cX12_beginWork 37 = .ok (.if_icmp .ge 29, 3) := by decide +kernel
theorem dX12_beginWork_40 : decode cX12_beginWork 40 = .ok (.aload_n 0, 1) := by decide +kernel
theorem dX12_beginWork_41 : decode cX12_beginWork 41 = .ok (.getfield 46, 3) := by decide +kernel
theorem dX12_beginWork_44 : decode cX12_beginWork 44 = .ok (.bipush 60, 2) := by decide +kernel
theorem dX12_beginWork_46 : decode cX12_beginWork 46 = .ok (.iload_n 1, 1) := by decide +kernel
theorem dX12_beginWork_47 : decode cX12_beginWork 47 = .ok (.iadd, 1) := by decide +kernel
theorem dX12_beginWork_48 : decode cX12_beginWork 48 = .ok (.iconst 0, 1) := by decide +kernel
theorem dX12_beginWork_49 : decode cX12_beginWork 49 = .ok (.iastore, 1) := by decide +kernel
theorem dX12_beginWork_50 : decode cX12_beginWork 50 = .ok (.aload_n 0, 1) := by decide +kernel
theorem dX12_beginWork_51 : decode cX12_beginWork 51 = .ok (.getfield 49, 3) := by decide +kernel
theorem dX12_beginWork_54 : decode cX12_beginWork 54 = .ok (.bipush 60, 2) := by decide +kernel
theorem dX12_beginWork_56 : decode cX12_beginWork 56 = .ok (.iload_n 1, 1) := by decide +kernel
theorem dX12_beginWork_57 : decode cX12_beginWork 57 = .ok (.iadd, 1) := by decide +kernel
theorem dX12_beginWork_58 : decode cX12_beginWork 58 = .ok (.iconst 0, 1) := by decide +kernel
theorem dX12_beginWork_59 : decode cX12_beginWork 59 = .ok (.iastore, 1) := by decide +kernel
theorem dX12_beginWork_60 : decode cX12_beginWork 60 = .ok (.iinc 1 1, 3) := by decide +kernel
theorem dX12_beginWork_63 : decode cX12_beginWork 63 = .ok (.goto (-29), 3) := by decide +kernel
theorem dX12_beginWork_66 : decode cX12_beginWork 66 = .ok (.return_, 1) := by decide +kernel
theorem dX12_book_0 : decode cX12_book 0 = .ok (.aload_n 0, 1) := by decide +kernel
theorem dX12_book_1 : decode cX12_book 1 = .ok (.getfield 151, 3) := by decide +kernel
theorem dX12_book_4 : decode cX12_book 4 = .ok (.bipush 10, 2) := by decide +kernel
theorem dX12_book_6 : decode cX12_book 6 = .ok (.if_icmp .ne 7, 3) := by decide +kernel
theorem dX12_book_9 : decode cX12_book 9 = .ok (.sipush (-1004), 3) := by decide +kernel
theorem dX12_book_12 : decode cX12_book 12 = .ok (.ireturn, 1) := by decide +kernel
theorem dX12_book_13 : decode cX12_book 13 = .ok (.aload_n 0, 1) := by decide +kernel
theorem dX12_book_14 : decode cX12_book 14 = .ok (.iconst (-1), 1) := by decide +kernel
theorem dX12_book_15 : decode cX12_book 15 = .ok (.putfield 55, 3) := by decide +kernel
theorem dX12_book_18 : decode cX12_book 18 = .ok (.aload_n 0, 1) := by decide +kernel
theorem dX12_book_19 : decode cX12_book 19 = .ok (.iconst 0, 1) := by decide +kernel
theorem dX12_book_20 : decode cX12_book 20 = .ok (.putfield 167, 3) := by decide +kernel
theorem dX12_book_23 : decode cX12_book 23 = .ok (.aload_n 0, 1) := by decide +kernel
theorem dX12_book_24 : decode cX12_book 24 = .ok (.iconst 0, 1) := by decide +kernel
theorem dX12_book_25 : decode cX12_book 25 = .ok (.putfield 214, 3) := by decide +kernel
theorem dX12_book_28 : decode cX12_book 28 = .ok (.aload_n 0, 1) := by decide +kernel
