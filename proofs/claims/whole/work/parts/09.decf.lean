theorem dX12_restored_88 : decode cX12_restored 88 = .ok (.iadd, 1) := by decide +kernel
theorem dX12_restored_89 : decode cX12_restored 89 = .ok (.istore 4, 2) := by decide +kernel
theorem dX12_restored_91 : decode cX12_restored 91 = .ok (.iinc 6 1, 3) := by decide +kernel
theorem dX12_restored_94 : decode cX12_restored 94 = .ok (.goto (-59), 3) := by decide +kernel
theorem dX12_restored_97 : decode cX12_restored 97 = .ok (.iload_n 3, 1) := by decide +kernel
theorem dX12_restored_98 : decode cX12_restored 98 = .ok (.iconst (-1), 1) := by decide +kernel
theorem dX12_restored_99 : decode cX12_restored 99 = .ok (.if_icmp .ne 8, 3) := by decide +kernel
theorem dX12_restored_102 : decode cX12_restored 102 = .ok (.iload 4, 2) := by decide +kernel
theorem dX12_restored_104 : decode cX12_restored 104 = .ok (.goto 5, 3) := by decide +kernel
theorem dX12_restored_107 : decode cX12_restored 107 = .ok (.iload 5, 2) := by decide +kernel
theorem dX12_restored_109 : decode cX12_restored 109 = .ok (.ireturn, 1) := by decide +kernel
theorem dX12_addGroup_0 : decode cX12_addGroup 0 = .ok (.iconst 0, 1) := by decide +kernel
theorem dX12_addGroup_1 : decode cX12_addGroup 1 = .ok (.istore_n 2, 1) := by decide +kernel
theorem dX12_addGroup_2 : decode cX12_addGroup 2 = .ok (.iconst 0, 1) := by decide +kernel
theorem dX12_addGroup_3 : decode cX12_addGroup 3 = .ok (.istore_n 3, 1) := by decide +kernel
theorem dX12_addGroup_4 : decode cX12_addGroup 4 = .ok (.iload_n 3, 1) := by decide +kernel
theorem dX12_addGroup_5 : decode cX12_addGroup 5 = .ok (.aload_n 0, 1) := by decide +kernel
theorem dX12_addGroup_6 : decode cX12_addGroup 6 = .ok (.getfield 440, 3) := by decide +kernel
theorem dX12_addGroup_9 : decode cX12_addGroup 9 = .ok (.if_icmp .ge 29, 3) := by decide +kernel
theorem dX12_addGroup_12 : decode cX12_addGroup 12 = .ok (.iload_n 2, 1) := by decide +kernel
theorem dX12_addGroup_13 : decode cX12_addGroup 13 = .ok (.ifCond .ne 13, 3) := by decide +kernel
theorem dX12_addGroup_16 : decode cX12_addGroup 16 = .ok (.aload_n 0, 1) := by decide +kernel
theorem dX12_addGroup_17 : decode cX12_addGroup 17 = .ok (.getfield 138, 3) := by decide +kernel
theorem dX12_addGroup_20 : decode cX12_addGroup 20 = .ok (.iload_n 3, 1) := by decide +kernel
theorem dX12_addGroup_21 : decode cX12_addGroup 21 = .ok (.iaload, 1) := by decide +kernel
theorem dX12_addGroup_22 : decode cX12_addGroup 22 = .ok (.iload_n 1, 1) := by decide +kernel
theorem dX12_addGroup_23 : decode cX12_addGroup 23 = .ok (.if_icmp .ne 7, 3) := by decide +kernel
theorem dX12_addGroup_26 : decode cX12_addGroup 26 = .ok (.iconst 1, 1) := by decide +kernel
theorem dX12_addGroup_27 : decode cX12_addGroup 27 = .ok (.goto 4, 3) := by decide +kernel
theorem dX12_addGroup_30 : decode cX12_addGroup 30 = .ok (.iconst 0, 1) := by decide +kernel
theorem dX12_addGroup_31 : decode cX12_addGroup 31 = .ok (.istore_n 2, 1) := by decide +kernel
theorem dX12_addGroup_32 : decode cX12_addGroup 32 = .ok (.iinc 3 1, 3) := by decide +kernel
theorem dX12_addGroup_35 : decode cX12_addGroup 35 = .ok (.goto (-31), 3) := by decide +kernel
theorem dX12_addGroup_38 : decode cX12_addGroup 38 = .ok (.iload_n 2, 1) := by decide +kernel
theorem dX12_addGroup_39 : decode cX12_addGroup 39 = .ok (.ifCond .ne 23, 3) := by decide +kernel
theorem dX12_addGroup_42 : decode cX12_addGroup 42 = .ok (.aload_n 0, 1) := by decide +kernel
theorem dX12_addGroup_43 : decode cX12_addGroup 43 = .ok (.getfield 138, 3) := by decide +kernel
theorem dX12_addGroup_46 : decode cX12_addGroup 46 = .ok (.aload_n 0, 1) := by decide +kernel
theorem dX12_addGroup_47 : decode cX12_addGroup 47 = .ok (.getfield 440, 3) := by decide +kernel
theorem dX12_addGroup_50 : decode cX12_addGroup 50 = .ok (.iload_n 1, 1) := by decide +kernel
theorem dX12_addGroup_51 : decode cX12_addGroup 51 = .ok (.iastore, 1) := by decide +kernel
theorem dX12_addGroup_52 : decode cX12_addGroup 52 = .ok (.aload_n 0, 1) := by decide +kernel
theorem dX12_addGroup_53 : decode cX12_addGroup 53 = .ok (.dup, 1) := by decide +kernel
theorem dX12_addGroup_54 : decode cX12_addGroup 54 = .ok (.getfield 440, 3) := by decide +kernel
theorem dX12_addGroup_57 : decode cX12_addGroup 57 = .ok (.iconst 1, 1) := by decide +kernel
theorem dX12_addGroup_58 : decode cX12_addGroup 58 = .ok (.iadd, 1) := by decide +kernel
theorem dX12_addGroup_59 : decode cX12_addGroup 59 = .ok (.putfield 440, 3) := by decide +kernel
theorem dX12_addGroup_62 : decode cX12_addGroup 62 = .ok (.return_, 1) := by decide +kernel
theorem dX12_findGroups_0 : decode cX12_findGroups 0 = .ok (.aload_n 0, 1) := by decide +kernel
theorem dX12_findGroups_1 : decode cX12_findGroups 1 = .ok (.iload_n 1, 1) := by decide +kernel
theorem dX12_findGroups_2 : decode cX12_findGroups 2 = .ok (.iload_n 2, 1) := by decide +kernel
theorem dX12_findGroups_3 : decode cX12_findGroups 3 = .ok (.invokevirtual 428, 3) := by decide +kernel
theorem dX12_findGroups_6 : decode cX12_findGroups 6 = .ok (.aload_n 0, 1) := by decide +kernel
theorem dX12_findGroups_7 : decode cX12_findGroups 7 = .ok (.iconst 0, 1) := by decide +kernel
theorem dX12_findGroups_8 : decode cX12_findGroups 8 = .ok (.putfield 440, 3) := by decide +kernel
theorem dX12_findGroups_11 : decode cX12_findGroups 11 = .ok (.iconst 0, 1) := by decide +kernel
theorem dX12_findGroups_12 : decode cX12_findGroups 12 = .ok (.istore_n 3, 1) := by decide +kernel
theorem dX12_findGroups_13 : decode cX12_findGroups 13 = .ok (.iload_n 3, 1) := by decide +kernel
theorem dX12_findGroups_14 : decode cX12_findGroups 14 = .ok (.aload_n 0, 1) := by decide +kernel
theorem dX12_findGroups_15 : decode cX12_findGroups 15 = .ok (.getfield 7, 3) := by decide +kernel
theorem dX12_findGroups_18 : decode cX12_findGroups 18 = .ok (.iload_n 1, 1) := by decide +kernel
theorem dX12_findGroups_19 : decode cX12_findGroups 19 = .ok (.iaload, 1) := by decide +kernel
theorem dX12_findGroups_20 : decode cX12_findGroups 20 = .ok (.if_icmp .ge 150, 3) := by decide +kernel
theorem dX12_findGroups_23 : decode cX12_findGroups 23 = .ok (.iconst (-1), 1) := by decide +kernel
theorem dX12_findGroups_24 : decode cX12_findGroups 24 = .ok (.istore 4, 2) := by decide +kernel
theorem dX12_findGroups_26 : decode cX12_findGroups 26 = .ok (.iload 4, 2) := by decide +kernel
theorem dX12_findGroups_28 : decode cX12_findGroups 28 = .ok (.bipush 64, 2) := by decide +kernel
theorem dX12_findGroups_30 : decode cX12_findGroups 30 = .ok (.if_icmp .ge 134, 3) := by decide +kernel
theorem dX12_findGroups_33 : decode cX12_findGroups 33 = .ok (.iconst 0, 1) := by decide +kernel
theorem dX12_findGroups_34 : decode cX12_findGroups 34 = .ok (.istore 5, 2) := by decide +kernel
theorem dX12_findGroups_36 : decode cX12_findGroups 36 = .ok (.iconst 0, 1) := by decide +kernel
theorem dX12_findGroups_37 : decode cX12_findGroups 37 = .ok (.istore 6, 2) := by decide +kernel
theorem dX12_findGroups_39 : decode cX12_findGroups 39 = .ok (.iconst 0, 1) := by decide +kernel
theorem dX12_findGroups_40 : decode cX12_findGroups 40 = .ok (.istore 7, 2) := by decide +kernel
theorem dX12_findGroups_42 : decode cX12_findGroups 42 = .ok (.iload 7, 2) := by decide +kernel
theorem dX12_findGroups_44 : decode cX12_findGroups 44 = .ok (.aload_n 0, 1) := by decide +kernel
theorem dX12_findGroups_45 : decode cX12_findGroups 45 = .ok (.getfield 151, 3) := by decide +kernel
theorem dX12_findGroups_48 : decode cX12_findGroups 48 = .ok (.if_icmp .ge 82, 3) := by decide +kernel
theorem dX12_findGroups_51 : decode cX12_findGroups 51 = .ok (.iload_n 2, 1) := by decide +kernel
theorem dX12_findGroups_52 : decode cX12_findGroups 52 = .ok (.iload 7, 2) := by decide +kernel
theorem dX12_findGroups_54 : decode cX12_findGroups 54 = .ok (.ishr, 1) := by decide +kernel
theorem dX12_findGroups_55 : decode cX12_findGroups 55 = .ok (.iconst 1, 1) := by decide +kernel
theorem dX12_findGroups_56 : decode cX12_findGroups 56 = .ok (.iand, 1) := by decide +kernel
theorem dX12_findGroups_57 : decode cX12_findGroups 57 = .ok (.iconst 1, 1) := by decide +kernel
theorem dX12_findGroups_58 : decode cX12_findGroups 58 = .ok (.if_icmp .ne 30, 3) := by decide +kernel
theorem dX12_findGroups_61 : decode cX12_findGroups 61 = .ok (.iload 7, 2) := by decide +kernel
theorem dX12_findGroups_63 : decode cX12_findGroups 63 = .ok (.iload_n 1, 1) := by decide +kernel
theorem dX12_findGroups_64 : decode cX12_findGroups 64 = .ok (.if_icmp .eq 24, 3) := by decide +kernel
theorem dX12_findGroups_67 : decode cX12_findGroups 67 = .ok (.aload_n 0, 1) := by decide +kernel
theorem dX12_findGroups_68 : decode cX12_findGroups 68 = .ok (.getfield 135, 3) := by decide +kernel
theorem dX12_findGroups_71 : decode cX12_findGroups 71 = .ok (.bipush 40, 2) := by decide +kernel
theorem dX12_findGroups_73 : decode cX12_findGroups 73 = .ok (.iload 7, 2) := by decide +kernel
theorem dX12_findGroups_75 : decode cX12_findGroups 75 = .ok (.imul, 1) := by decide +kernel
theorem dX12_findGroups_76 : decode cX12_findGroups 76 = .ok (.iload_n 3, 1) := by decide +kernel
theorem dX12_findGroups_77 : decode cX12_findGroups 77 = .ok (.iadd, 1) := by decide +kernel
theorem dX12_findGroups_78 : decode cX12_findGroups 78 = .ok (.iaload, 1) := by decide +kernel
theorem dX12_findGroups_79 : decode cX12_findGroups 79 = .ok (.iload 4, 2) := by decide +kernel
theorem dX12_findGroups_81 : decode cX12_findGroups 81 = .ok (.if_icmp .ne 7, 3) := by decide +kernel
theorem dX12_findGroups_84 : decode cX12_findGroups 84 = .ok (.iconst 1, 1) := by decide +kernel
theorem dX12_findGroups_85 : decode cX12_findGroups 85 = .ok (.goto 4, 3) := by decide +kernel
theorem dX12_findGroups_88 : decode cX12_findGroups 88 = .ok (.iconst 0, 1) := by decide +kernel
theorem dX12_findGroups_89 : decode cX12_findGroups 89 = .ok (.istore 8, 2) := by decide +kernel
theorem dX12_findGroups_91 : decode cX12_findGroups 91 = .ok (.iload 5, 2) := by decide +kernel
theorem dX12_findGroups_93 : decode cX12_findGroups 93 = .ok (.iload 8, 2) := by decide +kernel
theorem dX12_findGroups_95 : decode cX12_findGroups 95 = .ok (.ifCond .eq 10, 3) := by decide +kernel
theorem dX12_findGroups_98 : decode cX12_findGroups 98 = .ok (.iconst 1, 1) := by decide +kernel
theorem dX12_findGroups_99 : decode cX12_findGroups 99 = .ok (.iload 7, 2) := by decide +kernel
theorem dX12_findGroups_101 : decode cX12_findGroups 101 = .ok (.ishl, 1) := by decide +kernel
theorem dX12_findGroups_102 : decode cX12_findGroups 102 = .ok (.goto 4, 3) := by decide +kernel
theorem dX12_findGroups_105 : decode cX12_findGroups 105 = .ok (.iconst 0, 1) := by decide +kernel
theorem dX12_findGroups_106 : decode cX12_findGroups 106 = .ok (.ior, 1) := by decide +kernel
theorem dX12_findGroups_107 : decode cX12_findGroups 107 = .ok (.istore 5, 2) := by decide +kernel
theorem dX12_findGroups_109 : decode cX12_findGroups 109 = .ok (.iload 6, 2) := by decide +kernel
theorem dX12_findGroups_111 : decode cX12_findGroups 111 = .ok (.iload 8, 2) := by decide +kernel
theorem dX12_findGroups_113 : decode cX12_findGroups 113 = .ok (.ifCond .eq 7, 3) := by decide +kernel
theorem dX12_findGroups_116 : decode cX12_findGroups 116 = .ok (.iconst 1, 1) := by decide +kernel
theorem dX12_findGroups_117 : decode cX12_findGroups 117 = .ok (.goto 4, 3) := by decide +kernel
theorem dX12_findGroups_120 : decode cX12_findGroups 120 = .ok (.iconst 0, 1) := by decide +kernel
theorem dX12_findGroups_121 : decode cX12_findGroups 121 = .ok (.iadd, 1) := by decide +kernel
theorem dX12_findGroups_122 : decode cX12_findGroups 122 = .ok (.istore 6, 2) := by decide +kernel
theorem dX12_findGroups_124 : decode cX12_findGroups 124 = .ok (.iinc 7 1, 3) := by decide +kernel
theorem dX12_findGroups_127 : decode cX12_findGroups 127 = .ok (.goto (-85), 3) := by decide +kernel
theorem dX12_findGroups_130 : decode cX12_findGroups 130 = .ok (.iload 6, 2) := by decide +kernel
theorem dX12_findGroups_132 : decode cX12_findGroups 132 = .ok (.iconst 1, 1) := by decide +kernel
theorem dX12_findGroups_133 : decode cX12_findGroups 133 = .ok (.if_icmp .le 25, 3) := by decide +kernel
theorem dX12_findGroups_136 : decode cX12_findGroups 136 = .ok (.iload 4, 2) := by decide +kernel
theorem dX12_findGroups_138 : decode cX12_findGroups 138 = .ok (.aload_n 0, 1) := by decide +kernel
theorem dX12_findGroups_139 : decode cX12_findGroups 139 = .ok (.getfield 13, 3) := by decide +kernel
theorem dX12_findGroups_142 : decode cX12_findGroups 142 = .ok (.bipush 40, 2) := by decide +kernel
theorem dX12_findGroups_144 : decode cX12_findGroups 144 = .ok (.iload_n 1, 1) := by decide +kernel
theorem dX12_findGroups_145 : decode cX12_findGroups 145 = .ok (.imul, 1) := by decide +kernel
theorem dX12_findGroups_146 : decode cX12_findGroups 146 = .ok (.iload_n 3, 1) := by decide +kernel
theorem dX12_findGroups_147 : decode cX12_findGroups 147 = .ok (.iadd, 1) := by decide +kernel
theorem dX12_findGroups_148 : decode cX12_findGroups 148 = .ok (.iaload, 1) := by decide +kernel
theorem dX12_findGroups_149 : decode cX12_findGroups 149 = .ok (.if_icmp .eq 9, 3) := by decide +kernel
theorem dX12_findGroups_152 : decode cX12_findGroups 152 = .ok (.aload_n 0, 1) := by decide +kernel
theorem dX12_findGroups_153 : decode cX12_findGroups 153 = .ok (.iload 5, 2) := by decide +kernel
theorem dX12_findGroups_155 : decode cX12_findGroups 155 = .ok (.invokevirtual 443, 3) := by decide +kernel
theorem dX12_findGroups_158 : decode cX12_findGroups 158 = .ok (.iinc 4 1, 3) := by decide +kernel
theorem dX12_findGroups_161 : decode cX12_findGroups 161 = .ok (.goto (-135), 3) := by decide +kernel
theorem dX12_findGroups_164 : decode cX12_findGroups 164 = .ok (.iinc 3 1, 3) := by decide +kernel
theorem dX12_findGroups_167 : decode cX12_findGroups 167 = .ok (.goto (-154), 3) := by decide +kernel
theorem dX12_findGroups_170 : decode cX12_findGroups 170 = .ok (.return_, 1) := by decide +kernel
theorem dX12_areClashing_0 : decode cX12_areClashing 0 = .ok (.iload_n 0, 1) := by decide +kernel
theorem dX12_areClashing_1 : decode cX12_areClashing 1 = .ok (.iload_n 1, 1) := by decide +kernel
theorem dX12_areClashing_2 : decode cX12_areClashing 2 = .ok (.iand, 1) := by decide +kernel
theorem dX12_areClashing_3 : decode cX12_areClashing 3 = .ok (.ifCond .eq 23, 3) := by decide +kernel
theorem dX12_areClashing_6 : decode cX12_areClashing 6 = .ok (.iload_n 0, 1) := by decide +kernel
theorem dX12_areClashing_7 : decode cX12_areClashing 7 = .ok (.iload_n 1, 1) := by decide +kernel
theorem dX12_areClashing_8 : decode cX12_areClashing 8 = .ok (.iconst (-1), 1) := by decide +kernel
theorem dX12_areClashing_9 : decode cX12_areClashing 9 = .ok (.ixor, 1) := by decide +kernel
theorem dX12_areClashing_10 : decode cX12_areClashing 10 = .ok (.iand, 1) := by decide +kernel
theorem dX12_areClashing_11 : decode cX12_areClashing 11 = .ok (.ifCond .eq 15, 3) := by decide +kernel
theorem dX12_areClashing_14 : decode cX12_areClashing 14 = .ok (.iload_n 1, 1) := by decide +kernel
theorem dX12_areClashing_15 : decode cX12_areClashing 15 = .ok (.iload_n 0, 1) := by decide +kernel
theorem dX12_areClashing_16 : decode cX12_areClashing 16 = .ok (.iconst (-1), 1) := by decide +kernel
theorem dX12_areClashing_17 : decode cX12_areClashing 17 = .ok (.ixor, 1) := by decide +kernel
theorem dX12_areClashing_18 : decode cX12_areClashing 18 = .ok (.iand, 1) := by decide +kernel
theorem dX12_areClashing_19 : decode cX12_areClashing 19 = .ok (.ifCond .eq 7, 3) := by decide +kernel
theorem dX12_areClashing_22 : decode cX12_areClashing 22 = .ok (.iconst 1, 1) := by decide +kernel
theorem dX12_areClashing_23 : decode cX12_areClashing 23 = .ok (.goto 4, 3) := by decide +kernel
theorem dX12_areClashing_26 : decode cX12_areClashing 26 = .ok (.iconst 0, 1) := by decide +kernel
theorem dX12_areClashing_27 : decode cX12_areClashing 27 = .ok (.ireturn, 1) := by decide +kernel
theorem dX12_group_0 : decode cX12_group 0 = .ok (.aload_n 0, 1) := by decide +kernel
theorem dX12_group_1 : decode cX12_group 1 = .ok (.iload_n 1, 1) := by decide +kernel
theorem dX12_group_2 : decode cX12_group 2 = .ok (.invokevirtual 371, 3) := by decide +kernel
theorem dX12_group_5 : decode cX12_group 5 = .ok (.ifCond .eq 11, 3) := by decide +kernel
theorem dX12_group_8 : decode cX12_group 8 = .ok (.aload_n 0, 1) := by decide +kernel
theorem dX12_group_9 : decode cX12_group 9 = .ok (.iload_n 2, 1) := by decide +kernel
theorem dX12_group_10 : decode cX12_group 10 = .ok (.invokevirtual 434, 3) := by decide +kernel
theorem dX12_group_13 : decode cX12_group 13 = .ok (.ifCond .ne 7, 3) := by decide +kernel
theorem dX12_group_16 : decode cX12_group 16 = .ok (.sipush (-1001), 3) := by decide +kernel
theorem dX12_group_19 : decode cX12_group 19 = .ok (.ireturn, 1) := by decide +kernel
theorem dX12_group_20 : decode cX12_group 20 = .ok (.aload_n 0, 1) := by decide +kernel
theorem dX12_group_21 : decode cX12_group 21 = .ok (.iload_n 1, 1) := by decide +kernel
theorem dX12_group_22 : decode cX12_group 22 = .ok (.iload_n 2, 1) := by decide +kernel
theorem dX12_group_23 : decode cX12_group 23 = .ok (.invokevirtual 446, 3) := by decide +kernel
theorem dX12_group_26 : decode cX12_group 26 = .ok (.iload_n 3, 1) := by decide +kernel
theorem dX12_group_27 : decode cX12_group 27 = .ok (.iconst (-1), 1) := by decide +kernel
theorem dX12_group_28 : decode cX12_group 28 = .ok (.if_icmp .ne 10, 3) := by decide +kernel
theorem dX12_group_31 : decode cX12_group 31 = .ok (.aload_n 0, 1) := by decide +kernel
theorem dX12_group_32 : decode cX12_group 32 = .ok (.getfield 440, 3) := by decide +kernel
theorem dX12_group_35 : decode cX12_group 35 = .ok (.goto 29, 3) := by decide +kernel
theorem dX12_group_38 : decode cX12_group 38 = .ok (.iload_n 3, 1) := by decide +kernel
theorem dX12_group_39 : decode cX12_group 39 = .ok (.i2l, 1) := by decide +kernel
theorem dX12_group_40 : decode cX12_group 40 = .ok (.lconst 0, 1) := by decide +kernel
theorem dX12_group_41 : decode cX12_group 41 = .ok (.aload_n 0, 1) := by decide +kernel
theorem dX12_group_42 : decode cX12_group 42 = .ok (.getfield 440, 3) := by decide +kernel
theorem dX12_group_45 : decode cX12_group 45 = .ok (.iconst 1, 1) := by decide +kernel
theorem dX12_group_46 : decode cX12_group 46 = .ok (.isub, 1) := by decide +kernel
theorem dX12_group_47 : decode cX12_group 47 = .ok (.i2l, 1) := by decide +kernel
theorem dX12_group_48 : decode cX12_group 48 = .ok (.invokestatic 154, 3) := by decide +kernel
theorem dX12_group_51 : decode cX12_group 51 = .ok (.ifCond .eq 12, 3) := by decide +kernel
theorem dX12_group_54 : decode cX12_group 54 = .ok (.aload_n 0, 1) := by decide +kernel
theorem dX12_group_55 : decode cX12_group 55 = .ok (.getfield 138, 3) := by decide +kernel
theorem dX12_group_58 : decode cX12_group 58 = .ok (.iload_n 3, 1) := by decide +kernel
theorem dX12_group_59 : decode cX12_group 59 = .ok (.iaload, 1) := by decide +kernel
theorem dX12_group_60 : decode cX12_group 60 = .ok (.goto 4, 3) := by decide +kernel
theorem dX12_group_63 : decode cX12_group 63 = .ok (.iconst (-1), 1) := by decide +kernel
theorem dX12_group_64 : decode cX12_group 64 = .ok (.ireturn, 1) := by decide +kernel
theorem dX12_clash_0 : decode cX12_clash 0 = .ok (.aload_n 0, 1) := by decide +kernel
theorem dX12_clash_1 : decode cX12_clash 1 = .ok (.iload_n 1, 1) := by decide +kernel
theorem dX12_clash_2 : decode cX12_clash 2 = .ok (.invokevirtual 371, 3) := by decide +kernel
theorem dX12_clash_5 : decode cX12_clash 5 = .ok (.ifCond .eq 11, 3) := by decide +kernel
theorem dX12_clash_8 : decode cX12_clash 8 = .ok (.aload_n 0, 1) := by decide +kernel
theorem dX12_clash_9 : decode cX12_clash 9 = .ok (.iload_n 2, 1) := by decide +kernel
theorem dX12_clash_10 : decode cX12_clash 10 = .ok (.invokevirtual 434, 3) := by decide +kernel
theorem dX12_clash_13 : decode cX12_clash 13 = .ok (.ifCond .ne 7, 3) := by decide +kernel
theorem dX12_clash_16 : decode cX12_clash 16 = .ok (.sipush (-1001), 3) := by decide +kernel
theorem dX12_clash_19 : decode cX12_clash 19 = .ok (.ireturn, 1) := by decide +kernel
theorem dX12_clash_20 : decode cX12_clash 20 = .ok (.aload_n 0, 1) := by decide +kernel
theorem dX12_clash_21 : decode cX12_clash 21 = .ok (.iload_n 1, 1) := by decide +kernel
theorem dX12_clash_22 : decode cX12_clash 22 = .ok (.iload_n 2, 1) := by decide +kernel
theorem dX12_clash_23 : decode cX12_clash 23 = .ok (.invokevirtual 446, 3) := by decide +kernel
theorem dX12_clash_26 : decode cX12_clash 26 = .ok (.iconst 0, 1) := by decide +kernel
theorem dX12_clash_27 : decode cX12_clash 27 = .ok (.istore_n 3, 1) := by decide +kernel
theorem dX12_clash_28 : decode cX12_clash 28 = .ok (.iconst 0, 1) := by decide +kernel
theorem dX12_clash_29 : decode cX12_clash 29 = .ok (.istore 4, 2) := by decide +kernel
theorem dX12_clash_31 : decode cX12_clash 31 = .ok (.iload 4, 2) := by decide +kernel
theorem dX12_clash_33 : decode cX12_clash 33 = .ok (.aload_n 0, 1) := by decide +kernel
theorem dX12_clash_34 : decode cX12_clash 34 = .ok (.getfield 440, 3) := by decide +kernel
theorem dX12_clash_37 : decode cX12_clash 37 = .ok (.if_icmp .ge 58, 3) := by decide +kernel
theorem dX12_clash_40 : decode cX12_clash 40 = .ok (.iload 4, 2) := by decide +kernel
theorem dX12_clash_42 : decode cX12_clash 42 = .ok (.iconst 1, 1) := by decide +kernel
theorem dX12_clash_43 : decode cX12_clash 43 = .ok (.iadd, 1) := by decide +kernel
theorem dX12_clash_44 : decode cX12_clash 44 = .ok (.istore 5, 2) := by decide +kernel
theorem dX12_clash_46 : decode cX12_clash 46 = .ok (.iload 5, 2) := by decide +kernel
theorem dX12_clash_48 : decode cX12_clash 48 = .ok (.aload_n 0, 1) := by decide +kernel
theorem dX12_clash_49 : decode cX12_clash 49 = .ok (.getfield 440, 3) := by decide +kernel
theorem dX12_clash_52 : decode cX12_clash 52 = .ok (.if_icmp .ge 37, 3) := by decide +kernel
theorem dX12_clash_55 : decode cX12_clash 55 = .ok (.iload_n 3, 1) := by decide +kernel
theorem dX12_clash_56 : decode cX12_clash 56 = .ok (.aload_n 0, 1) := by decide +kernel
theorem dX12_clash_57 : decode cX12_clash 57 = .ok (.getfield 138, 3) := by decide +kernel
theorem dX12_clash_60 : decode cX12_clash 60 = .ok (.iload 4, 2) := by decide +kernel
theorem dX12_clash_62 : decode cX12_clash 62 = .ok (.iaload, 1) := by decide +kernel
theorem dX12_clash_63 : decode cX12_clash 63 = .ok (.aload_n 0, 1) := by decide +kernel
theorem dX12_clash_64 : decode cX12_clash 64 = .ok (.getfield 138, 3) := by decide +kernel
theorem dX12_clash_67 : decode cX12_clash 67 = .ok (.iload 5, 2) := by decide +kernel
theorem dX12_clash_69 : decode cX12_clash 69 = .ok (.iaload, 1) := by decide +kernel
theorem dX12_clash_70 : decode cX12_clash 70 = .ok (.invokestatic 449, 3) := by decide +kernel
theorem dX12_clash_73 : decode cX12_clash 73 = .ok (.ifCond .eq 7, 3) := by decide +kernel
theorem dX12_clash_76 : decode cX12_clash 76 = .ok (.iconst 1, 1) := by decide +kernel
theorem dX12_clash_77 : decode cX12_clash 77 = .ok (.goto 4, 3) := by decide +kernel
theorem dX12_clash_80 : decode cX12_clash 80 = .ok (.iconst 0, 1) := by decide +kernel
theorem dX12_clash_81 : decode cX12_clash 81 = .ok (.iadd, 1) := by decide +kernel
theorem dX12_clash_82 : decode cX12_clash 82 = .ok (.istore_n 3, 1) := by decide +kernel
theorem dX12_clash_83 : decode cX12_clash 83 = .ok (.iinc 5 1, 3) := by decide +kernel
theorem dX12_clash_86 : decode cX12_clash 86 = .ok (.goto (-40), 3) := by decide +kernel
theorem dX12_clash_89 : decode cX12_clash 89 = .ok (.iinc 4 1, 3) := by decide +kernel
theorem dX12_clash_92 : decode cX12_clash 92 = .ok (.goto (-61), 3) := by decide +kernel
theorem dX12_clash_95 : decode cX12_clash 95 = .ok (.iload_n 3, 1) := by decide +kernel
theorem dX12_clash_96 : decode cX12_clash 96 = .ok (.ireturn, 1) := by decide +kernel
theorem dX12_sound_0 : decode cX12_sound 0 = .ok (.aload_n 0, 1) := by decide +kernel
theorem dX12_sound_1 : decode cX12_sound 1 = .ok (.iload_n 1, 1) := by decide +kernel
theorem dX12_sound_2 : decode cX12_sound 2 = .ok (.invokevirtual 371, 3) := by decide +kernel
theorem dX12_sound_5 : decode cX12_sound 5 = .ok (.ifCond .eq 11, 3) := by decide +kernel
theorem dX12_sound_8 : decode cX12_sound 8 = .ok (.aload_n 0, 1) := by decide +kernel
theorem dX12_sound_9 : decode cX12_sound 9 = .ok (.iload_n 2, 1) := by decide +kernel
theorem dX12_sound_10 : decode cX12_sound 10 = .ok (.invokevirtual 434, 3) := by decide +kernel
theorem dX12_sound_13 : decode cX12_sound 13 = .ok (.ifCond .ne 7, 3) := by decide +kernel
theorem dX12_sound_16 : decode cX12_sound 16 = .ok (.sipush (-1001), 3) := by decide +kernel
theorem dX12_sound_19 : decode cX12_sound 19 = .ok (.ireturn, 1) := by decide +kernel
theorem dX12_sound_20 : decode cX12_sound 20 = .ok (.aload_n 0, 1) := by decide +kernel
theorem dX12_sound_21 : decode cX12_sound 21 = .ok (.iload_n 1, 1) := by decide +kernel
theorem dX12_sound_22 : decode cX12_sound 22 = .ok (.iload_n 2, 1) := by decide +kernel
theorem dX12_sound_23 : decode cX12_sound 23 = .ok (.invokevirtual 446, 3) := by decide +kernel
theorem dX12_sound_26 : decode cX12_sound 26 = .ok (.iconst 0, 1) := by decide +kernel
theorem dX12_sound_27 : decode cX12_sound 27 = .ok (.istore 4, 2) := by decide +kernel
theorem dX12_sound_29 : decode cX12_sound 29 = .ok (.iconst (-1), 1) := by decide +kernel
theorem dX12_sound_30 : decode cX12_sound 30 = .ok (.istore 5, 2) := by decide +kernel
theorem dX12_sound_32 : decode cX12_sound 32 = .ok (.iconst 0, 1) := by decide +kernel
theorem dX12_sound_33 : decode cX12_sound 33 = .ok (.istore 6, 2) := by decide +kernel
theorem dX12_sound_35 : decode cX12_sound 35 = .ok (.iload 6, 2) := by decide +kernel
theorem dX12_sound_37 : decode cX12_sound 37 = .ok (.aload_n 0, 1) := by decide +kernel
theorem dX12_sound_38 : decode cX12_sound 38 = .ok (.getfield 440, 3) := by decide +kernel
theorem dX12_sound_41 : decode cX12_sound 41 = .ok (.if_icmp .ge 102, 3) := by decide +kernel
theorem dX12_sound_44 : decode cX12_sound 44 = .ok (.iconst 0, 1) := by decide +kernel
theorem dX12_sound_45 : decode cX12_sound 45 = .ok (.istore 7, 2) := by decide +kernel
theorem dX12_sound_47 : decode cX12_sound 47 = .ok (.iconst 0, 1) := by decide +kernel
theorem dX12_sound_48 : decode cX12_sound 48 = .ok (.istore 8, 2) := by decide +kernel
theorem dX12_sound_50 : decode cX12_sound 50 = .ok (.iload 8, 2) := by decide +kernel
theorem dX12_sound_52 : decode cX12_sound 52 = .ok (.aload_n 0, 1) := by decide +kernel
theorem dX12_sound_53 : decode cX12_sound 53 = .ok (.getfield 440, 3) := by decide +kernel
theorem dX12_sound_56 : decode cX12_sound 56 = .ok (.if_icmp .ge 41, 3) := by decide +kernel
theorem dX12_sound_59 : decode cX12_sound 59 = .ok (.iload 7, 2) := by decide +kernel
theorem dX12_sound_61 : decode cX12_sound 61 = .ok (.ifCond .ne 23, 3) := by decide +kernel
theorem dX12_sound_64 : decode cX12_sound 64 = .ok (.aload_n 0, 1) := by decide +kernel
theorem dX12_sound_65 : decode cX12_sound 65 = .ok (.getfield 138, 3) := by decide +kernel
theorem dX12_sound_68 : decode cX12_sound 68 = .ok (.iload 6, 2) := by decide +kernel
theorem dX12_sound_70 : decode cX12_sound 70 = .ok (.iaload, 1) := by decide +kernel
theorem dX12_sound_71 : decode cX12_sound 71 = .ok (.aload_n 0, 1) := by decide +kernel
theorem dX12_sound_72 : decode cX12_sound 72 = .ok (.getfield 138, 3) := by decide +kernel
theorem dX12_sound_75 : decode cX12_sound 75 = .ok (.iload 8, 2) := by decide +kernel
theorem dX12_sound_77 : decode cX12_sound 77 = .ok (.iaload, 1) := by decide +kernel
theorem dX12_sound_78 : decode cX12_sound 78 = .ok (.invokestatic 449, 3) := by decide +kernel
theorem dX12_sound_81 : decode cX12_sound 81 = .ok (.ifCond .eq 7, 3) := by decide +kernel
theorem dX12_sound_84 : decode cX12_sound 84 = .ok (.iconst 1, 1) := by decide +kernel
theorem dX12_sound_85 : decode cX12_sound 85 = .ok (.goto 4, 3) := by decide +kernel
theorem dX12_sound_88 : decode cX12_sound 88 = .ok (.iconst 0, 1) := by decide +kernel
theorem dX12_sound_89 : decode cX12_sound 89 = .ok (.istore 7, 2) := by decide +kernel
theorem dX12_sound_91 : decode cX12_sound 91 = .ok (.iinc 8 1, 3) := by decide +kernel
theorem dX12_sound_94 : decode cX12_sound 94 = .ok (.goto (-44), 3) := by decide +kernel
theorem dX12_sound_97 : decode cX12_sound 97 = .ok (.iload 7, 2) := by decide +kernel
theorem dX12_sound_99 : decode cX12_sound 99 = .ok (.ifCond .ne 19, 3) := by decide +kernel
theorem dX12_sound_102 : decode cX12_sound 102 = .ok (.iload 4, 2) := by decide +kernel
theorem dX12_sound_104 : decode cX12_sound 104 = .ok (.iload_n 3, 1) := by decide +kernel
theorem dX12_sound_105 : decode cX12_sound 105 = .ok (.if_icmp .ne 13, 3) := by decide +kernel
theorem dX12_sound_108 : decode cX12_sound 108 = .ok (.aload_n 0, 1) := by decide +kernel
theorem dX12_sound_109 : decode cX12_sound 109 = .ok (.getfield 138, 3) := by decide +kernel
theorem dX12_sound_112 : decode cX12_sound 112 = .ok (.iload 6, 2) := by decide +kernel
theorem dX12_sound_114 : decode cX12_sound 114 = .ok (.iaload, 1) := by decide +kernel
theorem dX12_sound_115 : decode cX12_sound 115 = .ok (.goto 5, 3) := by decide +kernel
theorem dX12_sound_118 : decode cX12_sound 118 = .ok (.iload 5, 2) := by decide +kernel
theorem dX12_sound_120 : decode cX12_sound 120 = .ok (.istore 5, 2) := by decide +kernel
theorem dX12_sound_122 : decode cX12_sound 122 = .ok (.iload 4, 2) := by decide +kernel
theorem dX12_sound_124 : decode cX12_sound 124 = .ok (.iload 7, 2) := by decide +kernel
theorem dX12_sound_126 : decode cX12_sound 126 = .ok (.ifCond .eq 7, 3) := by decide +kernel
theorem dX12_sound_129 : decode cX12_sound 129 = .ok (.iconst 0, 1) := by decide +kernel
theorem dX12_sound_130 : decode cX12_sound 130 = .ok (.goto 4, 3) := by decide +kernel
theorem dX12_sound_133 : decode cX12_sound 133 = .ok (.iconst 1, 1) := by decide +kernel
theorem dX12_sound_134 : decode cX12_sound 134 = .ok (.iadd, 1) := by decide +kernel
theorem dX12_sound_135 : decode cX12_sound 135 = .ok (.istore 4, 2) := by decide +kernel
theorem dX12_sound_137 : decode cX12_sound 137 = .ok (.iinc 6 1, 3) := by decide +kernel
theorem dX12_sound_140 : decode cX12_sound 140 = .ok (.goto (-105), 3) := by decide +kernel
theorem dX12_sound_143 : decode cX12_sound 143 = .ok (.iload_n 3, 1) := by decide +kernel
theorem dX12_sound_144 : decode cX12_sound 144 = .ok (.iconst (-1), 1) := by decide +kernel
theorem dX12_sound_145 : decode cX12_sound 145 = .ok (.if_icmp .ne 8, 3) := by decide +kernel
theorem dX12_sound_148 : decode cX12_sound 148 = .ok (.iload 4, 2) := by decide +kernel
theorem dX12_sound_150 : decode cX12_sound 150 = .ok (.goto 5, 3) := by decide +kernel
theorem dX12_sound_153 : decode cX12_sound 153 = .ok (.iload 5, 2) := by decide +kernel
theorem dX12_sound_155 : decode cX12_sound 155 = .ok (.ireturn, 1) := by decide +kernel
theorem dX12_findTree_0 : decode cX12_findTree 0 = .ok (.iconst 1, 1) := by decide +kernel
theorem dX12_findTree_1 : decode cX12_findTree 1 = .ok (.iload_n 1, 1) := by decide +kernel
theorem dX12_findTree_2 : decode cX12_findTree 2 = .ok (.ishl, 1) := by decide +kernel
theorem dX12_findTree_3 : decode cX12_findTree 3 = .ok (.istore_n 3, 1) := by decide +kernel
theorem dX12_findTree_4 : decode cX12_findTree 4 = .ok (.aload_n 0, 1) := by decide +kernel
theorem dX12_findTree_5 : decode cX12_findTree 5 = .ok (.getfield 141, 3) := by decide +kernel
theorem dX12_findTree_8 : decode cX12_findTree 8 = .ok (.iload_n 1, 1) := by decide +kernel
theorem dX12_findTree_9 : decode cX12_findTree 9 = .ok (.iconst (-1), 1) := by decide +kernel
theorem dX12_findTree_10 : decode cX12_findTree 10 = .ok (.iastore, 1) := by decide +kernel
theorem dX12_findTree_11 : decode cX12_findTree 11 = .ok (.aload_n 0, 1) := by decide +kernel
theorem dX12_findTree_12 : decode cX12_findTree 12 = .ok (.iconst 0, 1) := by decide +kernel
theorem dX12_findTree_13 : decode cX12_findTree 13 = .ok (.putfield 452, 3) := by decide +kernel
theorem dX12_findTree_16 : decode cX12_findTree 16 = .ok (.iload_n 3, 1) := by decide +kernel
theorem dX12_findTree_17 : decode cX12_findTree 17 = .ok (.iload_n 2, 1) := by decide +kernel
theorem dX12_findTree_18 : decode cX12_findTree 18 = .ok (.if_icmp .eq 149, 3) := by decide +kernel
theorem dX12_findTree_21 : decode cX12_findTree 21 = .ok (.iconst (-1), 1) := by decide +kernel
theorem dX12_findTree_22 : decode cX12_findTree 22 = .ok (.istore 4, 2) := by decide +kernel
theorem dX12_findTree_24 : decode cX12_findTree 24 = .ok (.iconst (-1), 1) := by decide +kernel
theorem dX12_findTree_25 : decode cX12_findTree 25 = .ok (.istore 5, 2) := by decide +kernel
theorem dX12_findTree_27 : decode cX12_findTree 27 = .ok (.iconst 0, 1) := by decide +kernel
theorem dX12_findTree_28 : decode cX12_findTree 28 = .ok (.istore 6, 2) := by decide +kernel
theorem dX12_findTree_30 : decode cX12_findTree 30 = .ok (.iconst 0, 1) := by decide +kernel
theorem dX12_findTree_31 : decode cX12_findTree 31 = .ok (.istore 7, 2) := by decide +kernel
theorem dX12_findTree_33 : decode cX12_findTree 33 = .ok (.iload 7, 2) := by decide +kernel
theorem dX12_findTree_35 : decode cX12_findTree 35 = .ok (.aload_n 0, 1) := by decide +kernel
theorem dX12_findTree_36 : decode cX12_findTree 36 = .ok (.getfield 151, 3) := by decide +kernel
theorem dX12_findTree_39 : decode cX12_findTree 39 = .ok (.if_icmp .ge 98, 3) := by decide +kernel
theorem dX12_findTree_42 : decode cX12_findTree 42 = .ok (.iconst 0, 1) := by decide +kernel
theorem dX12_findTree_43 : decode cX12_findTree 43 = .ok (.istore 8, 2) := by decide +kernel
theorem dX12_findTree_45 : decode cX12_findTree 45 = .ok (.iload 8, 2) := by decide +kernel
theorem dX12_findTree_47 : decode cX12_findTree 47 = .ok (.aload_n 0, 1) := by decide +kernel
theorem dX12_findTree_48 : decode cX12_findTree 48 = .ok (.getfield 151, 3) := by decide +kernel
theorem dX12_findTree_51 : decode cX12_findTree 51 = .ok (.if_icmp .ge 80, 3) := by decide +kernel
theorem dX12_findTree_54 : decode cX12_findTree 54 = .ok (.iload_n 2, 1) := by decide +kernel
theorem dX12_findTree_55 : decode cX12_findTree 55 = .ok (.iload_n 3, 1) := by decide +kernel
theorem dX12_findTree_56 : decode cX12_findTree 56 = .ok (.iconst (-1), 1) := by decide +kernel
theorem dX12_findTree_57 : decode cX12_findTree 57 = .ok (.ixor, 1) := by decide +kernel
theorem dX12_findTree_58 : decode cX12_findTree 58 = .ok (.iand, 1) := by decide +kernel
theorem dX12_findTree_59 : decode cX12_findTree 59 = .ok (.iconst 1, 1) := by decide +kernel
theorem dX12_findTree_60 : decode cX12_findTree 60 = .ok (.iload 7, 2) := by decide +kernel
theorem dX12_findTree_62 : decode cX12_findTree 62 = .ok (.ishl, 1) := by decide +kernel
theorem dX12_findTree_63 : decode cX12_findTree 63 = .ok (.iand, 1) := by decide +kernel
theorem dX12_findTree_64 : decode cX12_findTree 64 = .ok (.ifCond .eq 67, 3) := by decide +kernel
theorem dX12_findTree_67 : decode cX12_findTree 67 = .ok (.iload_n 3, 1) := by decide +kernel
theorem dX12_findTree_68 : decode cX12_findTree 68 = .ok (.iload 8, 2) := by decide +kernel
theorem dX12_findTree_70 : decode cX12_findTree 70 = .ok (.ishr, 1) := by decide +kernel
theorem dX12_findTree_71 : decode cX12_findTree 71 = .ok (.iconst 1, 1) := by decide +kernel
theorem dX12_findTree_72 : decode cX12_findTree 72 = .ok (.iand, 1) := by decide +kernel
theorem dX12_findTree_73 : decode cX12_findTree 73 = .ok (.iconst 1, 1) := by decide +kernel
theorem dX12_findTree_74 : decode cX12_findTree 74 = .ok (.if_icmp .ne 14, 3) := by decide +kernel
theorem dX12_findTree_77 : decode cX12_findTree 77 = .ok (.aload_n 0, 1) := by decide +kernel
theorem dX12_findTree_78 : decode cX12_findTree 78 = .ok (.iload 8, 2) := by decide +kernel
theorem dX12_findTree_80 : decode cX12_findTree 80 = .ok (.iload 7, 2) := by decide +kernel
theorem dX12_findTree_82 : decode cX12_findTree 82 = .ok (.invokevirtual 419, 3) := by decide +kernel
theorem dX12_findTree_85 : decode cX12_findTree 85 = .ok (.goto 4, 3) := by decide +kernel
theorem dX12_findTree_88 : decode cX12_findTree 88 = .ok (.iconst 0, 1) := by decide +kernel
theorem dX12_findTree_89 : decode cX12_findTree 89 = .ok (.istore 9, 2) := by decide +kernel
theorem dX12_findTree_91 : decode cX12_findTree 91 = .ok (.iload_n 3, 1) := by decide +kernel
theorem dX12_findTree_92 : decode cX12_findTree 92 = .ok (.iload 8, 2) := by decide +kernel
theorem dX12_findTree_94 : decode cX12_findTree 94 = .ok (.ishr, 1) := by decide +kernel
theorem dX12_findTree_95 : decode cX12_findTree 95 = .ok (.iconst 1, 1) := by decide +kernel
theorem dX12_findTree_96 : decode cX12_findTree 96 = .ok (.iand, 1) := by decide +kernel
theorem dX12_findTree_97 : decode cX12_findTree 97 = .ok (.iconst 1, 1) := by decide +kernel
theorem dX12_findTree_98 : decode cX12_findTree 98 = .ok (.if_icmp .ne 27, 3) := by decide +kernel
theorem dX12_findTree_101 : decode cX12_findTree 101 = .ok (.iload 4, 2) := by decide +kernel
theorem dX12_findTree_103 : decode cX12_findTree 103 = .ok (.ifCond .lt 10, 3) := by decide +kernel
theorem dX12_findTree_106 : decode cX12_findTree 106 = .ok (.iload 9, 2) := by decide +kernel
theorem dX12_findTree_108 : decode cX12_findTree 108 = .ok (.iload 6, 2) := by decide +kernel
theorem dX12_findTree_110 : decode cX12_findTree 110 = .ok (.if_icmp .ge 15, 3) := by decide +kernel
theorem dX12_findTree_113 : decode cX12_findTree 113 = .ok (.iload 7, 2) := by decide +kernel
theorem dX12_findTree_115 : decode cX12_findTree 115 = .ok (.istore 4, 2) := by decide +kernel
theorem dX12_findTree_117 : decode cX12_findTree 117 = .ok (.iload 8, 2) := by decide +kernel
theorem dX12_findTree_119 : decode cX12_findTree 119 = .ok (.istore 5, 2) := by decide +kernel
theorem dX12_findTree_121 : decode cX12_findTree 121 = .ok (.iload 9, 2) := by decide +kernel
theorem dX12_findTree_123 : decode cX12_findTree 123 = .ok (.istore 6, 2) := by decide +kernel
theorem dX12_findTree_125 : decode cX12_findTree 125 = .ok (.iinc 8 1, 3) := by decide +kernel
theorem dX12_findTree_128 : decode cX12_findTree 128 = .ok (.goto (-83), 3) := by decide +kernel
theorem dX12_findTree_131 : decode cX12_findTree 131 = .ok (.iinc 7 1, 3) := by decide +kernel
theorem dX12_findTree_134 : decode cX12_findTree 134 = .ok (.goto (-101), 3) := by decide +kernel
theorem dX12_findTree_137 : decode cX12_findTree 137 = .ok (.aload_n 0, 1) := by decide +kernel
theorem dX12_findTree_138 : decode cX12_findTree 138 = .ok (.getfield 141, 3) := by decide +kernel
theorem dX12_findTree_141 : decode cX12_findTree 141 = .ok (.iload 4, 2) := by decide +kernel
theorem dX12_findTree_143 : decode cX12_findTree 143 = .ok (.iload 5, 2) := by decide +kernel
theorem dX12_findTree_145 : decode cX12_findTree 145 = .ok (.iastore, 1) := by decide +kernel
theorem dX12_findTree_146 : decode cX12_findTree 146 = .ok (.aload_n 0, 1) := by decide +kernel
theorem dX12_findTree_147 : decode cX12_findTree 147 = .ok (.dup, 1) := by decide +kernel
theorem dX12_findTree_148 : decode cX12_findTree 148 = .ok (.getfield 452, 3) := by decide +kernel
theorem dX12_findTree_151 : decode cX12_findTree 151 = .ok (.iload 6, 2) := by decide +kernel
theorem dX12_findTree_153 : decode cX12_findTree 153 = .ok (.iadd, 1) := by decide +kernel
theorem dX12_findTree_154 : decode cX12_findTree 154 = .ok (.putfield 452, 3) := by decide +kernel
theorem dX12_findTree_157 : decode cX12_findTree 157 = .ok (.iload_n 3, 1) := by decide +kernel
theorem dX12_findTree_158 : decode cX12_findTree 158 = .ok (.iconst 1, 1) := by decide +kernel
theorem dX12_findTree_159 : decode cX12_findTree 159 = .ok (.iload 4, 2) := by decide +kernel
theorem dX12_findTree_161 : decode cX12_findTree 161 = .ok (.ishl, 1) := by decide +kernel
theorem dX12_findTree_162 : decode cX12_findTree 162 = .ok (.ior, 1) := by decide +kernel
theorem dX12_findTree_163 : decode cX12_findTree 163 = .ok (.istore_n 3, 1) := by decide +kernel
theorem dX12_findTree_164 : decode cX12_findTree 164 = .ok (.goto (-148), 3) := by decide +kernel
theorem dX12_findTree_167 : decode cX12_findTree 167 = .ok (.return_, 1) := by decide +kernel
theorem dX12_parent_0 : decode cX12_parent 0 = .ok (.aload_n 0, 1) := by decide +kernel
theorem dX12_parent_1 : decode cX12_parent 1 = .ok (.iload_n 1, 1) := by decide +kernel
theorem dX12_parent_2 : decode cX12_parent 2 = .ok (.invokevirtual 371, 3) := by decide +kernel
theorem dX12_parent_5 : decode cX12_parent 5 = .ok (.ifCond .eq 35, 3) := by decide +kernel
theorem dX12_parent_8 : decode cX12_parent 8 = .ok (.aload_n 0, 1) := by decide +kernel
theorem dX12_parent_9 : decode cX12_parent 9 = .ok (.iload_n 2, 1) := by decide +kernel
theorem dX12_parent_10 : decode cX12_parent 10 = .ok (.invokevirtual 434, 3) := by decide +kernel
theorem dX12_parent_13 : decode cX12_parent 13 = .ok (.ifCond .eq 27, 3) := by decide +kernel
theorem dX12_parent_16 : decode cX12_parent 16 = .ok (.aload_n 0, 1) := by decide +kernel
theorem dX12_parent_17 : decode cX12_parent 17 = .ok (.iload_n 3, 1) := by decide +kernel
theorem dX12_parent_18 : decode cX12_parent 18 = .ok (.invokevirtual 371, 3) := by decide +kernel
theorem dX12_parent_21 : decode cX12_parent 21 = .ok (.ifCond .eq 19, 3) := by decide +kernel
theorem dX12_parent_24 : decode cX12_parent 24 = .ok (.iload_n 2, 1) := by decide +kernel
theorem dX12_parent_25 : decode cX12_parent 25 = .ok (.iload_n 1, 1) := by decide +kernel
theorem dX12_parent_26 : decode cX12_parent 26 = .ok (.ishr, 1) := by decide +kernel
theorem dX12_parent_27 : decode cX12_parent 27 = .ok (.iconst 1, 1) := by decide +kernel
theorem dX12_parent_28 : decode cX12_parent 28 = .ok (.iand, 1) := by decide +kernel
theorem dX12_parent_29 : decode cX12_parent 29 = .ok (.ifCond .eq 11, 3) := by decide +kernel
theorem dX12_parent_32 : decode cX12_parent 32 = .ok (.iload_n 2, 1) := by decide +kernel
theorem dX12_parent_33 : decode cX12_parent 33 = .ok (.iload_n 3, 1) := by decide +kernel
theorem dX12_parent_34 : decode cX12_parent 34 = .ok (.ishr, 1) := by decide +kernel
theorem dX12_parent_35 : decode cX12_parent 35 = .ok (.iconst 1, 1) := by decide +kernel
theorem dX12_parent_36 : decode cX12_parent 36 = .ok (.iand, 1) := by decide +kernel
theorem dX12_parent_37 : decode cX12_parent 37 = .ok (.ifCond .ne 7, 3) := by decide +kernel
theorem dX12_parent_40 : decode cX12_parent 40 = .ok (.sipush (-1001), 3) := by decide +kernel
theorem dX12_parent_43 : decode cX12_parent 43 = .ok (.ireturn, 1) := by decide +kernel
theorem dX12_parent_44 : decode cX12_parent 44 = .ok (.aload_n 0, 1) := by decide +kernel
theorem dX12_parent_45 : decode cX12_parent 45 = .ok (.iload_n 1, 1) := by decide +kernel
theorem dX12_parent_46 : decode cX12_parent 46 = .ok (.iload_n 2, 1) := by decide +kernel
theorem dX12_parent_47 : decode cX12_parent 47 = .ok (.invokevirtual 455, 3) := by decide +kernel
theorem dX12_parent_50 : decode cX12_parent 50 = .ok (.aload_n 0, 1) := by decide +kernel
theorem dX12_parent_51 : decode cX12_parent 51 = .ok (.getfield 141, 3) := by decide +kernel
theorem dX12_parent_54 : decode cX12_parent 54 = .ok (.iload_n 3, 1) := by decide +kernel
theorem dX12_parent_55 : decode cX12_parent 55 = .ok (.iaload, 1) := by decide +kernel
theorem dX12_parent_56 : decode cX12_parent 56 = .ok (.ireturn, 1) := by decide +kernel
theorem dX12_tree_0 : decode cX12_tree 0 = .ok (.aload_n 0, 1) := by decide +kernel
theorem dX12_tree_1 : decode cX12_tree 1 = .ok (.iload_n 1, 1) := by decide +kernel
theorem dX12_tree_2 : decode cX12_tree 2 = .ok (.invokevirtual 371, 3) := by decide +kernel
theorem dX12_tree_5 : decode cX12_tree 5 = .ok (.ifCond .eq 19, 3) := by decide +kernel
theorem dX12_tree_8 : decode cX12_tree 8 = .ok (.aload_n 0, 1) := by decide +kernel
theorem dX12_tree_9 : decode cX12_tree 9 = .ok (.iload_n 2, 1) := by decide +kernel
theorem dX12_tree_10 : decode cX12_tree 10 = .ok (.invokevirtual 434, 3) := by decide +kernel
theorem dX12_tree_13 : decode cX12_tree 13 = .ok (.ifCond .eq 11, 3) := by decide +kernel
theorem dX12_tree_16 : decode cX12_tree 16 = .ok (.iload_n 2, 1) := by decide +kernel
theorem dX12_tree_17 : decode cX12_tree 17 = .ok (.iload_n 1, 1) := by decide +kernel
theorem dX12_tree_18 : decode cX12_tree 18 = .ok (.ishr, 1) := by decide +kernel
theorem dX12_tree_19 : decode cX12_tree 19 = .ok (.iconst 1, 1) := by decide +kernel
theorem dX12_tree_20 : decode cX12_tree 20 = .ok (.iand, 1) := by decide +kernel
theorem dX12_tree_21 : decode cX12_tree 21 = .ok (.ifCond .ne 7, 3) := by decide +kernel
theorem dX12_tree_24 : decode cX12_tree 24 = .ok (.sipush (-1001), 3) := by decide +kernel
theorem dX12_tree_27 : decode cX12_tree 27 = .ok (.ireturn, 1) := by decide +kernel
theorem dX12_tree_28 : decode cX12_tree 28 = .ok (.iload_n 3, 1) := by decide +kernel
theorem dX12_tree_29 : decode cX12_tree 29 = .ok (.i2l, 1) := by decide +kernel
theorem dX12_tree_30 : decode cX12_tree 30 = .ok (.lconst 0, 1) := by decide +kernel
theorem dX12_tree_31 : decode cX12_tree 31 = .ok (.lconst 1, 1) := by decide +kernel
theorem dX12_tree_32 : decode cX12_tree 32 = .ok (.invokestatic 154, 3) := by decide +kernel
theorem dX12_tree_35 : decode cX12_tree 35 = .ok (.ifCond .ne 7, 3) := by decide +kernel
theorem dX12_tree_38 : decode cX12_tree 38 = .ok (.sipush (-1002), 3) := by decide +kernel
theorem dX12_tree_41 : decode cX12_tree 41 = .ok (.ireturn, 1) := by decide +kernel
theorem dX12_tree_42 : decode cX12_tree 42 = .ok (.aload_n 0, 1) := by decide +kernel
theorem dX12_tree_43 : decode cX12_tree 43 = .ok (.iload_n 1, 1) := by decide +kernel
theorem dX12_tree_44 : decode cX12_tree 44 = .ok (.iload_n 2, 1) := by decide +kernel
theorem dX12_tree_45 : decode cX12_tree 45 = .ok (.invokevirtual 455, 3) := by decide +kernel
theorem dX12_tree_48 : decode cX12_tree 48 = .ok (.iconst 0, 1) := by decide +kernel
theorem dX12_tree_49 : decode cX12_tree 49 = .ok (.istore 4, 2) := by decide +kernel
theorem dX12_tree_51 : decode cX12_tree 51 = .ok (.iconst 0, 1) := by decide +kernel
theorem dX12_tree_52 : decode cX12_tree 52 = .ok (.istore 5, 2) := by decide +kernel
theorem dX12_tree_54 : decode cX12_tree 54 = .ok (.iload 5, 2) := by decide +kernel
theorem dX12_tree_56 : decode cX12_tree 56 = .ok (.aload_n 0, 1) := by decide +kernel
theorem dX12_tree_57 : decode cX12_tree 57 = .ok (.getfield 151, 3) := by decide +kernel
theorem dX12_tree_60 : decode cX12_tree 60 = .ok (.if_icmp .ge 52, 3) := by decide +kernel
theorem dX12_tree_63 : decode cX12_tree 63 = .ok (.iload 4, 2) := by decide +kernel
theorem dX12_tree_65 : decode cX12_tree 65 = .ok (.iload_n 2, 1) := by decide +kernel
theorem dX12_tree_66 : decode cX12_tree 66 = .ok (.iload 5, 2) := by decide +kernel
theorem dX12_tree_68 : decode cX12_tree 68 = .ok (.ishr, 1) := by decide +kernel
theorem dX12_tree_69 : decode cX12_tree 69 = .ok (.iconst 1, 1) := by decide +kernel
theorem dX12_tree_70 : decode cX12_tree 70 = .ok (.iand, 1) := by decide +kernel
theorem dX12_tree_71 : decode cX12_tree 71 = .ok (.iconst 1, 1) := by decide +kernel
theorem dX12_tree_72 : decode cX12_tree 72 = .ok (.if_icmp .ne 30, 3) := by decide +kernel
theorem dX12_tree_75 : decode cX12_tree 75 = .ok (.iload 5, 2) := by decide +kernel
theorem dX12_tree_77 : decode cX12_tree 77 = .ok (.iload_n 1, 1) := by decide +kernel
theorem dX12_tree_78 : decode cX12_tree 78 = .ok (.if_icmp .eq 24, 3) := by decide +kernel
theorem dX12_tree_81 : decode cX12_tree 81 = .ok (.aload_n 0, 1) := by decide +kernel
theorem dX12_tree_82 : decode cX12_tree 82 = .ok (.getfield 141, 3) := by decide +kernel
theorem dX12_tree_85 : decode cX12_tree 85 = .ok (.iload 5, 2) := by decide +kernel
theorem dX12_tree_87 : decode cX12_tree 87 = .ok (.iaload, 1) := by decide +kernel
theorem dX12_tree_88 : decode cX12_tree 88 = .ok (.aload_n 0, 1) := by decide +kernel
theorem dX12_tree_89 : decode cX12_tree 89 = .ok (.getfield 40, 3) := by decide +kernel
theorem dX12_tree_92 : decode cX12_tree 92 = .ok (.iload 5, 2) := by decide +kernel
theorem dX12_tree_94 : decode cX12_tree 94 = .ok (.iaload, 1) := by decide +kernel
theorem dX12_tree_95 : decode cX12_tree 95 = .ok (.if_icmp .eq 7, 3) := by decide +kernel
theorem dX12_tree_98 : decode cX12_tree 98 = .ok (.iconst 1, 1) := by decide +kernel
theorem dX12_tree_99 : decode cX12_tree 99 = .ok (.goto 4, 3) := by decide +kernel
theorem dX12_tree_102 : decode cX12_tree 102 = .ok (.iconst 0, 1) := by decide +kernel
theorem dX12_tree_103 : decode cX12_tree 103 = .ok (.iadd, 1) := by decide +kernel
theorem dX12_tree_104 : decode cX12_tree 104 = .ok (.istore 4, 2) := by decide +kernel
theorem dX12_tree_106 : decode cX12_tree 106 = .ok (.iinc 5 1, 3) := by decide +kernel
theorem dX12_tree_109 : decode cX12_tree 109 = .ok (.goto (-55), 3) := by decide +kernel
theorem dX12_tree_112 : decode cX12_tree 112 = .ok (.iload_n 3, 1) := by decide +kernel
theorem dX12_tree_113 : decode cX12_tree 113 = .ok (.ifCond .ne 10, 3) := by decide +kernel
theorem dX12_tree_116 : decode cX12_tree 116 = .ok (.aload_n 0, 1) := by decide +kernel
theorem dX12_tree_117 : decode cX12_tree 117 = .ok (.getfield 452, 3) := by decide +kernel
theorem dX12_tree_120 : decode cX12_tree 120 = .ok (.goto 5, 3) := by decide +kernel
theorem dX12_tree_123 : decode cX12_tree 123 = .ok (.iload 4, 2) := by decide +kernel
theorem dX12_tree_125 : decode cX12_tree 125 = .ok (.ireturn, 1) := by decide +kernel
theorem dX12_explaining_0 : decode cX12_explaining 0 = .ok (.lconst 0, 1) := by decide +kernel
theorem dX12_explaining_1 : decode cX12_explaining 1 = .ok (.lstore_n 3, 1) := by decide +kernel
theorem dX12_explaining_2 : decode cX12_explaining 2 = .ok (.iconst 0, 1) := by decide +kernel
theorem dX12_explaining_3 : decode cX12_explaining 3 = .ok (.istore 5, 2) := by decide +kernel
theorem dX12_explaining_5 : decode cX12_explaining 5 = .ok (.iload 5, 2) := by decide +kernel
theorem dX12_explaining_7 : decode cX12_explaining 7 = .ok (.aload_n 0, 1) := by decide +kernel
theorem dX12_explaining_8 : decode cX12_explaining 8 = .ok (.getfield 19, 3) := by decide +kernel
theorem dX12_explaining_11 : decode cX12_explaining 11 = .ok (.iload_n 1, 1) := by decide +kernel
theorem dX12_explaining_12 : decode cX12_explaining 12 = .ok (.iaload, 1) := by decide +kernel
theorem dX12_explaining_13 : decode cX12_explaining 13 = .ok (.if_icmp .ge 122, 3) := by decide +kernel
theorem dX12_explaining_16 : decode cX12_explaining 16 = .ok (.bipush 20, 2) := by decide +kernel
theorem dX12_explaining_18 : decode cX12_explaining 18 = .ok (.iload_n 1, 1) := by decide +kernel
theorem dX12_explaining_19 : decode cX12_explaining 19 = .ok (.imul, 1) := by decide +kernel
theorem dX12_explaining_20 : decode cX12_explaining 20 = .ok (.iload 5, 2) := by decide +kernel
theorem dX12_explaining_22 : decode cX12_explaining 22 = .ok (.iadd, 1) := by decide +kernel
theorem dX12_explaining_23 : decode cX12_explaining 23 = .ok (.istore 6, 2) := by decide +kernel
theorem dX12_explaining_25 : decode cX12_explaining 25 = .ok (.aload_n 0, 1) := by decide +kernel
theorem dX12_explaining_26 : decode cX12_explaining 26 = .ok (.iload_n 1, 1) := by decide +kernel
theorem dX12_explaining_27 : decode cX12_explaining 27 = .ok (.aload_n 0, 1) := by decide +kernel
theorem dX12_explaining_28 : decode cX12_explaining 28 = .ok (.getfield 25, 3) := by decide +kernel
theorem dX12_explaining_31 : decode cX12_explaining 31 = .ok (.iload 6, 2) := by decide +kernel
theorem dX12_explaining_33 : decode cX12_explaining 33 = .ok (.iaload, 1) := by decide +kernel
theorem dX12_explaining_34 : decode cX12_explaining 34 = .ok (.aload_n 0, 1) := by decide +kernel
theorem dX12_explaining_35 : decode cX12_explaining 35 = .ok (.getfield 28, 3) := by decide +kernel
theorem dX12_explaining_38 : decode cX12_explaining 38 = .ok (.iload 6, 2) := by decide +kernel
theorem dX12_explaining_40 : decode cX12_explaining 40 = .ok (.iaload, 1) := by decide +kernel
theorem dX12_explaining_41 : decode cX12_explaining 41 = .ok (.invokevirtual 359, 3) := by decide +kernel
theorem dX12_explaining_44 : decode cX12_explaining 44 = .ok (.istore 7, 2) := by decide +kernel
theorem dX12_explaining_46 : decode cX12_explaining 46 = .ok (.aload_n 0, 1) := by decide +kernel
theorem dX12_explaining_47 : decode cX12_explaining 47 = .ok (.iload_n 1, 1) := by decide +kernel
theorem dX12_explaining_48 : decode cX12_explaining 48 = .ok (.aload_n 0, 1) := by decide +kernel
theorem dX12_explaining_49 : decode cX12_explaining 49 = .ok (.getfield 25, 3) := by decide +kernel
theorem dX12_explaining_52 : decode cX12_explaining 52 = .ok (.iload 6, 2) := by decide +kernel
theorem dX12_explaining_54 : decode cX12_explaining 54 = .ok (.iaload, 1) := by decide +kernel
theorem dX12_explaining_55 : decode cX12_explaining 55 = .ok (.aload_n 0, 1) := by decide +kernel
theorem dX12_explaining_56 : decode cX12_explaining 56 = .ok (.getfield 28, 3) := by decide +kernel
theorem dX12_explaining_59 : decode cX12_explaining 59 = .ok (.iload 6, 2) := by decide +kernel
theorem dX12_explaining_61 : decode cX12_explaining 61 = .ok (.iaload, 1) := by decide +kernel
theorem dX12_explaining_62 : decode cX12_explaining 62 = .ok (.invokevirtual 362, 3) := by decide +kernel
theorem dX12_explaining_65 : decode cX12_explaining 65 = .ok (.iconst 1, 1) := by decide +kernel
theorem dX12_explaining_66 : decode cX12_explaining 66 = .ok (.if_icmp .ne 36, 3) := by decide +kernel
theorem dX12_explaining_69 : decode cX12_explaining 69 = .ok (.aload_n 0, 1) := by decide +kernel
theorem dX12_explaining_70 : decode cX12_explaining 70 = .ok (.iload_n 1, 1) := by decide +kernel
theorem dX12_explaining_71 : decode cX12_explaining 71 = .ok (.aload_n 0, 1) := by decide +kernel
theorem dX12_explaining_72 : decode cX12_explaining 72 = .ok (.getfield 25, 3) := by decide +kernel
theorem dX12_explaining_75 : decode cX12_explaining 75 = .ok (.iload 6, 2) := by decide +kernel
theorem dX12_explaining_77 : decode cX12_explaining 77 = .ok (.iaload, 1) := by decide +kernel
theorem dX12_explaining_78 : decode cX12_explaining 78 = .ok (.iload 7, 2) := by decide +kernel
theorem dX12_explaining_80 : decode cX12_explaining 80 = .ok (.invokevirtual 318, 3) := by decide +kernel
theorem dX12_explaining_83 : decode cX12_explaining 83 = .ok (.iload_n 2, 1) := by decide +kernel
theorem dX12_explaining_84 : decode cX12_explaining 84 = .ok (.if_icmp .ne 18, 3) := by decide +kernel
theorem dX12_explaining_87 : decode cX12_explaining 87 = .ok (.aload_n 0, 1) := by decide +kernel
theorem dX12_explaining_88 : decode cX12_explaining 88 = .ok (.getfield 31, 3) := by decide +kernel
theorem dX12_explaining_91 : decode cX12_explaining 91 = .ok (.iload 6, 2) := by decide +kernel
theorem dX12_explaining_93 : decode cX12_explaining 93 = .ok (.iaload, 1) := by decide +kernel
theorem dX12_explaining_94 : decode cX12_explaining 94 = .ok (.iconst 1, 1) := by decide +kernel
theorem dX12_explaining_95 : decode cX12_explaining 95 = .ok (.if_icmp .ne 7, 3) := by decide +kernel
theorem dX12_explaining_98 : decode cX12_explaining 98 = .ok (.iconst 1, 1) := by decide +kernel
theorem dX12_explaining_99 : decode cX12_explaining 99 = .ok (.goto 4, 3) := by decide +kernel
theorem dX12_explaining_102 : decode cX12_explaining 102 = .ok (.iconst 0, 1) := by decide +kernel
theorem dX12_explaining_103 : decode cX12_explaining 103 = .ok (.istore 8, 2) := by decide +kernel
theorem dX12_explaining_105 : decode cX12_explaining 105 = .ok (.lload_n 3, 1) := by decide +kernel
theorem dX12_explaining_106 : decode cX12_explaining 106 = .ok (.iload 8, 2) := by decide +kernel
theorem dX12_explaining_108 : decode cX12_explaining 108 = .ok (.ifCond .eq 18, 3) := by decide +kernel
theorem dX12_explaining_111 : decode cX12_explaining 111 = .ok (.lconst 1, 1) := by decide +kernel
theorem dX12_explaining_112 : decode cX12_explaining 112 = .ok (.aload_n 0, 1) := by decide +kernel
theorem dX12_explaining_113 : decode cX12_explaining 113 = .ok (.getfield 34, 3) := by decide +kernel
theorem dX12_explaining_116 : decode cX12_explaining 116 = .ok (.bipush 8, 2) := by decide +kernel
theorem dX12_explaining_118 : decode cX12_explaining 118 = .ok (.iload 6, 2) := by decide +kernel
theorem dX12_explaining_120 : decode cX12_explaining 120 = .ok (.imul, 1) := by decide +kernel
theorem dX12_explaining_121 : decode cX12_explaining 121 = .ok (.iaload, 1) := by decide +kernel
theorem dX12_explaining_122 : decode cX12_explaining 122 = .ok (.lshl, 1) := by decide +kernel
theorem dX12_explaining_123 : decode cX12_explaining 123 = .ok (.goto 4, 3) := by decide +kernel
theorem dX12_explaining_126 : decode cX12_explaining 126 = .ok (.lconst 0, 1) := by decide +kernel
theorem dX12_explaining_127 : decode cX12_explaining 127 = .ok (.lor, 1) := by decide +kernel
theorem dX12_explaining_128 : decode cX12_explaining 128 = .ok (.lstore_n 3, 1) := by decide +kernel
theorem dX12_explaining_129 : decode cX12_explaining 129 = .ok (.iinc 5 1, 3) := by decide +kernel
theorem dX12_explaining_132 : decode cX12_explaining 132 = .ok (.goto (-127), 3) := by decide +kernel
theorem dX12_explaining_135 : decode cX12_explaining 135 = .ok (.lload_n 3, 1) := by decide +kernel
theorem dX12_explaining_136 : decode cX12_explaining 136 = .ok (.lreturn, 1) := by decide +kernel
theorem dX12_explained_0 : decode cX12_explained 0 = .ok (.aload_n 0, 1) := by decide +kernel
theorem dX12_explained_1 : decode cX12_explained 1 = .ok (.iload_n 1, 1) := by decide +kernel
theorem dX12_explained_2 : decode cX12_explained 2 = .ok (.invokevirtual 371, 3) := by decide +kernel
theorem dX12_explained_5 : decode cX12_explained 5 = .ok (.ifCond .ne 7, 3) := by decide +kernel
theorem dX12_explained_8 : decode cX12_explained 8 = .ok (.ldc2_w 458, 3) := by decide +kernel
theorem dX12_explained_11 : decode cX12_explained 11 = .ok (.lreturn, 1) := by decide +kernel
theorem dX12_explained_12 : decode cX12_explained 12 = .ok (.iload_n 2, 1) := by decide +kernel
theorem dX12_explained_13 : decode cX12_explained 13 = .ok (.invokestatic 398, 3) := by decide +kernel
theorem dX12_explained_16 : decode cX12_explained 16 = .ok (.ifCond .eq 12, 3) := by decide +kernel
theorem dX12_explained_19 : decode cX12_explained 19 = .ok (.aload_n 0, 1) := by decide +kernel
theorem dX12_explained_20 : decode cX12_explained 20 = .ok (.iload_n 1, 1) := by decide +kernel
theorem dX12_explained_21 : decode cX12_explained 21 = .ok (.iload_n 2, 1) := by decide +kernel
theorem dX12_explained_22 : decode cX12_explained 22 = .ok (.invokevirtual 460, 3) := by decide +kernel
theorem dX12_explained_25 : decode cX12_explained 25 = .ok (.goto 6, 3) := by decide +kernel
theorem dX12_explained_28 : decode cX12_explained 28 = .ok (.ldc2_w 464, 3) := by decide +kernel
theorem dX12_explained_31 : decode cX12_explained 31 = .ok (.lreturn, 1) := by decide +kernel
theorem dX12_stepsOf_0 : decode cX12_stepsOf 0 = .ok (.aload_n 0, 1) := by decide +kernel
theorem dX12_stepsOf_1 : decode cX12_stepsOf 1 = .ok (.iload_n 1, 1) := by decide +kernel
theorem dX12_stepsOf_2 : decode cX12_stepsOf 2 = .ok (.iload_n 2, 1) := by decide +kernel
theorem dX12_stepsOf_3 : decode cX12_stepsOf 3 = .ok (.invokevirtual 460, 3) := by decide +kernel
theorem dX12_stepsOf_6 : decode cX12_stepsOf 6 = .ok (.lstore 4, 2) := by decide +kernel
theorem dX12_stepsOf_8 : decode cX12_stepsOf 8 = .ok (.iconst 1, 1) := by decide +kernel
theorem dX12_stepsOf_9 : decode cX12_stepsOf 9 = .ok (.istore 6, 2) := by decide +kernel
theorem dX12_stepsOf_11 : decode cX12_stepsOf 11 = .ok (.lconst 0, 1) := by decide +kernel
theorem dX12_stepsOf_12 : decode cX12_stepsOf 12 = .ok (.lstore 7, 2) := by decide +kernel
theorem dX12_stepsOf_14 : decode cX12_stepsOf 14 = .ok (.lload 4, 2) := by decide +kernel
theorem dX12_stepsOf_16 : decode cX12_stepsOf 16 = .ok (.iload_n 3, 1) := by decide +kernel
theorem dX12_stepsOf_17 : decode cX12_stepsOf 17 = .ok (.lshr, 1) := by decide +kernel
theorem dX12_stepsOf_18 : decode cX12_stepsOf 18 = .ok (.lconst 1, 1) := by decide +kernel
theorem dX12_stepsOf_19 : decode cX12_stepsOf 19 = .ok (.land, 1) := by decide +kernel
theorem dX12_stepsOf_20 : decode cX12_stepsOf 20 = .ok (.lconst 0, 1) := by decide +kernel
theorem dX12_stepsOf_21 : decode cX12_stepsOf 21 = .ok (.lcmp, 1) := by decide +kernel
theorem dX12_stepsOf_22 : decode cX12_stepsOf 22 = .ok (.ifCond .ne 65, 3) := by decide +kernel
theorem dX12_stepsOf_25 : decode cX12_stepsOf 25 = .ok (.lload 4, 2) := by decide +kernel
theorem dX12_stepsOf_27 : decode cX12_stepsOf 27 = .ok (.lload 7, 2) := by decide +kernel
theorem dX12_stepsOf_29 : decode cX12_stepsOf 29 = .ok (.lcmp, 1) := by decide +kernel
theorem dX12_stepsOf_30 : decode cX12_stepsOf 30 = .ok (.ifCond .eq 57, 3) := by decide +kernel
theorem dX12_stepsOf_33 : decode cX12_stepsOf 33 = .ok (.lload 4, 2) := by decide +kernel
theorem dX12_stepsOf_35 : decode cX12_stepsOf 35 = .ok (.lstore 7, 2) := by decide +kernel
theorem dX12_stepsOf_37 : decode cX12_stepsOf 37 = .ok (.iconst 0, 1) := by decide +kernel
theorem dX12_stepsOf_38 : decode cX12_stepsOf 38 = .ok (.istore 9, 2) := by decide +kernel
theorem dX12_stepsOf_40 : decode cX12_stepsOf 40 = .ok (.iload 9, 2) := by decide +kernel
theorem dX12_stepsOf_42 : decode cX12_stepsOf 42 = .ok (.bipush 64, 2) := by decide +kernel
theorem dX12_stepsOf_44 : decode cX12_stepsOf 44 = .ok (.if_icmp .ge 37, 3) := by decide +kernel
theorem dX12_stepsOf_47 : decode cX12_stepsOf 47 = .ok (.lload 4, 2) := by decide +kernel
theorem dX12_stepsOf_49 : decode cX12_stepsOf 49 = .ok (.lload 7, 2) := by decide +kernel
theorem dX12_stepsOf_51 : decode cX12_stepsOf 51 = .ok (.iload 9, 2) := by decide +kernel
theorem dX12_stepsOf_53 : decode cX12_stepsOf 53 = .ok (.lshr, 1) := by decide +kernel
theorem dX12_stepsOf_54 : decode cX12_stepsOf 54 = .ok (.lconst 1, 1) := by decide +kernel
theorem dX12_stepsOf_55 : decode cX12_stepsOf 55 = .ok (.land, 1) := by decide +kernel
theorem dX12_stepsOf_56 : decode cX12_stepsOf 56 = .ok (.lconst 1, 1) := by decide +kernel
theorem dX12_stepsOf_57 : decode cX12_stepsOf 57 = .ok (.lcmp, 1) := by decide +kernel
theorem dX12_stepsOf_58 : decode cX12_stepsOf 58 = .ok (.ifCond .ne 13, 3) := by decide +kernel
theorem dX12_stepsOf_61 : decode cX12_stepsOf 61 = .ok (.aload_n 0, 1) := by decide +kernel
theorem dX12_stepsOf_62 : decode cX12_stepsOf 62 = .ok (.iload_n 1, 1) := by decide +kernel
theorem dX12_stepsOf_63 : decode cX12_stepsOf 63 = .ok (.iload 9, 2) := by decide +kernel
theorem dX12_stepsOf_65 : decode cX12_stepsOf 65 = .ok (.invokevirtual 460, 3) := by decide +kernel
theorem dX12_stepsOf_68 : decode cX12_stepsOf 68 = .ok (.goto 4, 3) := by decide +kernel
theorem dX12_stepsOf_71 : decode cX12_stepsOf 71 = .ok (.lconst 0, 1) := by decide +kernel
theorem dX12_stepsOf_72 : decode cX12_stepsOf 72 = .ok (.lor, 1) := by decide +kernel
theorem dX12_stepsOf_73 : decode cX12_stepsOf 73 = .ok (.lstore 4, 2) := by decide +kernel
theorem dX12_stepsOf_75 : decode cX12_stepsOf 75 = .ok (.iinc 9 1, 3) := by decide +kernel
theorem dX12_stepsOf_78 : decode cX12_stepsOf 78 = .ok (.goto (-38), 3) := by decide +kernel
theorem dX12_stepsOf_81 : decode cX12_stepsOf 81 = .ok (.iinc 6 1, 3) := by decide +kernel
theorem dX12_stepsOf_84 : decode cX12_stepsOf 84 = .ok (.goto (-70), 3) := by decide +kernel
theorem dX12_stepsOf_87 : decode cX12_stepsOf 87 = .ok (.lload 4, 2) := by decide +kernel
theorem dX12_stepsOf_89 : decode cX12_stepsOf 89 = .ok (.iload_n 3, 1) := by decide +kernel
theorem dX12_stepsOf_90 : decode cX12_stepsOf 90 = .ok (.lshr, 1) := by decide +kernel
theorem dX12_stepsOf_91 : decode cX12_stepsOf 91 = .ok (.lconst 1, 1) := by decide +kernel
theorem dX12_stepsOf_92 : decode cX12_stepsOf 92 = .ok (.land, 1) := by decide +kernel
theorem dX12_stepsOf_93 : decode cX12_stepsOf 93 = .ok (.lconst 1, 1) := by decide +kernel
theorem dX12_stepsOf_94 : decode cX12_stepsOf 94 = .ok (.lcmp, 1) := by decide +kernel
theorem dX12_stepsOf_95 : decode cX12_stepsOf 95 = .ok (.ifCond .ne 8, 3) := by decide +kernel
theorem dX12_stepsOf_98 : decode cX12_stepsOf 98 = .ok (.iload 6, 2) := by decide +kernel
theorem dX12_stepsOf_100 : decode cX12_stepsOf 100 = .ok (.goto 4, 3) := by decide +kernel
theorem dX12_stepsOf_103 : decode cX12_stepsOf 103 = .ok (.iconst (-1), 1) := by decide +kernel
theorem dX12_stepsOf_104 : decode cX12_stepsOf 104 = .ok (.ireturn, 1) := by decide +kernel
theorem dX12_steps_0 : decode cX12_steps 0 = .ok (.aload_n 0, 1) := by decide +kernel
theorem dX12_steps_1 : decode cX12_steps 1 = .ok (.iload_n 1, 1) := by decide +kernel
theorem dX12_steps_2 : decode cX12_steps 2 = .ok (.invokevirtual 371, 3) := by decide +kernel
theorem dX12_steps_5 : decode cX12_steps 5 = .ok (.ifCond .ne 7, 3) := by decide +kernel
theorem dX12_steps_8 : decode cX12_steps 8 = .ok (.sipush (-1001), 3) := by decide +kernel
theorem dX12_steps_11 : decode cX12_steps 11 = .ok (.ireturn, 1) := by decide +kernel
theorem dX12_steps_12 : decode cX12_steps 12 = .ok (.iload_n 2, 1) := by decide +kernel
theorem dX12_steps_13 : decode cX12_steps 13 = .ok (.invokestatic 398, 3) := by decide +kernel
theorem dX12_steps_16 : decode cX12_steps 16 = .ok (.ifCond .eq 20, 3) := by decide +kernel
theorem dX12_steps_19 : decode cX12_steps 19 = .ok (.iload_n 3, 1) := by decide +kernel
theorem dX12_steps_20 : decode cX12_steps 20 = .ok (.invokestatic 398, 3) := by decide +kernel
theorem dX12_steps_23 : decode cX12_steps 23 = .ok (.ifCond .eq 13, 3) := by decide +kernel
theorem dX12_steps_26 : decode cX12_steps 26 = .ok (.aload_n 0, 1) := by decide +kernel
theorem dX12_steps_27 : decode cX12_steps 27 = .ok (.iload_n 1, 1) := by decide +kernel
theorem dX12_steps_28 : decode cX12_steps 28 = .ok (.iload_n 2, 1) := by decide +kernel
theorem dX12_steps_29 : decode cX12_steps 29 = .ok (.iload_n 3, 1) := by decide +kernel
theorem dX12_steps_30 : decode cX12_steps 30 = .ok (.invokevirtual 466, 3) := by decide +kernel
theorem dX12_steps_33 : decode cX12_steps 33 = .ok (.goto 6, 3) := by decide +kernel
theorem dX12_steps_36 : decode cX12_steps 36 = .ok (.sipush (-1002), 3) := by decide +kernel
theorem dX12_steps_39 : decode cX12_steps 39 = .ok (.ireturn, 1) := by decide +kernel
theorem dX12_round_0 : decode cX12_round 0 = .ok (.aload_n 0, 1) := by decide +kernel
theorem dX12_round_1 : decode cX12_round 1 = .ok (.iload_n 1, 1) := by decide +kernel
theorem dX12_round_2 : decode cX12_round 2 = .ok (.invokevirtual 371, 3) := by decide +kernel
theorem dX12_round_5 : decode cX12_round 5 = .ok (.ifCond .ne 7, 3) := by decide +kernel
theorem dX12_round_8 : decode cX12_round 8 = .ok (.ldc2_w 458, 3) := by decide +kernel
theorem dX12_round_11 : decode cX12_round 11 = .ok (.lreturn, 1) := by decide +kernel
theorem dX12_round_12 : decode cX12_round 12 = .ok (.lconst 0, 1) := by decide +kernel
theorem dX12_round_13 : decode cX12_round 13 = .ok (.lstore_n 2, 1) := by decide +kernel
theorem dX12_round_14 : decode cX12_round 14 = .ok (.iconst 0, 1) := by decide +kernel
theorem dX12_round_15 : decode cX12_round 15 = .ok (.istore 4, 2) := by decide +kernel
theorem dX12_round_17 : decode cX12_round 17 = .ok (.iload 4, 2) := by decide +kernel
theorem dX12_round_19 : decode cX12_round 19 = .ok (.bipush 64, 2) := by decide +kernel
theorem dX12_round_21 : decode cX12_round 21 = .ok (.if_icmp .ge 32, 3) := by decide +kernel
theorem dX12_round_24 : decode cX12_round 24 = .ok (.lload_n 2, 1) := by decide +kernel
theorem dX12_round_25 : decode cX12_round 25 = .ok (.aload_n 0, 1) := by decide +kernel
theorem dX12_round_26 : decode cX12_round 26 = .ok (.iload_n 1, 1) := by decide +kernel
theorem dX12_round_27 : decode cX12_round 27 = .ok (.iload 4, 2) := by decide +kernel
theorem dX12_round_29 : decode cX12_round 29 = .ok (.iload 4, 2) := by decide +kernel
theorem dX12_round_31 : decode cX12_round 31 = .ok (.invokevirtual 466, 3) := by decide +kernel
theorem dX12_round_34 : decode cX12_round 34 = .ok (.ifCond .le 10, 3) := by decide +kernel
theorem dX12_round_37 : decode cX12_round 37 = .ok (.lconst 1, 1) := by decide +kernel
theorem dX12_round_38 : decode cX12_round 38 = .ok (.iload 4, 2) := by decide +kernel
theorem dX12_round_40 : decode cX12_round 40 = .ok (.lshl, 1) := by decide +kernel
theorem dX12_round_41 : decode cX12_round 41 = .ok (.goto 4, 3) := by decide +kernel
theorem dX12_round_44 : decode cX12_round 44 = .ok (.lconst 0, 1) := by decide +kernel
theorem dX12_round_45 : decode cX12_round 45 = .ok (.lor, 1) := by decide +kernel
theorem dX12_round_46 : decode cX12_round 46 = .ok (.lstore_n 2, 1) := by decide +kernel
theorem dX12_round_47 : decode cX12_round 47 = .ok (.iinc 4 1, 3) := by decide +kernel
theorem dX12_round_50 : decode cX12_round 50 = .ok (.goto (-33), 3) := by decide +kernel
theorem dX12_round_53 : decode cX12_round 53 = .ok (.lload_n 2, 1) := by decide +kernel
theorem dX12_round_54 : decode cX12_round 54 = .ok (.lreturn, 1) := by decide +kernel
theorem dJ6_bitCount_0f7a4_0 : decode cJ6_bitCount_0f7a4 0 = .ok (.iload_n 0, 1) := by decide +kernel
theorem dJ6_bitCount_0f7a4_1 : decode cJ6_bitCount_0f7a4 1 = .ok (.iload_n 0, 1) := by decide +kernel
theorem dJ6_bitCount_0f7a4_2 : decode cJ6_bitCount_0f7a4 2 = .ok (.iconst 1, 1) := by decide +kernel
theorem dJ6_bitCount_0f7a4_3 : decode cJ6_bitCount_0f7a4 3 = .ok (.iushr, 1) := by decide +kernel
theorem dJ6_bitCount_0f7a4_4 : decode cJ6_bitCount_0f7a4 4 = .ok (.ldc_w 265, 3) := by decide +kernel
theorem dJ6_bitCount_0f7a4_7 : decode cJ6_bitCount_0f7a4 7 = .ok (.iand, 1) := by decide +kernel
theorem dJ6_bitCount_0f7a4_8 : decode cJ6_bitCount_0f7a4 8 = .ok (.isub, 1) := by decide +kernel
theorem dJ6_bitCount_0f7a4_9 : decode cJ6_bitCount_0f7a4 9 = .ok (.istore_n 0, 1) := by decide +kernel
theorem dJ6_bitCount_0f7a4_10 : decode cJ6_bitCount_0f7a4 10 = .ok (.iload_n 0, 1) := by decide +kernel
theorem dJ6_bitCount_0f7a4_11 : decode cJ6_bitCount_0f7a4 11 = .ok (.ldc_w 266, 3) := by decide +kernel
theorem dJ6_bitCount_0f7a4_14 : decode cJ6_bitCount_0f7a4 14 = .ok (.iand, 1) := by decide +kernel
theorem dJ6_bitCount_0f7a4_15 : decode cJ6_bitCount_0f7a4 15 = .ok (.iload_n 0, 1) := by decide +kernel
theorem dJ6_bitCount_0f7a4_16 : decode cJ6_bitCount_0f7a4 16 = .ok (.iconst 2, 1) := by decide +kernel
theorem dJ6_bitCount_0f7a4_17 : decode cJ6_bitCount_0f7a4 17 = .ok (.iushr, 1) := by decide +kernel
theorem dJ6_bitCount_0f7a4_18 : decode cJ6_bitCount_0f7a4 18 = .ok (.ldc_w 266, 3) := by decide +kernel
theorem dJ6_bitCount_0f7a4_21 : decode cJ6_bitCount_0f7a4 21 = .ok (.iand, 1) := by decide +kernel
theorem dJ6_bitCount_0f7a4_22 : decode cJ6_bitCount_0f7a4 22 = .ok (.iadd, 1) := by decide +kernel
theorem dJ6_bitCount_0f7a4_23 : decode cJ6_bitCount_0f7a4 23 = .ok (.istore_n 0, 1) := by decide +kernel
theorem dJ6_bitCount_0f7a4_24 : decode cJ6_bitCount_0f7a4 24 = .ok (.iload_n 0, 1) := by decide +kernel
theorem dJ6_bitCount_0f7a4_25 : decode cJ6_bitCount_0f7a4 25 = .ok (.iload_n 0, 1) := by decide +kernel
theorem dJ6_bitCount_0f7a4_26 : decode cJ6_bitCount_0f7a4 26 = .ok (.iconst 4, 1) := by decide +kernel
theorem dJ6_bitCount_0f7a4_27 : decode cJ6_bitCount_0f7a4 27 = .ok (.iushr, 1) := by decide +kernel
theorem dJ6_bitCount_0f7a4_28 : decode cJ6_bitCount_0f7a4 28 = .ok (.iadd, 1) := by decide +kernel
theorem dJ6_bitCount_0f7a4_29 : decode cJ6_bitCount_0f7a4 29 = .ok (.ldc_w 267, 3) := by decide +kernel
theorem dJ6_bitCount_0f7a4_32 : decode cJ6_bitCount_0f7a4 32 = .ok (.iand, 1) := by decide +kernel
theorem dJ6_bitCount_0f7a4_33 : decode cJ6_bitCount_0f7a4 33 = .ok (.istore_n 0, 1) := by decide +kernel
theorem dJ6_bitCount_0f7a4_34 : decode cJ6_bitCount_0f7a4 34 = .ok (.iload_n 0, 1) := by decide +kernel
theorem dJ6_bitCount_0f7a4_35 : decode cJ6_bitCount_0f7a4 35 = .ok (.iload_n 0, 1) := by decide +kernel
theorem dJ6_bitCount_0f7a4_36 : decode cJ6_bitCount_0f7a4 36 = .ok (.bipush 8, 2) := by decide +kernel
theorem dJ6_bitCount_0f7a4_38 : decode cJ6_bitCount_0f7a4 38 = .ok (.iushr, 1) := by decide +kernel
theorem dJ6_bitCount_0f7a4_39 : decode cJ6_bitCount_0f7a4 39 = .ok (.iadd, 1) := by decide +kernel
theorem dJ6_bitCount_0f7a4_40 : decode cJ6_bitCount_0f7a4 40 = .ok (.istore_n 0, 1) := by decide +kernel
theorem dJ6_bitCount_0f7a4_41 : decode cJ6_bitCount_0f7a4 41 = .ok (.iload_n 0, 1) := by decide +kernel
theorem dJ6_bitCount_0f7a4_42 : decode cJ6_bitCount_0f7a4 42 = .ok (.iload_n 0, 1) := by decide +kernel
theorem dJ6_bitCount_0f7a4_43 : decode cJ6_bitCount_0f7a4 43 = .ok (.bipush 16, 2) := by decide +kernel
theorem dJ6_bitCount_0f7a4_45 : decode cJ6_bitCount_0f7a4 45 = .ok (.iushr, 1) := by decide +kernel
theorem dJ6_bitCount_0f7a4_46 : decode cJ6_bitCount_0f7a4 46 = .ok (.iadd, 1) := by decide +kernel
theorem dJ6_bitCount_0f7a4_47 : decode cJ6_bitCount_0f7a4 47 = .ok (.istore_n 0, 1) := by decide +kernel
theorem dJ6_bitCount_0f7a4_48 : decode cJ6_bitCount_0f7a4 48 = .ok (.iload_n 0, 1) := by decide +kernel
theorem dJ6_bitCount_0f7a4_49 : decode cJ6_bitCount_0f7a4 49 = .ok (.bipush 63, 2) := by decide +kernel
theorem dJ6_bitCount_0f7a4_51 : decode cJ6_bitCount_0f7a4 51 = .ok (.iand, 1) := by decide +kernel
theorem dJ6_bitCount_0f7a4_52 : decode cJ6_bitCount_0f7a4 52 = .ok (.ireturn, 1) := by decide +kernel
theorem dJ0_length_8abf5_0 : decode cJ0_length_8abf5 0 = .ok (.aload_n 0, 1) := by decide +kernel
theorem dJ0_length_8abf5_1 : decode cJ0_length_8abf5 1 = .ok (.getfield 9, 3) := by decide +kernel
theorem dJ0_length_8abf5_4 : decode cJ0_length_8abf5 4 = .ok (.arraylength, 1) := by decide +kernel
theorem dJ0_length_8abf5_5 : decode cJ0_length_8abf5 5 = .ok (.aload_n 0, 1) := by decide +kernel
theorem dJ0_length_8abf5_6 : decode cJ0_length_8abf5 6 = .ok (.invokevirtual 335, 3) := by decide +kernel
theorem dJ0_length_8abf5_9 : decode cJ0_length_8abf5 9 = .ok (.ishr, 1) := by decide +kernel
theorem dJ0_length_8abf5_10 : decode cJ0_length_8abf5 10 = .ok (.ireturn, 1) := by decide +kernel
theorem dJ0_charAt_5068e_0 : decode cJ0_charAt_5068e 0 = .ok (.aload_n 0, 1) := by decide +kernel
theorem dJ0_charAt_5068e_1 : decode cJ0_charAt_5068e 1 = .ok (.invokevirtual 492, 3) := by decide +kernel
theorem dJ0_charAt_5068e_4 : decode cJ0_charAt_5068e 4 = .ok (.ifCond .eq 12, 3) := by decide +kernel
theorem dJ0_charAt_5068e_7 : decode cJ0_charAt_5068e 7 = .ok (.aload_n 0, 1) := by decide +kernel
theorem dJ0_charAt_5068e_8 : decode cJ0_charAt_5068e 8 = .ok (.getfield 9, 3) := by decide +kernel
theorem dJ0_charAt_5068e_11 : decode cJ0_charAt_5068e 11 = .ok (.iload_n 1, 1) := by decide +kernel
theorem dJ0_charAt_5068e_12 : decode cJ0_charAt_5068e 12 = .ok (.invokestatic 495, 3) := by decide +kernel
theorem dJ0_charAt_5068e_15 : decode cJ0_charAt_5068e 15 = .ok (.ireturn, 1) := by decide +kernel
theorem dJ0_charAt_5068e_16 : decode cJ0_charAt_5068e 16 = .ok (.aload_n 0, 1) := by decide +kernel
theorem dJ0_charAt_5068e_17 : decode cJ0_charAt_5068e 17 = .ok (.getfield 9, 3) := by decide +kernel
theorem dJ0_charAt_5068e_20 : decode cJ0_charAt_5068e 20 = .ok (.iload_n 1, 1) := by decide +kernel
theorem dJ0_charAt_5068e_21 : decode cJ0_charAt_5068e 21 = .ok (.invokestatic 498, 3) := by decide +kernel
theorem dJ0_charAt_5068e_24 : decode cJ0_charAt_5068e 24 = .ok (.ireturn, 1) := by decide +kernel
theorem dJ0_coder_7d493_0 : decode cJ0_coder_7d493 0 = .ok (.getstatic 38, 3) := by decide +kernel
theorem dJ0_coder_7d493_3 : decode cJ0_coder_7d493 3 = .ok (.ifCond .eq 10, 3) := by decide +kernel
theorem dJ0_coder_7d493_6 : decode cJ0_coder_7d493 6 = .ok (.aload_n 0, 1) := by decide +kernel
theorem dJ0_coder_7d493_7 : decode cJ0_coder_7d493 7 = .ok (.getfield 15, 3) := by decide +kernel
theorem dJ0_coder_7d493_10 : decode cJ0_coder_7d493 10 = .ok (.goto 4, 3) := by decide +kernel
theorem dJ0_coder_7d493_13 : decode cJ0_coder_7d493 13 = .ok (.iconst 1, 1) := by decide +kernel
theorem dJ0_coder_7d493_14 : decode cJ0_coder_7d493 14 = .ok (.ireturn, 1) := by decide +kernel
theorem dJ0_isLatin1_aae02_0 : decode cJ0_isLatin1_aae02 0 = .ok (.getstatic 38, 3) := by decide +kernel
theorem dJ0_isLatin1_aae02_3 : decode cJ0_isLatin1_aae02 3 = .ok (.ifCond .eq 14, 3) := by decide +kernel
theorem dJ0_isLatin1_aae02_6 : decode cJ0_isLatin1_aae02 6 = .ok (.aload_n 0, 1) := by decide +kernel
theorem dJ0_isLatin1_aae02_7 : decode cJ0_isLatin1_aae02 7 = .ok (.getfield 15, 3) := by decide +kernel
theorem dJ0_isLatin1_aae02_10 : decode cJ0_isLatin1_aae02 10 = .ok (.ifCond .ne 7, 3) := by decide +kernel
theorem dJ0_isLatin1_aae02_13 : decode cJ0_isLatin1_aae02 13 = .ok (.iconst 1, 1) := by decide +kernel
theorem dJ0_isLatin1_aae02_14 : decode cJ0_isLatin1_aae02 14 = .ok (.goto 4, 3) := by decide +kernel
theorem dJ0_isLatin1_aae02_17 : decode cJ0_isLatin1_aae02 17 = .ok (.iconst 0, 1) := by decide +kernel
theorem dJ0_isLatin1_aae02_18 : decode cJ0_isLatin1_aae02 18 = .ok (.ireturn, 1) := by decide +kernel
theorem dJ1_charAt_3b067_0 : decode cJ1_charAt_3b067 0 = .ok (.iload_n 1, 1) := by decide +kernel
theorem dJ1_charAt_3b067_1 : decode cJ1_charAt_3b067 1 = .ok (.aload_n 0, 1) := by decide +kernel
theorem dJ1_charAt_3b067_2 : decode cJ1_charAt_3b067 2 = .ok (.arraylength, 1) := by decide +kernel
theorem dJ1_charAt_3b067_3 : decode cJ1_charAt_3b067 3 = .ok (.invokestatic 9, 3) := by decide +kernel
theorem dJ1_charAt_3b067_6 : decode cJ1_charAt_3b067 6 = .ok (.aload_n 0, 1) := by decide +kernel
theorem dJ1_charAt_3b067_7 : decode cJ1_charAt_3b067 7 = .ok (.iload_n 1, 1) := by decide +kernel
theorem dJ1_charAt_3b067_8 : decode cJ1_charAt_3b067 8 = .ok (.baload, 1) := by decide +kernel
theorem dJ1_charAt_3b067_9 : decode cJ1_charAt_3b067 9 = .ok (.sipush 255, 3) := by decide +kernel
theorem dJ1_charAt_3b067_12 : decode cJ1_charAt_3b067 12 = .ok (.iand, 1) := by decide +kernel
theorem dJ1_charAt_3b067_13 : decode cJ1_charAt_3b067 13 = .ok (.i2c, 1) := by decide +kernel
theorem dJ1_charAt_3b067_14 : decode cJ1_charAt_3b067 14 = .ok (.ireturn, 1) := by decide +kernel
theorem dL_law_0 : decode cL_law 0 = .ok (.new 7, 3) := by decide +kernel
theorem dL_law_3 : decode cL_law 3 = .ok (.dup, 1) := by decide +kernel
theorem dL_law_4 : decode cL_law 4 = .ok (.invokespecial 9, 3) := by decide +kernel
theorem dL_law_7 : decode cL_law 7 = .ok (.astore_n 1, 1) := by decide +kernel
theorem dL_law_8 : decode cL_law 8 = .ok (.new 10, 3) := by decide +kernel
theorem dL_law_11 : decode cL_law 11 = .ok (.dup, 1) := by decide +kernel
theorem dL_law_12 : decode cL_law 12 = .ok (.invokespecial 12, 3) := by decide +kernel
theorem dL_law_15 : decode cL_law 15 = .ok (.astore_n 2, 1) := by decide +kernel
theorem dL_law_16 : decode cL_law 16 = .ok (.iconst 0, 1) := by decide +kernel
theorem dL_law_17 : decode cL_law 17 = .ok (.istore_n 3, 1) := by decide +kernel
theorem dL_law_18 : decode cL_law 18 = .ok (.iload_n 3, 1) := by decide +kernel
theorem dL_law_19 : decode cL_law 19 = .ok (.aload_n 0, 1) := by decide +kernel
theorem dL_law_20 : decode cL_law 20 = .ok (.arraylength, 1) := by decide +kernel
theorem dL_law_21 : decode cL_law 21 = .ok (.iconst 5, 1) := by decide +kernel
theorem dL_law_22 : decode cL_law 22 = .ok (.isub, 1) := by decide +kernel
theorem dL_law_23 : decode cL_law 23 = .ok (.if_icmp .gt 1175, 3) := by decide +kernel
theorem dL_law_26 : decode cL_law 26 = .ok (.aload_n 0, 1) := by decide +kernel
theorem dL_law_27 : decode cL_law 27 = .ok (.iload_n 3, 1) := by decide +kernel
theorem dL_law_28 : decode cL_law 28 = .ok (.iaload, 1) := by decide +kernel
theorem dL_law_29 : decode cL_law 29 = .ok (.bipush 31, 2) := by decide +kernel
theorem dL_law_31 : decode cL_law 31 = .ok (.iand, 1) := by decide +kernel
theorem dL_law_32 : decode cL_law 32 = .ok (.tableswitch 1160 0 27 #[128, 191, 204, 227, 240, 273, 306, 365, 408, 441, 474, 507, 540, 583, 606, 639, 682, 715, 758, 811, 854, 897, 930, 973, 1016, 1059, 1093, 1136], 128) := by decide +kernel
theorem dL_law_160 : decode cL_law 160 = .ok (.aload_n 1, 1) := by decide +kernel
theorem dL_law_161 : decode cL_law 161 = .ok (.aload_n 0, 1) := by decide +kernel
theorem dL_law_162 : decode cL_law 162 = .ok (.iload_n 3, 1) := by decide +kernel
theorem dL_law_163 : decode cL_law 163 = .ok (.iconst 1, 1) := by decide +kernel
theorem dL_law_164 : decode cL_law 164 = .ok (.iadd, 1) := by decide +kernel
theorem dL_law_165 : decode cL_law 165 = .ok (.iaload, 1) := by decide +kernel
theorem dL_law_166 : decode cL_law 166 = .ok (.aload_n 0, 1) := by decide +kernel
theorem dL_law_167 : decode cL_law 167 = .ok (.iload_n 3, 1) := by decide +kernel
theorem dL_law_168 : decode cL_law 168 = .ok (.iconst 2, 1) := by decide +kernel
theorem dL_law_169 : decode cL_law 169 = .ok (.iadd, 1) := by decide +kernel
theorem dL_law_170 : decode cL_law 170 = .ok (.iaload, 1) := by decide +kernel
theorem dL_law_171 : decode cL_law 171 = .ok (.i2l, 1) := by decide +kernel
theorem dL_law_172 : decode cL_law 172 = .ok (.bipush 32, 2) := by decide +kernel
theorem dL_law_174 : decode cL_law 174 = .ok (.lshl, 1) := by decide +kernel
theorem dL_law_175 : decode cL_law 175 = .ok (.aload_n 0, 1) := by decide +kernel
theorem dL_law_176 : decode cL_law 176 = .ok (.iload_n 3, 1) := by decide +kernel
theorem dL_law_177 : decode cL_law 177 = .ok (.iconst 3, 1) := by decide +kernel
theorem dL_law_178 : decode cL_law 178 = .ok (.iadd, 1) := by decide +kernel
theorem dL_law_179 : decode cL_law 179 = .ok (.iaload, 1) := by decide +kernel
theorem dL_law_180 : decode cL_law 180 = .ok (.i2l, 1) := by decide +kernel
theorem dL_law_181 : decode cL_law 181 = .ok (.ldc2_w 13, 3) := by decide +kernel
theorem dL_law_184 : decode cL_law 184 = .ok (.land, 1) := by decide +kernel
theorem dL_law_185 : decode cL_law 185 = .ok (.lor, 1) := by decide +kernel
theorem dL_law_186 : decode cL_law 186 = .ok (.invokevirtual 15, 3) := by decide +kernel
theorem dL_law_189 : decode cL_law 189 = .ok (.aload_n 2, 1) := by decide +kernel
theorem dL_law_190 : decode cL_law 190 = .ok (.aload_n 0, 1) := by decide +kernel
theorem dL_law_191 : decode cL_law 191 = .ok (.iload_n 3, 1) := by decide +kernel
theorem dL_law_192 : decode cL_law 192 = .ok (.iconst 1, 1) := by decide +kernel
theorem dL_law_193 : decode cL_law 193 = .ok (.iadd, 1) := by decide +kernel
theorem dL_law_194 : decode cL_law 194 = .ok (.iaload, 1) := by decide +kernel
theorem dL_law_195 : decode cL_law 195 = .ok (.aload_n 0, 1) := by decide +kernel
theorem dL_law_196 : decode cL_law 196 = .ok (.iload_n 3, 1) := by decide +kernel
theorem dL_law_197 : decode cL_law 197 = .ok (.iconst 2, 1) := by decide +kernel
theorem dL_law_198 : decode cL_law 198 = .ok (.iadd, 1) := by decide +kernel
theorem dL_law_199 : decode cL_law 199 = .ok (.iaload, 1) := by decide +kernel
theorem dL_law_200 : decode cL_law 200 = .ok (.i2l, 1) := by decide +kernel
theorem dL_law_201 : decode cL_law 201 = .ok (.bipush 32, 2) := by decide +kernel
theorem dL_law_203 : decode cL_law 203 = .ok (.lshl, 1) := by decide +kernel
theorem dL_law_204 : decode cL_law 204 = .ok (.aload_n 0, 1) := by decide +kernel
theorem dL_law_205 : decode cL_law 205 = .ok (.iload_n 3, 1) := by decide +kernel
theorem dL_law_206 : decode cL_law 206 = .ok (.iconst 3, 1) := by decide +kernel
theorem dL_law_207 : decode cL_law 207 = .ok (.iadd, 1) := by decide +kernel
theorem dL_law_208 : decode cL_law 208 = .ok (.iaload, 1) := by decide +kernel
theorem dL_law_209 : decode cL_law 209 = .ok (.i2l, 1) := by decide +kernel
theorem dL_law_210 : decode cL_law 210 = .ok (.ldc2_w 13, 3) := by decide +kernel
theorem dL_law_213 : decode cL_law 213 = .ok (.land, 1) := by decide +kernel
theorem dL_law_214 : decode cL_law 214 = .ok (.lor, 1) := by decide +kernel
theorem dL_law_215 : decode cL_law 215 = .ok (.invokevirtual 19, 3) := by decide +kernel
theorem dL_law_218 : decode cL_law 218 = .ok (.if_icmp .eq 974, 3) := by decide +kernel
theorem dL_law_221 : decode cL_law 221 = .ok (.iconst 0, 1) := by decide +kernel
theorem dL_law_222 : decode cL_law 222 = .ok (.ireturn, 1) := by decide +kernel
theorem dL_law_223 : decode cL_law 223 = .ok (.aload_n 1, 1) := by decide +kernel
theorem dL_law_224 : decode cL_law 224 = .ok (.invokevirtual 20, 3) := by decide +kernel
theorem dL_law_227 : decode cL_law 227 = .ok (.aload_n 2, 1) := by decide +kernel
theorem dL_law_228 : decode cL_law 228 = .ok (.invokevirtual 24, 3) := by decide +kernel
theorem dL_law_231 : decode cL_law 231 = .ok (.if_icmp .eq 961, 3) := by decide +kernel
theorem dL_law_234 : decode cL_law 234 = .ok (.iconst 0, 1) := by decide +kernel
theorem dL_law_235 : decode cL_law 235 = .ok (.ireturn, 1) := by decide +kernel
theorem dL_law_236 : decode cL_law 236 = .ok (.aload_n 1, 1) := by decide +kernel
theorem dL_law_237 : decode cL_law 237 = .ok (.aload_n 0, 1) := by decide +kernel
theorem dL_law_238 : decode cL_law 238 = .ok (.iload_n 3, 1) := by decide +kernel
theorem dL_law_239 : decode cL_law 239 = .ok (.iconst 1, 1) := by decide +kernel
theorem dL_law_240 : decode cL_law 240 = .ok (.iadd, 1) := by decide +kernel
theorem dL_law_241 : decode cL_law 241 = .ok (.iaload, 1) := by decide +kernel
theorem dL_law_242 : decode cL_law 242 = .ok (.invokevirtual 25, 3) := by decide +kernel
theorem dL_law_245 : decode cL_law 245 = .ok (.aload_n 2, 1) := by decide +kernel
theorem dL_law_246 : decode cL_law 246 = .ok (.aload_n 0, 1) := by decide +kernel
theorem dL_law_247 : decode cL_law 247 = .ok (.iload_n 3, 1) := by decide +kernel
theorem dL_law_248 : decode cL_law 248 = .ok (.iconst 1, 1) := by decide +kernel
theorem dL_law_249 : decode cL_law 249 = .ok (.iadd, 1) := by decide +kernel
theorem dL_law_250 : decode cL_law 250 = .ok (.iaload, 1) := by decide +kernel
theorem dL_law_251 : decode cL_law 251 = .ok (.invokevirtual 29, 3) := by decide +kernel
theorem dL_law_254 : decode cL_law 254 = .ok (.if_icmp .eq 938, 3) := by decide +kernel
theorem dL_law_257 : decode cL_law 257 = .ok (.iconst 0, 1) := by decide +kernel
theorem dL_law_258 : decode cL_law 258 = .ok (.ireturn, 1) := by decide +kernel
theorem dL_law_259 : decode cL_law 259 = .ok (.aload_n 1, 1) := by decide +kernel
theorem dL_law_260 : decode cL_law 260 = .ok (.invokevirtual 30, 3) := by decide +kernel
theorem dL_law_263 : decode cL_law 263 = .ok (.aload_n 2, 1) := by decide +kernel
theorem dL_law_264 : decode cL_law 264 = .ok (.invokevirtual 33, 3) := by decide +kernel
theorem dL_law_267 : decode cL_law 267 = .ok (.if_icmp .eq 925, 3) := by decide +kernel
theorem dL_law_270 : decode cL_law 270 = .ok (.iconst 0, 1) := by decide +kernel
theorem dL_law_271 : decode cL_law 271 = .ok (.ireturn, 1) := by decide +kernel
theorem dL_law_272 : decode cL_law 272 = .ok (.aload_n 1, 1) := by decide +kernel
theorem dL_law_273 : decode cL_law 273 = .ok (.aload_n 0, 1) := by decide +kernel
theorem dL_law_274 : decode cL_law 274 = .ok (.iload_n 3, 1) := by decide +kernel
theorem dL_law_275 : decode cL_law 275 = .ok (.iconst 1, 1) := by decide +kernel
theorem dL_law_276 : decode cL_law 276 = .ok (.iadd, 1) := by decide +kernel
theorem dL_law_277 : decode cL_law 277 = .ok (.iaload, 1) := by decide +kernel
theorem dL_law_278 : decode cL_law 278 = .ok (.aload_n 0, 1) := by decide +kernel
theorem dL_law_279 : decode cL_law 279 = .ok (.iload_n 3, 1) := by decide +kernel
theorem dL_law_280 : decode cL_law 280 = .ok (.iconst 2, 1) := by decide +kernel
theorem dL_law_281 : decode cL_law 281 = .ok (.iadd, 1) := by decide +kernel
theorem dL_law_282 : decode cL_law 282 = .ok (.iaload, 1) := by decide +kernel
theorem dL_law_283 : decode cL_law 283 = .ok (.invokevirtual 34, 3) := by decide +kernel
theorem dL_law_286 : decode cL_law 286 = .ok (.aload_n 2, 1) := by decide +kernel
theorem dL_law_287 : decode cL_law 287 = .ok (.aload_n 0, 1) := by decide +kernel
theorem dL_law_288 : decode cL_law 288 = .ok (.iload_n 3, 1) := by decide +kernel
theorem dL_law_289 : decode cL_law 289 = .ok (.iconst 1, 1) := by decide +kernel
theorem dL_law_290 : decode cL_law 290 = .ok (.iadd, 1) := by decide +kernel
theorem dL_law_291 : decode cL_law 291 = .ok (.iaload, 1) := by decide +kernel
theorem dL_law_292 : decode cL_law 292 = .ok (.aload_n 0, 1) := by decide +kernel
theorem dL_law_293 : decode cL_law 293 = .ok (.iload_n 3, 1) := by decide +kernel
theorem dL_law_294 : decode cL_law 294 = .ok (.iconst 2, 1) := by decide +kernel
theorem dL_law_295 : decode cL_law 295 = .ok (.iadd, 1) := by decide +kernel
theorem dL_law_296 : decode cL_law 296 = .ok (.iaload, 1) := by decide +kernel
theorem dL_law_297 : decode cL_law 297 = .ok (.invokevirtual 38, 3) := by decide +kernel
theorem dL_law_300 : decode cL_law 300 = .ok (.if_icmp .eq 892, 3) := by decide +kernel
theorem dL_law_303 : decode cL_law 303 = .ok (.iconst 0, 1) := by decide +kernel
theorem dL_law_304 : decode cL_law 304 = .ok (.ireturn, 1) := by decide +kernel
theorem dL_law_305 : decode cL_law 305 = .ok (.aload_n 1, 1) := by decide +kernel
theorem dL_law_306 : decode cL_law 306 = .ok (.aload_n 0, 1) := by decide +kernel
theorem dL_law_307 : decode cL_law 307 = .ok (.iload_n 3, 1) := by decide +kernel
theorem dL_law_308 : decode cL_law 308 = .ok (.iconst 1, 1) := by decide +kernel
theorem dL_law_309 : decode cL_law 309 = .ok (.iadd, 1) := by decide +kernel
theorem dL_law_310 : decode cL_law 310 = .ok (.iaload, 1) := by decide +kernel
theorem dL_law_311 : decode cL_law 311 = .ok (.aload_n 0, 1) := by decide +kernel
theorem dL_law_312 : decode cL_law 312 = .ok (.iload_n 3, 1) := by decide +kernel
theorem dL_law_313 : decode cL_law 313 = .ok (.iconst 2, 1) := by decide +kernel
theorem dL_law_314 : decode cL_law 314 = .ok (.iadd, 1) := by decide +kernel
theorem dL_law_315 : decode cL_law 315 = .ok (.iaload, 1) := by decide +kernel
theorem dL_law_316 : decode cL_law 316 = .ok (.invokevirtual 39, 3) := by decide +kernel
theorem dL_law_319 : decode cL_law 319 = .ok (.aload_n 2, 1) := by decide +kernel
theorem dL_law_320 : decode cL_law 320 = .ok (.aload_n 0, 1) := by decide +kernel
theorem dL_law_321 : decode cL_law 321 = .ok (.iload_n 3, 1) := by decide +kernel
theorem dL_law_322 : decode cL_law 322 = .ok (.iconst 1, 1) := by decide +kernel
theorem dL_law_323 : decode cL_law 323 = .ok (.iadd, 1) := by decide +kernel
theorem dL_law_324 : decode cL_law 324 = .ok (.iaload, 1) := by decide +kernel
theorem dL_law_325 : decode cL_law 325 = .ok (.aload_n 0, 1) := by decide +kernel
theorem dL_law_326 : decode cL_law 326 = .ok (.iload_n 3, 1) := by decide +kernel
theorem dL_law_327 : decode cL_law 327 = .ok (.iconst 2, 1) := by decide +kernel
theorem dL_law_328 : decode cL_law 328 = .ok (.iadd, 1) := by decide +kernel
theorem dL_law_329 : decode cL_law 329 = .ok (.iaload, 1) := by decide +kernel
theorem dL_law_330 : decode cL_law 330 = .ok (.invokevirtual 42, 3) := by decide +kernel
theorem dL_law_333 : decode cL_law 333 = .ok (.if_icmp .eq 859, 3) := by decide +kernel
theorem dL_law_336 : decode cL_law 336 = .ok (.iconst 0, 1) := by decide +kernel
theorem dL_law_337 : decode cL_law 337 = .ok (.ireturn, 1) := by decide +kernel
theorem dL_law_338 : decode cL_law 338 = .ok (.aload_n 1, 1) := by decide +kernel
theorem dL_law_339 : decode cL_law 339 = .ok (.aload_n 0, 1) := by decide +kernel
theorem dL_law_340 : decode cL_law 340 = .ok (.iload_n 3, 1) := by decide +kernel
theorem dL_law_341 : decode cL_law 341 = .ok (.iconst 1, 1) := by decide +kernel
theorem dL_law_342 : decode cL_law 342 = .ok (.iadd, 1) := by decide +kernel
theorem dL_law_343 : decode cL_law 343 = .ok (.iaload, 1) := by decide +kernel
theorem dL_law_344 : decode cL_law 344 = .ok (.aload_n 0, 1) := by decide +kernel
theorem dL_law_345 : decode cL_law 345 = .ok (.iload_n 3, 1) := by decide +kernel
theorem dL_law_346 : decode cL_law 346 = .ok (.iconst 2, 1) := by decide +kernel
theorem dL_law_347 : decode cL_law 347 = .ok (.iadd, 1) := by decide +kernel
theorem dL_law_348 : decode cL_law 348 = .ok (.iaload, 1) := by decide +kernel
theorem dL_law_349 : decode cL_law 349 = .ok (.aload_n 0, 1) := by decide +kernel
theorem dL_law_350 : decode cL_law 350 = .ok (.iload_n 3, 1) := by decide +kernel
theorem dL_law_351 : decode cL_law 351 = .ok (.iconst 3, 1) := by decide +kernel
theorem dL_law_352 : decode cL_law 352 = .ok (.iadd, 1) := by decide +kernel
theorem dL_law_353 : decode cL_law 353 = .ok (.iaload, 1) := by decide +kernel
theorem dL_law_354 : decode cL_law 354 = .ok (.ifCond .eq 7, 3) := by decide +kernel
theorem dL_law_357 : decode cL_law 357 = .ok (.iconst 1, 1) := by decide +kernel
theorem dL_law_358 : decode cL_law 358 = .ok (.goto 4, 3) := by decide +kernel
theorem dL_law_361 : decode cL_law 361 = .ok (.iconst 0, 1) := by decide +kernel
theorem dL_law_362 : decode cL_law 362 = .ok (.invokevirtual 43, 3) := by decide +kernel
theorem dL_law_365 : decode cL_law 365 = .ok (.aload_n 2, 1) := by decide +kernel
theorem dL_law_366 : decode cL_law 366 = .ok (.aload_n 0, 1) := by decide +kernel
theorem dL_law_367 : decode cL_law 367 = .ok (.iload_n 3, 1) := by decide +kernel
theorem dL_law_368 : decode cL_law 368 = .ok (.iconst 1, 1) := by decide +kernel
theorem dL_law_369 : decode cL_law 369 = .ok (.iadd, 1) := by decide +kernel
theorem dL_law_370 : decode cL_law 370 = .ok (.iaload, 1) := by decide +kernel
theorem dL_law_371 : decode cL_law 371 = .ok (.aload_n 0, 1) := by decide +kernel
theorem dL_law_372 : decode cL_law 372 = .ok (.iload_n 3, 1) := by decide +kernel
theorem dL_law_373 : decode cL_law 373 = .ok (.iconst 2, 1) := by decide +kernel
theorem dL_law_374 : decode cL_law 374 = .ok (.iadd, 1) := by decide +kernel
theorem dL_law_375 : decode cL_law 375 = .ok (.iaload, 1) := by decide +kernel
theorem dL_law_376 : decode cL_law 376 = .ok (.aload_n 0, 1) := by decide +kernel
theorem dL_law_377 : decode cL_law 377 = .ok (.iload_n 3, 1) := by decide +kernel
theorem dL_law_378 : decode cL_law 378 = .ok (.iconst 3, 1) := by decide +kernel
theorem dL_law_379 : decode cL_law 379 = .ok (.iadd, 1) := by decide +kernel
theorem dL_law_380 : decode cL_law 380 = .ok (.iaload, 1) := by decide +kernel
theorem dL_law_381 : decode cL_law 381 = .ok (.ifCond .eq 7, 3) := by decide +kernel
theorem dL_law_384 : decode cL_law 384 = .ok (.iconst 1, 1) := by decide +kernel
theorem dL_law_385 : decode cL_law 385 = .ok (.goto 4, 3) := by decide +kernel
theorem dL_law_388 : decode cL_law 388 = .ok (.iconst 0, 1) := by decide +kernel
theorem dL_law_389 : decode cL_law 389 = .ok (.invokevirtual 47, 3) := by decide +kernel
theorem dL_law_392 : decode cL_law 392 = .ok (.if_icmp .eq 800, 3) := by decide +kernel
theorem dL_law_395 : decode cL_law 395 = .ok (.iconst 0, 1) := by decide +kernel
theorem dL_law_396 : decode cL_law 396 = .ok (.ireturn, 1) := by decide +kernel
theorem dL_law_397 : decode cL_law 397 = .ok (.aload_n 1, 1) := by decide +kernel
theorem dL_law_398 : decode cL_law 398 = .ok (.aload_n 0, 1) := by decide +kernel
theorem dL_law_399 : decode cL_law 399 = .ok (.iload_n 3, 1) := by decide +kernel
theorem dL_law_400 : decode cL_law 400 = .ok (.iconst 1, 1) := by decide +kernel
theorem dL_law_401 : decode cL_law 401 = .ok (.iadd, 1) := by decide +kernel
theorem dL_law_402 : decode cL_law 402 = .ok (.iaload, 1) := by decide +kernel
theorem dL_law_403 : decode cL_law 403 = .ok (.aload_n 0, 1) := by decide +kernel
theorem dL_law_404 : decode cL_law 404 = .ok (.iload_n 3, 1) := by decide +kernel
theorem dL_law_405 : decode cL_law 405 = .ok (.iconst 2, 1) := by decide +kernel
theorem dL_law_406 : decode cL_law 406 = .ok (.iadd, 1) := by decide +kernel
theorem dL_law_407 : decode cL_law 407 = .ok (.iaload, 1) := by decide +kernel
theorem dL_law_408 : decode cL_law 408 = .ok (.aload_n 0, 1) := by decide +kernel
theorem dL_law_409 : decode cL_law 409 = .ok (.iload_n 3, 1) := by decide +kernel
theorem dL_law_410 : decode cL_law 410 = .ok (.iconst 3, 1) := by decide +kernel
theorem dL_law_411 : decode cL_law 411 = .ok (.iadd, 1) := by decide +kernel
theorem dL_law_412 : decode cL_law 412 = .ok (.iaload, 1) := by decide +kernel
theorem dL_law_413 : decode cL_law 413 = .ok (.invokevirtual 48, 3) := by decide +kernel
theorem dL_law_416 : decode cL_law 416 = .ok (.aload_n 2, 1) := by decide +kernel
theorem dL_law_417 : decode cL_law 417 = .ok (.aload_n 0, 1) := by decide +kernel
theorem dL_law_418 : decode cL_law 418 = .ok (.iload_n 3, 1) := by decide +kernel
theorem dL_law_419 : decode cL_law 419 = .ok (.iconst 1, 1) := by decide +kernel
theorem dL_law_420 : decode cL_law 420 = .ok (.iadd, 1) := by decide +kernel
theorem dL_law_421 : decode cL_law 421 = .ok (.iaload, 1) := by decide +kernel
theorem dL_law_422 : decode cL_law 422 = .ok (.aload_n 0, 1) := by decide +kernel
theorem dL_law_423 : decode cL_law 423 = .ok (.iload_n 3, 1) := by decide +kernel
theorem dL_law_424 : decode cL_law 424 = .ok (.iconst 2, 1) := by decide +kernel
theorem dL_law_425 : decode cL_law 425 = .ok (.iadd, 1) := by decide +kernel
theorem dL_law_426 : decode cL_law 426 = .ok (.iaload, 1) := by decide +kernel
theorem dL_law_427 : decode cL_law 427 = .ok (.aload_n 0, 1) := by decide +kernel
theorem dL_law_428 : decode cL_law 428 = .ok (.iload_n 3, 1) := by decide +kernel
theorem dL_law_429 : decode cL_law 429 = .ok (.iconst 3, 1) := by decide +kernel
theorem dL_law_430 : decode cL_law 430 = .ok (.iadd, 1) := by decide +kernel
theorem dL_law_431 : decode cL_law 431 = .ok (.iaload, 1) := by decide +kernel
theorem dL_law_432 : decode cL_law 432 = .ok (.invokevirtual 52, 3) := by decide +kernel
theorem dL_law_435 : decode cL_law 435 = .ok (.if_icmp .eq 757, 3) := by decide +kernel
theorem dL_law_438 : decode cL_law 438 = .ok (.iconst 0, 1) := by decide +kernel
theorem dL_law_439 : decode cL_law 439 = .ok (.ireturn, 1) := by decide +kernel
theorem dL_law_440 : decode cL_law 440 = .ok (.aload_n 1, 1) := by decide +kernel
theorem dL_law_441 : decode cL_law 441 = .ok (.aload_n 0, 1) := by decide +kernel
theorem dL_law_442 : decode cL_law 442 = .ok (.iload_n 3, 1) := by decide +kernel
theorem dL_law_443 : decode cL_law 443 = .ok (.iconst 1, 1) := by decide +kernel
theorem dL_law_444 : decode cL_law 444 = .ok (.iadd, 1) := by decide +kernel
theorem dL_law_445 : decode cL_law 445 = .ok (.iaload, 1) := by decide +kernel
theorem dL_law_446 : decode cL_law 446 = .ok (.aload_n 0, 1) := by decide +kernel
theorem dL_law_447 : decode cL_law 447 = .ok (.iload_n 3, 1) := by decide +kernel
theorem dL_law_448 : decode cL_law 448 = .ok (.iconst 2, 1) := by decide +kernel
theorem dL_law_449 : decode cL_law 449 = .ok (.iadd, 1) := by decide +kernel
theorem dL_law_450 : decode cL_law 450 = .ok (.iaload, 1) := by decide +kernel
theorem dL_law_451 : decode cL_law 451 = .ok (.invokevirtual 53, 3) := by decide +kernel
theorem dL_law_454 : decode cL_law 454 = .ok (.aload_n 2, 1) := by decide +kernel
theorem dL_law_455 : decode cL_law 455 = .ok (.aload_n 0, 1) := by decide +kernel
theorem dL_law_456 : decode cL_law 456 = .ok (.iload_n 3, 1) := by decide +kernel
theorem dL_law_457 : decode cL_law 457 = .ok (.iconst 1, 1) := by decide +kernel
theorem dL_law_458 : decode cL_law 458 = .ok (.iadd, 1) := by decide +kernel
theorem dL_law_459 : decode cL_law 459 = .ok (.iaload, 1) := by decide +kernel
theorem dL_law_460 : decode cL_law 460 = .ok (.aload_n 0, 1) := by decide +kernel
theorem dL_law_461 : decode cL_law 461 = .ok (.iload_n 3, 1) := by decide +kernel
theorem dL_law_462 : decode cL_law 462 = .ok (.iconst 2, 1) := by decide +kernel
theorem dL_law_463 : decode cL_law 463 = .ok (.iadd, 1) := by decide +kernel
theorem dL_law_464 : decode cL_law 464 = .ok (.iaload, 1) := by decide +kernel
theorem dL_law_465 : decode cL_law 465 = .ok (.invokevirtual 56, 3) := by decide +kernel
theorem dL_law_468 : decode cL_law 468 = .ok (.if_icmp .eq 724, 3) := by decide +kernel
theorem dL_law_471 : decode cL_law 471 = .ok (.iconst 0, 1) := by decide +kernel
theorem dL_law_472 : decode cL_law 472 = .ok (.ireturn, 1) := by decide +kernel
theorem dL_law_473 : decode cL_law 473 = .ok (.aload_n 1, 1) := by decide +kernel
theorem dL_law_474 : decode cL_law 474 = .ok (.aload_n 0, 1) := by decide +kernel
theorem dL_law_475 : decode cL_law 475 = .ok (.iload_n 3, 1) := by decide +kernel
theorem dL_law_476 : decode cL_law 476 = .ok (.iconst 1, 1) := by decide +kernel
theorem dL_law_477 : decode cL_law 477 = .ok (.iadd, 1) := by decide +kernel
theorem dL_law_478 : decode cL_law 478 = .ok (.iaload, 1) := by decide +kernel
theorem dL_law_479 : decode cL_law 479 = .ok (.aload_n 0, 1) := by decide +kernel
theorem dL_law_480 : decode cL_law 480 = .ok (.iload_n 3, 1) := by decide +kernel
theorem dL_law_481 : decode cL_law 481 = .ok (.iconst 2, 1) := by decide +kernel
theorem dL_law_482 : decode cL_law 482 = .ok (.iadd, 1) := by decide +kernel
theorem dL_law_483 : decode cL_law 483 = .ok (.iaload, 1) := by decide +kernel
theorem dL_law_484 : decode cL_law 484 = .ok (.invokevirtual 57, 3) := by decide +kernel
theorem dL_law_487 : decode cL_law 487 = .ok (.aload_n 2, 1) := by decide +kernel
theorem dL_law_488 : decode cL_law 488 = .ok (.aload_n 0, 1) := by decide +kernel
theorem dL_law_489 : decode cL_law 489 = .ok (.iload_n 3, 1) := by decide +kernel
theorem dL_law_490 : decode cL_law 490 = .ok (.iconst 1, 1) := by decide +kernel
theorem dL_law_491 : decode cL_law 491 = .ok (.iadd, 1) := by decide +kernel
theorem dL_law_492 : decode cL_law 492 = .ok (.iaload, 1) := by decide +kernel
theorem dL_law_493 : decode cL_law 493 = .ok (.aload_n 0, 1) := by decide +kernel
theorem dL_law_494 : decode cL_law 494 = .ok (.iload_n 3, 1) := by decide +kernel
theorem dL_law_495 : decode cL_law 495 = .ok (.iconst 2, 1) := by decide +kernel
theorem dL_law_496 : decode cL_law 496 = .ok (.iadd, 1) := by decide +kernel
theorem dL_law_497 : decode cL_law 497 = .ok (.iaload, 1) := by decide +kernel
theorem dL_law_498 : decode cL_law 498 = .ok (.invokevirtual 60, 3) := by decide +kernel
theorem dL_law_501 : decode cL_law 501 = .ok (.if_icmp .eq 691, 3) := by decide +kernel
theorem dL_law_504 : decode cL_law 504 = .ok (.iconst 0, 1) := by decide +kernel
theorem dL_law_505 : decode cL_law 505 = .ok (.ireturn, 1) := by decide +kernel
theorem dL_law_506 : decode cL_law 506 = .ok (.aload_n 1, 1) := by decide +kernel
theorem dL_law_507 : decode cL_law 507 = .ok (.aload_n 0, 1) := by decide +kernel
theorem dL_law_508 : decode cL_law 508 = .ok (.iload_n 3, 1) := by decide +kernel
theorem dL_law_509 : decode cL_law 509 = .ok (.iconst 1, 1) := by decide +kernel
theorem dL_law_510 : decode cL_law 510 = .ok (.iadd, 1) := by decide +kernel
theorem dL_law_511 : decode cL_law 511 = .ok (.iaload, 1) := by decide +kernel
theorem dL_law_512 : decode cL_law 512 = .ok (.aload_n 0, 1) := by decide +kernel
theorem dL_law_513 : decode cL_law 513 = .ok (.iload_n 3, 1) := by decide +kernel
theorem dL_law_514 : decode cL_law 514 = .ok (.iconst 2, 1) := by decide +kernel
theorem dL_law_515 : decode cL_law 515 = .ok (.iadd, 1) := by decide +kernel
theorem dL_law_516 : decode cL_law 516 = .ok (.iaload, 1) := by decide +kernel
theorem dL_law_517 : decode cL_law 517 = .ok (.invokevirtual 61, 3) := by decide +kernel
theorem dL_law_520 : decode cL_law 520 = .ok (.aload_n 2, 1) := by decide +kernel
theorem dL_law_521 : decode cL_law 521 = .ok (.aload_n 0, 1) := by decide +kernel
theorem dL_law_522 : decode cL_law 522 = .ok (.iload_n 3, 1) := by decide +kernel
theorem dL_law_523 : decode cL_law 523 = .ok (.iconst 1, 1) := by decide +kernel
theorem dL_law_524 : decode cL_law 524 = .ok (.iadd, 1) := by decide +kernel
theorem dL_law_525 : decode cL_law 525 = .ok (.iaload, 1) := by decide +kernel
theorem dL_law_526 : decode cL_law 526 = .ok (.aload_n 0, 1) := by decide +kernel
theorem dL_law_527 : decode cL_law 527 = .ok (.iload_n 3, 1) := by decide +kernel
theorem dL_law_528 : decode cL_law 528 = .ok (.iconst 2, 1) := by decide +kernel
theorem dL_law_529 : decode cL_law 529 = .ok (.iadd, 1) := by decide +kernel
theorem dL_law_530 : decode cL_law 530 = .ok (.iaload, 1) := by decide +kernel
theorem dL_law_531 : decode cL_law 531 = .ok (.invokevirtual 64, 3) := by decide +kernel
theorem dL_law_534 : decode cL_law 534 = .ok (.if_icmp .eq 658, 3) := by decide +kernel
theorem dL_law_537 : decode cL_law 537 = .ok (.iconst 0, 1) := by decide +kernel
theorem dL_law_538 : decode cL_law 538 = .ok (.ireturn, 1) := by decide +kernel
theorem dL_law_539 : decode cL_law 539 = .ok (.aload_n 1, 1) := by decide +kernel
theorem dL_law_540 : decode cL_law 540 = .ok (.aload_n 0, 1) := by decide +kernel
theorem dL_law_541 : decode cL_law 541 = .ok (.iload_n 3, 1) := by decide +kernel
theorem dL_law_542 : decode cL_law 542 = .ok (.iconst 1, 1) := by decide +kernel
theorem dL_law_543 : decode cL_law 543 = .ok (.iadd, 1) := by decide +kernel
theorem dL_law_544 : decode cL_law 544 = .ok (.iaload, 1) := by decide +kernel
theorem dL_law_545 : decode cL_law 545 = .ok (.aload_n 0, 1) := by decide +kernel
theorem dL_law_546 : decode cL_law 546 = .ok (.iload_n 3, 1) := by decide +kernel
theorem dL_law_547 : decode cL_law 547 = .ok (.iconst 2, 1) := by decide +kernel
theorem dL_law_548 : decode cL_law 548 = .ok (.iadd, 1) := by decide +kernel
theorem dL_law_549 : decode cL_law 549 = .ok (.iaload, 1) := by decide +kernel
theorem dL_law_550 : decode cL_law 550 = .ok (.invokevirtual 65, 3) := by decide +kernel
theorem dL_law_553 : decode cL_law 553 = .ok (.aload_n 2, 1) := by decide +kernel
theorem dL_law_554 : decode cL_law 554 = .ok (.aload_n 0, 1) := by decide +kernel
theorem dL_law_555 : decode cL_law 555 = .ok (.iload_n 3, 1) := by decide +kernel
theorem dL_law_556 : decode cL_law 556 = .ok (.iconst 1, 1) := by decide +kernel
theorem dL_law_557 : decode cL_law 557 = .ok (.iadd, 1) := by decide +kernel
theorem dL_law_558 : decode cL_law 558 = .ok (.iaload, 1) := by decide +kernel
theorem dL_law_559 : decode cL_law 559 = .ok (.aload_n 0, 1) := by decide +kernel
theorem dL_law_560 : decode cL_law 560 = .ok (.iload_n 3, 1) := by decide +kernel
theorem dL_law_561 : decode cL_law 561 = .ok (.iconst 2, 1) := by decide +kernel
theorem dL_law_562 : decode cL_law 562 = .ok (.iadd, 1) := by decide +kernel
theorem dL_law_563 : decode cL_law 563 = .ok (.iaload, 1) := by decide +kernel
theorem dL_law_564 : decode cL_law 564 = .ok (.invokevirtual 68, 3) := by decide +kernel
theorem dL_law_567 : decode cL_law 567 = .ok (.if_icmp .eq 625, 3) := by decide +kernel
theorem dL_law_570 : decode cL_law 570 = .ok (.iconst 0, 1) := by decide +kernel
theorem dL_law_571 : decode cL_law 571 = .ok (.ireturn, 1) := by decide +kernel
theorem dL_law_572 : decode cL_law 572 = .ok (.aload_n 1, 1) := by decide +kernel
theorem dL_law_573 : decode cL_law 573 = .ok (.aload_n 0, 1) := by decide +kernel
theorem dL_law_574 : decode cL_law 574 = .ok (.iload_n 3, 1) := by decide +kernel
theorem dL_law_575 : decode cL_law 575 = .ok (.iconst 1, 1) := by decide +kernel
theorem dL_law_576 : decode cL_law 576 = .ok (.iadd, 1) := by decide +kernel
theorem dL_law_577 : decode cL_law 577 = .ok (.iaload, 1) := by decide +kernel
theorem dL_law_578 : decode cL_law 578 = .ok (.aload_n 0, 1) := by decide +kernel
theorem dL_law_579 : decode cL_law 579 = .ok (.iload_n 3, 1) := by decide +kernel
theorem dL_law_580 : decode cL_law 580 = .ok (.iconst 2, 1) := by decide +kernel
theorem dL_law_581 : decode cL_law 581 = .ok (.iadd, 1) := by decide +kernel
theorem dL_law_582 : decode cL_law 582 = .ok (.iaload, 1) := by decide +kernel
theorem dL_law_583 : decode cL_law 583 = .ok (.aload_n 0, 1) := by decide +kernel
theorem dL_law_584 : decode cL_law 584 = .ok (.iload_n 3, 1) := by decide +kernel
theorem dL_law_585 : decode cL_law 585 = .ok (.iconst 3, 1) := by decide +kernel
theorem dL_law_586 : decode cL_law 586 = .ok (.iadd, 1) := by decide +kernel
theorem dL_law_587 : decode cL_law 587 = .ok (.iaload, 1) := by decide +kernel
theorem dL_law_588 : decode cL_law 588 = .ok (.invokevirtual 69, 3) := by decide +kernel
theorem dL_law_591 : decode cL_law 591 = .ok (.aload_n 2, 1) := by decide +kernel
theorem dL_law_592 : decode cL_law 592 = .ok (.aload_n 0, 1) := by decide +kernel
theorem dL_law_593 : decode cL_law 593 = .ok (.iload_n 3, 1) := by decide +kernel
theorem dL_law_594 : decode cL_law 594 = .ok (.iconst 1, 1) := by decide +kernel
theorem dL_law_595 : decode cL_law 595 = .ok (.iadd, 1) := by decide +kernel
theorem dL_law_596 : decode cL_law 596 = .ok (.iaload, 1) := by decide +kernel
theorem dL_law_597 : decode cL_law 597 = .ok (.aload_n 0, 1) := by decide +kernel
theorem dL_law_598 : decode cL_law 598 = .ok (.iload_n 3, 1) := by decide +kernel
theorem dL_law_599 : decode cL_law 599 = .ok (.iconst 2, 1) := by decide +kernel
theorem dL_law_600 : decode cL_law 600 = .ok (.iadd, 1) := by decide +kernel
theorem dL_law_601 : decode cL_law 601 = .ok (.iaload, 1) := by decide +kernel
theorem dL_law_602 : decode cL_law 602 = .ok (.aload_n 0, 1) := by decide +kernel
theorem dL_law_603 : decode cL_law 603 = .ok (.iload_n 3, 1) := by decide +kernel
theorem dL_law_604 : decode cL_law 604 = .ok (.iconst 3, 1) := by decide +kernel
theorem dL_law_605 : decode cL_law 605 = .ok (.iadd, 1) := by decide +kernel
theorem dL_law_606 : decode cL_law 606 = .ok (.iaload, 1) := by decide +kernel
theorem dL_law_607 : decode cL_law 607 = .ok (.invokevirtual 72, 3) := by decide +kernel
theorem dL_law_610 : decode cL_law 610 = .ok (.if_icmp .eq 582, 3) := by decide +kernel
theorem dL_law_613 : decode cL_law 613 = .ok (.iconst 0, 1) := by decide +kernel
theorem dL_law_614 : decode cL_law 614 = .ok (.ireturn, 1) := by decide +kernel
theorem dL_law_615 : decode cL_law 615 = .ok (.aload_n 1, 1) := by decide +kernel
theorem dL_law_616 : decode cL_law 616 = .ok (.aload_n 0, 1) := by decide +kernel
theorem dL_law_617 : decode cL_law 617 = .ok (.iload_n 3, 1) := by decide +kernel
theorem dL_law_618 : decode cL_law 618 = .ok (.iconst 1, 1) := by decide +kernel
theorem dL_law_619 : decode cL_law 619 = .ok (.iadd, 1) := by decide +kernel
theorem dL_law_620 : decode cL_law 620 = .ok (.iaload, 1) := by decide +kernel
theorem dL_law_621 : decode cL_law 621 = .ok (.invokevirtual 73, 3) := by decide +kernel
theorem dL_law_624 : decode cL_law 624 = .ok (.aload_n 2, 1) := by decide +kernel
theorem dL_law_625 : decode cL_law 625 = .ok (.aload_n 0, 1) := by decide +kernel
theorem dL_law_626 : decode cL_law 626 = .ok (.iload_n 3, 1) := by decide +kernel
theorem dL_law_627 : decode cL_law 627 = .ok (.iconst 1, 1) := by decide +kernel
theorem dL_law_628 : decode cL_law 628 = .ok (.iadd, 1) := by decide +kernel
theorem dL_law_629 : decode cL_law 629 = .ok (.iaload, 1) := by decide +kernel
theorem dL_law_630 : decode cL_law 630 = .ok (.invokevirtual 76, 3) := by decide +kernel
theorem dL_law_633 : decode cL_law 633 = .ok (.if_icmp .eq 559, 3) := by decide +kernel
theorem dL_law_636 : decode cL_law 636 = .ok (.iconst 0, 1) := by decide +kernel
theorem dL_law_637 : decode cL_law 637 = .ok (.ireturn, 1) := by decide +kernel
theorem dL_law_638 : decode cL_law 638 = .ok (.aload_n 1, 1) := by decide +kernel
theorem dL_law_639 : decode cL_law 639 = .ok (.aload_n 0, 1) := by decide +kernel
theorem dL_law_640 : decode cL_law 640 = .ok (.iload_n 3, 1) := by decide +kernel
theorem dL_law_641 : decode cL_law 641 = .ok (.iconst 1, 1) := by decide +kernel
theorem dL_law_642 : decode cL_law 642 = .ok (.iadd, 1) := by decide +kernel
theorem dL_law_643 : decode cL_law 643 = .ok (.iaload, 1) := by decide +kernel
theorem dL_law_644 : decode cL_law 644 = .ok (.aload_n 0, 1) := by decide +kernel
theorem dL_law_645 : decode cL_law 645 = .ok (.iload_n 3, 1) := by decide +kernel
theorem dL_law_646 : decode cL_law 646 = .ok (.iconst 2, 1) := by decide +kernel
theorem dL_law_647 : decode cL_law 647 = .ok (.iadd, 1) := by decide +kernel
theorem dL_law_648 : decode cL_law 648 = .ok (.iaload, 1) := by decide +kernel
theorem dL_law_649 : decode cL_law 649 = .ok (.invokevirtual 77, 3) := by decide +kernel
theorem dL_law_652 : decode cL_law 652 = .ok (.aload_n 2, 1) := by decide +kernel
theorem dL_law_653 : decode cL_law 653 = .ok (.aload_n 0, 1) := by decide +kernel
theorem dL_law_654 : decode cL_law 654 = .ok (.iload_n 3, 1) := by decide +kernel
theorem dL_law_655 : decode cL_law 655 = .ok (.iconst 1, 1) := by decide +kernel
theorem dL_law_656 : decode cL_law 656 = .ok (.iadd, 1) := by decide +kernel
theorem dL_law_657 : decode cL_law 657 = .ok (.iaload, 1) := by decide +kernel
theorem dL_law_658 : decode cL_law 658 = .ok (.aload_n 0, 1) := by decide +kernel
theorem dL_law_659 : decode cL_law 659 = .ok (.iload_n 3, 1) := by decide +kernel
theorem dL_law_660 : decode cL_law 660 = .ok (.iconst 2, 1) := by decide +kernel
theorem dL_law_661 : decode cL_law 661 = .ok (.iadd, 1) := by decide +kernel
theorem dL_law_662 : decode cL_law 662 = .ok (.iaload, 1) := by decide +kernel
theorem dL_law_663 : decode cL_law 663 = .ok (.invokevirtual 80, 3) := by decide +kernel
theorem dL_law_666 : decode cL_law 666 = .ok (.if_icmp .eq 526, 3) := by decide +kernel
theorem dL_law_669 : decode cL_law 669 = .ok (.iconst 0, 1) := by decide +kernel
theorem dL_law_670 : decode cL_law 670 = .ok (.ireturn, 1) := by decide +kernel
theorem dL_law_671 : decode cL_law 671 = .ok (.aload_n 1, 1) := by decide +kernel
theorem dL_law_672 : decode cL_law 672 = .ok (.aload_n 0, 1) := by decide +kernel
theorem dL_law_673 : decode cL_law 673 = .ok (.iload_n 3, 1) := by decide +kernel
theorem dL_law_674 : decode cL_law 674 = .ok (.iconst 1, 1) := by decide +kernel
theorem dL_law_675 : decode cL_law 675 = .ok (.iadd, 1) := by decide +kernel
theorem dL_law_676 : decode cL_law 676 = .ok (.iaload, 1) := by decide +kernel
theorem dL_law_677 : decode cL_law 677 = .ok (.aload_n 0, 1) := by decide +kernel
theorem dL_law_678 : decode cL_law 678 = .ok (.iload_n 3, 1) := by decide +kernel
theorem dL_law_679 : decode cL_law 679 = .ok (.iconst 2, 1) := by decide +kernel
theorem dL_law_680 : decode cL_law 680 = .ok (.iadd, 1) := by decide +kernel
theorem dL_law_681 : decode cL_law 681 = .ok (.iaload, 1) := by decide +kernel
theorem dL_law_682 : decode cL_law 682 = .ok (.aload_n 0, 1) := by decide +kernel
theorem dL_law_683 : decode cL_law 683 = .ok (.iload_n 3, 1) := by decide +kernel
theorem dL_law_684 : decode cL_law 684 = .ok (.iconst 3, 1) := by decide +kernel
theorem dL_law_685 : decode cL_law 685 = .ok (.iadd, 1) := by decide +kernel
theorem dL_law_686 : decode cL_law 686 = .ok (.iaload, 1) := by decide +kernel
theorem dL_law_687 : decode cL_law 687 = .ok (.invokevirtual 81, 3) := by decide +kernel
theorem dL_law_690 : decode cL_law 690 = .ok (.aload_n 2, 1) := by decide +kernel
theorem dL_law_691 : decode cL_law 691 = .ok (.aload_n 0, 1) := by decide +kernel
theorem dL_law_692 : decode cL_law 692 = .ok (.iload_n 3, 1) := by decide +kernel
theorem dL_law_693 : decode cL_law 693 = .ok (.iconst 1, 1) := by decide +kernel
theorem dL_law_694 : decode cL_law 694 = .ok (.iadd, 1) := by decide +kernel
theorem dL_law_695 : decode cL_law 695 = .ok (.iaload, 1) := by decide +kernel
theorem dL_law_696 : decode cL_law 696 = .ok (.aload_n 0, 1) := by decide +kernel
theorem dL_law_697 : decode cL_law 697 = .ok (.iload_n 3, 1) := by decide +kernel
theorem dL_law_698 : decode cL_law 698 = .ok (.iconst 2, 1) := by decide +kernel
theorem dL_law_699 : decode cL_law 699 = .ok (.iadd, 1) := by decide +kernel
theorem dL_law_700 : decode cL_law 700 = .ok (.iaload, 1) := by decide +kernel
theorem dL_law_701 : decode cL_law 701 = .ok (.aload_n 0, 1) := by decide +kernel
theorem dL_law_702 : decode cL_law 702 = .ok (.iload_n 3, 1) := by decide +kernel
theorem dL_law_703 : decode cL_law 703 = .ok (.iconst 3, 1) := by decide +kernel
theorem dL_law_704 : decode cL_law 704 = .ok (.iadd, 1) := by decide +kernel
theorem dL_law_705 : decode cL_law 705 = .ok (.iaload, 1) := by decide +kernel
theorem dL_law_706 : decode cL_law 706 = .ok (.invokevirtual 84, 3) := by decide +kernel
theorem dL_law_709 : decode cL_law 709 = .ok (.if_icmp .eq 483, 3) := by decide +kernel
theorem dL_law_712 : decode cL_law 712 = .ok (.iconst 0, 1) := by decide +kernel
theorem dL_law_713 : decode cL_law 713 = .ok (.ireturn, 1) := by decide +kernel
theorem dL_law_714 : decode cL_law 714 = .ok (.aload_n 1, 1) := by decide +kernel
theorem dL_law_715 : decode cL_law 715 = .ok (.aload_n 0, 1) := by decide +kernel
theorem dL_law_716 : decode cL_law 716 = .ok (.iload_n 3, 1) := by decide +kernel
theorem dL_law_717 : decode cL_law 717 = .ok (.iconst 1, 1) := by decide +kernel
theorem dL_law_718 : decode cL_law 718 = .ok (.iadd, 1) := by decide +kernel
theorem dL_law_719 : decode cL_law 719 = .ok (.iaload, 1) := by decide +kernel
theorem dL_law_720 : decode cL_law 720 = .ok (.aload_n 0, 1) := by decide +kernel
theorem dL_law_721 : decode cL_law 721 = .ok (.iload_n 3, 1) := by decide +kernel
theorem dL_law_722 : decode cL_law 722 = .ok (.iconst 2, 1) := by decide +kernel
theorem dL_law_723 : decode cL_law 723 = .ok (.iadd, 1) := by decide +kernel
theorem dL_law_724 : decode cL_law 724 = .ok (.iaload, 1) := by decide +kernel
theorem dL_law_725 : decode cL_law 725 = .ok (.invokevirtual 85, 3) := by decide +kernel
theorem dL_law_728 : decode cL_law 728 = .ok (.aload_n 2, 1) := by decide +kernel
theorem dL_law_729 : decode cL_law 729 = .ok (.aload_n 0, 1) := by decide +kernel
theorem dL_law_730 : decode cL_law 730 = .ok (.iload_n 3, 1) := by decide +kernel
theorem dL_law_731 : decode cL_law 731 = .ok (.iconst 1, 1) := by decide +kernel
theorem dL_law_732 : decode cL_law 732 = .ok (.iadd, 1) := by decide +kernel
theorem dL_law_733 : decode cL_law 733 = .ok (.iaload, 1) := by decide +kernel
theorem dL_law_734 : decode cL_law 734 = .ok (.aload_n 0, 1) := by decide +kernel
theorem dL_law_735 : decode cL_law 735 = .ok (.iload_n 3, 1) := by decide +kernel
theorem dL_law_736 : decode cL_law 736 = .ok (.iconst 2, 1) := by decide +kernel
theorem dL_law_737 : decode cL_law 737 = .ok (.iadd, 1) := by decide +kernel
theorem dL_law_738 : decode cL_law 738 = .ok (.iaload, 1) := by decide +kernel
theorem dL_law_739 : decode cL_law 739 = .ok (.invokevirtual 88, 3) := by decide +kernel
theorem dL_law_742 : decode cL_law 742 = .ok (.if_icmp .eq 450, 3) := by decide +kernel
theorem dL_law_745 : decode cL_law 745 = .ok (.iconst 0, 1) := by decide +kernel
theorem dL_law_746 : decode cL_law 746 = .ok (.ireturn, 1) := by decide +kernel
theorem dL_law_747 : decode cL_law 747 = .ok (.aload_n 1, 1) := by decide +kernel
theorem dL_law_748 : decode cL_law 748 = .ok (.aload_n 0, 1) := by decide +kernel
theorem dL_law_749 : decode cL_law 749 = .ok (.iload_n 3, 1) := by decide +kernel
theorem dL_law_750 : decode cL_law 750 = .ok (.iconst 1, 1) := by decide +kernel
theorem dL_law_751 : decode cL_law 751 = .ok (.iadd, 1) := by decide +kernel
theorem dL_law_752 : decode cL_law 752 = .ok (.iaload, 1) := by decide +kernel
theorem dL_law_753 : decode cL_law 753 = .ok (.aload_n 0, 1) := by decide +kernel
theorem dL_law_754 : decode cL_law 754 = .ok (.iload_n 3, 1) := by decide +kernel
theorem dL_law_755 : decode cL_law 755 = .ok (.iconst 2, 1) := by decide +kernel
theorem dL_law_756 : decode cL_law 756 = .ok (.iadd, 1) := by decide +kernel
theorem dL_law_757 : decode cL_law 757 = .ok (.iaload, 1) := by decide +kernel
theorem dL_law_758 : decode cL_law 758 = .ok (.aload_n 0, 1) := by decide +kernel
theorem dL_law_759 : decode cL_law 759 = .ok (.iload_n 3, 1) := by decide +kernel
theorem dL_law_760 : decode cL_law 760 = .ok (.iconst 3, 1) := by decide +kernel
theorem dL_law_761 : decode cL_law 761 = .ok (.iadd, 1) := by decide +kernel
theorem dL_law_762 : decode cL_law 762 = .ok (.iaload, 1) := by decide +kernel
theorem dL_law_763 : decode cL_law 763 = .ok (.invokevirtual 89, 3) := by decide +kernel
theorem dL_law_766 : decode cL_law 766 = .ok (.aload_n 2, 1) := by decide +kernel
theorem dL_law_767 : decode cL_law 767 = .ok (.aload_n 0, 1) := by decide +kernel
theorem dL_law_768 : decode cL_law 768 = .ok (.iload_n 3, 1) := by decide +kernel
theorem dL_law_769 : decode cL_law 769 = .ok (.iconst 1, 1) := by decide +kernel
theorem dL_law_770 : decode cL_law 770 = .ok (.iadd, 1) := by decide +kernel
theorem dL_law_771 : decode cL_law 771 = .ok (.iaload, 1) := by decide +kernel
theorem dL_law_772 : decode cL_law 772 = .ok (.aload_n 0, 1) := by decide +kernel
theorem dL_law_773 : decode cL_law 773 = .ok (.iload_n 3, 1) := by decide +kernel
theorem dL_law_774 : decode cL_law 774 = .ok (.iconst 2, 1) := by decide +kernel
theorem dL_law_775 : decode cL_law 775 = .ok (.iadd, 1) := by decide +kernel
theorem dL_law_776 : decode cL_law 776 = .ok (.iaload, 1) := by decide +kernel
theorem dL_law_777 : decode cL_law 777 = .ok (.aload_n 0, 1) := by decide +kernel
theorem dL_law_778 : decode cL_law 778 = .ok (.iload_n 3, 1) := by decide +kernel
theorem dL_law_779 : decode cL_law 779 = .ok (.iconst 3, 1) := by decide +kernel
theorem dL_law_780 : decode cL_law 780 = .ok (.iadd, 1) := by decide +kernel
theorem dL_law_781 : decode cL_law 781 = .ok (.iaload, 1) := by decide +kernel
theorem dL_law_782 : decode cL_law 782 = .ok (.invokevirtual 92, 3) := by decide +kernel
theorem dL_law_785 : decode cL_law 785 = .ok (.if_icmp .eq 407, 3) := by decide +kernel
theorem dL_law_788 : decode cL_law 788 = .ok (.iconst 0, 1) := by decide +kernel
theorem dL_law_789 : decode cL_law 789 = .ok (.ireturn, 1) := by decide +kernel
theorem dL_law_790 : decode cL_law 790 = .ok (.aload_n 1, 1) := by decide +kernel
theorem dL_law_791 : decode cL_law 791 = .ok (.aload_n 0, 1) := by decide +kernel
theorem dL_law_792 : decode cL_law 792 = .ok (.iload_n 3, 1) := by decide +kernel
theorem dL_law_793 : decode cL_law 793 = .ok (.iconst 1, 1) := by decide +kernel
theorem dL_law_794 : decode cL_law 794 = .ok (.iadd, 1) := by decide +kernel
theorem dL_law_795 : decode cL_law 795 = .ok (.iaload, 1) := by decide +kernel
theorem dL_law_796 : decode cL_law 796 = .ok (.aload_n 0, 1) := by decide +kernel
theorem dL_law_797 : decode cL_law 797 = .ok (.iload_n 3, 1) := by decide +kernel
theorem dL_law_798 : decode cL_law 798 = .ok (.iconst 2, 1) := by decide +kernel
theorem dL_law_799 : decode cL_law 799 = .ok (.iadd, 1) := by decide +kernel
theorem dL_law_800 : decode cL_law 800 = .ok (.iaload, 1) := by decide +kernel
theorem dL_law_801 : decode cL_law 801 = .ok (.aload_n 0, 1) := by decide +kernel
theorem dL_law_802 : decode cL_law 802 = .ok (.iload_n 3, 1) := by decide +kernel
theorem dL_law_803 : decode cL_law 803 = .ok (.iconst 3, 1) := by decide +kernel
theorem dL_law_804 : decode cL_law 804 = .ok (.iadd, 1) := by decide +kernel
theorem dL_law_805 : decode cL_law 805 = .ok (.iaload, 1) := by decide +kernel
theorem dL_law_806 : decode cL_law 806 = .ok (.aload_n 0, 1) := by decide +kernel
theorem dL_law_807 : decode cL_law 807 = .ok (.iload_n 3, 1) := by decide +kernel
theorem dL_law_808 : decode cL_law 808 = .ok (.iconst 4, 1) := by decide +kernel
theorem dL_law_809 : decode cL_law 809 = .ok (.iadd, 1) := by decide +kernel
theorem dL_law_810 : decode cL_law 810 = .ok (.iaload, 1) := by decide +kernel
theorem dL_law_811 : decode cL_law 811 = .ok (.invokevirtual 93, 3) := by decide +kernel
theorem dL_law_814 : decode cL_law 814 = .ok (.aload_n 2, 1) := by decide +kernel
theorem dL_law_815 : decode cL_law 815 = .ok (.aload_n 0, 1) := by decide +kernel
theorem dL_law_816 : decode cL_law 816 = .ok (.iload_n 3, 1) := by decide +kernel
theorem dL_law_817 : decode cL_law 817 = .ok (.iconst 1, 1) := by decide +kernel
theorem dL_law_818 : decode cL_law 818 = .ok (.iadd, 1) := by decide +kernel
theorem dL_law_819 : decode cL_law 819 = .ok (.iaload, 1) := by decide +kernel
theorem dL_law_820 : decode cL_law 820 = .ok (.aload_n 0, 1) := by decide +kernel
theorem dL_law_821 : decode cL_law 821 = .ok (.iload_n 3, 1) := by decide +kernel
theorem dL_law_822 : decode cL_law 822 = .ok (.iconst 2, 1) := by decide +kernel
theorem dL_law_823 : decode cL_law 823 = .ok (.iadd, 1) := by decide +kernel
theorem dL_law_824 : decode cL_law 824 = .ok (.iaload, 1) := by decide +kernel
theorem dL_law_825 : decode cL_law 825 = .ok (.aload_n 0, 1) := by decide +kernel
theorem dL_law_826 : decode cL_law 826 = .ok (.iload_n 3, 1) := by decide +kernel
theorem dL_law_827 : decode cL_law 827 = .ok (.iconst 3, 1) := by decide +kernel
theorem dL_law_828 : decode cL_law 828 = .ok (.iadd, 1) := by decide +kernel
theorem dL_law_829 : decode cL_law 829 = .ok (.iaload, 1) := by decide +kernel
theorem dL_law_830 : decode cL_law 830 = .ok (.aload_n 0, 1) := by decide +kernel
theorem dL_law_831 : decode cL_law 831 = .ok (.iload_n 3, 1) := by decide +kernel
theorem dL_law_832 : decode cL_law 832 = .ok (.iconst 4, 1) := by decide +kernel
theorem dL_law_833 : decode cL_law 833 = .ok (.iadd, 1) := by decide +kernel
theorem dL_law_834 : decode cL_law 834 = .ok (.iaload, 1) := by decide +kernel
theorem dL_law_835 : decode cL_law 835 = .ok (.invokevirtual 97, 3) := by decide +kernel
theorem dL_law_838 : decode cL_law 838 = .ok (.if_icmp .eq 354, 3) := by decide +kernel
theorem dL_law_841 : decode cL_law 841 = .ok (.iconst 0, 1) := by decide +kernel
theorem dL_law_842 : decode cL_law 842 = .ok (.ireturn, 1) := by decide +kernel
theorem dL_law_843 : decode cL_law 843 = .ok (.aload_n 1, 1) := by decide +kernel
theorem dL_law_844 : decode cL_law 844 = .ok (.aload_n 0, 1) := by decide +kernel
theorem dL_law_845 : decode cL_law 845 = .ok (.iload_n 3, 1) := by decide +kernel
theorem dL_law_846 : decode cL_law 846 = .ok (.iconst 1, 1) := by decide +kernel
theorem dL_law_847 : decode cL_law 847 = .ok (.iadd, 1) := by decide +kernel
theorem dL_law_848 : decode cL_law 848 = .ok (.iaload, 1) := by decide +kernel
theorem dL_law_849 : decode cL_law 849 = .ok (.aload_n 0, 1) := by decide +kernel
theorem dL_law_850 : decode cL_law 850 = .ok (.iload_n 3, 1) := by decide +kernel
theorem dL_law_851 : decode cL_law 851 = .ok (.iconst 2, 1) := by decide +kernel
theorem dL_law_852 : decode cL_law 852 = .ok (.iadd, 1) := by decide +kernel
theorem dL_law_853 : decode cL_law 853 = .ok (.iaload, 1) := by decide +kernel
theorem dL_law_854 : decode cL_law 854 = .ok (.aload_n 0, 1) := by decide +kernel
theorem dL_law_855 : decode cL_law 855 = .ok (.iload_n 3, 1) := by decide +kernel
theorem dL_law_856 : decode cL_law 856 = .ok (.iconst 3, 1) := by decide +kernel
theorem dL_law_857 : decode cL_law 857 = .ok (.iadd, 1) := by decide +kernel
theorem dL_law_858 : decode cL_law 858 = .ok (.iaload, 1) := by decide +kernel
theorem dL_law_859 : decode cL_law 859 = .ok (.invokevirtual 98, 3) := by decide +kernel
theorem dL_law_862 : decode cL_law 862 = .ok (.aload_n 2, 1) := by decide +kernel
theorem dL_law_863 : decode cL_law 863 = .ok (.aload_n 0, 1) := by decide +kernel
theorem dL_law_864 : decode cL_law 864 = .ok (.iload_n 3, 1) := by decide +kernel
theorem dL_law_865 : decode cL_law 865 = .ok (.iconst 1, 1) := by decide +kernel
theorem dL_law_866 : decode cL_law 866 = .ok (.iadd, 1) := by decide +kernel
theorem dL_law_867 : decode cL_law 867 = .ok (.iaload, 1) := by decide +kernel
theorem dL_law_868 : decode cL_law 868 = .ok (.aload_n 0, 1) := by decide +kernel
theorem dL_law_869 : decode cL_law 869 = .ok (.iload_n 3, 1) := by decide +kernel
theorem dL_law_870 : decode cL_law 870 = .ok (.iconst 2, 1) := by decide +kernel
theorem dL_law_871 : decode cL_law 871 = .ok (.iadd, 1) := by decide +kernel
theorem dL_law_872 : decode cL_law 872 = .ok (.iaload, 1) := by decide +kernel
theorem dL_law_873 : decode cL_law 873 = .ok (.aload_n 0, 1) := by decide +kernel
theorem dL_law_874 : decode cL_law 874 = .ok (.iload_n 3, 1) := by decide +kernel
theorem dL_law_875 : decode cL_law 875 = .ok (.iconst 3, 1) := by decide +kernel
theorem dL_law_876 : decode cL_law 876 = .ok (.iadd, 1) := by decide +kernel
theorem dL_law_877 : decode cL_law 877 = .ok (.iaload, 1) := by decide +kernel
theorem dL_law_878 : decode cL_law 878 = .ok (.invokevirtual 101, 3) := by decide +kernel
theorem dL_law_881 : decode cL_law 881 = .ok (.if_icmp .eq 311, 3) := by decide +kernel
theorem dL_law_884 : decode cL_law 884 = .ok (.iconst 0, 1) := by decide +kernel
theorem dL_law_885 : decode cL_law 885 = .ok (.ireturn, 1) := by decide +kernel
theorem dL_law_886 : decode cL_law 886 = .ok (.aload_n 1, 1) := by decide +kernel
theorem dL_law_887 : decode cL_law 887 = .ok (.aload_n 0, 1) := by decide +kernel
theorem dL_law_888 : decode cL_law 888 = .ok (.iload_n 3, 1) := by decide +kernel
theorem dL_law_889 : decode cL_law 889 = .ok (.iconst 1, 1) := by decide +kernel
theorem dL_law_890 : decode cL_law 890 = .ok (.iadd, 1) := by decide +kernel
theorem dL_law_891 : decode cL_law 891 = .ok (.iaload, 1) := by decide +kernel
theorem dL_law_892 : decode cL_law 892 = .ok (.aload_n 0, 1) := by decide +kernel
theorem dL_law_893 : decode cL_law 893 = .ok (.iload_n 3, 1) := by decide +kernel
theorem dL_law_894 : decode cL_law 894 = .ok (.iconst 2, 1) := by decide +kernel
theorem dL_law_895 : decode cL_law 895 = .ok (.iadd, 1) := by decide +kernel
theorem dL_law_896 : decode cL_law 896 = .ok (.iaload, 1) := by decide +kernel
theorem dL_law_897 : decode cL_law 897 = .ok (.aload_n 0, 1) := by decide +kernel
theorem dL_law_898 : decode cL_law 898 = .ok (.iload_n 3, 1) := by decide +kernel
theorem dL_law_899 : decode cL_law 899 = .ok (.iconst 3, 1) := by decide +kernel
theorem dL_law_900 : decode cL_law 900 = .ok (.iadd, 1) := by decide +kernel
theorem dL_law_901 : decode cL_law 901 = .ok (.iaload, 1) := by decide +kernel
theorem dL_law_902 : decode cL_law 902 = .ok (.invokevirtual 102, 3) := by decide +kernel
theorem dL_law_905 : decode cL_law 905 = .ok (.aload_n 2, 1) := by decide +kernel
theorem dL_law_906 : decode cL_law 906 = .ok (.aload_n 0, 1) := by decide +kernel
theorem dL_law_907 : decode cL_law 907 = .ok (.iload_n 3, 1) := by decide +kernel
theorem dL_law_908 : decode cL_law 908 = .ok (.iconst 1, 1) := by decide +kernel
theorem dL_law_909 : decode cL_law 909 = .ok (.iadd, 1) := by decide +kernel
theorem dL_law_910 : decode cL_law 910 = .ok (.iaload, 1) := by decide +kernel
theorem dL_law_911 : decode cL_law 911 = .ok (.aload_n 0, 1) := by decide +kernel
theorem dL_law_912 : decode cL_law 912 = .ok (.iload_n 3, 1) := by decide +kernel
theorem dL_law_913 : decode cL_law 913 = .ok (.iconst 2, 1) := by decide +kernel
theorem dL_law_914 : decode cL_law 914 = .ok (.iadd, 1) := by decide +kernel
theorem dL_law_915 : decode cL_law 915 = .ok (.iaload, 1) := by decide +kernel
theorem dL_law_916 : decode cL_law 916 = .ok (.aload_n 0, 1) := by decide +kernel
theorem dL_law_917 : decode cL_law 917 = .ok (.iload_n 3, 1) := by decide +kernel
theorem dL_law_918 : decode cL_law 918 = .ok (.iconst 3, 1) := by decide +kernel
theorem dL_law_919 : decode cL_law 919 = .ok (.iadd, 1) := by decide +kernel
theorem dL_law_920 : decode cL_law 920 = .ok (.iaload, 1) := by decide +kernel
theorem dL_law_921 : decode cL_law 921 = .ok (.invokevirtual 105, 3) := by decide +kernel
theorem dL_law_924 : decode cL_law 924 = .ok (.if_icmp .eq 268, 3) := by decide +kernel
theorem dL_law_927 : decode cL_law 927 = .ok (.iconst 0, 1) := by decide +kernel
theorem dL_law_928 : decode cL_law 928 = .ok (.ireturn, 1) := by decide +kernel
theorem dL_law_929 : decode cL_law 929 = .ok (.aload_n 1, 1) := by decide +kernel
theorem dL_law_930 : decode cL_law 930 = .ok (.aload_n 0, 1) := by decide +kernel
theorem dL_law_931 : decode cL_law 931 = .ok (.iload_n 3, 1) := by decide +kernel
theorem dL_law_932 : decode cL_law 932 = .ok (.iconst 1, 1) := by decide +kernel
theorem dL_law_933 : decode cL_law 933 = .ok (.iadd, 1) := by decide +kernel
theorem dL_law_934 : decode cL_law 934 = .ok (.iaload, 1) := by decide +kernel
theorem dL_law_935 : decode cL_law 935 = .ok (.aload_n 0, 1) := by decide +kernel
theorem dL_law_936 : decode cL_law 936 = .ok (.iload_n 3, 1) := by decide +kernel
theorem dL_law_937 : decode cL_law 937 = .ok (.iconst 2, 1) := by decide +kernel
theorem dL_law_938 : decode cL_law 938 = .ok (.iadd, 1) := by decide +kernel
theorem dL_law_939 : decode cL_law 939 = .ok (.iaload, 1) := by decide +kernel
theorem dL_law_940 : decode cL_law 940 = .ok (.invokevirtual 106, 3) := by decide +kernel
theorem dL_law_943 : decode cL_law 943 = .ok (.aload_n 2, 1) := by decide +kernel
theorem dL_law_944 : decode cL_law 944 = .ok (.aload_n 0, 1) := by decide +kernel
theorem dL_law_945 : decode cL_law 945 = .ok (.iload_n 3, 1) := by decide +kernel
theorem dL_law_946 : decode cL_law 946 = .ok (.iconst 1, 1) := by decide +kernel
theorem dL_law_947 : decode cL_law 947 = .ok (.iadd, 1) := by decide +kernel
theorem dL_law_948 : decode cL_law 948 = .ok (.iaload, 1) := by decide +kernel
theorem dL_law_949 : decode cL_law 949 = .ok (.aload_n 0, 1) := by decide +kernel
theorem dL_law_950 : decode cL_law 950 = .ok (.iload_n 3, 1) := by decide +kernel
theorem dL_law_951 : decode cL_law 951 = .ok (.iconst 2, 1) := by decide +kernel
theorem dL_law_952 : decode cL_law 952 = .ok (.iadd, 1) := by decide +kernel
theorem dL_law_953 : decode cL_law 953 = .ok (.iaload, 1) := by decide +kernel
theorem dL_law_954 : decode cL_law 954 = .ok (.invokevirtual 109, 3) := by decide +kernel
theorem dL_law_957 : decode cL_law 957 = .ok (.if_icmp .eq 235, 3) := by decide +kernel
theorem dL_law_960 : decode cL_law 960 = .ok (.iconst 0, 1) := by decide +kernel
theorem dL_law_961 : decode cL_law 961 = .ok (.ireturn, 1) := by decide +kernel
theorem dL_law_962 : decode cL_law 962 = .ok (.aload_n 1, 1) := by decide +kernel
theorem dL_law_963 : decode cL_law 963 = .ok (.aload_n 0, 1) := by decide +kernel
theorem dL_law_964 : decode cL_law 964 = .ok (.iload_n 3, 1) := by decide +kernel
theorem dL_law_965 : decode cL_law 965 = .ok (.iconst 1, 1) := by decide +kernel
theorem dL_law_966 : decode cL_law 966 = .ok (.iadd, 1) := by decide +kernel
theorem dL_law_967 : decode cL_law 967 = .ok (.iaload, 1) := by decide +kernel
theorem dL_law_968 : decode cL_law 968 = .ok (.aload_n 0, 1) := by decide +kernel
theorem dL_law_969 : decode cL_law 969 = .ok (.iload_n 3, 1) := by decide +kernel
theorem dL_law_970 : decode cL_law 970 = .ok (.iconst 2, 1) := by decide +kernel
theorem dL_law_971 : decode cL_law 971 = .ok (.iadd, 1) := by decide +kernel
theorem dL_law_972 : decode cL_law 972 = .ok (.iaload, 1) := by decide +kernel
theorem dL_law_973 : decode cL_law 973 = .ok (.aload_n 0, 1) := by decide +kernel
theorem dL_law_974 : decode cL_law 974 = .ok (.iload_n 3, 1) := by decide +kernel
theorem dL_law_975 : decode cL_law 975 = .ok (.iconst 3, 1) := by decide +kernel
theorem dL_law_976 : decode cL_law 976 = .ok (.iadd, 1) := by decide +kernel
theorem dL_law_977 : decode cL_law 977 = .ok (.iaload, 1) := by decide +kernel
theorem dL_law_978 : decode cL_law 978 = .ok (.invokevirtual 110, 3) := by decide +kernel
theorem dL_law_981 : decode cL_law 981 = .ok (.aload_n 2, 1) := by decide +kernel
theorem dL_law_982 : decode cL_law 982 = .ok (.aload_n 0, 1) := by decide +kernel
theorem dL_law_983 : decode cL_law 983 = .ok (.iload_n 3, 1) := by decide +kernel
theorem dL_law_984 : decode cL_law 984 = .ok (.iconst 1, 1) := by decide +kernel
theorem dL_law_985 : decode cL_law 985 = .ok (.iadd, 1) := by decide +kernel
theorem dL_law_986 : decode cL_law 986 = .ok (.iaload, 1) := by decide +kernel
theorem dL_law_987 : decode cL_law 987 = .ok (.aload_n 0, 1) := by decide +kernel
theorem dL_law_988 : decode cL_law 988 = .ok (.iload_n 3, 1) := by decide +kernel
theorem dL_law_989 : decode cL_law 989 = .ok (.iconst 2, 1) := by decide +kernel
theorem dL_law_990 : decode cL_law 990 = .ok (.iadd, 1) := by decide +kernel
theorem dL_law_991 : decode cL_law 991 = .ok (.iaload, 1) := by decide +kernel
theorem dL_law_992 : decode cL_law 992 = .ok (.aload_n 0, 1) := by decide +kernel
theorem dL_law_993 : decode cL_law 993 = .ok (.iload_n 3, 1) := by decide +kernel
theorem dL_law_994 : decode cL_law 994 = .ok (.iconst 3, 1) := by decide +kernel
theorem dL_law_995 : decode cL_law 995 = .ok (.iadd, 1) := by decide +kernel
theorem dL_law_996 : decode cL_law 996 = .ok (.iaload, 1) := by decide +kernel
theorem dL_law_997 : decode cL_law 997 = .ok (.invokevirtual 113, 3) := by decide +kernel
theorem dL_law_1000 : decode cL_law 1000 = .ok (.if_icmp .eq 192, 3) := by decide +kernel
theorem dL_law_1003 : decode cL_law 1003 = .ok (.iconst 0, 1) := by decide +kernel
theorem dL_law_1004 : decode cL_law 1004 = .ok (.ireturn, 1) := by decide +kernel
theorem dL_law_1005 : decode cL_law 1005 = .ok (.aload_n 1, 1) := by decide +kernel
theorem dL_law_1006 : decode cL_law 1006 = .ok (.aload_n 0, 1) := by decide +kernel
theorem dL_law_1007 : decode cL_law 1007 = .ok (.iload_n 3, 1) := by decide +kernel
theorem dL_law_1008 : decode cL_law 1008 = .ok (.iconst 1, 1) := by decide +kernel
theorem dL_law_1009 : decode cL_law 1009 = .ok (.iadd, 1) := by decide +kernel
theorem dL_law_1010 : decode cL_law 1010 = .ok (.iaload, 1) := by decide +kernel
theorem dL_law_1011 : decode cL_law 1011 = .ok (.aload_n 0, 1) := by decide +kernel
theorem dL_law_1012 : decode cL_law 1012 = .ok (.iload_n 3, 1) := by decide +kernel
theorem dL_law_1013 : decode cL_law 1013 = .ok (.iconst 2, 1) := by decide +kernel
theorem dL_law_1014 : decode cL_law 1014 = .ok (.iadd, 1) := by decide +kernel
theorem dL_law_1015 : decode cL_law 1015 = .ok (.iaload, 1) := by decide +kernel
theorem dL_law_1016 : decode cL_law 1016 = .ok (.aload_n 0, 1) := by decide +kernel
theorem dL_law_1017 : decode cL_law 1017 = .ok (.iload_n 3, 1) := by decide +kernel
theorem dL_law_1018 : decode cL_law 1018 = .ok (.iconst 3, 1) := by decide +kernel
theorem dL_law_1019 : decode cL_law 1019 = .ok (.iadd, 1) := by decide +kernel
theorem dL_law_1020 : decode cL_law 1020 = .ok (.iaload, 1) := by decide +kernel
theorem dL_law_1021 : decode cL_law 1021 = .ok (.invokevirtual 114, 3) := by decide +kernel
theorem dL_law_1024 : decode cL_law 1024 = .ok (.aload_n 2, 1) := by decide +kernel
theorem dL_law_1025 : decode cL_law 1025 = .ok (.aload_n 0, 1) := by decide +kernel
theorem dL_law_1026 : decode cL_law 1026 = .ok (.iload_n 3, 1) := by decide +kernel
theorem dL_law_1027 : decode cL_law 1027 = .ok (.iconst 1, 1) := by decide +kernel
theorem dL_law_1028 : decode cL_law 1028 = .ok (.iadd, 1) := by decide +kernel
theorem dL_law_1029 : decode cL_law 1029 = .ok (.iaload, 1) := by decide +kernel
theorem dL_law_1030 : decode cL_law 1030 = .ok (.aload_n 0, 1) := by decide +kernel
theorem dL_law_1031 : decode cL_law 1031 = .ok (.iload_n 3, 1) := by decide +kernel
theorem dL_law_1032 : decode cL_law 1032 = .ok (.iconst 2, 1) := by decide +kernel
theorem dL_law_1033 : decode cL_law 1033 = .ok (.iadd, 1) := by decide +kernel
theorem dL_law_1034 : decode cL_law 1034 = .ok (.iaload, 1) := by decide +kernel
theorem dL_law_1035 : decode cL_law 1035 = .ok (.aload_n 0, 1) := by decide +kernel
theorem dL_law_1036 : decode cL_law 1036 = .ok (.iload_n 3, 1) := by decide +kernel
theorem dL_law_1037 : decode cL_law 1037 = .ok (.iconst 3, 1) := by decide +kernel
theorem dL_law_1038 : decode cL_law 1038 = .ok (.iadd, 1) := by decide +kernel
theorem dL_law_1039 : decode cL_law 1039 = .ok (.iaload, 1) := by decide +kernel
theorem dL_law_1040 : decode cL_law 1040 = .ok (.invokevirtual 117, 3) := by decide +kernel
theorem dL_law_1043 : decode cL_law 1043 = .ok (.if_icmp .eq 149, 3) := by decide +kernel
theorem dL_law_1046 : decode cL_law 1046 = .ok (.iconst 0, 1) := by decide +kernel
theorem dL_law_1047 : decode cL_law 1047 = .ok (.ireturn, 1) := by decide +kernel
theorem dL_law_1048 : decode cL_law 1048 = .ok (.aload_n 1, 1) := by decide +kernel
theorem dL_law_1049 : decode cL_law 1049 = .ok (.aload_n 0, 1) := by decide +kernel
theorem dL_law_1050 : decode cL_law 1050 = .ok (.iload_n 3, 1) := by decide +kernel
theorem dL_law_1051 : decode cL_law 1051 = .ok (.iconst 1, 1) := by decide +kernel
theorem dL_law_1052 : decode cL_law 1052 = .ok (.iadd, 1) := by decide +kernel
theorem dL_law_1053 : decode cL_law 1053 = .ok (.iaload, 1) := by decide +kernel
theorem dL_law_1054 : decode cL_law 1054 = .ok (.aload_n 0, 1) := by decide +kernel
theorem dL_law_1055 : decode cL_law 1055 = .ok (.iload_n 3, 1) := by decide +kernel
theorem dL_law_1056 : decode cL_law 1056 = .ok (.iconst 2, 1) := by decide +kernel
theorem dL_law_1057 : decode cL_law 1057 = .ok (.iadd, 1) := by decide +kernel
theorem dL_law_1058 : decode cL_law 1058 = .ok (.iaload, 1) := by decide +kernel
theorem dL_law_1059 : decode cL_law 1059 = .ok (.aload_n 0, 1) := by decide +kernel
theorem dL_law_1060 : decode cL_law 1060 = .ok (.iload_n 3, 1) := by decide +kernel
theorem dL_law_1061 : decode cL_law 1061 = .ok (.iconst 3, 1) := by decide +kernel
theorem dL_law_1062 : decode cL_law 1062 = .ok (.iadd, 1) := by decide +kernel
theorem dL_law_1063 : decode cL_law 1063 = .ok (.iaload, 1) := by decide +kernel
theorem dL_law_1064 : decode cL_law 1064 = .ok (.invokevirtual 118, 3) := by decide +kernel
theorem dL_law_1067 : decode cL_law 1067 = .ok (.aload_n 2, 1) := by decide +kernel
theorem dL_law_1068 : decode cL_law 1068 = .ok (.aload_n 0, 1) := by decide +kernel
theorem dL_law_1069 : decode cL_law 1069 = .ok (.iload_n 3, 1) := by decide +kernel
theorem dL_law_1070 : decode cL_law 1070 = .ok (.iconst 1, 1) := by decide +kernel
theorem dL_law_1071 : decode cL_law 1071 = .ok (.iadd, 1) := by decide +kernel
theorem dL_law_1072 : decode cL_law 1072 = .ok (.iaload, 1) := by decide +kernel
theorem dL_law_1073 : decode cL_law 1073 = .ok (.aload_n 0, 1) := by decide +kernel
theorem dL_law_1074 : decode cL_law 1074 = .ok (.iload_n 3, 1) := by decide +kernel
theorem dL_law_1075 : decode cL_law 1075 = .ok (.iconst 2, 1) := by decide +kernel
theorem dL_law_1076 : decode cL_law 1076 = .ok (.iadd, 1) := by decide +kernel
theorem dL_law_1077 : decode cL_law 1077 = .ok (.iaload, 1) := by decide +kernel
theorem dL_law_1078 : decode cL_law 1078 = .ok (.aload_n 0, 1) := by decide +kernel
theorem dL_law_1079 : decode cL_law 1079 = .ok (.iload_n 3, 1) := by decide +kernel
theorem dL_law_1080 : decode cL_law 1080 = .ok (.iconst 3, 1) := by decide +kernel
theorem dL_law_1081 : decode cL_law 1081 = .ok (.iadd, 1) := by decide +kernel
theorem dL_law_1082 : decode cL_law 1082 = .ok (.iaload, 1) := by decide +kernel
theorem dL_law_1083 : decode cL_law 1083 = .ok (.invokevirtual 121, 3) := by decide +kernel
theorem dL_law_1086 : decode cL_law 1086 = .ok (.if_icmp .eq 106, 3) := by decide +kernel
theorem dL_law_1089 : decode cL_law 1089 = .ok (.iconst 0, 1) := by decide +kernel
theorem dL_law_1090 : decode cL_law 1090 = .ok (.ireturn, 1) := by decide +kernel
theorem dL_law_1091 : decode cL_law 1091 = .ok (.aload_n 1, 1) := by decide +kernel
theorem dL_law_1092 : decode cL_law 1092 = .ok (.aload_n 0, 1) := by decide +kernel
theorem dL_law_1093 : decode cL_law 1093 = .ok (.iload_n 3, 1) := by decide +kernel
theorem dL_law_1094 : decode cL_law 1094 = .ok (.iconst 1, 1) := by decide +kernel
theorem dL_law_1095 : decode cL_law 1095 = .ok (.iadd, 1) := by decide +kernel
theorem dL_law_1096 : decode cL_law 1096 = .ok (.iaload, 1) := by decide +kernel
theorem dL_law_1097 : decode cL_law 1097 = .ok (.aload_n 0, 1) := by decide +kernel
theorem dL_law_1098 : decode cL_law 1098 = .ok (.iload_n 3, 1) := by decide +kernel
theorem dL_law_1099 : decode cL_law 1099 = .ok (.iconst 2, 1) := by decide +kernel
theorem dL_law_1100 : decode cL_law 1100 = .ok (.iadd, 1) := by decide +kernel
theorem dL_law_1101 : decode cL_law 1101 = .ok (.iaload, 1) := by decide +kernel
theorem dL_law_1102 : decode cL_law 1102 = .ok (.invokevirtual 122, 3) := by decide +kernel
theorem dL_law_1105 : decode cL_law 1105 = .ok (.aload_n 2, 1) := by decide +kernel
theorem dL_law_1106 : decode cL_law 1106 = .ok (.aload_n 0, 1) := by decide +kernel
theorem dL_law_1107 : decode cL_law 1107 = .ok (.iload_n 3, 1) := by decide +kernel
theorem dL_law_1108 : decode cL_law 1108 = .ok (.iconst 1, 1) := by decide +kernel
theorem dL_law_1109 : decode cL_law 1109 = .ok (.iadd, 1) := by decide +kernel
theorem dL_law_1110 : decode cL_law 1110 = .ok (.iaload, 1) := by decide +kernel
theorem dL_law_1111 : decode cL_law 1111 = .ok (.aload_n 0, 1) := by decide +kernel
theorem dL_law_1112 : decode cL_law 1112 = .ok (.iload_n 3, 1) := by decide +kernel
theorem dL_law_1113 : decode cL_law 1113 = .ok (.iconst 2, 1) := by decide +kernel
theorem dL_law_1114 : decode cL_law 1114 = .ok (.iadd, 1) := by decide +kernel
theorem dL_law_1115 : decode cL_law 1115 = .ok (.iaload, 1) := by decide +kernel
theorem dL_law_1116 : decode cL_law 1116 = .ok (.invokevirtual 126, 3) := by decide +kernel
theorem dL_law_1119 : decode cL_law 1119 = .ok (.lcmp, 1) := by decide +kernel
theorem dL_law_1120 : decode cL_law 1120 = .ok (.ifCond .eq 72, 3) := by decide +kernel
theorem dL_law_1123 : decode cL_law 1123 = .ok (.iconst 0, 1) := by decide +kernel
theorem dL_law_1124 : decode cL_law 1124 = .ok (.ireturn, 1) := by decide +kernel
theorem dL_law_1125 : decode cL_law 1125 = .ok (.aload_n 1, 1) := by decide +kernel
theorem dL_law_1126 : decode cL_law 1126 = .ok (.aload_n 0, 1) := by decide +kernel
theorem dL_law_1127 : decode cL_law 1127 = .ok (.iload_n 3, 1) := by decide +kernel
theorem dL_law_1128 : decode cL_law 1128 = .ok (.iconst 1, 1) := by decide +kernel
theorem dL_law_1129 : decode cL_law 1129 = .ok (.iadd, 1) := by decide +kernel
theorem dL_law_1130 : decode cL_law 1130 = .ok (.iaload, 1) := by decide +kernel
theorem dL_law_1131 : decode cL_law 1131 = .ok (.aload_n 0, 1) := by decide +kernel
theorem dL_law_1132 : decode cL_law 1132 = .ok (.iload_n 3, 1) := by decide +kernel
theorem dL_law_1133 : decode cL_law 1133 = .ok (.iconst 2, 1) := by decide +kernel
theorem dL_law_1134 : decode cL_law 1134 = .ok (.iadd, 1) := by decide +kernel
theorem dL_law_1135 : decode cL_law 1135 = .ok (.iaload, 1) := by decide +kernel
theorem dL_law_1136 : decode cL_law 1136 = .ok (.aload_n 0, 1) := by decide +kernel
theorem dL_law_1137 : decode cL_law 1137 = .ok (.iload_n 3, 1) := by decide +kernel
theorem dL_law_1138 : decode cL_law 1138 = .ok (.iconst 3, 1) := by decide +kernel
theorem dL_law_1139 : decode cL_law 1139 = .ok (.iadd, 1) := by decide +kernel
theorem dL_law_1140 : decode cL_law 1140 = .ok (.iaload, 1) := by decide +kernel
theorem dL_law_1141 : decode cL_law 1141 = .ok (.invokevirtual 127, 3) := by decide +kernel
theorem dL_law_1144 : decode cL_law 1144 = .ok (.aload_n 2, 1) := by decide +kernel
theorem dL_law_1145 : decode cL_law 1145 = .ok (.aload_n 0, 1) := by decide +kernel
theorem dL_law_1146 : decode cL_law 1146 = .ok (.iload_n 3, 1) := by decide +kernel
theorem dL_law_1147 : decode cL_law 1147 = .ok (.iconst 1, 1) := by decide +kernel
theorem dL_law_1148 : decode cL_law 1148 = .ok (.iadd, 1) := by decide +kernel
theorem dL_law_1149 : decode cL_law 1149 = .ok (.iaload, 1) := by decide +kernel
theorem dL_law_1150 : decode cL_law 1150 = .ok (.aload_n 0, 1) := by decide +kernel
theorem dL_law_1151 : decode cL_law 1151 = .ok (.iload_n 3, 1) := by decide +kernel
theorem dL_law_1152 : decode cL_law 1152 = .ok (.iconst 2, 1) := by decide +kernel
theorem dL_law_1153 : decode cL_law 1153 = .ok (.iadd, 1) := by decide +kernel
theorem dL_law_1154 : decode cL_law 1154 = .ok (.iaload, 1) := by decide +kernel
theorem dL_law_1155 : decode cL_law 1155 = .ok (.aload_n 0, 1) := by decide +kernel
theorem dL_law_1156 : decode cL_law 1156 = .ok (.iload_n 3, 1) := by decide +kernel
theorem dL_law_1157 : decode cL_law 1157 = .ok (.iconst 3, 1) := by decide +kernel
theorem dL_law_1158 : decode cL_law 1158 = .ok (.iadd, 1) := by decide +kernel
theorem dL_law_1159 : decode cL_law 1159 = .ok (.iaload, 1) := by decide +kernel
theorem dL_law_1160 : decode cL_law 1160 = .ok (.invokevirtual 130, 3) := by decide +kernel
theorem dL_law_1163 : decode cL_law 1163 = .ok (.if_icmp .eq 29, 3) := by decide +kernel
theorem dL_law_1166 : decode cL_law 1166 = .ok (.iconst 0, 1) := by decide +kernel
theorem dL_law_1167 : decode cL_law 1167 = .ok (.ireturn, 1) := by decide +kernel
theorem dL_law_1168 : decode cL_law 1168 = .ok (.aload_n 1, 1) := by decide +kernel
theorem dL_law_1169 : decode cL_law 1169 = .ok (.aload_n 0, 1) := by decide +kernel
theorem dL_law_1170 : decode cL_law 1170 = .ok (.iload_n 3, 1) := by decide +kernel
theorem dL_law_1171 : decode cL_law 1171 = .ok (.iconst 1, 1) := by decide +kernel
theorem dL_law_1172 : decode cL_law 1172 = .ok (.iadd, 1) := by decide +kernel
theorem dL_law_1173 : decode cL_law 1173 = .ok (.iaload, 1) := by decide +kernel
theorem dL_law_1174 : decode cL_law 1174 = .ok (.invokevirtual 131, 3) := by decide +kernel
theorem dL_law_1177 : decode cL_law 1177 = .ok (.aload_n 2, 1) := by decide +kernel
theorem dL_law_1178 : decode cL_law 1178 = .ok (.aload_n 0, 1) := by decide +kernel
theorem dL_law_1179 : decode cL_law 1179 = .ok (.iload_n 3, 1) := by decide +kernel
theorem dL_law_1180 : decode cL_law 1180 = .ok (.iconst 1, 1) := by decide +kernel
theorem dL_law_1181 : decode cL_law 1181 = .ok (.iadd, 1) := by decide +kernel
theorem dL_law_1182 : decode cL_law 1182 = .ok (.iaload, 1) := by decide +kernel
theorem dL_law_1183 : decode cL_law 1183 = .ok (.invokevirtual 135, 3) := by decide +kernel
theorem dL_law_1186 : decode cL_law 1186 = .ok (.lcmp, 1) := by decide +kernel
theorem dL_law_1187 : decode cL_law 1187 = .ok (.ifCond .eq 5, 3) := by decide +kernel
theorem dL_law_1190 : decode cL_law 1190 = .ok (.iconst 0, 1) := by decide +kernel
theorem dL_law_1191 : decode cL_law 1191 = .ok (.ireturn, 1) := by decide +kernel
theorem dL_law_1192 : decode cL_law 1192 = .ok (.iinc 3 5, 3) := by decide +kernel
theorem dL_law_1195 : decode cL_law 1195 = .ok (.goto (-1177), 3) := by decide +kernel
theorem dL_law_1198 : decode cL_law 1198 = .ok (.iconst 1, 1) := by decide +kernel
theorem dL_law_1199 : decode cL_law 1199 = .ok (.ireturn, 1) := by decide +kernel
