theorem dWk_step_0 : decode mWk_step.2.2.2.1 0 = .ok (.aconst_null, 1) := by decide +kernel
theorem dWk_step_1 : decode mWk_step.2.2.2.1 1 = .ok ((.astore_n 1), 1) := by decide +kernel
theorem dWk_step_2 : decode mWk_step.2.2.2.1 2 = .ok ((.iconst (0)), 1) := by decide +kernel
theorem dWk_step_3 : decode mWk_step.2.2.2.1 3 = .ok ((.istore_n 2), 1) := by decide +kernel
theorem dWk_step_4 : decode mWk_step.2.2.2.1 4 = .ok ((.iconst (0)), 1) := by decide +kernel
theorem dWk_step_5 : decode mWk_step.2.2.2.1 5 = .ok ((.istore_n 3), 1) := by decide +kernel
theorem dWk_step_6 : decode mWk_step.2.2.2.1 6 = .ok ((.iload_n 3), 1) := by decide +kernel
theorem dWk_step_7 : decode mWk_step.2.2.2.1 7 = .ok ((.aload_n 0), 1) := by decide +kernel
theorem dWk_step_8 : decode mWk_step.2.2.2.1 8 = .ok ((.getfield 25), 3) := by decide +kernel
theorem dWk_step_11 : decode mWk_step.2.2.2.1 11 = .ok ((.if_icmp .ge (70)), 3) := by decide +kernel
theorem dWk_step_14 : decode mWk_step.2.2.2.1 14 = .ok ((.aload_n 0), 1) := by decide +kernel
theorem dWk_step_15 : decode mWk_step.2.2.2.1 15 = .ok ((.getfield 11), 3) := by decide +kernel
theorem dWk_step_18 : decode mWk_step.2.2.2.1 18 = .ok ((.iload_n 3), 1) := by decide +kernel
theorem dWk_step_19 : decode mWk_step.2.2.2.1 19 = .ok (.aaload, 1) := by decide +kernel
theorem dWk_step_20 : decode mWk_step.2.2.2.1 20 = .ok ((.astore 4), 2) := by decide +kernel
theorem dWk_step_22 : decode mWk_step.2.2.2.1 22 = .ok ((.aload 4), 2) := by decide +kernel
theorem dWk_step_24 : decode mWk_step.2.2.2.1 24 = .ok ((.ifnull (51)), 3) := by decide +kernel
theorem dWk_step_27 : decode mWk_step.2.2.2.1 27 = .ok ((.aload_n 0), 1) := by decide +kernel
theorem dWk_step_28 : decode mWk_step.2.2.2.1 28 = .ok ((.getfield 17), 3) := by decide +kernel
theorem dWk_step_31 : decode mWk_step.2.2.2.1 31 = .ok ((.iload_n 3), 1) := by decide +kernel
theorem dWk_step_32 : decode mWk_step.2.2.2.1 32 = .ok (.iaload, 1) := by decide +kernel
theorem dWk_step_33 : decode mWk_step.2.2.2.1 33 = .ok ((.aload 4), 2) := by decide +kernel
theorem dWk_step_35 : decode mWk_step.2.2.2.1 35 = .ok ((.getfield 33), 3) := by decide +kernel
theorem dWk_step_38 : decode mWk_step.2.2.2.1 38 = .ok ((.if_icmp .lt (6)), 3) := by decide +kernel
theorem dWk_step_41 : decode mWk_step.2.2.2.1 41 = .ok ((.goto (34)), 3) := by decide +kernel
theorem dWk_step_44 : decode mWk_step.2.2.2.1 44 = .ok ((.aload_n 1), 1) := by decide +kernel
theorem dWk_step_45 : decode mWk_step.2.2.2.1 45 = .ok ((.ifnull (25)), 3) := by decide +kernel
theorem dWk_step_48 : decode mWk_step.2.2.2.1 48 = .ok ((.aload_n 0), 1) := by decide +kernel
theorem dWk_step_49 : decode mWk_step.2.2.2.1 49 = .ok ((.aload 4), 2) := by decide +kernel
theorem dWk_step_51 : decode mWk_step.2.2.2.1 51 = .ok ((.aload_n 0), 1) := by decide +kernel
theorem dWk_step_52 : decode mWk_step.2.2.2.1 52 = .ok ((.getfield 17), 3) := by decide +kernel
theorem dWk_step_55 : decode mWk_step.2.2.2.1 55 = .ok ((.iload_n 3), 1) := by decide +kernel
theorem dWk_step_56 : decode mWk_step.2.2.2.1 56 = .ok (.iaload, 1) := by decide +kernel
theorem dWk_step_57 : decode mWk_step.2.2.2.1 57 = .ok ((.aload_n 1), 1) := by decide +kernel
theorem dWk_step_58 : decode mWk_step.2.2.2.1 58 = .ok ((.aload_n 0), 1) := by decide +kernel
theorem dWk_step_59 : decode mWk_step.2.2.2.1 59 = .ok ((.getfield 17), 3) := by decide +kernel
theorem dWk_step_62 : decode mWk_step.2.2.2.1 62 = .ok ((.iload_n 2), 1) := by decide +kernel
theorem dWk_step_63 : decode mWk_step.2.2.2.1 63 = .ok (.iaload, 1) := by decide +kernel
theorem dWk_step_64 : decode mWk_step.2.2.2.1 64 = .ok ((.invokevirtual 34), 3) := by decide +kernel
theorem dWk_step_67 : decode mWk_step.2.2.2.1 67 = .ok ((.ifCond .eq (8)), 3) := by decide +kernel
theorem dWk_step_70 : decode mWk_step.2.2.2.1 70 = .ok ((.aload 4), 2) := by decide +kernel
theorem dWk_step_72 : decode mWk_step.2.2.2.1 72 = .ok ((.astore_n 1), 1) := by decide +kernel
theorem dWk_step_73 : decode mWk_step.2.2.2.1 73 = .ok ((.iload_n 3), 1) := by decide +kernel
theorem dWk_step_74 : decode mWk_step.2.2.2.1 74 = .ok ((.istore_n 2), 1) := by decide +kernel
theorem dWk_step_75 : decode mWk_step.2.2.2.1 75 = .ok ((.iinc 3 (1)), 3) := by decide +kernel
theorem dWk_step_78 : decode mWk_step.2.2.2.1 78 = .ok ((.goto (-72)), 3) := by decide +kernel
theorem dWk_step_81 : decode mWk_step.2.2.2.1 81 = .ok ((.aload_n 1), 1) := by decide +kernel
theorem dWk_step_82 : decode mWk_step.2.2.2.1 82 = .ok ((.ifnonnull (5)), 3) := by decide +kernel
theorem dWk_step_85 : decode mWk_step.2.2.2.1 85 = .ok ((.iconst (0)), 1) := by decide +kernel
theorem dWk_step_86 : decode mWk_step.2.2.2.1 86 = .ok (.ireturn, 1) := by decide +kernel
theorem dWk_step_87 : decode mWk_step.2.2.2.1 87 = .ok ((.aload_n 0), 1) := by decide +kernel
theorem dWk_step_88 : decode mWk_step.2.2.2.1 88 = .ok ((.getfield 17), 3) := by decide +kernel
theorem dWk_step_91 : decode mWk_step.2.2.2.1 91 = .ok ((.iload_n 2), 1) := by decide +kernel
theorem dWk_step_92 : decode mWk_step.2.2.2.1 92 = .ok (.dup2, 1) := by decide +kernel
theorem dWk_step_93 : decode mWk_step.2.2.2.1 93 = .ok (.iaload, 1) := by decide +kernel
theorem dWk_step_94 : decode mWk_step.2.2.2.1 94 = .ok (.dup_x2, 1) := by decide +kernel
theorem dWk_step_95 : decode mWk_step.2.2.2.1 95 = .ok ((.iconst (1)), 1) := by decide +kernel
theorem dWk_step_96 : decode mWk_step.2.2.2.1 96 = .ok (.iadd, 1) := by decide +kernel
theorem dWk_step_97 : decode mWk_step.2.2.2.1 97 = .ok (.iastore, 1) := by decide +kernel
theorem dWk_step_98 : decode mWk_step.2.2.2.1 98 = .ok ((.istore_n 3), 1) := by decide +kernel
theorem dWk_step_99 : decode mWk_step.2.2.2.1 99 = .ok ((.aload_n 0), 1) := by decide +kernel
theorem dWk_step_100 : decode mWk_step.2.2.2.1 100 = .ok ((.aload_n 1), 1) := by decide +kernel
theorem dWk_step_101 : decode mWk_step.2.2.2.1 101 = .ok ((.getfield 38), 3) := by decide +kernel
theorem dWk_step_104 : decode mWk_step.2.2.2.1 104 = .ok ((.iload_n 3), 1) := by decide +kernel
theorem dWk_step_105 : decode mWk_step.2.2.2.1 105 = .ok (.laload, 1) := by decide +kernel
theorem dWk_step_106 : decode mWk_step.2.2.2.1 106 = .ok ((.putfield 29), 3) := by decide +kernel
theorem dWk_step_109 : decode mWk_step.2.2.2.1 109 = .ok ((.aload_n 0), 1) := by decide +kernel
theorem dWk_step_110 : decode mWk_step.2.2.2.1 110 = .ok ((.aload_n 1), 1) := by decide +kernel
theorem dWk_step_111 : decode mWk_step.2.2.2.1 111 = .ok ((.getfield 42), 3) := by decide +kernel
theorem dWk_step_114 : decode mWk_step.2.2.2.1 114 = .ok ((.iload_n 3), 1) := by decide +kernel
theorem dWk_step_115 : decode mWk_step.2.2.2.1 115 = .ok (.iaload, 1) := by decide +kernel
theorem dWk_step_116 : decode mWk_step.2.2.2.1 116 = .ok ((.putfield 45), 3) := by decide +kernel
theorem dWk_step_119 : decode mWk_step.2.2.2.1 119 = .ok ((.aload_n 0), 1) := by decide +kernel
theorem dWk_step_120 : decode mWk_step.2.2.2.1 120 = .ok ((.aload_n 1), 1) := by decide +kernel
theorem dWk_step_121 : decode mWk_step.2.2.2.1 121 = .ok ((.getfield 48), 3) := by decide +kernel
theorem dWk_step_124 : decode mWk_step.2.2.2.1 124 = .ok ((.iload_n 3), 1) := by decide +kernel
theorem dWk_step_125 : decode mWk_step.2.2.2.1 125 = .ok (.laload, 1) := by decide +kernel
theorem dWk_step_126 : decode mWk_step.2.2.2.1 126 = .ok ((.putfield 51), 3) := by decide +kernel
theorem dWk_step_129 : decode mWk_step.2.2.2.1 129 = .ok ((.iconst (1)), 1) := by decide +kernel
theorem dWk_step_130 : decode mWk_step.2.2.2.1 130 = .ok (.ireturn, 1) := by decide +kernel
theorem dWk_stepToOther_0 : decode mWk_stepToOther.2.2.2.1 0 = .ok ((.aload_n 0), 1) := by decide +kernel
theorem dWk_stepToOther_1 : decode mWk_stepToOther.2.2.2.1 1 = .ok ((.getfield 29), 3) := by decide +kernel
theorem dWk_stepToOther_4 : decode mWk_stepToOther.2.2.2.1 4 = .ok ((.lstore_n 1), 1) := by decide +kernel
theorem dWk_stepToOther_5 : decode mWk_stepToOther.2.2.2.1 5 = .ok ((.aload_n 0), 1) := by decide +kernel
theorem dWk_stepToOther_6 : decode mWk_stepToOther.2.2.2.1 6 = .ok ((.getfield 45), 3) := by decide +kernel
theorem dWk_stepToOther_9 : decode mWk_stepToOther.2.2.2.1 9 = .ok ((.istore_n 3), 1) := by decide +kernel
theorem dWk_stepToOther_10 : decode mWk_stepToOther.2.2.2.1 10 = .ok ((.iconst (0)), 1) := by decide +kernel
theorem dWk_stepToOther_11 : decode mWk_stepToOther.2.2.2.1 11 = .ok ((.istore 4), 2) := by decide +kernel
theorem dWk_stepToOther_13 : decode mWk_stepToOther.2.2.2.1 13 = .ok ((.iload 4), 2) := by decide +kernel
theorem dWk_stepToOther_15 : decode mWk_stepToOther.2.2.2.1 15 = .ok ((.aload_n 0), 1) := by decide +kernel
theorem dWk_stepToOther_16 : decode mWk_stepToOther.2.2.2.1 16 = .ok ((.getfield 25), 3) := by decide +kernel
theorem dWk_stepToOther_19 : decode mWk_stepToOther.2.2.2.1 19 = .ok ((.if_icmp .gt (44)), 3) := by decide +kernel
theorem dWk_stepToOther_22 : decode mWk_stepToOther.2.2.2.1 22 = .ok ((.aload_n 0), 1) := by decide +kernel
theorem dWk_stepToOther_23 : decode mWk_stepToOther.2.2.2.1 23 = .ok ((.invokevirtual 54), 3) := by decide +kernel
theorem dWk_stepToOther_26 : decode mWk_stepToOther.2.2.2.1 26 = .ok ((.ifCond .ne (5)), 3) := by decide +kernel
theorem dWk_stepToOther_29 : decode mWk_stepToOther.2.2.2.1 29 = .ok ((.iconst (0)), 1) := by decide +kernel
theorem dWk_stepToOther_30 : decode mWk_stepToOther.2.2.2.1 30 = .ok (.ireturn, 1) := by decide +kernel
theorem dWk_stepToOther_31 : decode mWk_stepToOther.2.2.2.1 31 = .ok ((.aload_n 0), 1) := by decide +kernel
theorem dWk_stepToOther_32 : decode mWk_stepToOther.2.2.2.1 32 = .ok ((.getfield 29), 3) := by decide +kernel
theorem dWk_stepToOther_35 : decode mWk_stepToOther.2.2.2.1 35 = .ok ((.lload_n 1), 1) := by decide +kernel
theorem dWk_stepToOther_36 : decode mWk_stepToOther.2.2.2.1 36 = .ok (.lcmp, 1) := by decide +kernel
theorem dWk_stepToOther_37 : decode mWk_stepToOther.2.2.2.1 37 = .ok ((.ifCond .ne (18)), 3) := by decide +kernel
theorem dWk_stepToOther_40 : decode mWk_stepToOther.2.2.2.1 40 = .ok ((.aload_n 0), 1) := by decide +kernel
theorem dWk_stepToOther_41 : decode mWk_stepToOther.2.2.2.1 41 = .ok ((.getfield 21), 3) := by decide +kernel
theorem dWk_stepToOther_44 : decode mWk_stepToOther.2.2.2.1 44 = .ok ((.ifCond .eq (13)), 3) := by decide +kernel
theorem dWk_stepToOther_47 : decode mWk_stepToOther.2.2.2.1 47 = .ok ((.aload_n 0), 1) := by decide +kernel
theorem dWk_stepToOther_48 : decode mWk_stepToOther.2.2.2.1 48 = .ok ((.getfield 45), 3) := by decide +kernel
theorem dWk_stepToOther_51 : decode mWk_stepToOther.2.2.2.1 51 = .ok ((.iload_n 3), 1) := by decide +kernel
theorem dWk_stepToOther_52 : decode mWk_stepToOther.2.2.2.1 52 = .ok ((.if_icmp .eq (5)), 3) := by decide +kernel
theorem dWk_stepToOther_55 : decode mWk_stepToOther.2.2.2.1 55 = .ok ((.iconst (1)), 1) := by decide +kernel
theorem dWk_stepToOther_56 : decode mWk_stepToOther.2.2.2.1 56 = .ok (.ireturn, 1) := by decide +kernel
theorem dWk_stepToOther_57 : decode mWk_stepToOther.2.2.2.1 57 = .ok ((.iinc 4 (1)), 3) := by decide +kernel
theorem dWk_stepToOther_60 : decode mWk_stepToOther.2.2.2.1 60 = .ok ((.goto (-47)), 3) := by decide +kernel
theorem dWk_stepToOther_63 : decode mWk_stepToOther.2.2.2.1 63 = .ok ((.iconst (0)), 1) := by decide +kernel
theorem dWk_stepToOther_64 : decode mWk_stepToOther.2.2.2.1 64 = .ok (.ireturn, 1) := by decide +kernel
theorem dWk_comesBefore_0 : decode mWk_comesBefore.2.2.2.1 0 = .ok ((.aload_n 1), 1) := by decide +kernel
theorem dWk_comesBefore_1 : decode mWk_comesBefore.2.2.2.1 1 = .ok ((.getfield 38), 3) := by decide +kernel
theorem dWk_comesBefore_4 : decode mWk_comesBefore.2.2.2.1 4 = .ok ((.iload_n 2), 1) := by decide +kernel
theorem dWk_comesBefore_5 : decode mWk_comesBefore.2.2.2.1 5 = .ok (.laload, 1) := by decide +kernel
theorem dWk_comesBefore_6 : decode mWk_comesBefore.2.2.2.1 6 = .ok ((.aload_n 3), 1) := by decide +kernel
theorem dWk_comesBefore_7 : decode mWk_comesBefore.2.2.2.1 7 = .ok ((.getfield 38), 3) := by decide +kernel
theorem dWk_comesBefore_10 : decode mWk_comesBefore.2.2.2.1 10 = .ok ((.iload 4), 2) := by decide +kernel
theorem dWk_comesBefore_12 : decode mWk_comesBefore.2.2.2.1 12 = .ok (.laload, 1) := by decide +kernel
theorem dWk_comesBefore_13 : decode mWk_comesBefore.2.2.2.1 13 = .ok (.lcmp, 1) := by decide +kernel
theorem dWk_comesBefore_14 : decode mWk_comesBefore.2.2.2.1 14 = .ok ((.ifCond .eq (26)), 3) := by decide +kernel
theorem dWk_comesBefore_17 : decode mWk_comesBefore.2.2.2.1 17 = .ok ((.aload_n 1), 1) := by decide +kernel
theorem dWk_comesBefore_18 : decode mWk_comesBefore.2.2.2.1 18 = .ok ((.getfield 38), 3) := by decide +kernel
theorem dWk_comesBefore_21 : decode mWk_comesBefore.2.2.2.1 21 = .ok ((.iload_n 2), 1) := by decide +kernel
theorem dWk_comesBefore_22 : decode mWk_comesBefore.2.2.2.1 22 = .ok (.laload, 1) := by decide +kernel
theorem dWk_comesBefore_23 : decode mWk_comesBefore.2.2.2.1 23 = .ok ((.aload_n 3), 1) := by decide +kernel
theorem dWk_comesBefore_24 : decode mWk_comesBefore.2.2.2.1 24 = .ok ((.getfield 38), 3) := by decide +kernel
theorem dWk_comesBefore_27 : decode mWk_comesBefore.2.2.2.1 27 = .ok ((.iload 4), 2) := by decide +kernel
theorem dWk_comesBefore_29 : decode mWk_comesBefore.2.2.2.1 29 = .ok (.laload, 1) := by decide +kernel
theorem dWk_comesBefore_30 : decode mWk_comesBefore.2.2.2.1 30 = .ok (.lcmp, 1) := by decide +kernel
theorem dWk_comesBefore_31 : decode mWk_comesBefore.2.2.2.1 31 = .ok ((.ifCond .ge (7)), 3) := by decide +kernel
theorem dWk_comesBefore_34 : decode mWk_comesBefore.2.2.2.1 34 = .ok ((.iconst (1)), 1) := by decide +kernel
theorem dWk_comesBefore_35 : decode mWk_comesBefore.2.2.2.1 35 = .ok ((.goto (4)), 3) := by decide +kernel
theorem dWk_comesBefore_38 : decode mWk_comesBefore.2.2.2.1 38 = .ok ((.iconst (0)), 1) := by decide +kernel
theorem dWk_comesBefore_39 : decode mWk_comesBefore.2.2.2.1 39 = .ok (.ireturn, 1) := by decide +kernel
theorem dWk_comesBefore_40 : decode mWk_comesBefore.2.2.2.1 40 = .ok ((.aload_n 0), 1) := by decide +kernel
theorem dWk_comesBefore_41 : decode mWk_comesBefore.2.2.2.1 41 = .ok ((.getfield 21), 3) := by decide +kernel
theorem dWk_comesBefore_44 : decode mWk_comesBefore.2.2.2.1 44 = .ok ((.ifCond .eq (23)), 3) := by decide +kernel
theorem dWk_comesBefore_47 : decode mWk_comesBefore.2.2.2.1 47 = .ok ((.aload_n 1), 1) := by decide +kernel
theorem dWk_comesBefore_48 : decode mWk_comesBefore.2.2.2.1 48 = .ok ((.getfield 42), 3) := by decide +kernel
theorem dWk_comesBefore_51 : decode mWk_comesBefore.2.2.2.1 51 = .ok ((.iload_n 2), 1) := by decide +kernel
theorem dWk_comesBefore_52 : decode mWk_comesBefore.2.2.2.1 52 = .ok (.iaload, 1) := by decide +kernel
theorem dWk_comesBefore_53 : decode mWk_comesBefore.2.2.2.1 53 = .ok ((.aload_n 3), 1) := by decide +kernel
theorem dWk_comesBefore_54 : decode mWk_comesBefore.2.2.2.1 54 = .ok ((.getfield 42), 3) := by decide +kernel
theorem dWk_comesBefore_57 : decode mWk_comesBefore.2.2.2.1 57 = .ok ((.iload 4), 2) := by decide +kernel
theorem dWk_comesBefore_59 : decode mWk_comesBefore.2.2.2.1 59 = .ok (.iaload, 1) := by decide +kernel
theorem dWk_comesBefore_60 : decode mWk_comesBefore.2.2.2.1 60 = .ok ((.if_icmp .le (7)), 3) := by decide +kernel
theorem dWk_comesBefore_63 : decode mWk_comesBefore.2.2.2.1 63 = .ok ((.iconst (1)), 1) := by decide +kernel
theorem dWk_comesBefore_64 : decode mWk_comesBefore.2.2.2.1 64 = .ok ((.goto (4)), 3) := by decide +kernel
theorem dWk_comesBefore_67 : decode mWk_comesBefore.2.2.2.1 67 = .ok ((.iconst (0)), 1) := by decide +kernel
theorem dWk_comesBefore_68 : decode mWk_comesBefore.2.2.2.1 68 = .ok (.ireturn, 1) := by decide +kernel
theorem dWr_init_0 : decode mWr_init.2.2.2.1 0 = .ok ((.aload_n 0), 1) := by decide +kernel
theorem dWr_init_1 : decode mWr_init.2.2.2.1 1 = .ok ((.invokespecial 3), 3) := by decide +kernel
theorem dWr_init_4 : decode mWr_init.2.2.2.1 4 = .ok (.return_, 1) := by decide +kernel
theorem dWr_write_0 : decode mWr_write.2.2.2.1 0 = .ok ((.aload_n 0), 1) := by decide +kernel
theorem dWr_write_1 : decode mWr_write.2.2.2.1 1 = .ok ((.aload_n 1), 1) := by decide +kernel
theorem dWr_write_2 : decode mWr_write.2.2.2.1 2 = .ok ((.putfield 9), 3) := by decide +kernel
theorem dWr_write_5 : decode mWr_write.2.2.2.1 5 = .ok ((.aload_n 0), 1) := by decide +kernel
theorem dWr_write_6 : decode mWr_write.2.2.2.1 6 = .ok ((.getfield 9), 3) := by decide +kernel
theorem dWr_write_9 : decode mWr_write.2.2.2.1 9 = .ok ((.iconst (0)), 1) := by decide +kernel
theorem dWr_write_10 : decode mWr_write.2.2.2.1 10 = .ok ((.putfield 15), 3) := by decide +kernel
theorem dWr_write_13 : decode mWr_write.2.2.2.1 13 = .ok ((.aload_n 0), 1) := by decide +kernel
theorem dWr_write_14 : decode mWr_write.2.2.2.1 14 = .ok ((.iconst (1)), 1) := by decide +kernel
theorem dWr_write_15 : decode mWr_write.2.2.2.1 15 = .ok ((.putfield 21), 3) := by decide +kernel
theorem dWr_write_18 : decode mWr_write.2.2.2.1 18 = .ok ((.aload_n 0), 1) := by decide +kernel
theorem dWr_write_19 : decode mWr_write.2.2.2.1 19 = .ok ((.bipush (82)), 2) := by decide +kernel
theorem dWr_write_21 : decode mWr_write.2.2.2.1 21 = .ok ((.invokevirtual 25), 3) := by decide +kernel
theorem dWr_write_24 : decode mWr_write.2.2.2.1 24 = .ok ((.aload_n 0), 1) := by decide +kernel
theorem dWr_write_25 : decode mWr_write.2.2.2.1 25 = .ok ((.aload_n 1), 1) := by decide +kernel
theorem dWr_write_26 : decode mWr_write.2.2.2.1 26 = .ok ((.getfield 29), 3) := by decide +kernel
theorem dWr_write_29 : decode mWr_write.2.2.2.1 29 = .ok ((.invokevirtual 25), 3) := by decide +kernel
theorem dWr_write_32 : decode mWr_write.2.2.2.1 32 = .ok ((.aload_n 0), 1) := by decide +kernel
theorem dWr_write_33 : decode mWr_write.2.2.2.1 33 = .ok ((.aload_n 1), 1) := by decide +kernel
theorem dWr_write_34 : decode mWr_write.2.2.2.1 34 = .ok ((.getfield 32), 3) := by decide +kernel
theorem dWr_write_37 : decode mWr_write.2.2.2.1 37 = .ok ((.invokevirtual 25), 3) := by decide +kernel
theorem dWr_write_40 : decode mWr_write.2.2.2.1 40 = .ok ((.aload_n 0), 1) := by decide +kernel
theorem dWr_write_41 : decode mWr_write.2.2.2.1 41 = .ok ((.aload_n 1), 1) := by decide +kernel
theorem dWr_write_42 : decode mWr_write.2.2.2.1 42 = .ok ((.getfield 35), 3) := by decide +kernel
theorem dWr_write_45 : decode mWr_write.2.2.2.1 45 = .ok ((.getfield 39), 3) := by decide +kernel
theorem dWr_write_48 : decode mWr_write.2.2.2.1 48 = .ok ((.invokevirtual 25), 3) := by decide +kernel
theorem dWr_write_51 : decode mWr_write.2.2.2.1 51 = .ok ((.iconst (0)), 1) := by decide +kernel
theorem dWr_write_52 : decode mWr_write.2.2.2.1 52 = .ok ((.istore_n 2), 1) := by decide +kernel
theorem dWr_write_53 : decode mWr_write.2.2.2.1 53 = .ok ((.iload_n 2), 1) := by decide +kernel
theorem dWr_write_54 : decode mWr_write.2.2.2.1 54 = .ok ((.aload_n 1), 1) := by decide +kernel
theorem dWr_write_55 : decode mWr_write.2.2.2.1 55 = .ok ((.getfield 35), 3) := by decide +kernel
theorem dWr_write_58 : decode mWr_write.2.2.2.1 58 = .ok ((.getfield 39), 3) := by decide +kernel
theorem dWr_write_61 : decode mWr_write.2.2.2.1 61 = .ok ((.if_icmp .ge (14)), 3) := by decide +kernel
theorem dWr_write_64 : decode mWr_write.2.2.2.1 64 = .ok ((.aload_n 0), 1) := by decide +kernel
theorem dWr_write_65 : decode mWr_write.2.2.2.1 65 = .ok ((.iload_n 2), 1) := by decide +kernel
theorem dWr_write_66 : decode mWr_write.2.2.2.1 66 = .ok ((.invokevirtual 44), 3) := by decide +kernel
theorem dWr_write_69 : decode mWr_write.2.2.2.1 69 = .ok ((.iinc 2 (1)), 3) := by decide +kernel
theorem dWr_write_72 : decode mWr_write.2.2.2.1 72 = .ok ((.goto (-19)), 3) := by decide +kernel
theorem dWr_write_75 : decode mWr_write.2.2.2.1 75 = .ok ((.aload_n 0), 1) := by decide +kernel
theorem dWr_write_76 : decode mWr_write.2.2.2.1 76 = .ok ((.aload_n 1), 1) := by decide +kernel
theorem dWr_write_77 : decode mWr_write.2.2.2.1 77 = .ok ((.getfield 47), 3) := by decide +kernel
theorem dWr_write_80 : decode mWr_write.2.2.2.1 80 = .ok ((.getfield 39), 3) := by decide +kernel
theorem dWr_write_83 : decode mWr_write.2.2.2.1 83 = .ok ((.invokevirtual 25), 3) := by decide +kernel
theorem dWr_write_86 : decode mWr_write.2.2.2.1 86 = .ok ((.iconst (0)), 1) := by decide +kernel
theorem dWr_write_87 : decode mWr_write.2.2.2.1 87 = .ok ((.istore_n 2), 1) := by decide +kernel
theorem dWr_write_88 : decode mWr_write.2.2.2.1 88 = .ok ((.iload_n 2), 1) := by decide +kernel
theorem dWr_write_89 : decode mWr_write.2.2.2.1 89 = .ok ((.aload_n 1), 1) := by decide +kernel
theorem dWr_write_90 : decode mWr_write.2.2.2.1 90 = .ok ((.getfield 47), 3) := by decide +kernel
theorem dWr_write_93 : decode mWr_write.2.2.2.1 93 = .ok ((.getfield 39), 3) := by decide +kernel
theorem dWr_write_96 : decode mWr_write.2.2.2.1 96 = .ok ((.if_icmp .ge (14)), 3) := by decide +kernel
theorem dWr_write_99 : decode mWr_write.2.2.2.1 99 = .ok ((.aload_n 0), 1) := by decide +kernel
theorem dWr_write_100 : decode mWr_write.2.2.2.1 100 = .ok ((.iload_n 2), 1) := by decide +kernel
theorem dWr_write_101 : decode mWr_write.2.2.2.1 101 = .ok ((.invokevirtual 50), 3) := by decide +kernel
theorem dWr_write_104 : decode mWr_write.2.2.2.1 104 = .ok ((.iinc 2 (1)), 3) := by decide +kernel
theorem dWr_write_107 : decode mWr_write.2.2.2.1 107 = .ok ((.goto (-19)), 3) := by decide +kernel
theorem dWr_write_110 : decode mWr_write.2.2.2.1 110 = .ok ((.aload_n 1), 1) := by decide +kernel
theorem dWr_write_111 : decode mWr_write.2.2.2.1 111 = .ok ((.aload_n 1), 1) := by decide +kernel
theorem dWr_write_112 : decode mWr_write.2.2.2.1 112 = .ok ((.getfield 15), 3) := by decide +kernel
theorem dWr_write_115 : decode mWr_write.2.2.2.1 115 = .ok ((.invokevirtual 53), 3) := by decide +kernel
theorem dWr_write_118 : decode mWr_write.2.2.2.1 118 = .ok ((.istore_n 2), 1) := by decide +kernel
theorem dWr_write_119 : decode mWr_write.2.2.2.1 119 = .ok ((.aload_n 0), 1) := by decide +kernel
theorem dWr_write_120 : decode mWr_write.2.2.2.1 120 = .ok ((.iload_n 2), 1) := by decide +kernel
theorem dWr_write_121 : decode mWr_write.2.2.2.1 121 = .ok ((.bipush (8)), 2) := by decide +kernel
theorem dWr_write_123 : decode mWr_write.2.2.2.1 123 = .ok (.ishr, 1) := by decide +kernel
theorem dWr_write_124 : decode mWr_write.2.2.2.1 124 = .ok ((.invokevirtual 57), 3) := by decide +kernel
theorem dWr_write_127 : decode mWr_write.2.2.2.1 127 = .ok ((.aload_n 0), 1) := by decide +kernel
theorem dWr_write_128 : decode mWr_write.2.2.2.1 128 = .ok ((.iload_n 2), 1) := by decide +kernel
theorem dWr_write_129 : decode mWr_write.2.2.2.1 129 = .ok ((.sipush (255)), 3) := by decide +kernel
theorem dWr_write_132 : decode mWr_write.2.2.2.1 132 = .ok (.iand, 1) := by decide +kernel
theorem dWr_write_133 : decode mWr_write.2.2.2.1 133 = .ok ((.invokevirtual 57), 3) := by decide +kernel
theorem dWr_write_136 : decode mWr_write.2.2.2.1 136 = .ok ((.aload_n 1), 1) := by decide +kernel
theorem dWr_write_137 : decode mWr_write.2.2.2.1 137 = .ok ((.aload_n 0), 1) := by decide +kernel
theorem dWr_write_138 : decode mWr_write.2.2.2.1 138 = .ok ((.getfield 21), 3) := by decide +kernel
theorem dWr_write_141 : decode mWr_write.2.2.2.1 141 = .ok ((.putfield 60), 3) := by decide +kernel
theorem dWr_write_144 : decode mWr_write.2.2.2.1 144 = .ok ((.aload_n 0), 1) := by decide +kernel
theorem dWr_write_145 : decode mWr_write.2.2.2.1 145 = .ok ((.getfield 21), 3) := by decide +kernel
theorem dWr_write_148 : decode mWr_write.2.2.2.1 148 = .ok (.ireturn, 1) := by decide +kernel
theorem dWr_putRecord_0 : decode mWr_putRecord.2.2.2.1 0 = .ok ((.aload_n 0), 1) := by decide +kernel
theorem dWr_putRecord_1 : decode mWr_putRecord.2.2.2.1 1 = .ok ((.getfield 9), 3) := by decide +kernel
theorem dWr_putRecord_4 : decode mWr_putRecord.2.2.2.1 4 = .ok ((.getfield 35), 3) := by decide +kernel
theorem dWr_putRecord_7 : decode mWr_putRecord.2.2.2.1 7 = .ok ((.astore_n 2), 1) := by decide +kernel
theorem dWr_putRecord_8 : decode mWr_putRecord.2.2.2.1 8 = .ok ((.aload_n 2), 1) := by decide +kernel
theorem dWr_putRecord_9 : decode mWr_putRecord.2.2.2.1 9 = .ok ((.getfield 63), 3) := by decide +kernel
theorem dWr_putRecord_12 : decode mWr_putRecord.2.2.2.1 12 = .ok ((.iload_n 1), 1) := by decide +kernel
theorem dWr_putRecord_13 : decode mWr_putRecord.2.2.2.1 13 = .ok (.laload, 1) := by decide +kernel
theorem dWr_putRecord_14 : decode mWr_putRecord.2.2.2.1 14 = .ok ((.lstore_n 3), 1) := by decide +kernel
theorem dWr_putRecord_15 : decode mWr_putRecord.2.2.2.1 15 = .ok ((.aload_n 2), 1) := by decide +kernel
theorem dWr_putRecord_16 : decode mWr_putRecord.2.2.2.1 16 = .ok ((.getfield 67), 3) := by decide +kernel
theorem dWr_putRecord_19 : decode mWr_putRecord.2.2.2.1 19 = .ok ((.iload_n 1), 1) := by decide +kernel
theorem dWr_putRecord_20 : decode mWr_putRecord.2.2.2.1 20 = .ok (.laload, 1) := by decide +kernel
theorem dWr_putRecord_21 : decode mWr_putRecord.2.2.2.1 21 = .ok ((.lstore 5), 2) := by decide +kernel
theorem dWr_putRecord_23 : decode mWr_putRecord.2.2.2.1 23 = .ok ((.aload_n 2), 1) := by decide +kernel
theorem dWr_putRecord_24 : decode mWr_putRecord.2.2.2.1 24 = .ok ((.iload_n 1), 1) := by decide +kernel
theorem dWr_putRecord_25 : decode mWr_putRecord.2.2.2.1 25 = .ok ((.lload_n 3), 1) := by decide +kernel
theorem dWr_putRecord_26 : decode mWr_putRecord.2.2.2.1 26 = .ok ((.invokevirtual 70), 3) := by decide +kernel
theorem dWr_putRecord_29 : decode mWr_putRecord.2.2.2.1 29 = .ok ((.istore 7), 2) := by decide +kernel
theorem dWr_putRecord_31 : decode mWr_putRecord.2.2.2.1 31 = .ok ((.lload_n 3), 1) := by decide +kernel
theorem dWr_putRecord_32 : decode mWr_putRecord.2.2.2.1 32 = .ok ((.invokestatic 74), 3) := by decide +kernel
theorem dWr_putRecord_35 : decode mWr_putRecord.2.2.2.1 35 = .ok ((.istore 8), 2) := by decide +kernel
theorem dWr_putRecord_37 : decode mWr_putRecord.2.2.2.1 37 = .ok ((.lload 5), 2) := by decide +kernel
theorem dWr_putRecord_39 : decode mWr_putRecord.2.2.2.1 39 = .ok ((.lconst 0), 1) := by decide +kernel
theorem dWr_putRecord_40 : decode mWr_putRecord.2.2.2.1 40 = .ok (.lcmp, 1) := by decide +kernel
theorem dWr_putRecord_41 : decode mWr_putRecord.2.2.2.1 41 = .ok ((.ifCond .ne (7)), 3) := by decide +kernel
theorem dWr_putRecord_44 : decode mWr_putRecord.2.2.2.1 44 = .ok ((.iconst (0)), 1) := by decide +kernel
theorem dWr_putRecord_45 : decode mWr_putRecord.2.2.2.1 45 = .ok ((.goto (15)), 3) := by decide +kernel
theorem dWr_putRecord_48 : decode mWr_putRecord.2.2.2.1 48 = .ok ((.lload 5), 2) := by decide +kernel
theorem dWr_putRecord_50 : decode mWr_putRecord.2.2.2.1 50 = .ok ((.lconst 0), 1) := by decide +kernel
theorem dWr_putRecord_51 : decode mWr_putRecord.2.2.2.1 51 = .ok (.lcmp, 1) := by decide +kernel
theorem dWr_putRecord_52 : decode mWr_putRecord.2.2.2.1 52 = .ok ((.ifCond .le (7)), 3) := by decide +kernel
theorem dWr_putRecord_55 : decode mWr_putRecord.2.2.2.1 55 = .ok ((.iconst (1)), 1) := by decide +kernel
theorem dWr_putRecord_56 : decode mWr_putRecord.2.2.2.1 56 = .ok ((.goto (4)), 3) := by decide +kernel
theorem dWr_putRecord_59 : decode mWr_putRecord.2.2.2.1 59 = .ok ((.iconst (2)), 1) := by decide +kernel
theorem dWr_putRecord_60 : decode mWr_putRecord.2.2.2.1 60 = .ok ((.istore 9), 2) := by decide +kernel
theorem dWr_putRecord_62 : decode mWr_putRecord.2.2.2.1 62 = .ok ((.aload_n 0), 1) := by decide +kernel
theorem dWr_putRecord_63 : decode mWr_putRecord.2.2.2.1 63 = .ok ((.iload 7), 2) := by decide +kernel
theorem dWr_putRecord_65 : decode mWr_putRecord.2.2.2.1 65 = .ok ((.invokevirtual 25), 3) := by decide +kernel
theorem dWr_putRecord_68 : decode mWr_putRecord.2.2.2.1 68 = .ok ((.aload_n 0), 1) := by decide +kernel
theorem dWr_putRecord_69 : decode mWr_putRecord.2.2.2.1 69 = .ok ((.iconst (4)), 1) := by decide +kernel
theorem dWr_putRecord_70 : decode mWr_putRecord.2.2.2.1 70 = .ok ((.iload 8), 2) := by decide +kernel
theorem dWr_putRecord_72 : decode mWr_putRecord.2.2.2.1 72 = .ok ((.iload 7), 2) := by decide +kernel
theorem dWr_putRecord_74 : decode mWr_putRecord.2.2.2.1 74 = .ok (.isub, 1) := by decide +kernel
theorem dWr_putRecord_75 : decode mWr_putRecord.2.2.2.1 75 = .ok (.imul, 1) := by decide +kernel
theorem dWr_putRecord_76 : decode mWr_putRecord.2.2.2.1 76 = .ok ((.iload 9), 2) := by decide +kernel
theorem dWr_putRecord_78 : decode mWr_putRecord.2.2.2.1 78 = .ok (.iadd, 1) := by decide +kernel
theorem dWr_putRecord_79 : decode mWr_putRecord.2.2.2.1 79 = .ok ((.invokevirtual 25), 3) := by decide +kernel
theorem dWr_putRecord_82 : decode mWr_putRecord.2.2.2.1 82 = .ok ((.aload_n 0), 1) := by decide +kernel
theorem dWr_putRecord_83 : decode mWr_putRecord.2.2.2.1 83 = .ok ((.lload_n 3), 1) := by decide +kernel
theorem dWr_putRecord_84 : decode mWr_putRecord.2.2.2.1 84 = .ok ((.iload 7), 2) := by decide +kernel
theorem dWr_putRecord_86 : decode mWr_putRecord.2.2.2.1 86 = .ok ((.iload 8), 2) := by decide +kernel
theorem dWr_putRecord_88 : decode mWr_putRecord.2.2.2.1 88 = .ok ((.invokevirtual 80), 3) := by decide +kernel
theorem dWr_putRecord_91 : decode mWr_putRecord.2.2.2.1 91 = .ok ((.aload_n 0), 1) := by decide +kernel
theorem dWr_putRecord_92 : decode mWr_putRecord.2.2.2.1 92 = .ok ((.aload_n 2), 1) := by decide +kernel
theorem dWr_putRecord_93 : decode mWr_putRecord.2.2.2.1 93 = .ok ((.getfield 84), 3) := by decide +kernel
theorem dWr_putRecord_96 : decode mWr_putRecord.2.2.2.1 96 = .ok ((.iload_n 1), 1) := by decide +kernel
theorem dWr_putRecord_97 : decode mWr_putRecord.2.2.2.1 97 = .ok (.iaload, 1) := by decide +kernel
theorem dWr_putRecord_98 : decode mWr_putRecord.2.2.2.1 98 = .ok ((.aload_n 0), 1) := by decide +kernel
theorem dWr_putRecord_99 : decode mWr_putRecord.2.2.2.1 99 = .ok ((.getfield 9), 3) := by decide +kernel
theorem dWr_putRecord_102 : decode mWr_putRecord.2.2.2.1 102 = .ok ((.getfield 29), 3) := by decide +kernel
theorem dWr_putRecord_105 : decode mWr_putRecord.2.2.2.1 105 = .ok (.isub, 1) := by decide +kernel
theorem dWr_putRecord_106 : decode mWr_putRecord.2.2.2.1 106 = .ok ((.invokevirtual 25), 3) := by decide +kernel
theorem dWr_putRecord_109 : decode mWr_putRecord.2.2.2.1 109 = .ok ((.iload 9), 2) := by decide +kernel
theorem dWr_putRecord_111 : decode mWr_putRecord.2.2.2.1 111 = .ok ((.iconst (1)), 1) := by decide +kernel
theorem dWr_putRecord_112 : decode mWr_putRecord.2.2.2.1 112 = .ok ((.if_icmp .ne (13)), 3) := by decide +kernel
theorem dWr_putRecord_115 : decode mWr_putRecord.2.2.2.1 115 = .ok ((.aload_n 0), 1) := by decide +kernel
theorem dWr_putRecord_116 : decode mWr_putRecord.2.2.2.1 116 = .ok ((.lload 5), 2) := by decide +kernel
theorem dWr_putRecord_118 : decode mWr_putRecord.2.2.2.1 118 = .ok (.l2i, 1) := by decide +kernel
theorem dWr_putRecord_119 : decode mWr_putRecord.2.2.2.1 119 = .ok ((.invokevirtual 25), 3) := by decide +kernel
theorem dWr_putRecord_122 : decode mWr_putRecord.2.2.2.1 122 = .ok ((.goto (33)), 3) := by decide +kernel
theorem dWr_putRecord_125 : decode mWr_putRecord.2.2.2.1 125 = .ok ((.iload 9), 2) := by decide +kernel
theorem dWr_putRecord_127 : decode mWr_putRecord.2.2.2.1 127 = .ok ((.iconst (2)), 1) := by decide +kernel
theorem dWr_putRecord_128 : decode mWr_putRecord.2.2.2.1 128 = .ok ((.if_icmp .ne (27)), 3) := by decide +kernel
theorem dWr_putRecord_131 : decode mWr_putRecord.2.2.2.1 131 = .ok ((.lload 5), 2) := by decide +kernel
theorem dWr_putRecord_133 : decode mWr_putRecord.2.2.2.1 133 = .ok (.lneg, 1) := by decide +kernel
theorem dWr_putRecord_134 : decode mWr_putRecord.2.2.2.1 134 = .ok ((.invokestatic 74), 3) := by decide +kernel
theorem dWr_putRecord_137 : decode mWr_putRecord.2.2.2.1 137 = .ok ((.istore 10), 2) := by decide +kernel
theorem dWr_putRecord_139 : decode mWr_putRecord.2.2.2.1 139 = .ok ((.aload_n 0), 1) := by decide +kernel
theorem dWr_putRecord_140 : decode mWr_putRecord.2.2.2.1 140 = .ok ((.iload 10), 2) := by decide +kernel
theorem dWr_putRecord_142 : decode mWr_putRecord.2.2.2.1 142 = .ok ((.invokevirtual 25), 3) := by decide +kernel
theorem dWr_putRecord_145 : decode mWr_putRecord.2.2.2.1 145 = .ok ((.aload_n 0), 1) := by decide +kernel
theorem dWr_putRecord_146 : decode mWr_putRecord.2.2.2.1 146 = .ok ((.lload 5), 2) := by decide +kernel
theorem dWr_putRecord_148 : decode mWr_putRecord.2.2.2.1 148 = .ok (.lneg, 1) := by decide +kernel
theorem dWr_putRecord_149 : decode mWr_putRecord.2.2.2.1 149 = .ok ((.iconst (0)), 1) := by decide +kernel
theorem dWr_putRecord_150 : decode mWr_putRecord.2.2.2.1 150 = .ok ((.iload 10), 2) := by decide +kernel
theorem dWr_putRecord_152 : decode mWr_putRecord.2.2.2.1 152 = .ok ((.invokevirtual 80), 3) := by decide +kernel
theorem dWr_putRecord_155 : decode mWr_putRecord.2.2.2.1 155 = .ok (.return_, 1) := by decide +kernel
theorem dWr_putEntry_0 : decode mWr_putEntry.2.2.2.1 0 = .ok ((.aload_n 0), 1) := by decide +kernel
theorem dWr_putEntry_1 : decode mWr_putEntry.2.2.2.1 1 = .ok ((.getfield 9), 3) := by decide +kernel
theorem dWr_putEntry_4 : decode mWr_putEntry.2.2.2.1 4 = .ok ((.getfield 47), 3) := by decide +kernel
theorem dWr_putEntry_7 : decode mWr_putEntry.2.2.2.1 7 = .ok ((.astore_n 2), 1) := by decide +kernel
theorem dWr_putEntry_8 : decode mWr_putEntry.2.2.2.1 8 = .ok ((.aload_n 2), 1) := by decide +kernel
theorem dWr_putEntry_9 : decode mWr_putEntry.2.2.2.1 9 = .ok ((.getfield 63), 3) := by decide +kernel
theorem dWr_putEntry_12 : decode mWr_putEntry.2.2.2.1 12 = .ok ((.iload_n 1), 1) := by decide +kernel
theorem dWr_putEntry_13 : decode mWr_putEntry.2.2.2.1 13 = .ok (.laload, 1) := by decide +kernel
theorem dWr_putEntry_14 : decode mWr_putEntry.2.2.2.1 14 = .ok ((.lstore_n 3), 1) := by decide +kernel
theorem dWr_putEntry_15 : decode mWr_putEntry.2.2.2.1 15 = .ok ((.aload_n 2), 1) := by decide +kernel
theorem dWr_putEntry_16 : decode mWr_putEntry.2.2.2.1 16 = .ok ((.iload_n 1), 1) := by decide +kernel
theorem dWr_putEntry_17 : decode mWr_putEntry.2.2.2.1 17 = .ok ((.lload_n 3), 1) := by decide +kernel
theorem dWr_putEntry_18 : decode mWr_putEntry.2.2.2.1 18 = .ok ((.invokevirtual 70), 3) := by decide +kernel
theorem dWr_putEntry_21 : decode mWr_putEntry.2.2.2.1 21 = .ok ((.istore 5), 2) := by decide +kernel
theorem dWr_putEntry_23 : decode mWr_putEntry.2.2.2.1 23 = .ok ((.lload_n 3), 1) := by decide +kernel
theorem dWr_putEntry_24 : decode mWr_putEntry.2.2.2.1 24 = .ok ((.invokestatic 74), 3) := by decide +kernel
theorem dWr_putEntry_27 : decode mWr_putEntry.2.2.2.1 27 = .ok ((.istore 6), 2) := by decide +kernel
theorem dWr_putEntry_29 : decode mWr_putEntry.2.2.2.1 29 = .ok ((.aload_n 0), 1) := by decide +kernel
theorem dWr_putEntry_30 : decode mWr_putEntry.2.2.2.1 30 = .ok ((.iload 5), 2) := by decide +kernel
theorem dWr_putEntry_32 : decode mWr_putEntry.2.2.2.1 32 = .ok ((.invokevirtual 25), 3) := by decide +kernel
theorem dWr_putEntry_35 : decode mWr_putEntry.2.2.2.1 35 = .ok ((.aload_n 0), 1) := by decide +kernel
theorem dWr_putEntry_36 : decode mWr_putEntry.2.2.2.1 36 = .ok ((.iload 6), 2) := by decide +kernel
theorem dWr_putEntry_38 : decode mWr_putEntry.2.2.2.1 38 = .ok ((.iload 5), 2) := by decide +kernel
theorem dWr_putEntry_40 : decode mWr_putEntry.2.2.2.1 40 = .ok (.isub, 1) := by decide +kernel
theorem dWr_putEntry_41 : decode mWr_putEntry.2.2.2.1 41 = .ok ((.invokevirtual 25), 3) := by decide +kernel
theorem dWr_putEntry_44 : decode mWr_putEntry.2.2.2.1 44 = .ok ((.aload_n 0), 1) := by decide +kernel
theorem dWr_putEntry_45 : decode mWr_putEntry.2.2.2.1 45 = .ok ((.lload_n 3), 1) := by decide +kernel
theorem dWr_putEntry_46 : decode mWr_putEntry.2.2.2.1 46 = .ok ((.iload 5), 2) := by decide +kernel
theorem dWr_putEntry_48 : decode mWr_putEntry.2.2.2.1 48 = .ok ((.iload 6), 2) := by decide +kernel
theorem dWr_putEntry_50 : decode mWr_putEntry.2.2.2.1 50 = .ok ((.invokevirtual 80), 3) := by decide +kernel
theorem dWr_putEntry_53 : decode mWr_putEntry.2.2.2.1 53 = .ok ((.aload_n 0), 1) := by decide +kernel
theorem dWr_putEntry_54 : decode mWr_putEntry.2.2.2.1 54 = .ok ((.aload_n 2), 1) := by decide +kernel
theorem dWr_putEntry_55 : decode mWr_putEntry.2.2.2.1 55 = .ok ((.getfield 84), 3) := by decide +kernel
theorem dWr_putEntry_58 : decode mWr_putEntry.2.2.2.1 58 = .ok ((.iload_n 1), 1) := by decide +kernel
theorem dWr_putEntry_59 : decode mWr_putEntry.2.2.2.1 59 = .ok (.iaload, 1) := by decide +kernel
theorem dWr_putEntry_60 : decode mWr_putEntry.2.2.2.1 60 = .ok ((.invokevirtual 25), 3) := by decide +kernel
theorem dWr_putEntry_63 : decode mWr_putEntry.2.2.2.1 63 = .ok ((.aload_n 0), 1) := by decide +kernel
theorem dWr_putEntry_64 : decode mWr_putEntry.2.2.2.1 64 = .ok ((.aload_n 2), 1) := by decide +kernel
theorem dWr_putEntry_65 : decode mWr_putEntry.2.2.2.1 65 = .ok ((.getfield 67), 3) := by decide +kernel
theorem dWr_putEntry_68 : decode mWr_putEntry.2.2.2.1 68 = .ok ((.iload_n 1), 1) := by decide +kernel
theorem dWr_putEntry_69 : decode mWr_putEntry.2.2.2.1 69 = .ok (.laload, 1) := by decide +kernel
theorem dWr_putEntry_70 : decode mWr_putEntry.2.2.2.1 70 = .ok ((.invokestatic 88), 3) := by decide +kernel
theorem dWr_putEntry_73 : decode mWr_putEntry.2.2.2.1 73 = .ok ((.invokevirtual 25), 3) := by decide +kernel
theorem dWr_putEntry_76 : decode mWr_putEntry.2.2.2.1 76 = .ok ((.aload_n 0), 1) := by decide +kernel
theorem dWr_putEntry_77 : decode mWr_putEntry.2.2.2.1 77 = .ok ((.aload_n 2), 1) := by decide +kernel
theorem dWr_putEntry_78 : decode mWr_putEntry.2.2.2.1 78 = .ok ((.getfield 67), 3) := by decide +kernel
theorem dWr_putEntry_81 : decode mWr_putEntry.2.2.2.1 81 = .ok ((.iload_n 1), 1) := by decide +kernel
theorem dWr_putEntry_82 : decode mWr_putEntry.2.2.2.1 82 = .ok (.laload, 1) := by decide +kernel
theorem dWr_putEntry_83 : decode mWr_putEntry.2.2.2.1 83 = .ok ((.invokestatic 91), 3) := by decide +kernel
theorem dWr_putEntry_86 : decode mWr_putEntry.2.2.2.1 86 = .ok ((.invokevirtual 25), 3) := by decide +kernel
theorem dWr_putEntry_89 : decode mWr_putEntry.2.2.2.1 89 = .ok (.return_, 1) := by decide +kernel
theorem dWr_putSymbols_0 : decode mWr_putSymbols.2.2.2.1 0 = .ok ((.iload_n 3), 1) := by decide +kernel
theorem dWr_putSymbols_1 : decode mWr_putSymbols.2.2.2.1 1 = .ok ((.istore 5), 2) := by decide +kernel
theorem dWr_putSymbols_3 : decode mWr_putSymbols.2.2.2.1 3 = .ok ((.iload 5), 2) := by decide +kernel
theorem dWr_putSymbols_5 : decode mWr_putSymbols.2.2.2.1 5 = .ok ((.iload 4), 2) := by decide +kernel
theorem dWr_putSymbols_7 : decode mWr_putSymbols.2.2.2.1 7 = .ok ((.if_icmp .ge (19)), 3) := by decide +kernel
theorem dWr_putSymbols_10 : decode mWr_putSymbols.2.2.2.1 10 = .ok ((.aload_n 0), 1) := by decide +kernel
theorem dWr_putSymbols_11 : decode mWr_putSymbols.2.2.2.1 11 = .ok ((.lload_n 1), 1) := by decide +kernel
theorem dWr_putSymbols_12 : decode mWr_putSymbols.2.2.2.1 12 = .ok ((.iload 5), 2) := by decide +kernel
theorem dWr_putSymbols_14 : decode mWr_putSymbols.2.2.2.1 14 = .ok ((.invokestatic 94), 3) := by decide +kernel
theorem dWr_putSymbols_17 : decode mWr_putSymbols.2.2.2.1 17 = .ok ((.invokevirtual 57), 3) := by decide +kernel
theorem dWr_putSymbols_20 : decode mWr_putSymbols.2.2.2.1 20 = .ok ((.iinc 5 (1)), 3) := by decide +kernel
theorem dWr_putSymbols_23 : decode mWr_putSymbols.2.2.2.1 23 = .ok ((.goto (-20)), 3) := by decide +kernel
theorem dWr_putSymbols_26 : decode mWr_putSymbols.2.2.2.1 26 = .ok (.return_, 1) := by decide +kernel
theorem dWr_putVarint_0 : decode mWr_putVarint.2.2.2.1 0 = .ok ((.iload_n 1), 1) := by decide +kernel
theorem dWr_putVarint_1 : decode mWr_putVarint.2.2.2.1 1 = .ok ((.istore_n 2), 1) := by decide +kernel
theorem dWr_putVarint_2 : decode mWr_putVarint.2.2.2.1 2 = .ok ((.iconst (1)), 1) := by decide +kernel
theorem dWr_putVarint_3 : decode mWr_putVarint.2.2.2.1 3 = .ok ((.istore_n 3), 1) := by decide +kernel
theorem dWr_putVarint_4 : decode mWr_putVarint.2.2.2.1 4 = .ok ((.iload_n 3), 1) := by decide +kernel
theorem dWr_putVarint_5 : decode mWr_putVarint.2.2.2.1 5 = .ok ((.iconst (3)), 1) := by decide +kernel
theorem dWr_putVarint_6 : decode mWr_putVarint.2.2.2.1 6 = .ok ((.if_icmp .ge (32)), 3) := by decide +kernel
theorem dWr_putVarint_9 : decode mWr_putVarint.2.2.2.1 9 = .ok ((.iload_n 2), 1) := by decide +kernel
theorem dWr_putVarint_10 : decode mWr_putVarint.2.2.2.1 10 = .ok ((.bipush (127)), 2) := by decide +kernel
theorem dWr_putVarint_12 : decode mWr_putVarint.2.2.2.1 12 = .ok ((.if_icmp .le (26)), 3) := by decide +kernel
theorem dWr_putVarint_15 : decode mWr_putVarint.2.2.2.1 15 = .ok ((.aload_n 0), 1) := by decide +kernel
theorem dWr_putVarint_16 : decode mWr_putVarint.2.2.2.1 16 = .ok ((.iload_n 2), 1) := by decide +kernel
theorem dWr_putVarint_17 : decode mWr_putVarint.2.2.2.1 17 = .ok ((.bipush (127)), 2) := by decide +kernel
theorem dWr_putVarint_19 : decode mWr_putVarint.2.2.2.1 19 = .ok (.iand, 1) := by decide +kernel
theorem dWr_putVarint_20 : decode mWr_putVarint.2.2.2.1 20 = .ok ((.sipush (128)), 3) := by decide +kernel
theorem dWr_putVarint_23 : decode mWr_putVarint.2.2.2.1 23 = .ok (.ior, 1) := by decide +kernel
theorem dWr_putVarint_24 : decode mWr_putVarint.2.2.2.1 24 = .ok ((.invokevirtual 57), 3) := by decide +kernel
theorem dWr_putVarint_27 : decode mWr_putVarint.2.2.2.1 27 = .ok ((.iload_n 2), 1) := by decide +kernel
theorem dWr_putVarint_28 : decode mWr_putVarint.2.2.2.1 28 = .ok ((.bipush (7)), 2) := by decide +kernel
theorem dWr_putVarint_30 : decode mWr_putVarint.2.2.2.1 30 = .ok (.ishr, 1) := by decide +kernel
theorem dWr_putVarint_31 : decode mWr_putVarint.2.2.2.1 31 = .ok ((.istore_n 2), 1) := by decide +kernel
theorem dWr_putVarint_32 : decode mWr_putVarint.2.2.2.1 32 = .ok ((.iinc 3 (1)), 3) := by decide +kernel
theorem dWr_putVarint_35 : decode mWr_putVarint.2.2.2.1 35 = .ok ((.goto (-31)), 3) := by decide +kernel
theorem dWr_putVarint_38 : decode mWr_putVarint.2.2.2.1 38 = .ok ((.aload_n 0), 1) := by decide +kernel
theorem dWr_putVarint_39 : decode mWr_putVarint.2.2.2.1 39 = .ok ((.iload_n 2), 1) := by decide +kernel
theorem dWr_putVarint_40 : decode mWr_putVarint.2.2.2.1 40 = .ok ((.invokevirtual 57), 3) := by decide +kernel
theorem dWr_putVarint_43 : decode mWr_putVarint.2.2.2.1 43 = .ok (.return_, 1) := by decide +kernel
theorem dWr_putByte_0 : decode mWr_putByte.2.2.2.1 0 = .ok ((.aload_n 0), 1) := by decide +kernel
theorem dWr_putByte_1 : decode mWr_putByte.2.2.2.1 1 = .ok ((.getfield 9), 3) := by decide +kernel
theorem dWr_putByte_4 : decode mWr_putByte.2.2.2.1 4 = .ok ((.getfield 15), 3) := by decide +kernel
theorem dWr_putByte_7 : decode mWr_putByte.2.2.2.1 7 = .ok ((.sipush (1200)), 3) := by decide +kernel
theorem dWr_putByte_10 : decode mWr_putByte.2.2.2.1 10 = .ok ((.if_icmp .lt (9)), 3) := by decide +kernel
theorem dWr_putByte_13 : decode mWr_putByte.2.2.2.1 13 = .ok ((.aload_n 0), 1) := by decide +kernel
theorem dWr_putByte_14 : decode mWr_putByte.2.2.2.1 14 = .ok ((.iconst (0)), 1) := by decide +kernel
theorem dWr_putByte_15 : decode mWr_putByte.2.2.2.1 15 = .ok ((.putfield 21), 3) := by decide +kernel
theorem dWr_putByte_18 : decode mWr_putByte.2.2.2.1 18 = .ok (.return_, 1) := by decide +kernel
theorem dWr_putByte_19 : decode mWr_putByte.2.2.2.1 19 = .ok ((.aload_n 0), 1) := by decide +kernel
theorem dWr_putByte_20 : decode mWr_putByte.2.2.2.1 20 = .ok ((.getfield 9), 3) := by decide +kernel
theorem dWr_putByte_23 : decode mWr_putByte.2.2.2.1 23 = .ok ((.getfield 98), 3) := by decide +kernel
theorem dWr_putByte_26 : decode mWr_putByte.2.2.2.1 26 = .ok ((.aload_n 0), 1) := by decide +kernel
theorem dWr_putByte_27 : decode mWr_putByte.2.2.2.1 27 = .ok ((.getfield 9), 3) := by decide +kernel
theorem dWr_putByte_30 : decode mWr_putByte.2.2.2.1 30 = .ok ((.getfield 15), 3) := by decide +kernel
theorem dWr_putByte_33 : decode mWr_putByte.2.2.2.1 33 = .ok ((.iload_n 1), 1) := by decide +kernel
theorem dWr_putByte_34 : decode mWr_putByte.2.2.2.1 34 = .ok (.iastore, 1) := by decide +kernel
theorem dWr_putByte_35 : decode mWr_putByte.2.2.2.1 35 = .ok ((.aload_n 0), 1) := by decide +kernel
theorem dWr_putByte_36 : decode mWr_putByte.2.2.2.1 36 = .ok ((.getfield 9), 3) := by decide +kernel
theorem dWr_putByte_39 : decode mWr_putByte.2.2.2.1 39 = .ok (.dup, 1) := by decide +kernel
theorem dWr_putByte_40 : decode mWr_putByte.2.2.2.1 40 = .ok ((.getfield 15), 3) := by decide +kernel
theorem dWr_putByte_43 : decode mWr_putByte.2.2.2.1 43 = .ok ((.iconst (1)), 1) := by decide +kernel
theorem dWr_putByte_44 : decode mWr_putByte.2.2.2.1 44 = .ok (.iadd, 1) := by decide +kernel
theorem dWr_putByte_45 : decode mWr_putByte.2.2.2.1 45 = .ok ((.putfield 15), 3) := by decide +kernel
theorem dWr_putByte_48 : decode mWr_putByte.2.2.2.1 48 = .ok (.return_, 1) := by decide +kernel
