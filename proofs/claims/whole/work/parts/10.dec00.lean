theorem dRS_init_0 : decode mRS_init.2.2.2.1 0 = .ok ((.aload_n 0), 1) := by decide +kernel
theorem dRS_init_1 : decode mRS_init.2.2.2.1 1 = .ok ((.invokespecial 3), 3) := by decide +kernel
theorem dRS_init_4 : decode mRS_init.2.2.2.1 4 = .ok ((.aload_n 0), 1) := by decide +kernel
theorem dRS_init_5 : decode mRS_init.2.2.2.1 5 = .ok ((.new 9), 3) := by decide +kernel
theorem dRS_init_8 : decode mRS_init.2.2.2.1 8 = .ok (.dup, 1) := by decide +kernel
theorem dRS_init_9 : decode mRS_init.2.2.2.1 9 = .ok ((.invokespecial 11), 3) := by decide +kernel
theorem dRS_init_12 : decode mRS_init.2.2.2.1 12 = .ok ((.putfield 12), 3) := by decide +kernel
theorem dRS_init_15 : decode mRS_init.2.2.2.1 15 = .ok ((.aload_n 0), 1) := by decide +kernel
theorem dRS_init_16 : decode mRS_init.2.2.2.1 16 = .ok ((.new 16), 3) := by decide +kernel
theorem dRS_init_19 : decode mRS_init.2.2.2.1 19 = .ok (.dup, 1) := by decide +kernel
theorem dRS_init_20 : decode mRS_init.2.2.2.1 20 = .ok ((.invokespecial 18), 3) := by decide +kernel
theorem dRS_init_23 : decode mRS_init.2.2.2.1 23 = .ok ((.putfield 19), 3) := by decide +kernel
theorem dRS_init_26 : decode mRS_init.2.2.2.1 26 = .ok ((.aload_n 0), 1) := by decide +kernel
theorem dRS_init_27 : decode mRS_init.2.2.2.1 27 = .ok ((.new 23), 3) := by decide +kernel
theorem dRS_init_30 : decode mRS_init.2.2.2.1 30 = .ok (.dup, 1) := by decide +kernel
theorem dRS_init_31 : decode mRS_init.2.2.2.1 31 = .ok ((.invokespecial 25), 3) := by decide +kernel
theorem dRS_init_34 : decode mRS_init.2.2.2.1 34 = .ok ((.putfield 26), 3) := by decide +kernel
theorem dRS_init_37 : decode mRS_init.2.2.2.1 37 = .ok (.return_, 1) := by decide +kernel
theorem dRS_begin_0 : decode mRS_begin.2.2.2.1 0 = .ok ((.aload_n 0), 1) := by decide +kernel
theorem dRS_begin_1 : decode mRS_begin.2.2.2.1 1 = .ok ((.getfield 19), 3) := by decide +kernel
theorem dRS_begin_4 : decode mRS_begin.2.2.2.1 4 = .ok ((.getfield 30), 3) := by decide +kernel
theorem dRS_begin_7 : decode mRS_begin.2.2.2.1 7 = .ok ((.ifCond .eq (5)), 3) := by decide +kernel
theorem dRS_begin_10 : decode mRS_begin.2.2.2.1 10 = .ok ((.iconst (0)), 1) := by decide +kernel
theorem dRS_begin_11 : decode mRS_begin.2.2.2.1 11 = .ok (.ireturn, 1) := by decide +kernel
theorem dRS_begin_12 : decode mRS_begin.2.2.2.1 12 = .ok ((.aload_n 0), 1) := by decide +kernel
theorem dRS_begin_13 : decode mRS_begin.2.2.2.1 13 = .ok ((.getfield 19), 3) := by decide +kernel
theorem dRS_begin_16 : decode mRS_begin.2.2.2.1 16 = .ok ((.iconst (1)), 1) := by decide +kernel
theorem dRS_begin_17 : decode mRS_begin.2.2.2.1 17 = .ok ((.putfield 30), 3) := by decide +kernel
theorem dRS_begin_20 : decode mRS_begin.2.2.2.1 20 = .ok ((.aload_n 0), 1) := by decide +kernel
theorem dRS_begin_21 : decode mRS_begin.2.2.2.1 21 = .ok ((.getfield 19), 3) := by decide +kernel
theorem dRS_begin_24 : decode mRS_begin.2.2.2.1 24 = .ok ((.iconst (0)), 1) := by decide +kernel
theorem dRS_begin_25 : decode mRS_begin.2.2.2.1 25 = .ok ((.putfield 34), 3) := by decide +kernel
theorem dRS_begin_28 : decode mRS_begin.2.2.2.1 28 = .ok ((.iconst (1)), 1) := by decide +kernel
theorem dRS_begin_29 : decode mRS_begin.2.2.2.1 29 = .ok (.ireturn, 1) := by decide +kernel
theorem dRS_update_0 : decode mRS_update.2.2.2.1 0 = .ok ((.iload_n 3), 1) := by decide +kernel
theorem dRS_update_1 : decode mRS_update.2.2.2.1 1 = .ok ((.iconst (-1)), 1) := by decide +kernel
theorem dRS_update_2 : decode mRS_update.2.2.2.1 2 = .ok ((.if_icmp .lt (9)), 3) := by decide +kernel
theorem dRS_update_5 : decode mRS_update.2.2.2.1 5 = .ok ((.iload_n 3), 1) := by decide +kernel
theorem dRS_update_6 : decode mRS_update.2.2.2.1 6 = .ok ((.ldc 38), 2) := by decide +kernel
theorem dRS_update_8 : decode mRS_update.2.2.2.1 8 = .ok ((.if_icmp .le (5)), 3) := by decide +kernel
theorem dRS_update_11 : decode mRS_update.2.2.2.1 11 = .ok ((.iconst (0)), 1) := by decide +kernel
theorem dRS_update_12 : decode mRS_update.2.2.2.1 12 = .ok (.ireturn, 1) := by decide +kernel
theorem dRS_update_13 : decode mRS_update.2.2.2.1 13 = .ok ((.iload 4), 2) := by decide +kernel
theorem dRS_update_15 : decode mRS_update.2.2.2.1 15 = .ok ((.ifCond .lt (10)), 3) := by decide +kernel
theorem dRS_update_18 : decode mRS_update.2.2.2.1 18 = .ok ((.iload 4), 2) := by decide +kernel
theorem dRS_update_20 : decode mRS_update.2.2.2.1 20 = .ok ((.ldc 38), 2) := by decide +kernel
theorem dRS_update_22 : decode mRS_update.2.2.2.1 22 = .ok ((.if_icmp .le (5)), 3) := by decide +kernel
theorem dRS_update_25 : decode mRS_update.2.2.2.1 25 = .ok ((.iconst (0)), 1) := by decide +kernel
theorem dRS_update_26 : decode mRS_update.2.2.2.1 26 = .ok (.ireturn, 1) := by decide +kernel
theorem dRS_update_27 : decode mRS_update.2.2.2.1 27 = .ok ((.aload_n 0), 1) := by decide +kernel
theorem dRS_update_28 : decode mRS_update.2.2.2.1 28 = .ok ((.getfield 19), 3) := by decide +kernel
theorem dRS_update_31 : decode mRS_update.2.2.2.1 31 = .ok ((.lload_n 1), 1) := by decide +kernel
theorem dRS_update_32 : decode mRS_update.2.2.2.1 32 = .ok ((.invokestatic 39), 3) := by decide +kernel
theorem dRS_update_35 : decode mRS_update.2.2.2.1 35 = .ok ((.iload_n 3), 1) := by decide +kernel
theorem dRS_update_36 : decode mRS_update.2.2.2.1 36 = .ok ((.iload 4), 2) := by decide +kernel
theorem dRS_update_38 : decode mRS_update.2.2.2.1 38 = .ok (.i2l, 1) := by decide +kernel
theorem dRS_update_39 : decode mRS_update.2.2.2.1 39 = .ok ((.invokevirtual 45), 3) := by decide +kernel
theorem dRS_update_42 : decode mRS_update.2.2.2.1 42 = .ok (.ireturn, 1) := by decide +kernel
theorem dRS_link_0 : decode mRS_link.2.2.2.1 0 = .ok ((.lload_n 1), 1) := by decide +kernel
theorem dRS_link_1 : decode mRS_link.2.2.2.1 1 = .ok ((.invokestatic 39), 3) := by decide +kernel
theorem dRS_link_4 : decode mRS_link.2.2.2.1 4 = .ok ((.lstore 5), 2) := by decide +kernel
theorem dRS_link_6 : decode mRS_link.2.2.2.1 6 = .ok ((.lload_n 3), 1) := by decide +kernel
theorem dRS_link_7 : decode mRS_link.2.2.2.1 7 = .ok ((.invokestatic 39), 3) := by decide +kernel
theorem dRS_link_10 : decode mRS_link.2.2.2.1 10 = .ok ((.lstore 7), 2) := by decide +kernel
theorem dRS_link_12 : decode mRS_link.2.2.2.1 12 = .ok ((.lload 7), 2) := by decide +kernel
theorem dRS_link_14 : decode mRS_link.2.2.2.1 14 = .ok ((.lconst 0), 1) := by decide +kernel
theorem dRS_link_15 : decode mRS_link.2.2.2.1 15 = .ok (.lcmp, 1) := by decide +kernel
theorem dRS_link_16 : decode mRS_link.2.2.2.1 16 = .ok ((.ifCond .eq (11)), 3) := by decide +kernel
theorem dRS_link_19 : decode mRS_link.2.2.2.1 19 = .ok ((.lload 7), 2) := by decide +kernel
theorem dRS_link_21 : decode mRS_link.2.2.2.1 21 = .ok ((.lload 5), 2) := by decide +kernel
theorem dRS_link_23 : decode mRS_link.2.2.2.1 23 = .ok (.lcmp, 1) := by decide +kernel
theorem dRS_link_24 : decode mRS_link.2.2.2.1 24 = .ok ((.ifCond .ne (5)), 3) := by decide +kernel
theorem dRS_link_27 : decode mRS_link.2.2.2.1 27 = .ok ((.iconst (0)), 1) := by decide +kernel
theorem dRS_link_28 : decode mRS_link.2.2.2.1 28 = .ok (.ireturn, 1) := by decide +kernel
theorem dRS_link_29 : decode mRS_link.2.2.2.1 29 = .ok ((.aload_n 0), 1) := by decide +kernel
theorem dRS_link_30 : decode mRS_link.2.2.2.1 30 = .ok ((.getfield 19), 3) := by decide +kernel
theorem dRS_link_33 : decode mRS_link.2.2.2.1 33 = .ok ((.lload 5), 2) := by decide +kernel
theorem dRS_link_35 : decode mRS_link.2.2.2.1 35 = .ok ((.iconst (-1)), 1) := by decide +kernel
theorem dRS_link_36 : decode mRS_link.2.2.2.1 36 = .ok ((.lload 7), 2) := by decide +kernel
theorem dRS_link_38 : decode mRS_link.2.2.2.1 38 = .ok (.lneg, 1) := by decide +kernel
theorem dRS_link_39 : decode mRS_link.2.2.2.1 39 = .ok ((.invokevirtual 45), 3) := by decide +kernel
theorem dRS_link_42 : decode mRS_link.2.2.2.1 42 = .ok (.ireturn, 1) := by decide +kernel
theorem dRS_commit_0 : decode mRS_commit.2.2.2.1 0 = .ok ((.aload_n 0), 1) := by decide +kernel
theorem dRS_commit_1 : decode mRS_commit.2.2.2.1 1 = .ok ((.getfield 19), 3) := by decide +kernel
theorem dRS_commit_4 : decode mRS_commit.2.2.2.1 4 = .ok ((.getfield 30), 3) := by decide +kernel
theorem dRS_commit_7 : decode mRS_commit.2.2.2.1 7 = .ok ((.ifCond .ne (5)), 3) := by decide +kernel
theorem dRS_commit_10 : decode mRS_commit.2.2.2.1 10 = .ok ((.iconst (-1)), 1) := by decide +kernel
theorem dRS_commit_11 : decode mRS_commit.2.2.2.1 11 = .ok (.ireturn, 1) := by decide +kernel
theorem dRS_commit_12 : decode mRS_commit.2.2.2.1 12 = .ok ((.aload_n 0), 1) := by decide +kernel
theorem dRS_commit_13 : decode mRS_commit.2.2.2.1 13 = .ok ((.getfield 12), 3) := by decide +kernel
theorem dRS_commit_16 : decode mRS_commit.2.2.2.1 16 = .ok ((.invokevirtual 49), 3) := by decide +kernel
theorem dRS_commit_19 : decode mRS_commit.2.2.2.1 19 = .ok ((.ifCond .eq (6)), 3) := by decide +kernel
theorem dRS_commit_22 : decode mRS_commit.2.2.2.1 22 = .ok ((.bipush (-2)), 2) := by decide +kernel
theorem dRS_commit_24 : decode mRS_commit.2.2.2.1 24 = .ok (.ireturn, 1) := by decide +kernel
theorem dRS_commit_25 : decode mRS_commit.2.2.2.1 25 = .ok ((.aload_n 0), 1) := by decide +kernel
theorem dRS_commit_26 : decode mRS_commit.2.2.2.1 26 = .ok ((.getfield 19), 3) := by decide +kernel
theorem dRS_commit_29 : decode mRS_commit.2.2.2.1 29 = .ok ((.iconst (0)), 1) := by decide +kernel
theorem dRS_commit_30 : decode mRS_commit.2.2.2.1 30 = .ok ((.putfield 30), 3) := by decide +kernel
theorem dRS_commit_33 : decode mRS_commit.2.2.2.1 33 = .ok ((.aload_n 0), 1) := by decide +kernel
theorem dRS_commit_34 : decode mRS_commit.2.2.2.1 34 = .ok ((.getfield 19), 3) := by decide +kernel
theorem dRS_commit_37 : decode mRS_commit.2.2.2.1 37 = .ok ((.getfield 34), 3) := by decide +kernel
theorem dRS_commit_40 : decode mRS_commit.2.2.2.1 40 = .ok ((.ifCond .ne (5)), 3) := by decide +kernel
theorem dRS_commit_43 : decode mRS_commit.2.2.2.1 43 = .ok ((.iconst (0)), 1) := by decide +kernel
theorem dRS_commit_44 : decode mRS_commit.2.2.2.1 44 = .ok (.ireturn, 1) := by decide +kernel
theorem dRS_commit_45 : decode mRS_commit.2.2.2.1 45 = .ok ((.aload_n 0), 1) := by decide +kernel
theorem dRS_commit_46 : decode mRS_commit.2.2.2.1 46 = .ok ((.invokevirtual 53), 3) := by decide +kernel
theorem dRS_commit_49 : decode mRS_commit.2.2.2.1 49 = .ok ((.istore_n 1), 1) := by decide +kernel
theorem dRS_commit_50 : decode mRS_commit.2.2.2.1 50 = .ok ((.iload_n 1), 1) := by decide +kernel
theorem dRS_commit_51 : decode mRS_commit.2.2.2.1 51 = .ok ((.ifCond .lt (9)), 3) := by decide +kernel
theorem dRS_commit_54 : decode mRS_commit.2.2.2.1 54 = .ok ((.iload_n 1), 1) := by decide +kernel
theorem dRS_commit_55 : decode mRS_commit.2.2.2.1 55 = .ok ((.iconst (1)), 1) := by decide +kernel
theorem dRS_commit_56 : decode mRS_commit.2.2.2.1 56 = .ok ((.invokestatic 57), 3) := by decide +kernel
theorem dRS_commit_59 : decode mRS_commit.2.2.2.1 59 = .ok (.ireturn, 1) := by decide +kernel
theorem dRS_commit_60 : decode mRS_commit.2.2.2.1 60 = .ok ((.aload_n 0), 1) := by decide +kernel
theorem dRS_commit_61 : decode mRS_commit.2.2.2.1 61 = .ok ((.getfield 12), 3) := by decide +kernel
theorem dRS_commit_64 : decode mRS_commit.2.2.2.1 64 = .ok ((.aload_n 0), 1) := by decide +kernel
theorem dRS_commit_65 : decode mRS_commit.2.2.2.1 65 = .ok ((.getfield 19), 3) := by decide +kernel
theorem dRS_commit_68 : decode mRS_commit.2.2.2.1 68 = .ok ((.invokevirtual 61), 3) := by decide +kernel
theorem dRS_commit_71 : decode mRS_commit.2.2.2.1 71 = .ok ((.ifCond .ne (6)), 3) := by decide +kernel
theorem dRS_commit_74 : decode mRS_commit.2.2.2.1 74 = .ok ((.bipush (-3)), 2) := by decide +kernel
theorem dRS_commit_76 : decode mRS_commit.2.2.2.1 76 = .ok (.ireturn, 1) := by decide +kernel
theorem dRS_commit_77 : decode mRS_commit.2.2.2.1 77 = .ok ((.aload_n 0), 1) := by decide +kernel
theorem dRS_commit_78 : decode mRS_commit.2.2.2.1 78 = .ok ((.invokevirtual 65), 3) := by decide +kernel
theorem dRS_commit_81 : decode mRS_commit.2.2.2.1 81 = .ok ((.istore_n 2), 1) := by decide +kernel
theorem dRS_commit_82 : decode mRS_commit.2.2.2.1 82 = .ok ((.iload_n 2), 1) := by decide +kernel
theorem dRS_commit_83 : decode mRS_commit.2.2.2.1 83 = .ok ((.ifCond .lt (9)), 3) := by decide +kernel
theorem dRS_commit_86 : decode mRS_commit.2.2.2.1 86 = .ok ((.iload_n 2), 1) := by decide +kernel
theorem dRS_commit_87 : decode mRS_commit.2.2.2.1 87 = .ok ((.iconst (2)), 1) := by decide +kernel
theorem dRS_commit_88 : decode mRS_commit.2.2.2.1 88 = .ok ((.invokestatic 57), 3) := by decide +kernel
theorem dRS_commit_91 : decode mRS_commit.2.2.2.1 91 = .ok (.ireturn, 1) := by decide +kernel
theorem dRS_commit_92 : decode mRS_commit.2.2.2.1 92 = .ok ((.aload_n 0), 1) := by decide +kernel
theorem dRS_commit_93 : decode mRS_commit.2.2.2.1 93 = .ok ((.getfield 12), 3) := by decide +kernel
theorem dRS_commit_96 : decode mRS_commit.2.2.2.1 96 = .ok ((.invokevirtual 68), 3) := by decide +kernel
theorem dRS_commit_99 : decode mRS_commit.2.2.2.1 99 = .ok ((.ifCond .ne (6)), 3) := by decide +kernel
theorem dRS_commit_102 : decode mRS_commit.2.2.2.1 102 = .ok ((.bipush (-3)), 2) := by decide +kernel
theorem dRS_commit_104 : decode mRS_commit.2.2.2.1 104 = .ok (.ireturn, 1) := by decide +kernel
theorem dRS_commit_105 : decode mRS_commit.2.2.2.1 105 = .ok ((.aload_n 0), 1) := by decide +kernel
theorem dRS_commit_106 : decode mRS_commit.2.2.2.1 106 = .ok ((.getfield 12), 3) := by decide +kernel
theorem dRS_commit_109 : decode mRS_commit.2.2.2.1 109 = .ok ((.invokevirtual 71), 3) := by decide +kernel
theorem dRS_commit_112 : decode mRS_commit.2.2.2.1 112 = .ok ((.istore_n 3), 1) := by decide +kernel
theorem dRS_commit_113 : decode mRS_commit.2.2.2.1 113 = .ok ((.aload_n 0), 1) := by decide +kernel
theorem dRS_commit_114 : decode mRS_commit.2.2.2.1 114 = .ok ((.getfield 12), 3) := by decide +kernel
theorem dRS_commit_117 : decode mRS_commit.2.2.2.1 117 = .ok ((.invokevirtual 74), 3) := by decide +kernel
theorem dRS_commit_120 : decode mRS_commit.2.2.2.1 120 = .ok ((.iload_n 3), 1) := by decide +kernel
theorem dRS_commit_121 : decode mRS_commit.2.2.2.1 121 = .ok (.ireturn, 1) := by decide +kernel
theorem dRS_abort_0 : decode mRS_abort.2.2.2.1 0 = .ok ((.aload_n 0), 1) := by decide +kernel
theorem dRS_abort_1 : decode mRS_abort.2.2.2.1 1 = .ok ((.getfield 19), 3) := by decide +kernel
theorem dRS_abort_4 : decode mRS_abort.2.2.2.1 4 = .ok ((.getfield 30), 3) := by decide +kernel
theorem dRS_abort_7 : decode mRS_abort.2.2.2.1 7 = .ok ((.ifCond .ne (5)), 3) := by decide +kernel
theorem dRS_abort_10 : decode mRS_abort.2.2.2.1 10 = .ok ((.iconst (-1)), 1) := by decide +kernel
theorem dRS_abort_11 : decode mRS_abort.2.2.2.1 11 = .ok (.ireturn, 1) := by decide +kernel
theorem dRS_abort_12 : decode mRS_abort.2.2.2.1 12 = .ok ((.aload_n 0), 1) := by decide +kernel
theorem dRS_abort_13 : decode mRS_abort.2.2.2.1 13 = .ok ((.getfield 19), 3) := by decide +kernel
theorem dRS_abort_16 : decode mRS_abort.2.2.2.1 16 = .ok ((.iconst (0)), 1) := by decide +kernel
theorem dRS_abort_17 : decode mRS_abort.2.2.2.1 17 = .ok ((.putfield 30), 3) := by decide +kernel
theorem dRS_abort_20 : decode mRS_abort.2.2.2.1 20 = .ok ((.aload_n 0), 1) := by decide +kernel
theorem dRS_abort_21 : decode mRS_abort.2.2.2.1 21 = .ok ((.getfield 19), 3) := by decide +kernel
theorem dRS_abort_24 : decode mRS_abort.2.2.2.1 24 = .ok ((.getfield 34), 3) := by decide +kernel
theorem dRS_abort_27 : decode mRS_abort.2.2.2.1 27 = .ok (.ireturn, 1) := by decide +kernel
theorem dRS_get_0 : decode mRS_get.2.2.2.1 0 = .ok ((.aload_n 0), 1) := by decide +kernel
theorem dRS_get_1 : decode mRS_get.2.2.2.1 1 = .ok ((.getfield 12), 3) := by decide +kernel
theorem dRS_get_4 : decode mRS_get.2.2.2.1 4 = .ok ((.invokevirtual 49), 3) := by decide +kernel
theorem dRS_get_7 : decode mRS_get.2.2.2.1 7 = .ok ((.ifCond .eq (6)), 3) := by decide +kernel
theorem dRS_get_10 : decode mRS_get.2.2.2.1 10 = .ok ((.bipush (-2)), 2) := by decide +kernel
theorem dRS_get_12 : decode mRS_get.2.2.2.1 12 = .ok (.ireturn, 1) := by decide +kernel
theorem dRS_get_13 : decode mRS_get.2.2.2.1 13 = .ok ((.aload_n 0), 1) := by decide +kernel
theorem dRS_get_14 : decode mRS_get.2.2.2.1 14 = .ok ((.getfield 12), 3) := by decide +kernel
theorem dRS_get_17 : decode mRS_get.2.2.2.1 17 = .ok ((.lload_n 1), 1) := by decide +kernel
theorem dRS_get_18 : decode mRS_get.2.2.2.1 18 = .ok ((.invokestatic 39), 3) := by decide +kernel
theorem dRS_get_21 : decode mRS_get.2.2.2.1 21 = .ok ((.invokevirtual 77), 3) := by decide +kernel
theorem dRS_get_24 : decode mRS_get.2.2.2.1 24 = .ok ((.invokestatic 80), 3) := by decide +kernel
theorem dRS_get_27 : decode mRS_get.2.2.2.1 27 = .ok (.ireturn, 1) := by decide +kernel
theorem dRS_target_0 : decode mRS_target.2.2.2.1 0 = .ok ((.aload_n 0), 1) := by decide +kernel
theorem dRS_target_1 : decode mRS_target.2.2.2.1 1 = .ok ((.getfield 12), 3) := by decide +kernel
theorem dRS_target_4 : decode mRS_target.2.2.2.1 4 = .ok ((.invokevirtual 49), 3) := by decide +kernel
theorem dRS_target_7 : decode mRS_target.2.2.2.1 7 = .ok ((.ifCond .eq (7)), 3) := by decide +kernel
theorem dRS_target_10 : decode mRS_target.2.2.2.1 10 = .ok ((.ldc2_w 84), 3) := by decide +kernel
theorem dRS_target_13 : decode mRS_target.2.2.2.1 13 = .ok (.lreturn, 1) := by decide +kernel
theorem dRS_target_14 : decode mRS_target.2.2.2.1 14 = .ok ((.aload_n 0), 1) := by decide +kernel
theorem dRS_target_15 : decode mRS_target.2.2.2.1 15 = .ok ((.getfield 12), 3) := by decide +kernel
theorem dRS_target_18 : decode mRS_target.2.2.2.1 18 = .ok ((.lload_n 1), 1) := by decide +kernel
theorem dRS_target_19 : decode mRS_target.2.2.2.1 19 = .ok ((.invokestatic 39), 3) := by decide +kernel
theorem dRS_target_22 : decode mRS_target.2.2.2.1 22 = .ok ((.invokevirtual 77), 3) := by decide +kernel
theorem dRS_target_25 : decode mRS_target.2.2.2.1 25 = .ok ((.lstore_n 3), 1) := by decide +kernel
theorem dRS_target_26 : decode mRS_target.2.2.2.1 26 = .ok ((.lload_n 3), 1) := by decide +kernel
theorem dRS_target_27 : decode mRS_target.2.2.2.1 27 = .ok ((.lconst 0), 1) := by decide +kernel
theorem dRS_target_28 : decode mRS_target.2.2.2.1 28 = .ok (.lcmp, 1) := by decide +kernel
theorem dRS_target_29 : decode mRS_target.2.2.2.1 29 = .ok ((.ifCond .ge (11)), 3) := by decide +kernel
theorem dRS_target_32 : decode mRS_target.2.2.2.1 32 = .ok ((.lload_n 3), 1) := by decide +kernel
theorem dRS_target_33 : decode mRS_target.2.2.2.1 33 = .ok (.lneg, 1) := by decide +kernel
theorem dRS_target_34 : decode mRS_target.2.2.2.1 34 = .ok ((.invokestatic 86), 3) := by decide +kernel
theorem dRS_target_37 : decode mRS_target.2.2.2.1 37 = .ok ((.goto (4)), 3) := by decide +kernel
theorem dRS_target_40 : decode mRS_target.2.2.2.1 40 = .ok ((.lconst 0), 1) := by decide +kernel
theorem dRS_target_41 : decode mRS_target.2.2.2.1 41 = .ok (.lreturn, 1) := by decide +kernel
theorem dRS_resolve_0 : decode mRS_resolve.2.2.2.1 0 = .ok ((.aload_n 0), 1) := by decide +kernel
theorem dRS_resolve_1 : decode mRS_resolve.2.2.2.1 1 = .ok ((.getfield 12), 3) := by decide +kernel
theorem dRS_resolve_4 : decode mRS_resolve.2.2.2.1 4 = .ok ((.invokevirtual 49), 3) := by decide +kernel
theorem dRS_resolve_7 : decode mRS_resolve.2.2.2.1 7 = .ok ((.ifCond .eq (6)), 3) := by decide +kernel
theorem dRS_resolve_10 : decode mRS_resolve.2.2.2.1 10 = .ok ((.bipush (-2)), 2) := by decide +kernel
theorem dRS_resolve_12 : decode mRS_resolve.2.2.2.1 12 = .ok (.ireturn, 1) := by decide +kernel
theorem dRS_resolve_13 : decode mRS_resolve.2.2.2.1 13 = .ok ((.aload_n 0), 1) := by decide +kernel
theorem dRS_resolve_14 : decode mRS_resolve.2.2.2.1 14 = .ok ((.getfield 12), 3) := by decide +kernel
theorem dRS_resolve_17 : decode mRS_resolve.2.2.2.1 17 = .ok ((.lload_n 1), 1) := by decide +kernel
theorem dRS_resolve_18 : decode mRS_resolve.2.2.2.1 18 = .ok ((.invokestatic 39), 3) := by decide +kernel
theorem dRS_resolve_21 : decode mRS_resolve.2.2.2.1 21 = .ok ((.invokevirtual 77), 3) := by decide +kernel
theorem dRS_resolve_24 : decode mRS_resolve.2.2.2.1 24 = .ok ((.lstore_n 3), 1) := by decide +kernel
theorem dRS_resolve_25 : decode mRS_resolve.2.2.2.1 25 = .ok ((.iconst (0)), 1) := by decide +kernel
theorem dRS_resolve_26 : decode mRS_resolve.2.2.2.1 26 = .ok ((.istore 5), 2) := by decide +kernel
theorem dRS_resolve_28 : decode mRS_resolve.2.2.2.1 28 = .ok ((.iload 5), 2) := by decide +kernel
theorem dRS_resolve_30 : decode mRS_resolve.2.2.2.1 30 = .ok ((.iconst (5)), 1) := by decide +kernel
theorem dRS_resolve_31 : decode mRS_resolve.2.2.2.1 31 = .ok ((.if_icmp .ge (25)), 3) := by decide +kernel
theorem dRS_resolve_34 : decode mRS_resolve.2.2.2.1 34 = .ok ((.lload_n 3), 1) := by decide +kernel
theorem dRS_resolve_35 : decode mRS_resolve.2.2.2.1 35 = .ok ((.lconst 0), 1) := by decide +kernel
theorem dRS_resolve_36 : decode mRS_resolve.2.2.2.1 36 = .ok (.lcmp, 1) := by decide +kernel
theorem dRS_resolve_37 : decode mRS_resolve.2.2.2.1 37 = .ok ((.ifCond .ge (19)), 3) := by decide +kernel
theorem dRS_resolve_40 : decode mRS_resolve.2.2.2.1 40 = .ok ((.aload_n 0), 1) := by decide +kernel
theorem dRS_resolve_41 : decode mRS_resolve.2.2.2.1 41 = .ok ((.getfield 12), 3) := by decide +kernel
theorem dRS_resolve_44 : decode mRS_resolve.2.2.2.1 44 = .ok ((.lload_n 3), 1) := by decide +kernel
theorem dRS_resolve_45 : decode mRS_resolve.2.2.2.1 45 = .ok (.lneg, 1) := by decide +kernel
theorem dRS_resolve_46 : decode mRS_resolve.2.2.2.1 46 = .ok ((.invokevirtual 77), 3) := by decide +kernel
theorem dRS_resolve_49 : decode mRS_resolve.2.2.2.1 49 = .ok ((.lstore_n 3), 1) := by decide +kernel
theorem dRS_resolve_50 : decode mRS_resolve.2.2.2.1 50 = .ok ((.iinc 5 (1)), 3) := by decide +kernel
theorem dRS_resolve_53 : decode mRS_resolve.2.2.2.1 53 = .ok ((.goto (-25)), 3) := by decide +kernel
theorem dRS_resolve_56 : decode mRS_resolve.2.2.2.1 56 = .ok ((.lload_n 3), 1) := by decide +kernel
theorem dRS_resolve_57 : decode mRS_resolve.2.2.2.1 57 = .ok ((.invokestatic 80), 3) := by decide +kernel
theorem dRS_resolve_60 : decode mRS_resolve.2.2.2.1 60 = .ok (.ireturn, 1) := by decide +kernel
theorem dRS_scan_0 : decode mRS_scan.2.2.2.1 0 = .ok ((.aload_n 0), 1) := by decide +kernel
theorem dRS_scan_1 : decode mRS_scan.2.2.2.1 1 = .ok ((.getfield 12), 3) := by decide +kernel
theorem dRS_scan_4 : decode mRS_scan.2.2.2.1 4 = .ok ((.invokevirtual 49), 3) := by decide +kernel
theorem dRS_scan_7 : decode mRS_scan.2.2.2.1 7 = .ok ((.ifCond .eq (7)), 3) := by decide +kernel
theorem dRS_scan_10 : decode mRS_scan.2.2.2.1 10 = .ok ((.ldc2_w 84), 3) := by decide +kernel
theorem dRS_scan_13 : decode mRS_scan.2.2.2.1 13 = .ok (.lreturn, 1) := by decide +kernel
theorem dRS_scan_14 : decode mRS_scan.2.2.2.1 14 = .ok ((.lload_n 1), 1) := by decide +kernel
theorem dRS_scan_15 : decode mRS_scan.2.2.2.1 15 = .ok ((.invokestatic 89), 3) := by decide +kernel
theorem dRS_scan_18 : decode mRS_scan.2.2.2.1 18 = .ok ((.lstore 4), 2) := by decide +kernel
theorem dRS_scan_20 : decode mRS_scan.2.2.2.1 20 = .ok ((.aload_n 0), 1) := by decide +kernel
theorem dRS_scan_21 : decode mRS_scan.2.2.2.1 21 = .ok ((.getfield 12), 3) := by decide +kernel
theorem dRS_scan_24 : decode mRS_scan.2.2.2.1 24 = .ok ((.iconst (0)), 1) := by decide +kernel
theorem dRS_scan_25 : decode mRS_scan.2.2.2.1 25 = .ok ((.aload_n 0), 1) := by decide +kernel
theorem dRS_scan_26 : decode mRS_scan.2.2.2.1 26 = .ok ((.getfield 12), 3) := by decide +kernel
theorem dRS_scan_29 : decode mRS_scan.2.2.2.1 29 = .ok ((.getfield 92), 3) := by decide +kernel
theorem dRS_scan_32 : decode mRS_scan.2.2.2.1 32 = .ok ((.invokevirtual 95), 3) := by decide +kernel
theorem dRS_scan_35 : decode mRS_scan.2.2.2.1 35 = .ok ((.astore 6), 2) := by decide +kernel
theorem dRS_scan_37 : decode mRS_scan.2.2.2.1 37 = .ok ((.iconst (0)), 1) := by decide +kernel
theorem dRS_scan_38 : decode mRS_scan.2.2.2.1 38 = .ok ((.istore 7), 2) := by decide +kernel
theorem dRS_scan_40 : decode mRS_scan.2.2.2.1 40 = .ok ((.iconst (0)), 1) := by decide +kernel
theorem dRS_scan_41 : decode mRS_scan.2.2.2.1 41 = .ok ((.istore 8), 2) := by decide +kernel
theorem dRS_scan_43 : decode mRS_scan.2.2.2.1 43 = .ok ((.iload 8), 2) := by decide +kernel
theorem dRS_scan_45 : decode mRS_scan.2.2.2.1 45 = .ok ((.sipush (361)), 3) := by decide +kernel
theorem dRS_scan_48 : decode mRS_scan.2.2.2.1 48 = .ok ((.if_icmp .ge (61)), 3) := by decide +kernel
theorem dRS_scan_51 : decode mRS_scan.2.2.2.1 51 = .ok ((.aload 6), 2) := by decide +kernel
theorem dRS_scan_53 : decode mRS_scan.2.2.2.1 53 = .ok ((.invokevirtual 99), 3) := by decide +kernel
theorem dRS_scan_56 : decode mRS_scan.2.2.2.1 56 = .ok ((.ifCond .eq (53)), 3) := by decide +kernel
theorem dRS_scan_59 : decode mRS_scan.2.2.2.1 59 = .ok ((.aload 6), 2) := by decide +kernel
theorem dRS_scan_61 : decode mRS_scan.2.2.2.1 61 = .ok ((.getfield 104), 3) := by decide +kernel
theorem dRS_scan_64 : decode mRS_scan.2.2.2.1 64 = .ok ((.lconst 0), 1) := by decide +kernel
theorem dRS_scan_65 : decode mRS_scan.2.2.2.1 65 = .ok (.lcmp, 1) := by decide +kernel
theorem dRS_scan_66 : decode mRS_scan.2.2.2.1 66 = .ok ((.ifCond .eq (37)), 3) := by decide +kernel
theorem dRS_scan_69 : decode mRS_scan.2.2.2.1 69 = .ok ((.aload 6), 2) := by decide +kernel
theorem dRS_scan_71 : decode mRS_scan.2.2.2.1 71 = .ok ((.getfield 108), 3) := by decide +kernel
theorem dRS_scan_74 : decode mRS_scan.2.2.2.1 74 = .ok ((.lload 4), 2) := by decide +kernel
theorem dRS_scan_76 : decode mRS_scan.2.2.2.1 76 = .ok ((.invokestatic 111), 3) := by decide +kernel
theorem dRS_scan_79 : decode mRS_scan.2.2.2.1 79 = .ok ((.ifCond .ne (6)), 3) := by decide +kernel
theorem dRS_scan_82 : decode mRS_scan.2.2.2.1 82 = .ok ((.goto (21)), 3) := by decide +kernel
theorem dRS_scan_85 : decode mRS_scan.2.2.2.1 85 = .ok ((.iload 7), 2) := by decide +kernel
theorem dRS_scan_87 : decode mRS_scan.2.2.2.1 87 = .ok ((.iload_n 3), 1) := by decide +kernel
theorem dRS_scan_88 : decode mRS_scan.2.2.2.1 88 = .ok ((.if_icmp .ne (12)), 3) := by decide +kernel
theorem dRS_scan_91 : decode mRS_scan.2.2.2.1 91 = .ok ((.aload 6), 2) := by decide +kernel
theorem dRS_scan_93 : decode mRS_scan.2.2.2.1 93 = .ok ((.getfield 108), 3) := by decide +kernel
theorem dRS_scan_96 : decode mRS_scan.2.2.2.1 96 = .ok ((.invokestatic 86), 3) := by decide +kernel
theorem dRS_scan_99 : decode mRS_scan.2.2.2.1 99 = .ok (.lreturn, 1) := by decide +kernel
theorem dRS_scan_100 : decode mRS_scan.2.2.2.1 100 = .ok ((.iinc 7 (1)), 3) := by decide +kernel
theorem dRS_scan_103 : decode mRS_scan.2.2.2.1 103 = .ok ((.iinc 8 (1)), 3) := by decide +kernel
theorem dRS_scan_106 : decode mRS_scan.2.2.2.1 106 = .ok ((.goto (-63)), 3) := by decide +kernel
theorem dRS_scan_109 : decode mRS_scan.2.2.2.1 109 = .ok ((.lconst 0), 1) := by decide +kernel
theorem dRS_scan_110 : decode mRS_scan.2.2.2.1 110 = .ok (.lreturn, 1) := by decide +kernel
theorem dRS_log_0 : decode mRS_log.2.2.2.1 0 = .ok ((.aload_n 0), 1) := by decide +kernel
theorem dRS_log_1 : decode mRS_log.2.2.2.1 1 = .ok ((.getfield 12), 3) := by decide +kernel
theorem dRS_log_4 : decode mRS_log.2.2.2.1 4 = .ok ((.invokevirtual 49), 3) := by decide +kernel
theorem dRS_log_7 : decode mRS_log.2.2.2.1 7 = .ok ((.ifCond .eq (6)), 3) := by decide +kernel
theorem dRS_log_10 : decode mRS_log.2.2.2.1 10 = .ok ((.bipush (-2)), 2) := by decide +kernel
theorem dRS_log_12 : decode mRS_log.2.2.2.1 12 = .ok (.ireturn, 1) := by decide +kernel
theorem dRS_log_13 : decode mRS_log.2.2.2.1 13 = .ok ((.lload_n 1), 1) := by decide +kernel
theorem dRS_log_14 : decode mRS_log.2.2.2.1 14 = .ok ((.invokestatic 39), 3) := by decide +kernel
theorem dRS_log_17 : decode mRS_log.2.2.2.1 17 = .ok ((.lstore 5), 2) := by decide +kernel
theorem dRS_log_19 : decode mRS_log.2.2.2.1 19 = .ok ((.aload_n 0), 1) := by decide +kernel
theorem dRS_log_20 : decode mRS_log.2.2.2.1 20 = .ok ((.getfield 12), 3) := by decide +kernel
theorem dRS_log_23 : decode mRS_log.2.2.2.1 23 = .ok ((.iconst (0)), 1) := by decide +kernel
theorem dRS_log_24 : decode mRS_log.2.2.2.1 24 = .ok ((.aload_n 0), 1) := by decide +kernel
theorem dRS_log_25 : decode mRS_log.2.2.2.1 25 = .ok ((.getfield 12), 3) := by decide +kernel
theorem dRS_log_28 : decode mRS_log.2.2.2.1 28 = .ok ((.getfield 92), 3) := by decide +kernel
theorem dRS_log_31 : decode mRS_log.2.2.2.1 31 = .ok ((.invokevirtual 115), 3) := by decide +kernel
theorem dRS_log_34 : decode mRS_log.2.2.2.1 34 = .ok ((.astore 7), 2) := by decide +kernel
theorem dRS_log_36 : decode mRS_log.2.2.2.1 36 = .ok ((.iconst (0)), 1) := by decide +kernel
theorem dRS_log_37 : decode mRS_log.2.2.2.1 37 = .ok ((.istore 8), 2) := by decide +kernel
theorem dRS_log_39 : decode mRS_log.2.2.2.1 39 = .ok ((.iconst (0)), 1) := by decide +kernel
theorem dRS_log_40 : decode mRS_log.2.2.2.1 40 = .ok ((.istore 9), 2) := by decide +kernel
theorem dRS_log_42 : decode mRS_log.2.2.2.1 42 = .ok ((.iload 9), 2) := by decide +kernel
theorem dRS_log_44 : decode mRS_log.2.2.2.1 44 = .ok ((.sipush (361)), 3) := by decide +kernel
theorem dRS_log_47 : decode mRS_log.2.2.2.1 47 = .ok ((.if_icmp .ge (48)), 3) := by decide +kernel
theorem dRS_log_50 : decode mRS_log.2.2.2.1 50 = .ok ((.aload 7), 2) := by decide +kernel
theorem dRS_log_52 : decode mRS_log.2.2.2.1 52 = .ok ((.invokevirtual 118), 3) := by decide +kernel
theorem dRS_log_55 : decode mRS_log.2.2.2.1 55 = .ok ((.ifCond .eq (40)), 3) := by decide +kernel
theorem dRS_log_58 : decode mRS_log.2.2.2.1 58 = .ok ((.aload 7), 2) := by decide +kernel
theorem dRS_log_60 : decode mRS_log.2.2.2.1 60 = .ok ((.getfield 108), 3) := by decide +kernel
theorem dRS_log_63 : decode mRS_log.2.2.2.1 63 = .ok ((.lload 5), 2) := by decide +kernel
theorem dRS_log_65 : decode mRS_log.2.2.2.1 65 = .ok (.lcmp, 1) := by decide +kernel
theorem dRS_log_66 : decode mRS_log.2.2.2.1 66 = .ok ((.ifCond .eq (6)), 3) := by decide +kernel
theorem dRS_log_69 : decode mRS_log.2.2.2.1 69 = .ok ((.goto (20)), 3) := by decide +kernel
theorem dRS_log_72 : decode mRS_log.2.2.2.1 72 = .ok ((.iload 8), 2) := by decide +kernel
theorem dRS_log_74 : decode mRS_log.2.2.2.1 74 = .ok ((.iload_n 3), 1) := by decide +kernel
theorem dRS_log_75 : decode mRS_log.2.2.2.1 75 = .ok ((.if_icmp .ne (11)), 3) := by decide +kernel
theorem dRS_log_78 : decode mRS_log.2.2.2.1 78 = .ok ((.aload 7), 2) := by decide +kernel
theorem dRS_log_80 : decode mRS_log.2.2.2.1 80 = .ok ((.iload 4), 2) := by decide +kernel
theorem dRS_log_82 : decode mRS_log.2.2.2.1 82 = .ok ((.invokestatic 121), 3) := by decide +kernel
theorem dRS_log_85 : decode mRS_log.2.2.2.1 85 = .ok (.ireturn, 1) := by decide +kernel
theorem dRS_log_86 : decode mRS_log.2.2.2.1 86 = .ok ((.iinc 8 (1)), 3) := by decide +kernel
theorem dRS_log_89 : decode mRS_log.2.2.2.1 89 = .ok ((.iinc 9 (1)), 3) := by decide +kernel
theorem dRS_log_92 : decode mRS_log.2.2.2.1 92 = .ok ((.goto (-50)), 3) := by decide +kernel
theorem dRS_log_95 : decode mRS_log.2.2.2.1 95 = .ok ((.iconst (-1)), 1) := by decide +kernel
theorem dRS_log_96 : decode mRS_log.2.2.2.1 96 = .ok (.ireturn, 1) := by decide +kernel
theorem dRS_compact_0 : decode mRS_compact.2.2.2.1 0 = .ok ((.aload_n 0), 1) := by decide +kernel
theorem dRS_compact_1 : decode mRS_compact.2.2.2.1 1 = .ok ((.getfield 12), 3) := by decide +kernel
theorem dRS_compact_4 : decode mRS_compact.2.2.2.1 4 = .ok ((.invokevirtual 49), 3) := by decide +kernel
theorem dRS_compact_7 : decode mRS_compact.2.2.2.1 7 = .ok ((.ifCond .eq (6)), 3) := by decide +kernel
theorem dRS_compact_10 : decode mRS_compact.2.2.2.1 10 = .ok ((.bipush (-2)), 2) := by decide +kernel
theorem dRS_compact_12 : decode mRS_compact.2.2.2.1 12 = .ok (.ireturn, 1) := by decide +kernel
theorem dRS_compact_13 : decode mRS_compact.2.2.2.1 13 = .ok ((.aload_n 0), 1) := by decide +kernel
theorem dRS_compact_14 : decode mRS_compact.2.2.2.1 14 = .ok ((.getfield 12), 3) := by decide +kernel
theorem dRS_compact_17 : decode mRS_compact.2.2.2.1 17 = .ok ((.getfield 92), 3) := by decide +kernel
theorem dRS_compact_20 : decode mRS_compact.2.2.2.1 20 = .ok ((.istore_n 1), 1) := by decide +kernel
theorem dRS_compact_21 : decode mRS_compact.2.2.2.1 21 = .ok ((.aload_n 0), 1) := by decide +kernel
theorem dRS_compact_22 : decode mRS_compact.2.2.2.1 22 = .ok ((.getfield 12), 3) := by decide +kernel
theorem dRS_compact_25 : decode mRS_compact.2.2.2.1 25 = .ok ((.iconst (0)), 1) := by decide +kernel
theorem dRS_compact_26 : decode mRS_compact.2.2.2.1 26 = .ok ((.iconst (0)), 1) := by decide +kernel
theorem dRS_compact_27 : decode mRS_compact.2.2.2.1 27 = .ok ((.invokevirtual 125), 3) := by decide +kernel
theorem dRS_compact_30 : decode mRS_compact.2.2.2.1 30 = .ok ((.ifCond .eq (7)), 3) := by decide +kernel
theorem dRS_compact_33 : decode mRS_compact.2.2.2.1 33 = .ok ((.iload_n 1), 1) := by decide +kernel
theorem dRS_compact_34 : decode mRS_compact.2.2.2.1 34 = .ok ((.goto (5)), 3) := by decide +kernel
theorem dRS_compact_37 : decode mRS_compact.2.2.2.1 37 = .ok ((.bipush (-3)), 2) := by decide +kernel
theorem dRS_compact_39 : decode mRS_compact.2.2.2.1 39 = .ok (.ireturn, 1) := by decide +kernel
theorem dRS_expire_0 : decode mRS_expire.2.2.2.1 0 = .ok ((.aload_n 0), 1) := by decide +kernel
theorem dRS_expire_1 : decode mRS_expire.2.2.2.1 1 = .ok ((.getfield 12), 3) := by decide +kernel
theorem dRS_expire_4 : decode mRS_expire.2.2.2.1 4 = .ok ((.invokevirtual 49), 3) := by decide +kernel
theorem dRS_expire_7 : decode mRS_expire.2.2.2.1 7 = .ok ((.ifCond .eq (6)), 3) := by decide +kernel
theorem dRS_expire_10 : decode mRS_expire.2.2.2.1 10 = .ok ((.bipush (-2)), 2) := by decide +kernel
theorem dRS_expire_12 : decode mRS_expire.2.2.2.1 12 = .ok (.ireturn, 1) := by decide +kernel
theorem dRS_expire_13 : decode mRS_expire.2.2.2.1 13 = .ok ((.aload_n 0), 1) := by decide +kernel
theorem dRS_expire_14 : decode mRS_expire.2.2.2.1 14 = .ok ((.getfield 12), 3) := by decide +kernel
theorem dRS_expire_17 : decode mRS_expire.2.2.2.1 17 = .ok ((.aload_n 0), 1) := by decide +kernel
theorem dRS_expire_18 : decode mRS_expire.2.2.2.1 18 = .ok ((.getfield 12), 3) := by decide +kernel
theorem dRS_expire_21 : decode mRS_expire.2.2.2.1 21 = .ok ((.getfield 92), 3) := by decide +kernel
theorem dRS_expire_24 : decode mRS_expire.2.2.2.1 24 = .ok ((.invokevirtual 129), 3) := by decide +kernel
theorem dRS_expire_27 : decode mRS_expire.2.2.2.1 27 = .ok ((.istore_n 2), 1) := by decide +kernel
theorem dRS_expire_28 : decode mRS_expire.2.2.2.1 28 = .ok ((.aload_n 0), 1) := by decide +kernel
theorem dRS_expire_29 : decode mRS_expire.2.2.2.1 29 = .ok ((.getfield 12), 3) := by decide +kernel
theorem dRS_expire_32 : decode mRS_expire.2.2.2.1 32 = .ok ((.iconst (0)), 1) := by decide +kernel
theorem dRS_expire_33 : decode mRS_expire.2.2.2.1 33 = .ok ((.iload_n 1), 1) := by decide +kernel
theorem dRS_expire_34 : decode mRS_expire.2.2.2.1 34 = .ok ((.invokevirtual 125), 3) := by decide +kernel
theorem dRS_expire_37 : decode mRS_expire.2.2.2.1 37 = .ok ((.ifCond .eq (22)), 3) := by decide +kernel
theorem dRS_expire_40 : decode mRS_expire.2.2.2.1 40 = .ok ((.iload_n 2), 1) := by decide +kernel
theorem dRS_expire_41 : decode mRS_expire.2.2.2.1 41 = .ok ((.aload_n 0), 1) := by decide +kernel
theorem dRS_expire_42 : decode mRS_expire.2.2.2.1 42 = .ok ((.getfield 12), 3) := by decide +kernel
theorem dRS_expire_45 : decode mRS_expire.2.2.2.1 45 = .ok ((.aload_n 0), 1) := by decide +kernel
theorem dRS_expire_46 : decode mRS_expire.2.2.2.1 46 = .ok ((.getfield 12), 3) := by decide +kernel
theorem dRS_expire_49 : decode mRS_expire.2.2.2.1 49 = .ok ((.getfield 92), 3) := by decide +kernel
theorem dRS_expire_52 : decode mRS_expire.2.2.2.1 52 = .ok ((.invokevirtual 129), 3) := by decide +kernel
theorem dRS_expire_55 : decode mRS_expire.2.2.2.1 55 = .ok (.isub, 1) := by decide +kernel
theorem dRS_expire_56 : decode mRS_expire.2.2.2.1 56 = .ok ((.goto (5)), 3) := by decide +kernel
theorem dRS_expire_59 : decode mRS_expire.2.2.2.1 59 = .ok ((.bipush (-3)), 2) := by decide +kernel
theorem dRS_expire_61 : decode mRS_expire.2.2.2.1 61 = .ok (.ireturn, 1) := by decide +kernel
theorem dRS_tables_0 : decode mRS_tables.2.2.2.1 0 = .ok ((.aload_n 0), 1) := by decide +kernel
theorem dRS_tables_1 : decode mRS_tables.2.2.2.1 1 = .ok ((.getfield 12), 3) := by decide +kernel
theorem dRS_tables_4 : decode mRS_tables.2.2.2.1 4 = .ok ((.getfield 92), 3) := by decide +kernel
theorem dRS_tables_7 : decode mRS_tables.2.2.2.1 7 = .ok (.ireturn, 1) := by decide +kernel
theorem dRS_size_0 : decode mRS_size.2.2.2.1 0 = .ok ((.aload_n 0), 1) := by decide +kernel
theorem dRS_size_1 : decode mRS_size.2.2.2.1 1 = .ok ((.getfield 12), 3) := by decide +kernel
theorem dRS_size_4 : decode mRS_size.2.2.2.1 4 = .ok ((.iload_n 1), 1) := by decide +kernel
theorem dRS_size_5 : decode mRS_size.2.2.2.1 5 = .ok ((.invokevirtual 133), 3) := by decide +kernel
theorem dRS_size_8 : decode mRS_size.2.2.2.1 8 = .ok ((.astore_n 2), 1) := by decide +kernel
theorem dRS_size_9 : decode mRS_size.2.2.2.1 9 = .ok ((.aload_n 2), 1) := by decide +kernel
theorem dRS_size_10 : decode mRS_size.2.2.2.1 10 = .ok ((.ifnonnull (7)), 3) := by decide +kernel
theorem dRS_size_13 : decode mRS_size.2.2.2.1 13 = .ok ((.iconst (-1)), 1) := by decide +kernel
theorem dRS_size_14 : decode mRS_size.2.2.2.1 14 = .ok ((.goto (7)), 3) := by decide +kernel
theorem dRS_size_17 : decode mRS_size.2.2.2.1 17 = .ok ((.aload_n 2), 1) := by decide +kernel
theorem dRS_size_18 : decode mRS_size.2.2.2.1 18 = .ok ((.getfield 137), 3) := by decide +kernel
theorem dRS_size_21 : decode mRS_size.2.2.2.1 21 = .ok (.ireturn, 1) := by decide +kernel
theorem dRS_byteAt_0 : decode mRS_byteAt.2.2.2.1 0 = .ok ((.aload_n 0), 1) := by decide +kernel
theorem dRS_byteAt_1 : decode mRS_byteAt.2.2.2.1 1 = .ok ((.getfield 12), 3) := by decide +kernel
theorem dRS_byteAt_4 : decode mRS_byteAt.2.2.2.1 4 = .ok ((.iload_n 1), 1) := by decide +kernel
theorem dRS_byteAt_5 : decode mRS_byteAt.2.2.2.1 5 = .ok ((.invokevirtual 133), 3) := by decide +kernel
theorem dRS_byteAt_8 : decode mRS_byteAt.2.2.2.1 8 = .ok ((.astore_n 3), 1) := by decide +kernel
theorem dRS_byteAt_9 : decode mRS_byteAt.2.2.2.1 9 = .ok ((.aload_n 3), 1) := by decide +kernel
theorem dRS_byteAt_10 : decode mRS_byteAt.2.2.2.1 10 = .ok ((.ifnull (15)), 3) := by decide +kernel
theorem dRS_byteAt_13 : decode mRS_byteAt.2.2.2.1 13 = .ok ((.iload_n 2), 1) := by decide +kernel
theorem dRS_byteAt_14 : decode mRS_byteAt.2.2.2.1 14 = .ok ((.ifCond .lt (11)), 3) := by decide +kernel
theorem dRS_byteAt_17 : decode mRS_byteAt.2.2.2.1 17 = .ok ((.iload_n 2), 1) := by decide +kernel
theorem dRS_byteAt_18 : decode mRS_byteAt.2.2.2.1 18 = .ok ((.aload_n 3), 1) := by decide +kernel
theorem dRS_byteAt_19 : decode mRS_byteAt.2.2.2.1 19 = .ok ((.getfield 137), 3) := by decide +kernel
theorem dRS_byteAt_22 : decode mRS_byteAt.2.2.2.1 22 = .ok ((.if_icmp .lt (5)), 3) := by decide +kernel
theorem dRS_byteAt_25 : decode mRS_byteAt.2.2.2.1 25 = .ok ((.iconst (-1)), 1) := by decide +kernel
theorem dRS_byteAt_26 : decode mRS_byteAt.2.2.2.1 26 = .ok (.ireturn, 1) := by decide +kernel
theorem dRS_byteAt_27 : decode mRS_byteAt.2.2.2.1 27 = .ok ((.aload_n 3), 1) := by decide +kernel
theorem dRS_byteAt_28 : decode mRS_byteAt.2.2.2.1 28 = .ok ((.getfield 142), 3) := by decide +kernel
theorem dRS_byteAt_31 : decode mRS_byteAt.2.2.2.1 31 = .ok ((.iload_n 2), 1) := by decide +kernel
theorem dRS_byteAt_32 : decode mRS_byteAt.2.2.2.1 32 = .ok (.iaload, 1) := by decide +kernel
theorem dRS_byteAt_33 : decode mRS_byteAt.2.2.2.1 33 = .ok (.ireturn, 1) := by decide +kernel
theorem dRS_damage_0 : decode mRS_damage.2.2.2.1 0 = .ok ((.aload_n 0), 1) := by decide +kernel
theorem dRS_damage_1 : decode mRS_damage.2.2.2.1 1 = .ok ((.getfield 12), 3) := by decide +kernel
theorem dRS_damage_4 : decode mRS_damage.2.2.2.1 4 = .ok ((.iload_n 1), 1) := by decide +kernel
theorem dRS_damage_5 : decode mRS_damage.2.2.2.1 5 = .ok ((.invokevirtual 133), 3) := by decide +kernel
theorem dRS_damage_8 : decode mRS_damage.2.2.2.1 8 = .ok ((.astore 4), 2) := by decide +kernel
theorem dRS_damage_10 : decode mRS_damage.2.2.2.1 10 = .ok ((.aload 4), 2) := by decide +kernel
theorem dRS_damage_12 : decode mRS_damage.2.2.2.1 12 = .ok ((.ifnull (27)), 3) := by decide +kernel
theorem dRS_damage_15 : decode mRS_damage.2.2.2.1 15 = .ok ((.iload_n 2), 1) := by decide +kernel
theorem dRS_damage_16 : decode mRS_damage.2.2.2.1 16 = .ok ((.ifCond .lt (23)), 3) := by decide +kernel
theorem dRS_damage_19 : decode mRS_damage.2.2.2.1 19 = .ok ((.iload_n 2), 1) := by decide +kernel
theorem dRS_damage_20 : decode mRS_damage.2.2.2.1 20 = .ok ((.aload 4), 2) := by decide +kernel
theorem dRS_damage_22 : decode mRS_damage.2.2.2.1 22 = .ok ((.getfield 137), 3) := by decide +kernel
theorem dRS_damage_25 : decode mRS_damage.2.2.2.1 25 = .ok ((.if_icmp .ge (14)), 3) := by decide +kernel
theorem dRS_damage_28 : decode mRS_damage.2.2.2.1 28 = .ok ((.iload_n 3), 1) := by decide +kernel
theorem dRS_damage_29 : decode mRS_damage.2.2.2.1 29 = .ok ((.ifCond .lt (10)), 3) := by decide +kernel
theorem dRS_damage_32 : decode mRS_damage.2.2.2.1 32 = .ok ((.iload_n 3), 1) := by decide +kernel
theorem dRS_damage_33 : decode mRS_damage.2.2.2.1 33 = .ok ((.sipush (255)), 3) := by decide +kernel
theorem dRS_damage_36 : decode mRS_damage.2.2.2.1 36 = .ok ((.if_icmp .le (5)), 3) := by decide +kernel
theorem dRS_damage_39 : decode mRS_damage.2.2.2.1 39 = .ok ((.iconst (0)), 1) := by decide +kernel
theorem dRS_damage_40 : decode mRS_damage.2.2.2.1 40 = .ok (.ireturn, 1) := by decide +kernel
theorem dRS_damage_41 : decode mRS_damage.2.2.2.1 41 = .ok ((.aload 4), 2) := by decide +kernel
theorem dRS_damage_43 : decode mRS_damage.2.2.2.1 43 = .ok ((.getfield 142), 3) := by decide +kernel
theorem dRS_damage_46 : decode mRS_damage.2.2.2.1 46 = .ok ((.iload_n 2), 1) := by decide +kernel
theorem dRS_damage_47 : decode mRS_damage.2.2.2.1 47 = .ok ((.iload_n 3), 1) := by decide +kernel
theorem dRS_damage_48 : decode mRS_damage.2.2.2.1 48 = .ok (.iastore, 1) := by decide +kernel
theorem dRS_damage_49 : decode mRS_damage.2.2.2.1 49 = .ok ((.aload_n 0), 1) := by decide +kernel
theorem dRS_damage_50 : decode mRS_damage.2.2.2.1 50 = .ok ((.getfield 26), 3) := by decide +kernel
theorem dRS_damage_53 : decode mRS_damage.2.2.2.1 53 = .ok ((.aload 4), 2) := by decide +kernel
theorem dRS_damage_55 : decode mRS_damage.2.2.2.1 55 = .ok ((.invokevirtual 146), 3) := by decide +kernel
theorem dRS_damage_58 : decode mRS_damage.2.2.2.1 58 = .ok ((.iconst (1)), 1) := by decide +kernel
theorem dRS_damage_59 : decode mRS_damage.2.2.2.1 59 = .ok (.ireturn, 1) := by decide +kernel
