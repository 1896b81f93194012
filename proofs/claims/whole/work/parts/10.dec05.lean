theorem dMd_change_0 : decode mMd_change.2.2.2.1 0 = .ok ((.aload_n 0), 1) := by decide +kernel
theorem dMd_change_1 : decode mMd_change.2.2.2.1 1 = .ok ((.getfield 213), 3) := by decide +kernel
theorem dMd_change_4 : decode mMd_change.2.2.2.1 4 = .ok ((.ifCond .eq (27)), 3) := by decide +kernel
theorem dMd_change_7 : decode mMd_change.2.2.2.1 7 = .ok ((.aload_n 0), 1) := by decide +kernel
theorem dMd_change_8 : decode mMd_change.2.2.2.1 8 = .ok ((.getfield 216), 3) := by decide +kernel
theorem dMd_change_11 : decode mMd_change.2.2.2.1 11 = .ok ((.bipush (6)), 2) := by decide +kernel
theorem dMd_change_13 : decode mMd_change.2.2.2.1 13 = .ok ((.if_icmp .eq (18)), 3) := by decide +kernel
theorem dMd_change_16 : decode mMd_change.2.2.2.1 16 = .ok ((.aload_n 0), 1) := by decide +kernel
theorem dMd_change_17 : decode mMd_change.2.2.2.1 17 = .ok ((.lload_n 1), 1) := by decide +kernel
theorem dMd_change_18 : decode mMd_change.2.2.2.1 18 = .ok ((.invokevirtual 219), 3) := by decide +kernel
theorem dMd_change_21 : decode mMd_change.2.2.2.1 21 = .ok ((.ifCond .ge (10)), 3) := by decide +kernel
theorem dMd_change_24 : decode mMd_change.2.2.2.1 24 = .ok ((.lload_n 1), 1) := by decide +kernel
theorem dMd_change_25 : decode mMd_change.2.2.2.1 25 = .ok ((.invokestatic 137), 3) := by decide +kernel
theorem dMd_change_28 : decode mMd_change.2.2.2.1 28 = .ok ((.ifCond .ne (5)), 3) := by decide +kernel
theorem dMd_change_31 : decode mMd_change.2.2.2.1 31 = .ok ((.iconst (0)), 1) := by decide +kernel
theorem dMd_change_32 : decode mMd_change.2.2.2.1 32 = .ok (.ireturn, 1) := by decide +kernel
theorem dMd_change_33 : decode mMd_change.2.2.2.1 33 = .ok ((.aload_n 0), 1) := by decide +kernel
theorem dMd_change_34 : decode mMd_change.2.2.2.1 34 = .ok ((.getfield 17), 3) := by decide +kernel
theorem dMd_change_37 : decode mMd_change.2.2.2.1 37 = .ok ((.aload_n 0), 1) := by decide +kernel
theorem dMd_change_38 : decode mMd_change.2.2.2.1 38 = .ok ((.getfield 216), 3) := by decide +kernel
theorem dMd_change_41 : decode mMd_change.2.2.2.1 41 = .ok ((.lload_n 1), 1) := by decide +kernel
theorem dMd_change_42 : decode mMd_change.2.2.2.1 42 = .ok (.lastore, 1) := by decide +kernel
theorem dMd_change_43 : decode mMd_change.2.2.2.1 43 = .ok ((.aload_n 0), 1) := by decide +kernel
theorem dMd_change_44 : decode mMd_change.2.2.2.1 44 = .ok ((.getfield 21), 3) := by decide +kernel
theorem dMd_change_47 : decode mMd_change.2.2.2.1 47 = .ok ((.aload_n 0), 1) := by decide +kernel
theorem dMd_change_48 : decode mMd_change.2.2.2.1 48 = .ok ((.getfield 216), 3) := by decide +kernel
theorem dMd_change_51 : decode mMd_change.2.2.2.1 51 = .ok ((.iload_n 3), 1) := by decide +kernel
theorem dMd_change_52 : decode mMd_change.2.2.2.1 52 = .ok (.iastore, 1) := by decide +kernel
theorem dMd_change_53 : decode mMd_change.2.2.2.1 53 = .ok ((.aload_n 0), 1) := by decide +kernel
theorem dMd_change_54 : decode mMd_change.2.2.2.1 54 = .ok ((.getfield 24), 3) := by decide +kernel
theorem dMd_change_57 : decode mMd_change.2.2.2.1 57 = .ok ((.aload_n 0), 1) := by decide +kernel
theorem dMd_change_58 : decode mMd_change.2.2.2.1 58 = .ok ((.getfield 216), 3) := by decide +kernel
theorem dMd_change_61 : decode mMd_change.2.2.2.1 61 = .ok ((.iload 4), 2) := by decide +kernel
theorem dMd_change_63 : decode mMd_change.2.2.2.1 63 = .ok (.iastore, 1) := by decide +kernel
theorem dMd_change_64 : decode mMd_change.2.2.2.1 64 = .ok ((.aload_n 0), 1) := by decide +kernel
theorem dMd_change_65 : decode mMd_change.2.2.2.1 65 = .ok ((.getfield 27), 3) := by decide +kernel
theorem dMd_change_68 : decode mMd_change.2.2.2.1 68 = .ok ((.aload_n 0), 1) := by decide +kernel
theorem dMd_change_69 : decode mMd_change.2.2.2.1 69 = .ok ((.getfield 216), 3) := by decide +kernel
theorem dMd_change_72 : decode mMd_change.2.2.2.1 72 = .ok ((.lload 5), 2) := by decide +kernel
theorem dMd_change_74 : decode mMd_change.2.2.2.1 74 = .ok (.lastore, 1) := by decide +kernel
theorem dMd_change_75 : decode mMd_change.2.2.2.1 75 = .ok ((.aload_n 0), 1) := by decide +kernel
theorem dMd_change_76 : decode mMd_change.2.2.2.1 76 = .ok (.dup, 1) := by decide +kernel
theorem dMd_change_77 : decode mMd_change.2.2.2.1 77 = .ok ((.getfield 216), 3) := by decide +kernel
theorem dMd_change_80 : decode mMd_change.2.2.2.1 80 = .ok ((.iconst (1)), 1) := by decide +kernel
theorem dMd_change_81 : decode mMd_change.2.2.2.1 81 = .ok (.iadd, 1) := by decide +kernel
theorem dMd_change_82 : decode mMd_change.2.2.2.1 82 = .ok ((.putfield 216), 3) := by decide +kernel
theorem dMd_change_85 : decode mMd_change.2.2.2.1 85 = .ok ((.iconst (1)), 1) := by decide +kernel
theorem dMd_change_86 : decode mMd_change.2.2.2.1 86 = .ok (.ireturn, 1) := by decide +kernel
theorem dMd_update_0 : decode mMd_update.2.2.2.1 0 = .ok ((.iload_n 3), 1) := by decide +kernel
theorem dMd_update_1 : decode mMd_update.2.2.2.1 1 = .ok ((.iconst (-1)), 1) := by decide +kernel
theorem dMd_update_2 : decode mMd_update.2.2.2.1 2 = .ok ((.ldc 100), 2) := by decide +kernel
theorem dMd_update_4 : decode mMd_update.2.2.2.1 4 = .ok ((.invokestatic 133), 3) := by decide +kernel
theorem dMd_update_7 : decode mMd_update.2.2.2.1 7 = .ok ((.ifCond .eq (31)), 3) := by decide +kernel
theorem dMd_update_10 : decode mMd_update.2.2.2.1 10 = .ok ((.iload 4), 2) := by decide +kernel
theorem dMd_update_12 : decode mMd_update.2.2.2.1 12 = .ok ((.iconst (0)), 1) := by decide +kernel
theorem dMd_update_13 : decode mMd_update.2.2.2.1 13 = .ok ((.ldc 100), 2) := by decide +kernel
theorem dMd_update_15 : decode mMd_update.2.2.2.1 15 = .ok ((.invokestatic 133), 3) := by decide +kernel
theorem dMd_update_18 : decode mMd_update.2.2.2.1 18 = .ok ((.ifCond .eq (20)), 3) := by decide +kernel
theorem dMd_update_21 : decode mMd_update.2.2.2.1 21 = .ok ((.aload_n 0), 1) := by decide +kernel
theorem dMd_update_22 : decode mMd_update.2.2.2.1 22 = .ok ((.lload_n 1), 1) := by decide +kernel
theorem dMd_update_23 : decode mMd_update.2.2.2.1 23 = .ok ((.iconst (0)), 1) := by decide +kernel
theorem dMd_update_24 : decode mMd_update.2.2.2.1 24 = .ok ((.iload_n 3), 1) := by decide +kernel
theorem dMd_update_25 : decode mMd_update.2.2.2.1 25 = .ok ((.iload 4), 2) := by decide +kernel
theorem dMd_update_27 : decode mMd_update.2.2.2.1 27 = .ok (.i2l, 1) := by decide +kernel
theorem dMd_update_28 : decode mMd_update.2.2.2.1 28 = .ok ((.invokevirtual 222), 3) := by decide +kernel
theorem dMd_update_31 : decode mMd_update.2.2.2.1 31 = .ok ((.ifCond .eq (7)), 3) := by decide +kernel
theorem dMd_update_34 : decode mMd_update.2.2.2.1 34 = .ok ((.iconst (1)), 1) := by decide +kernel
theorem dMd_update_35 : decode mMd_update.2.2.2.1 35 = .ok ((.goto (4)), 3) := by decide +kernel
theorem dMd_update_38 : decode mMd_update.2.2.2.1 38 = .ok ((.iconst (0)), 1) := by decide +kernel
theorem dMd_update_39 : decode mMd_update.2.2.2.1 39 = .ok (.ireturn, 1) := by decide +kernel
theorem dMd_link_0 : decode mMd_link.2.2.2.1 0 = .ok ((.lload_n 3), 1) := by decide +kernel
theorem dMd_link_1 : decode mMd_link.2.2.2.1 1 = .ok ((.invokestatic 137), 3) := by decide +kernel
theorem dMd_link_4 : decode mMd_link.2.2.2.1 4 = .ok ((.ifCond .eq (24)), 3) := by decide +kernel
theorem dMd_link_7 : decode mMd_link.2.2.2.1 7 = .ok ((.lload_n 1), 1) := by decide +kernel
theorem dMd_link_8 : decode mMd_link.2.2.2.1 8 = .ok ((.lload_n 3), 1) := by decide +kernel
theorem dMd_link_9 : decode mMd_link.2.2.2.1 9 = .ok (.lcmp, 1) := by decide +kernel
theorem dMd_link_10 : decode mMd_link.2.2.2.1 10 = .ok ((.ifCond .eq (18)), 3) := by decide +kernel
theorem dMd_link_13 : decode mMd_link.2.2.2.1 13 = .ok ((.aload_n 0), 1) := by decide +kernel
theorem dMd_link_14 : decode mMd_link.2.2.2.1 14 = .ok ((.lload_n 1), 1) := by decide +kernel
theorem dMd_link_15 : decode mMd_link.2.2.2.1 15 = .ok ((.iconst (1)), 1) := by decide +kernel
theorem dMd_link_16 : decode mMd_link.2.2.2.1 16 = .ok ((.iconst (-1)), 1) := by decide +kernel
theorem dMd_link_17 : decode mMd_link.2.2.2.1 17 = .ok ((.lload_n 3), 1) := by decide +kernel
theorem dMd_link_18 : decode mMd_link.2.2.2.1 18 = .ok ((.invokevirtual 222), 3) := by decide +kernel
theorem dMd_link_21 : decode mMd_link.2.2.2.1 21 = .ok ((.ifCond .eq (7)), 3) := by decide +kernel
theorem dMd_link_24 : decode mMd_link.2.2.2.1 24 = .ok ((.iconst (1)), 1) := by decide +kernel
theorem dMd_link_25 : decode mMd_link.2.2.2.1 25 = .ok ((.goto (4)), 3) := by decide +kernel
theorem dMd_link_28 : decode mMd_link.2.2.2.1 28 = .ok ((.iconst (0)), 1) := by decide +kernel
theorem dMd_link_29 : decode mMd_link.2.2.2.1 29 = .ok (.ireturn, 1) := by decide +kernel
theorem dMd_madeKind_0 : decode mMd_madeKind.2.2.2.1 0 = .ok ((.aload_n 0), 1) := by decide +kernel
theorem dMd_madeKind_1 : decode mMd_madeKind.2.2.2.1 1 = .ok ((.getfield 21), 3) := by decide +kernel
theorem dMd_madeKind_4 : decode mMd_madeKind.2.2.2.1 4 = .ok ((.iload_n 1), 1) := by decide +kernel
theorem dMd_madeKind_5 : decode mMd_madeKind.2.2.2.1 5 = .ok (.iaload, 1) := by decide +kernel
theorem dMd_madeKind_6 : decode mMd_madeKind.2.2.2.1 6 = .ok ((.iconst (1)), 1) := by decide +kernel
theorem dMd_madeKind_7 : decode mMd_madeKind.2.2.2.1 7 = .ok ((.if_icmp .ne (7)), 3) := by decide +kernel
theorem dMd_madeKind_10 : decode mMd_madeKind.2.2.2.1 10 = .ok ((.iconst (2)), 1) := by decide +kernel
theorem dMd_madeKind_11 : decode mMd_madeKind.2.2.2.1 11 = .ok ((.goto (19)), 3) := by decide +kernel
theorem dMd_madeKind_14 : decode mMd_madeKind.2.2.2.1 14 = .ok ((.aload_n 0), 1) := by decide +kernel
theorem dMd_madeKind_15 : decode mMd_madeKind.2.2.2.1 15 = .ok ((.getfield 27), 3) := by decide +kernel
theorem dMd_madeKind_18 : decode mMd_madeKind.2.2.2.1 18 = .ok ((.iload_n 1), 1) := by decide +kernel
theorem dMd_madeKind_19 : decode mMd_madeKind.2.2.2.1 19 = .ok (.laload, 1) := by decide +kernel
theorem dMd_madeKind_20 : decode mMd_madeKind.2.2.2.1 20 = .ok ((.lconst 0), 1) := by decide +kernel
theorem dMd_madeKind_21 : decode mMd_madeKind.2.2.2.1 21 = .ok (.lcmp, 1) := by decide +kernel
theorem dMd_madeKind_22 : decode mMd_madeKind.2.2.2.1 22 = .ok ((.ifCond .ne (7)), 3) := by decide +kernel
theorem dMd_madeKind_25 : decode mMd_madeKind.2.2.2.1 25 = .ok ((.iconst (0)), 1) := by decide +kernel
theorem dMd_madeKind_26 : decode mMd_madeKind.2.2.2.1 26 = .ok ((.goto (4)), 3) := by decide +kernel
theorem dMd_madeKind_29 : decode mMd_madeKind.2.2.2.1 29 = .ok ((.iconst (1)), 1) := by decide +kernel
theorem dMd_madeKind_30 : decode mMd_madeKind.2.2.2.1 30 = .ok (.ireturn, 1) := by decide +kernel
theorem dMd_unexpected_0 : decode mMd_unexpected.2.2.2.1 0 = .ok ((.aload_n 0), 1) := by decide +kernel
theorem dMd_unexpected_1 : decode mMd_unexpected.2.2.2.1 1 = .ok ((.getfield 24), 3) := by decide +kernel
theorem dMd_unexpected_4 : decode mMd_unexpected.2.2.2.1 4 = .ok ((.iload_n 1), 1) := by decide +kernel
theorem dMd_unexpected_5 : decode mMd_unexpected.2.2.2.1 5 = .ok (.iaload, 1) := by decide +kernel
theorem dMd_unexpected_6 : decode mMd_unexpected.2.2.2.1 6 = .ok ((.istore_n 2), 1) := by decide +kernel
theorem dMd_unexpected_7 : decode mMd_unexpected.2.2.2.1 7 = .ok ((.aload_n 0), 1) := by decide +kernel
theorem dMd_unexpected_8 : decode mMd_unexpected.2.2.2.1 8 = .ok ((.aload_n 0), 1) := by decide +kernel
theorem dMd_unexpected_9 : decode mMd_unexpected.2.2.2.1 9 = .ok ((.getfield 17), 3) := by decide +kernel
theorem dMd_unexpected_12 : decode mMd_unexpected.2.2.2.1 12 = .ok ((.iload_n 1), 1) := by decide +kernel
theorem dMd_unexpected_13 : decode mMd_unexpected.2.2.2.1 13 = .ok (.laload, 1) := by decide +kernel
theorem dMd_unexpected_14 : decode mMd_unexpected.2.2.2.1 14 = .ok ((.invokevirtual 155), 3) := by decide +kernel
theorem dMd_unexpected_17 : decode mMd_unexpected.2.2.2.1 17 = .ok ((.istore_n 3), 1) := by decide +kernel
theorem dMd_unexpected_18 : decode mMd_unexpected.2.2.2.1 18 = .ok ((.iload_n 3), 1) := by decide +kernel
theorem dMd_unexpected_19 : decode mMd_unexpected.2.2.2.1 19 = .ok ((.ifCond .ge (7)), 3) := by decide +kernel
theorem dMd_unexpected_22 : decode mMd_unexpected.2.2.2.1 22 = .ok ((.iconst (0)), 1) := by decide +kernel
theorem dMd_unexpected_23 : decode mMd_unexpected.2.2.2.1 23 = .ok ((.goto (9)), 3) := by decide +kernel
theorem dMd_unexpected_26 : decode mMd_unexpected.2.2.2.1 26 = .ok ((.aload_n 0), 1) := by decide +kernel
theorem dMd_unexpected_27 : decode mMd_unexpected.2.2.2.1 27 = .ok ((.getfield 33), 3) := by decide +kernel
theorem dMd_unexpected_30 : decode mMd_unexpected.2.2.2.1 30 = .ok ((.iload_n 3), 1) := by decide +kernel
theorem dMd_unexpected_31 : decode mMd_unexpected.2.2.2.1 31 = .ok (.iaload, 1) := by decide +kernel
theorem dMd_unexpected_32 : decode mMd_unexpected.2.2.2.1 32 = .ok ((.istore 4), 2) := by decide +kernel
theorem dMd_unexpected_34 : decode mMd_unexpected.2.2.2.1 34 = .ok ((.iload_n 2), 1) := by decide +kernel
theorem dMd_unexpected_35 : decode mMd_unexpected.2.2.2.1 35 = .ok ((.ifCond .ne (16)), 3) := by decide +kernel
theorem dMd_unexpected_38 : decode mMd_unexpected.2.2.2.1 38 = .ok ((.iload 4), 2) := by decide +kernel
theorem dMd_unexpected_40 : decode mMd_unexpected.2.2.2.1 40 = .ok ((.ifCond .eq (7)), 3) := by decide +kernel
theorem dMd_unexpected_43 : decode mMd_unexpected.2.2.2.1 43 = .ok ((.iconst (1)), 1) := by decide +kernel
theorem dMd_unexpected_44 : decode mMd_unexpected.2.2.2.1 44 = .ok ((.goto (34)), 3) := by decide +kernel
theorem dMd_unexpected_47 : decode mMd_unexpected.2.2.2.1 47 = .ok ((.iconst (0)), 1) := by decide +kernel
theorem dMd_unexpected_48 : decode mMd_unexpected.2.2.2.1 48 = .ok ((.goto (30)), 3) := by decide +kernel
theorem dMd_unexpected_51 : decode mMd_unexpected.2.2.2.1 51 = .ok ((.iload_n 2), 1) := by decide +kernel
theorem dMd_unexpected_52 : decode mMd_unexpected.2.2.2.1 52 = .ok ((.ifCond .le (25)), 3) := by decide +kernel
theorem dMd_unexpected_55 : decode mMd_unexpected.2.2.2.1 55 = .ok ((.iload 4), 2) := by decide +kernel
theorem dMd_unexpected_57 : decode mMd_unexpected.2.2.2.1 57 = .ok ((.iconst (1)), 1) := by decide +kernel
theorem dMd_unexpected_58 : decode mMd_unexpected.2.2.2.1 58 = .ok ((.if_icmp .ne (15)), 3) := by decide +kernel
theorem dMd_unexpected_61 : decode mMd_unexpected.2.2.2.1 61 = .ok ((.aload_n 0), 1) := by decide +kernel
theorem dMd_unexpected_62 : decode mMd_unexpected.2.2.2.1 62 = .ok ((.getfield 39), 3) := by decide +kernel
theorem dMd_unexpected_65 : decode mMd_unexpected.2.2.2.1 65 = .ok ((.iload_n 3), 1) := by decide +kernel
theorem dMd_unexpected_66 : decode mMd_unexpected.2.2.2.1 66 = .ok (.laload, 1) := by decide +kernel
theorem dMd_unexpected_67 : decode mMd_unexpected.2.2.2.1 67 = .ok ((.iload_n 2), 1) := by decide +kernel
theorem dMd_unexpected_68 : decode mMd_unexpected.2.2.2.1 68 = .ok (.i2l, 1) := by decide +kernel
theorem dMd_unexpected_69 : decode mMd_unexpected.2.2.2.1 69 = .ok (.lcmp, 1) := by decide +kernel
theorem dMd_unexpected_70 : decode mMd_unexpected.2.2.2.1 70 = .ok ((.ifCond .eq (7)), 3) := by decide +kernel
theorem dMd_unexpected_73 : decode mMd_unexpected.2.2.2.1 73 = .ok ((.iconst (1)), 1) := by decide +kernel
theorem dMd_unexpected_74 : decode mMd_unexpected.2.2.2.1 74 = .ok ((.goto (4)), 3) := by decide +kernel
theorem dMd_unexpected_77 : decode mMd_unexpected.2.2.2.1 77 = .ok ((.iconst (0)), 1) := by decide +kernel
theorem dMd_unexpected_78 : decode mMd_unexpected.2.2.2.1 78 = .ok (.ireturn, 1) := by decide +kernel
theorem dMd_clash_0 : decode mMd_clash.2.2.2.1 0 = .ok ((.lload_n 0), 1) := by decide +kernel
theorem dMd_clash_1 : decode mMd_clash.2.2.2.1 1 = .ok ((.lload_n 2), 1) := by decide +kernel
theorem dMd_clash_2 : decode mMd_clash.2.2.2.1 2 = .ok ((.invokestatic 226), 3) := by decide +kernel
theorem dMd_clash_5 : decode mMd_clash.2.2.2.1 5 = .ok ((.ifCond .ne (11)), 3) := by decide +kernel
theorem dMd_clash_8 : decode mMd_clash.2.2.2.1 8 = .ok ((.lload_n 2), 1) := by decide +kernel
theorem dMd_clash_9 : decode mMd_clash.2.2.2.1 9 = .ok ((.lload_n 0), 1) := by decide +kernel
theorem dMd_clash_10 : decode mMd_clash.2.2.2.1 10 = .ok ((.invokestatic 226), 3) := by decide +kernel
theorem dMd_clash_13 : decode mMd_clash.2.2.2.1 13 = .ok ((.ifCond .eq (7)), 3) := by decide +kernel
theorem dMd_clash_16 : decode mMd_clash.2.2.2.1 16 = .ok ((.iconst (1)), 1) := by decide +kernel
theorem dMd_clash_17 : decode mMd_clash.2.2.2.1 17 = .ok ((.goto (4)), 3) := by decide +kernel
theorem dMd_clash_20 : decode mMd_clash.2.2.2.1 20 = .ok ((.iconst (0)), 1) := by decide +kernel
theorem dMd_clash_21 : decode mMd_clash.2.2.2.1 21 = .ok (.ireturn, 1) := by decide +kernel
theorem dMd_clashes_0 : decode mMd_clashes.2.2.2.1 0 = .ok ((.aload_n 0), 1) := by decide +kernel
theorem dMd_clashes_1 : decode mMd_clashes.2.2.2.1 1 = .ok ((.iload_n 1), 1) := by decide +kernel
theorem dMd_clashes_2 : decode mMd_clashes.2.2.2.1 2 = .ok ((.invokevirtual 229), 3) := by decide +kernel
theorem dMd_clashes_5 : decode mMd_clashes.2.2.2.1 5 = .ok ((.ifCond .ne (5)), 3) := by decide +kernel
theorem dMd_clashes_8 : decode mMd_clashes.2.2.2.1 8 = .ok ((.iconst (0)), 1) := by decide +kernel
theorem dMd_clashes_9 : decode mMd_clashes.2.2.2.1 9 = .ok (.ireturn, 1) := by decide +kernel
theorem dMd_clashes_10 : decode mMd_clashes.2.2.2.1 10 = .ok ((.iconst (0)), 1) := by decide +kernel
theorem dMd_clashes_11 : decode mMd_clashes.2.2.2.1 11 = .ok ((.istore_n 2), 1) := by decide +kernel
theorem dMd_clashes_12 : decode mMd_clashes.2.2.2.1 12 = .ok ((.iload_n 2), 1) := by decide +kernel
theorem dMd_clashes_13 : decode mMd_clashes.2.2.2.1 13 = .ok ((.aload_n 0), 1) := by decide +kernel
theorem dMd_clashes_14 : decode mMd_clashes.2.2.2.1 14 = .ok ((.getfield 216), 3) := by decide +kernel
theorem dMd_clashes_17 : decode mMd_clashes.2.2.2.1 17 = .ok ((.if_icmp .ge (37)), 3) := by decide +kernel
theorem dMd_clashes_20 : decode mMd_clashes.2.2.2.1 20 = .ok ((.aload_n 0), 1) := by decide +kernel
theorem dMd_clashes_21 : decode mMd_clashes.2.2.2.1 21 = .ok ((.iload_n 2), 1) := by decide +kernel
theorem dMd_clashes_22 : decode mMd_clashes.2.2.2.1 22 = .ok ((.invokevirtual 229), 3) := by decide +kernel
theorem dMd_clashes_25 : decode mMd_clashes.2.2.2.1 25 = .ok ((.ifCond .eq (23)), 3) := by decide +kernel
theorem dMd_clashes_28 : decode mMd_clashes.2.2.2.1 28 = .ok ((.aload_n 0), 1) := by decide +kernel
theorem dMd_clashes_29 : decode mMd_clashes.2.2.2.1 29 = .ok ((.getfield 17), 3) := by decide +kernel
theorem dMd_clashes_32 : decode mMd_clashes.2.2.2.1 32 = .ok ((.iload_n 2), 1) := by decide +kernel
theorem dMd_clashes_33 : decode mMd_clashes.2.2.2.1 33 = .ok (.laload, 1) := by decide +kernel
theorem dMd_clashes_34 : decode mMd_clashes.2.2.2.1 34 = .ok ((.aload_n 0), 1) := by decide +kernel
theorem dMd_clashes_35 : decode mMd_clashes.2.2.2.1 35 = .ok ((.getfield 17), 3) := by decide +kernel
theorem dMd_clashes_38 : decode mMd_clashes.2.2.2.1 38 = .ok ((.iload_n 1), 1) := by decide +kernel
theorem dMd_clashes_39 : decode mMd_clashes.2.2.2.1 39 = .ok (.laload, 1) := by decide +kernel
theorem dMd_clashes_40 : decode mMd_clashes.2.2.2.1 40 = .ok ((.invokestatic 232), 3) := by decide +kernel
theorem dMd_clashes_43 : decode mMd_clashes.2.2.2.1 43 = .ok ((.ifCond .eq (5)), 3) := by decide +kernel
theorem dMd_clashes_46 : decode mMd_clashes.2.2.2.1 46 = .ok ((.iconst (1)), 1) := by decide +kernel
theorem dMd_clashes_47 : decode mMd_clashes.2.2.2.1 47 = .ok (.ireturn, 1) := by decide +kernel
theorem dMd_clashes_48 : decode mMd_clashes.2.2.2.1 48 = .ok ((.iinc 2 (1)), 3) := by decide +kernel
theorem dMd_clashes_51 : decode mMd_clashes.2.2.2.1 51 = .ok ((.goto (-39)), 3) := by decide +kernel
theorem dMd_clashes_54 : decode mMd_clashes.2.2.2.1 54 = .ok ((.iconst (0)), 1) := by decide +kernel
theorem dMd_clashes_55 : decode mMd_clashes.2.2.2.1 55 = .ok ((.istore_n 2), 1) := by decide +kernel
theorem dMd_clashes_56 : decode mMd_clashes.2.2.2.1 56 = .ok ((.iload_n 2), 1) := by decide +kernel
theorem dMd_clashes_57 : decode mMd_clashes.2.2.2.1 57 = .ok ((.aload_n 0), 1) := by decide +kernel
theorem dMd_clashes_58 : decode mMd_clashes.2.2.2.1 58 = .ok ((.getfield 152), 3) := by decide +kernel
theorem dMd_clashes_61 : decode mMd_clashes.2.2.2.1 61 = .ok ((.if_icmp .ge (51)), 3) := by decide +kernel
theorem dMd_clashes_64 : decode mMd_clashes.2.2.2.1 64 = .ok ((.aload_n 0), 1) := by decide +kernel
theorem dMd_clashes_65 : decode mMd_clashes.2.2.2.1 65 = .ok ((.getfield 33), 3) := by decide +kernel
theorem dMd_clashes_68 : decode mMd_clashes.2.2.2.1 68 = .ok ((.iload_n 2), 1) := by decide +kernel
theorem dMd_clashes_69 : decode mMd_clashes.2.2.2.1 69 = .ok (.iaload, 1) := by decide +kernel
theorem dMd_clashes_70 : decode mMd_clashes.2.2.2.1 70 = .ok ((.ifCond .eq (36)), 3) := by decide +kernel
theorem dMd_clashes_73 : decode mMd_clashes.2.2.2.1 73 = .ok ((.aload_n 0), 1) := by decide +kernel
theorem dMd_clashes_74 : decode mMd_clashes.2.2.2.1 74 = .ok ((.aload_n 0), 1) := by decide +kernel
theorem dMd_clashes_75 : decode mMd_clashes.2.2.2.1 75 = .ok ((.getfield 30), 3) := by decide +kernel
theorem dMd_clashes_78 : decode mMd_clashes.2.2.2.1 78 = .ok ((.iload_n 2), 1) := by decide +kernel
theorem dMd_clashes_79 : decode mMd_clashes.2.2.2.1 79 = .ok (.laload, 1) := by decide +kernel
theorem dMd_clashes_80 : decode mMd_clashes.2.2.2.1 80 = .ok ((.invokevirtual 219), 3) := by decide +kernel
theorem dMd_clashes_83 : decode mMd_clashes.2.2.2.1 83 = .ok ((.ifCond .ge (23)), 3) := by decide +kernel
theorem dMd_clashes_86 : decode mMd_clashes.2.2.2.1 86 = .ok ((.aload_n 0), 1) := by decide +kernel
theorem dMd_clashes_87 : decode mMd_clashes.2.2.2.1 87 = .ok ((.getfield 30), 3) := by decide +kernel
theorem dMd_clashes_90 : decode mMd_clashes.2.2.2.1 90 = .ok ((.iload_n 2), 1) := by decide +kernel
theorem dMd_clashes_91 : decode mMd_clashes.2.2.2.1 91 = .ok (.laload, 1) := by decide +kernel
theorem dMd_clashes_92 : decode mMd_clashes.2.2.2.1 92 = .ok ((.aload_n 0), 1) := by decide +kernel
theorem dMd_clashes_93 : decode mMd_clashes.2.2.2.1 93 = .ok ((.getfield 17), 3) := by decide +kernel
theorem dMd_clashes_96 : decode mMd_clashes.2.2.2.1 96 = .ok ((.iload_n 1), 1) := by decide +kernel
theorem dMd_clashes_97 : decode mMd_clashes.2.2.2.1 97 = .ok (.laload, 1) := by decide +kernel
theorem dMd_clashes_98 : decode mMd_clashes.2.2.2.1 98 = .ok ((.invokestatic 232), 3) := by decide +kernel
theorem dMd_clashes_101 : decode mMd_clashes.2.2.2.1 101 = .ok ((.ifCond .eq (5)), 3) := by decide +kernel
theorem dMd_clashes_104 : decode mMd_clashes.2.2.2.1 104 = .ok ((.iconst (1)), 1) := by decide +kernel
theorem dMd_clashes_105 : decode mMd_clashes.2.2.2.1 105 = .ok (.ireturn, 1) := by decide +kernel
theorem dMd_clashes_106 : decode mMd_clashes.2.2.2.1 106 = .ok ((.iinc 2 (1)), 3) := by decide +kernel
theorem dMd_clashes_109 : decode mMd_clashes.2.2.2.1 109 = .ok ((.goto (-53)), 3) := by decide +kernel
theorem dMd_clashes_112 : decode mMd_clashes.2.2.2.1 112 = .ok ((.iconst (0)), 1) := by decide +kernel
theorem dMd_clashes_113 : decode mMd_clashes.2.2.2.1 113 = .ok (.ireturn, 1) := by decide +kernel
theorem dMd_refusal_0 : decode mMd_refusal.2.2.2.1 0 = .ok ((.iconst (0)), 1) := by decide +kernel
theorem dMd_refusal_1 : decode mMd_refusal.2.2.2.1 1 = .ok ((.istore_n 1), 1) := by decide +kernel
theorem dMd_refusal_2 : decode mMd_refusal.2.2.2.1 2 = .ok ((.iload_n 1), 1) := by decide +kernel
theorem dMd_refusal_3 : decode mMd_refusal.2.2.2.1 3 = .ok ((.aload_n 0), 1) := by decide +kernel
theorem dMd_refusal_4 : decode mMd_refusal.2.2.2.1 4 = .ok ((.getfield 216), 3) := by decide +kernel
theorem dMd_refusal_7 : decode mMd_refusal.2.2.2.1 7 = .ok ((.if_icmp .ge (26)), 3) := by decide +kernel
theorem dMd_refusal_10 : decode mMd_refusal.2.2.2.1 10 = .ok ((.aload_n 0), 1) := by decide +kernel
theorem dMd_refusal_11 : decode mMd_refusal.2.2.2.1 11 = .ok ((.iload_n 1), 1) := by decide +kernel
theorem dMd_refusal_12 : decode mMd_refusal.2.2.2.1 12 = .ok ((.invokevirtual 235), 3) := by decide +kernel
theorem dMd_refusal_15 : decode mMd_refusal.2.2.2.1 15 = .ok ((.ifCond .eq (12)), 3) := by decide +kernel
theorem dMd_refusal_18 : decode mMd_refusal.2.2.2.1 18 = .ok ((.bipush (-100)), 2) := by decide +kernel
theorem dMd_refusal_20 : decode mMd_refusal.2.2.2.1 20 = .ok ((.iload_n 1), 1) := by decide +kernel
theorem dMd_refusal_21 : decode mMd_refusal.2.2.2.1 21 = .ok ((.iconst (1)), 1) := by decide +kernel
theorem dMd_refusal_22 : decode mMd_refusal.2.2.2.1 22 = .ok (.iadd, 1) := by decide +kernel
theorem dMd_refusal_23 : decode mMd_refusal.2.2.2.1 23 = .ok (.imul, 1) := by decide +kernel
theorem dMd_refusal_24 : decode mMd_refusal.2.2.2.1 24 = .ok ((.iconst (1)), 1) := by decide +kernel
theorem dMd_refusal_25 : decode mMd_refusal.2.2.2.1 25 = .ok (.isub, 1) := by decide +kernel
theorem dMd_refusal_26 : decode mMd_refusal.2.2.2.1 26 = .ok (.ireturn, 1) := by decide +kernel
theorem dMd_refusal_27 : decode mMd_refusal.2.2.2.1 27 = .ok ((.iinc 1 (1)), 3) := by decide +kernel
theorem dMd_refusal_30 : decode mMd_refusal.2.2.2.1 30 = .ok ((.goto (-28)), 3) := by decide +kernel
theorem dMd_refusal_33 : decode mMd_refusal.2.2.2.1 33 = .ok ((.iconst (0)), 1) := by decide +kernel
theorem dMd_refusal_34 : decode mMd_refusal.2.2.2.1 34 = .ok ((.istore_n 1), 1) := by decide +kernel
theorem dMd_refusal_35 : decode mMd_refusal.2.2.2.1 35 = .ok ((.iload_n 1), 1) := by decide +kernel
theorem dMd_refusal_36 : decode mMd_refusal.2.2.2.1 36 = .ok ((.aload_n 0), 1) := by decide +kernel
theorem dMd_refusal_37 : decode mMd_refusal.2.2.2.1 37 = .ok ((.getfield 216), 3) := by decide +kernel
theorem dMd_refusal_40 : decode mMd_refusal.2.2.2.1 40 = .ok ((.if_icmp .ge (26)), 3) := by decide +kernel
theorem dMd_refusal_43 : decode mMd_refusal.2.2.2.1 43 = .ok ((.aload_n 0), 1) := by decide +kernel
theorem dMd_refusal_44 : decode mMd_refusal.2.2.2.1 44 = .ok ((.iload_n 1), 1) := by decide +kernel
theorem dMd_refusal_45 : decode mMd_refusal.2.2.2.1 45 = .ok ((.invokevirtual 238), 3) := by decide +kernel
theorem dMd_refusal_48 : decode mMd_refusal.2.2.2.1 48 = .ok ((.ifCond .eq (12)), 3) := by decide +kernel
theorem dMd_refusal_51 : decode mMd_refusal.2.2.2.1 51 = .ok ((.bipush (-100)), 2) := by decide +kernel
theorem dMd_refusal_53 : decode mMd_refusal.2.2.2.1 53 = .ok ((.iload_n 1), 1) := by decide +kernel
theorem dMd_refusal_54 : decode mMd_refusal.2.2.2.1 54 = .ok ((.iconst (1)), 1) := by decide +kernel
theorem dMd_refusal_55 : decode mMd_refusal.2.2.2.1 55 = .ok (.iadd, 1) := by decide +kernel
theorem dMd_refusal_56 : decode mMd_refusal.2.2.2.1 56 = .ok (.imul, 1) := by decide +kernel
theorem dMd_refusal_57 : decode mMd_refusal.2.2.2.1 57 = .ok ((.iconst (2)), 1) := by decide +kernel
theorem dMd_refusal_58 : decode mMd_refusal.2.2.2.1 58 = .ok (.isub, 1) := by decide +kernel
theorem dMd_refusal_59 : decode mMd_refusal.2.2.2.1 59 = .ok (.ireturn, 1) := by decide +kernel
theorem dMd_refusal_60 : decode mMd_refusal.2.2.2.1 60 = .ok ((.iinc 1 (1)), 3) := by decide +kernel
theorem dMd_refusal_63 : decode mMd_refusal.2.2.2.1 63 = .ok ((.goto (-28)), 3) := by decide +kernel
theorem dMd_refusal_66 : decode mMd_refusal.2.2.2.1 66 = .ok ((.iconst (0)), 1) := by decide +kernel
theorem dMd_refusal_67 : decode mMd_refusal.2.2.2.1 67 = .ok (.ireturn, 1) := by decide +kernel
theorem dMd_oldNumber_0 : decode mMd_oldNumber.2.2.2.1 0 = .ok ((.aload_n 0), 1) := by decide +kernel
theorem dMd_oldNumber_1 : decode mMd_oldNumber.2.2.2.1 1 = .ok ((.lload_n 1), 1) := by decide +kernel
theorem dMd_oldNumber_2 : decode mMd_oldNumber.2.2.2.1 2 = .ok ((.invokevirtual 155), 3) := by decide +kernel
theorem dMd_oldNumber_5 : decode mMd_oldNumber.2.2.2.1 5 = .ok ((.istore_n 3), 1) := by decide +kernel
theorem dMd_oldNumber_6 : decode mMd_oldNumber.2.2.2.1 6 = .ok ((.iload_n 3), 1) := by decide +kernel
theorem dMd_oldNumber_7 : decode mMd_oldNumber.2.2.2.1 7 = .ok ((.ifCond .lt (23)), 3) := by decide +kernel
theorem dMd_oldNumber_10 : decode mMd_oldNumber.2.2.2.1 10 = .ok ((.aload_n 0), 1) := by decide +kernel
theorem dMd_oldNumber_11 : decode mMd_oldNumber.2.2.2.1 11 = .ok ((.getfield 33), 3) := by decide +kernel
theorem dMd_oldNumber_14 : decode mMd_oldNumber.2.2.2.1 14 = .ok ((.iload_n 3), 1) := by decide +kernel
theorem dMd_oldNumber_15 : decode mMd_oldNumber.2.2.2.1 15 = .ok (.iaload, 1) := by decide +kernel
theorem dMd_oldNumber_16 : decode mMd_oldNumber.2.2.2.1 16 = .ok ((.iconst (1)), 1) := by decide +kernel
theorem dMd_oldNumber_17 : decode mMd_oldNumber.2.2.2.1 17 = .ok ((.if_icmp .ne (13)), 3) := by decide +kernel
theorem dMd_oldNumber_20 : decode mMd_oldNumber.2.2.2.1 20 = .ok ((.aload_n 0), 1) := by decide +kernel
theorem dMd_oldNumber_21 : decode mMd_oldNumber.2.2.2.1 21 = .ok ((.getfield 39), 3) := by decide +kernel
theorem dMd_oldNumber_24 : decode mMd_oldNumber.2.2.2.1 24 = .ok ((.iload_n 3), 1) := by decide +kernel
theorem dMd_oldNumber_25 : decode mMd_oldNumber.2.2.2.1 25 = .ok (.laload, 1) := by decide +kernel
theorem dMd_oldNumber_26 : decode mMd_oldNumber.2.2.2.1 26 = .ok (.l2i, 1) := by decide +kernel
theorem dMd_oldNumber_27 : decode mMd_oldNumber.2.2.2.1 27 = .ok ((.goto (4)), 3) := by decide +kernel
theorem dMd_oldNumber_30 : decode mMd_oldNumber.2.2.2.1 30 = .ok ((.iconst (0)), 1) := by decide +kernel
theorem dMd_oldNumber_31 : decode mMd_oldNumber.2.2.2.1 31 = .ok (.ireturn, 1) := by decide +kernel
theorem dMd_putChanges_0 : decode mMd_putChanges.2.2.2.1 0 = .ok ((.aload_n 0), 1) := by decide +kernel
theorem dMd_putChanges_1 : decode mMd_putChanges.2.2.2.1 1 = .ok ((.invokevirtual 171), 3) := by decide +kernel
theorem dMd_putChanges_4 : decode mMd_putChanges.2.2.2.1 4 = .ok ((.iconst (0)), 1) := by decide +kernel
theorem dMd_putChanges_5 : decode mMd_putChanges.2.2.2.1 5 = .ok ((.istore_n 2), 1) := by decide +kernel
theorem dMd_putChanges_6 : decode mMd_putChanges.2.2.2.1 6 = .ok ((.iload_n 2), 1) := by decide +kernel
theorem dMd_putChanges_7 : decode mMd_putChanges.2.2.2.1 7 = .ok ((.aload_n 0), 1) := by decide +kernel
theorem dMd_putChanges_8 : decode mMd_putChanges.2.2.2.1 8 = .ok ((.getfield 216), 3) := by decide +kernel
theorem dMd_putChanges_11 : decode mMd_putChanges.2.2.2.1 11 = .ok ((.if_icmp .ge (68)), 3) := by decide +kernel
theorem dMd_putChanges_14 : decode mMd_putChanges.2.2.2.1 14 = .ok ((.aload_n 0), 1) := by decide +kernel
theorem dMd_putChanges_15 : decode mMd_putChanges.2.2.2.1 15 = .ok ((.aload_n 0), 1) := by decide +kernel
theorem dMd_putChanges_16 : decode mMd_putChanges.2.2.2.1 16 = .ok ((.getfield 17), 3) := by decide +kernel
theorem dMd_putChanges_19 : decode mMd_putChanges.2.2.2.1 19 = .ok ((.iload_n 2), 1) := by decide +kernel
theorem dMd_putChanges_20 : decode mMd_putChanges.2.2.2.1 20 = .ok (.laload, 1) := by decide +kernel
theorem dMd_putChanges_21 : decode mMd_putChanges.2.2.2.1 21 = .ok ((.aload_n 0), 1) := by decide +kernel
theorem dMd_putChanges_22 : decode mMd_putChanges.2.2.2.1 22 = .ok ((.iload_n 2), 1) := by decide +kernel
theorem dMd_putChanges_23 : decode mMd_putChanges.2.2.2.1 23 = .ok ((.invokevirtual 229), 3) := by decide +kernel
theorem dMd_putChanges_26 : decode mMd_putChanges.2.2.2.1 26 = .ok ((.iload_n 1), 1) := by decide +kernel
theorem dMd_putChanges_27 : decode mMd_putChanges.2.2.2.1 27 = .ok ((.aload_n 0), 1) := by decide +kernel
theorem dMd_putChanges_28 : decode mMd_putChanges.2.2.2.1 28 = .ok ((.getfield 27), 3) := by decide +kernel
theorem dMd_putChanges_31 : decode mMd_putChanges.2.2.2.1 31 = .ok ((.iload_n 2), 1) := by decide +kernel
theorem dMd_putChanges_32 : decode mMd_putChanges.2.2.2.1 32 = .ok (.laload, 1) := by decide +kernel
theorem dMd_putChanges_33 : decode mMd_putChanges.2.2.2.1 33 = .ok ((.invokevirtual 144), 3) := by decide +kernel
theorem dMd_putChanges_36 : decode mMd_putChanges.2.2.2.1 36 = .ok ((.aload_n 0), 1) := by decide +kernel
theorem dMd_putChanges_37 : decode mMd_putChanges.2.2.2.1 37 = .ok ((.getfield 21), 3) := by decide +kernel
theorem dMd_putChanges_40 : decode mMd_putChanges.2.2.2.1 40 = .ok ((.iload_n 2), 1) := by decide +kernel
theorem dMd_putChanges_41 : decode mMd_putChanges.2.2.2.1 41 = .ok (.iaload, 1) := by decide +kernel
theorem dMd_putChanges_42 : decode mMd_putChanges.2.2.2.1 42 = .ok ((.ifCond .ne (31)), 3) := by decide +kernel
theorem dMd_putChanges_45 : decode mMd_putChanges.2.2.2.1 45 = .ok ((.aload_n 0), 1) := by decide +kernel
theorem dMd_putChanges_46 : decode mMd_putChanges.2.2.2.1 46 = .ok ((.aload_n 0), 1) := by decide +kernel
theorem dMd_putChanges_47 : decode mMd_putChanges.2.2.2.1 47 = .ok ((.getfield 17), 3) := by decide +kernel
theorem dMd_putChanges_50 : decode mMd_putChanges.2.2.2.1 50 = .ok ((.iload_n 2), 1) := by decide +kernel
theorem dMd_putChanges_51 : decode mMd_putChanges.2.2.2.1 51 = .ok (.laload, 1) := by decide +kernel
theorem dMd_putChanges_52 : decode mMd_putChanges.2.2.2.1 52 = .ok ((.iload_n 1), 1) := by decide +kernel
theorem dMd_putChanges_53 : decode mMd_putChanges.2.2.2.1 53 = .ok ((.aload_n 0), 1) := by decide +kernel
theorem dMd_putChanges_54 : decode mMd_putChanges.2.2.2.1 54 = .ok ((.getfield 24), 3) := by decide +kernel
theorem dMd_putChanges_57 : decode mMd_putChanges.2.2.2.1 57 = .ok ((.iload_n 2), 1) := by decide +kernel
theorem dMd_putChanges_58 : decode mMd_putChanges.2.2.2.1 58 = .ok (.iaload, 1) := by decide +kernel
theorem dMd_putChanges_59 : decode mMd_putChanges.2.2.2.1 59 = .ok ((.aload_n 0), 1) := by decide +kernel
theorem dMd_putChanges_60 : decode mMd_putChanges.2.2.2.1 60 = .ok ((.getfield 27), 3) := by decide +kernel
theorem dMd_putChanges_63 : decode mMd_putChanges.2.2.2.1 63 = .ok ((.iload_n 2), 1) := by decide +kernel
theorem dMd_putChanges_64 : decode mMd_putChanges.2.2.2.1 64 = .ok (.laload, 1) := by decide +kernel
theorem dMd_putChanges_65 : decode mMd_putChanges.2.2.2.1 65 = .ok (.l2i, 1) := by decide +kernel
theorem dMd_putChanges_66 : decode mMd_putChanges.2.2.2.1 66 = .ok ((.aload_n 0), 1) := by decide +kernel
theorem dMd_putChanges_67 : decode mMd_putChanges.2.2.2.1 67 = .ok ((.getfield 158), 3) := by decide +kernel
theorem dMd_putChanges_70 : decode mMd_putChanges.2.2.2.1 70 = .ok ((.invokevirtual 148), 3) := by decide +kernel
theorem dMd_putChanges_73 : decode mMd_putChanges.2.2.2.1 73 = .ok ((.iinc 2 (1)), 3) := by decide +kernel
theorem dMd_putChanges_76 : decode mMd_putChanges.2.2.2.1 76 = .ok ((.goto (-70)), 3) := by decide +kernel
theorem dMd_putChanges_79 : decode mMd_putChanges.2.2.2.1 79 = .ok ((.aload_n 0), 1) := by decide +kernel
theorem dMd_putChanges_80 : decode mMd_putChanges.2.2.2.1 80 = .ok ((.iload_n 1), 1) := by decide +kernel
theorem dMd_putChanges_81 : decode mMd_putChanges.2.2.2.1 81 = .ok ((.putfield 165), 3) := by decide +kernel
theorem dMd_putChanges_84 : decode mMd_putChanges.2.2.2.1 84 = .ok ((.aload_n 0), 1) := by decide +kernel
theorem dMd_putChanges_85 : decode mMd_putChanges.2.2.2.1 85 = .ok ((.iload_n 1), 1) := by decide +kernel
theorem dMd_putChanges_86 : decode mMd_putChanges.2.2.2.1 86 = .ok ((.putfield 168), 3) := by decide +kernel
theorem dMd_putChanges_89 : decode mMd_putChanges.2.2.2.1 89 = .ok (.return_, 1) := by decide +kernel
theorem dMd_commit_0 : decode mMd_commit.2.2.2.1 0 = .ok ((.aload_n 0), 1) := by decide +kernel
theorem dMd_commit_1 : decode mMd_commit.2.2.2.1 1 = .ok ((.getfield 213), 3) := by decide +kernel
theorem dMd_commit_4 : decode mMd_commit.2.2.2.1 4 = .ok ((.ifCond .ne (5)), 3) := by decide +kernel
theorem dMd_commit_7 : decode mMd_commit.2.2.2.1 7 = .ok ((.iconst (-1)), 1) := by decide +kernel
theorem dMd_commit_8 : decode mMd_commit.2.2.2.1 8 = .ok (.ireturn, 1) := by decide +kernel
theorem dMd_commit_9 : decode mMd_commit.2.2.2.1 9 = .ok ((.aload_n 0), 1) := by decide +kernel
theorem dMd_commit_10 : decode mMd_commit.2.2.2.1 10 = .ok ((.invokevirtual 241), 3) := by decide +kernel
theorem dMd_commit_13 : decode mMd_commit.2.2.2.1 13 = .ok ((.ifCond .ne (6)), 3) := by decide +kernel
theorem dMd_commit_16 : decode mMd_commit.2.2.2.1 16 = .ok ((.bipush (-2)), 2) := by decide +kernel
theorem dMd_commit_18 : decode mMd_commit.2.2.2.1 18 = .ok (.ireturn, 1) := by decide +kernel
theorem dMd_commit_19 : decode mMd_commit.2.2.2.1 19 = .ok ((.aload_n 0), 1) := by decide +kernel
theorem dMd_commit_20 : decode mMd_commit.2.2.2.1 20 = .ok ((.invokevirtual 245), 3) := by decide +kernel
theorem dMd_commit_23 : decode mMd_commit.2.2.2.1 23 = .ok ((.istore_n 1), 1) := by decide +kernel
theorem dMd_commit_24 : decode mMd_commit.2.2.2.1 24 = .ok ((.iload_n 1), 1) := by decide +kernel
theorem dMd_commit_25 : decode mMd_commit.2.2.2.1 25 = .ok ((.ifCond .lt (10)), 3) := by decide +kernel
theorem dMd_commit_28 : decode mMd_commit.2.2.2.1 28 = .ok ((.aload_n 0), 1) := by decide +kernel
theorem dMd_commit_29 : decode mMd_commit.2.2.2.1 29 = .ok ((.getfield 216), 3) := by decide +kernel
theorem dMd_commit_32 : decode mMd_commit.2.2.2.1 32 = .ok ((.ifCond .ne (10)), 3) := by decide +kernel
theorem dMd_commit_35 : decode mMd_commit.2.2.2.1 35 = .ok ((.aload_n 0), 1) := by decide +kernel
theorem dMd_commit_36 : decode mMd_commit.2.2.2.1 36 = .ok ((.iconst (0)), 1) := by decide +kernel
theorem dMd_commit_37 : decode mMd_commit.2.2.2.1 37 = .ok ((.putfield 213), 3) := by decide +kernel
theorem dMd_commit_40 : decode mMd_commit.2.2.2.1 40 = .ok ((.iload_n 1), 1) := by decide +kernel
theorem dMd_commit_41 : decode mMd_commit.2.2.2.1 41 = .ok (.ireturn, 1) := by decide +kernel
theorem dMd_commit_42 : decode mMd_commit.2.2.2.1 42 = .ok ((.aload_n 0), 1) := by decide +kernel
theorem dMd_commit_43 : decode mMd_commit.2.2.2.1 43 = .ok ((.getfield 168), 3) := by decide +kernel
theorem dMd_commit_46 : decode mMd_commit.2.2.2.1 46 = .ok ((.iconst (1)), 1) := by decide +kernel
theorem dMd_commit_47 : decode mMd_commit.2.2.2.1 47 = .ok (.iadd, 1) := by decide +kernel
theorem dMd_commit_48 : decode mMd_commit.2.2.2.1 48 = .ok ((.istore_n 2), 1) := by decide +kernel
theorem dMd_commit_49 : decode mMd_commit.2.2.2.1 49 = .ok ((.aload_n 0), 1) := by decide +kernel
theorem dMd_commit_50 : decode mMd_commit.2.2.2.1 50 = .ok ((.getfield 152), 3) := by decide +kernel
theorem dMd_commit_53 : decode mMd_commit.2.2.2.1 53 = .ok ((.istore_n 3), 1) := by decide +kernel
theorem dMd_commit_54 : decode mMd_commit.2.2.2.1 54 = .ok ((.aload_n 0), 1) := by decide +kernel
theorem dMd_commit_55 : decode mMd_commit.2.2.2.1 55 = .ok ((.getfield 122), 3) := by decide +kernel
theorem dMd_commit_58 : decode mMd_commit.2.2.2.1 58 = .ok ((.istore 4), 2) := by decide +kernel
theorem dMd_commit_60 : decode mMd_commit.2.2.2.1 60 = .ok ((.iconst (0)), 1) := by decide +kernel
theorem dMd_commit_61 : decode mMd_commit.2.2.2.1 61 = .ok ((.istore 5), 2) := by decide +kernel
theorem dMd_commit_63 : decode mMd_commit.2.2.2.1 63 = .ok ((.iload 5), 2) := by decide +kernel
theorem dMd_commit_65 : decode mMd_commit.2.2.2.1 65 = .ok ((.aload_n 0), 1) := by decide +kernel
theorem dMd_commit_66 : decode mMd_commit.2.2.2.1 66 = .ok ((.getfield 216), 3) := by decide +kernel
theorem dMd_commit_69 : decode mMd_commit.2.2.2.1 69 = .ok ((.if_icmp .ge (52)), 3) := by decide +kernel
theorem dMd_commit_72 : decode mMd_commit.2.2.2.1 72 = .ok ((.aload_n 0), 1) := by decide +kernel
theorem dMd_commit_73 : decode mMd_commit.2.2.2.1 73 = .ok ((.aload_n 0), 1) := by decide +kernel
theorem dMd_commit_74 : decode mMd_commit.2.2.2.1 74 = .ok ((.getfield 17), 3) := by decide +kernel
theorem dMd_commit_77 : decode mMd_commit.2.2.2.1 77 = .ok ((.iload 5), 2) := by decide +kernel
theorem dMd_commit_79 : decode mMd_commit.2.2.2.1 79 = .ok (.laload, 1) := by decide +kernel
theorem dMd_commit_80 : decode mMd_commit.2.2.2.1 80 = .ok ((.invokevirtual 155), 3) := by decide +kernel
theorem dMd_commit_83 : decode mMd_commit.2.2.2.1 83 = .ok ((.ifCond .ge (9)), 3) := by decide +kernel
theorem dMd_commit_86 : decode mMd_commit.2.2.2.1 86 = .ok ((.iload_n 3), 1) := by decide +kernel
theorem dMd_commit_87 : decode mMd_commit.2.2.2.1 87 = .ok ((.iconst (1)), 1) := by decide +kernel
theorem dMd_commit_88 : decode mMd_commit.2.2.2.1 88 = .ok (.iadd, 1) := by decide +kernel
theorem dMd_commit_89 : decode mMd_commit.2.2.2.1 89 = .ok ((.goto (4)), 3) := by decide +kernel
theorem dMd_commit_92 : decode mMd_commit.2.2.2.1 92 = .ok ((.iload_n 3), 1) := by decide +kernel
theorem dMd_commit_93 : decode mMd_commit.2.2.2.1 93 = .ok ((.istore_n 3), 1) := by decide +kernel
theorem dMd_commit_94 : decode mMd_commit.2.2.2.1 94 = .ok ((.aload_n 0), 1) := by decide +kernel
theorem dMd_commit_95 : decode mMd_commit.2.2.2.1 95 = .ok ((.getfield 21), 3) := by decide +kernel
theorem dMd_commit_98 : decode mMd_commit.2.2.2.1 98 = .ok ((.iload 5), 2) := by decide +kernel
theorem dMd_commit_100 : decode mMd_commit.2.2.2.1 100 = .ok (.iaload, 1) := by decide +kernel
theorem dMd_commit_101 : decode mMd_commit.2.2.2.1 101 = .ok ((.ifCond .ne (10)), 3) := by decide +kernel
theorem dMd_commit_104 : decode mMd_commit.2.2.2.1 104 = .ok ((.iload 4), 2) := by decide +kernel
theorem dMd_commit_106 : decode mMd_commit.2.2.2.1 106 = .ok ((.iconst (1)), 1) := by decide +kernel
theorem dMd_commit_107 : decode mMd_commit.2.2.2.1 107 = .ok (.iadd, 1) := by decide +kernel
theorem dMd_commit_108 : decode mMd_commit.2.2.2.1 108 = .ok ((.goto (5)), 3) := by decide +kernel
theorem dMd_commit_111 : decode mMd_commit.2.2.2.1 111 = .ok ((.iload 4), 2) := by decide +kernel
theorem dMd_commit_113 : decode mMd_commit.2.2.2.1 113 = .ok ((.istore 4), 2) := by decide +kernel
theorem dMd_commit_115 : decode mMd_commit.2.2.2.1 115 = .ok ((.iinc 5 (1)), 3) := by decide +kernel
theorem dMd_commit_118 : decode mMd_commit.2.2.2.1 118 = .ok ((.goto (-55)), 3) := by decide +kernel
theorem dMd_commit_121 : decode mMd_commit.2.2.2.1 121 = .ok ((.aload_n 0), 1) := by decide +kernel
theorem dMd_commit_122 : decode mMd_commit.2.2.2.1 122 = .ok ((.iconst (0)), 1) := by decide +kernel
theorem dMd_commit_123 : decode mMd_commit.2.2.2.1 123 = .ok ((.putfield 213), 3) := by decide +kernel
theorem dMd_commit_126 : decode mMd_commit.2.2.2.1 126 = .ok ((.iload_n 3), 1) := by decide +kernel
theorem dMd_commit_127 : decode mMd_commit.2.2.2.1 127 = .ok ((.bipush (16)), 2) := by decide +kernel
theorem dMd_commit_129 : decode mMd_commit.2.2.2.1 129 = .ok ((.if_icmp .gt (17)), 3) := by decide +kernel
theorem dMd_commit_132 : decode mMd_commit.2.2.2.1 132 = .ok ((.iload 4), 2) := by decide +kernel
theorem dMd_commit_134 : decode mMd_commit.2.2.2.1 134 = .ok ((.bipush (24)), 2) := by decide +kernel
theorem dMd_commit_136 : decode mMd_commit.2.2.2.1 136 = .ok ((.if_icmp .gt (10)), 3) := by decide +kernel
theorem dMd_commit_139 : decode mMd_commit.2.2.2.1 139 = .ok ((.iload_n 2), 1) := by decide +kernel
theorem dMd_commit_140 : decode mMd_commit.2.2.2.1 140 = .ok ((.sipush (2000)), 3) := by decide +kernel
theorem dMd_commit_143 : decode mMd_commit.2.2.2.1 143 = .ok ((.if_icmp .le (8)), 3) := by decide +kernel
theorem dMd_commit_146 : decode mMd_commit.2.2.2.1 146 = .ok ((.bipush (-3)), 2) := by decide +kernel
theorem dMd_commit_148 : decode mMd_commit.2.2.2.1 148 = .ok ((.goto (8)), 3) := by decide +kernel
theorem dMd_commit_151 : decode mMd_commit.2.2.2.1 151 = .ok ((.aload_n 0), 1) := by decide +kernel
theorem dMd_commit_152 : decode mMd_commit.2.2.2.1 152 = .ok ((.iload_n 2), 1) := by decide +kernel
theorem dMd_commit_153 : decode mMd_commit.2.2.2.1 153 = .ok ((.invokevirtual 248), 3) := by decide +kernel
theorem dMd_commit_156 : decode mMd_commit.2.2.2.1 156 = .ok (.ireturn, 1) := by decide +kernel
