theorem dMd_store_0 : decode mMd_store.2.2.2.1 0 = .ok ((.iconst (0)), 1) := by decide +kernel
theorem dMd_store_1 : decode mMd_store.2.2.2.1 1 = .ok ((.istore_n 2), 1) := by decide +kernel
theorem dMd_store_2 : decode mMd_store.2.2.2.1 2 = .ok ((.iload_n 2), 1) := by decide +kernel
theorem dMd_store_3 : decode mMd_store.2.2.2.1 3 = .ok ((.aload_n 0), 1) := by decide +kernel
theorem dMd_store_4 : decode mMd_store.2.2.2.1 4 = .ok ((.getfield 216), 3) := by decide +kernel
theorem dMd_store_7 : decode mMd_store.2.2.2.1 7 = .ok ((.if_icmp .ge (25)), 3) := by decide +kernel
theorem dMd_store_10 : decode mMd_store.2.2.2.1 10 = .ok ((.aload_n 0), 1) := by decide +kernel
theorem dMd_store_11 : decode mMd_store.2.2.2.1 11 = .ok ((.getfield 24), 3) := by decide +kernel
theorem dMd_store_14 : decode mMd_store.2.2.2.1 14 = .ok ((.iload_n 2), 1) := by decide +kernel
theorem dMd_store_15 : decode mMd_store.2.2.2.1 15 = .ok ((.aload_n 0), 1) := by decide +kernel
theorem dMd_store_16 : decode mMd_store.2.2.2.1 16 = .ok ((.aload_n 0), 1) := by decide +kernel
theorem dMd_store_17 : decode mMd_store.2.2.2.1 17 = .ok ((.getfield 17), 3) := by decide +kernel
theorem dMd_store_20 : decode mMd_store.2.2.2.1 20 = .ok ((.iload_n 2), 1) := by decide +kernel
theorem dMd_store_21 : decode mMd_store.2.2.2.1 21 = .ok (.laload, 1) := by decide +kernel
theorem dMd_store_22 : decode mMd_store.2.2.2.1 22 = .ok ((.invokevirtual 251), 3) := by decide +kernel
theorem dMd_store_25 : decode mMd_store.2.2.2.1 25 = .ok (.iastore, 1) := by decide +kernel
theorem dMd_store_26 : decode mMd_store.2.2.2.1 26 = .ok ((.iinc 2 (1)), 3) := by decide +kernel
theorem dMd_store_29 : decode mMd_store.2.2.2.1 29 = .ok ((.goto (-27)), 3) := by decide +kernel
theorem dMd_store_32 : decode mMd_store.2.2.2.1 32 = .ok ((.aload_n 0), 1) := by decide +kernel
theorem dMd_store_33 : decode mMd_store.2.2.2.1 33 = .ok ((.getfield 158), 3) := by decide +kernel
theorem dMd_store_36 : decode mMd_store.2.2.2.1 36 = .ok ((.istore_n 2), 1) := by decide +kernel
theorem dMd_store_37 : decode mMd_store.2.2.2.1 37 = .ok ((.aload_n 0), 1) := by decide +kernel
theorem dMd_store_38 : decode mMd_store.2.2.2.1 38 = .ok ((.iload_n 1), 1) := by decide +kernel
theorem dMd_store_39 : decode mMd_store.2.2.2.1 39 = .ok ((.invokevirtual 254), 3) := by decide +kernel
theorem dMd_store_42 : decode mMd_store.2.2.2.1 42 = .ok ((.aload_n 0), 1) := by decide +kernel
theorem dMd_store_43 : decode mMd_store.2.2.2.1 43 = .ok ((.iconst (0)), 1) := by decide +kernel
theorem dMd_store_44 : decode mMd_store.2.2.2.1 44 = .ok ((.iconst (0)), 1) := by decide +kernel
theorem dMd_store_45 : decode mMd_store.2.2.2.1 45 = .ok ((.invokevirtual 257), 3) := by decide +kernel
theorem dMd_store_48 : decode mMd_store.2.2.2.1 48 = .ok ((.istore_n 3), 1) := by decide +kernel
theorem dMd_store_49 : decode mMd_store.2.2.2.1 49 = .ok ((.iload_n 3), 1) := by decide +kernel
theorem dMd_store_50 : decode mMd_store.2.2.2.1 50 = .ok ((.ifCond .eq (70)), 3) := by decide +kernel
theorem dMd_store_53 : decode mMd_store.2.2.2.1 53 = .ok ((.iload_n 2), 1) := by decide +kernel
theorem dMd_store_54 : decode mMd_store.2.2.2.1 54 = .ok ((.ifCond .le (66)), 3) := by decide +kernel
theorem dMd_store_57 : decode mMd_store.2.2.2.1 57 = .ok ((.aload_n 0), 1) := by decide +kernel
theorem dMd_store_58 : decode mMd_store.2.2.2.1 58 = .ok ((.getfield 13), 3) := by decide +kernel
theorem dMd_store_61 : decode mMd_store.2.2.2.1 61 = .ok ((.iload_n 2), 1) := by decide +kernel
theorem dMd_store_62 : decode mMd_store.2.2.2.1 62 = .ok ((.iconst (1)), 1) := by decide +kernel
theorem dMd_store_63 : decode mMd_store.2.2.2.1 63 = .ok (.isub, 1) := by decide +kernel
theorem dMd_store_64 : decode mMd_store.2.2.2.1 64 = .ok (.iaload, 1) := by decide +kernel
theorem dMd_store_65 : decode mMd_store.2.2.2.1 65 = .ok ((.iconst (2)), 1) := by decide +kernel
theorem dMd_store_66 : decode mMd_store.2.2.2.1 66 = .ok ((.aload_n 0), 1) := by decide +kernel
theorem dMd_store_67 : decode mMd_store.2.2.2.1 67 = .ok ((.getfield 177), 3) := by decide +kernel
theorem dMd_store_70 : decode mMd_store.2.2.2.1 70 = .ok (.imul, 1) := by decide +kernel
theorem dMd_store_71 : decode mMd_store.2.2.2.1 71 = .ok ((.if_icmp .ge (49)), 3) := by decide +kernel
theorem dMd_store_74 : decode mMd_store.2.2.2.1 74 = .ok ((.iinc 2 (-1)), 3) := by decide +kernel
theorem dMd_store_77 : decode mMd_store.2.2.2.1 77 = .ok ((.aload_n 0), 1) := by decide +kernel
theorem dMd_store_78 : decode mMd_store.2.2.2.1 78 = .ok ((.iload_n 1), 1) := by decide +kernel
theorem dMd_store_79 : decode mMd_store.2.2.2.1 79 = .ok ((.invokevirtual 254), 3) := by decide +kernel
theorem dMd_store_82 : decode mMd_store.2.2.2.1 82 = .ok ((.aload_n 0), 1) := by decide +kernel
theorem dMd_store_83 : decode mMd_store.2.2.2.1 83 = .ok ((.iload_n 2), 1) := by decide +kernel
theorem dMd_store_84 : decode mMd_store.2.2.2.1 84 = .ok ((.invokevirtual 174), 3) := by decide +kernel
theorem dMd_store_87 : decode mMd_store.2.2.2.1 87 = .ok ((.istore 4), 2) := by decide +kernel
theorem dMd_store_89 : decode mMd_store.2.2.2.1 89 = .ok ((.iload 4), 2) := by decide +kernel
theorem dMd_store_91 : decode mMd_store.2.2.2.1 91 = .ok ((.ifCond .eq (24)), 3) := by decide +kernel
theorem dMd_store_94 : decode mMd_store.2.2.2.1 94 = .ok ((.aload_n 0), 1) := by decide +kernel
theorem dMd_store_95 : decode mMd_store.2.2.2.1 95 = .ok ((.iload_n 2), 1) := by decide +kernel
theorem dMd_store_96 : decode mMd_store.2.2.2.1 96 = .ok ((.ifCond .ne (7)), 3) := by decide +kernel
theorem dMd_store_99 : decode mMd_store.2.2.2.1 99 = .ok ((.iconst (1)), 1) := by decide +kernel
theorem dMd_store_100 : decode mMd_store.2.2.2.1 100 = .ok ((.goto (4)), 3) := by decide +kernel
theorem dMd_store_103 : decode mMd_store.2.2.2.1 103 = .ok ((.iconst (0)), 1) := by decide +kernel
theorem dMd_store_104 : decode mMd_store.2.2.2.1 104 = .ok ((.iconst (0)), 1) := by decide +kernel
theorem dMd_store_105 : decode mMd_store.2.2.2.1 105 = .ok ((.invokevirtual 257), 3) := by decide +kernel
theorem dMd_store_108 : decode mMd_store.2.2.2.1 108 = .ok ((.ifCond .eq (7)), 3) := by decide +kernel
theorem dMd_store_111 : decode mMd_store.2.2.2.1 111 = .ok ((.iconst (1)), 1) := by decide +kernel
theorem dMd_store_112 : decode mMd_store.2.2.2.1 112 = .ok ((.goto (4)), 3) := by decide +kernel
theorem dMd_store_115 : decode mMd_store.2.2.2.1 115 = .ok ((.iconst (0)), 1) := by decide +kernel
theorem dMd_store_116 : decode mMd_store.2.2.2.1 116 = .ok ((.istore_n 3), 1) := by decide +kernel
theorem dMd_store_117 : decode mMd_store.2.2.2.1 117 = .ok ((.goto (-68)), 3) := by decide +kernel
theorem dMd_store_120 : decode mMd_store.2.2.2.1 120 = .ok ((.iload_n 3), 1) := by decide +kernel
theorem dMd_store_121 : decode mMd_store.2.2.2.1 121 = .ok ((.ifCond .ne (6)), 3) := by decide +kernel
theorem dMd_store_124 : decode mMd_store.2.2.2.1 124 = .ok ((.bipush (-3)), 2) := by decide +kernel
theorem dMd_store_126 : decode mMd_store.2.2.2.1 126 = .ok (.ireturn, 1) := by decide +kernel
theorem dMd_store_127 : decode mMd_store.2.2.2.1 127 = .ok ((.aload_n 0), 1) := by decide +kernel
theorem dMd_store_128 : decode mMd_store.2.2.2.1 128 = .ok ((.iload_n 2), 1) := by decide +kernel
theorem dMd_store_129 : decode mMd_store.2.2.2.1 129 = .ok ((.invokevirtual 260), 3) := by decide +kernel
theorem dMd_store_132 : decode mMd_store.2.2.2.1 132 = .ok ((.iload_n 1), 1) := by decide +kernel
theorem dMd_store_133 : decode mMd_store.2.2.2.1 133 = .ok (.ireturn, 1) := by decide +kernel
theorem dMd_abort_0 : decode mMd_abort.2.2.2.1 0 = .ok ((.aload_n 0), 1) := by decide +kernel
theorem dMd_abort_1 : decode mMd_abort.2.2.2.1 1 = .ok ((.getfield 213), 3) := by decide +kernel
theorem dMd_abort_4 : decode mMd_abort.2.2.2.1 4 = .ok ((.ifCond .ne (5)), 3) := by decide +kernel
theorem dMd_abort_7 : decode mMd_abort.2.2.2.1 7 = .ok ((.iconst (-1)), 1) := by decide +kernel
theorem dMd_abort_8 : decode mMd_abort.2.2.2.1 8 = .ok (.ireturn, 1) := by decide +kernel
theorem dMd_abort_9 : decode mMd_abort.2.2.2.1 9 = .ok ((.aload_n 0), 1) := by decide +kernel
theorem dMd_abort_10 : decode mMd_abort.2.2.2.1 10 = .ok ((.iconst (0)), 1) := by decide +kernel
theorem dMd_abort_11 : decode mMd_abort.2.2.2.1 11 = .ok ((.putfield 213), 3) := by decide +kernel
theorem dMd_abort_14 : decode mMd_abort.2.2.2.1 14 = .ok ((.aload_n 0), 1) := by decide +kernel
theorem dMd_abort_15 : decode mMd_abort.2.2.2.1 15 = .ok ((.getfield 216), 3) := by decide +kernel
theorem dMd_abort_18 : decode mMd_abort.2.2.2.1 18 = .ok (.ireturn, 1) := by decide +kernel
theorem dMd_get_0 : decode mMd_get.2.2.2.1 0 = .ok ((.aload_n 0), 1) := by decide +kernel
theorem dMd_get_1 : decode mMd_get.2.2.2.1 1 = .ok ((.invokevirtual 241), 3) := by decide +kernel
theorem dMd_get_4 : decode mMd_get.2.2.2.1 4 = .ok ((.ifCond .ne (6)), 3) := by decide +kernel
theorem dMd_get_7 : decode mMd_get.2.2.2.1 7 = .ok ((.bipush (-2)), 2) := by decide +kernel
theorem dMd_get_9 : decode mMd_get.2.2.2.1 9 = .ok (.ireturn, 1) := by decide +kernel
theorem dMd_get_10 : decode mMd_get.2.2.2.1 10 = .ok ((.aload_n 0), 1) := by decide +kernel
theorem dMd_get_11 : decode mMd_get.2.2.2.1 11 = .ok ((.lload_n 1), 1) := by decide +kernel
theorem dMd_get_12 : decode mMd_get.2.2.2.1 12 = .ok ((.invokevirtual 155), 3) := by decide +kernel
theorem dMd_get_15 : decode mMd_get.2.2.2.1 15 = .ok ((.istore_n 3), 1) := by decide +kernel
theorem dMd_get_16 : decode mMd_get.2.2.2.1 16 = .ok ((.iload_n 3), 1) := by decide +kernel
theorem dMd_get_17 : decode mMd_get.2.2.2.1 17 = .ok ((.ifCond .lt (12)), 3) := by decide +kernel
theorem dMd_get_20 : decode mMd_get.2.2.2.1 20 = .ok ((.aload_n 0), 1) := by decide +kernel
theorem dMd_get_21 : decode mMd_get.2.2.2.1 21 = .ok ((.getfield 33), 3) := by decide +kernel
theorem dMd_get_24 : decode mMd_get.2.2.2.1 24 = .ok ((.iload_n 3), 1) := by decide +kernel
theorem dMd_get_25 : decode mMd_get.2.2.2.1 25 = .ok (.iaload, 1) := by decide +kernel
theorem dMd_get_26 : decode mMd_get.2.2.2.1 26 = .ok ((.ifCond .ne (7)), 3) := by decide +kernel
theorem dMd_get_29 : decode mMd_get.2.2.2.1 29 = .ok ((.iconst (0)), 1) := by decide +kernel
theorem dMd_get_30 : decode mMd_get.2.2.2.1 30 = .ok ((.goto (25)), 3) := by decide +kernel
theorem dMd_get_33 : decode mMd_get.2.2.2.1 33 = .ok ((.aload_n 0), 1) := by decide +kernel
theorem dMd_get_34 : decode mMd_get.2.2.2.1 34 = .ok ((.getfield 33), 3) := by decide +kernel
theorem dMd_get_37 : decode mMd_get.2.2.2.1 37 = .ok ((.iload_n 3), 1) := by decide +kernel
theorem dMd_get_38 : decode mMd_get.2.2.2.1 38 = .ok (.iaload, 1) := by decide +kernel
theorem dMd_get_39 : decode mMd_get.2.2.2.1 39 = .ok ((.iconst (1)), 1) := by decide +kernel
theorem dMd_get_40 : decode mMd_get.2.2.2.1 40 = .ok ((.if_icmp .ne (13)), 3) := by decide +kernel
theorem dMd_get_43 : decode mMd_get.2.2.2.1 43 = .ok ((.aload_n 0), 1) := by decide +kernel
theorem dMd_get_44 : decode mMd_get.2.2.2.1 44 = .ok ((.getfield 39), 3) := by decide +kernel
theorem dMd_get_47 : decode mMd_get.2.2.2.1 47 = .ok ((.iload_n 3), 1) := by decide +kernel
theorem dMd_get_48 : decode mMd_get.2.2.2.1 48 = .ok (.laload, 1) := by decide +kernel
theorem dMd_get_49 : decode mMd_get.2.2.2.1 49 = .ok (.l2i, 1) := by decide +kernel
theorem dMd_get_50 : decode mMd_get.2.2.2.1 50 = .ok ((.goto (5)), 3) := by decide +kernel
theorem dMd_get_53 : decode mMd_get.2.2.2.1 53 = .ok ((.bipush (-4)), 2) := by decide +kernel
theorem dMd_get_55 : decode mMd_get.2.2.2.1 55 = .ok (.ireturn, 1) := by decide +kernel
theorem dMd_target_0 : decode mMd_target.2.2.2.1 0 = .ok ((.aload_n 0), 1) := by decide +kernel
theorem dMd_target_1 : decode mMd_target.2.2.2.1 1 = .ok ((.invokevirtual 241), 3) := by decide +kernel
theorem dMd_target_4 : decode mMd_target.2.2.2.1 4 = .ok ((.ifCond .ne (7)), 3) := by decide +kernel
theorem dMd_target_7 : decode mMd_target.2.2.2.1 7 = .ok ((.ldc2_w 263), 3) := by decide +kernel
theorem dMd_target_10 : decode mMd_target.2.2.2.1 10 = .ok (.lreturn, 1) := by decide +kernel
theorem dMd_target_11 : decode mMd_target.2.2.2.1 11 = .ok ((.aload_n 0), 1) := by decide +kernel
theorem dMd_target_12 : decode mMd_target.2.2.2.1 12 = .ok ((.lload_n 1), 1) := by decide +kernel
theorem dMd_target_13 : decode mMd_target.2.2.2.1 13 = .ok ((.invokevirtual 155), 3) := by decide +kernel
theorem dMd_target_16 : decode mMd_target.2.2.2.1 16 = .ok ((.istore_n 3), 1) := by decide +kernel
theorem dMd_target_17 : decode mMd_target.2.2.2.1 17 = .ok ((.iload_n 3), 1) := by decide +kernel
theorem dMd_target_18 : decode mMd_target.2.2.2.1 18 = .ok ((.ifCond .lt (22)), 3) := by decide +kernel
theorem dMd_target_21 : decode mMd_target.2.2.2.1 21 = .ok ((.aload_n 0), 1) := by decide +kernel
theorem dMd_target_22 : decode mMd_target.2.2.2.1 22 = .ok ((.getfield 33), 3) := by decide +kernel
theorem dMd_target_25 : decode mMd_target.2.2.2.1 25 = .ok ((.iload_n 3), 1) := by decide +kernel
theorem dMd_target_26 : decode mMd_target.2.2.2.1 26 = .ok (.iaload, 1) := by decide +kernel
theorem dMd_target_27 : decode mMd_target.2.2.2.1 27 = .ok ((.iconst (2)), 1) := by decide +kernel
theorem dMd_target_28 : decode mMd_target.2.2.2.1 28 = .ok ((.if_icmp .ne (12)), 3) := by decide +kernel
theorem dMd_target_31 : decode mMd_target.2.2.2.1 31 = .ok ((.aload_n 0), 1) := by decide +kernel
theorem dMd_target_32 : decode mMd_target.2.2.2.1 32 = .ok ((.getfield 39), 3) := by decide +kernel
theorem dMd_target_35 : decode mMd_target.2.2.2.1 35 = .ok ((.iload_n 3), 1) := by decide +kernel
theorem dMd_target_36 : decode mMd_target.2.2.2.1 36 = .ok (.laload, 1) := by decide +kernel
theorem dMd_target_37 : decode mMd_target.2.2.2.1 37 = .ok ((.goto (4)), 3) := by decide +kernel
theorem dMd_target_40 : decode mMd_target.2.2.2.1 40 = .ok ((.lconst 0), 1) := by decide +kernel
theorem dMd_target_41 : decode mMd_target.2.2.2.1 41 = .ok (.lreturn, 1) := by decide +kernel
theorem dMd_resolve_0 : decode mMd_resolve.2.2.2.1 0 = .ok ((.aload_n 0), 1) := by decide +kernel
theorem dMd_resolve_1 : decode mMd_resolve.2.2.2.1 1 = .ok ((.invokevirtual 241), 3) := by decide +kernel
theorem dMd_resolve_4 : decode mMd_resolve.2.2.2.1 4 = .ok ((.ifCond .ne (6)), 3) := by decide +kernel
theorem dMd_resolve_7 : decode mMd_resolve.2.2.2.1 7 = .ok ((.bipush (-2)), 2) := by decide +kernel
theorem dMd_resolve_9 : decode mMd_resolve.2.2.2.1 9 = .ok (.ireturn, 1) := by decide +kernel
theorem dMd_resolve_10 : decode mMd_resolve.2.2.2.1 10 = .ok ((.aload_n 0), 1) := by decide +kernel
theorem dMd_resolve_11 : decode mMd_resolve.2.2.2.1 11 = .ok ((.lload_n 1), 1) := by decide +kernel
theorem dMd_resolve_12 : decode mMd_resolve.2.2.2.1 12 = .ok ((.invokevirtual 155), 3) := by decide +kernel
theorem dMd_resolve_15 : decode mMd_resolve.2.2.2.1 15 = .ok ((.istore_n 3), 1) := by decide +kernel
theorem dMd_resolve_16 : decode mMd_resolve.2.2.2.1 16 = .ok ((.iconst (0)), 1) := by decide +kernel
theorem dMd_resolve_17 : decode mMd_resolve.2.2.2.1 17 = .ok ((.istore 4), 2) := by decide +kernel
theorem dMd_resolve_19 : decode mMd_resolve.2.2.2.1 19 = .ok ((.iload 4), 2) := by decide +kernel
theorem dMd_resolve_21 : decode mMd_resolve.2.2.2.1 21 = .ok ((.iconst (5)), 1) := by decide +kernel
theorem dMd_resolve_22 : decode mMd_resolve.2.2.2.1 22 = .ok ((.if_icmp .ge (34)), 3) := by decide +kernel
theorem dMd_resolve_25 : decode mMd_resolve.2.2.2.1 25 = .ok ((.iload_n 3), 1) := by decide +kernel
theorem dMd_resolve_26 : decode mMd_resolve.2.2.2.1 26 = .ok ((.ifCond .lt (30)), 3) := by decide +kernel
theorem dMd_resolve_29 : decode mMd_resolve.2.2.2.1 29 = .ok ((.aload_n 0), 1) := by decide +kernel
theorem dMd_resolve_30 : decode mMd_resolve.2.2.2.1 30 = .ok ((.getfield 33), 3) := by decide +kernel
theorem dMd_resolve_33 : decode mMd_resolve.2.2.2.1 33 = .ok ((.iload_n 3), 1) := by decide +kernel
theorem dMd_resolve_34 : decode mMd_resolve.2.2.2.1 34 = .ok (.iaload, 1) := by decide +kernel
theorem dMd_resolve_35 : decode mMd_resolve.2.2.2.1 35 = .ok ((.iconst (2)), 1) := by decide +kernel
theorem dMd_resolve_36 : decode mMd_resolve.2.2.2.1 36 = .ok ((.if_icmp .ne (20)), 3) := by decide +kernel
theorem dMd_resolve_39 : decode mMd_resolve.2.2.2.1 39 = .ok ((.aload_n 0), 1) := by decide +kernel
theorem dMd_resolve_40 : decode mMd_resolve.2.2.2.1 40 = .ok ((.aload_n 0), 1) := by decide +kernel
theorem dMd_resolve_41 : decode mMd_resolve.2.2.2.1 41 = .ok ((.getfield 39), 3) := by decide +kernel
theorem dMd_resolve_44 : decode mMd_resolve.2.2.2.1 44 = .ok ((.iload_n 3), 1) := by decide +kernel
theorem dMd_resolve_45 : decode mMd_resolve.2.2.2.1 45 = .ok (.laload, 1) := by decide +kernel
theorem dMd_resolve_46 : decode mMd_resolve.2.2.2.1 46 = .ok ((.invokevirtual 155), 3) := by decide +kernel
theorem dMd_resolve_49 : decode mMd_resolve.2.2.2.1 49 = .ok ((.istore_n 3), 1) := by decide +kernel
theorem dMd_resolve_50 : decode mMd_resolve.2.2.2.1 50 = .ok ((.iinc 4 (1)), 3) := by decide +kernel
theorem dMd_resolve_53 : decode mMd_resolve.2.2.2.1 53 = .ok ((.goto (-34)), 3) := by decide +kernel
theorem dMd_resolve_56 : decode mMd_resolve.2.2.2.1 56 = .ok ((.iload_n 3), 1) := by decide +kernel
theorem dMd_resolve_57 : decode mMd_resolve.2.2.2.1 57 = .ok ((.ifCond .lt (12)), 3) := by decide +kernel
theorem dMd_resolve_60 : decode mMd_resolve.2.2.2.1 60 = .ok ((.aload_n 0), 1) := by decide +kernel
theorem dMd_resolve_61 : decode mMd_resolve.2.2.2.1 61 = .ok ((.getfield 33), 3) := by decide +kernel
theorem dMd_resolve_64 : decode mMd_resolve.2.2.2.1 64 = .ok ((.iload_n 3), 1) := by decide +kernel
theorem dMd_resolve_65 : decode mMd_resolve.2.2.2.1 65 = .ok (.iaload, 1) := by decide +kernel
theorem dMd_resolve_66 : decode mMd_resolve.2.2.2.1 66 = .ok ((.ifCond .ne (7)), 3) := by decide +kernel
theorem dMd_resolve_69 : decode mMd_resolve.2.2.2.1 69 = .ok ((.iconst (0)), 1) := by decide +kernel
theorem dMd_resolve_70 : decode mMd_resolve.2.2.2.1 70 = .ok ((.goto (25)), 3) := by decide +kernel
theorem dMd_resolve_73 : decode mMd_resolve.2.2.2.1 73 = .ok ((.aload_n 0), 1) := by decide +kernel
theorem dMd_resolve_74 : decode mMd_resolve.2.2.2.1 74 = .ok ((.getfield 33), 3) := by decide +kernel
theorem dMd_resolve_77 : decode mMd_resolve.2.2.2.1 77 = .ok ((.iload_n 3), 1) := by decide +kernel
theorem dMd_resolve_78 : decode mMd_resolve.2.2.2.1 78 = .ok (.iaload, 1) := by decide +kernel
theorem dMd_resolve_79 : decode mMd_resolve.2.2.2.1 79 = .ok ((.iconst (1)), 1) := by decide +kernel
theorem dMd_resolve_80 : decode mMd_resolve.2.2.2.1 80 = .ok ((.if_icmp .ne (13)), 3) := by decide +kernel
theorem dMd_resolve_83 : decode mMd_resolve.2.2.2.1 83 = .ok ((.aload_n 0), 1) := by decide +kernel
theorem dMd_resolve_84 : decode mMd_resolve.2.2.2.1 84 = .ok ((.getfield 39), 3) := by decide +kernel
theorem dMd_resolve_87 : decode mMd_resolve.2.2.2.1 87 = .ok ((.iload_n 3), 1) := by decide +kernel
theorem dMd_resolve_88 : decode mMd_resolve.2.2.2.1 88 = .ok (.laload, 1) := by decide +kernel
theorem dMd_resolve_89 : decode mMd_resolve.2.2.2.1 89 = .ok (.l2i, 1) := by decide +kernel
theorem dMd_resolve_90 : decode mMd_resolve.2.2.2.1 90 = .ok ((.goto (5)), 3) := by decide +kernel
theorem dMd_resolve_93 : decode mMd_resolve.2.2.2.1 93 = .ok ((.bipush (-4)), 2) := by decide +kernel
theorem dMd_resolve_95 : decode mMd_resolve.2.2.2.1 95 = .ok (.ireturn, 1) := by decide +kernel
theorem dMd_scan_0 : decode mMd_scan.2.2.2.1 0 = .ok ((.aload_n 0), 1) := by decide +kernel
theorem dMd_scan_1 : decode mMd_scan.2.2.2.1 1 = .ok ((.invokevirtual 241), 3) := by decide +kernel
theorem dMd_scan_4 : decode mMd_scan.2.2.2.1 4 = .ok ((.ifCond .ne (7)), 3) := by decide +kernel
theorem dMd_scan_7 : decode mMd_scan.2.2.2.1 7 = .ok ((.ldc2_w 263), 3) := by decide +kernel
theorem dMd_scan_10 : decode mMd_scan.2.2.2.1 10 = .ok (.lreturn, 1) := by decide +kernel
theorem dMd_scan_11 : decode mMd_scan.2.2.2.1 11 = .ok ((.iconst (0)), 1) := by decide +kernel
theorem dMd_scan_12 : decode mMd_scan.2.2.2.1 12 = .ok ((.istore 4), 2) := by decide +kernel
theorem dMd_scan_14 : decode mMd_scan.2.2.2.1 14 = .ok ((.lconst 0), 1) := by decide +kernel
theorem dMd_scan_15 : decode mMd_scan.2.2.2.1 15 = .ok ((.lstore 5), 2) := by decide +kernel
theorem dMd_scan_17 : decode mMd_scan.2.2.2.1 17 = .ok ((.aload_n 0), 1) := by decide +kernel
theorem dMd_scan_18 : decode mMd_scan.2.2.2.1 18 = .ok ((.lconst 0), 1) := by decide +kernel
theorem dMd_scan_19 : decode mMd_scan.2.2.2.1 19 = .ok ((.iconst (1)), 1) := by decide +kernel
theorem dMd_scan_20 : decode mMd_scan.2.2.2.1 20 = .ok ((.invokevirtual 203), 3) := by decide +kernel
theorem dMd_scan_23 : decode mMd_scan.2.2.2.1 23 = .ok ((.istore 7), 2) := by decide +kernel
theorem dMd_scan_25 : decode mMd_scan.2.2.2.1 25 = .ok ((.iload 7), 2) := by decide +kernel
theorem dMd_scan_27 : decode mMd_scan.2.2.2.1 27 = .ok ((.ifCond .lt (45)), 3) := by decide +kernel
theorem dMd_scan_30 : decode mMd_scan.2.2.2.1 30 = .ok ((.aload_n 0), 1) := by decide +kernel
theorem dMd_scan_31 : decode mMd_scan.2.2.2.1 31 = .ok ((.getfield 30), 3) := by decide +kernel
theorem dMd_scan_34 : decode mMd_scan.2.2.2.1 34 = .ok ((.iload 7), 2) := by decide +kernel
theorem dMd_scan_36 : decode mMd_scan.2.2.2.1 36 = .ok (.laload, 1) := by decide +kernel
theorem dMd_scan_37 : decode mMd_scan.2.2.2.1 37 = .ok ((.lstore 5), 2) := by decide +kernel
theorem dMd_scan_39 : decode mMd_scan.2.2.2.1 39 = .ok ((.lload 5), 2) := by decide +kernel
theorem dMd_scan_41 : decode mMd_scan.2.2.2.1 41 = .ok ((.lload_n 1), 1) := by decide +kernel
theorem dMd_scan_42 : decode mMd_scan.2.2.2.1 42 = .ok ((.invokestatic 76), 3) := by decide +kernel
theorem dMd_scan_45 : decode mMd_scan.2.2.2.1 45 = .ok ((.ifCond .eq (15)), 3) := by decide +kernel
theorem dMd_scan_48 : decode mMd_scan.2.2.2.1 48 = .ok ((.iload 4), 2) := by decide +kernel
theorem dMd_scan_50 : decode mMd_scan.2.2.2.1 50 = .ok ((.iload_n 3), 1) := by decide +kernel
theorem dMd_scan_51 : decode mMd_scan.2.2.2.1 51 = .ok ((.if_icmp .ne (6)), 3) := by decide +kernel
theorem dMd_scan_54 : decode mMd_scan.2.2.2.1 54 = .ok ((.lload 5), 2) := by decide +kernel
theorem dMd_scan_56 : decode mMd_scan.2.2.2.1 56 = .ok (.lreturn, 1) := by decide +kernel
theorem dMd_scan_57 : decode mMd_scan.2.2.2.1 57 = .ok ((.iinc 4 (1)), 3) := by decide +kernel
theorem dMd_scan_60 : decode mMd_scan.2.2.2.1 60 = .ok ((.aload_n 0), 1) := by decide +kernel
theorem dMd_scan_61 : decode mMd_scan.2.2.2.1 61 = .ok ((.lload 5), 2) := by decide +kernel
theorem dMd_scan_63 : decode mMd_scan.2.2.2.1 63 = .ok ((.iconst (1)), 1) := by decide +kernel
theorem dMd_scan_64 : decode mMd_scan.2.2.2.1 64 = .ok ((.invokevirtual 203), 3) := by decide +kernel
theorem dMd_scan_67 : decode mMd_scan.2.2.2.1 67 = .ok ((.istore 7), 2) := by decide +kernel
theorem dMd_scan_69 : decode mMd_scan.2.2.2.1 69 = .ok ((.goto (-44)), 3) := by decide +kernel
theorem dMd_scan_72 : decode mMd_scan.2.2.2.1 72 = .ok ((.lconst 0), 1) := by decide +kernel
theorem dMd_scan_73 : decode mMd_scan.2.2.2.1 73 = .ok (.lreturn, 1) := by decide +kernel
theorem dMd_rank_0 : decode mMd_rank.2.2.2.1 0 = .ok ((.iconst (0)), 1) := by decide +kernel
theorem dMd_rank_1 : decode mMd_rank.2.2.2.1 1 = .ok ((.istore 4), 2) := by decide +kernel
theorem dMd_rank_3 : decode mMd_rank.2.2.2.1 3 = .ok ((.iconst (0)), 1) := by decide +kernel
theorem dMd_rank_4 : decode mMd_rank.2.2.2.1 4 = .ok ((.istore 5), 2) := by decide +kernel
theorem dMd_rank_6 : decode mMd_rank.2.2.2.1 6 = .ok ((.iload 5), 2) := by decide +kernel
theorem dMd_rank_8 : decode mMd_rank.2.2.2.1 8 = .ok ((.aload_n 0), 1) := by decide +kernel
theorem dMd_rank_9 : decode mMd_rank.2.2.2.1 9 = .ok ((.getfield 122), 3) := by decide +kernel
theorem dMd_rank_12 : decode mMd_rank.2.2.2.1 12 = .ok ((.if_icmp .ge (42)), 3) := by decide +kernel
theorem dMd_rank_15 : decode mMd_rank.2.2.2.1 15 = .ok ((.aload_n 0), 1) := by decide +kernel
theorem dMd_rank_16 : decode mMd_rank.2.2.2.1 16 = .ok ((.getfield 42), 3) := by decide +kernel
theorem dMd_rank_19 : decode mMd_rank.2.2.2.1 19 = .ok ((.iload 5), 2) := by decide +kernel
theorem dMd_rank_21 : decode mMd_rank.2.2.2.1 21 = .ok (.laload, 1) := by decide +kernel
theorem dMd_rank_22 : decode mMd_rank.2.2.2.1 22 = .ok ((.lload_n 2), 1) := by decide +kernel
theorem dMd_rank_23 : decode mMd_rank.2.2.2.1 23 = .ok (.lcmp, 1) := by decide +kernel
theorem dMd_rank_24 : decode mMd_rank.2.2.2.1 24 = .ok ((.ifCond .ne (20)), 3) := by decide +kernel
theorem dMd_rank_27 : decode mMd_rank.2.2.2.1 27 = .ok ((.aload_n 0), 1) := by decide +kernel
theorem dMd_rank_28 : decode mMd_rank.2.2.2.1 28 = .ok ((.iload 5), 2) := by decide +kernel
theorem dMd_rank_30 : decode mMd_rank.2.2.2.1 30 = .ok ((.iload_n 1), 1) := by decide +kernel
theorem dMd_rank_31 : decode mMd_rank.2.2.2.1 31 = .ok ((.invokevirtual 187), 3) := by decide +kernel
theorem dMd_rank_34 : decode mMd_rank.2.2.2.1 34 = .ok ((.ifCond .eq (10)), 3) := by decide +kernel
theorem dMd_rank_37 : decode mMd_rank.2.2.2.1 37 = .ok ((.iload 4), 2) := by decide +kernel
theorem dMd_rank_39 : decode mMd_rank.2.2.2.1 39 = .ok ((.iconst (1)), 1) := by decide +kernel
theorem dMd_rank_40 : decode mMd_rank.2.2.2.1 40 = .ok (.iadd, 1) := by decide +kernel
theorem dMd_rank_41 : decode mMd_rank.2.2.2.1 41 = .ok ((.goto (5)), 3) := by decide +kernel
theorem dMd_rank_44 : decode mMd_rank.2.2.2.1 44 = .ok ((.iload 4), 2) := by decide +kernel
theorem dMd_rank_46 : decode mMd_rank.2.2.2.1 46 = .ok ((.istore 4), 2) := by decide +kernel
theorem dMd_rank_48 : decode mMd_rank.2.2.2.1 48 = .ok ((.iinc 5 (1)), 3) := by decide +kernel
theorem dMd_rank_51 : decode mMd_rank.2.2.2.1 51 = .ok ((.goto (-45)), 3) := by decide +kernel
theorem dMd_rank_54 : decode mMd_rank.2.2.2.1 54 = .ok ((.iload 4), 2) := by decide +kernel
theorem dMd_rank_56 : decode mMd_rank.2.2.2.1 56 = .ok (.ireturn, 1) := by decide +kernel
theorem dMd_log_0 : decode mMd_log.2.2.2.1 0 = .ok ((.aload_n 0), 1) := by decide +kernel
theorem dMd_log_1 : decode mMd_log.2.2.2.1 1 = .ok ((.invokevirtual 241), 3) := by decide +kernel
theorem dMd_log_4 : decode mMd_log.2.2.2.1 4 = .ok ((.ifCond .ne (6)), 3) := by decide +kernel
theorem dMd_log_7 : decode mMd_log.2.2.2.1 7 = .ok ((.bipush (-2)), 2) := by decide +kernel
theorem dMd_log_9 : decode mMd_log.2.2.2.1 9 = .ok (.ireturn, 1) := by decide +kernel
theorem dMd_log_10 : decode mMd_log.2.2.2.1 10 = .ok ((.iconst (0)), 1) := by decide +kernel
theorem dMd_log_11 : decode mMd_log.2.2.2.1 11 = .ok ((.istore 5), 2) := by decide +kernel
theorem dMd_log_13 : decode mMd_log.2.2.2.1 13 = .ok ((.iload 5), 2) := by decide +kernel
theorem dMd_log_15 : decode mMd_log.2.2.2.1 15 = .ok ((.aload_n 0), 1) := by decide +kernel
theorem dMd_log_16 : decode mMd_log.2.2.2.1 16 = .ok ((.getfield 122), 3) := by decide +kernel
theorem dMd_log_19 : decode mMd_log.2.2.2.1 19 = .ok ((.if_icmp .ge (81)), 3) := by decide +kernel
theorem dMd_log_22 : decode mMd_log.2.2.2.1 22 = .ok ((.aload_n 0), 1) := by decide +kernel
theorem dMd_log_23 : decode mMd_log.2.2.2.1 23 = .ok ((.getfield 42), 3) := by decide +kernel
theorem dMd_log_26 : decode mMd_log.2.2.2.1 26 = .ok ((.iload 5), 2) := by decide +kernel
theorem dMd_log_28 : decode mMd_log.2.2.2.1 28 = .ok (.laload, 1) := by decide +kernel
theorem dMd_log_29 : decode mMd_log.2.2.2.1 29 = .ok ((.lload_n 1), 1) := by decide +kernel
theorem dMd_log_30 : decode mMd_log.2.2.2.1 30 = .ok (.lcmp, 1) := by decide +kernel
theorem dMd_log_31 : decode mMd_log.2.2.2.1 31 = .ok ((.ifCond .ne (63)), 3) := by decide +kernel
theorem dMd_log_34 : decode mMd_log.2.2.2.1 34 = .ok ((.aload_n 0), 1) := by decide +kernel
theorem dMd_log_35 : decode mMd_log.2.2.2.1 35 = .ok ((.iload 5), 2) := by decide +kernel
theorem dMd_log_37 : decode mMd_log.2.2.2.1 37 = .ok ((.lload_n 1), 1) := by decide +kernel
theorem dMd_log_38 : decode mMd_log.2.2.2.1 38 = .ok ((.invokevirtual 265), 3) := by decide +kernel
theorem dMd_log_41 : decode mMd_log.2.2.2.1 41 = .ok ((.iload_n 3), 1) := by decide +kernel
theorem dMd_log_42 : decode mMd_log.2.2.2.1 42 = .ok ((.if_icmp .ne (52)), 3) := by decide +kernel
theorem dMd_log_45 : decode mMd_log.2.2.2.1 45 = .ok ((.iload 4), 2) := by decide +kernel
theorem dMd_log_47 : decode mMd_log.2.2.2.1 47 = .ok ((.iconst (0)), 1) := by decide +kernel
theorem dMd_log_48 : decode mMd_log.2.2.2.1 48 = .ok ((.iconst (2)), 1) := by decide +kernel
theorem dMd_log_49 : decode mMd_log.2.2.2.1 49 = .ok ((.invokestatic 133), 3) := by decide +kernel
theorem dMd_log_52 : decode mMd_log.2.2.2.1 52 = .ok ((.ifCond .eq (42)), 3) := by decide +kernel
theorem dMd_log_55 : decode mMd_log.2.2.2.1 55 = .ok ((.iload 4), 2) := by decide +kernel
theorem dMd_log_57 : decode mMd_log.2.2.2.1 57 = .ok ((.ifCond .ne (13)), 3) := by decide +kernel
theorem dMd_log_60 : decode mMd_log.2.2.2.1 60 = .ok ((.aload_n 0), 1) := by decide +kernel
theorem dMd_log_61 : decode mMd_log.2.2.2.1 61 = .ok ((.getfield 45), 3) := by decide +kernel
theorem dMd_log_64 : decode mMd_log.2.2.2.1 64 = .ok ((.iload 5), 2) := by decide +kernel
theorem dMd_log_66 : decode mMd_log.2.2.2.1 66 = .ok (.iaload, 1) := by decide +kernel
theorem dMd_log_67 : decode mMd_log.2.2.2.1 67 = .ok ((.goto (26)), 3) := by decide +kernel
theorem dMd_log_70 : decode mMd_log.2.2.2.1 70 = .ok ((.iload 4), 2) := by decide +kernel
theorem dMd_log_72 : decode mMd_log.2.2.2.1 72 = .ok ((.iconst (1)), 1) := by decide +kernel
theorem dMd_log_73 : decode mMd_log.2.2.2.1 73 = .ok ((.if_icmp .ne (13)), 3) := by decide +kernel
theorem dMd_log_76 : decode mMd_log.2.2.2.1 76 = .ok ((.aload_n 0), 1) := by decide +kernel
theorem dMd_log_77 : decode mMd_log.2.2.2.1 77 = .ok ((.getfield 48), 3) := by decide +kernel
theorem dMd_log_80 : decode mMd_log.2.2.2.1 80 = .ok ((.iload 5), 2) := by decide +kernel
theorem dMd_log_82 : decode mMd_log.2.2.2.1 82 = .ok (.iaload, 1) := by decide +kernel
theorem dMd_log_83 : decode mMd_log.2.2.2.1 83 = .ok ((.goto (10)), 3) := by decide +kernel
theorem dMd_log_86 : decode mMd_log.2.2.2.1 86 = .ok ((.aload_n 0), 1) := by decide +kernel
theorem dMd_log_87 : decode mMd_log.2.2.2.1 87 = .ok ((.getfield 51), 3) := by decide +kernel
theorem dMd_log_90 : decode mMd_log.2.2.2.1 90 = .ok ((.iload 5), 2) := by decide +kernel
theorem dMd_log_92 : decode mMd_log.2.2.2.1 92 = .ok (.iaload, 1) := by decide +kernel
theorem dMd_log_93 : decode mMd_log.2.2.2.1 93 = .ok (.ireturn, 1) := by decide +kernel
theorem dMd_log_94 : decode mMd_log.2.2.2.1 94 = .ok ((.iinc 5 (1)), 3) := by decide +kernel
theorem dMd_log_97 : decode mMd_log.2.2.2.1 97 = .ok ((.goto (-84)), 3) := by decide +kernel
theorem dMd_log_100 : decode mMd_log.2.2.2.1 100 = .ok ((.iconst (-1)), 1) := by decide +kernel
theorem dMd_log_101 : decode mMd_log.2.2.2.1 101 = .ok (.ireturn, 1) := by decide +kernel
theorem dMd_mergeAll_0 : decode mMd_mergeAll.2.2.2.1 0 = .ok ((.aload_n 0), 1) := by decide +kernel
theorem dMd_mergeAll_1 : decode mMd_mergeAll.2.2.2.1 1 = .ok ((.invokevirtual 241), 3) := by decide +kernel
theorem dMd_mergeAll_4 : decode mMd_mergeAll.2.2.2.1 4 = .ok ((.ifCond .ne (6)), 3) := by decide +kernel
theorem dMd_mergeAll_7 : decode mMd_mergeAll.2.2.2.1 7 = .ok ((.bipush (-2)), 2) := by decide +kernel
theorem dMd_mergeAll_9 : decode mMd_mergeAll.2.2.2.1 9 = .ok (.ireturn, 1) := by decide +kernel
theorem dMd_mergeAll_10 : decode mMd_mergeAll.2.2.2.1 10 = .ok ((.aload_n 0), 1) := by decide +kernel
theorem dMd_mergeAll_11 : decode mMd_mergeAll.2.2.2.1 11 = .ok ((.getfield 158), 3) := by decide +kernel
theorem dMd_mergeAll_14 : decode mMd_mergeAll.2.2.2.1 14 = .ok ((.ifCond .le (20)), 3) := by decide +kernel
theorem dMd_mergeAll_17 : decode mMd_mergeAll.2.2.2.1 17 = .ok ((.aload_n 0), 1) := by decide +kernel
theorem dMd_mergeAll_18 : decode mMd_mergeAll.2.2.2.1 18 = .ok ((.iconst (1)), 1) := by decide +kernel
theorem dMd_mergeAll_19 : decode mMd_mergeAll.2.2.2.1 19 = .ok ((.iload_n 1), 1) := by decide +kernel
theorem dMd_mergeAll_20 : decode mMd_mergeAll.2.2.2.1 20 = .ok ((.invokevirtual 257), 3) := by decide +kernel
theorem dMd_mergeAll_23 : decode mMd_mergeAll.2.2.2.1 23 = .ok ((.ifCond .ne (6)), 3) := by decide +kernel
theorem dMd_mergeAll_26 : decode mMd_mergeAll.2.2.2.1 26 = .ok ((.bipush (-3)), 2) := by decide +kernel
theorem dMd_mergeAll_28 : decode mMd_mergeAll.2.2.2.1 28 = .ok (.ireturn, 1) := by decide +kernel
theorem dMd_mergeAll_29 : decode mMd_mergeAll.2.2.2.1 29 = .ok ((.aload_n 0), 1) := by decide +kernel
theorem dMd_mergeAll_30 : decode mMd_mergeAll.2.2.2.1 30 = .ok ((.iconst (0)), 1) := by decide +kernel
theorem dMd_mergeAll_31 : decode mMd_mergeAll.2.2.2.1 31 = .ok ((.invokevirtual 260), 3) := by decide +kernel
theorem dMd_mergeAll_34 : decode mMd_mergeAll.2.2.2.1 34 = .ok ((.iconst (0)), 1) := by decide +kernel
theorem dMd_mergeAll_35 : decode mMd_mergeAll.2.2.2.1 35 = .ok (.ireturn, 1) := by decide +kernel
theorem dMd_compact_0 : decode mMd_compact.2.2.2.1 0 = .ok ((.aload_n 0), 1) := by decide +kernel
theorem dMd_compact_1 : decode mMd_compact.2.2.2.1 1 = .ok ((.getfield 158), 3) := by decide +kernel
theorem dMd_compact_4 : decode mMd_compact.2.2.2.1 4 = .ok ((.istore_n 1), 1) := by decide +kernel
theorem dMd_compact_5 : decode mMd_compact.2.2.2.1 5 = .ok ((.aload_n 0), 1) := by decide +kernel
theorem dMd_compact_6 : decode mMd_compact.2.2.2.1 6 = .ok ((.iconst (0)), 1) := by decide +kernel
theorem dMd_compact_7 : decode mMd_compact.2.2.2.1 7 = .ok ((.invokevirtual 269), 3) := by decide +kernel
theorem dMd_compact_10 : decode mMd_compact.2.2.2.1 10 = .ok ((.istore_n 2), 1) := by decide +kernel
theorem dMd_compact_11 : decode mMd_compact.2.2.2.1 11 = .ok ((.iload_n 2), 1) := by decide +kernel
theorem dMd_compact_12 : decode mMd_compact.2.2.2.1 12 = .ok ((.ifCond .ge (7)), 3) := by decide +kernel
theorem dMd_compact_15 : decode mMd_compact.2.2.2.1 15 = .ok ((.iload_n 2), 1) := by decide +kernel
theorem dMd_compact_16 : decode mMd_compact.2.2.2.1 16 = .ok ((.goto (4)), 3) := by decide +kernel
theorem dMd_compact_19 : decode mMd_compact.2.2.2.1 19 = .ok ((.iload_n 1), 1) := by decide +kernel
theorem dMd_compact_20 : decode mMd_compact.2.2.2.1 20 = .ok (.ireturn, 1) := by decide +kernel
theorem dMd_expire_0 : decode mMd_expire.2.2.2.1 0 = .ok ((.aload_n 0), 1) := by decide +kernel
theorem dMd_expire_1 : decode mMd_expire.2.2.2.1 1 = .ok ((.iload_n 1), 1) := by decide +kernel
theorem dMd_expire_2 : decode mMd_expire.2.2.2.1 2 = .ok ((.invokevirtual 269), 3) := by decide +kernel
theorem dMd_expire_5 : decode mMd_expire.2.2.2.1 5 = .ok ((.istore_n 2), 1) := by decide +kernel
theorem dMd_expire_6 : decode mMd_expire.2.2.2.1 6 = .ok ((.iload_n 2), 1) := by decide +kernel
theorem dMd_expire_7 : decode mMd_expire.2.2.2.1 7 = .ok ((.ifCond .lt (10)), 3) := by decide +kernel
theorem dMd_expire_10 : decode mMd_expire.2.2.2.1 10 = .ok ((.aload_n 0), 1) := by decide +kernel
theorem dMd_expire_11 : decode mMd_expire.2.2.2.1 11 = .ok ((.getfield 158), 3) := by decide +kernel
theorem dMd_expire_14 : decode mMd_expire.2.2.2.1 14 = .ok ((.ifCond .ne (7)), 3) := by decide +kernel
theorem dMd_expire_17 : decode mMd_expire.2.2.2.1 17 = .ok ((.iload_n 2), 1) := by decide +kernel
theorem dMd_expire_18 : decode mMd_expire.2.2.2.1 18 = .ok ((.goto (13)), 3) := by decide +kernel
theorem dMd_expire_21 : decode mMd_expire.2.2.2.1 21 = .ok ((.aload_n 0), 1) := by decide +kernel
theorem dMd_expire_22 : decode mMd_expire.2.2.2.1 22 = .ok ((.getfield 122), 3) := by decide +kernel
theorem dMd_expire_25 : decode mMd_expire.2.2.2.1 25 = .ok ((.aload_n 0), 1) := by decide +kernel
theorem dMd_expire_26 : decode mMd_expire.2.2.2.1 26 = .ok ((.iload_n 1), 1) := by decide +kernel
theorem dMd_expire_27 : decode mMd_expire.2.2.2.1 27 = .ok ((.invokevirtual 194), 3) := by decide +kernel
theorem dMd_expire_30 : decode mMd_expire.2.2.2.1 30 = .ok (.isub, 1) := by decide +kernel
theorem dMd_expire_31 : decode mMd_expire.2.2.2.1 31 = .ok (.ireturn, 1) := by decide +kernel
theorem dMd_tables_0 : decode mMd_tables.2.2.2.1 0 = .ok ((.aload_n 0), 1) := by decide +kernel
theorem dMd_tables_1 : decode mMd_tables.2.2.2.1 1 = .ok ((.getfield 158), 3) := by decide +kernel
theorem dMd_tables_4 : decode mMd_tables.2.2.2.1 4 = .ok (.ireturn, 1) := by decide +kernel
theorem dMd_size_0 : decode mMd_size.2.2.2.1 0 = .ok ((.iload_n 1), 1) := by decide +kernel
theorem dMd_size_1 : decode mMd_size.2.2.2.1 1 = .ok ((.iconst (0)), 1) := by decide +kernel
theorem dMd_size_2 : decode mMd_size.2.2.2.1 2 = .ok ((.aload_n 0), 1) := by decide +kernel
theorem dMd_size_3 : decode mMd_size.2.2.2.1 3 = .ok ((.getfield 158), 3) := by decide +kernel
theorem dMd_size_6 : decode mMd_size.2.2.2.1 6 = .ok ((.iconst (1)), 1) := by decide +kernel
theorem dMd_size_7 : decode mMd_size.2.2.2.1 7 = .ok (.isub, 1) := by decide +kernel
theorem dMd_size_8 : decode mMd_size.2.2.2.1 8 = .ok ((.invokestatic 133), 3) := by decide +kernel
theorem dMd_size_11 : decode mMd_size.2.2.2.1 11 = .ok ((.ifCond .eq (12)), 3) := by decide +kernel
theorem dMd_size_14 : decode mMd_size.2.2.2.1 14 = .ok ((.aload_n 0), 1) := by decide +kernel
theorem dMd_size_15 : decode mMd_size.2.2.2.1 15 = .ok ((.getfield 13), 3) := by decide +kernel
theorem dMd_size_18 : decode mMd_size.2.2.2.1 18 = .ok ((.iload_n 1), 1) := by decide +kernel
theorem dMd_size_19 : decode mMd_size.2.2.2.1 19 = .ok (.iaload, 1) := by decide +kernel
theorem dMd_size_20 : decode mMd_size.2.2.2.1 20 = .ok ((.goto (4)), 3) := by decide +kernel
theorem dMd_size_23 : decode mMd_size.2.2.2.1 23 = .ok ((.iconst (-1)), 1) := by decide +kernel
theorem dMd_size_24 : decode mMd_size.2.2.2.1 24 = .ok (.ireturn, 1) := by decide +kernel
theorem dMd_byteAt_0 : decode mMd_byteAt.2.2.2.1 0 = .ok ((.iload_n 1), 1) := by decide +kernel
theorem dMd_byteAt_1 : decode mMd_byteAt.2.2.2.1 1 = .ok ((.iconst (0)), 1) := by decide +kernel
theorem dMd_byteAt_2 : decode mMd_byteAt.2.2.2.1 2 = .ok ((.aload_n 0), 1) := by decide +kernel
theorem dMd_byteAt_3 : decode mMd_byteAt.2.2.2.1 3 = .ok ((.getfield 158), 3) := by decide +kernel
theorem dMd_byteAt_6 : decode mMd_byteAt.2.2.2.1 6 = .ok ((.iconst (1)), 1) := by decide +kernel
theorem dMd_byteAt_7 : decode mMd_byteAt.2.2.2.1 7 = .ok (.isub, 1) := by decide +kernel
theorem dMd_byteAt_8 : decode mMd_byteAt.2.2.2.1 8 = .ok ((.invokestatic 133), 3) := by decide +kernel
theorem dMd_byteAt_11 : decode mMd_byteAt.2.2.2.1 11 = .ok ((.ifCond .eq (38)), 3) := by decide +kernel
theorem dMd_byteAt_14 : decode mMd_byteAt.2.2.2.1 14 = .ok ((.iload_n 2), 1) := by decide +kernel
theorem dMd_byteAt_15 : decode mMd_byteAt.2.2.2.1 15 = .ok ((.iconst (0)), 1) := by decide +kernel
theorem dMd_byteAt_16 : decode mMd_byteAt.2.2.2.1 16 = .ok ((.aload_n 0), 1) := by decide +kernel
theorem dMd_byteAt_17 : decode mMd_byteAt.2.2.2.1 17 = .ok ((.getfield 13), 3) := by decide +kernel
theorem dMd_byteAt_20 : decode mMd_byteAt.2.2.2.1 20 = .ok ((.iload_n 1), 1) := by decide +kernel
theorem dMd_byteAt_21 : decode mMd_byteAt.2.2.2.1 21 = .ok (.iaload, 1) := by decide +kernel
theorem dMd_byteAt_22 : decode mMd_byteAt.2.2.2.1 22 = .ok ((.iconst (1)), 1) := by decide +kernel
theorem dMd_byteAt_23 : decode mMd_byteAt.2.2.2.1 23 = .ok (.isub, 1) := by decide +kernel
theorem dMd_byteAt_24 : decode mMd_byteAt.2.2.2.1 24 = .ok ((.invokestatic 133), 3) := by decide +kernel
theorem dMd_byteAt_27 : decode mMd_byteAt.2.2.2.1 27 = .ok ((.ifCond .eq (22)), 3) := by decide +kernel
theorem dMd_byteAt_30 : decode mMd_byteAt.2.2.2.1 30 = .ok ((.aload_n 0), 1) := by decide +kernel
theorem dMd_byteAt_31 : decode mMd_byteAt.2.2.2.1 31 = .ok ((.getfield 7), 3) := by decide +kernel
theorem dMd_byteAt_34 : decode mMd_byteAt.2.2.2.1 34 = .ok ((.sipush (1200)), 3) := by decide +kernel
theorem dMd_byteAt_37 : decode mMd_byteAt.2.2.2.1 37 = .ok ((.iload_n 1), 1) := by decide +kernel
theorem dMd_byteAt_38 : decode mMd_byteAt.2.2.2.1 38 = .ok (.imul, 1) := by decide +kernel
theorem dMd_byteAt_39 : decode mMd_byteAt.2.2.2.1 39 = .ok ((.iload_n 2), 1) := by decide +kernel
theorem dMd_byteAt_40 : decode mMd_byteAt.2.2.2.1 40 = .ok (.iadd, 1) := by decide +kernel
theorem dMd_byteAt_41 : decode mMd_byteAt.2.2.2.1 41 = .ok (.baload, 1) := by decide +kernel
theorem dMd_byteAt_42 : decode mMd_byteAt.2.2.2.1 42 = .ok ((.sipush (255)), 3) := by decide +kernel
theorem dMd_byteAt_45 : decode mMd_byteAt.2.2.2.1 45 = .ok (.iand, 1) := by decide +kernel
theorem dMd_byteAt_46 : decode mMd_byteAt.2.2.2.1 46 = .ok ((.goto (4)), 3) := by decide +kernel
theorem dMd_byteAt_49 : decode mMd_byteAt.2.2.2.1 49 = .ok ((.iconst (-1)), 1) := by decide +kernel
theorem dMd_byteAt_50 : decode mMd_byteAt.2.2.2.1 50 = .ok (.ireturn, 1) := by decide +kernel
theorem dMd_damage_0 : decode mMd_damage.2.2.2.1 0 = .ok ((.aload_n 0), 1) := by decide +kernel
theorem dMd_damage_1 : decode mMd_damage.2.2.2.1 1 = .ok ((.iload_n 1), 1) := by decide +kernel
theorem dMd_damage_2 : decode mMd_damage.2.2.2.1 2 = .ok ((.iload_n 2), 1) := by decide +kernel
theorem dMd_damage_3 : decode mMd_damage.2.2.2.1 3 = .ok ((.invokevirtual 272), 3) := by decide +kernel
theorem dMd_damage_6 : decode mMd_damage.2.2.2.1 6 = .ok ((.ifCond .lt (14)), 3) := by decide +kernel
theorem dMd_damage_9 : decode mMd_damage.2.2.2.1 9 = .ok ((.iload_n 3), 1) := by decide +kernel
theorem dMd_damage_10 : decode mMd_damage.2.2.2.1 10 = .ok ((.iconst (0)), 1) := by decide +kernel
theorem dMd_damage_11 : decode mMd_damage.2.2.2.1 11 = .ok ((.sipush (255)), 3) := by decide +kernel
theorem dMd_damage_14 : decode mMd_damage.2.2.2.1 14 = .ok ((.invokestatic 133), 3) := by decide +kernel
theorem dMd_damage_17 : decode mMd_damage.2.2.2.1 17 = .ok ((.ifCond .ne (5)), 3) := by decide +kernel
theorem dMd_damage_20 : decode mMd_damage.2.2.2.1 20 = .ok ((.iconst (0)), 1) := by decide +kernel
theorem dMd_damage_21 : decode mMd_damage.2.2.2.1 21 = .ok (.ireturn, 1) := by decide +kernel
theorem dMd_damage_22 : decode mMd_damage.2.2.2.1 22 = .ok ((.aload_n 0), 1) := by decide +kernel
theorem dMd_damage_23 : decode mMd_damage.2.2.2.1 23 = .ok ((.getfield 7), 3) := by decide +kernel
theorem dMd_damage_26 : decode mMd_damage.2.2.2.1 26 = .ok ((.sipush (1200)), 3) := by decide +kernel
theorem dMd_damage_29 : decode mMd_damage.2.2.2.1 29 = .ok ((.iload_n 1), 1) := by decide +kernel
theorem dMd_damage_30 : decode mMd_damage.2.2.2.1 30 = .ok (.imul, 1) := by decide +kernel
theorem dMd_damage_31 : decode mMd_damage.2.2.2.1 31 = .ok ((.iload_n 2), 1) := by decide +kernel
theorem dMd_damage_32 : decode mMd_damage.2.2.2.1 32 = .ok (.iadd, 1) := by decide +kernel
theorem dMd_damage_33 : decode mMd_damage.2.2.2.1 33 = .ok ((.iload_n 3), 1) := by decide +kernel
theorem dMd_damage_34 : decode mMd_damage.2.2.2.1 34 = .ok (.i2b, 1) := by decide +kernel
theorem dMd_damage_35 : decode mMd_damage.2.2.2.1 35 = .ok (.bastore, 1) := by decide +kernel
theorem dMd_damage_36 : decode mMd_damage.2.2.2.1 36 = .ok ((.iconst (1)), 1) := by decide +kernel
theorem dMd_damage_37 : decode mMd_damage.2.2.2.1 37 = .ok (.ireturn, 1) := by decide +kernel
