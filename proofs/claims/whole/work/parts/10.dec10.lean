theorem dTs_draftIsTooMuch_0 : decode mTs_draftIsTooMuch.2.2.2.1 0 = .ok ((.aload_n 0), 1) := by decide +kernel
theorem dTs_draftIsTooMuch_1 : decode mTs_draftIsTooMuch.2.2.2.1 1 = .ok ((.iconst (0)), 1) := by decide +kernel
theorem dTs_draftIsTooMuch_2 : decode mTs_draftIsTooMuch.2.2.2.1 2 = .ok ((.aload_n 0), 1) := by decide +kernel
theorem dTs_draftIsTooMuch_3 : decode mTs_draftIsTooMuch.2.2.2.1 3 = .ok ((.getfield 36), 3) := by decide +kernel
theorem dTs_draftIsTooMuch_6 : decode mTs_draftIsTooMuch.2.2.2.1 6 = .ok ((.iconst (1)), 1) := by decide +kernel
theorem dTs_draftIsTooMuch_7 : decode mTs_draftIsTooMuch.2.2.2.1 7 = .ok (.iadd, 1) := by decide +kernel
theorem dTs_draftIsTooMuch_8 : decode mTs_draftIsTooMuch.2.2.2.1 8 = .ok ((.invokevirtual 119), 3) := by decide +kernel
theorem dTs_draftIsTooMuch_11 : decode mTs_draftIsTooMuch.2.2.2.1 11 = .ok ((.astore_n 1), 1) := by decide +kernel
theorem dTs_draftIsTooMuch_12 : decode mTs_draftIsTooMuch.2.2.2.1 12 = .ok ((.iconst (0)), 1) := by decide +kernel
theorem dTs_draftIsTooMuch_13 : decode mTs_draftIsTooMuch.2.2.2.1 13 = .ok ((.istore_n 2), 1) := by decide +kernel
theorem dTs_draftIsTooMuch_14 : decode mTs_draftIsTooMuch.2.2.2.1 14 = .ok ((.iconst (0)), 1) := by decide +kernel
theorem dTs_draftIsTooMuch_15 : decode mTs_draftIsTooMuch.2.2.2.1 15 = .ok ((.istore_n 3), 1) := by decide +kernel
theorem dTs_draftIsTooMuch_16 : decode mTs_draftIsTooMuch.2.2.2.1 16 = .ok ((.iload_n 3), 1) := by decide +kernel
theorem dTs_draftIsTooMuch_17 : decode mTs_draftIsTooMuch.2.2.2.1 17 = .ok ((.sipush (361)), 3) := by decide +kernel
theorem dTs_draftIsTooMuch_20 : decode mTs_draftIsTooMuch.2.2.2.1 20 = .ok ((.if_icmp .ge (19)), 3) := by decide +kernel
theorem dTs_draftIsTooMuch_23 : decode mTs_draftIsTooMuch.2.2.2.1 23 = .ok ((.aload_n 1), 1) := by decide +kernel
theorem dTs_draftIsTooMuch_24 : decode mTs_draftIsTooMuch.2.2.2.1 24 = .ok ((.invokevirtual 123), 3) := by decide +kernel
theorem dTs_draftIsTooMuch_27 : decode mTs_draftIsTooMuch.2.2.2.1 27 = .ok ((.ifCond .eq (12)), 3) := by decide +kernel
theorem dTs_draftIsTooMuch_30 : decode mTs_draftIsTooMuch.2.2.2.1 30 = .ok ((.iinc 2 (1)), 3) := by decide +kernel
theorem dTs_draftIsTooMuch_33 : decode mTs_draftIsTooMuch.2.2.2.1 33 = .ok ((.iinc 3 (1)), 3) := by decide +kernel
theorem dTs_draftIsTooMuch_36 : decode mTs_draftIsTooMuch.2.2.2.1 36 = .ok ((.goto (-20)), 3) := by decide +kernel
theorem dTs_draftIsTooMuch_39 : decode mTs_draftIsTooMuch.2.2.2.1 39 = .ok ((.iload_n 2), 1) := by decide +kernel
theorem dTs_draftIsTooMuch_40 : decode mTs_draftIsTooMuch.2.2.2.1 40 = .ok ((.bipush (16)), 2) := by decide +kernel
theorem dTs_draftIsTooMuch_42 : decode mTs_draftIsTooMuch.2.2.2.1 42 = .ok ((.if_icmp .gt (18)), 3) := by decide +kernel
theorem dTs_draftIsTooMuch_45 : decode mTs_draftIsTooMuch.2.2.2.1 45 = .ok ((.aload_n 0), 1) := by decide +kernel
theorem dTs_draftIsTooMuch_46 : decode mTs_draftIsTooMuch.2.2.2.1 46 = .ok ((.aload_n 0), 1) := by decide +kernel
theorem dTs_draftIsTooMuch_47 : decode mTs_draftIsTooMuch.2.2.2.1 47 = .ok ((.getfield 36), 3) := by decide +kernel
theorem dTs_draftIsTooMuch_50 : decode mTs_draftIsTooMuch.2.2.2.1 50 = .ok ((.iconst (1)), 1) := by decide +kernel
theorem dTs_draftIsTooMuch_51 : decode mTs_draftIsTooMuch.2.2.2.1 51 = .ok (.iadd, 1) := by decide +kernel
theorem dTs_draftIsTooMuch_52 : decode mTs_draftIsTooMuch.2.2.2.1 52 = .ok ((.invokevirtual 147), 3) := by decide +kernel
theorem dTs_draftIsTooMuch_55 : decode mTs_draftIsTooMuch.2.2.2.1 55 = .ok ((.bipush (24)), 2) := by decide +kernel
theorem dTs_draftIsTooMuch_57 : decode mTs_draftIsTooMuch.2.2.2.1 57 = .ok ((.if_icmp .le (7)), 3) := by decide +kernel
theorem dTs_draftIsTooMuch_60 : decode mTs_draftIsTooMuch.2.2.2.1 60 = .ok ((.iconst (1)), 1) := by decide +kernel
theorem dTs_draftIsTooMuch_61 : decode mTs_draftIsTooMuch.2.2.2.1 61 = .ok ((.goto (4)), 3) := by decide +kernel
theorem dTs_draftIsTooMuch_64 : decode mTs_draftIsTooMuch.2.2.2.1 64 = .ok ((.iconst (0)), 1) := by decide +kernel
theorem dTs_draftIsTooMuch_65 : decode mTs_draftIsTooMuch.2.2.2.1 65 = .ok (.ireturn, 1) := by decide +kernel
theorem dTs_mergeDown_0 : decode mTs_mergeDown.2.2.2.1 0 = .ok ((.iconst (0)), 1) := by decide +kernel
theorem dTs_mergeDown_1 : decode mTs_mergeDown.2.2.2.1 1 = .ok ((.istore_n 1), 1) := by decide +kernel
theorem dTs_mergeDown_2 : decode mTs_mergeDown.2.2.2.1 2 = .ok ((.iload_n 1), 1) := by decide +kernel
theorem dTs_mergeDown_3 : decode mTs_mergeDown.2.2.2.1 3 = .ok ((.bipush (9)), 2) := by decide +kernel
theorem dTs_mergeDown_5 : decode mTs_mergeDown.2.2.2.1 5 = .ok ((.if_icmp .ge (64)), 3) := by decide +kernel
theorem dTs_mergeDown_8 : decode mTs_mergeDown.2.2.2.1 8 = .ok ((.aload_n 0), 1) := by decide +kernel
theorem dTs_mergeDown_9 : decode mTs_mergeDown.2.2.2.1 9 = .ok ((.getfield 36), 3) := by decide +kernel
theorem dTs_mergeDown_12 : decode mTs_mergeDown.2.2.2.1 12 = .ok ((.iconst (2)), 1) := by decide +kernel
theorem dTs_mergeDown_13 : decode mTs_mergeDown.2.2.2.1 13 = .ok ((.if_icmp .lt (56)), 3) := by decide +kernel
theorem dTs_mergeDown_16 : decode mTs_mergeDown.2.2.2.1 16 = .ok ((.aload_n 0), 1) := by decide +kernel
theorem dTs_mergeDown_17 : decode mTs_mergeDown.2.2.2.1 17 = .ok ((.aload_n 0), 1) := by decide +kernel
theorem dTs_mergeDown_18 : decode mTs_mergeDown.2.2.2.1 18 = .ok ((.getfield 36), 3) := by decide +kernel
theorem dTs_mergeDown_21 : decode mTs_mergeDown.2.2.2.1 21 = .ok ((.iconst (2)), 1) := by decide +kernel
theorem dTs_mergeDown_22 : decode mTs_mergeDown.2.2.2.1 22 = .ok (.isub, 1) := by decide +kernel
theorem dTs_mergeDown_23 : decode mTs_mergeDown.2.2.2.1 23 = .ok ((.invokevirtual 50), 3) := by decide +kernel
theorem dTs_mergeDown_26 : decode mTs_mergeDown.2.2.2.1 26 = .ok ((.getfield 151), 3) := by decide +kernel
theorem dTs_mergeDown_29 : decode mTs_mergeDown.2.2.2.1 29 = .ok ((.iconst (2)), 1) := by decide +kernel
theorem dTs_mergeDown_30 : decode mTs_mergeDown.2.2.2.1 30 = .ok ((.aload_n 0), 1) := by decide +kernel
theorem dTs_mergeDown_31 : decode mTs_mergeDown.2.2.2.1 31 = .ok ((.aload_n 0), 1) := by decide +kernel
theorem dTs_mergeDown_32 : decode mTs_mergeDown.2.2.2.1 32 = .ok ((.getfield 36), 3) := by decide +kernel
theorem dTs_mergeDown_35 : decode mTs_mergeDown.2.2.2.1 35 = .ok ((.iconst (1)), 1) := by decide +kernel
theorem dTs_mergeDown_36 : decode mTs_mergeDown.2.2.2.1 36 = .ok (.isub, 1) := by decide +kernel
theorem dTs_mergeDown_37 : decode mTs_mergeDown.2.2.2.1 37 = .ok ((.invokevirtual 50), 3) := by decide +kernel
theorem dTs_mergeDown_40 : decode mTs_mergeDown.2.2.2.1 40 = .ok ((.getfield 151), 3) := by decide +kernel
theorem dTs_mergeDown_43 : decode mTs_mergeDown.2.2.2.1 43 = .ok (.imul, 1) := by decide +kernel
theorem dTs_mergeDown_44 : decode mTs_mergeDown.2.2.2.1 44 = .ok ((.if_icmp .lt (4)), 3) := by decide +kernel
theorem dTs_mergeDown_47 : decode mTs_mergeDown.2.2.2.1 47 = .ok (.return_, 1) := by decide +kernel
theorem dTs_mergeDown_48 : decode mTs_mergeDown.2.2.2.1 48 = .ok ((.aload_n 0), 1) := by decide +kernel
theorem dTs_mergeDown_49 : decode mTs_mergeDown.2.2.2.1 49 = .ok ((.aload_n 0), 1) := by decide +kernel
theorem dTs_mergeDown_50 : decode mTs_mergeDown.2.2.2.1 50 = .ok ((.getfield 36), 3) := by decide +kernel
theorem dTs_mergeDown_53 : decode mTs_mergeDown.2.2.2.1 53 = .ok ((.iconst (2)), 1) := by decide +kernel
theorem dTs_mergeDown_54 : decode mTs_mergeDown.2.2.2.1 54 = .ok (.isub, 1) := by decide +kernel
theorem dTs_mergeDown_55 : decode mTs_mergeDown.2.2.2.1 55 = .ok ((.iconst (0)), 1) := by decide +kernel
theorem dTs_mergeDown_56 : decode mTs_mergeDown.2.2.2.1 56 = .ok ((.invokevirtual 154), 3) := by decide +kernel
theorem dTs_mergeDown_59 : decode mTs_mergeDown.2.2.2.1 59 = .ok ((.ifCond .ne (4)), 3) := by decide +kernel
theorem dTs_mergeDown_62 : decode mTs_mergeDown.2.2.2.1 62 = .ok (.return_, 1) := by decide +kernel
theorem dTs_mergeDown_63 : decode mTs_mergeDown.2.2.2.1 63 = .ok ((.iinc 1 (1)), 3) := by decide +kernel
theorem dTs_mergeDown_66 : decode mTs_mergeDown.2.2.2.1 66 = .ok ((.goto (-64)), 3) := by decide +kernel
theorem dTs_mergeDown_69 : decode mTs_mergeDown.2.2.2.1 69 = .ok (.return_, 1) := by decide +kernel
theorem dTs_mergeFrom_0 : decode mTs_mergeFrom.2.2.2.1 0 = .ok ((.aload_n 0), 1) := by decide +kernel
theorem dTs_mergeFrom_1 : decode mTs_mergeFrom.2.2.2.1 1 = .ok ((.getfield 36), 3) := by decide +kernel
theorem dTs_mergeFrom_4 : decode mTs_mergeFrom.2.2.2.1 4 = .ok ((.ifCond .ne (5)), 3) := by decide +kernel
theorem dTs_mergeFrom_7 : decode mTs_mergeFrom.2.2.2.1 7 = .ok ((.iconst (1)), 1) := by decide +kernel
theorem dTs_mergeFrom_8 : decode mTs_mergeFrom.2.2.2.1 8 = .ok (.ireturn, 1) := by decide +kernel
theorem dTs_mergeFrom_9 : decode mTs_mergeFrom.2.2.2.1 9 = .ok ((.iload_n 1), 1) := by decide +kernel
theorem dTs_mergeFrom_10 : decode mTs_mergeFrom.2.2.2.1 10 = .ok ((.ifCond .lt (20)), 3) := by decide +kernel
theorem dTs_mergeFrom_13 : decode mTs_mergeFrom.2.2.2.1 13 = .ok ((.iload_n 1), 1) := by decide +kernel
theorem dTs_mergeFrom_14 : decode mTs_mergeFrom.2.2.2.1 14 = .ok ((.aload_n 0), 1) := by decide +kernel
theorem dTs_mergeFrom_15 : decode mTs_mergeFrom.2.2.2.1 15 = .ok ((.getfield 36), 3) := by decide +kernel
theorem dTs_mergeFrom_18 : decode mTs_mergeFrom.2.2.2.1 18 = .ok ((.if_icmp .ge (12)), 3) := by decide +kernel
theorem dTs_mergeFrom_21 : decode mTs_mergeFrom.2.2.2.1 21 = .ok ((.aload_n 0), 1) := by decide +kernel
theorem dTs_mergeFrom_22 : decode mTs_mergeFrom.2.2.2.1 22 = .ok ((.getfield 36), 3) := by decide +kernel
theorem dTs_mergeFrom_25 : decode mTs_mergeFrom.2.2.2.1 25 = .ok ((.bipush (9)), 2) := by decide +kernel
theorem dTs_mergeFrom_27 : decode mTs_mergeFrom.2.2.2.1 27 = .ok ((.if_icmp .lt (5)), 3) := by decide +kernel
theorem dTs_mergeFrom_30 : decode mTs_mergeFrom.2.2.2.1 30 = .ok ((.iconst (0)), 1) := by decide +kernel
theorem dTs_mergeFrom_31 : decode mTs_mergeFrom.2.2.2.1 31 = .ok (.ireturn, 1) := by decide +kernel
theorem dTs_mergeFrom_32 : decode mTs_mergeFrom.2.2.2.1 32 = .ok ((.aload_n 0), 1) := by decide +kernel
theorem dTs_mergeFrom_33 : decode mTs_mergeFrom.2.2.2.1 33 = .ok ((.aload_n 0), 1) := by decide +kernel
theorem dTs_mergeFrom_34 : decode mTs_mergeFrom.2.2.2.1 34 = .ok ((.getfield 36), 3) := by decide +kernel
theorem dTs_mergeFrom_37 : decode mTs_mergeFrom.2.2.2.1 37 = .ok ((.invokevirtual 50), 3) := by decide +kernel
theorem dTs_mergeFrom_40 : decode mTs_mergeFrom.2.2.2.1 40 = .ok ((.astore_n 3), 1) := by decide +kernel
theorem dTs_mergeFrom_41 : decode mTs_mergeFrom.2.2.2.1 41 = .ok ((.aload_n 0), 1) := by decide +kernel
theorem dTs_mergeFrom_42 : decode mTs_mergeFrom.2.2.2.1 42 = .ok ((.aload_n 3), 1) := by decide +kernel
theorem dTs_mergeFrom_43 : decode mTs_mergeFrom.2.2.2.1 43 = .ok ((.iload_n 1), 1) := by decide +kernel
theorem dTs_mergeFrom_44 : decode mTs_mergeFrom.2.2.2.1 44 = .ok ((.invokevirtual 158), 3) := by decide +kernel
theorem dTs_mergeFrom_47 : decode mTs_mergeFrom.2.2.2.1 47 = .ok ((.aload_n 0), 1) := by decide +kernel
theorem dTs_mergeFrom_48 : decode mTs_mergeFrom.2.2.2.1 48 = .ok ((.aload_n 3), 1) := by decide +kernel
theorem dTs_mergeFrom_49 : decode mTs_mergeFrom.2.2.2.1 49 = .ok ((.iload_n 1), 1) := by decide +kernel
theorem dTs_mergeFrom_50 : decode mTs_mergeFrom.2.2.2.1 50 = .ok ((.invokevirtual 162), 3) := by decide +kernel
theorem dTs_mergeFrom_53 : decode mTs_mergeFrom.2.2.2.1 53 = .ok ((.ifCond .eq (13)), 3) := by decide +kernel
theorem dTs_mergeFrom_56 : decode mTs_mergeFrom.2.2.2.1 56 = .ok ((.aload_n 0), 1) := by decide +kernel
theorem dTs_mergeFrom_57 : decode mTs_mergeFrom.2.2.2.1 57 = .ok ((.aload_n 3), 1) := by decide +kernel
theorem dTs_mergeFrom_58 : decode mTs_mergeFrom.2.2.2.1 58 = .ok ((.iload_n 1), 1) := by decide +kernel
theorem dTs_mergeFrom_59 : decode mTs_mergeFrom.2.2.2.1 59 = .ok ((.iload_n 2), 1) := by decide +kernel
theorem dTs_mergeFrom_60 : decode mTs_mergeFrom.2.2.2.1 60 = .ok ((.invokevirtual 166), 3) := by decide +kernel
theorem dTs_mergeFrom_63 : decode mTs_mergeFrom.2.2.2.1 63 = .ok ((.ifCond .ne (5)), 3) := by decide +kernel
theorem dTs_mergeFrom_66 : decode mTs_mergeFrom.2.2.2.1 66 = .ok ((.iconst (0)), 1) := by decide +kernel
theorem dTs_mergeFrom_67 : decode mTs_mergeFrom.2.2.2.1 67 = .ok (.ireturn, 1) := by decide +kernel
theorem dTs_mergeFrom_68 : decode mTs_mergeFrom.2.2.2.1 68 = .ok ((.aload_n 0), 1) := by decide +kernel
theorem dTs_mergeFrom_69 : decode mTs_mergeFrom.2.2.2.1 69 = .ok ((.getfield 20), 3) := by decide +kernel
theorem dTs_mergeFrom_72 : decode mTs_mergeFrom.2.2.2.1 72 = .ok ((.aload_n 3), 1) := by decide +kernel
theorem dTs_mergeFrom_73 : decode mTs_mergeFrom.2.2.2.1 73 = .ok ((.invokevirtual 143), 3) := by decide +kernel
theorem dTs_mergeFrom_76 : decode mTs_mergeFrom.2.2.2.1 76 = .ok ((.ifCond .ne (5)), 3) := by decide +kernel
theorem dTs_mergeFrom_79 : decode mTs_mergeFrom.2.2.2.1 79 = .ok ((.iconst (0)), 1) := by decide +kernel
theorem dTs_mergeFrom_80 : decode mTs_mergeFrom.2.2.2.1 80 = .ok (.ireturn, 1) := by decide +kernel
theorem dTs_mergeFrom_81 : decode mTs_mergeFrom.2.2.2.1 81 = .ok ((.aload_n 0), 1) := by decide +kernel
theorem dTs_mergeFrom_82 : decode mTs_mergeFrom.2.2.2.1 82 = .ok ((.getfield 11), 3) := by decide +kernel
theorem dTs_mergeFrom_85 : decode mTs_mergeFrom.2.2.2.1 85 = .ok ((.aload_n 0), 1) := by decide +kernel
theorem dTs_mergeFrom_86 : decode mTs_mergeFrom.2.2.2.1 86 = .ok ((.getfield 36), 3) := by decide +kernel
theorem dTs_mergeFrom_89 : decode mTs_mergeFrom.2.2.2.1 89 = .ok ((.aload_n 0), 1) := by decide +kernel
theorem dTs_mergeFrom_90 : decode mTs_mergeFrom.2.2.2.1 90 = .ok ((.getfield 11), 3) := by decide +kernel
theorem dTs_mergeFrom_93 : decode mTs_mergeFrom.2.2.2.1 93 = .ok ((.iload_n 1), 1) := by decide +kernel
theorem dTs_mergeFrom_94 : decode mTs_mergeFrom.2.2.2.1 94 = .ok (.aaload, 1) := by decide +kernel
theorem dTs_mergeFrom_95 : decode mTs_mergeFrom.2.2.2.1 95 = .ok (.aastore, 1) := by decide +kernel
theorem dTs_mergeFrom_96 : decode mTs_mergeFrom.2.2.2.1 96 = .ok ((.aload_n 0), 1) := by decide +kernel
theorem dTs_mergeFrom_97 : decode mTs_mergeFrom.2.2.2.1 97 = .ok ((.getfield 11), 3) := by decide +kernel
theorem dTs_mergeFrom_100 : decode mTs_mergeFrom.2.2.2.1 100 = .ok ((.iload_n 1), 1) := by decide +kernel
theorem dTs_mergeFrom_101 : decode mTs_mergeFrom.2.2.2.1 101 = .ok ((.aload_n 3), 1) := by decide +kernel
theorem dTs_mergeFrom_102 : decode mTs_mergeFrom.2.2.2.1 102 = .ok (.aastore, 1) := by decide +kernel
theorem dTs_mergeFrom_103 : decode mTs_mergeFrom.2.2.2.1 103 = .ok ((.aload_n 0), 1) := by decide +kernel
theorem dTs_mergeFrom_104 : decode mTs_mergeFrom.2.2.2.1 104 = .ok ((.iload_n 1), 1) := by decide +kernel
theorem dTs_mergeFrom_105 : decode mTs_mergeFrom.2.2.2.1 105 = .ok ((.iconst (1)), 1) := by decide +kernel
theorem dTs_mergeFrom_106 : decode mTs_mergeFrom.2.2.2.1 106 = .ok (.iadd, 1) := by decide +kernel
theorem dTs_mergeFrom_107 : decode mTs_mergeFrom.2.2.2.1 107 = .ok ((.putfield 36), 3) := by decide +kernel
theorem dTs_mergeFrom_110 : decode mTs_mergeFrom.2.2.2.1 110 = .ok ((.iconst (1)), 1) := by decide +kernel
theorem dTs_mergeFrom_111 : decode mTs_mergeFrom.2.2.2.1 111 = .ok (.ireturn, 1) := by decide +kernel
theorem dTs_clearForMerge_0 : decode mTs_clearForMerge.2.2.2.1 0 = .ok ((.sipush (2000)), 3) := by decide +kernel
theorem dTs_clearForMerge_3 : decode mTs_clearForMerge.2.2.2.1 3 = .ok ((.istore_n 3), 1) := by decide +kernel
theorem dTs_clearForMerge_4 : decode mTs_clearForMerge.2.2.2.1 4 = .ok ((.iconst (0)), 1) := by decide +kernel
theorem dTs_clearForMerge_5 : decode mTs_clearForMerge.2.2.2.1 5 = .ok ((.istore 4), 2) := by decide +kernel
theorem dTs_clearForMerge_7 : decode mTs_clearForMerge.2.2.2.1 7 = .ok ((.iload_n 2), 1) := by decide +kernel
theorem dTs_clearForMerge_8 : decode mTs_clearForMerge.2.2.2.1 8 = .ok ((.istore 5), 2) := by decide +kernel
theorem dTs_clearForMerge_10 : decode mTs_clearForMerge.2.2.2.1 10 = .ok ((.iload 5), 2) := by decide +kernel
theorem dTs_clearForMerge_12 : decode mTs_clearForMerge.2.2.2.1 12 = .ok ((.aload_n 0), 1) := by decide +kernel
theorem dTs_clearForMerge_13 : decode mTs_clearForMerge.2.2.2.1 13 = .ok ((.getfield 36), 3) := by decide +kernel
theorem dTs_clearForMerge_16 : decode mTs_clearForMerge.2.2.2.1 16 = .ok ((.if_icmp .ge (39)), 3) := by decide +kernel
theorem dTs_clearForMerge_19 : decode mTs_clearForMerge.2.2.2.1 19 = .ok ((.iload_n 3), 1) := by decide +kernel
theorem dTs_clearForMerge_20 : decode mTs_clearForMerge.2.2.2.1 20 = .ok ((.aload_n 0), 1) := by decide +kernel
theorem dTs_clearForMerge_21 : decode mTs_clearForMerge.2.2.2.1 21 = .ok ((.iload 5), 2) := by decide +kernel
theorem dTs_clearForMerge_23 : decode mTs_clearForMerge.2.2.2.1 23 = .ok ((.invokevirtual 50), 3) := by decide +kernel
theorem dTs_clearForMerge_26 : decode mTs_clearForMerge.2.2.2.1 26 = .ok ((.getfield 170), 3) := by decide +kernel
theorem dTs_clearForMerge_29 : decode mTs_clearForMerge.2.2.2.1 29 = .ok ((.invokestatic 40), 3) := by decide +kernel
theorem dTs_clearForMerge_32 : decode mTs_clearForMerge.2.2.2.1 32 = .ok ((.istore_n 3), 1) := by decide +kernel
theorem dTs_clearForMerge_33 : decode mTs_clearForMerge.2.2.2.1 33 = .ok ((.iload 4), 2) := by decide +kernel
theorem dTs_clearForMerge_35 : decode mTs_clearForMerge.2.2.2.1 35 = .ok ((.aload_n 0), 1) := by decide +kernel
theorem dTs_clearForMerge_36 : decode mTs_clearForMerge.2.2.2.1 36 = .ok ((.iload 5), 2) := by decide +kernel
theorem dTs_clearForMerge_38 : decode mTs_clearForMerge.2.2.2.1 38 = .ok ((.invokevirtual 50), 3) := by decide +kernel
theorem dTs_clearForMerge_41 : decode mTs_clearForMerge.2.2.2.1 41 = .ok ((.getfield 74), 3) := by decide +kernel
theorem dTs_clearForMerge_44 : decode mTs_clearForMerge.2.2.2.1 44 = .ok ((.invokestatic 46), 3) := by decide +kernel
theorem dTs_clearForMerge_47 : decode mTs_clearForMerge.2.2.2.1 47 = .ok ((.istore 4), 2) := by decide +kernel
theorem dTs_clearForMerge_49 : decode mTs_clearForMerge.2.2.2.1 49 = .ok ((.iinc 5 (1)), 3) := by decide +kernel
theorem dTs_clearForMerge_52 : decode mTs_clearForMerge.2.2.2.1 52 = .ok ((.goto (-42)), 3) := by decide +kernel
theorem dTs_clearForMerge_55 : decode mTs_clearForMerge.2.2.2.1 55 = .ok ((.aload_n 1), 1) := by decide +kernel
theorem dTs_clearForMerge_56 : decode mTs_clearForMerge.2.2.2.1 56 = .ok ((.iload_n 3), 1) := by decide +kernel
theorem dTs_clearForMerge_57 : decode mTs_clearForMerge.2.2.2.1 57 = .ok ((.iload 4), 2) := by decide +kernel
theorem dTs_clearForMerge_59 : decode mTs_clearForMerge.2.2.2.1 59 = .ok ((.invokevirtual 91), 3) := by decide +kernel
theorem dTs_clearForMerge_62 : decode mTs_clearForMerge.2.2.2.1 62 = .ok (.return_, 1) := by decide +kernel
theorem dTs_mergeRecords_0 : decode mTs_mergeRecords.2.2.2.1 0 = .ok ((.aload_n 0), 1) := by decide +kernel
theorem dTs_mergeRecords_1 : decode mTs_mergeRecords.2.2.2.1 1 = .ok ((.iload_n 2), 1) := by decide +kernel
theorem dTs_mergeRecords_2 : decode mTs_mergeRecords.2.2.2.1 2 = .ok ((.aload_n 0), 1) := by decide +kernel
theorem dTs_mergeRecords_3 : decode mTs_mergeRecords.2.2.2.1 3 = .ok ((.getfield 36), 3) := by decide +kernel
theorem dTs_mergeRecords_6 : decode mTs_mergeRecords.2.2.2.1 6 = .ok ((.invokevirtual 119), 3) := by decide +kernel
theorem dTs_mergeRecords_9 : decode mTs_mergeRecords.2.2.2.1 9 = .ok ((.astore_n 3), 1) := by decide +kernel
theorem dTs_mergeRecords_10 : decode mTs_mergeRecords.2.2.2.1 10 = .ok ((.iconst (0)), 1) := by decide +kernel
theorem dTs_mergeRecords_11 : decode mTs_mergeRecords.2.2.2.1 11 = .ok ((.istore 4), 2) := by decide +kernel
theorem dTs_mergeRecords_13 : decode mTs_mergeRecords.2.2.2.1 13 = .ok ((.iload 4), 2) := by decide +kernel
theorem dTs_mergeRecords_15 : decode mTs_mergeRecords.2.2.2.1 15 = .ok ((.sipush (361)), 3) := by decide +kernel
theorem dTs_mergeRecords_18 : decode mTs_mergeRecords.2.2.2.1 18 = .ok ((.if_icmp .ge (65)), 3) := by decide +kernel
theorem dTs_mergeRecords_21 : decode mTs_mergeRecords.2.2.2.1 21 = .ok ((.aload_n 3), 1) := by decide +kernel
theorem dTs_mergeRecords_22 : decode mTs_mergeRecords.2.2.2.1 22 = .ok ((.invokevirtual 123), 3) := by decide +kernel
theorem dTs_mergeRecords_25 : decode mTs_mergeRecords.2.2.2.1 25 = .ok ((.ifCond .eq (58)), 3) := by decide +kernel
theorem dTs_mergeRecords_28 : decode mTs_mergeRecords.2.2.2.1 28 = .ok ((.aload_n 3), 1) := by decide +kernel
theorem dTs_mergeRecords_29 : decode mTs_mergeRecords.2.2.2.1 29 = .ok ((.getfield 127), 3) := by decide +kernel
theorem dTs_mergeRecords_32 : decode mTs_mergeRecords.2.2.2.1 32 = .ok ((.lconst 0), 1) := by decide +kernel
theorem dTs_mergeRecords_33 : decode mTs_mergeRecords.2.2.2.1 33 = .ok (.lcmp, 1) := by decide +kernel
theorem dTs_mergeRecords_34 : decode mTs_mergeRecords.2.2.2.1 34 = .ok ((.ifCond .ne (11)), 3) := by decide +kernel
theorem dTs_mergeRecords_37 : decode mTs_mergeRecords.2.2.2.1 37 = .ok ((.iload_n 2), 1) := by decide +kernel
theorem dTs_mergeRecords_38 : decode mTs_mergeRecords.2.2.2.1 38 = .ok ((.ifCond .ne (7)), 3) := by decide +kernel
theorem dTs_mergeRecords_41 : decode mTs_mergeRecords.2.2.2.1 41 = .ok ((.iconst (1)), 1) := by decide +kernel
theorem dTs_mergeRecords_42 : decode mTs_mergeRecords.2.2.2.1 42 = .ok ((.goto (4)), 3) := by decide +kernel
theorem dTs_mergeRecords_45 : decode mTs_mergeRecords.2.2.2.1 45 = .ok ((.iconst (0)), 1) := by decide +kernel
theorem dTs_mergeRecords_46 : decode mTs_mergeRecords.2.2.2.1 46 = .ok ((.istore 5), 2) := by decide +kernel
theorem dTs_mergeRecords_48 : decode mTs_mergeRecords.2.2.2.1 48 = .ok ((.iload 5), 2) := by decide +kernel
theorem dTs_mergeRecords_50 : decode mTs_mergeRecords.2.2.2.1 50 = .ok ((.ifCond .ne (27)), 3) := by decide +kernel
theorem dTs_mergeRecords_53 : decode mTs_mergeRecords.2.2.2.1 53 = .ok ((.aload_n 1), 1) := by decide +kernel
theorem dTs_mergeRecords_54 : decode mTs_mergeRecords.2.2.2.1 54 = .ok ((.getfield 58), 3) := by decide +kernel
theorem dTs_mergeRecords_57 : decode mTs_mergeRecords.2.2.2.1 57 = .ok ((.aload_n 3), 1) := by decide +kernel
theorem dTs_mergeRecords_58 : decode mTs_mergeRecords.2.2.2.1 58 = .ok ((.getfield 131), 3) := by decide +kernel
theorem dTs_mergeRecords_61 : decode mTs_mergeRecords.2.2.2.1 61 = .ok ((.aload_n 3), 1) := by decide +kernel
theorem dTs_mergeRecords_62 : decode mTs_mergeRecords.2.2.2.1 62 = .ok ((.getfield 173), 3) := by decide +kernel
theorem dTs_mergeRecords_65 : decode mTs_mergeRecords.2.2.2.1 65 = .ok ((.aload_n 3), 1) := by decide +kernel
theorem dTs_mergeRecords_66 : decode mTs_mergeRecords.2.2.2.1 66 = .ok ((.getfield 127), 3) := by decide +kernel
theorem dTs_mergeRecords_69 : decode mTs_mergeRecords.2.2.2.1 69 = .ok ((.invokevirtual 105), 3) := by decide +kernel
theorem dTs_mergeRecords_72 : decode mTs_mergeRecords.2.2.2.1 72 = .ok ((.ifCond .ne (5)), 3) := by decide +kernel
theorem dTs_mergeRecords_75 : decode mTs_mergeRecords.2.2.2.1 75 = .ok ((.iconst (0)), 1) := by decide +kernel
theorem dTs_mergeRecords_76 : decode mTs_mergeRecords.2.2.2.1 76 = .ok (.ireturn, 1) := by decide +kernel
theorem dTs_mergeRecords_77 : decode mTs_mergeRecords.2.2.2.1 77 = .ok ((.iinc 4 (1)), 3) := by decide +kernel
theorem dTs_mergeRecords_80 : decode mTs_mergeRecords.2.2.2.1 80 = .ok ((.goto (-67)), 3) := by decide +kernel
theorem dTs_mergeRecords_83 : decode mTs_mergeRecords.2.2.2.1 83 = .ok ((.iconst (1)), 1) := by decide +kernel
theorem dTs_mergeRecords_84 : decode mTs_mergeRecords.2.2.2.1 84 = .ok (.ireturn, 1) := by decide +kernel
theorem dTs_mergeEntries_0 : decode mTs_mergeEntries.2.2.2.1 0 = .ok ((.aload_n 0), 1) := by decide +kernel
theorem dTs_mergeEntries_1 : decode mTs_mergeEntries.2.2.2.1 1 = .ok ((.iload_n 2), 1) := by decide +kernel
theorem dTs_mergeEntries_2 : decode mTs_mergeEntries.2.2.2.1 2 = .ok ((.aload_n 0), 1) := by decide +kernel
theorem dTs_mergeEntries_3 : decode mTs_mergeEntries.2.2.2.1 3 = .ok ((.getfield 36), 3) := by decide +kernel
theorem dTs_mergeEntries_6 : decode mTs_mergeEntries.2.2.2.1 6 = .ok ((.invokevirtual 176), 3) := by decide +kernel
theorem dTs_mergeEntries_9 : decode mTs_mergeEntries.2.2.2.1 9 = .ok ((.astore 4), 2) := by decide +kernel
theorem dTs_mergeEntries_11 : decode mTs_mergeEntries.2.2.2.1 11 = .ok ((.iconst (0)), 1) := by decide +kernel
theorem dTs_mergeEntries_12 : decode mTs_mergeEntries.2.2.2.1 12 = .ok ((.istore 5), 2) := by decide +kernel
theorem dTs_mergeEntries_14 : decode mTs_mergeEntries.2.2.2.1 14 = .ok ((.iload 5), 2) := by decide +kernel
theorem dTs_mergeEntries_16 : decode mTs_mergeEntries.2.2.2.1 16 = .ok ((.sipush (361)), 3) := by decide +kernel
theorem dTs_mergeEntries_19 : decode mTs_mergeEntries.2.2.2.1 19 = .ok ((.if_icmp .ge (65)), 3) := by decide +kernel
theorem dTs_mergeEntries_22 : decode mTs_mergeEntries.2.2.2.1 22 = .ok ((.aload 4), 2) := by decide +kernel
theorem dTs_mergeEntries_24 : decode mTs_mergeEntries.2.2.2.1 24 = .ok ((.invokevirtual 123), 3) := by decide +kernel
theorem dTs_mergeEntries_27 : decode mTs_mergeEntries.2.2.2.1 27 = .ok ((.ifCond .eq (57)), 3) := by decide +kernel
theorem dTs_mergeEntries_30 : decode mTs_mergeEntries.2.2.2.1 30 = .ok ((.aload 4), 2) := by decide +kernel
theorem dTs_mergeEntries_32 : decode mTs_mergeEntries.2.2.2.1 32 = .ok ((.getfield 173), 3) := by decide +kernel
theorem dTs_mergeEntries_35 : decode mTs_mergeEntries.2.2.2.1 35 = .ok ((.iload_n 3), 1) := by decide +kernel
theorem dTs_mergeEntries_36 : decode mTs_mergeEntries.2.2.2.1 36 = .ok ((.if_icmp .ge (7)), 3) := by decide +kernel
theorem dTs_mergeEntries_39 : decode mTs_mergeEntries.2.2.2.1 39 = .ok ((.iconst (1)), 1) := by decide +kernel
theorem dTs_mergeEntries_40 : decode mTs_mergeEntries.2.2.2.1 40 = .ok ((.goto (4)), 3) := by decide +kernel
theorem dTs_mergeEntries_43 : decode mTs_mergeEntries.2.2.2.1 43 = .ok ((.iconst (0)), 1) := by decide +kernel
theorem dTs_mergeEntries_44 : decode mTs_mergeEntries.2.2.2.1 44 = .ok ((.istore 6), 2) := by decide +kernel
theorem dTs_mergeEntries_46 : decode mTs_mergeEntries.2.2.2.1 46 = .ok ((.iload 6), 2) := by decide +kernel
theorem dTs_mergeEntries_48 : decode mTs_mergeEntries.2.2.2.1 48 = .ok ((.ifCond .ne (30)), 3) := by decide +kernel
theorem dTs_mergeEntries_51 : decode mTs_mergeEntries.2.2.2.1 51 = .ok ((.aload_n 1), 1) := by decide +kernel
theorem dTs_mergeEntries_52 : decode mTs_mergeEntries.2.2.2.1 52 = .ok ((.getfield 77), 3) := by decide +kernel
theorem dTs_mergeEntries_55 : decode mTs_mergeEntries.2.2.2.1 55 = .ok ((.aload 4), 2) := by decide +kernel
theorem dTs_mergeEntries_57 : decode mTs_mergeEntries.2.2.2.1 57 = .ok ((.getfield 131), 3) := by decide +kernel
theorem dTs_mergeEntries_60 : decode mTs_mergeEntries.2.2.2.1 60 = .ok ((.aload 4), 2) := by decide +kernel
theorem dTs_mergeEntries_62 : decode mTs_mergeEntries.2.2.2.1 62 = .ok ((.getfield 173), 3) := by decide +kernel
theorem dTs_mergeEntries_65 : decode mTs_mergeEntries.2.2.2.1 65 = .ok ((.aload 4), 2) := by decide +kernel
theorem dTs_mergeEntries_67 : decode mTs_mergeEntries.2.2.2.1 67 = .ok ((.getfield 127), 3) := by decide +kernel
theorem dTs_mergeEntries_70 : decode mTs_mergeEntries.2.2.2.1 70 = .ok ((.invokevirtual 105), 3) := by decide +kernel
theorem dTs_mergeEntries_73 : decode mTs_mergeEntries.2.2.2.1 73 = .ok ((.ifCond .ne (5)), 3) := by decide +kernel
theorem dTs_mergeEntries_76 : decode mTs_mergeEntries.2.2.2.1 76 = .ok ((.iconst (0)), 1) := by decide +kernel
theorem dTs_mergeEntries_77 : decode mTs_mergeEntries.2.2.2.1 77 = .ok (.ireturn, 1) := by decide +kernel
theorem dTs_mergeEntries_78 : decode mTs_mergeEntries.2.2.2.1 78 = .ok ((.iinc 5 (1)), 3) := by decide +kernel
theorem dTs_mergeEntries_81 : decode mTs_mergeEntries.2.2.2.1 81 = .ok ((.goto (-67)), 3) := by decide +kernel
theorem dTs_mergeEntries_84 : decode mTs_mergeEntries.2.2.2.1 84 = .ok ((.iconst (1)), 1) := by decide +kernel
theorem dTs_mergeEntries_85 : decode mTs_mergeEntries.2.2.2.1 85 = .ok (.ireturn, 1) := by decide +kernel
theorem dTx_init_0 : decode mTx_init.2.2.2.1 0 = .ok ((.aload_n 0), 1) := by decide +kernel
theorem dTx_init_1 : decode mTx_init.2.2.2.1 1 = .ok ((.invokespecial 3), 3) := by decide +kernel
theorem dTx_init_4 : decode mTx_init.2.2.2.1 4 = .ok ((.aload_n 0), 1) := by decide +kernel
theorem dTx_init_5 : decode mTx_init.2.2.2.1 5 = .ok ((.bipush (6)), 2) := by decide +kernel
theorem dTx_init_7 : decode mTx_init.2.2.2.1 7 = .ok ((.newarray .long), 2) := by decide +kernel
theorem dTx_init_9 : decode mTx_init.2.2.2.1 9 = .ok ((.putfield 9), 3) := by decide +kernel
theorem dTx_init_12 : decode mTx_init.2.2.2.1 12 = .ok ((.aload_n 0), 1) := by decide +kernel
theorem dTx_init_13 : decode mTx_init.2.2.2.1 13 = .ok ((.bipush (6)), 2) := by decide +kernel
theorem dTx_init_15 : decode mTx_init.2.2.2.1 15 = .ok ((.newarray .int), 2) := by decide +kernel
theorem dTx_init_17 : decode mTx_init.2.2.2.1 17 = .ok ((.putfield 15), 3) := by decide +kernel
theorem dTx_init_20 : decode mTx_init.2.2.2.1 20 = .ok ((.aload_n 0), 1) := by decide +kernel
theorem dTx_init_21 : decode mTx_init.2.2.2.1 21 = .ok ((.bipush (6)), 2) := by decide +kernel
theorem dTx_init_23 : decode mTx_init.2.2.2.1 23 = .ok ((.newarray .long), 2) := by decide +kernel
theorem dTx_init_25 : decode mTx_init.2.2.2.1 25 = .ok ((.putfield 19), 3) := by decide +kernel
theorem dTx_init_28 : decode mTx_init.2.2.2.1 28 = .ok (.return_, 1) := by decide +kernel
theorem dTx_add_0 : decode mTx_add.2.2.2.1 0 = .ok ((.aload_n 0), 1) := by decide +kernel
theorem dTx_add_1 : decode mTx_add.2.2.2.1 1 = .ok ((.getfield 22), 3) := by decide +kernel
theorem dTx_add_4 : decode mTx_add.2.2.2.1 4 = .ok ((.ifCond .eq (26)), 3) := by decide +kernel
theorem dTx_add_7 : decode mTx_add.2.2.2.1 7 = .ok ((.lload_n 1), 1) := by decide +kernel
theorem dTx_add_8 : decode mTx_add.2.2.2.1 8 = .ok ((.lconst 0), 1) := by decide +kernel
theorem dTx_add_9 : decode mTx_add.2.2.2.1 9 = .ok (.lcmp, 1) := by decide +kernel
theorem dTx_add_10 : decode mTx_add.2.2.2.1 10 = .ok ((.ifCond .eq (20)), 3) := by decide +kernel
theorem dTx_add_13 : decode mTx_add.2.2.2.1 13 = .ok ((.aload_n 0), 1) := by decide +kernel
theorem dTx_add_14 : decode mTx_add.2.2.2.1 14 = .ok ((.getfield 26), 3) := by decide +kernel
theorem dTx_add_17 : decode mTx_add.2.2.2.1 17 = .ok ((.bipush (6)), 2) := by decide +kernel
theorem dTx_add_19 : decode mTx_add.2.2.2.1 19 = .ok ((.if_icmp .ge (11)), 3) := by decide +kernel
theorem dTx_add_22 : decode mTx_add.2.2.2.1 22 = .ok ((.aload_n 0), 1) := by decide +kernel
theorem dTx_add_23 : decode mTx_add.2.2.2.1 23 = .ok ((.lload_n 1), 1) := by decide +kernel
theorem dTx_add_24 : decode mTx_add.2.2.2.1 24 = .ok ((.invokevirtual 30), 3) := by decide +kernel
theorem dTx_add_27 : decode mTx_add.2.2.2.1 27 = .ok ((.ifCond .eq (5)), 3) := by decide +kernel
theorem dTx_add_30 : decode mTx_add.2.2.2.1 30 = .ok ((.iconst (0)), 1) := by decide +kernel
theorem dTx_add_31 : decode mTx_add.2.2.2.1 31 = .ok (.ireturn, 1) := by decide +kernel
theorem dTx_add_32 : decode mTx_add.2.2.2.1 32 = .ok ((.aload_n 0), 1) := by decide +kernel
theorem dTx_add_33 : decode mTx_add.2.2.2.1 33 = .ok ((.getfield 9), 3) := by decide +kernel
theorem dTx_add_36 : decode mTx_add.2.2.2.1 36 = .ok ((.aload_n 0), 1) := by decide +kernel
theorem dTx_add_37 : decode mTx_add.2.2.2.1 37 = .ok ((.getfield 26), 3) := by decide +kernel
theorem dTx_add_40 : decode mTx_add.2.2.2.1 40 = .ok ((.lload_n 1), 1) := by decide +kernel
theorem dTx_add_41 : decode mTx_add.2.2.2.1 41 = .ok (.lastore, 1) := by decide +kernel
theorem dTx_add_42 : decode mTx_add.2.2.2.1 42 = .ok ((.aload_n 0), 1) := by decide +kernel
theorem dTx_add_43 : decode mTx_add.2.2.2.1 43 = .ok ((.getfield 15), 3) := by decide +kernel
theorem dTx_add_46 : decode mTx_add.2.2.2.1 46 = .ok ((.aload_n 0), 1) := by decide +kernel
theorem dTx_add_47 : decode mTx_add.2.2.2.1 47 = .ok ((.getfield 26), 3) := by decide +kernel
theorem dTx_add_50 : decode mTx_add.2.2.2.1 50 = .ok ((.iload_n 3), 1) := by decide +kernel
theorem dTx_add_51 : decode mTx_add.2.2.2.1 51 = .ok (.iastore, 1) := by decide +kernel
theorem dTx_add_52 : decode mTx_add.2.2.2.1 52 = .ok ((.aload_n 0), 1) := by decide +kernel
theorem dTx_add_53 : decode mTx_add.2.2.2.1 53 = .ok ((.getfield 19), 3) := by decide +kernel
theorem dTx_add_56 : decode mTx_add.2.2.2.1 56 = .ok ((.aload_n 0), 1) := by decide +kernel
theorem dTx_add_57 : decode mTx_add.2.2.2.1 57 = .ok ((.getfield 26), 3) := by decide +kernel
theorem dTx_add_60 : decode mTx_add.2.2.2.1 60 = .ok ((.lload 4), 2) := by decide +kernel
theorem dTx_add_62 : decode mTx_add.2.2.2.1 62 = .ok (.lastore, 1) := by decide +kernel
theorem dTx_add_63 : decode mTx_add.2.2.2.1 63 = .ok ((.aload_n 0), 1) := by decide +kernel
theorem dTx_add_64 : decode mTx_add.2.2.2.1 64 = .ok (.dup, 1) := by decide +kernel
theorem dTx_add_65 : decode mTx_add.2.2.2.1 65 = .ok ((.getfield 26), 3) := by decide +kernel
theorem dTx_add_68 : decode mTx_add.2.2.2.1 68 = .ok ((.iconst (1)), 1) := by decide +kernel
theorem dTx_add_69 : decode mTx_add.2.2.2.1 69 = .ok (.iadd, 1) := by decide +kernel
theorem dTx_add_70 : decode mTx_add.2.2.2.1 70 = .ok ((.putfield 26), 3) := by decide +kernel
theorem dTx_add_73 : decode mTx_add.2.2.2.1 73 = .ok ((.iconst (1)), 1) := by decide +kernel
theorem dTx_add_74 : decode mTx_add.2.2.2.1 74 = .ok (.ireturn, 1) := by decide +kernel
theorem dTx_changes_0 : decode mTx_changes.2.2.2.1 0 = .ok ((.iconst (0)), 1) := by decide +kernel
theorem dTx_changes_1 : decode mTx_changes.2.2.2.1 1 = .ok ((.istore_n 3), 1) := by decide +kernel
theorem dTx_changes_2 : decode mTx_changes.2.2.2.1 2 = .ok ((.iload_n 3), 1) := by decide +kernel
theorem dTx_changes_3 : decode mTx_changes.2.2.2.1 3 = .ok ((.aload_n 0), 1) := by decide +kernel
theorem dTx_changes_4 : decode mTx_changes.2.2.2.1 4 = .ok ((.getfield 26), 3) := by decide +kernel
theorem dTx_changes_7 : decode mTx_changes.2.2.2.1 7 = .ok ((.if_icmp .ge (22)), 3) := by decide +kernel
theorem dTx_changes_10 : decode mTx_changes.2.2.2.1 10 = .ok ((.aload_n 0), 1) := by decide +kernel
theorem dTx_changes_11 : decode mTx_changes.2.2.2.1 11 = .ok ((.getfield 9), 3) := by decide +kernel
theorem dTx_changes_14 : decode mTx_changes.2.2.2.1 14 = .ok ((.iload_n 3), 1) := by decide +kernel
theorem dTx_changes_15 : decode mTx_changes.2.2.2.1 15 = .ok (.laload, 1) := by decide +kernel
theorem dTx_changes_16 : decode mTx_changes.2.2.2.1 16 = .ok ((.lload_n 1), 1) := by decide +kernel
theorem dTx_changes_17 : decode mTx_changes.2.2.2.1 17 = .ok (.lcmp, 1) := by decide +kernel
theorem dTx_changes_18 : decode mTx_changes.2.2.2.1 18 = .ok ((.ifCond .ne (5)), 3) := by decide +kernel
theorem dTx_changes_21 : decode mTx_changes.2.2.2.1 21 = .ok ((.iconst (1)), 1) := by decide +kernel
theorem dTx_changes_22 : decode mTx_changes.2.2.2.1 22 = .ok (.ireturn, 1) := by decide +kernel
theorem dTx_changes_23 : decode mTx_changes.2.2.2.1 23 = .ok ((.iinc 3 (1)), 3) := by decide +kernel
theorem dTx_changes_26 : decode mTx_changes.2.2.2.1 26 = .ok ((.goto (-24)), 3) := by decide +kernel
theorem dTx_changes_29 : decode mTx_changes.2.2.2.1 29 = .ok ((.iconst (0)), 1) := by decide +kernel
theorem dTx_changes_30 : decode mTx_changes.2.2.2.1 30 = .ok (.ireturn, 1) := by decide +kernel
theorem dTx_firstAbove_0 : decode mTx_firstAbove.2.2.2.1 0 = .ok ((.iconst (-1)), 1) := by decide +kernel
theorem dTx_firstAbove_1 : decode mTx_firstAbove.2.2.2.1 1 = .ok ((.istore_n 3), 1) := by decide +kernel
theorem dTx_firstAbove_2 : decode mTx_firstAbove.2.2.2.1 2 = .ok ((.iconst (0)), 1) := by decide +kernel
theorem dTx_firstAbove_3 : decode mTx_firstAbove.2.2.2.1 3 = .ok ((.istore 4), 2) := by decide +kernel
theorem dTx_firstAbove_5 : decode mTx_firstAbove.2.2.2.1 5 = .ok ((.iload 4), 2) := by decide +kernel
theorem dTx_firstAbove_7 : decode mTx_firstAbove.2.2.2.1 7 = .ok ((.aload_n 0), 1) := by decide +kernel
theorem dTx_firstAbove_8 : decode mTx_firstAbove.2.2.2.1 8 = .ok ((.getfield 26), 3) := by decide +kernel
theorem dTx_firstAbove_11 : decode mTx_firstAbove.2.2.2.1 11 = .ok ((.if_icmp .ge (45)), 3) := by decide +kernel
theorem dTx_firstAbove_14 : decode mTx_firstAbove.2.2.2.1 14 = .ok ((.aload_n 0), 1) := by decide +kernel
theorem dTx_firstAbove_15 : decode mTx_firstAbove.2.2.2.1 15 = .ok ((.getfield 9), 3) := by decide +kernel
theorem dTx_firstAbove_18 : decode mTx_firstAbove.2.2.2.1 18 = .ok ((.iload 4), 2) := by decide +kernel
theorem dTx_firstAbove_20 : decode mTx_firstAbove.2.2.2.1 20 = .ok (.laload, 1) := by decide +kernel
theorem dTx_firstAbove_21 : decode mTx_firstAbove.2.2.2.1 21 = .ok ((.lload_n 1), 1) := by decide +kernel
theorem dTx_firstAbove_22 : decode mTx_firstAbove.2.2.2.1 22 = .ok (.lcmp, 1) := by decide +kernel
theorem dTx_firstAbove_23 : decode mTx_firstAbove.2.2.2.1 23 = .ok ((.ifCond .le (27)), 3) := by decide +kernel
theorem dTx_firstAbove_26 : decode mTx_firstAbove.2.2.2.1 26 = .ok ((.iload_n 3), 1) := by decide +kernel
theorem dTx_firstAbove_27 : decode mTx_firstAbove.2.2.2.1 27 = .ok ((.ifCond .lt (20)), 3) := by decide +kernel
theorem dTx_firstAbove_30 : decode mTx_firstAbove.2.2.2.1 30 = .ok ((.aload_n 0), 1) := by decide +kernel
theorem dTx_firstAbove_31 : decode mTx_firstAbove.2.2.2.1 31 = .ok ((.getfield 9), 3) := by decide +kernel
theorem dTx_firstAbove_34 : decode mTx_firstAbove.2.2.2.1 34 = .ok ((.iload 4), 2) := by decide +kernel
theorem dTx_firstAbove_36 : decode mTx_firstAbove.2.2.2.1 36 = .ok (.laload, 1) := by decide +kernel
theorem dTx_firstAbove_37 : decode mTx_firstAbove.2.2.2.1 37 = .ok ((.aload_n 0), 1) := by decide +kernel
theorem dTx_firstAbove_38 : decode mTx_firstAbove.2.2.2.1 38 = .ok ((.getfield 9), 3) := by decide +kernel
theorem dTx_firstAbove_41 : decode mTx_firstAbove.2.2.2.1 41 = .ok ((.iload_n 3), 1) := by decide +kernel
theorem dTx_firstAbove_42 : decode mTx_firstAbove.2.2.2.1 42 = .ok (.laload, 1) := by decide +kernel
theorem dTx_firstAbove_43 : decode mTx_firstAbove.2.2.2.1 43 = .ok (.lcmp, 1) := by decide +kernel
theorem dTx_firstAbove_44 : decode mTx_firstAbove.2.2.2.1 44 = .ok ((.ifCond .ge (6)), 3) := by decide +kernel
theorem dTx_firstAbove_47 : decode mTx_firstAbove.2.2.2.1 47 = .ok ((.iload 4), 2) := by decide +kernel
theorem dTx_firstAbove_49 : decode mTx_firstAbove.2.2.2.1 49 = .ok ((.istore_n 3), 1) := by decide +kernel
theorem dTx_firstAbove_50 : decode mTx_firstAbove.2.2.2.1 50 = .ok ((.iinc 4 (1)), 3) := by decide +kernel
theorem dTx_firstAbove_53 : decode mTx_firstAbove.2.2.2.1 53 = .ok ((.goto (-48)), 3) := by decide +kernel
theorem dTx_firstAbove_56 : decode mTx_firstAbove.2.2.2.1 56 = .ok ((.iload_n 3), 1) := by decide +kernel
theorem dTx_firstAbove_57 : decode mTx_firstAbove.2.2.2.1 57 = .ok (.ireturn, 1) := by decide +kernel
theorem dWk_init_0 : decode mWk_init.2.2.2.1 0 = .ok ((.aload_n 0), 1) := by decide +kernel
theorem dWk_init_1 : decode mWk_init.2.2.2.1 1 = .ok ((.invokespecial 3), 3) := by decide +kernel
theorem dWk_init_4 : decode mWk_init.2.2.2.1 4 = .ok ((.aload_n 0), 1) := by decide +kernel
theorem dWk_init_5 : decode mWk_init.2.2.2.1 5 = .ok ((.bipush (9)), 2) := by decide +kernel
theorem dWk_init_7 : decode mWk_init.2.2.2.1 7 = .ok ((.anewarray 9), 3) := by decide +kernel
theorem dWk_init_10 : decode mWk_init.2.2.2.1 10 = .ok ((.putfield 11), 3) := by decide +kernel
theorem dWk_init_13 : decode mWk_init.2.2.2.1 13 = .ok ((.aload_n 0), 1) := by decide +kernel
theorem dWk_init_14 : decode mWk_init.2.2.2.1 14 = .ok ((.bipush (9)), 2) := by decide +kernel
theorem dWk_init_16 : decode mWk_init.2.2.2.1 16 = .ok ((.newarray .int), 2) := by decide +kernel
theorem dWk_init_18 : decode mWk_init.2.2.2.1 18 = .ok ((.putfield 17), 3) := by decide +kernel
theorem dWk_init_21 : decode mWk_init.2.2.2.1 21 = .ok ((.aload_n 0), 1) := by decide +kernel
theorem dWk_init_22 : decode mWk_init.2.2.2.1 22 = .ok ((.iload_n 1), 1) := by decide +kernel
theorem dWk_init_23 : decode mWk_init.2.2.2.1 23 = .ok ((.putfield 21), 3) := by decide +kernel
theorem dWk_init_26 : decode mWk_init.2.2.2.1 26 = .ok (.return_, 1) := by decide +kernel
theorem dWk_restart_0 : decode mWk_restart.2.2.2.1 0 = .ok ((.aload_n 0), 1) := by decide +kernel
theorem dWk_restart_1 : decode mWk_restart.2.2.2.1 1 = .ok ((.iconst (0)), 1) := by decide +kernel
theorem dWk_restart_2 : decode mWk_restart.2.2.2.1 2 = .ok ((.putfield 25), 3) := by decide +kernel
theorem dWk_restart_5 : decode mWk_restart.2.2.2.1 5 = .ok ((.aload_n 0), 1) := by decide +kernel
theorem dWk_restart_6 : decode mWk_restart.2.2.2.1 6 = .ok ((.lconst 0), 1) := by decide +kernel
theorem dWk_restart_7 : decode mWk_restart.2.2.2.1 7 = .ok ((.putfield 29), 3) := by decide +kernel
theorem dWk_restart_10 : decode mWk_restart.2.2.2.1 10 = .ok (.return_, 1) := by decide +kernel
theorem dWk_add_0 : decode mWk_add.2.2.2.1 0 = .ok ((.aload_n 0), 1) := by decide +kernel
theorem dWk_add_1 : decode mWk_add.2.2.2.1 1 = .ok ((.getfield 25), 3) := by decide +kernel
theorem dWk_add_4 : decode mWk_add.2.2.2.1 4 = .ok ((.bipush (9)), 2) := by decide +kernel
theorem dWk_add_6 : decode mWk_add.2.2.2.1 6 = .ok ((.if_icmp .ge (33)), 3) := by decide +kernel
theorem dWk_add_9 : decode mWk_add.2.2.2.1 9 = .ok ((.aload_n 0), 1) := by decide +kernel
theorem dWk_add_10 : decode mWk_add.2.2.2.1 10 = .ok ((.getfield 11), 3) := by decide +kernel
theorem dWk_add_13 : decode mWk_add.2.2.2.1 13 = .ok ((.aload_n 0), 1) := by decide +kernel
theorem dWk_add_14 : decode mWk_add.2.2.2.1 14 = .ok ((.getfield 25), 3) := by decide +kernel
theorem dWk_add_17 : decode mWk_add.2.2.2.1 17 = .ok ((.aload_n 1), 1) := by decide +kernel
theorem dWk_add_18 : decode mWk_add.2.2.2.1 18 = .ok (.aastore, 1) := by decide +kernel
theorem dWk_add_19 : decode mWk_add.2.2.2.1 19 = .ok ((.aload_n 0), 1) := by decide +kernel
theorem dWk_add_20 : decode mWk_add.2.2.2.1 20 = .ok ((.getfield 17), 3) := by decide +kernel
theorem dWk_add_23 : decode mWk_add.2.2.2.1 23 = .ok ((.aload_n 0), 1) := by decide +kernel
theorem dWk_add_24 : decode mWk_add.2.2.2.1 24 = .ok ((.getfield 25), 3) := by decide +kernel
theorem dWk_add_27 : decode mWk_add.2.2.2.1 27 = .ok ((.iconst (0)), 1) := by decide +kernel
theorem dWk_add_28 : decode mWk_add.2.2.2.1 28 = .ok (.iastore, 1) := by decide +kernel
theorem dWk_add_29 : decode mWk_add.2.2.2.1 29 = .ok ((.aload_n 0), 1) := by decide +kernel
theorem dWk_add_30 : decode mWk_add.2.2.2.1 30 = .ok (.dup, 1) := by decide +kernel
theorem dWk_add_31 : decode mWk_add.2.2.2.1 31 = .ok ((.getfield 25), 3) := by decide +kernel
theorem dWk_add_34 : decode mWk_add.2.2.2.1 34 = .ok ((.iconst (1)), 1) := by decide +kernel
theorem dWk_add_35 : decode mWk_add.2.2.2.1 35 = .ok (.iadd, 1) := by decide +kernel
theorem dWk_add_36 : decode mWk_add.2.2.2.1 36 = .ok ((.putfield 25), 3) := by decide +kernel
theorem dWk_add_39 : decode mWk_add.2.2.2.1 39 = .ok (.return_, 1) := by decide +kernel
