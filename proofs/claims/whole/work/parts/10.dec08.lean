theorem dRd_readRecord_0 : decode mRd_readRecord.2.2.2.1 0 = .ok ((.aload_n 0), 1) := by decide +kernel
theorem dRd_readRecord_1 : decode mRd_readRecord.2.2.2.1 1 = .ok ((.getfield 9), 3) := by decide +kernel
theorem dRd_readRecord_4 : decode mRd_readRecord.2.2.2.1 4 = .ok ((.getfield 68), 3) := by decide +kernel
theorem dRd_readRecord_7 : decode mRd_readRecord.2.2.2.1 7 = .ok ((.astore_n 2), 1) := by decide +kernel
theorem dRd_readRecord_8 : decode mRd_readRecord.2.2.2.1 8 = .ok ((.aload_n 0), 1) := by decide +kernel
theorem dRd_readRecord_9 : decode mRd_readRecord.2.2.2.1 9 = .ok ((.invokevirtual 39), 3) := by decide +kernel
theorem dRd_readRecord_12 : decode mRd_readRecord.2.2.2.1 12 = .ok ((.istore_n 3), 1) := by decide +kernel
theorem dRd_readRecord_13 : decode mRd_readRecord.2.2.2.1 13 = .ok ((.aload_n 0), 1) := by decide +kernel
theorem dRd_readRecord_14 : decode mRd_readRecord.2.2.2.1 14 = .ok ((.invokevirtual 39), 3) := by decide +kernel
theorem dRd_readRecord_17 : decode mRd_readRecord.2.2.2.1 17 = .ok ((.istore 4), 2) := by decide +kernel
theorem dRd_readRecord_19 : decode mRd_readRecord.2.2.2.1 19 = .ok ((.aload_n 0), 1) := by decide +kernel
theorem dRd_readRecord_20 : decode mRd_readRecord.2.2.2.1 20 = .ok ((.iload 4), 2) := by decide +kernel
theorem dRd_readRecord_22 : decode mRd_readRecord.2.2.2.1 22 = .ok ((.iconst (2)), 1) := by decide +kernel
theorem dRd_readRecord_23 : decode mRd_readRecord.2.2.2.1 23 = .ok (.ishr, 1) := by decide +kernel
theorem dRd_readRecord_24 : decode mRd_readRecord.2.2.2.1 24 = .ok ((.iconst (1)), 1) := by decide +kernel
theorem dRd_readRecord_25 : decode mRd_readRecord.2.2.2.1 25 = .ok ((.if_icmp .lt (7)), 3) := by decide +kernel
theorem dRd_readRecord_28 : decode mRd_readRecord.2.2.2.1 28 = .ok ((.iconst (1)), 1) := by decide +kernel
theorem dRd_readRecord_29 : decode mRd_readRecord.2.2.2.1 29 = .ok ((.goto (4)), 3) := by decide +kernel
theorem dRd_readRecord_32 : decode mRd_readRecord.2.2.2.1 32 = .ok ((.iconst (0)), 1) := by decide +kernel
theorem dRd_readRecord_33 : decode mRd_readRecord.2.2.2.1 33 = .ok ((.invokevirtual 35), 3) := by decide +kernel
theorem dRd_readRecord_36 : decode mRd_readRecord.2.2.2.1 36 = .ok ((.aload_n 0), 1) := by decide +kernel
theorem dRd_readRecord_37 : decode mRd_readRecord.2.2.2.1 37 = .ok ((.aload_n 2), 1) := by decide +kernel
theorem dRd_readRecord_38 : decode mRd_readRecord.2.2.2.1 38 = .ok ((.iload_n 1), 1) := by decide +kernel
theorem dRd_readRecord_39 : decode mRd_readRecord.2.2.2.1 39 = .ok ((.invokevirtual 72), 3) := by decide +kernel
theorem dRd_readRecord_42 : decode mRd_readRecord.2.2.2.1 42 = .ok ((.iload_n 3), 1) := by decide +kernel
theorem dRd_readRecord_43 : decode mRd_readRecord.2.2.2.1 43 = .ok ((.iload 4), 2) := by decide +kernel
theorem dRd_readRecord_45 : decode mRd_readRecord.2.2.2.1 45 = .ok ((.iconst (2)), 1) := by decide +kernel
theorem dRd_readRecord_46 : decode mRd_readRecord.2.2.2.1 46 = .ok (.ishr, 1) := by decide +kernel
theorem dRd_readRecord_47 : decode mRd_readRecord.2.2.2.1 47 = .ok ((.invokevirtual 78), 3) := by decide +kernel
theorem dRd_readRecord_50 : decode mRd_readRecord.2.2.2.1 50 = .ok ((.lstore 5), 2) := by decide +kernel
theorem dRd_readRecord_52 : decode mRd_readRecord.2.2.2.1 52 = .ok ((.aload_n 0), 1) := by decide +kernel
theorem dRd_readRecord_53 : decode mRd_readRecord.2.2.2.1 53 = .ok ((.iload_n 3), 1) := by decide +kernel
theorem dRd_readRecord_54 : decode mRd_readRecord.2.2.2.1 54 = .ok ((.aload_n 2), 1) := by decide +kernel
theorem dRd_readRecord_55 : decode mRd_readRecord.2.2.2.1 55 = .ok ((.iload_n 1), 1) := by decide +kernel
theorem dRd_readRecord_56 : decode mRd_readRecord.2.2.2.1 56 = .ok ((.lload 5), 2) := by decide +kernel
theorem dRd_readRecord_58 : decode mRd_readRecord.2.2.2.1 58 = .ok ((.invokevirtual 82), 3) := by decide +kernel
theorem dRd_readRecord_61 : decode mRd_readRecord.2.2.2.1 61 = .ok ((.if_icmp .ne (18)), 3) := by decide +kernel
theorem dRd_readRecord_64 : decode mRd_readRecord.2.2.2.1 64 = .ok ((.lload 5), 2) := by decide +kernel
theorem dRd_readRecord_66 : decode mRd_readRecord.2.2.2.1 66 = .ok ((.aload_n 2), 1) := by decide +kernel
theorem dRd_readRecord_67 : decode mRd_readRecord.2.2.2.1 67 = .ok ((.iload_n 1), 1) := by decide +kernel
theorem dRd_readRecord_68 : decode mRd_readRecord.2.2.2.1 68 = .ok ((.invokevirtual 72), 3) := by decide +kernel
theorem dRd_readRecord_71 : decode mRd_readRecord.2.2.2.1 71 = .ok (.lcmp, 1) := by decide +kernel
theorem dRd_readRecord_72 : decode mRd_readRecord.2.2.2.1 72 = .ok ((.ifCond .le (7)), 3) := by decide +kernel
theorem dRd_readRecord_75 : decode mRd_readRecord.2.2.2.1 75 = .ok ((.iconst (1)), 1) := by decide +kernel
theorem dRd_readRecord_76 : decode mRd_readRecord.2.2.2.1 76 = .ok ((.goto (4)), 3) := by decide +kernel
theorem dRd_readRecord_79 : decode mRd_readRecord.2.2.2.1 79 = .ok ((.iconst (0)), 1) := by decide +kernel
theorem dRd_readRecord_80 : decode mRd_readRecord.2.2.2.1 80 = .ok ((.invokevirtual 35), 3) := by decide +kernel
theorem dRd_readRecord_83 : decode mRd_readRecord.2.2.2.1 83 = .ok ((.aload_n 0), 1) := by decide +kernel
theorem dRd_readRecord_84 : decode mRd_readRecord.2.2.2.1 84 = .ok ((.getfield 9), 3) := by decide +kernel
theorem dRd_readRecord_87 : decode mRd_readRecord.2.2.2.1 87 = .ok ((.getfield 86), 3) := by decide +kernel
theorem dRd_readRecord_90 : decode mRd_readRecord.2.2.2.1 90 = .ok ((.aload_n 0), 1) := by decide +kernel
theorem dRd_readRecord_91 : decode mRd_readRecord.2.2.2.1 91 = .ok ((.invokevirtual 39), 3) := by decide +kernel
theorem dRd_readRecord_94 : decode mRd_readRecord.2.2.2.1 94 = .ok (.iadd, 1) := by decide +kernel
theorem dRd_readRecord_95 : decode mRd_readRecord.2.2.2.1 95 = .ok ((.istore 7), 2) := by decide +kernel
theorem dRd_readRecord_97 : decode mRd_readRecord.2.2.2.1 97 = .ok ((.aload_n 0), 1) := by decide +kernel
theorem dRd_readRecord_98 : decode mRd_readRecord.2.2.2.1 98 = .ok ((.iload 7), 2) := by decide +kernel
theorem dRd_readRecord_100 : decode mRd_readRecord.2.2.2.1 100 = .ok ((.aload_n 0), 1) := by decide +kernel
theorem dRd_readRecord_101 : decode mRd_readRecord.2.2.2.1 101 = .ok ((.getfield 9), 3) := by decide +kernel
theorem dRd_readRecord_104 : decode mRd_readRecord.2.2.2.1 104 = .ok ((.getfield 89), 3) := by decide +kernel
theorem dRd_readRecord_107 : decode mRd_readRecord.2.2.2.1 107 = .ok ((.if_icmp .gt (7)), 3) := by decide +kernel
theorem dRd_readRecord_110 : decode mRd_readRecord.2.2.2.1 110 = .ok ((.iconst (1)), 1) := by decide +kernel
theorem dRd_readRecord_111 : decode mRd_readRecord.2.2.2.1 111 = .ok ((.goto (4)), 3) := by decide +kernel
theorem dRd_readRecord_114 : decode mRd_readRecord.2.2.2.1 114 = .ok ((.iconst (0)), 1) := by decide +kernel
theorem dRd_readRecord_115 : decode mRd_readRecord.2.2.2.1 115 = .ok ((.invokevirtual 35), 3) := by decide +kernel
theorem dRd_readRecord_118 : decode mRd_readRecord.2.2.2.1 118 = .ok ((.aload_n 0), 1) := by decide +kernel
theorem dRd_readRecord_119 : decode mRd_readRecord.2.2.2.1 119 = .ok ((.aload_n 2), 1) := by decide +kernel
theorem dRd_readRecord_120 : decode mRd_readRecord.2.2.2.1 120 = .ok ((.lload 5), 2) := by decide +kernel
theorem dRd_readRecord_122 : decode mRd_readRecord.2.2.2.1 122 = .ok ((.iload 7), 2) := by decide +kernel
theorem dRd_readRecord_124 : decode mRd_readRecord.2.2.2.1 124 = .ok ((.aload_n 0), 1) := by decide +kernel
theorem dRd_readRecord_125 : decode mRd_readRecord.2.2.2.1 125 = .ok ((.iload 4), 2) := by decide +kernel
theorem dRd_readRecord_127 : decode mRd_readRecord.2.2.2.1 127 = .ok ((.iconst (3)), 1) := by decide +kernel
theorem dRd_readRecord_128 : decode mRd_readRecord.2.2.2.1 128 = .ok (.iand, 1) := by decide +kernel
theorem dRd_readRecord_129 : decode mRd_readRecord.2.2.2.1 129 = .ok ((.invokevirtual 92), 3) := by decide +kernel
theorem dRd_readRecord_132 : decode mRd_readRecord.2.2.2.1 132 = .ok ((.invokevirtual 95), 3) := by decide +kernel
theorem dRd_readRecord_135 : decode mRd_readRecord.2.2.2.1 135 = .ok ((.invokevirtual 35), 3) := by decide +kernel
theorem dRd_readRecord_138 : decode mRd_readRecord.2.2.2.1 138 = .ok (.return_, 1) := by decide +kernel
theorem dRd_nextContent_0 : decode mRd_nextContent.2.2.2.1 0 = .ok ((.iload_n 1), 1) := by decide +kernel
theorem dRd_nextContent_1 : decode mRd_nextContent.2.2.2.1 1 = .ok ((.tableswitch (63) (0) (2) #[27, 29, 51]), 27) := by decide +kernel
theorem dRd_nextContent_28 : decode mRd_nextContent.2.2.2.1 28 = .ok ((.lconst 0), 1) := by decide +kernel
theorem dRd_nextContent_29 : decode mRd_nextContent.2.2.2.1 29 = .ok (.lreturn, 1) := by decide +kernel
theorem dRd_nextContent_30 : decode mRd_nextContent.2.2.2.1 30 = .ok ((.aload_n 0), 1) := by decide +kernel
theorem dRd_nextContent_31 : decode mRd_nextContent.2.2.2.1 31 = .ok ((.invokevirtual 99), 3) := by decide +kernel
theorem dRd_nextContent_34 : decode mRd_nextContent.2.2.2.1 34 = .ok ((.istore_n 2), 1) := by decide +kernel
theorem dRd_nextContent_35 : decode mRd_nextContent.2.2.2.1 35 = .ok ((.aload_n 0), 1) := by decide +kernel
theorem dRd_nextContent_36 : decode mRd_nextContent.2.2.2.1 36 = .ok ((.iload_n 2), 1) := by decide +kernel
theorem dRd_nextContent_37 : decode mRd_nextContent.2.2.2.1 37 = .ok ((.iconst (1)), 1) := by decide +kernel
theorem dRd_nextContent_38 : decode mRd_nextContent.2.2.2.1 38 = .ok ((.if_icmp .lt (7)), 3) := by decide +kernel
theorem dRd_nextContent_41 : decode mRd_nextContent.2.2.2.1 41 = .ok ((.iconst (1)), 1) := by decide +kernel
theorem dRd_nextContent_42 : decode mRd_nextContent.2.2.2.1 42 = .ok ((.goto (4)), 3) := by decide +kernel
theorem dRd_nextContent_45 : decode mRd_nextContent.2.2.2.1 45 = .ok ((.iconst (0)), 1) := by decide +kernel
theorem dRd_nextContent_46 : decode mRd_nextContent.2.2.2.1 46 = .ok ((.invokevirtual 35), 3) := by decide +kernel
theorem dRd_nextContent_49 : decode mRd_nextContent.2.2.2.1 49 = .ok ((.iload_n 2), 1) := by decide +kernel
theorem dRd_nextContent_50 : decode mRd_nextContent.2.2.2.1 50 = .ok (.i2l, 1) := by decide +kernel
theorem dRd_nextContent_51 : decode mRd_nextContent.2.2.2.1 51 = .ok (.lreturn, 1) := by decide +kernel
theorem dRd_nextContent_52 : decode mRd_nextContent.2.2.2.1 52 = .ok ((.aload_n 0), 1) := by decide +kernel
theorem dRd_nextContent_53 : decode mRd_nextContent.2.2.2.1 53 = .ok ((.lconst 0), 1) := by decide +kernel
theorem dRd_nextContent_54 : decode mRd_nextContent.2.2.2.1 54 = .ok ((.iconst (0)), 1) := by decide +kernel
theorem dRd_nextContent_55 : decode mRd_nextContent.2.2.2.1 55 = .ok ((.aload_n 0), 1) := by decide +kernel
theorem dRd_nextContent_56 : decode mRd_nextContent.2.2.2.1 56 = .ok ((.invokevirtual 39), 3) := by decide +kernel
theorem dRd_nextContent_59 : decode mRd_nextContent.2.2.2.1 59 = .ok ((.invokevirtual 78), 3) := by decide +kernel
theorem dRd_nextContent_62 : decode mRd_nextContent.2.2.2.1 62 = .ok (.lneg, 1) := by decide +kernel
theorem dRd_nextContent_63 : decode mRd_nextContent.2.2.2.1 63 = .ok (.lreturn, 1) := by decide +kernel
theorem dRd_nextContent_64 : decode mRd_nextContent.2.2.2.1 64 = .ok ((.aload_n 0), 1) := by decide +kernel
theorem dRd_nextContent_65 : decode mRd_nextContent.2.2.2.1 65 = .ok ((.iconst (1)), 1) := by decide +kernel
theorem dRd_nextContent_66 : decode mRd_nextContent.2.2.2.1 66 = .ok ((.putfield 27), 3) := by decide +kernel
theorem dRd_nextContent_69 : decode mRd_nextContent.2.2.2.1 69 = .ok ((.lconst 0), 1) := by decide +kernel
theorem dRd_nextContent_70 : decode mRd_nextContent.2.2.2.1 70 = .ok (.lreturn, 1) := by decide +kernel
theorem dRd_readEntry_0 : decode mRd_readEntry.2.2.2.1 0 = .ok ((.aload_n 0), 1) := by decide +kernel
theorem dRd_readEntry_1 : decode mRd_readEntry.2.2.2.1 1 = .ok ((.getfield 9), 3) := by decide +kernel
theorem dRd_readEntry_4 : decode mRd_readEntry.2.2.2.1 4 = .ok ((.getfield 102), 3) := by decide +kernel
theorem dRd_readEntry_7 : decode mRd_readEntry.2.2.2.1 7 = .ok ((.astore_n 2), 1) := by decide +kernel
theorem dRd_readEntry_8 : decode mRd_readEntry.2.2.2.1 8 = .ok ((.aload_n 0), 1) := by decide +kernel
theorem dRd_readEntry_9 : decode mRd_readEntry.2.2.2.1 9 = .ok ((.invokevirtual 39), 3) := by decide +kernel
theorem dRd_readEntry_12 : decode mRd_readEntry.2.2.2.1 12 = .ok ((.istore_n 3), 1) := by decide +kernel
theorem dRd_readEntry_13 : decode mRd_readEntry.2.2.2.1 13 = .ok ((.aload_n 2), 1) := by decide +kernel
theorem dRd_readEntry_14 : decode mRd_readEntry.2.2.2.1 14 = .ok ((.iload_n 1), 1) := by decide +kernel
theorem dRd_readEntry_15 : decode mRd_readEntry.2.2.2.1 15 = .ok ((.invokevirtual 72), 3) := by decide +kernel
theorem dRd_readEntry_18 : decode mRd_readEntry.2.2.2.1 18 = .ok ((.lstore 4), 2) := by decide +kernel
theorem dRd_readEntry_20 : decode mRd_readEntry.2.2.2.1 20 = .ok ((.aload_n 0), 1) := by decide +kernel
theorem dRd_readEntry_21 : decode mRd_readEntry.2.2.2.1 21 = .ok ((.lload 4), 2) := by decide +kernel
theorem dRd_readEntry_23 : decode mRd_readEntry.2.2.2.1 23 = .ok ((.iload_n 3), 1) := by decide +kernel
theorem dRd_readEntry_24 : decode mRd_readEntry.2.2.2.1 24 = .ok ((.aload_n 0), 1) := by decide +kernel
theorem dRd_readEntry_25 : decode mRd_readEntry.2.2.2.1 25 = .ok ((.invokevirtual 39), 3) := by decide +kernel
theorem dRd_readEntry_28 : decode mRd_readEntry.2.2.2.1 28 = .ok ((.invokevirtual 78), 3) := by decide +kernel
theorem dRd_readEntry_31 : decode mRd_readEntry.2.2.2.1 31 = .ok ((.lstore 6), 2) := by decide +kernel
theorem dRd_readEntry_33 : decode mRd_readEntry.2.2.2.1 33 = .ok ((.aload_n 0), 1) := by decide +kernel
theorem dRd_readEntry_34 : decode mRd_readEntry.2.2.2.1 34 = .ok ((.iload_n 3), 1) := by decide +kernel
theorem dRd_readEntry_35 : decode mRd_readEntry.2.2.2.1 35 = .ok ((.aload_n 2), 1) := by decide +kernel
theorem dRd_readEntry_36 : decode mRd_readEntry.2.2.2.1 36 = .ok ((.iload_n 1), 1) := by decide +kernel
theorem dRd_readEntry_37 : decode mRd_readEntry.2.2.2.1 37 = .ok ((.lload 6), 2) := by decide +kernel
theorem dRd_readEntry_39 : decode mRd_readEntry.2.2.2.1 39 = .ok ((.invokevirtual 82), 3) := by decide +kernel
theorem dRd_readEntry_42 : decode mRd_readEntry.2.2.2.1 42 = .ok ((.if_icmp .ne (15)), 3) := by decide +kernel
theorem dRd_readEntry_45 : decode mRd_readEntry.2.2.2.1 45 = .ok ((.lload 6), 2) := by decide +kernel
theorem dRd_readEntry_47 : decode mRd_readEntry.2.2.2.1 47 = .ok ((.lload 4), 2) := by decide +kernel
theorem dRd_readEntry_49 : decode mRd_readEntry.2.2.2.1 49 = .ok (.lcmp, 1) := by decide +kernel
theorem dRd_readEntry_50 : decode mRd_readEntry.2.2.2.1 50 = .ok ((.ifCond .lt (7)), 3) := by decide +kernel
theorem dRd_readEntry_53 : decode mRd_readEntry.2.2.2.1 53 = .ok ((.iconst (1)), 1) := by decide +kernel
theorem dRd_readEntry_54 : decode mRd_readEntry.2.2.2.1 54 = .ok ((.goto (4)), 3) := by decide +kernel
theorem dRd_readEntry_57 : decode mRd_readEntry.2.2.2.1 57 = .ok ((.iconst (0)), 1) := by decide +kernel
theorem dRd_readEntry_58 : decode mRd_readEntry.2.2.2.1 58 = .ok ((.invokevirtual 35), 3) := by decide +kernel
theorem dRd_readEntry_61 : decode mRd_readEntry.2.2.2.1 61 = .ok ((.aload_n 0), 1) := by decide +kernel
theorem dRd_readEntry_62 : decode mRd_readEntry.2.2.2.1 62 = .ok ((.invokevirtual 39), 3) := by decide +kernel
theorem dRd_readEntry_65 : decode mRd_readEntry.2.2.2.1 65 = .ok ((.istore 8), 2) := by decide +kernel
theorem dRd_readEntry_67 : decode mRd_readEntry.2.2.2.1 67 = .ok ((.aload_n 0), 1) := by decide +kernel
theorem dRd_readEntry_68 : decode mRd_readEntry.2.2.2.1 68 = .ok ((.iload 8), 2) := by decide +kernel
theorem dRd_readEntry_70 : decode mRd_readEntry.2.2.2.1 70 = .ok ((.aload_n 0), 1) := by decide +kernel
theorem dRd_readEntry_71 : decode mRd_readEntry.2.2.2.1 71 = .ok ((.getfield 9), 3) := by decide +kernel
theorem dRd_readEntry_74 : decode mRd_readEntry.2.2.2.1 74 = .ok ((.getfield 86), 3) := by decide +kernel
theorem dRd_readEntry_77 : decode mRd_readEntry.2.2.2.1 77 = .ok ((.if_icmp .lt (19)), 3) := by decide +kernel
theorem dRd_readEntry_80 : decode mRd_readEntry.2.2.2.1 80 = .ok ((.iload 8), 2) := by decide +kernel
theorem dRd_readEntry_82 : decode mRd_readEntry.2.2.2.1 82 = .ok ((.aload_n 0), 1) := by decide +kernel
theorem dRd_readEntry_83 : decode mRd_readEntry.2.2.2.1 83 = .ok ((.getfield 9), 3) := by decide +kernel
theorem dRd_readEntry_86 : decode mRd_readEntry.2.2.2.1 86 = .ok ((.getfield 89), 3) := by decide +kernel
theorem dRd_readEntry_89 : decode mRd_readEntry.2.2.2.1 89 = .ok ((.if_icmp .gt (7)), 3) := by decide +kernel
theorem dRd_readEntry_92 : decode mRd_readEntry.2.2.2.1 92 = .ok ((.iconst (1)), 1) := by decide +kernel
theorem dRd_readEntry_93 : decode mRd_readEntry.2.2.2.1 93 = .ok ((.goto (4)), 3) := by decide +kernel
theorem dRd_readEntry_96 : decode mRd_readEntry.2.2.2.1 96 = .ok ((.iconst (0)), 1) := by decide +kernel
theorem dRd_readEntry_97 : decode mRd_readEntry.2.2.2.1 97 = .ok ((.invokevirtual 35), 3) := by decide +kernel
theorem dRd_readEntry_100 : decode mRd_readEntry.2.2.2.1 100 = .ok ((.aload_n 0), 1) := by decide +kernel
theorem dRd_readEntry_101 : decode mRd_readEntry.2.2.2.1 101 = .ok ((.iload_n 1), 1) := by decide +kernel
theorem dRd_readEntry_102 : decode mRd_readEntry.2.2.2.1 102 = .ok ((.ifCond .eq (24)), 3) := by decide +kernel
theorem dRd_readEntry_105 : decode mRd_readEntry.2.2.2.1 105 = .ok ((.lload 6), 2) := by decide +kernel
theorem dRd_readEntry_107 : decode mRd_readEntry.2.2.2.1 107 = .ok ((.lload 4), 2) := by decide +kernel
theorem dRd_readEntry_109 : decode mRd_readEntry.2.2.2.1 109 = .ok (.lcmp, 1) := by decide +kernel
theorem dRd_readEntry_110 : decode mRd_readEntry.2.2.2.1 110 = .ok ((.ifCond .ne (16)), 3) := by decide +kernel
theorem dRd_readEntry_113 : decode mRd_readEntry.2.2.2.1 113 = .ok ((.iload 8), 2) := by decide +kernel
theorem dRd_readEntry_115 : decode mRd_readEntry.2.2.2.1 115 = .ok ((.aload_n 2), 1) := by decide +kernel
theorem dRd_readEntry_116 : decode mRd_readEntry.2.2.2.1 116 = .ok ((.getfield 105), 3) := by decide +kernel
theorem dRd_readEntry_119 : decode mRd_readEntry.2.2.2.1 119 = .ok ((.iload_n 1), 1) := by decide +kernel
theorem dRd_readEntry_120 : decode mRd_readEntry.2.2.2.1 120 = .ok ((.iconst (1)), 1) := by decide +kernel
theorem dRd_readEntry_121 : decode mRd_readEntry.2.2.2.1 121 = .ok (.isub, 1) := by decide +kernel
theorem dRd_readEntry_122 : decode mRd_readEntry.2.2.2.1 122 = .ok (.iaload, 1) := by decide +kernel
theorem dRd_readEntry_123 : decode mRd_readEntry.2.2.2.1 123 = .ok ((.if_icmp .ge (7)), 3) := by decide +kernel
theorem dRd_readEntry_126 : decode mRd_readEntry.2.2.2.1 126 = .ok ((.iconst (1)), 1) := by decide +kernel
theorem dRd_readEntry_127 : decode mRd_readEntry.2.2.2.1 127 = .ok ((.goto (4)), 3) := by decide +kernel
theorem dRd_readEntry_130 : decode mRd_readEntry.2.2.2.1 130 = .ok ((.iconst (0)), 1) := by decide +kernel
theorem dRd_readEntry_131 : decode mRd_readEntry.2.2.2.1 131 = .ok ((.invokevirtual 35), 3) := by decide +kernel
theorem dRd_readEntry_134 : decode mRd_readEntry.2.2.2.1 134 = .ok ((.aload_n 0), 1) := by decide +kernel
theorem dRd_readEntry_135 : decode mRd_readEntry.2.2.2.1 135 = .ok ((.invokevirtual 99), 3) := by decide +kernel
theorem dRd_readEntry_138 : decode mRd_readEntry.2.2.2.1 138 = .ok ((.istore 9), 2) := by decide +kernel
theorem dRd_readEntry_140 : decode mRd_readEntry.2.2.2.1 140 = .ok ((.aload_n 0), 1) := by decide +kernel
theorem dRd_readEntry_141 : decode mRd_readEntry.2.2.2.1 141 = .ok ((.invokevirtual 99), 3) := by decide +kernel
theorem dRd_readEntry_144 : decode mRd_readEntry.2.2.2.1 144 = .ok ((.istore 10), 2) := by decide +kernel
theorem dRd_readEntry_146 : decode mRd_readEntry.2.2.2.1 146 = .ok ((.aload_n 0), 1) := by decide +kernel
theorem dRd_readEntry_147 : decode mRd_readEntry.2.2.2.1 147 = .ok ((.aload_n 2), 1) := by decide +kernel
theorem dRd_readEntry_148 : decode mRd_readEntry.2.2.2.1 148 = .ok ((.lload 6), 2) := by decide +kernel
theorem dRd_readEntry_150 : decode mRd_readEntry.2.2.2.1 150 = .ok ((.iload 8), 2) := by decide +kernel
theorem dRd_readEntry_152 : decode mRd_readEntry.2.2.2.1 152 = .ok ((.iload 9), 2) := by decide +kernel
theorem dRd_readEntry_154 : decode mRd_readEntry.2.2.2.1 154 = .ok ((.iload 10), 2) := by decide +kernel
theorem dRd_readEntry_156 : decode mRd_readEntry.2.2.2.1 156 = .ok ((.invokestatic 108), 3) := by decide +kernel
theorem dRd_readEntry_159 : decode mRd_readEntry.2.2.2.1 159 = .ok ((.invokevirtual 95), 3) := by decide +kernel
theorem dRd_readEntry_162 : decode mRd_readEntry.2.2.2.1 162 = .ok ((.invokevirtual 35), 3) := by decide +kernel
theorem dRd_readEntry_165 : decode mRd_readEntry.2.2.2.1 165 = .ok (.return_, 1) := by decide +kernel
theorem dRd_nextKey_0 : decode mRd_nextKey.2.2.2.1 0 = .ok ((.iload_n 3), 1) := by decide +kernel
theorem dRd_nextKey_1 : decode mRd_nextKey.2.2.2.1 1 = .ok ((.iload 4), 2) := by decide +kernel
theorem dRd_nextKey_3 : decode mRd_nextKey.2.2.2.1 3 = .ok (.iadd, 1) := by decide +kernel
theorem dRd_nextKey_4 : decode mRd_nextKey.2.2.2.1 4 = .ok ((.bipush (12)), 2) := by decide +kernel
theorem dRd_nextKey_6 : decode mRd_nextKey.2.2.2.1 6 = .ok ((.if_icmp .le (10)), 3) := by decide +kernel
theorem dRd_nextKey_9 : decode mRd_nextKey.2.2.2.1 9 = .ok ((.aload_n 0), 1) := by decide +kernel
theorem dRd_nextKey_10 : decode mRd_nextKey.2.2.2.1 10 = .ok ((.iconst (1)), 1) := by decide +kernel
theorem dRd_nextKey_11 : decode mRd_nextKey.2.2.2.1 11 = .ok ((.putfield 27), 3) := by decide +kernel
theorem dRd_nextKey_14 : decode mRd_nextKey.2.2.2.1 14 = .ok ((.lconst 0), 1) := by decide +kernel
theorem dRd_nextKey_15 : decode mRd_nextKey.2.2.2.1 15 = .ok (.lreturn, 1) := by decide +kernel
theorem dRd_nextKey_16 : decode mRd_nextKey.2.2.2.1 16 = .ok ((.lconst 0), 1) := by decide +kernel
theorem dRd_nextKey_17 : decode mRd_nextKey.2.2.2.1 17 = .ok ((.lstore 5), 2) := by decide +kernel
theorem dRd_nextKey_19 : decode mRd_nextKey.2.2.2.1 19 = .ok ((.iconst (0)), 1) := by decide +kernel
theorem dRd_nextKey_20 : decode mRd_nextKey.2.2.2.1 20 = .ok ((.istore 7), 2) := by decide +kernel
theorem dRd_nextKey_22 : decode mRd_nextKey.2.2.2.1 22 = .ok ((.iload 7), 2) := by decide +kernel
theorem dRd_nextKey_24 : decode mRd_nextKey.2.2.2.1 24 = .ok ((.iload_n 3), 1) := by decide +kernel
theorem dRd_nextKey_25 : decode mRd_nextKey.2.2.2.1 25 = .ok ((.if_icmp .ge (27)), 3) := by decide +kernel
theorem dRd_nextKey_28 : decode mRd_nextKey.2.2.2.1 28 = .ok ((.lload 5), 2) := by decide +kernel
theorem dRd_nextKey_30 : decode mRd_nextKey.2.2.2.1 30 = .ok ((.lload_n 1), 1) := by decide +kernel
theorem dRd_nextKey_31 : decode mRd_nextKey.2.2.2.1 31 = .ok ((.iload 7), 2) := by decide +kernel
theorem dRd_nextKey_33 : decode mRd_nextKey.2.2.2.1 33 = .ok ((.invokestatic 114), 3) := by decide +kernel
theorem dRd_nextKey_36 : decode mRd_nextKey.2.2.2.1 36 = .ok (.i2l, 1) := by decide +kernel
theorem dRd_nextKey_37 : decode mRd_nextKey.2.2.2.1 37 = .ok ((.iload 7), 2) := by decide +kernel
theorem dRd_nextKey_39 : decode mRd_nextKey.2.2.2.1 39 = .ok ((.invokestatic 118), 3) := by decide +kernel
theorem dRd_nextKey_42 : decode mRd_nextKey.2.2.2.1 42 = .ok (.lshl, 1) := by decide +kernel
theorem dRd_nextKey_43 : decode mRd_nextKey.2.2.2.1 43 = .ok (.lor, 1) := by decide +kernel
theorem dRd_nextKey_44 : decode mRd_nextKey.2.2.2.1 44 = .ok ((.lstore 5), 2) := by decide +kernel
theorem dRd_nextKey_46 : decode mRd_nextKey.2.2.2.1 46 = .ok ((.iinc 7 (1)), 3) := by decide +kernel
theorem dRd_nextKey_49 : decode mRd_nextKey.2.2.2.1 49 = .ok ((.goto (-27)), 3) := by decide +kernel
theorem dRd_nextKey_52 : decode mRd_nextKey.2.2.2.1 52 = .ok ((.iload_n 3), 1) := by decide +kernel
theorem dRd_nextKey_53 : decode mRd_nextKey.2.2.2.1 53 = .ok ((.istore 7), 2) := by decide +kernel
theorem dRd_nextKey_55 : decode mRd_nextKey.2.2.2.1 55 = .ok ((.iload 7), 2) := by decide +kernel
theorem dRd_nextKey_57 : decode mRd_nextKey.2.2.2.1 57 = .ok ((.iload_n 3), 1) := by decide +kernel
theorem dRd_nextKey_58 : decode mRd_nextKey.2.2.2.1 58 = .ok ((.iload 4), 2) := by decide +kernel
theorem dRd_nextKey_60 : decode mRd_nextKey.2.2.2.1 60 = .ok (.iadd, 1) := by decide +kernel
theorem dRd_nextKey_61 : decode mRd_nextKey.2.2.2.1 61 = .ok ((.if_icmp .ge (54)), 3) := by decide +kernel
theorem dRd_nextKey_64 : decode mRd_nextKey.2.2.2.1 64 = .ok ((.aload_n 0), 1) := by decide +kernel
theorem dRd_nextKey_65 : decode mRd_nextKey.2.2.2.1 65 = .ok ((.invokevirtual 31), 3) := by decide +kernel
theorem dRd_nextKey_68 : decode mRd_nextKey.2.2.2.1 68 = .ok ((.istore 8), 2) := by decide +kernel
theorem dRd_nextKey_70 : decode mRd_nextKey.2.2.2.1 70 = .ok ((.aload_n 0), 1) := by decide +kernel
theorem dRd_nextKey_71 : decode mRd_nextKey.2.2.2.1 71 = .ok ((.iload 8), 2) := by decide +kernel
theorem dRd_nextKey_73 : decode mRd_nextKey.2.2.2.1 73 = .ok ((.iconst (1)), 1) := by decide +kernel
theorem dRd_nextKey_74 : decode mRd_nextKey.2.2.2.1 74 = .ok ((.if_icmp .lt (14)), 3) := by decide +kernel
theorem dRd_nextKey_77 : decode mRd_nextKey.2.2.2.1 77 = .ok ((.iload 8), 2) := by decide +kernel
theorem dRd_nextKey_79 : decode mRd_nextKey.2.2.2.1 79 = .ok ((.bipush (31)), 2) := by decide +kernel
theorem dRd_nextKey_81 : decode mRd_nextKey.2.2.2.1 81 = .ok ((.if_icmp .gt (7)), 3) := by decide +kernel
theorem dRd_nextKey_84 : decode mRd_nextKey.2.2.2.1 84 = .ok ((.iconst (1)), 1) := by decide +kernel
theorem dRd_nextKey_85 : decode mRd_nextKey.2.2.2.1 85 = .ok ((.goto (4)), 3) := by decide +kernel
theorem dRd_nextKey_88 : decode mRd_nextKey.2.2.2.1 88 = .ok ((.iconst (0)), 1) := by decide +kernel
theorem dRd_nextKey_89 : decode mRd_nextKey.2.2.2.1 89 = .ok ((.invokevirtual 35), 3) := by decide +kernel
theorem dRd_nextKey_92 : decode mRd_nextKey.2.2.2.1 92 = .ok ((.lload 5), 2) := by decide +kernel
theorem dRd_nextKey_94 : decode mRd_nextKey.2.2.2.1 94 = .ok ((.iload 8), 2) := by decide +kernel
theorem dRd_nextKey_96 : decode mRd_nextKey.2.2.2.1 96 = .ok ((.bipush (31)), 2) := by decide +kernel
theorem dRd_nextKey_98 : decode mRd_nextKey.2.2.2.1 98 = .ok (.iand, 1) := by decide +kernel
theorem dRd_nextKey_99 : decode mRd_nextKey.2.2.2.1 99 = .ok (.i2l, 1) := by decide +kernel
theorem dRd_nextKey_100 : decode mRd_nextKey.2.2.2.1 100 = .ok ((.iload 7), 2) := by decide +kernel
theorem dRd_nextKey_102 : decode mRd_nextKey.2.2.2.1 102 = .ok ((.invokestatic 118), 3) := by decide +kernel
theorem dRd_nextKey_105 : decode mRd_nextKey.2.2.2.1 105 = .ok (.lshl, 1) := by decide +kernel
theorem dRd_nextKey_106 : decode mRd_nextKey.2.2.2.1 106 = .ok (.lor, 1) := by decide +kernel
theorem dRd_nextKey_107 : decode mRd_nextKey.2.2.2.1 107 = .ok ((.lstore 5), 2) := by decide +kernel
theorem dRd_nextKey_109 : decode mRd_nextKey.2.2.2.1 109 = .ok ((.iinc 7 (1)), 3) := by decide +kernel
theorem dRd_nextKey_112 : decode mRd_nextKey.2.2.2.1 112 = .ok ((.goto (-57)), 3) := by decide +kernel
theorem dRd_nextKey_115 : decode mRd_nextKey.2.2.2.1 115 = .ok ((.aload_n 0), 1) := by decide +kernel
theorem dRd_nextKey_116 : decode mRd_nextKey.2.2.2.1 116 = .ok ((.lload 5), 2) := by decide +kernel
theorem dRd_nextKey_118 : decode mRd_nextKey.2.2.2.1 118 = .ok ((.invokestatic 121), 3) := by decide +kernel
theorem dRd_nextKey_121 : decode mRd_nextKey.2.2.2.1 121 = .ok ((.invokevirtual 35), 3) := by decide +kernel
theorem dRd_nextKey_124 : decode mRd_nextKey.2.2.2.1 124 = .ok ((.lload 5), 2) := by decide +kernel
theorem dRd_nextKey_126 : decode mRd_nextKey.2.2.2.1 126 = .ok (.lreturn, 1) := by decide +kernel
theorem dRd_nextNumber_0 : decode mRd_nextNumber.2.2.2.1 0 = .ok ((.aload_n 0), 1) := by decide +kernel
theorem dRd_nextNumber_1 : decode mRd_nextNumber.2.2.2.1 1 = .ok ((.invokevirtual 39), 3) := by decide +kernel
theorem dRd_nextNumber_4 : decode mRd_nextNumber.2.2.2.1 4 = .ok ((.istore_n 1), 1) := by decide +kernel
theorem dRd_nextNumber_5 : decode mRd_nextNumber.2.2.2.1 5 = .ok ((.aload_n 0), 1) := by decide +kernel
theorem dRd_nextNumber_6 : decode mRd_nextNumber.2.2.2.1 6 = .ok ((.iload_n 1), 1) := by decide +kernel
theorem dRd_nextNumber_7 : decode mRd_nextNumber.2.2.2.1 7 = .ok ((.ldc 125), 2) := by decide +kernel
theorem dRd_nextNumber_9 : decode mRd_nextNumber.2.2.2.1 9 = .ok ((.if_icmp .gt (7)), 3) := by decide +kernel
theorem dRd_nextNumber_12 : decode mRd_nextNumber.2.2.2.1 12 = .ok ((.iconst (1)), 1) := by decide +kernel
theorem dRd_nextNumber_13 : decode mRd_nextNumber.2.2.2.1 13 = .ok ((.goto (4)), 3) := by decide +kernel
theorem dRd_nextNumber_16 : decode mRd_nextNumber.2.2.2.1 16 = .ok ((.iconst (0)), 1) := by decide +kernel
theorem dRd_nextNumber_17 : decode mRd_nextNumber.2.2.2.1 17 = .ok ((.invokevirtual 35), 3) := by decide +kernel
theorem dRd_nextNumber_20 : decode mRd_nextNumber.2.2.2.1 20 = .ok ((.iload_n 1), 1) := by decide +kernel
theorem dRd_nextNumber_21 : decode mRd_nextNumber.2.2.2.1 21 = .ok (.ireturn, 1) := by decide +kernel
theorem dRd_nextVarint_0 : decode mRd_nextVarint.2.2.2.1 0 = .ok ((.iconst (0)), 1) := by decide +kernel
theorem dRd_nextVarint_1 : decode mRd_nextVarint.2.2.2.1 1 = .ok ((.istore_n 1), 1) := by decide +kernel
theorem dRd_nextVarint_2 : decode mRd_nextVarint.2.2.2.1 2 = .ok ((.iconst (0)), 1) := by decide +kernel
theorem dRd_nextVarint_3 : decode mRd_nextVarint.2.2.2.1 3 = .ok ((.istore_n 2), 1) := by decide +kernel
theorem dRd_nextVarint_4 : decode mRd_nextVarint.2.2.2.1 4 = .ok ((.iload_n 2), 1) := by decide +kernel
theorem dRd_nextVarint_5 : decode mRd_nextVarint.2.2.2.1 5 = .ok ((.iconst (3)), 1) := by decide +kernel
theorem dRd_nextVarint_6 : decode mRd_nextVarint.2.2.2.1 6 = .ok ((.if_icmp .ge (52)), 3) := by decide +kernel
theorem dRd_nextVarint_9 : decode mRd_nextVarint.2.2.2.1 9 = .ok ((.aload_n 0), 1) := by decide +kernel
theorem dRd_nextVarint_10 : decode mRd_nextVarint.2.2.2.1 10 = .ok ((.invokevirtual 31), 3) := by decide +kernel
theorem dRd_nextVarint_13 : decode mRd_nextVarint.2.2.2.1 13 = .ok ((.istore_n 3), 1) := by decide +kernel
theorem dRd_nextVarint_14 : decode mRd_nextVarint.2.2.2.1 14 = .ok ((.iload_n 1), 1) := by decide +kernel
theorem dRd_nextVarint_15 : decode mRd_nextVarint.2.2.2.1 15 = .ok ((.iload_n 3), 1) := by decide +kernel
theorem dRd_nextVarint_16 : decode mRd_nextVarint.2.2.2.1 16 = .ok ((.bipush (127)), 2) := by decide +kernel
theorem dRd_nextVarint_18 : decode mRd_nextVarint.2.2.2.1 18 = .ok (.iand, 1) := by decide +kernel
theorem dRd_nextVarint_19 : decode mRd_nextVarint.2.2.2.1 19 = .ok ((.bipush (7)), 2) := by decide +kernel
theorem dRd_nextVarint_21 : decode mRd_nextVarint.2.2.2.1 21 = .ok ((.iload_n 2), 1) := by decide +kernel
theorem dRd_nextVarint_22 : decode mRd_nextVarint.2.2.2.1 22 = .ok (.imul, 1) := by decide +kernel
theorem dRd_nextVarint_23 : decode mRd_nextVarint.2.2.2.1 23 = .ok (.ishl, 1) := by decide +kernel
theorem dRd_nextVarint_24 : decode mRd_nextVarint.2.2.2.1 24 = .ok (.ior, 1) := by decide +kernel
theorem dRd_nextVarint_25 : decode mRd_nextVarint.2.2.2.1 25 = .ok ((.istore_n 1), 1) := by decide +kernel
theorem dRd_nextVarint_26 : decode mRd_nextVarint.2.2.2.1 26 = .ok ((.iload_n 3), 1) := by decide +kernel
theorem dRd_nextVarint_27 : decode mRd_nextVarint.2.2.2.1 27 = .ok ((.sipush (128)), 3) := by decide +kernel
theorem dRd_nextVarint_30 : decode mRd_nextVarint.2.2.2.1 30 = .ok ((.if_icmp .ge (22)), 3) := by decide +kernel
theorem dRd_nextVarint_33 : decode mRd_nextVarint.2.2.2.1 33 = .ok ((.aload_n 0), 1) := by decide +kernel
theorem dRd_nextVarint_34 : decode mRd_nextVarint.2.2.2.1 34 = .ok ((.iload_n 3), 1) := by decide +kernel
theorem dRd_nextVarint_35 : decode mRd_nextVarint.2.2.2.1 35 = .ok ((.ifCond .ne (7)), 3) := by decide +kernel
theorem dRd_nextVarint_38 : decode mRd_nextVarint.2.2.2.1 38 = .ok ((.iload_n 2), 1) := by decide +kernel
theorem dRd_nextVarint_39 : decode mRd_nextVarint.2.2.2.1 39 = .ok ((.ifCond .ne (7)), 3) := by decide +kernel
theorem dRd_nextVarint_42 : decode mRd_nextVarint.2.2.2.1 42 = .ok ((.iconst (1)), 1) := by decide +kernel
theorem dRd_nextVarint_43 : decode mRd_nextVarint.2.2.2.1 43 = .ok ((.goto (4)), 3) := by decide +kernel
theorem dRd_nextVarint_46 : decode mRd_nextVarint.2.2.2.1 46 = .ok ((.iconst (0)), 1) := by decide +kernel
theorem dRd_nextVarint_47 : decode mRd_nextVarint.2.2.2.1 47 = .ok ((.invokevirtual 35), 3) := by decide +kernel
theorem dRd_nextVarint_50 : decode mRd_nextVarint.2.2.2.1 50 = .ok ((.iload_n 1), 1) := by decide +kernel
theorem dRd_nextVarint_51 : decode mRd_nextVarint.2.2.2.1 51 = .ok (.ireturn, 1) := by decide +kernel
theorem dRd_nextVarint_52 : decode mRd_nextVarint.2.2.2.1 52 = .ok ((.iinc 2 (1)), 3) := by decide +kernel
theorem dRd_nextVarint_55 : decode mRd_nextVarint.2.2.2.1 55 = .ok ((.goto (-51)), 3) := by decide +kernel
theorem dRd_nextVarint_58 : decode mRd_nextVarint.2.2.2.1 58 = .ok ((.aload_n 0), 1) := by decide +kernel
theorem dRd_nextVarint_59 : decode mRd_nextVarint.2.2.2.1 59 = .ok ((.iconst (1)), 1) := by decide +kernel
theorem dRd_nextVarint_60 : decode mRd_nextVarint.2.2.2.1 60 = .ok ((.putfield 27), 3) := by decide +kernel
theorem dRd_nextVarint_63 : decode mRd_nextVarint.2.2.2.1 63 = .ok ((.iload_n 1), 1) := by decide +kernel
theorem dRd_nextVarint_64 : decode mRd_nextVarint.2.2.2.1 64 = .ok (.ireturn, 1) := by decide +kernel
theorem dRd_nextByte_0 : decode mRd_nextByte.2.2.2.1 0 = .ok ((.aload_n 0), 1) := by decide +kernel
theorem dRd_nextByte_1 : decode mRd_nextByte.2.2.2.1 1 = .ok ((.getfield 15), 3) := by decide +kernel
theorem dRd_nextByte_4 : decode mRd_nextByte.2.2.2.1 4 = .ok ((.ifCond .lt (14)), 3) := by decide +kernel
theorem dRd_nextByte_7 : decode mRd_nextByte.2.2.2.1 7 = .ok ((.aload_n 0), 1) := by decide +kernel
theorem dRd_nextByte_8 : decode mRd_nextByte.2.2.2.1 8 = .ok ((.getfield 15), 3) := by decide +kernel
theorem dRd_nextByte_11 : decode mRd_nextByte.2.2.2.1 11 = .ok ((.aload_n 0), 1) := by decide +kernel
theorem dRd_nextByte_12 : decode mRd_nextByte.2.2.2.1 12 = .ok ((.getfield 24), 3) := by decide +kernel
theorem dRd_nextByte_15 : decode mRd_nextByte.2.2.2.1 15 = .ok ((.if_icmp .lt (10)), 3) := by decide +kernel
theorem dRd_nextByte_18 : decode mRd_nextByte.2.2.2.1 18 = .ok ((.aload_n 0), 1) := by decide +kernel
theorem dRd_nextByte_19 : decode mRd_nextByte.2.2.2.1 19 = .ok ((.iconst (1)), 1) := by decide +kernel
theorem dRd_nextByte_20 : decode mRd_nextByte.2.2.2.1 20 = .ok ((.putfield 27), 3) := by decide +kernel
theorem dRd_nextByte_23 : decode mRd_nextByte.2.2.2.1 23 = .ok ((.iconst (0)), 1) := by decide +kernel
theorem dRd_nextByte_24 : decode mRd_nextByte.2.2.2.1 24 = .ok (.ireturn, 1) := by decide +kernel
theorem dRd_nextByte_25 : decode mRd_nextByte.2.2.2.1 25 = .ok ((.aload_n 0), 1) := by decide +kernel
theorem dRd_nextByte_26 : decode mRd_nextByte.2.2.2.1 26 = .ok ((.getfield 9), 3) := by decide +kernel
theorem dRd_nextByte_29 : decode mRd_nextByte.2.2.2.1 29 = .ok ((.getfield 64), 3) := by decide +kernel
theorem dRd_nextByte_32 : decode mRd_nextByte.2.2.2.1 32 = .ok ((.aload_n 0), 1) := by decide +kernel
theorem dRd_nextByte_33 : decode mRd_nextByte.2.2.2.1 33 = .ok (.dup, 1) := by decide +kernel
theorem dRd_nextByte_34 : decode mRd_nextByte.2.2.2.1 34 = .ok ((.getfield 15), 3) := by decide +kernel
theorem dRd_nextByte_37 : decode mRd_nextByte.2.2.2.1 37 = .ok (.dup_x1, 1) := by decide +kernel
theorem dRd_nextByte_38 : decode mRd_nextByte.2.2.2.1 38 = .ok ((.iconst (1)), 1) := by decide +kernel
theorem dRd_nextByte_39 : decode mRd_nextByte.2.2.2.1 39 = .ok (.iadd, 1) := by decide +kernel
theorem dRd_nextByte_40 : decode mRd_nextByte.2.2.2.1 40 = .ok ((.putfield 15), 3) := by decide +kernel
theorem dRd_nextByte_43 : decode mRd_nextByte.2.2.2.1 43 = .ok (.iaload, 1) := by decide +kernel
theorem dRd_nextByte_44 : decode mRd_nextByte.2.2.2.1 44 = .ok (.ireturn, 1) := by decide +kernel
theorem dRw_init_0 : decode mRw_init.2.2.2.1 0 = .ok ((.aload_n 0), 1) := by decide +kernel
theorem dRw_init_1 : decode mRw_init.2.2.2.1 1 = .ok ((.invokespecial 3), 3) := by decide +kernel
theorem dRw_init_4 : decode mRw_init.2.2.2.1 4 = .ok ((.aload_n 0), 1) := by decide +kernel
theorem dRw_init_5 : decode mRw_init.2.2.2.1 5 = .ok ((.iload_n 1), 1) := by decide +kernel
theorem dRw_init_6 : decode mRw_init.2.2.2.1 6 = .ok ((.putfield 9), 3) := by decide +kernel
theorem dRw_init_9 : decode mRw_init.2.2.2.1 9 = .ok ((.aload_n 0), 1) := by decide +kernel
theorem dRw_init_10 : decode mRw_init.2.2.2.1 10 = .ok ((.iload_n 1), 1) := by decide +kernel
theorem dRw_init_11 : decode mRw_init.2.2.2.1 11 = .ok ((.newarray .long), 2) := by decide +kernel
theorem dRw_init_13 : decode mRw_init.2.2.2.1 13 = .ok ((.putfield 15), 3) := by decide +kernel
theorem dRw_init_16 : decode mRw_init.2.2.2.1 16 = .ok ((.aload_n 0), 1) := by decide +kernel
theorem dRw_init_17 : decode mRw_init.2.2.2.1 17 = .ok ((.iload_n 1), 1) := by decide +kernel
theorem dRw_init_18 : decode mRw_init.2.2.2.1 18 = .ok ((.newarray .int), 2) := by decide +kernel
theorem dRw_init_20 : decode mRw_init.2.2.2.1 20 = .ok ((.putfield 19), 3) := by decide +kernel
theorem dRw_init_23 : decode mRw_init.2.2.2.1 23 = .ok ((.aload_n 0), 1) := by decide +kernel
theorem dRw_init_24 : decode mRw_init.2.2.2.1 24 = .ok ((.iload_n 1), 1) := by decide +kernel
theorem dRw_init_25 : decode mRw_init.2.2.2.1 25 = .ok ((.newarray .long), 2) := by decide +kernel
theorem dRw_init_27 : decode mRw_init.2.2.2.1 27 = .ok ((.putfield 23), 3) := by decide +kernel
theorem dRw_init_30 : decode mRw_init.2.2.2.1 30 = .ok (.return_, 1) := by decide +kernel
theorem dRw_valueOf_0 : decode mRw_valueOf.2.2.2.1 0 = .ok ((.iload_n 0), 1) := by decide +kernel
theorem dRw_valueOf_1 : decode mRw_valueOf.2.2.2.1 1 = .ok (.i2l, 1) := by decide +kernel
theorem dRw_valueOf_2 : decode mRw_valueOf.2.2.2.1 2 = .ok ((.bipush (16)), 2) := by decide +kernel
theorem dRw_valueOf_4 : decode mRw_valueOf.2.2.2.1 4 = .ok (.lshl, 1) := by decide +kernel
theorem dRw_valueOf_5 : decode mRw_valueOf.2.2.2.1 5 = .ok ((.iload_n 1), 1) := by decide +kernel
theorem dRw_valueOf_6 : decode mRw_valueOf.2.2.2.1 6 = .ok (.i2l, 1) := by decide +kernel
theorem dRw_valueOf_7 : decode mRw_valueOf.2.2.2.1 7 = .ok (.lor, 1) := by decide +kernel
theorem dRw_valueOf_8 : decode mRw_valueOf.2.2.2.1 8 = .ok (.lreturn, 1) := by decide +kernel
theorem dRw_oldOf_0 : decode mRw_oldOf.2.2.2.1 0 = .ok ((.lload_n 0), 1) := by decide +kernel
theorem dRw_oldOf_1 : decode mRw_oldOf.2.2.2.1 1 = .ok ((.bipush (16)), 2) := by decide +kernel
theorem dRw_oldOf_3 : decode mRw_oldOf.2.2.2.1 3 = .ok (.lushr, 1) := by decide +kernel
theorem dRw_oldOf_4 : decode mRw_oldOf.2.2.2.1 4 = .ok (.l2i, 1) := by decide +kernel
theorem dRw_oldOf_5 : decode mRw_oldOf.2.2.2.1 5 = .ok ((.ldc 26), 2) := by decide +kernel
theorem dRw_oldOf_7 : decode mRw_oldOf.2.2.2.1 7 = .ok (.iand, 1) := by decide +kernel
theorem dRw_oldOf_8 : decode mRw_oldOf.2.2.2.1 8 = .ok (.ireturn, 1) := by decide +kernel
theorem dRw_newOf_0 : decode mRw_newOf.2.2.2.1 0 = .ok ((.lload_n 0), 1) := by decide +kernel
theorem dRw_newOf_1 : decode mRw_newOf.2.2.2.1 1 = .ok (.l2i, 1) := by decide +kernel
theorem dRw_newOf_2 : decode mRw_newOf.2.2.2.1 2 = .ok ((.ldc 26), 2) := by decide +kernel
theorem dRw_newOf_4 : decode mRw_newOf.2.2.2.1 4 = .ok (.iand, 1) := by decide +kernel
theorem dRw_newOf_5 : decode mRw_newOf.2.2.2.1 5 = .ok (.ireturn, 1) := by decide +kernel
theorem dRw_add_0 : decode mRw_add.2.2.2.1 0 = .ok ((.aload_n 0), 1) := by decide +kernel
theorem dRw_add_1 : decode mRw_add.2.2.2.1 1 = .ok ((.getfield 27), 3) := by decide +kernel
theorem dRw_add_4 : decode mRw_add.2.2.2.1 4 = .ok ((.aload_n 0), 1) := by decide +kernel
theorem dRw_add_5 : decode mRw_add.2.2.2.1 5 = .ok ((.getfield 9), 3) := by decide +kernel
theorem dRw_add_8 : decode mRw_add.2.2.2.1 8 = .ok ((.if_icmp .lt (5)), 3) := by decide +kernel
theorem dRw_add_11 : decode mRw_add.2.2.2.1 11 = .ok ((.iconst (0)), 1) := by decide +kernel
theorem dRw_add_12 : decode mRw_add.2.2.2.1 12 = .ok (.ireturn, 1) := by decide +kernel
theorem dRw_add_13 : decode mRw_add.2.2.2.1 13 = .ok ((.aload_n 0), 1) := by decide +kernel
theorem dRw_add_14 : decode mRw_add.2.2.2.1 14 = .ok ((.getfield 15), 3) := by decide +kernel
theorem dRw_add_17 : decode mRw_add.2.2.2.1 17 = .ok ((.aload_n 0), 1) := by decide +kernel
theorem dRw_add_18 : decode mRw_add.2.2.2.1 18 = .ok ((.getfield 27), 3) := by decide +kernel
theorem dRw_add_21 : decode mRw_add.2.2.2.1 21 = .ok ((.lload_n 1), 1) := by decide +kernel
theorem dRw_add_22 : decode mRw_add.2.2.2.1 22 = .ok (.lastore, 1) := by decide +kernel
theorem dRw_add_23 : decode mRw_add.2.2.2.1 23 = .ok ((.aload_n 0), 1) := by decide +kernel
theorem dRw_add_24 : decode mRw_add.2.2.2.1 24 = .ok ((.getfield 19), 3) := by decide +kernel
theorem dRw_add_27 : decode mRw_add.2.2.2.1 27 = .ok ((.aload_n 0), 1) := by decide +kernel
theorem dRw_add_28 : decode mRw_add.2.2.2.1 28 = .ok ((.getfield 27), 3) := by decide +kernel
theorem dRw_add_31 : decode mRw_add.2.2.2.1 31 = .ok ((.iload_n 3), 1) := by decide +kernel
theorem dRw_add_32 : decode mRw_add.2.2.2.1 32 = .ok (.iastore, 1) := by decide +kernel
theorem dRw_add_33 : decode mRw_add.2.2.2.1 33 = .ok ((.aload_n 0), 1) := by decide +kernel
theorem dRw_add_34 : decode mRw_add.2.2.2.1 34 = .ok ((.getfield 23), 3) := by decide +kernel
theorem dRw_add_37 : decode mRw_add.2.2.2.1 37 = .ok ((.aload_n 0), 1) := by decide +kernel
theorem dRw_add_38 : decode mRw_add.2.2.2.1 38 = .ok ((.getfield 27), 3) := by decide +kernel
theorem dRw_add_41 : decode mRw_add.2.2.2.1 41 = .ok ((.lload 4), 2) := by decide +kernel
theorem dRw_add_43 : decode mRw_add.2.2.2.1 43 = .ok (.lastore, 1) := by decide +kernel
theorem dRw_add_44 : decode mRw_add.2.2.2.1 44 = .ok ((.aload_n 0), 1) := by decide +kernel
theorem dRw_add_45 : decode mRw_add.2.2.2.1 45 = .ok (.dup, 1) := by decide +kernel
theorem dRw_add_46 : decode mRw_add.2.2.2.1 46 = .ok ((.getfield 27), 3) := by decide +kernel
theorem dRw_add_49 : decode mRw_add.2.2.2.1 49 = .ok ((.iconst (1)), 1) := by decide +kernel
theorem dRw_add_50 : decode mRw_add.2.2.2.1 50 = .ok (.iadd, 1) := by decide +kernel
theorem dRw_add_51 : decode mRw_add.2.2.2.1 51 = .ok ((.putfield 27), 3) := by decide +kernel
theorem dRw_add_54 : decode mRw_add.2.2.2.1 54 = .ok ((.iconst (1)), 1) := by decide +kernel
theorem dRw_add_55 : decode mRw_add.2.2.2.1 55 = .ok (.ireturn, 1) := by decide +kernel
theorem dRw_keyBefore_0 : decode mRw_keyBefore.2.2.2.1 0 = .ok ((.iload_n 1), 1) := by decide +kernel
theorem dRw_keyBefore_1 : decode mRw_keyBefore.2.2.2.1 1 = .ok ((.ifCond .le (22)), 3) := by decide +kernel
theorem dRw_keyBefore_4 : decode mRw_keyBefore.2.2.2.1 4 = .ok ((.iload_n 1), 1) := by decide +kernel
theorem dRw_keyBefore_5 : decode mRw_keyBefore.2.2.2.1 5 = .ok ((.aload_n 0), 1) := by decide +kernel
theorem dRw_keyBefore_6 : decode mRw_keyBefore.2.2.2.1 6 = .ok ((.getfield 9), 3) := by decide +kernel
theorem dRw_keyBefore_9 : decode mRw_keyBefore.2.2.2.1 9 = .ok ((.if_icmp .gt (14)), 3) := by decide +kernel
theorem dRw_keyBefore_12 : decode mRw_keyBefore.2.2.2.1 12 = .ok ((.aload_n 0), 1) := by decide +kernel
theorem dRw_keyBefore_13 : decode mRw_keyBefore.2.2.2.1 13 = .ok ((.getfield 15), 3) := by decide +kernel
theorem dRw_keyBefore_16 : decode mRw_keyBefore.2.2.2.1 16 = .ok ((.iload_n 1), 1) := by decide +kernel
theorem dRw_keyBefore_17 : decode mRw_keyBefore.2.2.2.1 17 = .ok ((.iconst (1)), 1) := by decide +kernel
theorem dRw_keyBefore_18 : decode mRw_keyBefore.2.2.2.1 18 = .ok (.isub, 1) := by decide +kernel
theorem dRw_keyBefore_19 : decode mRw_keyBefore.2.2.2.1 19 = .ok (.laload, 1) := by decide +kernel
theorem dRw_keyBefore_20 : decode mRw_keyBefore.2.2.2.1 20 = .ok ((.goto (4)), 3) := by decide +kernel
theorem dRw_keyBefore_23 : decode mRw_keyBefore.2.2.2.1 23 = .ok ((.lconst 0), 1) := by decide +kernel
theorem dRw_keyBefore_24 : decode mRw_keyBefore.2.2.2.1 24 = .ok (.lreturn, 1) := by decide +kernel
theorem dRw_sharedDue_0 : decode mRw_sharedDue.2.2.2.1 0 = .ok ((.iload_n 1), 1) := by decide +kernel
theorem dRw_sharedDue_1 : decode mRw_sharedDue.2.2.2.1 1 = .ok ((.iconst (4)), 1) := by decide +kernel
theorem dRw_sharedDue_2 : decode mRw_sharedDue.2.2.2.1 2 = .ok (.irem, 1) := by decide +kernel
theorem dRw_sharedDue_3 : decode mRw_sharedDue.2.2.2.1 3 = .ok ((.ifCond .ne (7)), 3) := by decide +kernel
theorem dRw_sharedDue_6 : decode mRw_sharedDue.2.2.2.1 6 = .ok ((.iconst (0)), 1) := by decide +kernel
theorem dRw_sharedDue_7 : decode mRw_sharedDue.2.2.2.1 7 = .ok ((.goto (12)), 3) := by decide +kernel
theorem dRw_sharedDue_10 : decode mRw_sharedDue.2.2.2.1 10 = .ok ((.aload_n 0), 1) := by decide +kernel
theorem dRw_sharedDue_11 : decode mRw_sharedDue.2.2.2.1 11 = .ok ((.iload_n 1), 1) := by decide +kernel
theorem dRw_sharedDue_12 : decode mRw_sharedDue.2.2.2.1 12 = .ok ((.invokevirtual 30), 3) := by decide +kernel
theorem dRw_sharedDue_15 : decode mRw_sharedDue.2.2.2.1 15 = .ok ((.lload_n 2), 1) := by decide +kernel
theorem dRw_sharedDue_16 : decode mRw_sharedDue.2.2.2.1 16 = .ok ((.invokestatic 34), 3) := by decide +kernel
theorem dRw_sharedDue_19 : decode mRw_sharedDue.2.2.2.1 19 = .ok (.ireturn, 1) := by decide +kernel
