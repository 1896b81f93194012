theorem dMd_nextEntry_0 : decode mMd_nextEntry.2.2.2.1 0 = .ok ((.iconst (-1)), 1) := by decide +kernel
theorem dMd_nextEntry_1 : decode mMd_nextEntry.2.2.2.1 1 = .ok ((.istore_n 3), 1) := by decide +kernel
theorem dMd_nextEntry_2 : decode mMd_nextEntry.2.2.2.1 2 = .ok ((.iconst (0)), 1) := by decide +kernel
theorem dMd_nextEntry_3 : decode mMd_nextEntry.2.2.2.1 3 = .ok ((.istore 4), 2) := by decide +kernel
theorem dMd_nextEntry_5 : decode mMd_nextEntry.2.2.2.1 5 = .ok ((.iload 4), 2) := by decide +kernel
theorem dMd_nextEntry_7 : decode mMd_nextEntry.2.2.2.1 7 = .ok ((.aload_n 0), 1) := by decide +kernel
theorem dMd_nextEntry_8 : decode mMd_nextEntry.2.2.2.1 8 = .ok ((.getfield 122), 3) := by decide +kernel
theorem dMd_nextEntry_11 : decode mMd_nextEntry.2.2.2.1 11 = .ok ((.if_icmp .ge (100)), 3) := by decide +kernel
theorem dMd_nextEntry_14 : decode mMd_nextEntry.2.2.2.1 14 = .ok ((.aload_n 0), 1) := by decide +kernel
theorem dMd_nextEntry_15 : decode mMd_nextEntry.2.2.2.1 15 = .ok ((.getfield 45), 3) := by decide +kernel
theorem dMd_nextEntry_18 : decode mMd_nextEntry.2.2.2.1 18 = .ok ((.iload 4), 2) := by decide +kernel
theorem dMd_nextEntry_20 : decode mMd_nextEntry.2.2.2.1 20 = .ok (.iaload, 1) := by decide +kernel
theorem dMd_nextEntry_21 : decode mMd_nextEntry.2.2.2.1 21 = .ok ((.iload_n 2), 1) := by decide +kernel
theorem dMd_nextEntry_22 : decode mMd_nextEntry.2.2.2.1 22 = .ok ((.if_icmp .lt (54)), 3) := by decide +kernel
theorem dMd_nextEntry_25 : decode mMd_nextEntry.2.2.2.1 25 = .ok ((.iload_n 1), 1) := by decide +kernel
theorem dMd_nextEntry_26 : decode mMd_nextEntry.2.2.2.1 26 = .ok ((.ifCond .lt (46)), 3) := by decide +kernel
theorem dMd_nextEntry_29 : decode mMd_nextEntry.2.2.2.1 29 = .ok ((.aload_n 0), 1) := by decide +kernel
theorem dMd_nextEntry_30 : decode mMd_nextEntry.2.2.2.1 30 = .ok ((.iload_n 1), 1) := by decide +kernel
theorem dMd_nextEntry_31 : decode mMd_nextEntry.2.2.2.1 31 = .ok ((.iload 4), 2) := by decide +kernel
theorem dMd_nextEntry_33 : decode mMd_nextEntry.2.2.2.1 33 = .ok ((.invokevirtual 187), 3) := by decide +kernel
theorem dMd_nextEntry_36 : decode mMd_nextEntry.2.2.2.1 36 = .ok ((.ifCond .eq (40)), 3) := by decide +kernel
theorem dMd_nextEntry_39 : decode mMd_nextEntry.2.2.2.1 39 = .ok ((.aload_n 0), 1) := by decide +kernel
theorem dMd_nextEntry_40 : decode mMd_nextEntry.2.2.2.1 40 = .ok ((.getfield 42), 3) := by decide +kernel
theorem dMd_nextEntry_43 : decode mMd_nextEntry.2.2.2.1 43 = .ok ((.iload 4), 2) := by decide +kernel
theorem dMd_nextEntry_45 : decode mMd_nextEntry.2.2.2.1 45 = .ok (.laload, 1) := by decide +kernel
theorem dMd_nextEntry_46 : decode mMd_nextEntry.2.2.2.1 46 = .ok ((.aload_n 0), 1) := by decide +kernel
theorem dMd_nextEntry_47 : decode mMd_nextEntry.2.2.2.1 47 = .ok ((.getfield 42), 3) := by decide +kernel
theorem dMd_nextEntry_50 : decode mMd_nextEntry.2.2.2.1 50 = .ok ((.iload_n 1), 1) := by decide +kernel
theorem dMd_nextEntry_51 : decode mMd_nextEntry.2.2.2.1 51 = .ok (.laload, 1) := by decide +kernel
theorem dMd_nextEntry_52 : decode mMd_nextEntry.2.2.2.1 52 = .ok (.lcmp, 1) := by decide +kernel
theorem dMd_nextEntry_53 : decode mMd_nextEntry.2.2.2.1 53 = .ok ((.ifCond .ne (19)), 3) := by decide +kernel
theorem dMd_nextEntry_56 : decode mMd_nextEntry.2.2.2.1 56 = .ok ((.aload_n 0), 1) := by decide +kernel
theorem dMd_nextEntry_57 : decode mMd_nextEntry.2.2.2.1 57 = .ok ((.getfield 45), 3) := by decide +kernel
theorem dMd_nextEntry_60 : decode mMd_nextEntry.2.2.2.1 60 = .ok ((.iload 4), 2) := by decide +kernel
theorem dMd_nextEntry_62 : decode mMd_nextEntry.2.2.2.1 62 = .ok (.iaload, 1) := by decide +kernel
theorem dMd_nextEntry_63 : decode mMd_nextEntry.2.2.2.1 63 = .ok ((.aload_n 0), 1) := by decide +kernel
theorem dMd_nextEntry_64 : decode mMd_nextEntry.2.2.2.1 64 = .ok ((.getfield 45), 3) := by decide +kernel
theorem dMd_nextEntry_67 : decode mMd_nextEntry.2.2.2.1 67 = .ok ((.iload_n 1), 1) := by decide +kernel
theorem dMd_nextEntry_68 : decode mMd_nextEntry.2.2.2.1 68 = .ok (.iaload, 1) := by decide +kernel
theorem dMd_nextEntry_69 : decode mMd_nextEntry.2.2.2.1 69 = .ok ((.if_icmp .eq (7)), 3) := by decide +kernel
theorem dMd_nextEntry_72 : decode mMd_nextEntry.2.2.2.1 72 = .ok ((.iconst (1)), 1) := by decide +kernel
theorem dMd_nextEntry_73 : decode mMd_nextEntry.2.2.2.1 73 = .ok ((.goto (4)), 3) := by decide +kernel
theorem dMd_nextEntry_76 : decode mMd_nextEntry.2.2.2.1 76 = .ok ((.iconst (0)), 1) := by decide +kernel
theorem dMd_nextEntry_77 : decode mMd_nextEntry.2.2.2.1 77 = .ok ((.istore 5), 2) := by decide +kernel
theorem dMd_nextEntry_79 : decode mMd_nextEntry.2.2.2.1 79 = .ok ((.iload 5), 2) := by decide +kernel
theorem dMd_nextEntry_81 : decode mMd_nextEntry.2.2.2.1 81 = .ok ((.ifCond .eq (22)), 3) := by decide +kernel
theorem dMd_nextEntry_84 : decode mMd_nextEntry.2.2.2.1 84 = .ok ((.iload_n 3), 1) := by decide +kernel
theorem dMd_nextEntry_85 : decode mMd_nextEntry.2.2.2.1 85 = .ok ((.ifCond .lt (13)), 3) := by decide +kernel
theorem dMd_nextEntry_88 : decode mMd_nextEntry.2.2.2.1 88 = .ok ((.aload_n 0), 1) := by decide +kernel
theorem dMd_nextEntry_89 : decode mMd_nextEntry.2.2.2.1 89 = .ok ((.iload 4), 2) := by decide +kernel
theorem dMd_nextEntry_91 : decode mMd_nextEntry.2.2.2.1 91 = .ok ((.iload_n 3), 1) := by decide +kernel
theorem dMd_nextEntry_92 : decode mMd_nextEntry.2.2.2.1 92 = .ok ((.invokevirtual 187), 3) := by decide +kernel
theorem dMd_nextEntry_95 : decode mMd_nextEntry.2.2.2.1 95 = .ok ((.ifCond .eq (8)), 3) := by decide +kernel
theorem dMd_nextEntry_98 : decode mMd_nextEntry.2.2.2.1 98 = .ok ((.iload 4), 2) := by decide +kernel
theorem dMd_nextEntry_100 : decode mMd_nextEntry.2.2.2.1 100 = .ok ((.goto (4)), 3) := by decide +kernel
theorem dMd_nextEntry_103 : decode mMd_nextEntry.2.2.2.1 103 = .ok ((.iload_n 3), 1) := by decide +kernel
theorem dMd_nextEntry_104 : decode mMd_nextEntry.2.2.2.1 104 = .ok ((.istore_n 3), 1) := by decide +kernel
theorem dMd_nextEntry_105 : decode mMd_nextEntry.2.2.2.1 105 = .ok ((.iinc 4 (1)), 3) := by decide +kernel
theorem dMd_nextEntry_108 : decode mMd_nextEntry.2.2.2.1 108 = .ok ((.goto (-103)), 3) := by decide +kernel
theorem dMd_nextEntry_111 : decode mMd_nextEntry.2.2.2.1 111 = .ok ((.iload_n 3), 1) := by decide +kernel
theorem dMd_nextEntry_112 : decode mMd_nextEntry.2.2.2.1 112 = .ok (.ireturn, 1) := by decide +kernel
theorem dMd_recordsFrom_0 : decode mMd_recordsFrom.2.2.2.1 0 = .ok ((.iconst (0)), 1) := by decide +kernel
theorem dMd_recordsFrom_1 : decode mMd_recordsFrom.2.2.2.1 1 = .ok ((.istore_n 2), 1) := by decide +kernel
theorem dMd_recordsFrom_2 : decode mMd_recordsFrom.2.2.2.1 2 = .ok ((.iconst (0)), 1) := by decide +kernel
theorem dMd_recordsFrom_3 : decode mMd_recordsFrom.2.2.2.1 3 = .ok ((.istore_n 3), 1) := by decide +kernel
theorem dMd_recordsFrom_4 : decode mMd_recordsFrom.2.2.2.1 4 = .ok ((.iload_n 3), 1) := by decide +kernel
theorem dMd_recordsFrom_5 : decode mMd_recordsFrom.2.2.2.1 5 = .ok ((.aload_n 0), 1) := by decide +kernel
theorem dMd_recordsFrom_6 : decode mMd_recordsFrom.2.2.2.1 6 = .ok ((.getfield 152), 3) := by decide +kernel
theorem dMd_recordsFrom_9 : decode mMd_recordsFrom.2.2.2.1 9 = .ok ((.if_icmp .ge (27)), 3) := by decide +kernel
theorem dMd_recordsFrom_12 : decode mMd_recordsFrom.2.2.2.1 12 = .ok ((.aload_n 0), 1) := by decide +kernel
theorem dMd_recordsFrom_13 : decode mMd_recordsFrom.2.2.2.1 13 = .ok ((.getfield 33), 3) := by decide +kernel
theorem dMd_recordsFrom_16 : decode mMd_recordsFrom.2.2.2.1 16 = .ok ((.iload_n 3), 1) := by decide +kernel
theorem dMd_recordsFrom_17 : decode mMd_recordsFrom.2.2.2.1 17 = .ok (.iaload, 1) := by decide +kernel
theorem dMd_recordsFrom_18 : decode mMd_recordsFrom.2.2.2.1 18 = .ok ((.iload_n 1), 1) := by decide +kernel
theorem dMd_recordsFrom_19 : decode mMd_recordsFrom.2.2.2.1 19 = .ok ((.if_icmp .lt (9)), 3) := by decide +kernel
theorem dMd_recordsFrom_22 : decode mMd_recordsFrom.2.2.2.1 22 = .ok ((.iload_n 2), 1) := by decide +kernel
theorem dMd_recordsFrom_23 : decode mMd_recordsFrom.2.2.2.1 23 = .ok ((.iconst (1)), 1) := by decide +kernel
theorem dMd_recordsFrom_24 : decode mMd_recordsFrom.2.2.2.1 24 = .ok (.iadd, 1) := by decide +kernel
theorem dMd_recordsFrom_25 : decode mMd_recordsFrom.2.2.2.1 25 = .ok ((.goto (4)), 3) := by decide +kernel
theorem dMd_recordsFrom_28 : decode mMd_recordsFrom.2.2.2.1 28 = .ok ((.iload_n 2), 1) := by decide +kernel
theorem dMd_recordsFrom_29 : decode mMd_recordsFrom.2.2.2.1 29 = .ok ((.istore_n 2), 1) := by decide +kernel
theorem dMd_recordsFrom_30 : decode mMd_recordsFrom.2.2.2.1 30 = .ok ((.iinc 3 (1)), 3) := by decide +kernel
theorem dMd_recordsFrom_33 : decode mMd_recordsFrom.2.2.2.1 33 = .ok ((.goto (-29)), 3) := by decide +kernel
theorem dMd_recordsFrom_36 : decode mMd_recordsFrom.2.2.2.1 36 = .ok ((.iload_n 2), 1) := by decide +kernel
theorem dMd_recordsFrom_37 : decode mMd_recordsFrom.2.2.2.1 37 = .ok (.ireturn, 1) := by decide +kernel
theorem dMd_entriesSince_0 : decode mMd_entriesSince.2.2.2.1 0 = .ok ((.iconst (0)), 1) := by decide +kernel
theorem dMd_entriesSince_1 : decode mMd_entriesSince.2.2.2.1 1 = .ok ((.istore_n 2), 1) := by decide +kernel
theorem dMd_entriesSince_2 : decode mMd_entriesSince.2.2.2.1 2 = .ok ((.aload_n 0), 1) := by decide +kernel
theorem dMd_entriesSince_3 : decode mMd_entriesSince.2.2.2.1 3 = .ok ((.iconst (-1)), 1) := by decide +kernel
theorem dMd_entriesSince_4 : decode mMd_entriesSince.2.2.2.1 4 = .ok ((.iload_n 1), 1) := by decide +kernel
theorem dMd_entriesSince_5 : decode mMd_entriesSince.2.2.2.1 5 = .ok ((.invokevirtual 191), 3) := by decide +kernel
theorem dMd_entriesSince_8 : decode mMd_entriesSince.2.2.2.1 8 = .ok ((.istore_n 3), 1) := by decide +kernel
theorem dMd_entriesSince_9 : decode mMd_entriesSince.2.2.2.1 9 = .ok ((.iload_n 3), 1) := by decide +kernel
theorem dMd_entriesSince_10 : decode mMd_entriesSince.2.2.2.1 10 = .ok ((.ifCond .lt (16)), 3) := by decide +kernel
theorem dMd_entriesSince_13 : decode mMd_entriesSince.2.2.2.1 13 = .ok ((.iinc 2 (1)), 3) := by decide +kernel
theorem dMd_entriesSince_16 : decode mMd_entriesSince.2.2.2.1 16 = .ok ((.aload_n 0), 1) := by decide +kernel
theorem dMd_entriesSince_17 : decode mMd_entriesSince.2.2.2.1 17 = .ok ((.iload_n 3), 1) := by decide +kernel
theorem dMd_entriesSince_18 : decode mMd_entriesSince.2.2.2.1 18 = .ok ((.iload_n 1), 1) := by decide +kernel
theorem dMd_entriesSince_19 : decode mMd_entriesSince.2.2.2.1 19 = .ok ((.invokevirtual 191), 3) := by decide +kernel
theorem dMd_entriesSince_22 : decode mMd_entriesSince.2.2.2.1 22 = .ok ((.istore_n 3), 1) := by decide +kernel
theorem dMd_entriesSince_23 : decode mMd_entriesSince.2.2.2.1 23 = .ok ((.goto (-14)), 3) := by decide +kernel
theorem dMd_entriesSince_26 : decode mMd_entriesSince.2.2.2.1 26 = .ok ((.iload_n 2), 1) := by decide +kernel
theorem dMd_entriesSince_27 : decode mMd_entriesSince.2.2.2.1 27 = .ok (.ireturn, 1) := by decide +kernel
theorem dMd_write_0 : decode mMd_write.2.2.2.1 0 = .ok ((.aload_n 0), 1) := by decide +kernel
theorem dMd_write_1 : decode mMd_write.2.2.2.1 1 = .ok ((.iconst (0)), 1) := by decide +kernel
theorem dMd_write_2 : decode mMd_write.2.2.2.1 2 = .ok ((.putfield 177), 3) := by decide +kernel
theorem dMd_write_5 : decode mMd_write.2.2.2.1 5 = .ok ((.aload_n 0), 1) := by decide +kernel
theorem dMd_write_6 : decode mMd_write.2.2.2.1 6 = .ok ((.iconst (0)), 1) := by decide +kernel
theorem dMd_write_7 : decode mMd_write.2.2.2.1 7 = .ok ((.putfield 180), 3) := by decide +kernel
theorem dMd_write_10 : decode mMd_write.2.2.2.1 10 = .ok ((.aload_n 0), 1) := by decide +kernel
theorem dMd_write_11 : decode mMd_write.2.2.2.1 11 = .ok ((.iload_n 2), 1) := by decide +kernel
theorem dMd_write_12 : decode mMd_write.2.2.2.1 12 = .ok ((.invokevirtual 194), 3) := by decide +kernel
theorem dMd_write_15 : decode mMd_write.2.2.2.1 15 = .ok ((.istore_n 3), 1) := by decide +kernel
theorem dMd_write_16 : decode mMd_write.2.2.2.1 16 = .ok ((.aload_n 0), 1) := by decide +kernel
theorem dMd_write_17 : decode mMd_write.2.2.2.1 17 = .ok ((.bipush (82)), 2) := by decide +kernel
theorem dMd_write_19 : decode mMd_write.2.2.2.1 19 = .ok ((.invokevirtual 183), 3) := by decide +kernel
theorem dMd_write_22 : decode mMd_write.2.2.2.1 22 = .ok ((.aload_n 0), 1) := by decide +kernel
theorem dMd_write_23 : decode mMd_write.2.2.2.1 23 = .ok ((.aload_n 0), 1) := by decide +kernel
theorem dMd_write_24 : decode mMd_write.2.2.2.1 24 = .ok ((.getfield 165), 3) := by decide +kernel
theorem dMd_write_27 : decode mMd_write.2.2.2.1 27 = .ok ((.invokevirtual 197), 3) := by decide +kernel
theorem dMd_write_30 : decode mMd_write.2.2.2.1 30 = .ok ((.aload_n 0), 1) := by decide +kernel
theorem dMd_write_31 : decode mMd_write.2.2.2.1 31 = .ok ((.aload_n 0), 1) := by decide +kernel
theorem dMd_write_32 : decode mMd_write.2.2.2.1 32 = .ok ((.getfield 168), 3) := by decide +kernel
theorem dMd_write_35 : decode mMd_write.2.2.2.1 35 = .ok ((.invokevirtual 197), 3) := by decide +kernel
theorem dMd_write_38 : decode mMd_write.2.2.2.1 38 = .ok ((.aload_n 0), 1) := by decide +kernel
theorem dMd_write_39 : decode mMd_write.2.2.2.1 39 = .ok ((.aload_n 0), 1) := by decide +kernel
theorem dMd_write_40 : decode mMd_write.2.2.2.1 40 = .ok ((.iload_n 1), 1) := by decide +kernel
theorem dMd_write_41 : decode mMd_write.2.2.2.1 41 = .ok ((.invokevirtual 200), 3) := by decide +kernel
theorem dMd_write_44 : decode mMd_write.2.2.2.1 44 = .ok ((.invokevirtual 197), 3) := by decide +kernel
theorem dMd_write_47 : decode mMd_write.2.2.2.1 47 = .ok ((.lconst 0), 1) := by decide +kernel
theorem dMd_write_48 : decode mMd_write.2.2.2.1 48 = .ok ((.lstore 4), 2) := by decide +kernel
theorem dMd_write_50 : decode mMd_write.2.2.2.1 50 = .ok ((.iconst (0)), 1) := by decide +kernel
theorem dMd_write_51 : decode mMd_write.2.2.2.1 51 = .ok ((.istore 6), 2) := by decide +kernel
theorem dMd_write_53 : decode mMd_write.2.2.2.1 53 = .ok ((.aload_n 0), 1) := by decide +kernel
theorem dMd_write_54 : decode mMd_write.2.2.2.1 54 = .ok ((.lconst 0), 1) := by decide +kernel
theorem dMd_write_55 : decode mMd_write.2.2.2.1 55 = .ok ((.iload_n 1), 1) := by decide +kernel
theorem dMd_write_56 : decode mMd_write.2.2.2.1 56 = .ok ((.invokevirtual 203), 3) := by decide +kernel
theorem dMd_write_59 : decode mMd_write.2.2.2.1 59 = .ok ((.istore 7), 2) := by decide +kernel
theorem dMd_write_61 : decode mMd_write.2.2.2.1 61 = .ok ((.iload 7), 2) := by decide +kernel
theorem dMd_write_63 : decode mMd_write.2.2.2.1 63 = .ok ((.ifCond .lt (174)), 3) := by decide +kernel
theorem dMd_write_66 : decode mMd_write.2.2.2.1 66 = .ok ((.iload 6), 2) := by decide +kernel
theorem dMd_write_68 : decode mMd_write.2.2.2.1 68 = .ok ((.iconst (4)), 1) := by decide +kernel
theorem dMd_write_69 : decode mMd_write.2.2.2.1 69 = .ok (.irem, 1) := by decide +kernel
theorem dMd_write_70 : decode mMd_write.2.2.2.1 70 = .ok ((.ifCond .ne (7)), 3) := by decide +kernel
theorem dMd_write_73 : decode mMd_write.2.2.2.1 73 = .ok ((.iconst (0)), 1) := by decide +kernel
theorem dMd_write_74 : decode mMd_write.2.2.2.1 74 = .ok ((.goto (15)), 3) := by decide +kernel
theorem dMd_write_77 : decode mMd_write.2.2.2.1 77 = .ok ((.lload 4), 2) := by decide +kernel
theorem dMd_write_79 : decode mMd_write.2.2.2.1 79 = .ok ((.aload_n 0), 1) := by decide +kernel
theorem dMd_write_80 : decode mMd_write.2.2.2.1 80 = .ok ((.getfield 30), 3) := by decide +kernel
theorem dMd_write_83 : decode mMd_write.2.2.2.1 83 = .ok ((.iload 7), 2) := by decide +kernel
theorem dMd_write_85 : decode mMd_write.2.2.2.1 85 = .ok (.laload, 1) := by decide +kernel
theorem dMd_write_86 : decode mMd_write.2.2.2.1 86 = .ok ((.invokestatic 72), 3) := by decide +kernel
theorem dMd_write_89 : decode mMd_write.2.2.2.1 89 = .ok ((.istore 8), 2) := by decide +kernel
theorem dMd_write_91 : decode mMd_write.2.2.2.1 91 = .ok ((.aload_n 0), 1) := by decide +kernel
theorem dMd_write_92 : decode mMd_write.2.2.2.1 92 = .ok ((.iload 8), 2) := by decide +kernel
theorem dMd_write_94 : decode mMd_write.2.2.2.1 94 = .ok ((.invokevirtual 197), 3) := by decide +kernel
theorem dMd_write_97 : decode mMd_write.2.2.2.1 97 = .ok ((.aload_n 0), 1) := by decide +kernel
theorem dMd_write_98 : decode mMd_write.2.2.2.1 98 = .ok ((.iconst (4)), 1) := by decide +kernel
theorem dMd_write_99 : decode mMd_write.2.2.2.1 99 = .ok ((.aload_n 0), 1) := by decide +kernel
theorem dMd_write_100 : decode mMd_write.2.2.2.1 100 = .ok ((.getfield 30), 3) := by decide +kernel
theorem dMd_write_103 : decode mMd_write.2.2.2.1 103 = .ok ((.iload 7), 2) := by decide +kernel
theorem dMd_write_105 : decode mMd_write.2.2.2.1 105 = .ok (.laload, 1) := by decide +kernel
theorem dMd_write_106 : decode mMd_write.2.2.2.1 106 = .ok ((.invokestatic 66), 3) := by decide +kernel
theorem dMd_write_109 : decode mMd_write.2.2.2.1 109 = .ok ((.iload 8), 2) := by decide +kernel
theorem dMd_write_111 : decode mMd_write.2.2.2.1 111 = .ok (.isub, 1) := by decide +kernel
theorem dMd_write_112 : decode mMd_write.2.2.2.1 112 = .ok (.imul, 1) := by decide +kernel
theorem dMd_write_113 : decode mMd_write.2.2.2.1 113 = .ok ((.aload_n 0), 1) := by decide +kernel
theorem dMd_write_114 : decode mMd_write.2.2.2.1 114 = .ok ((.getfield 33), 3) := by decide +kernel
theorem dMd_write_117 : decode mMd_write.2.2.2.1 117 = .ok ((.iload 7), 2) := by decide +kernel
theorem dMd_write_119 : decode mMd_write.2.2.2.1 119 = .ok (.iaload, 1) := by decide +kernel
theorem dMd_write_120 : decode mMd_write.2.2.2.1 120 = .ok (.iadd, 1) := by decide +kernel
theorem dMd_write_121 : decode mMd_write.2.2.2.1 121 = .ok ((.invokevirtual 197), 3) := by decide +kernel
theorem dMd_write_124 : decode mMd_write.2.2.2.1 124 = .ok ((.aload_n 0), 1) := by decide +kernel
theorem dMd_write_125 : decode mMd_write.2.2.2.1 125 = .ok ((.aload_n 0), 1) := by decide +kernel
theorem dMd_write_126 : decode mMd_write.2.2.2.1 126 = .ok ((.getfield 30), 3) := by decide +kernel
theorem dMd_write_129 : decode mMd_write.2.2.2.1 129 = .ok ((.iload 7), 2) := by decide +kernel
theorem dMd_write_131 : decode mMd_write.2.2.2.1 131 = .ok (.laload, 1) := by decide +kernel
theorem dMd_write_132 : decode mMd_write.2.2.2.1 132 = .ok ((.iload 8), 2) := by decide +kernel
theorem dMd_write_134 : decode mMd_write.2.2.2.1 134 = .ok ((.invokevirtual 206), 3) := by decide +kernel
theorem dMd_write_137 : decode mMd_write.2.2.2.1 137 = .ok ((.aload_n 0), 1) := by decide +kernel
theorem dMd_write_138 : decode mMd_write.2.2.2.1 138 = .ok ((.aload_n 0), 1) := by decide +kernel
theorem dMd_write_139 : decode mMd_write.2.2.2.1 139 = .ok ((.getfield 36), 3) := by decide +kernel
theorem dMd_write_142 : decode mMd_write.2.2.2.1 142 = .ok ((.iload 7), 2) := by decide +kernel
theorem dMd_write_144 : decode mMd_write.2.2.2.1 144 = .ok (.iaload, 1) := by decide +kernel
theorem dMd_write_145 : decode mMd_write.2.2.2.1 145 = .ok ((.aload_n 0), 1) := by decide +kernel
theorem dMd_write_146 : decode mMd_write.2.2.2.1 146 = .ok ((.getfield 165), 3) := by decide +kernel
theorem dMd_write_149 : decode mMd_write.2.2.2.1 149 = .ok (.isub, 1) := by decide +kernel
theorem dMd_write_150 : decode mMd_write.2.2.2.1 150 = .ok ((.invokevirtual 197), 3) := by decide +kernel
theorem dMd_write_153 : decode mMd_write.2.2.2.1 153 = .ok ((.aload_n 0), 1) := by decide +kernel
theorem dMd_write_154 : decode mMd_write.2.2.2.1 154 = .ok ((.getfield 33), 3) := by decide +kernel
theorem dMd_write_157 : decode mMd_write.2.2.2.1 157 = .ok ((.iload 7), 2) := by decide +kernel
theorem dMd_write_159 : decode mMd_write.2.2.2.1 159 = .ok (.iaload, 1) := by decide +kernel
theorem dMd_write_160 : decode mMd_write.2.2.2.1 160 = .ok ((.iconst (1)), 1) := by decide +kernel
theorem dMd_write_161 : decode mMd_write.2.2.2.1 161 = .ok ((.if_icmp .ne (15)), 3) := by decide +kernel
theorem dMd_write_164 : decode mMd_write.2.2.2.1 164 = .ok ((.aload_n 0), 1) := by decide +kernel
theorem dMd_write_165 : decode mMd_write.2.2.2.1 165 = .ok ((.aload_n 0), 1) := by decide +kernel
theorem dMd_write_166 : decode mMd_write.2.2.2.1 166 = .ok ((.getfield 39), 3) := by decide +kernel
theorem dMd_write_169 : decode mMd_write.2.2.2.1 169 = .ok ((.iload 7), 2) := by decide +kernel
theorem dMd_write_171 : decode mMd_write.2.2.2.1 171 = .ok (.laload, 1) := by decide +kernel
theorem dMd_write_172 : decode mMd_write.2.2.2.1 172 = .ok (.l2i, 1) := by decide +kernel
theorem dMd_write_173 : decode mMd_write.2.2.2.1 173 = .ok ((.invokevirtual 197), 3) := by decide +kernel
theorem dMd_write_176 : decode mMd_write.2.2.2.1 176 = .ok ((.aload_n 0), 1) := by decide +kernel
theorem dMd_write_177 : decode mMd_write.2.2.2.1 177 = .ok ((.getfield 33), 3) := by decide +kernel
theorem dMd_write_180 : decode mMd_write.2.2.2.1 180 = .ok ((.iload 7), 2) := by decide +kernel
theorem dMd_write_182 : decode mMd_write.2.2.2.1 182 = .ok (.iaload, 1) := by decide +kernel
theorem dMd_write_183 : decode mMd_write.2.2.2.1 183 = .ok ((.iconst (2)), 1) := by decide +kernel
theorem dMd_write_184 : decode mMd_write.2.2.2.1 184 = .ok ((.if_icmp .ne (29)), 3) := by decide +kernel
theorem dMd_write_187 : decode mMd_write.2.2.2.1 187 = .ok ((.aload_n 0), 1) := by decide +kernel
theorem dMd_write_188 : decode mMd_write.2.2.2.1 188 = .ok ((.aload_n 0), 1) := by decide +kernel
theorem dMd_write_189 : decode mMd_write.2.2.2.1 189 = .ok ((.getfield 39), 3) := by decide +kernel
theorem dMd_write_192 : decode mMd_write.2.2.2.1 192 = .ok ((.iload 7), 2) := by decide +kernel
theorem dMd_write_194 : decode mMd_write.2.2.2.1 194 = .ok (.laload, 1) := by decide +kernel
theorem dMd_write_195 : decode mMd_write.2.2.2.1 195 = .ok ((.invokestatic 66), 3) := by decide +kernel
theorem dMd_write_198 : decode mMd_write.2.2.2.1 198 = .ok ((.invokevirtual 197), 3) := by decide +kernel
theorem dMd_write_201 : decode mMd_write.2.2.2.1 201 = .ok ((.aload_n 0), 1) := by decide +kernel
theorem dMd_write_202 : decode mMd_write.2.2.2.1 202 = .ok ((.aload_n 0), 1) := by decide +kernel
theorem dMd_write_203 : decode mMd_write.2.2.2.1 203 = .ok ((.getfield 39), 3) := by decide +kernel
theorem dMd_write_206 : decode mMd_write.2.2.2.1 206 = .ok ((.iload 7), 2) := by decide +kernel
theorem dMd_write_208 : decode mMd_write.2.2.2.1 208 = .ok (.laload, 1) := by decide +kernel
theorem dMd_write_209 : decode mMd_write.2.2.2.1 209 = .ok ((.iconst (0)), 1) := by decide +kernel
theorem dMd_write_210 : decode mMd_write.2.2.2.1 210 = .ok ((.invokevirtual 206), 3) := by decide +kernel
theorem dMd_write_213 : decode mMd_write.2.2.2.1 213 = .ok ((.aload_n 0), 1) := by decide +kernel
theorem dMd_write_214 : decode mMd_write.2.2.2.1 214 = .ok ((.getfield 30), 3) := by decide +kernel
theorem dMd_write_217 : decode mMd_write.2.2.2.1 217 = .ok ((.iload 7), 2) := by decide +kernel
theorem dMd_write_219 : decode mMd_write.2.2.2.1 219 = .ok (.laload, 1) := by decide +kernel
theorem dMd_write_220 : decode mMd_write.2.2.2.1 220 = .ok ((.lstore 4), 2) := by decide +kernel
theorem dMd_write_222 : decode mMd_write.2.2.2.1 222 = .ok ((.iinc 6 (1)), 3) := by decide +kernel
theorem dMd_write_225 : decode mMd_write.2.2.2.1 225 = .ok ((.aload_n 0), 1) := by decide +kernel
theorem dMd_write_226 : decode mMd_write.2.2.2.1 226 = .ok ((.lload 4), 2) := by decide +kernel
theorem dMd_write_228 : decode mMd_write.2.2.2.1 228 = .ok ((.iload_n 1), 1) := by decide +kernel
theorem dMd_write_229 : decode mMd_write.2.2.2.1 229 = .ok ((.invokevirtual 203), 3) := by decide +kernel
theorem dMd_write_232 : decode mMd_write.2.2.2.1 232 = .ok ((.istore 7), 2) := by decide +kernel
theorem dMd_write_234 : decode mMd_write.2.2.2.1 234 = .ok ((.goto (-173)), 3) := by decide +kernel
theorem dMd_write_237 : decode mMd_write.2.2.2.1 237 = .ok ((.aload_n 0), 1) := by decide +kernel
theorem dMd_write_238 : decode mMd_write.2.2.2.1 238 = .ok ((.iload_n 3), 1) := by decide +kernel
theorem dMd_write_239 : decode mMd_write.2.2.2.1 239 = .ok ((.invokevirtual 197), 3) := by decide +kernel
theorem dMd_write_242 : decode mMd_write.2.2.2.1 242 = .ok ((.aload_n 0), 1) := by decide +kernel
theorem dMd_write_243 : decode mMd_write.2.2.2.1 243 = .ok ((.iload_n 2), 1) := by decide +kernel
theorem dMd_write_244 : decode mMd_write.2.2.2.1 244 = .ok ((.invokevirtual 210), 3) := by decide +kernel
theorem dMd_write_247 : decode mMd_write.2.2.2.1 247 = .ok ((.ldc 100), 2) := by decide +kernel
theorem dMd_write_249 : decode mMd_write.2.2.2.1 249 = .ok ((.istore 7), 2) := by decide +kernel
theorem dMd_write_251 : decode mMd_write.2.2.2.1 251 = .ok ((.iconst (0)), 1) := by decide +kernel
theorem dMd_write_252 : decode mMd_write.2.2.2.1 252 = .ok ((.istore 8), 2) := by decide +kernel
theorem dMd_write_254 : decode mMd_write.2.2.2.1 254 = .ok ((.iload 8), 2) := by decide +kernel
theorem dMd_write_256 : decode mMd_write.2.2.2.1 256 = .ok ((.aload_n 0), 1) := by decide +kernel
theorem dMd_write_257 : decode mMd_write.2.2.2.1 257 = .ok ((.getfield 177), 3) := by decide +kernel
theorem dMd_write_260 : decode mMd_write.2.2.2.1 260 = .ok ((.if_icmp .ge (31)), 3) := by decide +kernel
theorem dMd_write_263 : decode mMd_write.2.2.2.1 263 = .ok ((.iload 7), 2) := by decide +kernel
theorem dMd_write_265 : decode mMd_write.2.2.2.1 265 = .ok ((.aload_n 0), 1) := by decide +kernel
theorem dMd_write_266 : decode mMd_write.2.2.2.1 266 = .ok ((.getfield 57), 3) := by decide +kernel
theorem dMd_write_269 : decode mMd_write.2.2.2.1 269 = .ok ((.iload 8), 2) := by decide +kernel
theorem dMd_write_271 : decode mMd_write.2.2.2.1 271 = .ok (.baload, 1) := by decide +kernel
theorem dMd_write_272 : decode mMd_write.2.2.2.1 272 = .ok ((.sipush (255)), 3) := by decide +kernel
theorem dMd_write_275 : decode mMd_write.2.2.2.1 275 = .ok (.iand, 1) := by decide +kernel
theorem dMd_write_276 : decode mMd_write.2.2.2.1 276 = .ok ((.bipush (8)), 2) := by decide +kernel
theorem dMd_write_278 : decode mMd_write.2.2.2.1 278 = .ok (.ishl, 1) := by decide +kernel
theorem dMd_write_279 : decode mMd_write.2.2.2.1 279 = .ok (.ixor, 1) := by decide +kernel
theorem dMd_write_280 : decode mMd_write.2.2.2.1 280 = .ok ((.invokestatic 101), 3) := by decide +kernel
theorem dMd_write_283 : decode mMd_write.2.2.2.1 283 = .ok ((.istore 7), 2) := by decide +kernel
theorem dMd_write_285 : decode mMd_write.2.2.2.1 285 = .ok ((.iinc 8 (1)), 3) := by decide +kernel
theorem dMd_write_288 : decode mMd_write.2.2.2.1 288 = .ok ((.goto (-34)), 3) := by decide +kernel
theorem dMd_write_291 : decode mMd_write.2.2.2.1 291 = .ok ((.aload_n 0), 1) := by decide +kernel
theorem dMd_write_292 : decode mMd_write.2.2.2.1 292 = .ok ((.iload 7), 2) := by decide +kernel
theorem dMd_write_294 : decode mMd_write.2.2.2.1 294 = .ok ((.bipush (8)), 2) := by decide +kernel
theorem dMd_write_296 : decode mMd_write.2.2.2.1 296 = .ok (.ishr, 1) := by decide +kernel
theorem dMd_write_297 : decode mMd_write.2.2.2.1 297 = .ok ((.invokevirtual 183), 3) := by decide +kernel
theorem dMd_write_300 : decode mMd_write.2.2.2.1 300 = .ok ((.aload_n 0), 1) := by decide +kernel
theorem dMd_write_301 : decode mMd_write.2.2.2.1 301 = .ok ((.iload 7), 2) := by decide +kernel
theorem dMd_write_303 : decode mMd_write.2.2.2.1 303 = .ok ((.sipush (255)), 3) := by decide +kernel
theorem dMd_write_306 : decode mMd_write.2.2.2.1 306 = .ok (.iand, 1) := by decide +kernel
theorem dMd_write_307 : decode mMd_write.2.2.2.1 307 = .ok ((.invokevirtual 183), 3) := by decide +kernel
theorem dMd_write_310 : decode mMd_write.2.2.2.1 310 = .ok ((.aload_n 0), 1) := by decide +kernel
theorem dMd_write_311 : decode mMd_write.2.2.2.1 311 = .ok ((.getfield 180), 3) := by decide +kernel
theorem dMd_write_314 : decode mMd_write.2.2.2.1 314 = .ok ((.ifCond .ne (20)), 3) := by decide +kernel
theorem dMd_write_317 : decode mMd_write.2.2.2.1 317 = .ok ((.iload 6), 2) := by decide +kernel
theorem dMd_write_319 : decode mMd_write.2.2.2.1 319 = .ok ((.bipush (30)), 2) := by decide +kernel
theorem dMd_write_321 : decode mMd_write.2.2.2.1 321 = .ok ((.if_icmp .gt (13)), 3) := by decide +kernel
theorem dMd_write_324 : decode mMd_write.2.2.2.1 324 = .ok ((.iload_n 3), 1) := by decide +kernel
theorem dMd_write_325 : decode mMd_write.2.2.2.1 325 = .ok ((.bipush (40)), 2) := by decide +kernel
theorem dMd_write_327 : decode mMd_write.2.2.2.1 327 = .ok ((.if_icmp .gt (7)), 3) := by decide +kernel
theorem dMd_write_330 : decode mMd_write.2.2.2.1 330 = .ok ((.iconst (1)), 1) := by decide +kernel
theorem dMd_write_331 : decode mMd_write.2.2.2.1 331 = .ok ((.goto (4)), 3) := by decide +kernel
theorem dMd_write_334 : decode mMd_write.2.2.2.1 334 = .ok ((.iconst (0)), 1) := by decide +kernel
theorem dMd_write_335 : decode mMd_write.2.2.2.1 335 = .ok (.ireturn, 1) := by decide +kernel
theorem dMd_writeEntries_0 : decode mMd_writeEntries.2.2.2.1 0 = .ok ((.lconst 0), 1) := by decide +kernel
theorem dMd_writeEntries_1 : decode mMd_writeEntries.2.2.2.1 1 = .ok ((.lstore_n 2), 1) := by decide +kernel
theorem dMd_writeEntries_2 : decode mMd_writeEntries.2.2.2.1 2 = .ok ((.iconst (0)), 1) := by decide +kernel
theorem dMd_writeEntries_3 : decode mMd_writeEntries.2.2.2.1 3 = .ok ((.istore 4), 2) := by decide +kernel
theorem dMd_writeEntries_5 : decode mMd_writeEntries.2.2.2.1 5 = .ok ((.aload_n 0), 1) := by decide +kernel
theorem dMd_writeEntries_6 : decode mMd_writeEntries.2.2.2.1 6 = .ok ((.iconst (-1)), 1) := by decide +kernel
theorem dMd_writeEntries_7 : decode mMd_writeEntries.2.2.2.1 7 = .ok ((.iload_n 1), 1) := by decide +kernel
theorem dMd_writeEntries_8 : decode mMd_writeEntries.2.2.2.1 8 = .ok ((.invokevirtual 191), 3) := by decide +kernel
theorem dMd_writeEntries_11 : decode mMd_writeEntries.2.2.2.1 11 = .ok ((.istore 5), 2) := by decide +kernel
theorem dMd_writeEntries_13 : decode mMd_writeEntries.2.2.2.1 13 = .ok ((.iload 5), 2) := by decide +kernel
theorem dMd_writeEntries_15 : decode mMd_writeEntries.2.2.2.1 15 = .ok ((.ifCond .lt (119)), 3) := by decide +kernel
theorem dMd_writeEntries_18 : decode mMd_writeEntries.2.2.2.1 18 = .ok ((.iload 4), 2) := by decide +kernel
theorem dMd_writeEntries_20 : decode mMd_writeEntries.2.2.2.1 20 = .ok ((.iconst (4)), 1) := by decide +kernel
theorem dMd_writeEntries_21 : decode mMd_writeEntries.2.2.2.1 21 = .ok (.irem, 1) := by decide +kernel
theorem dMd_writeEntries_22 : decode mMd_writeEntries.2.2.2.1 22 = .ok ((.ifCond .ne (7)), 3) := by decide +kernel
theorem dMd_writeEntries_25 : decode mMd_writeEntries.2.2.2.1 25 = .ok ((.iconst (0)), 1) := by decide +kernel
theorem dMd_writeEntries_26 : decode mMd_writeEntries.2.2.2.1 26 = .ok ((.goto (14)), 3) := by decide +kernel
theorem dMd_writeEntries_29 : decode mMd_writeEntries.2.2.2.1 29 = .ok ((.lload_n 2), 1) := by decide +kernel
theorem dMd_writeEntries_30 : decode mMd_writeEntries.2.2.2.1 30 = .ok ((.aload_n 0), 1) := by decide +kernel
theorem dMd_writeEntries_31 : decode mMd_writeEntries.2.2.2.1 31 = .ok ((.getfield 42), 3) := by decide +kernel
theorem dMd_writeEntries_34 : decode mMd_writeEntries.2.2.2.1 34 = .ok ((.iload 5), 2) := by decide +kernel
theorem dMd_writeEntries_36 : decode mMd_writeEntries.2.2.2.1 36 = .ok (.laload, 1) := by decide +kernel
theorem dMd_writeEntries_37 : decode mMd_writeEntries.2.2.2.1 37 = .ok ((.invokestatic 72), 3) := by decide +kernel
theorem dMd_writeEntries_40 : decode mMd_writeEntries.2.2.2.1 40 = .ok ((.istore 6), 2) := by decide +kernel
theorem dMd_writeEntries_42 : decode mMd_writeEntries.2.2.2.1 42 = .ok ((.aload_n 0), 1) := by decide +kernel
theorem dMd_writeEntries_43 : decode mMd_writeEntries.2.2.2.1 43 = .ok ((.iload 6), 2) := by decide +kernel
theorem dMd_writeEntries_45 : decode mMd_writeEntries.2.2.2.1 45 = .ok ((.invokevirtual 197), 3) := by decide +kernel
theorem dMd_writeEntries_48 : decode mMd_writeEntries.2.2.2.1 48 = .ok ((.aload_n 0), 1) := by decide +kernel
theorem dMd_writeEntries_49 : decode mMd_writeEntries.2.2.2.1 49 = .ok ((.aload_n 0), 1) := by decide +kernel
theorem dMd_writeEntries_50 : decode mMd_writeEntries.2.2.2.1 50 = .ok ((.getfield 42), 3) := by decide +kernel
theorem dMd_writeEntries_53 : decode mMd_writeEntries.2.2.2.1 53 = .ok ((.iload 5), 2) := by decide +kernel
theorem dMd_writeEntries_55 : decode mMd_writeEntries.2.2.2.1 55 = .ok (.laload, 1) := by decide +kernel
theorem dMd_writeEntries_56 : decode mMd_writeEntries.2.2.2.1 56 = .ok ((.invokestatic 66), 3) := by decide +kernel
theorem dMd_writeEntries_59 : decode mMd_writeEntries.2.2.2.1 59 = .ok ((.iload 6), 2) := by decide +kernel
theorem dMd_writeEntries_61 : decode mMd_writeEntries.2.2.2.1 61 = .ok (.isub, 1) := by decide +kernel
theorem dMd_writeEntries_62 : decode mMd_writeEntries.2.2.2.1 62 = .ok ((.invokevirtual 197), 3) := by decide +kernel
theorem dMd_writeEntries_65 : decode mMd_writeEntries.2.2.2.1 65 = .ok ((.aload_n 0), 1) := by decide +kernel
theorem dMd_writeEntries_66 : decode mMd_writeEntries.2.2.2.1 66 = .ok ((.aload_n 0), 1) := by decide +kernel
theorem dMd_writeEntries_67 : decode mMd_writeEntries.2.2.2.1 67 = .ok ((.getfield 42), 3) := by decide +kernel
theorem dMd_writeEntries_70 : decode mMd_writeEntries.2.2.2.1 70 = .ok ((.iload 5), 2) := by decide +kernel
theorem dMd_writeEntries_72 : decode mMd_writeEntries.2.2.2.1 72 = .ok (.laload, 1) := by decide +kernel
theorem dMd_writeEntries_73 : decode mMd_writeEntries.2.2.2.1 73 = .ok ((.iload 6), 2) := by decide +kernel
theorem dMd_writeEntries_75 : decode mMd_writeEntries.2.2.2.1 75 = .ok ((.invokevirtual 206), 3) := by decide +kernel
theorem dMd_writeEntries_78 : decode mMd_writeEntries.2.2.2.1 78 = .ok ((.aload_n 0), 1) := by decide +kernel
theorem dMd_writeEntries_79 : decode mMd_writeEntries.2.2.2.1 79 = .ok ((.aload_n 0), 1) := by decide +kernel
theorem dMd_writeEntries_80 : decode mMd_writeEntries.2.2.2.1 80 = .ok ((.getfield 45), 3) := by decide +kernel
theorem dMd_writeEntries_83 : decode mMd_writeEntries.2.2.2.1 83 = .ok ((.iload 5), 2) := by decide +kernel
theorem dMd_writeEntries_85 : decode mMd_writeEntries.2.2.2.1 85 = .ok (.iaload, 1) := by decide +kernel
theorem dMd_writeEntries_86 : decode mMd_writeEntries.2.2.2.1 86 = .ok ((.invokevirtual 197), 3) := by decide +kernel
theorem dMd_writeEntries_89 : decode mMd_writeEntries.2.2.2.1 89 = .ok ((.aload_n 0), 1) := by decide +kernel
theorem dMd_writeEntries_90 : decode mMd_writeEntries.2.2.2.1 90 = .ok ((.aload_n 0), 1) := by decide +kernel
theorem dMd_writeEntries_91 : decode mMd_writeEntries.2.2.2.1 91 = .ok ((.getfield 48), 3) := by decide +kernel
theorem dMd_writeEntries_94 : decode mMd_writeEntries.2.2.2.1 94 = .ok ((.iload 5), 2) := by decide +kernel
theorem dMd_writeEntries_96 : decode mMd_writeEntries.2.2.2.1 96 = .ok (.iaload, 1) := by decide +kernel
theorem dMd_writeEntries_97 : decode mMd_writeEntries.2.2.2.1 97 = .ok ((.invokevirtual 197), 3) := by decide +kernel
theorem dMd_writeEntries_100 : decode mMd_writeEntries.2.2.2.1 100 = .ok ((.aload_n 0), 1) := by decide +kernel
theorem dMd_writeEntries_101 : decode mMd_writeEntries.2.2.2.1 101 = .ok ((.aload_n 0), 1) := by decide +kernel
theorem dMd_writeEntries_102 : decode mMd_writeEntries.2.2.2.1 102 = .ok ((.getfield 51), 3) := by decide +kernel
theorem dMd_writeEntries_105 : decode mMd_writeEntries.2.2.2.1 105 = .ok ((.iload 5), 2) := by decide +kernel
theorem dMd_writeEntries_107 : decode mMd_writeEntries.2.2.2.1 107 = .ok (.iaload, 1) := by decide +kernel
theorem dMd_writeEntries_108 : decode mMd_writeEntries.2.2.2.1 108 = .ok ((.invokevirtual 197), 3) := by decide +kernel
theorem dMd_writeEntries_111 : decode mMd_writeEntries.2.2.2.1 111 = .ok ((.aload_n 0), 1) := by decide +kernel
theorem dMd_writeEntries_112 : decode mMd_writeEntries.2.2.2.1 112 = .ok ((.getfield 42), 3) := by decide +kernel
theorem dMd_writeEntries_115 : decode mMd_writeEntries.2.2.2.1 115 = .ok ((.iload 5), 2) := by decide +kernel
theorem dMd_writeEntries_117 : decode mMd_writeEntries.2.2.2.1 117 = .ok (.laload, 1) := by decide +kernel
theorem dMd_writeEntries_118 : decode mMd_writeEntries.2.2.2.1 118 = .ok ((.lstore_n 2), 1) := by decide +kernel
theorem dMd_writeEntries_119 : decode mMd_writeEntries.2.2.2.1 119 = .ok ((.iinc 4 (1)), 3) := by decide +kernel
theorem dMd_writeEntries_122 : decode mMd_writeEntries.2.2.2.1 122 = .ok ((.aload_n 0), 1) := by decide +kernel
theorem dMd_writeEntries_123 : decode mMd_writeEntries.2.2.2.1 123 = .ok ((.iload 5), 2) := by decide +kernel
theorem dMd_writeEntries_125 : decode mMd_writeEntries.2.2.2.1 125 = .ok ((.iload_n 1), 1) := by decide +kernel
theorem dMd_writeEntries_126 : decode mMd_writeEntries.2.2.2.1 126 = .ok ((.invokevirtual 191), 3) := by decide +kernel
theorem dMd_writeEntries_129 : decode mMd_writeEntries.2.2.2.1 129 = .ok ((.istore 5), 2) := by decide +kernel
theorem dMd_writeEntries_131 : decode mMd_writeEntries.2.2.2.1 131 = .ok ((.goto (-118)), 3) := by decide +kernel
theorem dMd_writeEntries_134 : decode mMd_writeEntries.2.2.2.1 134 = .ok (.return_, 1) := by decide +kernel
theorem dMd_place_0 : decode mMd_place.2.2.2.1 0 = .ok ((.iconst (0)), 1) := by decide +kernel
theorem dMd_place_1 : decode mMd_place.2.2.2.1 1 = .ok ((.istore_n 2), 1) := by decide +kernel
theorem dMd_place_2 : decode mMd_place.2.2.2.1 2 = .ok ((.iload_n 2), 1) := by decide +kernel
theorem dMd_place_3 : decode mMd_place.2.2.2.1 3 = .ok ((.aload_n 0), 1) := by decide +kernel
theorem dMd_place_4 : decode mMd_place.2.2.2.1 4 = .ok ((.getfield 177), 3) := by decide +kernel
theorem dMd_place_7 : decode mMd_place.2.2.2.1 7 = .ok ((.if_icmp .ge (27)), 3) := by decide +kernel
theorem dMd_place_10 : decode mMd_place.2.2.2.1 10 = .ok ((.aload_n 0), 1) := by decide +kernel
theorem dMd_place_11 : decode mMd_place.2.2.2.1 11 = .ok ((.getfield 7), 3) := by decide +kernel
theorem dMd_place_14 : decode mMd_place.2.2.2.1 14 = .ok ((.sipush (1200)), 3) := by decide +kernel
theorem dMd_place_17 : decode mMd_place.2.2.2.1 17 = .ok ((.iload_n 1), 1) := by decide +kernel
theorem dMd_place_18 : decode mMd_place.2.2.2.1 18 = .ok (.imul, 1) := by decide +kernel
theorem dMd_place_19 : decode mMd_place.2.2.2.1 19 = .ok ((.iload_n 2), 1) := by decide +kernel
theorem dMd_place_20 : decode mMd_place.2.2.2.1 20 = .ok (.iadd, 1) := by decide +kernel
theorem dMd_place_21 : decode mMd_place.2.2.2.1 21 = .ok ((.aload_n 0), 1) := by decide +kernel
theorem dMd_place_22 : decode mMd_place.2.2.2.1 22 = .ok ((.getfield 57), 3) := by decide +kernel
theorem dMd_place_25 : decode mMd_place.2.2.2.1 25 = .ok ((.iload_n 2), 1) := by decide +kernel
theorem dMd_place_26 : decode mMd_place.2.2.2.1 26 = .ok (.baload, 1) := by decide +kernel
theorem dMd_place_27 : decode mMd_place.2.2.2.1 27 = .ok (.bastore, 1) := by decide +kernel
theorem dMd_place_28 : decode mMd_place.2.2.2.1 28 = .ok ((.iinc 2 (1)), 3) := by decide +kernel
theorem dMd_place_31 : decode mMd_place.2.2.2.1 31 = .ok ((.goto (-29)), 3) := by decide +kernel
theorem dMd_place_34 : decode mMd_place.2.2.2.1 34 = .ok ((.aload_n 0), 1) := by decide +kernel
theorem dMd_place_35 : decode mMd_place.2.2.2.1 35 = .ok ((.getfield 13), 3) := by decide +kernel
theorem dMd_place_38 : decode mMd_place.2.2.2.1 38 = .ok ((.iload_n 1), 1) := by decide +kernel
theorem dMd_place_39 : decode mMd_place.2.2.2.1 39 = .ok ((.aload_n 0), 1) := by decide +kernel
theorem dMd_place_40 : decode mMd_place.2.2.2.1 40 = .ok ((.getfield 177), 3) := by decide +kernel
theorem dMd_place_43 : decode mMd_place.2.2.2.1 43 = .ok (.iastore, 1) := by decide +kernel
theorem dMd_place_44 : decode mMd_place.2.2.2.1 44 = .ok ((.aload_n 0), 1) := by decide +kernel
theorem dMd_place_45 : decode mMd_place.2.2.2.1 45 = .ok ((.iload_n 1), 1) := by decide +kernel
theorem dMd_place_46 : decode mMd_place.2.2.2.1 46 = .ok ((.iconst (1)), 1) := by decide +kernel
theorem dMd_place_47 : decode mMd_place.2.2.2.1 47 = .ok (.iadd, 1) := by decide +kernel
theorem dMd_place_48 : decode mMd_place.2.2.2.1 48 = .ok ((.putfield 158), 3) := by decide +kernel
theorem dMd_place_51 : decode mMd_place.2.2.2.1 51 = .ok (.return_, 1) := by decide +kernel
theorem dMd_begin_0 : decode mMd_begin.2.2.2.1 0 = .ok ((.aload_n 0), 1) := by decide +kernel
theorem dMd_begin_1 : decode mMd_begin.2.2.2.1 1 = .ok ((.getfield 213), 3) := by decide +kernel
theorem dMd_begin_4 : decode mMd_begin.2.2.2.1 4 = .ok ((.ifCond .eq (5)), 3) := by decide +kernel
theorem dMd_begin_7 : decode mMd_begin.2.2.2.1 7 = .ok ((.iconst (0)), 1) := by decide +kernel
theorem dMd_begin_8 : decode mMd_begin.2.2.2.1 8 = .ok (.ireturn, 1) := by decide +kernel
theorem dMd_begin_9 : decode mMd_begin.2.2.2.1 9 = .ok ((.aload_n 0), 1) := by decide +kernel
theorem dMd_begin_10 : decode mMd_begin.2.2.2.1 10 = .ok ((.iconst (1)), 1) := by decide +kernel
theorem dMd_begin_11 : decode mMd_begin.2.2.2.1 11 = .ok ((.putfield 213), 3) := by decide +kernel
theorem dMd_begin_14 : decode mMd_begin.2.2.2.1 14 = .ok ((.aload_n 0), 1) := by decide +kernel
theorem dMd_begin_15 : decode mMd_begin.2.2.2.1 15 = .ok ((.iconst (0)), 1) := by decide +kernel
theorem dMd_begin_16 : decode mMd_begin.2.2.2.1 16 = .ok ((.putfield 216), 3) := by decide +kernel
theorem dMd_begin_19 : decode mMd_begin.2.2.2.1 19 = .ok ((.iconst (1)), 1) := by decide +kernel
theorem dMd_begin_20 : decode mMd_begin.2.2.2.1 20 = .ok (.ireturn, 1) := by decide +kernel
theorem dMd_changeOf_0 : decode mMd_changeOf.2.2.2.1 0 = .ok ((.iconst (0)), 1) := by decide +kernel
theorem dMd_changeOf_1 : decode mMd_changeOf.2.2.2.1 1 = .ok ((.istore_n 3), 1) := by decide +kernel
theorem dMd_changeOf_2 : decode mMd_changeOf.2.2.2.1 2 = .ok ((.iload_n 3), 1) := by decide +kernel
theorem dMd_changeOf_3 : decode mMd_changeOf.2.2.2.1 3 = .ok ((.aload_n 0), 1) := by decide +kernel
theorem dMd_changeOf_4 : decode mMd_changeOf.2.2.2.1 4 = .ok ((.getfield 216), 3) := by decide +kernel
theorem dMd_changeOf_7 : decode mMd_changeOf.2.2.2.1 7 = .ok ((.if_icmp .ge (22)), 3) := by decide +kernel
theorem dMd_changeOf_10 : decode mMd_changeOf.2.2.2.1 10 = .ok ((.aload_n 0), 1) := by decide +kernel
theorem dMd_changeOf_11 : decode mMd_changeOf.2.2.2.1 11 = .ok ((.getfield 17), 3) := by decide +kernel
theorem dMd_changeOf_14 : decode mMd_changeOf.2.2.2.1 14 = .ok ((.iload_n 3), 1) := by decide +kernel
theorem dMd_changeOf_15 : decode mMd_changeOf.2.2.2.1 15 = .ok (.laload, 1) := by decide +kernel
theorem dMd_changeOf_16 : decode mMd_changeOf.2.2.2.1 16 = .ok ((.lload_n 1), 1) := by decide +kernel
theorem dMd_changeOf_17 : decode mMd_changeOf.2.2.2.1 17 = .ok (.lcmp, 1) := by decide +kernel
theorem dMd_changeOf_18 : decode mMd_changeOf.2.2.2.1 18 = .ok ((.ifCond .ne (5)), 3) := by decide +kernel
theorem dMd_changeOf_21 : decode mMd_changeOf.2.2.2.1 21 = .ok ((.iload_n 3), 1) := by decide +kernel
theorem dMd_changeOf_22 : decode mMd_changeOf.2.2.2.1 22 = .ok (.ireturn, 1) := by decide +kernel
theorem dMd_changeOf_23 : decode mMd_changeOf.2.2.2.1 23 = .ok ((.iinc 3 (1)), 3) := by decide +kernel
theorem dMd_changeOf_26 : decode mMd_changeOf.2.2.2.1 26 = .ok ((.goto (-24)), 3) := by decide +kernel
theorem dMd_changeOf_29 : decode mMd_changeOf.2.2.2.1 29 = .ok ((.iconst (-1)), 1) := by decide +kernel
theorem dMd_changeOf_30 : decode mMd_changeOf.2.2.2.1 30 = .ok (.ireturn, 1) := by decide +kernel
