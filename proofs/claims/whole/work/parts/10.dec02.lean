theorem dMd_takeName_0 : decode mMd_takeName.2.2.2.1 0 = .ok ((.iload_n 3), 1) := by decide +kernel
theorem dMd_takeName_1 : decode mMd_takeName.2.2.2.1 1 = .ok ((.bipush (12)), 2) := by decide +kernel
theorem dMd_takeName_3 : decode mMd_takeName.2.2.2.1 3 = .ok ((.if_icmp .gt (19)), 3) := by decide +kernel
theorem dMd_takeName_6 : decode mMd_takeName.2.2.2.1 6 = .ok ((.iload 4), 2) := by decide +kernel
theorem dMd_takeName_8 : decode mMd_takeName.2.2.2.1 8 = .ok ((.bipush (12)), 2) := by decide +kernel
theorem dMd_takeName_10 : decode mMd_takeName.2.2.2.1 10 = .ok ((.if_icmp .gt (12)), 3) := by decide +kernel
theorem dMd_takeName_13 : decode mMd_takeName.2.2.2.1 13 = .ok ((.iload_n 3), 1) := by decide +kernel
theorem dMd_takeName_14 : decode mMd_takeName.2.2.2.1 14 = .ok ((.iload 4), 2) := by decide +kernel
theorem dMd_takeName_16 : decode mMd_takeName.2.2.2.1 16 = .ok (.iadd, 1) := by decide +kernel
theorem dMd_takeName_17 : decode mMd_takeName.2.2.2.1 17 = .ok ((.bipush (12)), 2) := by decide +kernel
theorem dMd_takeName_19 : decode mMd_takeName.2.2.2.1 19 = .ok ((.if_icmp .le (10)), 3) := by decide +kernel
theorem dMd_takeName_22 : decode mMd_takeName.2.2.2.1 22 = .ok ((.aload_n 0), 1) := by decide +kernel
theorem dMd_takeName_23 : decode mMd_takeName.2.2.2.1 23 = .ok ((.iconst (1)), 1) := by decide +kernel
theorem dMd_takeName_24 : decode mMd_takeName.2.2.2.1 24 = .ok ((.putfield 87), 3) := by decide +kernel
theorem dMd_takeName_27 : decode mMd_takeName.2.2.2.1 27 = .ok ((.lconst 0), 1) := by decide +kernel
theorem dMd_takeName_28 : decode mMd_takeName.2.2.2.1 28 = .ok (.lreturn, 1) := by decide +kernel
theorem dMd_takeName_29 : decode mMd_takeName.2.2.2.1 29 = .ok ((.lload_n 1), 1) := by decide +kernel
theorem dMd_takeName_30 : decode mMd_takeName.2.2.2.1 30 = .ok ((.iload_n 3), 1) := by decide +kernel
theorem dMd_takeName_31 : decode mMd_takeName.2.2.2.1 31 = .ok ((.invokestatic 95), 3) := by decide +kernel
theorem dMd_takeName_34 : decode mMd_takeName.2.2.2.1 34 = .ok ((.lstore 5), 2) := by decide +kernel
theorem dMd_takeName_36 : decode mMd_takeName.2.2.2.1 36 = .ok ((.iload_n 3), 1) := by decide +kernel
theorem dMd_takeName_37 : decode mMd_takeName.2.2.2.1 37 = .ok ((.istore 7), 2) := by decide +kernel
theorem dMd_takeName_39 : decode mMd_takeName.2.2.2.1 39 = .ok ((.iload 7), 2) := by decide +kernel
theorem dMd_takeName_41 : decode mMd_takeName.2.2.2.1 41 = .ok ((.iload_n 3), 1) := by decide +kernel
theorem dMd_takeName_42 : decode mMd_takeName.2.2.2.1 42 = .ok ((.iload 4), 2) := by decide +kernel
theorem dMd_takeName_44 : decode mMd_takeName.2.2.2.1 44 = .ok (.iadd, 1) := by decide +kernel
theorem dMd_takeName_45 : decode mMd_takeName.2.2.2.1 45 = .ok ((.if_icmp .ge (60)), 3) := by decide +kernel
theorem dMd_takeName_48 : decode mMd_takeName.2.2.2.1 48 = .ok ((.aload_n 0), 1) := by decide +kernel
theorem dMd_takeName_49 : decode mMd_takeName.2.2.2.1 49 = .ok ((.invokevirtual 91), 3) := by decide +kernel
theorem dMd_takeName_52 : decode mMd_takeName.2.2.2.1 52 = .ok ((.istore 8), 2) := by decide +kernel
theorem dMd_takeName_54 : decode mMd_takeName.2.2.2.1 54 = .ok ((.aload_n 0), 1) := by decide +kernel
theorem dMd_takeName_55 : decode mMd_takeName.2.2.2.1 55 = .ok ((.aload_n 0), 1) := by decide +kernel
theorem dMd_takeName_56 : decode mMd_takeName.2.2.2.1 56 = .ok ((.getfield 87), 3) := by decide +kernel
theorem dMd_takeName_59 : decode mMd_takeName.2.2.2.1 59 = .ok ((.ifCond .ne (16)), 3) := by decide +kernel
theorem dMd_takeName_62 : decode mMd_takeName.2.2.2.1 62 = .ok ((.iload 8), 2) := by decide +kernel
theorem dMd_takeName_64 : decode mMd_takeName.2.2.2.1 64 = .ok ((.iconst (1)), 1) := by decide +kernel
theorem dMd_takeName_65 : decode mMd_takeName.2.2.2.1 65 = .ok ((.if_icmp .lt (10)), 3) := by decide +kernel
theorem dMd_takeName_68 : decode mMd_takeName.2.2.2.1 68 = .ok ((.iload 8), 2) := by decide +kernel
theorem dMd_takeName_70 : decode mMd_takeName.2.2.2.1 70 = .ok ((.bipush (31)), 2) := by decide +kernel
theorem dMd_takeName_72 : decode mMd_takeName.2.2.2.1 72 = .ok ((.if_icmp .le (7)), 3) := by decide +kernel
theorem dMd_takeName_75 : decode mMd_takeName.2.2.2.1 75 = .ok ((.iconst (1)), 1) := by decide +kernel
theorem dMd_takeName_76 : decode mMd_takeName.2.2.2.1 76 = .ok ((.goto (4)), 3) := by decide +kernel
theorem dMd_takeName_79 : decode mMd_takeName.2.2.2.1 79 = .ok ((.iconst (0)), 1) := by decide +kernel
theorem dMd_takeName_80 : decode mMd_takeName.2.2.2.1 80 = .ok ((.putfield 87), 3) := by decide +kernel
theorem dMd_takeName_83 : decode mMd_takeName.2.2.2.1 83 = .ok ((.lload 5), 2) := by decide +kernel
theorem dMd_takeName_85 : decode mMd_takeName.2.2.2.1 85 = .ok ((.iload 8), 2) := by decide +kernel
theorem dMd_takeName_87 : decode mMd_takeName.2.2.2.1 87 = .ok ((.bipush (31)), 2) := by decide +kernel
theorem dMd_takeName_89 : decode mMd_takeName.2.2.2.1 89 = .ok (.iand, 1) := by decide +kernel
theorem dMd_takeName_90 : decode mMd_takeName.2.2.2.1 90 = .ok (.i2l, 1) := by decide +kernel
theorem dMd_takeName_91 : decode mMd_takeName.2.2.2.1 91 = .ok ((.iconst (5)), 1) := by decide +kernel
theorem dMd_takeName_92 : decode mMd_takeName.2.2.2.1 92 = .ok ((.iload 7), 2) := by decide +kernel
theorem dMd_takeName_94 : decode mMd_takeName.2.2.2.1 94 = .ok (.imul, 1) := by decide +kernel
theorem dMd_takeName_95 : decode mMd_takeName.2.2.2.1 95 = .ok (.lshl, 1) := by decide +kernel
theorem dMd_takeName_96 : decode mMd_takeName.2.2.2.1 96 = .ok (.lor, 1) := by decide +kernel
theorem dMd_takeName_97 : decode mMd_takeName.2.2.2.1 97 = .ok ((.lstore 5), 2) := by decide +kernel
theorem dMd_takeName_99 : decode mMd_takeName.2.2.2.1 99 = .ok ((.iinc 7 (1)), 3) := by decide +kernel
theorem dMd_takeName_102 : decode mMd_takeName.2.2.2.1 102 = .ok ((.goto (-63)), 3) := by decide +kernel
theorem dMd_takeName_105 : decode mMd_takeName.2.2.2.1 105 = .ok ((.lload 5), 2) := by decide +kernel
theorem dMd_takeName_107 : decode mMd_takeName.2.2.2.1 107 = .ok (.lreturn, 1) := by decide +kernel
theorem dMd_shifted_0 : decode mMd_shifted.2.2.2.1 0 = .ok ((.iload_n 0), 1) := by decide +kernel
theorem dMd_shifted_1 : decode mMd_shifted.2.2.2.1 1 = .ok ((.istore_n 1), 1) := by decide +kernel
theorem dMd_shifted_2 : decode mMd_shifted.2.2.2.1 2 = .ok ((.iconst (0)), 1) := by decide +kernel
theorem dMd_shifted_3 : decode mMd_shifted.2.2.2.1 3 = .ok ((.istore_n 2), 1) := by decide +kernel
theorem dMd_shifted_4 : decode mMd_shifted.2.2.2.1 4 = .ok ((.iload_n 2), 1) := by decide +kernel
theorem dMd_shifted_5 : decode mMd_shifted.2.2.2.1 5 = .ok ((.bipush (8)), 2) := by decide +kernel
theorem dMd_shifted_7 : decode mMd_shifted.2.2.2.1 7 = .ok ((.if_icmp .ge (33)), 3) := by decide +kernel
theorem dMd_shifted_10 : decode mMd_shifted.2.2.2.1 10 = .ok ((.iload_n 1), 1) := by decide +kernel
theorem dMd_shifted_11 : decode mMd_shifted.2.2.2.1 11 = .ok ((.ldc 99), 2) := by decide +kernel
theorem dMd_shifted_13 : decode mMd_shifted.2.2.2.1 13 = .ok (.iand, 1) := by decide +kernel
theorem dMd_shifted_14 : decode mMd_shifted.2.2.2.1 14 = .ok ((.ifCond .eq (16)), 3) := by decide +kernel
theorem dMd_shifted_17 : decode mMd_shifted.2.2.2.1 17 = .ok ((.iload_n 1), 1) := by decide +kernel
theorem dMd_shifted_18 : decode mMd_shifted.2.2.2.1 18 = .ok ((.iconst (1)), 1) := by decide +kernel
theorem dMd_shifted_19 : decode mMd_shifted.2.2.2.1 19 = .ok (.ishl, 1) := by decide +kernel
theorem dMd_shifted_20 : decode mMd_shifted.2.2.2.1 20 = .ok ((.ldc 100), 2) := by decide +kernel
theorem dMd_shifted_22 : decode mMd_shifted.2.2.2.1 22 = .ok (.iand, 1) := by decide +kernel
theorem dMd_shifted_23 : decode mMd_shifted.2.2.2.1 23 = .ok ((.sipush (4129)), 3) := by decide +kernel
theorem dMd_shifted_26 : decode mMd_shifted.2.2.2.1 26 = .ok (.ixor, 1) := by decide +kernel
theorem dMd_shifted_27 : decode mMd_shifted.2.2.2.1 27 = .ok ((.goto (6)), 3) := by decide +kernel
theorem dMd_shifted_30 : decode mMd_shifted.2.2.2.1 30 = .ok ((.iload_n 1), 1) := by decide +kernel
theorem dMd_shifted_31 : decode mMd_shifted.2.2.2.1 31 = .ok ((.iconst (1)), 1) := by decide +kernel
theorem dMd_shifted_32 : decode mMd_shifted.2.2.2.1 32 = .ok (.ishl, 1) := by decide +kernel
theorem dMd_shifted_33 : decode mMd_shifted.2.2.2.1 33 = .ok ((.istore_n 1), 1) := by decide +kernel
theorem dMd_shifted_34 : decode mMd_shifted.2.2.2.1 34 = .ok ((.iinc 2 (1)), 3) := by decide +kernel
theorem dMd_shifted_37 : decode mMd_shifted.2.2.2.1 37 = .ok ((.goto (-33)), 3) := by decide +kernel
theorem dMd_shifted_40 : decode mMd_shifted.2.2.2.1 40 = .ok ((.iload_n 1), 1) := by decide +kernel
theorem dMd_shifted_41 : decode mMd_shifted.2.2.2.1 41 = .ok (.ireturn, 1) := by decide +kernel
theorem dMd_check_0 : decode mMd_check.2.2.2.1 0 = .ok ((.ldc 100), 2) := by decide +kernel
theorem dMd_check_2 : decode mMd_check.2.2.2.1 2 = .ok ((.istore_n 3), 1) := by decide +kernel
theorem dMd_check_3 : decode mMd_check.2.2.2.1 3 = .ok ((.iconst (0)), 1) := by decide +kernel
theorem dMd_check_4 : decode mMd_check.2.2.2.1 4 = .ok ((.istore 4), 2) := by decide +kernel
theorem dMd_check_6 : decode mMd_check.2.2.2.1 6 = .ok ((.iload 4), 2) := by decide +kernel
theorem dMd_check_8 : decode mMd_check.2.2.2.1 8 = .ok ((.iload_n 2), 1) := by decide +kernel
theorem dMd_check_9 : decode mMd_check.2.2.2.1 9 = .ok ((.if_icmp .ge (35)), 3) := by decide +kernel
theorem dMd_check_12 : decode mMd_check.2.2.2.1 12 = .ok ((.iload_n 3), 1) := by decide +kernel
theorem dMd_check_13 : decode mMd_check.2.2.2.1 13 = .ok ((.aload_n 0), 1) := by decide +kernel
theorem dMd_check_14 : decode mMd_check.2.2.2.1 14 = .ok ((.getfield 7), 3) := by decide +kernel
theorem dMd_check_17 : decode mMd_check.2.2.2.1 17 = .ok ((.sipush (1200)), 3) := by decide +kernel
theorem dMd_check_20 : decode mMd_check.2.2.2.1 20 = .ok ((.iload_n 1), 1) := by decide +kernel
theorem dMd_check_21 : decode mMd_check.2.2.2.1 21 = .ok (.imul, 1) := by decide +kernel
theorem dMd_check_22 : decode mMd_check.2.2.2.1 22 = .ok ((.iload 4), 2) := by decide +kernel
theorem dMd_check_24 : decode mMd_check.2.2.2.1 24 = .ok (.iadd, 1) := by decide +kernel
theorem dMd_check_25 : decode mMd_check.2.2.2.1 25 = .ok (.baload, 1) := by decide +kernel
theorem dMd_check_26 : decode mMd_check.2.2.2.1 26 = .ok ((.sipush (255)), 3) := by decide +kernel
theorem dMd_check_29 : decode mMd_check.2.2.2.1 29 = .ok (.iand, 1) := by decide +kernel
theorem dMd_check_30 : decode mMd_check.2.2.2.1 30 = .ok ((.bipush (8)), 2) := by decide +kernel
theorem dMd_check_32 : decode mMd_check.2.2.2.1 32 = .ok (.ishl, 1) := by decide +kernel
theorem dMd_check_33 : decode mMd_check.2.2.2.1 33 = .ok (.ixor, 1) := by decide +kernel
theorem dMd_check_34 : decode mMd_check.2.2.2.1 34 = .ok ((.invokestatic 101), 3) := by decide +kernel
theorem dMd_check_37 : decode mMd_check.2.2.2.1 37 = .ok ((.istore_n 3), 1) := by decide +kernel
theorem dMd_check_38 : decode mMd_check.2.2.2.1 38 = .ok ((.iinc 4 (1)), 3) := by decide +kernel
theorem dMd_check_41 : decode mMd_check.2.2.2.1 41 = .ok ((.goto (-35)), 3) := by decide +kernel
theorem dMd_check_44 : decode mMd_check.2.2.2.1 44 = .ok ((.iload_n 3), 1) := by decide +kernel
theorem dMd_check_45 : decode mMd_check.2.2.2.1 45 = .ok (.ireturn, 1) := by decide +kernel
theorem dMd_read_0 : decode mMd_read.2.2.2.1 0 = .ok ((.aload_n 0), 1) := by decide +kernel
theorem dMd_read_1 : decode mMd_read.2.2.2.1 1 = .ok ((.getfield 13), 3) := by decide +kernel
theorem dMd_read_4 : decode mMd_read.2.2.2.1 4 = .ok ((.iload_n 1), 1) := by decide +kernel
theorem dMd_read_5 : decode mMd_read.2.2.2.1 5 = .ok (.iaload, 1) := by decide +kernel
theorem dMd_read_6 : decode mMd_read.2.2.2.1 6 = .ok ((.istore_n 2), 1) := by decide +kernel
theorem dMd_read_7 : decode mMd_read.2.2.2.1 7 = .ok ((.aload_n 0), 1) := by decide +kernel
theorem dMd_read_8 : decode mMd_read.2.2.2.1 8 = .ok ((.sipush (1200)), 3) := by decide +kernel
theorem dMd_read_11 : decode mMd_read.2.2.2.1 11 = .ok ((.iload_n 1), 1) := by decide +kernel
theorem dMd_read_12 : decode mMd_read.2.2.2.1 12 = .ok (.imul, 1) := by decide +kernel
theorem dMd_read_13 : decode mMd_read.2.2.2.1 13 = .ok ((.putfield 80), 3) := by decide +kernel
theorem dMd_read_16 : decode mMd_read.2.2.2.1 16 = .ok ((.aload_n 0), 1) := by decide +kernel
theorem dMd_read_17 : decode mMd_read.2.2.2.1 17 = .ok ((.aload_n 0), 1) := by decide +kernel
theorem dMd_read_18 : decode mMd_read.2.2.2.1 18 = .ok ((.getfield 80), 3) := by decide +kernel
theorem dMd_read_21 : decode mMd_read.2.2.2.1 21 = .ok ((.iload_n 2), 1) := by decide +kernel
theorem dMd_read_22 : decode mMd_read.2.2.2.1 22 = .ok (.iadd, 1) := by decide +kernel
theorem dMd_read_23 : decode mMd_read.2.2.2.1 23 = .ok ((.iconst (2)), 1) := by decide +kernel
theorem dMd_read_24 : decode mMd_read.2.2.2.1 24 = .ok (.isub, 1) := by decide +kernel
theorem dMd_read_25 : decode mMd_read.2.2.2.1 25 = .ok ((.putfield 84), 3) := by decide +kernel
theorem dMd_read_28 : decode mMd_read.2.2.2.1 28 = .ok ((.aload_n 0), 1) := by decide +kernel
theorem dMd_read_29 : decode mMd_read.2.2.2.1 29 = .ok ((.iload_n 2), 1) := by decide +kernel
theorem dMd_read_30 : decode mMd_read.2.2.2.1 30 = .ok ((.iconst (3)), 1) := by decide +kernel
theorem dMd_read_31 : decode mMd_read.2.2.2.1 31 = .ok ((.if_icmp .ge (7)), 3) := by decide +kernel
theorem dMd_read_34 : decode mMd_read.2.2.2.1 34 = .ok ((.iconst (1)), 1) := by decide +kernel
theorem dMd_read_35 : decode mMd_read.2.2.2.1 35 = .ok ((.goto (4)), 3) := by decide +kernel
theorem dMd_read_38 : decode mMd_read.2.2.2.1 38 = .ok ((.iconst (0)), 1) := by decide +kernel
theorem dMd_read_39 : decode mMd_read.2.2.2.1 39 = .ok ((.putfield 87), 3) := by decide +kernel
theorem dMd_read_42 : decode mMd_read.2.2.2.1 42 = .ok ((.aload_n 0), 1) := by decide +kernel
theorem dMd_read_43 : decode mMd_read.2.2.2.1 43 = .ok ((.getfield 87), 3) := by decide +kernel
theorem dMd_read_46 : decode mMd_read.2.2.2.1 46 = .ok ((.ifCond .ne (12)), 3) := by decide +kernel
theorem dMd_read_49 : decode mMd_read.2.2.2.1 49 = .ok ((.aload_n 0), 1) := by decide +kernel
theorem dMd_read_50 : decode mMd_read.2.2.2.1 50 = .ok ((.invokevirtual 91), 3) := by decide +kernel
theorem dMd_read_53 : decode mMd_read.2.2.2.1 53 = .ok ((.bipush (82)), 2) := by decide +kernel
theorem dMd_read_55 : decode mMd_read.2.2.2.1 55 = .ok ((.if_icmp .eq (5)), 3) := by decide +kernel
theorem dMd_read_58 : decode mMd_read.2.2.2.1 58 = .ok ((.iconst (0)), 1) := by decide +kernel
theorem dMd_read_59 : decode mMd_read.2.2.2.1 59 = .ok (.ireturn, 1) := by decide +kernel
theorem dMd_read_60 : decode mMd_read.2.2.2.1 60 = .ok ((.aload_n 0), 1) := by decide +kernel
theorem dMd_read_61 : decode mMd_read.2.2.2.1 61 = .ok ((.aload_n 0), 1) := by decide +kernel
theorem dMd_read_62 : decode mMd_read.2.2.2.1 62 = .ok ((.invokevirtual 105), 3) := by decide +kernel
theorem dMd_read_65 : decode mMd_read.2.2.2.1 65 = .ok ((.putfield 108), 3) := by decide +kernel
theorem dMd_read_68 : decode mMd_read.2.2.2.1 68 = .ok ((.aload_n 0), 1) := by decide +kernel
theorem dMd_read_69 : decode mMd_read.2.2.2.1 69 = .ok ((.aload_n 0), 1) := by decide +kernel
theorem dMd_read_70 : decode mMd_read.2.2.2.1 70 = .ok ((.invokevirtual 105), 3) := by decide +kernel
theorem dMd_read_73 : decode mMd_read.2.2.2.1 73 = .ok ((.putfield 111), 3) := by decide +kernel
theorem dMd_read_76 : decode mMd_read.2.2.2.1 76 = .ok ((.aload_n 0), 1) := by decide +kernel
theorem dMd_read_77 : decode mMd_read.2.2.2.1 77 = .ok ((.invokevirtual 105), 3) := by decide +kernel
theorem dMd_read_80 : decode mMd_read.2.2.2.1 80 = .ok ((.istore_n 3), 1) := by decide +kernel
theorem dMd_read_81 : decode mMd_read.2.2.2.1 81 = .ok ((.aload_n 0), 1) := by decide +kernel
theorem dMd_read_82 : decode mMd_read.2.2.2.1 82 = .ok ((.getfield 87), 3) := by decide +kernel
theorem dMd_read_85 : decode mMd_read.2.2.2.1 85 = .ok ((.ifCond .ne (38)), 3) := by decide +kernel
theorem dMd_read_88 : decode mMd_read.2.2.2.1 88 = .ok ((.aload_n 0), 1) := by decide +kernel
theorem dMd_read_89 : decode mMd_read.2.2.2.1 89 = .ok ((.getfield 108), 3) := by decide +kernel
theorem dMd_read_92 : decode mMd_read.2.2.2.1 92 = .ok ((.iconst (1)), 1) := by decide +kernel
theorem dMd_read_93 : decode mMd_read.2.2.2.1 93 = .ok ((.if_icmp .lt (30)), 3) := by decide +kernel
theorem dMd_read_96 : decode mMd_read.2.2.2.1 96 = .ok ((.aload_n 0), 1) := by decide +kernel
theorem dMd_read_97 : decode mMd_read.2.2.2.1 97 = .ok ((.getfield 108), 3) := by decide +kernel
theorem dMd_read_100 : decode mMd_read.2.2.2.1 100 = .ok ((.aload_n 0), 1) := by decide +kernel
theorem dMd_read_101 : decode mMd_read.2.2.2.1 101 = .ok ((.getfield 111), 3) := by decide +kernel
theorem dMd_read_104 : decode mMd_read.2.2.2.1 104 = .ok ((.if_icmp .gt (19)), 3) := by decide +kernel
theorem dMd_read_107 : decode mMd_read.2.2.2.1 107 = .ok ((.aload_n 0), 1) := by decide +kernel
theorem dMd_read_108 : decode mMd_read.2.2.2.1 108 = .ok ((.getfield 111), 3) := by decide +kernel
theorem dMd_read_111 : decode mMd_read.2.2.2.1 111 = .ok ((.sipush (2000)), 3) := by decide +kernel
theorem dMd_read_114 : decode mMd_read.2.2.2.1 114 = .ok ((.if_icmp .gt (9)), 3) := by decide +kernel
theorem dMd_read_117 : decode mMd_read.2.2.2.1 117 = .ok ((.iload_n 3), 1) := by decide +kernel
theorem dMd_read_118 : decode mMd_read.2.2.2.1 118 = .ok ((.bipush (30)), 2) := by decide +kernel
theorem dMd_read_120 : decode mMd_read.2.2.2.1 120 = .ok ((.if_icmp .le (5)), 3) := by decide +kernel
theorem dMd_read_123 : decode mMd_read.2.2.2.1 123 = .ok ((.iconst (0)), 1) := by decide +kernel
theorem dMd_read_124 : decode mMd_read.2.2.2.1 124 = .ok (.ireturn, 1) := by decide +kernel
theorem dMd_read_125 : decode mMd_read.2.2.2.1 125 = .ok ((.lconst 0), 1) := by decide +kernel
theorem dMd_read_126 : decode mMd_read.2.2.2.1 126 = .ok ((.lstore 4), 2) := by decide +kernel
theorem dMd_read_128 : decode mMd_read.2.2.2.1 128 = .ok ((.iconst (0)), 1) := by decide +kernel
theorem dMd_read_129 : decode mMd_read.2.2.2.1 129 = .ok ((.istore 6), 2) := by decide +kernel
theorem dMd_read_131 : decode mMd_read.2.2.2.1 131 = .ok ((.iload 6), 2) := by decide +kernel
theorem dMd_read_133 : decode mMd_read.2.2.2.1 133 = .ok ((.iload_n 3), 1) := by decide +kernel
theorem dMd_read_134 : decode mMd_read.2.2.2.1 134 = .ok ((.if_icmp .ge (26)), 3) := by decide +kernel
theorem dMd_read_137 : decode mMd_read.2.2.2.1 137 = .ok ((.aload_n 0), 1) := by decide +kernel
theorem dMd_read_138 : decode mMd_read.2.2.2.1 138 = .ok ((.getfield 87), 3) := by decide +kernel
theorem dMd_read_141 : decode mMd_read.2.2.2.1 141 = .ok ((.ifCond .ne (19)), 3) := by decide +kernel
theorem dMd_read_144 : decode mMd_read.2.2.2.1 144 = .ok ((.aload_n 0), 1) := by decide +kernel
theorem dMd_read_145 : decode mMd_read.2.2.2.1 145 = .ok ((.iload 6), 2) := by decide +kernel
theorem dMd_read_147 : decode mMd_read.2.2.2.1 147 = .ok ((.lload 4), 2) := by decide +kernel
theorem dMd_read_149 : decode mMd_read.2.2.2.1 149 = .ok ((.invokevirtual 114), 3) := by decide +kernel
theorem dMd_read_152 : decode mMd_read.2.2.2.1 152 = .ok ((.lstore 4), 2) := by decide +kernel
theorem dMd_read_154 : decode mMd_read.2.2.2.1 154 = .ok ((.iinc 6 (1)), 3) := by decide +kernel
theorem dMd_read_157 : decode mMd_read.2.2.2.1 157 = .ok ((.goto (-26)), 3) := by decide +kernel
theorem dMd_read_160 : decode mMd_read.2.2.2.1 160 = .ok ((.aload_n 0), 1) := by decide +kernel
theorem dMd_read_161 : decode mMd_read.2.2.2.1 161 = .ok ((.invokevirtual 105), 3) := by decide +kernel
theorem dMd_read_164 : decode mMd_read.2.2.2.1 164 = .ok ((.istore 6), 2) := by decide +kernel
theorem dMd_read_166 : decode mMd_read.2.2.2.1 166 = .ok ((.aload_n 0), 1) := by decide +kernel
theorem dMd_read_167 : decode mMd_read.2.2.2.1 167 = .ok ((.aload_n 0), 1) := by decide +kernel
theorem dMd_read_168 : decode mMd_read.2.2.2.1 168 = .ok ((.getfield 87), 3) := by decide +kernel
theorem dMd_read_171 : decode mMd_read.2.2.2.1 171 = .ok ((.ifCond .ne (10)), 3) := by decide +kernel
theorem dMd_read_174 : decode mMd_read.2.2.2.1 174 = .ok ((.iload 6), 2) := by decide +kernel
theorem dMd_read_176 : decode mMd_read.2.2.2.1 176 = .ok ((.bipush (40)), 2) := by decide +kernel
theorem dMd_read_178 : decode mMd_read.2.2.2.1 178 = .ok ((.if_icmp .le (7)), 3) := by decide +kernel
theorem dMd_read_181 : decode mMd_read.2.2.2.1 181 = .ok ((.iconst (1)), 1) := by decide +kernel
theorem dMd_read_182 : decode mMd_read.2.2.2.1 182 = .ok ((.goto (4)), 3) := by decide +kernel
theorem dMd_read_185 : decode mMd_read.2.2.2.1 185 = .ok ((.iconst (0)), 1) := by decide +kernel
theorem dMd_read_186 : decode mMd_read.2.2.2.1 186 = .ok ((.putfield 87), 3) := by decide +kernel
theorem dMd_read_189 : decode mMd_read.2.2.2.1 189 = .ok ((.lconst 0), 1) := by decide +kernel
theorem dMd_read_190 : decode mMd_read.2.2.2.1 190 = .ok ((.lstore 7), 2) := by decide +kernel
theorem dMd_read_192 : decode mMd_read.2.2.2.1 192 = .ok ((.iconst (0)), 1) := by decide +kernel
theorem dMd_read_193 : decode mMd_read.2.2.2.1 193 = .ok ((.istore 9), 2) := by decide +kernel
theorem dMd_read_195 : decode mMd_read.2.2.2.1 195 = .ok ((.iconst (0)), 1) := by decide +kernel
theorem dMd_read_196 : decode mMd_read.2.2.2.1 196 = .ok ((.istore 10), 2) := by decide +kernel
theorem dMd_read_198 : decode mMd_read.2.2.2.1 198 = .ok ((.iload 10), 2) := by decide +kernel
theorem dMd_read_200 : decode mMd_read.2.2.2.1 200 = .ok ((.iload 6), 2) := by decide +kernel
theorem dMd_read_202 : decode mMd_read.2.2.2.1 202 = .ok ((.if_icmp .ge (42)), 3) := by decide +kernel
theorem dMd_read_205 : decode mMd_read.2.2.2.1 205 = .ok ((.aload_n 0), 1) := by decide +kernel
theorem dMd_read_206 : decode mMd_read.2.2.2.1 206 = .ok ((.getfield 87), 3) := by decide +kernel
theorem dMd_read_209 : decode mMd_read.2.2.2.1 209 = .ok ((.ifCond .ne (35)), 3) := by decide +kernel
theorem dMd_read_212 : decode mMd_read.2.2.2.1 212 = .ok ((.aload_n 0), 1) := by decide +kernel
theorem dMd_read_213 : decode mMd_read.2.2.2.1 213 = .ok ((.iload_n 1), 1) := by decide +kernel
theorem dMd_read_214 : decode mMd_read.2.2.2.1 214 = .ok ((.iload 10), 2) := by decide +kernel
theorem dMd_read_216 : decode mMd_read.2.2.2.1 216 = .ok ((.lload 7), 2) := by decide +kernel
theorem dMd_read_218 : decode mMd_read.2.2.2.1 218 = .ok ((.iload 9), 2) := by decide +kernel
theorem dMd_read_220 : decode mMd_read.2.2.2.1 220 = .ok ((.invokevirtual 118), 3) := by decide +kernel
theorem dMd_read_223 : decode mMd_read.2.2.2.1 223 = .ok ((.lstore 7), 2) := by decide +kernel
theorem dMd_read_225 : decode mMd_read.2.2.2.1 225 = .ok ((.aload_n 0), 1) := by decide +kernel
theorem dMd_read_226 : decode mMd_read.2.2.2.1 226 = .ok ((.getfield 45), 3) := by decide +kernel
theorem dMd_read_229 : decode mMd_read.2.2.2.1 229 = .ok ((.aload_n 0), 1) := by decide +kernel
theorem dMd_read_230 : decode mMd_read.2.2.2.1 230 = .ok ((.getfield 122), 3) := by decide +kernel
theorem dMd_read_233 : decode mMd_read.2.2.2.1 233 = .ok ((.iconst (1)), 1) := by decide +kernel
theorem dMd_read_234 : decode mMd_read.2.2.2.1 234 = .ok (.isub, 1) := by decide +kernel
theorem dMd_read_235 : decode mMd_read.2.2.2.1 235 = .ok (.iaload, 1) := by decide +kernel
theorem dMd_read_236 : decode mMd_read.2.2.2.1 236 = .ok ((.istore 9), 2) := by decide +kernel
theorem dMd_read_238 : decode mMd_read.2.2.2.1 238 = .ok ((.iinc 10 (1)), 3) := by decide +kernel
theorem dMd_read_241 : decode mMd_read.2.2.2.1 241 = .ok ((.goto (-43)), 3) := by decide +kernel
theorem dMd_read_244 : decode mMd_read.2.2.2.1 244 = .ok ((.aload_n 0), 1) := by decide +kernel
theorem dMd_read_245 : decode mMd_read.2.2.2.1 245 = .ok ((.getfield 87), 3) := by decide +kernel
theorem dMd_read_248 : decode mMd_read.2.2.2.1 248 = .ok ((.ifCond .ne (61)), 3) := by decide +kernel
theorem dMd_read_251 : decode mMd_read.2.2.2.1 251 = .ok ((.aload_n 0), 1) := by decide +kernel
theorem dMd_read_252 : decode mMd_read.2.2.2.1 252 = .ok ((.getfield 80), 3) := by decide +kernel
theorem dMd_read_255 : decode mMd_read.2.2.2.1 255 = .ok ((.aload_n 0), 1) := by decide +kernel
theorem dMd_read_256 : decode mMd_read.2.2.2.1 256 = .ok ((.getfield 84), 3) := by decide +kernel
theorem dMd_read_259 : decode mMd_read.2.2.2.1 259 = .ok ((.if_icmp .ne (50)), 3) := by decide +kernel
theorem dMd_read_262 : decode mMd_read.2.2.2.1 262 = .ok ((.aload_n 0), 1) := by decide +kernel
theorem dMd_read_263 : decode mMd_read.2.2.2.1 263 = .ok ((.iload_n 1), 1) := by decide +kernel
theorem dMd_read_264 : decode mMd_read.2.2.2.1 264 = .ok ((.iload_n 2), 1) := by decide +kernel
theorem dMd_read_265 : decode mMd_read.2.2.2.1 265 = .ok ((.iconst (2)), 1) := by decide +kernel
theorem dMd_read_266 : decode mMd_read.2.2.2.1 266 = .ok (.isub, 1) := by decide +kernel
theorem dMd_read_267 : decode mMd_read.2.2.2.1 267 = .ok ((.invokevirtual 125), 3) := by decide +kernel
theorem dMd_read_270 : decode mMd_read.2.2.2.1 270 = .ok ((.aload_n 0), 1) := by decide +kernel
theorem dMd_read_271 : decode mMd_read.2.2.2.1 271 = .ok ((.getfield 7), 3) := by decide +kernel
theorem dMd_read_274 : decode mMd_read.2.2.2.1 274 = .ok ((.aload_n 0), 1) := by decide +kernel
theorem dMd_read_275 : decode mMd_read.2.2.2.1 275 = .ok ((.getfield 84), 3) := by decide +kernel
theorem dMd_read_278 : decode mMd_read.2.2.2.1 278 = .ok (.baload, 1) := by decide +kernel
theorem dMd_read_279 : decode mMd_read.2.2.2.1 279 = .ok ((.sipush (255)), 3) := by decide +kernel
theorem dMd_read_282 : decode mMd_read.2.2.2.1 282 = .ok (.iand, 1) := by decide +kernel
theorem dMd_read_283 : decode mMd_read.2.2.2.1 283 = .ok ((.bipush (8)), 2) := by decide +kernel
theorem dMd_read_285 : decode mMd_read.2.2.2.1 285 = .ok (.ishl, 1) := by decide +kernel
theorem dMd_read_286 : decode mMd_read.2.2.2.1 286 = .ok ((.aload_n 0), 1) := by decide +kernel
theorem dMd_read_287 : decode mMd_read.2.2.2.1 287 = .ok ((.getfield 7), 3) := by decide +kernel
theorem dMd_read_290 : decode mMd_read.2.2.2.1 290 = .ok ((.aload_n 0), 1) := by decide +kernel
theorem dMd_read_291 : decode mMd_read.2.2.2.1 291 = .ok ((.getfield 84), 3) := by decide +kernel
theorem dMd_read_294 : decode mMd_read.2.2.2.1 294 = .ok ((.iconst (1)), 1) := by decide +kernel
theorem dMd_read_295 : decode mMd_read.2.2.2.1 295 = .ok (.iadd, 1) := by decide +kernel
theorem dMd_read_296 : decode mMd_read.2.2.2.1 296 = .ok (.baload, 1) := by decide +kernel
theorem dMd_read_297 : decode mMd_read.2.2.2.1 297 = .ok ((.sipush (255)), 3) := by decide +kernel
theorem dMd_read_300 : decode mMd_read.2.2.2.1 300 = .ok (.iand, 1) := by decide +kernel
theorem dMd_read_301 : decode mMd_read.2.2.2.1 301 = .ok (.ior, 1) := by decide +kernel
theorem dMd_read_302 : decode mMd_read.2.2.2.1 302 = .ok ((.if_icmp .ne (7)), 3) := by decide +kernel
theorem dMd_read_305 : decode mMd_read.2.2.2.1 305 = .ok ((.iconst (1)), 1) := by decide +kernel
theorem dMd_read_306 : decode mMd_read.2.2.2.1 306 = .ok ((.goto (4)), 3) := by decide +kernel
theorem dMd_read_309 : decode mMd_read.2.2.2.1 309 = .ok ((.iconst (0)), 1) := by decide +kernel
theorem dMd_read_310 : decode mMd_read.2.2.2.1 310 = .ok (.ireturn, 1) := by decide +kernel
theorem dMd_takeRecord_0 : decode mMd_takeRecord.2.2.2.1 0 = .ok ((.aload_n 0), 1) := by decide +kernel
theorem dMd_takeRecord_1 : decode mMd_takeRecord.2.2.2.1 1 = .ok ((.invokevirtual 105), 3) := by decide +kernel
theorem dMd_takeRecord_4 : decode mMd_takeRecord.2.2.2.1 4 = .ok ((.istore 4), 2) := by decide +kernel
theorem dMd_takeRecord_6 : decode mMd_takeRecord.2.2.2.1 6 = .ok ((.aload_n 0), 1) := by decide +kernel
theorem dMd_takeRecord_7 : decode mMd_takeRecord.2.2.2.1 7 = .ok ((.invokevirtual 105), 3) := by decide +kernel
theorem dMd_takeRecord_10 : decode mMd_takeRecord.2.2.2.1 10 = .ok ((.istore 5), 2) := by decide +kernel
theorem dMd_takeRecord_12 : decode mMd_takeRecord.2.2.2.1 12 = .ok ((.aload_n 0), 1) := by decide +kernel
theorem dMd_takeRecord_13 : decode mMd_takeRecord.2.2.2.1 13 = .ok ((.lload_n 2), 1) := by decide +kernel
theorem dMd_takeRecord_14 : decode mMd_takeRecord.2.2.2.1 14 = .ok ((.iload 4), 2) := by decide +kernel
theorem dMd_takeRecord_16 : decode mMd_takeRecord.2.2.2.1 16 = .ok ((.iload 5), 2) := by decide +kernel
theorem dMd_takeRecord_18 : decode mMd_takeRecord.2.2.2.1 18 = .ok ((.iconst (4)), 1) := by decide +kernel
theorem dMd_takeRecord_19 : decode mMd_takeRecord.2.2.2.1 19 = .ok (.idiv, 1) := by decide +kernel
theorem dMd_takeRecord_20 : decode mMd_takeRecord.2.2.2.1 20 = .ok ((.invokevirtual 129), 3) := by decide +kernel
theorem dMd_takeRecord_23 : decode mMd_takeRecord.2.2.2.1 23 = .ok ((.lstore 6), 2) := by decide +kernel
theorem dMd_takeRecord_25 : decode mMd_takeRecord.2.2.2.1 25 = .ok ((.aload_n 0), 1) := by decide +kernel
theorem dMd_takeRecord_26 : decode mMd_takeRecord.2.2.2.1 26 = .ok ((.aload_n 0), 1) := by decide +kernel
theorem dMd_takeRecord_27 : decode mMd_takeRecord.2.2.2.1 27 = .ok ((.getfield 87), 3) := by decide +kernel
theorem dMd_takeRecord_30 : decode mMd_takeRecord.2.2.2.1 30 = .ok ((.ifCond .ne (30)), 3) := by decide +kernel
theorem dMd_takeRecord_33 : decode mMd_takeRecord.2.2.2.1 33 = .ok ((.iload 5), 2) := by decide +kernel
theorem dMd_takeRecord_35 : decode mMd_takeRecord.2.2.2.1 35 = .ok ((.iconst (4)), 1) := by decide +kernel
theorem dMd_takeRecord_36 : decode mMd_takeRecord.2.2.2.1 36 = .ok ((.if_icmp .lt (24)), 3) := by decide +kernel
theorem dMd_takeRecord_39 : decode mMd_takeRecord.2.2.2.1 39 = .ok ((.iload 4), 2) := by decide +kernel
theorem dMd_takeRecord_41 : decode mMd_takeRecord.2.2.2.1 41 = .ok ((.iload_n 1), 1) := by decide +kernel
theorem dMd_takeRecord_42 : decode mMd_takeRecord.2.2.2.1 42 = .ok ((.iconst (4)), 1) := by decide +kernel
theorem dMd_takeRecord_43 : decode mMd_takeRecord.2.2.2.1 43 = .ok (.irem, 1) := by decide +kernel
theorem dMd_takeRecord_44 : decode mMd_takeRecord.2.2.2.1 44 = .ok ((.ifCond .ne (7)), 3) := by decide +kernel
theorem dMd_takeRecord_47 : decode mMd_takeRecord.2.2.2.1 47 = .ok ((.iconst (0)), 1) := by decide +kernel
theorem dMd_takeRecord_48 : decode mMd_takeRecord.2.2.2.1 48 = .ok ((.goto (9)), 3) := by decide +kernel
theorem dMd_takeRecord_51 : decode mMd_takeRecord.2.2.2.1 51 = .ok ((.lload_n 2), 1) := by decide +kernel
theorem dMd_takeRecord_52 : decode mMd_takeRecord.2.2.2.1 52 = .ok ((.lload 6), 2) := by decide +kernel
theorem dMd_takeRecord_54 : decode mMd_takeRecord.2.2.2.1 54 = .ok ((.invokestatic 72), 3) := by decide +kernel
theorem dMd_takeRecord_57 : decode mMd_takeRecord.2.2.2.1 57 = .ok ((.if_icmp .eq (7)), 3) := by decide +kernel
theorem dMd_takeRecord_60 : decode mMd_takeRecord.2.2.2.1 60 = .ok ((.iconst (1)), 1) := by decide +kernel
theorem dMd_takeRecord_61 : decode mMd_takeRecord.2.2.2.1 61 = .ok ((.goto (4)), 3) := by decide +kernel
theorem dMd_takeRecord_64 : decode mMd_takeRecord.2.2.2.1 64 = .ok ((.iconst (0)), 1) := by decide +kernel
theorem dMd_takeRecord_65 : decode mMd_takeRecord.2.2.2.1 65 = .ok ((.putfield 87), 3) := by decide +kernel
theorem dMd_takeRecord_68 : decode mMd_takeRecord.2.2.2.1 68 = .ok ((.aload_n 0), 1) := by decide +kernel
theorem dMd_takeRecord_69 : decode mMd_takeRecord.2.2.2.1 69 = .ok ((.getfield 108), 3) := by decide +kernel
theorem dMd_takeRecord_72 : decode mMd_takeRecord.2.2.2.1 72 = .ok ((.aload_n 0), 1) := by decide +kernel
theorem dMd_takeRecord_73 : decode mMd_takeRecord.2.2.2.1 73 = .ok ((.invokevirtual 105), 3) := by decide +kernel
theorem dMd_takeRecord_76 : decode mMd_takeRecord.2.2.2.1 76 = .ok (.iadd, 1) := by decide +kernel
theorem dMd_takeRecord_77 : decode mMd_takeRecord.2.2.2.1 77 = .ok ((.istore 8), 2) := by decide +kernel
theorem dMd_takeRecord_79 : decode mMd_takeRecord.2.2.2.1 79 = .ok ((.iload 5), 2) := by decide +kernel
theorem dMd_takeRecord_81 : decode mMd_takeRecord.2.2.2.1 81 = .ok ((.iconst (4)), 1) := by decide +kernel
theorem dMd_takeRecord_82 : decode mMd_takeRecord.2.2.2.1 82 = .ok (.irem, 1) := by decide +kernel
theorem dMd_takeRecord_83 : decode mMd_takeRecord.2.2.2.1 83 = .ok ((.istore 9), 2) := by decide +kernel
theorem dMd_takeRecord_85 : decode mMd_takeRecord.2.2.2.1 85 = .ok ((.lconst 0), 1) := by decide +kernel
theorem dMd_takeRecord_86 : decode mMd_takeRecord.2.2.2.1 86 = .ok ((.lstore 10), 2) := by decide +kernel
theorem dMd_takeRecord_88 : decode mMd_takeRecord.2.2.2.1 88 = .ok ((.iload 9), 2) := by decide +kernel
theorem dMd_takeRecord_90 : decode mMd_takeRecord.2.2.2.1 90 = .ok ((.iconst (1)), 1) := by decide +kernel
theorem dMd_takeRecord_91 : decode mMd_takeRecord.2.2.2.1 91 = .ok ((.if_icmp .ne (41)), 3) := by decide +kernel
theorem dMd_takeRecord_94 : decode mMd_takeRecord.2.2.2.1 94 = .ok ((.aload_n 0), 1) := by decide +kernel
theorem dMd_takeRecord_95 : decode mMd_takeRecord.2.2.2.1 95 = .ok ((.invokevirtual 105), 3) := by decide +kernel
theorem dMd_takeRecord_98 : decode mMd_takeRecord.2.2.2.1 98 = .ok ((.istore 12), 2) := by decide +kernel
theorem dMd_takeRecord_100 : decode mMd_takeRecord.2.2.2.1 100 = .ok ((.aload_n 0), 1) := by decide +kernel
theorem dMd_takeRecord_101 : decode mMd_takeRecord.2.2.2.1 101 = .ok ((.aload_n 0), 1) := by decide +kernel
theorem dMd_takeRecord_102 : decode mMd_takeRecord.2.2.2.1 102 = .ok ((.getfield 87), 3) := by decide +kernel
theorem dMd_takeRecord_105 : decode mMd_takeRecord.2.2.2.1 105 = .ok ((.ifCond .ne (14)), 3) := by decide +kernel
theorem dMd_takeRecord_108 : decode mMd_takeRecord.2.2.2.1 108 = .ok ((.iload 12), 2) := by decide +kernel
theorem dMd_takeRecord_110 : decode mMd_takeRecord.2.2.2.1 110 = .ok ((.iconst (1)), 1) := by decide +kernel
theorem dMd_takeRecord_111 : decode mMd_takeRecord.2.2.2.1 111 = .ok ((.ldc 100), 2) := by decide +kernel
theorem dMd_takeRecord_113 : decode mMd_takeRecord.2.2.2.1 113 = .ok ((.invokestatic 133), 3) := by decide +kernel
theorem dMd_takeRecord_116 : decode mMd_takeRecord.2.2.2.1 116 = .ok ((.ifCond .ne (7)), 3) := by decide +kernel
theorem dMd_takeRecord_119 : decode mMd_takeRecord.2.2.2.1 119 = .ok ((.iconst (1)), 1) := by decide +kernel
theorem dMd_takeRecord_120 : decode mMd_takeRecord.2.2.2.1 120 = .ok ((.goto (4)), 3) := by decide +kernel
theorem dMd_takeRecord_123 : decode mMd_takeRecord.2.2.2.1 123 = .ok ((.iconst (0)), 1) := by decide +kernel
theorem dMd_takeRecord_124 : decode mMd_takeRecord.2.2.2.1 124 = .ok ((.putfield 87), 3) := by decide +kernel
theorem dMd_takeRecord_127 : decode mMd_takeRecord.2.2.2.1 127 = .ok ((.iload 12), 2) := by decide +kernel
theorem dMd_takeRecord_129 : decode mMd_takeRecord.2.2.2.1 129 = .ok (.i2l, 1) := by decide +kernel
theorem dMd_takeRecord_130 : decode mMd_takeRecord.2.2.2.1 130 = .ok ((.lstore 10), 2) := by decide +kernel
theorem dMd_takeRecord_132 : decode mMd_takeRecord.2.2.2.1 132 = .ok ((.iload 9), 2) := by decide +kernel
theorem dMd_takeRecord_134 : decode mMd_takeRecord.2.2.2.1 134 = .ok ((.iconst (2)), 1) := by decide +kernel
theorem dMd_takeRecord_135 : decode mMd_takeRecord.2.2.2.1 135 = .ok ((.if_icmp .ne (43)), 3) := by decide +kernel
theorem dMd_takeRecord_138 : decode mMd_takeRecord.2.2.2.1 138 = .ok ((.aload_n 0), 1) := by decide +kernel
theorem dMd_takeRecord_139 : decode mMd_takeRecord.2.2.2.1 139 = .ok ((.invokevirtual 105), 3) := by decide +kernel
theorem dMd_takeRecord_142 : decode mMd_takeRecord.2.2.2.1 142 = .ok ((.istore 12), 2) := by decide +kernel
theorem dMd_takeRecord_144 : decode mMd_takeRecord.2.2.2.1 144 = .ok ((.aload_n 0), 1) := by decide +kernel
theorem dMd_takeRecord_145 : decode mMd_takeRecord.2.2.2.1 145 = .ok ((.lconst 0), 1) := by decide +kernel
theorem dMd_takeRecord_146 : decode mMd_takeRecord.2.2.2.1 146 = .ok ((.iconst (0)), 1) := by decide +kernel
theorem dMd_takeRecord_147 : decode mMd_takeRecord.2.2.2.1 147 = .ok ((.iload 12), 2) := by decide +kernel
theorem dMd_takeRecord_149 : decode mMd_takeRecord.2.2.2.1 149 = .ok ((.invokevirtual 129), 3) := by decide +kernel
theorem dMd_takeRecord_152 : decode mMd_takeRecord.2.2.2.1 152 = .ok ((.lstore 10), 2) := by decide +kernel
theorem dMd_takeRecord_154 : decode mMd_takeRecord.2.2.2.1 154 = .ok ((.aload_n 0), 1) := by decide +kernel
theorem dMd_takeRecord_155 : decode mMd_takeRecord.2.2.2.1 155 = .ok ((.aload_n 0), 1) := by decide +kernel
theorem dMd_takeRecord_156 : decode mMd_takeRecord.2.2.2.1 156 = .ok ((.getfield 87), 3) := by decide +kernel
theorem dMd_takeRecord_159 : decode mMd_takeRecord.2.2.2.1 159 = .ok ((.ifCond .ne (11)), 3) := by decide +kernel
theorem dMd_takeRecord_162 : decode mMd_takeRecord.2.2.2.1 162 = .ok ((.lload 10), 2) := by decide +kernel
theorem dMd_takeRecord_164 : decode mMd_takeRecord.2.2.2.1 164 = .ok ((.invokestatic 137), 3) := by decide +kernel
theorem dMd_takeRecord_167 : decode mMd_takeRecord.2.2.2.1 167 = .ok ((.ifCond .ne (7)), 3) := by decide +kernel
theorem dMd_takeRecord_170 : decode mMd_takeRecord.2.2.2.1 170 = .ok ((.iconst (1)), 1) := by decide +kernel
theorem dMd_takeRecord_171 : decode mMd_takeRecord.2.2.2.1 171 = .ok ((.goto (4)), 3) := by decide +kernel
theorem dMd_takeRecord_174 : decode mMd_takeRecord.2.2.2.1 174 = .ok ((.iconst (0)), 1) := by decide +kernel
theorem dMd_takeRecord_175 : decode mMd_takeRecord.2.2.2.1 175 = .ok ((.putfield 87), 3) := by decide +kernel
theorem dMd_takeRecord_178 : decode mMd_takeRecord.2.2.2.1 178 = .ok ((.aload_n 0), 1) := by decide +kernel
theorem dMd_takeRecord_179 : decode mMd_takeRecord.2.2.2.1 179 = .ok ((.aload_n 0), 1) := by decide +kernel
theorem dMd_takeRecord_180 : decode mMd_takeRecord.2.2.2.1 180 = .ok ((.getfield 87), 3) := by decide +kernel
theorem dMd_takeRecord_183 : decode mMd_takeRecord.2.2.2.1 183 = .ok ((.ifCond .ne (39)), 3) := by decide +kernel
theorem dMd_takeRecord_186 : decode mMd_takeRecord.2.2.2.1 186 = .ok ((.iload 9), 2) := by decide +kernel
theorem dMd_takeRecord_188 : decode mMd_takeRecord.2.2.2.1 188 = .ok ((.iconst (3)), 1) := by decide +kernel
theorem dMd_takeRecord_189 : decode mMd_takeRecord.2.2.2.1 189 = .ok ((.if_icmp .eq (33)), 3) := by decide +kernel
theorem dMd_takeRecord_192 : decode mMd_takeRecord.2.2.2.1 192 = .ok ((.iload 8), 2) := by decide +kernel
theorem dMd_takeRecord_194 : decode mMd_takeRecord.2.2.2.1 194 = .ok ((.aload_n 0), 1) := by decide +kernel
theorem dMd_takeRecord_195 : decode mMd_takeRecord.2.2.2.1 195 = .ok ((.getfield 111), 3) := by decide +kernel
theorem dMd_takeRecord_198 : decode mMd_takeRecord.2.2.2.1 198 = .ok ((.if_icmp .gt (24)), 3) := by decide +kernel
theorem dMd_takeRecord_201 : decode mMd_takeRecord.2.2.2.1 201 = .ok ((.lload 6), 2) := by decide +kernel
theorem dMd_takeRecord_203 : decode mMd_takeRecord.2.2.2.1 203 = .ok ((.invokestatic 137), 3) := by decide +kernel
theorem dMd_takeRecord_206 : decode mMd_takeRecord.2.2.2.1 206 = .ok ((.ifCond .eq (16)), 3) := by decide +kernel
theorem dMd_takeRecord_209 : decode mMd_takeRecord.2.2.2.1 209 = .ok ((.iload_n 1), 1) := by decide +kernel
theorem dMd_takeRecord_210 : decode mMd_takeRecord.2.2.2.1 210 = .ok ((.ifCond .le (16)), 3) := by decide +kernel
theorem dMd_takeRecord_213 : decode mMd_takeRecord.2.2.2.1 213 = .ok ((.lload_n 2), 1) := by decide +kernel
theorem dMd_takeRecord_214 : decode mMd_takeRecord.2.2.2.1 214 = .ok ((.lload 6), 2) := by decide +kernel
theorem dMd_takeRecord_216 : decode mMd_takeRecord.2.2.2.1 216 = .ok ((.invokestatic 141), 3) := by decide +kernel
theorem dMd_takeRecord_219 : decode mMd_takeRecord.2.2.2.1 219 = .ok ((.ifCond .lt (7)), 3) := by decide +kernel
theorem dMd_takeRecord_222 : decode mMd_takeRecord.2.2.2.1 222 = .ok ((.iconst (1)), 1) := by decide +kernel
theorem dMd_takeRecord_223 : decode mMd_takeRecord.2.2.2.1 223 = .ok ((.goto (4)), 3) := by decide +kernel
theorem dMd_takeRecord_226 : decode mMd_takeRecord.2.2.2.1 226 = .ok ((.iconst (0)), 1) := by decide +kernel
theorem dMd_takeRecord_227 : decode mMd_takeRecord.2.2.2.1 227 = .ok ((.putfield 87), 3) := by decide +kernel
theorem dMd_takeRecord_230 : decode mMd_takeRecord.2.2.2.1 230 = .ok ((.aload_n 0), 1) := by decide +kernel
theorem dMd_takeRecord_231 : decode mMd_takeRecord.2.2.2.1 231 = .ok ((.getfield 87), 3) := by decide +kernel
theorem dMd_takeRecord_234 : decode mMd_takeRecord.2.2.2.1 234 = .ok ((.ifCond .ne (15)), 3) := by decide +kernel
theorem dMd_takeRecord_237 : decode mMd_takeRecord.2.2.2.1 237 = .ok ((.aload_n 0), 1) := by decide +kernel
theorem dMd_takeRecord_238 : decode mMd_takeRecord.2.2.2.1 238 = .ok ((.lload 6), 2) := by decide +kernel
theorem dMd_takeRecord_240 : decode mMd_takeRecord.2.2.2.1 240 = .ok ((.iload 9), 2) := by decide +kernel
theorem dMd_takeRecord_242 : decode mMd_takeRecord.2.2.2.1 242 = .ok ((.iload 8), 2) := by decide +kernel
theorem dMd_takeRecord_244 : decode mMd_takeRecord.2.2.2.1 244 = .ok ((.lload 10), 2) := by decide +kernel
theorem dMd_takeRecord_246 : decode mMd_takeRecord.2.2.2.1 246 = .ok ((.invokevirtual 144), 3) := by decide +kernel
theorem dMd_takeRecord_249 : decode mMd_takeRecord.2.2.2.1 249 = .ok ((.lload 6), 2) := by decide +kernel
theorem dMd_takeRecord_251 : decode mMd_takeRecord.2.2.2.1 251 = .ok (.lreturn, 1) := by decide +kernel
