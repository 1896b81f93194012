theorem dTb_init_0 : decode mTb_init.2.2.2.1 0 = .ok ((.aload_n 0), 1) := by decide +kernel
theorem dTb_init_1 : decode mTb_init.2.2.2.1 1 = .ok ((.invokespecial 3), 3) := by decide +kernel
theorem dTb_init_4 : decode mTb_init.2.2.2.1 4 = .ok ((.aload_n 0), 1) := by decide +kernel
theorem dTb_init_5 : decode mTb_init.2.2.2.1 5 = .ok ((.sipush (1200)), 3) := by decide +kernel
theorem dTb_init_8 : decode mTb_init.2.2.2.1 8 = .ok ((.newarray .int), 2) := by decide +kernel
theorem dTb_init_10 : decode mTb_init.2.2.2.1 10 = .ok ((.putfield 9), 3) := by decide +kernel
theorem dTb_init_13 : decode mTb_init.2.2.2.1 13 = .ok ((.aload_n 0), 1) := by decide +kernel
theorem dTb_init_14 : decode mTb_init.2.2.2.1 14 = .ok ((.new 15), 3) := by decide +kernel
theorem dTb_init_17 : decode mTb_init.2.2.2.1 17 = .ok (.dup, 1) := by decide +kernel
theorem dTb_init_18 : decode mTb_init.2.2.2.1 18 = .ok ((.bipush (30)), 2) := by decide +kernel
theorem dTb_init_20 : decode mTb_init.2.2.2.1 20 = .ok ((.invokespecial 17), 3) := by decide +kernel
theorem dTb_init_23 : decode mTb_init.2.2.2.1 23 = .ok ((.putfield 20), 3) := by decide +kernel
theorem dTb_init_26 : decode mTb_init.2.2.2.1 26 = .ok ((.aload_n 0), 1) := by decide +kernel
theorem dTb_init_27 : decode mTb_init.2.2.2.1 27 = .ok ((.new 15), 3) := by decide +kernel
theorem dTb_init_30 : decode mTb_init.2.2.2.1 30 = .ok (.dup, 1) := by decide +kernel
theorem dTb_init_31 : decode mTb_init.2.2.2.1 31 = .ok ((.bipush (40)), 2) := by decide +kernel
theorem dTb_init_33 : decode mTb_init.2.2.2.1 33 = .ok ((.invokespecial 17), 3) := by decide +kernel
theorem dTb_init_36 : decode mTb_init.2.2.2.1 36 = .ok ((.putfield 24), 3) := by decide +kernel
theorem dTb_init_39 : decode mTb_init.2.2.2.1 39 = .ok (.return_, 1) := by decide +kernel
theorem dTb_clearRows_0 : decode mTb_clearRows.2.2.2.1 0 = .ok ((.aload_n 0), 1) := by decide +kernel
theorem dTb_clearRows_1 : decode mTb_clearRows.2.2.2.1 1 = .ok ((.iload_n 1), 1) := by decide +kernel
theorem dTb_clearRows_2 : decode mTb_clearRows.2.2.2.1 2 = .ok ((.putfield 27), 3) := by decide +kernel
theorem dTb_clearRows_5 : decode mTb_clearRows.2.2.2.1 5 = .ok ((.aload_n 0), 1) := by decide +kernel
theorem dTb_clearRows_6 : decode mTb_clearRows.2.2.2.1 6 = .ok ((.iload_n 2), 1) := by decide +kernel
theorem dTb_clearRows_7 : decode mTb_clearRows.2.2.2.1 7 = .ok ((.putfield 31), 3) := by decide +kernel
theorem dTb_clearRows_10 : decode mTb_clearRows.2.2.2.1 10 = .ok ((.aload_n 0), 1) := by decide +kernel
theorem dTb_clearRows_11 : decode mTb_clearRows.2.2.2.1 11 = .ok ((.getfield 20), 3) := by decide +kernel
theorem dTb_clearRows_14 : decode mTb_clearRows.2.2.2.1 14 = .ok ((.iconst (0)), 1) := by decide +kernel
theorem dTb_clearRows_15 : decode mTb_clearRows.2.2.2.1 15 = .ok ((.putfield 34), 3) := by decide +kernel
theorem dTb_clearRows_18 : decode mTb_clearRows.2.2.2.1 18 = .ok ((.aload_n 0), 1) := by decide +kernel
theorem dTb_clearRows_19 : decode mTb_clearRows.2.2.2.1 19 = .ok ((.getfield 24), 3) := by decide +kernel
theorem dTb_clearRows_22 : decode mTb_clearRows.2.2.2.1 22 = .ok ((.iconst (0)), 1) := by decide +kernel
theorem dTb_clearRows_23 : decode mTb_clearRows.2.2.2.1 23 = .ok ((.putfield 34), 3) := by decide +kernel
theorem dTb_clearRows_26 : decode mTb_clearRows.2.2.2.1 26 = .ok (.return_, 1) := by decide +kernel
theorem dTb_checkOf_0 : decode mTb_checkOf.2.2.2.1 0 = .ok ((.ldc 37), 2) := by decide +kernel
theorem dTb_checkOf_2 : decode mTb_checkOf.2.2.2.1 2 = .ok ((.istore_n 2), 1) := by decide +kernel
theorem dTb_checkOf_3 : decode mTb_checkOf.2.2.2.1 3 = .ok ((.iconst (0)), 1) := by decide +kernel
theorem dTb_checkOf_4 : decode mTb_checkOf.2.2.2.1 4 = .ok ((.istore_n 3), 1) := by decide +kernel
theorem dTb_checkOf_5 : decode mTb_checkOf.2.2.2.1 5 = .ok ((.iload_n 3), 1) := by decide +kernel
theorem dTb_checkOf_6 : decode mTb_checkOf.2.2.2.1 6 = .ok ((.iload_n 1), 1) := by decide +kernel
theorem dTb_checkOf_7 : decode mTb_checkOf.2.2.2.1 7 = .ok ((.if_icmp .ge (63)), 3) := by decide +kernel
theorem dTb_checkOf_10 : decode mTb_checkOf.2.2.2.1 10 = .ok ((.iload_n 3), 1) := by decide +kernel
theorem dTb_checkOf_11 : decode mTb_checkOf.2.2.2.1 11 = .ok ((.sipush (1200)), 3) := by decide +kernel
theorem dTb_checkOf_14 : decode mTb_checkOf.2.2.2.1 14 = .ok ((.if_icmp .ge (56)), 3) := by decide +kernel
theorem dTb_checkOf_17 : decode mTb_checkOf.2.2.2.1 17 = .ok ((.iload_n 2), 1) := by decide +kernel
theorem dTb_checkOf_18 : decode mTb_checkOf.2.2.2.1 18 = .ok ((.aload_n 0), 1) := by decide +kernel
theorem dTb_checkOf_19 : decode mTb_checkOf.2.2.2.1 19 = .ok ((.getfield 9), 3) := by decide +kernel
theorem dTb_checkOf_22 : decode mTb_checkOf.2.2.2.1 22 = .ok ((.iload_n 3), 1) := by decide +kernel
theorem dTb_checkOf_23 : decode mTb_checkOf.2.2.2.1 23 = .ok (.iaload, 1) := by decide +kernel
theorem dTb_checkOf_24 : decode mTb_checkOf.2.2.2.1 24 = .ok ((.bipush (8)), 2) := by decide +kernel
theorem dTb_checkOf_26 : decode mTb_checkOf.2.2.2.1 26 = .ok (.ishl, 1) := by decide +kernel
theorem dTb_checkOf_27 : decode mTb_checkOf.2.2.2.1 27 = .ok (.ixor, 1) := by decide +kernel
theorem dTb_checkOf_28 : decode mTb_checkOf.2.2.2.1 28 = .ok ((.istore_n 2), 1) := by decide +kernel
theorem dTb_checkOf_29 : decode mTb_checkOf.2.2.2.1 29 = .ok ((.iconst (0)), 1) := by decide +kernel
theorem dTb_checkOf_30 : decode mTb_checkOf.2.2.2.1 30 = .ok ((.istore 4), 2) := by decide +kernel
theorem dTb_checkOf_32 : decode mTb_checkOf.2.2.2.1 32 = .ok ((.iload 4), 2) := by decide +kernel
theorem dTb_checkOf_34 : decode mTb_checkOf.2.2.2.1 34 = .ok ((.bipush (8)), 2) := by decide +kernel
theorem dTb_checkOf_36 : decode mTb_checkOf.2.2.2.1 36 = .ok ((.if_icmp .ge (28)), 3) := by decide +kernel
theorem dTb_checkOf_39 : decode mTb_checkOf.2.2.2.1 39 = .ok ((.iload_n 2), 1) := by decide +kernel
theorem dTb_checkOf_40 : decode mTb_checkOf.2.2.2.1 40 = .ok ((.iconst (1)), 1) := by decide +kernel
theorem dTb_checkOf_41 : decode mTb_checkOf.2.2.2.1 41 = .ok (.ishl, 1) := by decide +kernel
theorem dTb_checkOf_42 : decode mTb_checkOf.2.2.2.1 42 = .ok ((.istore_n 2), 1) := by decide +kernel
theorem dTb_checkOf_43 : decode mTb_checkOf.2.2.2.1 43 = .ok ((.iload_n 2), 1) := by decide +kernel
theorem dTb_checkOf_44 : decode mTb_checkOf.2.2.2.1 44 = .ok ((.ldc 37), 2) := by decide +kernel
theorem dTb_checkOf_46 : decode mTb_checkOf.2.2.2.1 46 = .ok ((.if_icmp .le (12)), 3) := by decide +kernel
theorem dTb_checkOf_49 : decode mTb_checkOf.2.2.2.1 49 = .ok ((.iload_n 2), 1) := by decide +kernel
theorem dTb_checkOf_50 : decode mTb_checkOf.2.2.2.1 50 = .ok ((.ldc 37), 2) := by decide +kernel
theorem dTb_checkOf_52 : decode mTb_checkOf.2.2.2.1 52 = .ok (.iand, 1) := by decide +kernel
theorem dTb_checkOf_53 : decode mTb_checkOf.2.2.2.1 53 = .ok ((.sipush (4129)), 3) := by decide +kernel
theorem dTb_checkOf_56 : decode mTb_checkOf.2.2.2.1 56 = .ok (.ixor, 1) := by decide +kernel
theorem dTb_checkOf_57 : decode mTb_checkOf.2.2.2.1 57 = .ok ((.istore_n 2), 1) := by decide +kernel
theorem dTb_checkOf_58 : decode mTb_checkOf.2.2.2.1 58 = .ok ((.iinc 4 (1)), 3) := by decide +kernel
theorem dTb_checkOf_61 : decode mTb_checkOf.2.2.2.1 61 = .ok ((.goto (-29)), 3) := by decide +kernel
theorem dTb_checkOf_64 : decode mTb_checkOf.2.2.2.1 64 = .ok ((.iinc 3 (1)), 3) := by decide +kernel
theorem dTb_checkOf_67 : decode mTb_checkOf.2.2.2.1 67 = .ok ((.goto (-62)), 3) := by decide +kernel
theorem dTb_checkOf_70 : decode mTb_checkOf.2.2.2.1 70 = .ok ((.iload_n 2), 1) := by decide +kernel
theorem dTb_checkOf_71 : decode mTb_checkOf.2.2.2.1 71 = .ok (.ireturn, 1) := by decide +kernel
theorem dTs_init_0 : decode mTs_init.2.2.2.1 0 = .ok ((.aload_n 0), 1) := by decide +kernel
theorem dTs_init_1 : decode mTs_init.2.2.2.1 1 = .ok ((.invokespecial 3), 3) := by decide +kernel
theorem dTs_init_4 : decode mTs_init.2.2.2.1 4 = .ok ((.aload_n 0), 1) := by decide +kernel
theorem dTs_init_5 : decode mTs_init.2.2.2.1 5 = .ok ((.bipush (9)), 2) := by decide +kernel
theorem dTs_init_7 : decode mTs_init.2.2.2.1 7 = .ok ((.anewarray 9), 3) := by decide +kernel
theorem dTs_init_10 : decode mTs_init.2.2.2.1 10 = .ok ((.putfield 11), 3) := by decide +kernel
theorem dTs_init_13 : decode mTs_init.2.2.2.1 13 = .ok ((.aload_n 0), 1) := by decide +kernel
theorem dTs_init_14 : decode mTs_init.2.2.2.1 14 = .ok ((.new 17), 3) := by decide +kernel
theorem dTs_init_17 : decode mTs_init.2.2.2.1 17 = .ok (.dup, 1) := by decide +kernel
theorem dTs_init_18 : decode mTs_init.2.2.2.1 18 = .ok ((.invokespecial 19), 3) := by decide +kernel
theorem dTs_init_21 : decode mTs_init.2.2.2.1 21 = .ok ((.putfield 20), 3) := by decide +kernel
theorem dTs_init_24 : decode mTs_init.2.2.2.1 24 = .ok ((.aload_n 0), 1) := by decide +kernel
theorem dTs_init_25 : decode mTs_init.2.2.2.1 25 = .ok ((.new 24), 3) := by decide +kernel
theorem dTs_init_28 : decode mTs_init.2.2.2.1 28 = .ok (.dup, 1) := by decide +kernel
theorem dTs_init_29 : decode mTs_init.2.2.2.1 29 = .ok ((.iconst (0)), 1) := by decide +kernel
theorem dTs_init_30 : decode mTs_init.2.2.2.1 30 = .ok ((.invokespecial 26), 3) := by decide +kernel
theorem dTs_init_33 : decode mTs_init.2.2.2.1 33 = .ok ((.putfield 29), 3) := by decide +kernel
theorem dTs_init_36 : decode mTs_init.2.2.2.1 36 = .ok ((.aload_n 0), 1) := by decide +kernel
theorem dTs_init_37 : decode mTs_init.2.2.2.1 37 = .ok ((.new 24), 3) := by decide +kernel
theorem dTs_init_40 : decode mTs_init.2.2.2.1 40 = .ok (.dup, 1) := by decide +kernel
theorem dTs_init_41 : decode mTs_init.2.2.2.1 41 = .ok ((.iconst (1)), 1) := by decide +kernel
theorem dTs_init_42 : decode mTs_init.2.2.2.1 42 = .ok ((.invokespecial 26), 3) := by decide +kernel
theorem dTs_init_45 : decode mTs_init.2.2.2.1 45 = .ok ((.putfield 33), 3) := by decide +kernel
theorem dTs_init_48 : decode mTs_init.2.2.2.1 48 = .ok (.return_, 1) := by decide +kernel
theorem dTs_tableOrNull_0 : decode mTs_tableOrNull.2.2.2.1 0 = .ok ((.iload_n 1), 1) := by decide +kernel
theorem dTs_tableOrNull_1 : decode mTs_tableOrNull.2.2.2.1 1 = .ok ((.ifCond .lt (20)), 3) := by decide +kernel
theorem dTs_tableOrNull_4 : decode mTs_tableOrNull.2.2.2.1 4 = .ok ((.iload_n 1), 1) := by decide +kernel
theorem dTs_tableOrNull_5 : decode mTs_tableOrNull.2.2.2.1 5 = .ok ((.aload_n 0), 1) := by decide +kernel
theorem dTs_tableOrNull_6 : decode mTs_tableOrNull.2.2.2.1 6 = .ok ((.getfield 36), 3) := by decide +kernel
theorem dTs_tableOrNull_9 : decode mTs_tableOrNull.2.2.2.1 9 = .ok ((.if_icmp .ge (12)), 3) := by decide +kernel
theorem dTs_tableOrNull_12 : decode mTs_tableOrNull.2.2.2.1 12 = .ok ((.aload_n 0), 1) := by decide +kernel
theorem dTs_tableOrNull_13 : decode mTs_tableOrNull.2.2.2.1 13 = .ok ((.getfield 11), 3) := by decide +kernel
theorem dTs_tableOrNull_16 : decode mTs_tableOrNull.2.2.2.1 16 = .ok ((.iload_n 1), 1) := by decide +kernel
theorem dTs_tableOrNull_17 : decode mTs_tableOrNull.2.2.2.1 17 = .ok (.aaload, 1) := by decide +kernel
theorem dTs_tableOrNull_18 : decode mTs_tableOrNull.2.2.2.1 18 = .ok ((.goto (4)), 3) := by decide +kernel
theorem dTs_tableOrNull_21 : decode mTs_tableOrNull.2.2.2.1 21 = .ok (.aconst_null, 1) := by decide +kernel
theorem dTs_tableOrNull_22 : decode mTs_tableOrNull.2.2.2.1 22 = .ok (.areturn, 1) := by decide +kernel
theorem dTs_tableIn_0 : decode mTs_tableIn.2.2.2.1 0 = .ok ((.iconst (0)), 1) := by decide +kernel
theorem dTs_tableIn_1 : decode mTs_tableIn.2.2.2.1 1 = .ok ((.iload_n 1), 1) := by decide +kernel
theorem dTs_tableIn_2 : decode mTs_tableIn.2.2.2.1 2 = .ok ((.bipush (8)), 2) := by decide +kernel
theorem dTs_tableIn_4 : decode mTs_tableIn.2.2.2.1 4 = .ok ((.invokestatic 40), 3) := by decide +kernel
theorem dTs_tableIn_7 : decode mTs_tableIn.2.2.2.1 7 = .ok ((.invokestatic 46), 3) := by decide +kernel
theorem dTs_tableIn_10 : decode mTs_tableIn.2.2.2.1 10 = .ok ((.istore_n 2), 1) := by decide +kernel
theorem dTs_tableIn_11 : decode mTs_tableIn.2.2.2.1 11 = .ok ((.aload_n 0), 1) := by decide +kernel
theorem dTs_tableIn_12 : decode mTs_tableIn.2.2.2.1 12 = .ok ((.getfield 11), 3) := by decide +kernel
theorem dTs_tableIn_15 : decode mTs_tableIn.2.2.2.1 15 = .ok ((.iload_n 2), 1) := by decide +kernel
theorem dTs_tableIn_16 : decode mTs_tableIn.2.2.2.1 16 = .ok (.aaload, 1) := by decide +kernel
theorem dTs_tableIn_17 : decode mTs_tableIn.2.2.2.1 17 = .ok ((.ifnonnull (16)), 3) := by decide +kernel
theorem dTs_tableIn_20 : decode mTs_tableIn.2.2.2.1 20 = .ok ((.aload_n 0), 1) := by decide +kernel
theorem dTs_tableIn_21 : decode mTs_tableIn.2.2.2.1 21 = .ok ((.getfield 11), 3) := by decide +kernel
theorem dTs_tableIn_24 : decode mTs_tableIn.2.2.2.1 24 = .ok ((.iload_n 2), 1) := by decide +kernel
theorem dTs_tableIn_25 : decode mTs_tableIn.2.2.2.1 25 = .ok ((.new 9), 3) := by decide +kernel
theorem dTs_tableIn_28 : decode mTs_tableIn.2.2.2.1 28 = .ok (.dup, 1) := by decide +kernel
theorem dTs_tableIn_29 : decode mTs_tableIn.2.2.2.1 29 = .ok ((.invokespecial 49), 3) := by decide +kernel
theorem dTs_tableIn_32 : decode mTs_tableIn.2.2.2.1 32 = .ok (.aastore, 1) := by decide +kernel
theorem dTs_tableIn_33 : decode mTs_tableIn.2.2.2.1 33 = .ok ((.aload_n 0), 1) := by decide +kernel
theorem dTs_tableIn_34 : decode mTs_tableIn.2.2.2.1 34 = .ok ((.getfield 11), 3) := by decide +kernel
theorem dTs_tableIn_37 : decode mTs_tableIn.2.2.2.1 37 = .ok ((.iload_n 2), 1) := by decide +kernel
theorem dTs_tableIn_38 : decode mTs_tableIn.2.2.2.1 38 = .ok (.aaload, 1) := by decide +kernel
theorem dTs_tableIn_39 : decode mTs_tableIn.2.2.2.1 39 = .ok (.areturn, 1) := by decide +kernel
theorem dTs_isDamaged_0 : decode mTs_isDamaged.2.2.2.1 0 = .ok ((.iconst (0)), 1) := by decide +kernel
theorem dTs_isDamaged_1 : decode mTs_isDamaged.2.2.2.1 1 = .ok ((.istore_n 1), 1) := by decide +kernel
theorem dTs_isDamaged_2 : decode mTs_isDamaged.2.2.2.1 2 = .ok ((.iload_n 1), 1) := by decide +kernel
theorem dTs_isDamaged_3 : decode mTs_isDamaged.2.2.2.1 3 = .ok ((.aload_n 0), 1) := by decide +kernel
theorem dTs_isDamaged_4 : decode mTs_isDamaged.2.2.2.1 4 = .ok ((.getfield 36), 3) := by decide +kernel
theorem dTs_isDamaged_7 : decode mTs_isDamaged.2.2.2.1 7 = .ok ((.if_icmp .ge (22)), 3) := by decide +kernel
theorem dTs_isDamaged_10 : decode mTs_isDamaged.2.2.2.1 10 = .ok ((.aload_n 0), 1) := by decide +kernel
theorem dTs_isDamaged_11 : decode mTs_isDamaged.2.2.2.1 11 = .ok ((.iload_n 1), 1) := by decide +kernel
theorem dTs_isDamaged_12 : decode mTs_isDamaged.2.2.2.1 12 = .ok ((.invokevirtual 50), 3) := by decide +kernel
theorem dTs_isDamaged_15 : decode mTs_isDamaged.2.2.2.1 15 = .ok ((.getfield 54), 3) := by decide +kernel
theorem dTs_isDamaged_18 : decode mTs_isDamaged.2.2.2.1 18 = .ok ((.ifCond .ne (5)), 3) := by decide +kernel
theorem dTs_isDamaged_21 : decode mTs_isDamaged.2.2.2.1 21 = .ok ((.iconst (1)), 1) := by decide +kernel
theorem dTs_isDamaged_22 : decode mTs_isDamaged.2.2.2.1 22 = .ok (.ireturn, 1) := by decide +kernel
theorem dTs_isDamaged_23 : decode mTs_isDamaged.2.2.2.1 23 = .ok ((.iinc 1 (1)), 3) := by decide +kernel
theorem dTs_isDamaged_26 : decode mTs_isDamaged.2.2.2.1 26 = .ok ((.goto (-24)), 3) := by decide +kernel
theorem dTs_isDamaged_29 : decode mTs_isDamaged.2.2.2.1 29 = .ok ((.iconst (0)), 1) := by decide +kernel
theorem dTs_isDamaged_30 : decode mTs_isDamaged.2.2.2.1 30 = .ok (.ireturn, 1) := by decide +kernel
theorem dTs_contentOf_0 : decode mTs_contentOf.2.2.2.1 0 = .ok ((.aload_n 0), 1) := by decide +kernel
theorem dTs_contentOf_1 : decode mTs_contentOf.2.2.2.1 1 = .ok ((.getfield 36), 3) := by decide +kernel
theorem dTs_contentOf_4 : decode mTs_contentOf.2.2.2.1 4 = .ok ((.iconst (1)), 1) := by decide +kernel
theorem dTs_contentOf_5 : decode mTs_contentOf.2.2.2.1 5 = .ok (.isub, 1) := by decide +kernel
theorem dTs_contentOf_6 : decode mTs_contentOf.2.2.2.1 6 = .ok ((.istore_n 3), 1) := by decide +kernel
theorem dTs_contentOf_7 : decode mTs_contentOf.2.2.2.1 7 = .ok ((.iload_n 3), 1) := by decide +kernel
theorem dTs_contentOf_8 : decode mTs_contentOf.2.2.2.1 8 = .ok ((.ifCond .lt (60)), 3) := by decide +kernel
theorem dTs_contentOf_11 : decode mTs_contentOf.2.2.2.1 11 = .ok ((.aload_n 0), 1) := by decide +kernel
theorem dTs_contentOf_12 : decode mTs_contentOf.2.2.2.1 12 = .ok ((.iload_n 3), 1) := by decide +kernel
theorem dTs_contentOf_13 : decode mTs_contentOf.2.2.2.1 13 = .ok ((.invokevirtual 50), 3) := by decide +kernel
theorem dTs_contentOf_16 : decode mTs_contentOf.2.2.2.1 16 = .ok ((.getfield 58), 3) := by decide +kernel
theorem dTs_contentOf_19 : decode mTs_contentOf.2.2.2.1 19 = .ok ((.astore 4), 2) := by decide +kernel
theorem dTs_contentOf_21 : decode mTs_contentOf.2.2.2.1 21 = .ok ((.iconst (0)), 1) := by decide +kernel
theorem dTs_contentOf_22 : decode mTs_contentOf.2.2.2.1 22 = .ok ((.istore 5), 2) := by decide +kernel
theorem dTs_contentOf_24 : decode mTs_contentOf.2.2.2.1 24 = .ok ((.iload 5), 2) := by decide +kernel
theorem dTs_contentOf_26 : decode mTs_contentOf.2.2.2.1 26 = .ok ((.aload 4), 2) := by decide +kernel
theorem dTs_contentOf_28 : decode mTs_contentOf.2.2.2.1 28 = .ok ((.getfield 62), 3) := by decide +kernel
theorem dTs_contentOf_31 : decode mTs_contentOf.2.2.2.1 31 = .ok ((.if_icmp .ge (31)), 3) := by decide +kernel
theorem dTs_contentOf_34 : decode mTs_contentOf.2.2.2.1 34 = .ok ((.aload 4), 2) := by decide +kernel
theorem dTs_contentOf_36 : decode mTs_contentOf.2.2.2.1 36 = .ok ((.getfield 67), 3) := by decide +kernel
theorem dTs_contentOf_39 : decode mTs_contentOf.2.2.2.1 39 = .ok ((.iload 5), 2) := by decide +kernel
theorem dTs_contentOf_41 : decode mTs_contentOf.2.2.2.1 41 = .ok (.laload, 1) := by decide +kernel
theorem dTs_contentOf_42 : decode mTs_contentOf.2.2.2.1 42 = .ok ((.lload_n 1), 1) := by decide +kernel
theorem dTs_contentOf_43 : decode mTs_contentOf.2.2.2.1 43 = .ok (.lcmp, 1) := by decide +kernel
theorem dTs_contentOf_44 : decode mTs_contentOf.2.2.2.1 44 = .ok ((.ifCond .ne (12)), 3) := by decide +kernel
theorem dTs_contentOf_47 : decode mTs_contentOf.2.2.2.1 47 = .ok ((.aload 4), 2) := by decide +kernel
theorem dTs_contentOf_49 : decode mTs_contentOf.2.2.2.1 49 = .ok ((.getfield 71), 3) := by decide +kernel
theorem dTs_contentOf_52 : decode mTs_contentOf.2.2.2.1 52 = .ok ((.iload 5), 2) := by decide +kernel
theorem dTs_contentOf_54 : decode mTs_contentOf.2.2.2.1 54 = .ok (.laload, 1) := by decide +kernel
theorem dTs_contentOf_55 : decode mTs_contentOf.2.2.2.1 55 = .ok (.lreturn, 1) := by decide +kernel
theorem dTs_contentOf_56 : decode mTs_contentOf.2.2.2.1 56 = .ok ((.iinc 5 (1)), 3) := by decide +kernel
theorem dTs_contentOf_59 : decode mTs_contentOf.2.2.2.1 59 = .ok ((.goto (-35)), 3) := by decide +kernel
theorem dTs_contentOf_62 : decode mTs_contentOf.2.2.2.1 62 = .ok ((.iinc 3 (-1)), 3) := by decide +kernel
theorem dTs_contentOf_65 : decode mTs_contentOf.2.2.2.1 65 = .ok ((.goto (-58)), 3) := by decide +kernel
theorem dTs_contentOf_68 : decode mTs_contentOf.2.2.2.1 68 = .ok ((.lconst 0), 1) := by decide +kernel
theorem dTs_contentOf_69 : decode mTs_contentOf.2.2.2.1 69 = .ok (.lreturn, 1) := by decide +kernel
theorem dTs_latestTime_0 : decode mTs_latestTime.2.2.2.1 0 = .ok ((.iconst (0)), 1) := by decide +kernel
theorem dTs_latestTime_1 : decode mTs_latestTime.2.2.2.1 1 = .ok ((.istore_n 1), 1) := by decide +kernel
theorem dTs_latestTime_2 : decode mTs_latestTime.2.2.2.1 2 = .ok ((.iconst (0)), 1) := by decide +kernel
theorem dTs_latestTime_3 : decode mTs_latestTime.2.2.2.1 3 = .ok ((.istore_n 2), 1) := by decide +kernel
theorem dTs_latestTime_4 : decode mTs_latestTime.2.2.2.1 4 = .ok ((.iload_n 2), 1) := by decide +kernel
theorem dTs_latestTime_5 : decode mTs_latestTime.2.2.2.1 5 = .ok ((.aload_n 0), 1) := by decide +kernel
theorem dTs_latestTime_6 : decode mTs_latestTime.2.2.2.1 6 = .ok ((.getfield 36), 3) := by decide +kernel
theorem dTs_latestTime_9 : decode mTs_latestTime.2.2.2.1 9 = .ok ((.if_icmp .ge (22)), 3) := by decide +kernel
theorem dTs_latestTime_12 : decode mTs_latestTime.2.2.2.1 12 = .ok ((.iload_n 1), 1) := by decide +kernel
theorem dTs_latestTime_13 : decode mTs_latestTime.2.2.2.1 13 = .ok ((.aload_n 0), 1) := by decide +kernel
theorem dTs_latestTime_14 : decode mTs_latestTime.2.2.2.1 14 = .ok ((.iload_n 2), 1) := by decide +kernel
theorem dTs_latestTime_15 : decode mTs_latestTime.2.2.2.1 15 = .ok ((.invokevirtual 50), 3) := by decide +kernel
theorem dTs_latestTime_18 : decode mTs_latestTime.2.2.2.1 18 = .ok ((.getfield 74), 3) := by decide +kernel
theorem dTs_latestTime_21 : decode mTs_latestTime.2.2.2.1 21 = .ok ((.invokestatic 46), 3) := by decide +kernel
theorem dTs_latestTime_24 : decode mTs_latestTime.2.2.2.1 24 = .ok ((.istore_n 1), 1) := by decide +kernel
theorem dTs_latestTime_25 : decode mTs_latestTime.2.2.2.1 25 = .ok ((.iinc 2 (1)), 3) := by decide +kernel
theorem dTs_latestTime_28 : decode mTs_latestTime.2.2.2.1 28 = .ok ((.goto (-24)), 3) := by decide +kernel
theorem dTs_latestTime_31 : decode mTs_latestTime.2.2.2.1 31 = .ok ((.iload_n 1), 1) := by decide +kernel
theorem dTs_latestTime_32 : decode mTs_latestTime.2.2.2.1 32 = .ok (.ireturn, 1) := by decide +kernel
theorem dTs_entriesBelow_0 : decode mTs_entriesBelow.2.2.2.1 0 = .ok ((.iconst (0)), 1) := by decide +kernel
theorem dTs_entriesBelow_1 : decode mTs_entriesBelow.2.2.2.1 1 = .ok ((.istore_n 2), 1) := by decide +kernel
theorem dTs_entriesBelow_2 : decode mTs_entriesBelow.2.2.2.1 2 = .ok ((.iconst (0)), 1) := by decide +kernel
theorem dTs_entriesBelow_3 : decode mTs_entriesBelow.2.2.2.1 3 = .ok ((.istore_n 3), 1) := by decide +kernel
theorem dTs_entriesBelow_4 : decode mTs_entriesBelow.2.2.2.1 4 = .ok ((.iload_n 3), 1) := by decide +kernel
theorem dTs_entriesBelow_5 : decode mTs_entriesBelow.2.2.2.1 5 = .ok ((.iload_n 1), 1) := by decide +kernel
theorem dTs_entriesBelow_6 : decode mTs_entriesBelow.2.2.2.1 6 = .ok ((.if_icmp .ge (23)), 3) := by decide +kernel
theorem dTs_entriesBelow_9 : decode mTs_entriesBelow.2.2.2.1 9 = .ok ((.iload_n 2), 1) := by decide +kernel
theorem dTs_entriesBelow_10 : decode mTs_entriesBelow.2.2.2.1 10 = .ok ((.aload_n 0), 1) := by decide +kernel
theorem dTs_entriesBelow_11 : decode mTs_entriesBelow.2.2.2.1 11 = .ok ((.iload_n 3), 1) := by decide +kernel
theorem dTs_entriesBelow_12 : decode mTs_entriesBelow.2.2.2.1 12 = .ok ((.invokevirtual 50), 3) := by decide +kernel
theorem dTs_entriesBelow_15 : decode mTs_entriesBelow.2.2.2.1 15 = .ok ((.getfield 77), 3) := by decide +kernel
theorem dTs_entriesBelow_18 : decode mTs_entriesBelow.2.2.2.1 18 = .ok ((.getfield 62), 3) := by decide +kernel
theorem dTs_entriesBelow_21 : decode mTs_entriesBelow.2.2.2.1 21 = .ok (.iadd, 1) := by decide +kernel
theorem dTs_entriesBelow_22 : decode mTs_entriesBelow.2.2.2.1 22 = .ok ((.istore_n 2), 1) := by decide +kernel
theorem dTs_entriesBelow_23 : decode mTs_entriesBelow.2.2.2.1 23 = .ok ((.iinc 3 (1)), 3) := by decide +kernel
theorem dTs_entriesBelow_26 : decode mTs_entriesBelow.2.2.2.1 26 = .ok ((.goto (-22)), 3) := by decide +kernel
theorem dTs_entriesBelow_29 : decode mTs_entriesBelow.2.2.2.1 29 = .ok ((.iload_n 2), 1) := by decide +kernel
theorem dTs_entriesBelow_30 : decode mTs_entriesBelow.2.2.2.1 30 = .ok (.ireturn, 1) := by decide +kernel
theorem dTs_walkRecords_0 : decode mTs_walkRecords.2.2.2.1 0 = .ok ((.aload_n 0), 1) := by decide +kernel
theorem dTs_walkRecords_1 : decode mTs_walkRecords.2.2.2.1 1 = .ok ((.getfield 29), 3) := by decide +kernel
theorem dTs_walkRecords_4 : decode mTs_walkRecords.2.2.2.1 4 = .ok ((.invokevirtual 80), 3) := by decide +kernel
theorem dTs_walkRecords_7 : decode mTs_walkRecords.2.2.2.1 7 = .ok ((.iload_n 2), 1) := by decide +kernel
theorem dTs_walkRecords_8 : decode mTs_walkRecords.2.2.2.1 8 = .ok ((.iconst (1)), 1) := by decide +kernel
theorem dTs_walkRecords_9 : decode mTs_walkRecords.2.2.2.1 9 = .ok (.isub, 1) := by decide +kernel
theorem dTs_walkRecords_10 : decode mTs_walkRecords.2.2.2.1 10 = .ok ((.istore_n 3), 1) := by decide +kernel
theorem dTs_walkRecords_11 : decode mTs_walkRecords.2.2.2.1 11 = .ok ((.iload_n 3), 1) := by decide +kernel
theorem dTs_walkRecords_12 : decode mTs_walkRecords.2.2.2.1 12 = .ok ((.iload_n 1), 1) := by decide +kernel
theorem dTs_walkRecords_13 : decode mTs_walkRecords.2.2.2.1 13 = .ok ((.if_icmp .lt (24)), 3) := by decide +kernel
theorem dTs_walkRecords_16 : decode mTs_walkRecords.2.2.2.1 16 = .ok ((.aload_n 0), 1) := by decide +kernel
theorem dTs_walkRecords_17 : decode mTs_walkRecords.2.2.2.1 17 = .ok ((.getfield 29), 3) := by decide +kernel
theorem dTs_walkRecords_20 : decode mTs_walkRecords.2.2.2.1 20 = .ok ((.aload_n 0), 1) := by decide +kernel
theorem dTs_walkRecords_21 : decode mTs_walkRecords.2.2.2.1 21 = .ok ((.iload_n 3), 1) := by decide +kernel
theorem dTs_walkRecords_22 : decode mTs_walkRecords.2.2.2.1 22 = .ok ((.invokevirtual 50), 3) := by decide +kernel
theorem dTs_walkRecords_25 : decode mTs_walkRecords.2.2.2.1 25 = .ok ((.getfield 58), 3) := by decide +kernel
theorem dTs_walkRecords_28 : decode mTs_walkRecords.2.2.2.1 28 = .ok ((.invokevirtual 83), 3) := by decide +kernel
theorem dTs_walkRecords_31 : decode mTs_walkRecords.2.2.2.1 31 = .ok ((.iinc 3 (-1)), 3) := by decide +kernel
theorem dTs_walkRecords_34 : decode mTs_walkRecords.2.2.2.1 34 = .ok ((.goto (-23)), 3) := by decide +kernel
theorem dTs_walkRecords_37 : decode mTs_walkRecords.2.2.2.1 37 = .ok ((.aload_n 0), 1) := by decide +kernel
theorem dTs_walkRecords_38 : decode mTs_walkRecords.2.2.2.1 38 = .ok ((.getfield 29), 3) := by decide +kernel
theorem dTs_walkRecords_41 : decode mTs_walkRecords.2.2.2.1 41 = .ok (.areturn, 1) := by decide +kernel
theorem dTs_walkEntries_0 : decode mTs_walkEntries.2.2.2.1 0 = .ok ((.aload_n 0), 1) := by decide +kernel
theorem dTs_walkEntries_1 : decode mTs_walkEntries.2.2.2.1 1 = .ok ((.getfield 33), 3) := by decide +kernel
theorem dTs_walkEntries_4 : decode mTs_walkEntries.2.2.2.1 4 = .ok ((.invokevirtual 80), 3) := by decide +kernel
theorem dTs_walkEntries_7 : decode mTs_walkEntries.2.2.2.1 7 = .ok ((.iload_n 2), 1) := by decide +kernel
theorem dTs_walkEntries_8 : decode mTs_walkEntries.2.2.2.1 8 = .ok ((.iconst (1)), 1) := by decide +kernel
theorem dTs_walkEntries_9 : decode mTs_walkEntries.2.2.2.1 9 = .ok (.isub, 1) := by decide +kernel
theorem dTs_walkEntries_10 : decode mTs_walkEntries.2.2.2.1 10 = .ok ((.istore_n 3), 1) := by decide +kernel
theorem dTs_walkEntries_11 : decode mTs_walkEntries.2.2.2.1 11 = .ok ((.iload_n 3), 1) := by decide +kernel
theorem dTs_walkEntries_12 : decode mTs_walkEntries.2.2.2.1 12 = .ok ((.iload_n 1), 1) := by decide +kernel
theorem dTs_walkEntries_13 : decode mTs_walkEntries.2.2.2.1 13 = .ok ((.if_icmp .lt (24)), 3) := by decide +kernel
theorem dTs_walkEntries_16 : decode mTs_walkEntries.2.2.2.1 16 = .ok ((.aload_n 0), 1) := by decide +kernel
theorem dTs_walkEntries_17 : decode mTs_walkEntries.2.2.2.1 17 = .ok ((.getfield 33), 3) := by decide +kernel
theorem dTs_walkEntries_20 : decode mTs_walkEntries.2.2.2.1 20 = .ok ((.aload_n 0), 1) := by decide +kernel
theorem dTs_walkEntries_21 : decode mTs_walkEntries.2.2.2.1 21 = .ok ((.iload_n 3), 1) := by decide +kernel
theorem dTs_walkEntries_22 : decode mTs_walkEntries.2.2.2.1 22 = .ok ((.invokevirtual 50), 3) := by decide +kernel
theorem dTs_walkEntries_25 : decode mTs_walkEntries.2.2.2.1 25 = .ok ((.getfield 77), 3) := by decide +kernel
theorem dTs_walkEntries_28 : decode mTs_walkEntries.2.2.2.1 28 = .ok ((.invokevirtual 83), 3) := by decide +kernel
theorem dTs_walkEntries_31 : decode mTs_walkEntries.2.2.2.1 31 = .ok ((.iinc 3 (-1)), 3) := by decide +kernel
theorem dTs_walkEntries_34 : decode mTs_walkEntries.2.2.2.1 34 = .ok ((.goto (-23)), 3) := by decide +kernel
theorem dTs_walkEntries_37 : decode mTs_walkEntries.2.2.2.1 37 = .ok ((.aload_n 0), 1) := by decide +kernel
theorem dTs_walkEntries_38 : decode mTs_walkEntries.2.2.2.1 38 = .ok ((.getfield 33), 3) := by decide +kernel
theorem dTs_walkEntries_41 : decode mTs_walkEntries.2.2.2.1 41 = .ok (.areturn, 1) := by decide +kernel
theorem dTs_draft_0 : decode mTs_draft.2.2.2.1 0 = .ok ((.aload_n 0), 1) := by decide +kernel
theorem dTs_draft_1 : decode mTs_draft.2.2.2.1 1 = .ok ((.getfield 36), 3) := by decide +kernel
theorem dTs_draft_4 : decode mTs_draft.2.2.2.1 4 = .ok ((.iconst (1)), 1) := by decide +kernel
theorem dTs_draft_5 : decode mTs_draft.2.2.2.1 5 = .ok (.iadd, 1) := by decide +kernel
theorem dTs_draft_6 : decode mTs_draft.2.2.2.1 6 = .ok ((.bipush (9)), 2) := by decide +kernel
theorem dTs_draft_8 : decode mTs_draft.2.2.2.1 8 = .ok ((.if_icmp .lt (5)), 3) := by decide +kernel
theorem dTs_draft_11 : decode mTs_draft.2.2.2.1 11 = .ok ((.iconst (0)), 1) := by decide +kernel
theorem dTs_draft_12 : decode mTs_draft.2.2.2.1 12 = .ok (.ireturn, 1) := by decide +kernel
theorem dTs_draft_13 : decode mTs_draft.2.2.2.1 13 = .ok ((.aload_n 0), 1) := by decide +kernel
theorem dTs_draft_14 : decode mTs_draft.2.2.2.1 14 = .ok ((.invokevirtual 87), 3) := by decide +kernel
theorem dTs_draft_17 : decode mTs_draft.2.2.2.1 17 = .ok ((.iconst (1)), 1) := by decide +kernel
theorem dTs_draft_18 : decode mTs_draft.2.2.2.1 18 = .ok (.iadd, 1) := by decide +kernel
theorem dTs_draft_19 : decode mTs_draft.2.2.2.1 19 = .ok ((.istore_n 2), 1) := by decide +kernel
theorem dTs_draft_20 : decode mTs_draft.2.2.2.1 20 = .ok ((.aload_n 0), 1) := by decide +kernel
theorem dTs_draft_21 : decode mTs_draft.2.2.2.1 21 = .ok ((.aload_n 0), 1) := by decide +kernel
theorem dTs_draft_22 : decode mTs_draft.2.2.2.1 22 = .ok ((.getfield 36), 3) := by decide +kernel
theorem dTs_draft_25 : decode mTs_draft.2.2.2.1 25 = .ok ((.invokevirtual 50), 3) := by decide +kernel
theorem dTs_draft_28 : decode mTs_draft.2.2.2.1 28 = .ok ((.astore_n 3), 1) := by decide +kernel
theorem dTs_draft_29 : decode mTs_draft.2.2.2.1 29 = .ok ((.aload_n 3), 1) := by decide +kernel
theorem dTs_draft_30 : decode mTs_draft.2.2.2.1 30 = .ok ((.iload_n 2), 1) := by decide +kernel
theorem dTs_draft_31 : decode mTs_draft.2.2.2.1 31 = .ok ((.iload_n 2), 1) := by decide +kernel
theorem dTs_draft_32 : decode mTs_draft.2.2.2.1 32 = .ok ((.invokevirtual 91), 3) := by decide +kernel
theorem dTs_draft_35 : decode mTs_draft.2.2.2.1 35 = .ok ((.aload_n 1), 1) := by decide +kernel
theorem dTs_draft_36 : decode mTs_draft.2.2.2.1 36 = .ok ((.lconst 0), 1) := by decide +kernel
theorem dTs_draft_37 : decode mTs_draft.2.2.2.1 37 = .ok ((.invokevirtual 95), 3) := by decide +kernel
theorem dTs_draft_40 : decode mTs_draft.2.2.2.1 40 = .ok ((.istore 4), 2) := by decide +kernel
theorem dTs_draft_42 : decode mTs_draft.2.2.2.1 42 = .ok ((.iconst (0)), 1) := by decide +kernel
theorem dTs_draft_43 : decode mTs_draft.2.2.2.1 43 = .ok ((.istore 5), 2) := by decide +kernel
theorem dTs_draft_45 : decode mTs_draft.2.2.2.1 45 = .ok ((.iload 5), 2) := by decide +kernel
theorem dTs_draft_47 : decode mTs_draft.2.2.2.1 47 = .ok ((.bipush (6)), 2) := by decide +kernel
theorem dTs_draft_49 : decode mTs_draft.2.2.2.1 49 = .ok ((.if_icmp .ge (92)), 3) := by decide +kernel
theorem dTs_draft_52 : decode mTs_draft.2.2.2.1 52 = .ok ((.iload 4), 2) := by decide +kernel
theorem dTs_draft_54 : decode mTs_draft.2.2.2.1 54 = .ok ((.ifCond .lt (87)), 3) := by decide +kernel
theorem dTs_draft_57 : decode mTs_draft.2.2.2.1 57 = .ok ((.aload_n 1), 1) := by decide +kernel
theorem dTs_draft_58 : decode mTs_draft.2.2.2.1 58 = .ok ((.getfield 101), 3) := by decide +kernel
theorem dTs_draft_61 : decode mTs_draft.2.2.2.1 61 = .ok ((.iload 4), 2) := by decide +kernel
theorem dTs_draft_63 : decode mTs_draft.2.2.2.1 63 = .ok (.laload, 1) := by decide +kernel
theorem dTs_draft_64 : decode mTs_draft.2.2.2.1 64 = .ok ((.lstore 6), 2) := by decide +kernel
theorem dTs_draft_66 : decode mTs_draft.2.2.2.1 66 = .ok ((.aload_n 1), 1) := by decide +kernel
theorem dTs_draft_67 : decode mTs_draft.2.2.2.1 67 = .ok ((.getfield 102), 3) := by decide +kernel
theorem dTs_draft_70 : decode mTs_draft.2.2.2.1 70 = .ok ((.iload 4), 2) := by decide +kernel
theorem dTs_draft_72 : decode mTs_draft.2.2.2.1 72 = .ok (.laload, 1) := by decide +kernel
theorem dTs_draft_73 : decode mTs_draft.2.2.2.1 73 = .ok ((.lstore 8), 2) := by decide +kernel
theorem dTs_draft_75 : decode mTs_draft.2.2.2.1 75 = .ok ((.aload_n 3), 1) := by decide +kernel
theorem dTs_draft_76 : decode mTs_draft.2.2.2.1 76 = .ok ((.getfield 58), 3) := by decide +kernel
theorem dTs_draft_79 : decode mTs_draft.2.2.2.1 79 = .ok ((.lload 6), 2) := by decide +kernel
theorem dTs_draft_81 : decode mTs_draft.2.2.2.1 81 = .ok ((.iload_n 2), 1) := by decide +kernel
theorem dTs_draft_82 : decode mTs_draft.2.2.2.1 82 = .ok ((.lload 8), 2) := by decide +kernel
theorem dTs_draft_84 : decode mTs_draft.2.2.2.1 84 = .ok ((.invokevirtual 105), 3) := by decide +kernel
theorem dTs_draft_87 : decode mTs_draft.2.2.2.1 87 = .ok (.pop, 1) := by decide +kernel
theorem dTs_draft_88 : decode mTs_draft.2.2.2.1 88 = .ok ((.lload 8), 2) := by decide +kernel
theorem dTs_draft_90 : decode mTs_draft.2.2.2.1 90 = .ok ((.lconst 0), 1) := by decide +kernel
theorem dTs_draft_91 : decode mTs_draft.2.2.2.1 91 = .ok (.lcmp, 1) := by decide +kernel
theorem dTs_draft_92 : decode mTs_draft.2.2.2.1 92 = .ok ((.ifCond .lt (35)), 3) := by decide +kernel
theorem dTs_draft_95 : decode mTs_draft.2.2.2.1 95 = .ok ((.aload_n 0), 1) := by decide +kernel
theorem dTs_draft_96 : decode mTs_draft.2.2.2.1 96 = .ok ((.lload 6), 2) := by decide +kernel
theorem dTs_draft_98 : decode mTs_draft.2.2.2.1 98 = .ok ((.invokevirtual 108), 3) := by decide +kernel
theorem dTs_draft_101 : decode mTs_draft.2.2.2.1 101 = .ok ((.lconst 0), 1) := by decide +kernel
theorem dTs_draft_102 : decode mTs_draft.2.2.2.1 102 = .ok ((.invokestatic 112), 3) := by decide +kernel
theorem dTs_draft_105 : decode mTs_draft.2.2.2.1 105 = .ok (.l2i, 1) := by decide +kernel
theorem dTs_draft_106 : decode mTs_draft.2.2.2.1 106 = .ok ((.istore 10), 2) := by decide +kernel
theorem dTs_draft_108 : decode mTs_draft.2.2.2.1 108 = .ok ((.aload_n 3), 1) := by decide +kernel
theorem dTs_draft_109 : decode mTs_draft.2.2.2.1 109 = .ok ((.getfield 77), 3) := by decide +kernel
theorem dTs_draft_112 : decode mTs_draft.2.2.2.1 112 = .ok ((.lload 6), 2) := by decide +kernel
theorem dTs_draft_114 : decode mTs_draft.2.2.2.1 114 = .ok ((.iload_n 2), 1) := by decide +kernel
theorem dTs_draft_115 : decode mTs_draft.2.2.2.1 115 = .ok ((.iload 10), 2) := by decide +kernel
theorem dTs_draft_117 : decode mTs_draft.2.2.2.1 117 = .ok ((.lload 8), 2) := by decide +kernel
theorem dTs_draft_119 : decode mTs_draft.2.2.2.1 119 = .ok (.l2i, 1) := by decide +kernel
theorem dTs_draft_120 : decode mTs_draft.2.2.2.1 120 = .ok ((.invokestatic 115), 3) := by decide +kernel
theorem dTs_draft_123 : decode mTs_draft.2.2.2.1 123 = .ok ((.invokevirtual 105), 3) := by decide +kernel
theorem dTs_draft_126 : decode mTs_draft.2.2.2.1 126 = .ok (.pop, 1) := by decide +kernel
theorem dTs_draft_127 : decode mTs_draft.2.2.2.1 127 = .ok ((.aload_n 1), 1) := by decide +kernel
theorem dTs_draft_128 : decode mTs_draft.2.2.2.1 128 = .ok ((.lload 6), 2) := by decide +kernel
theorem dTs_draft_130 : decode mTs_draft.2.2.2.1 130 = .ok ((.invokevirtual 95), 3) := by decide +kernel
theorem dTs_draft_133 : decode mTs_draft.2.2.2.1 133 = .ok ((.istore 4), 2) := by decide +kernel
theorem dTs_draft_135 : decode mTs_draft.2.2.2.1 135 = .ok ((.iinc 5 (1)), 3) := by decide +kernel
theorem dTs_draft_138 : decode mTs_draft.2.2.2.1 138 = .ok ((.goto (-93)), 3) := by decide +kernel
theorem dTs_draft_141 : decode mTs_draft.2.2.2.1 141 = .ok ((.iconst (1)), 1) := by decide +kernel
theorem dTs_draft_142 : decode mTs_draft.2.2.2.1 142 = .ok (.ireturn, 1) := by decide +kernel
theorem dTs_draftClashes_0 : decode mTs_draftClashes.2.2.2.1 0 = .ok ((.aload_n 0), 1) := by decide +kernel
theorem dTs_draftClashes_1 : decode mTs_draftClashes.2.2.2.1 1 = .ok ((.iconst (0)), 1) := by decide +kernel
theorem dTs_draftClashes_2 : decode mTs_draftClashes.2.2.2.1 2 = .ok ((.aload_n 0), 1) := by decide +kernel
theorem dTs_draftClashes_3 : decode mTs_draftClashes.2.2.2.1 3 = .ok ((.getfield 36), 3) := by decide +kernel
theorem dTs_draftClashes_6 : decode mTs_draftClashes.2.2.2.1 6 = .ok ((.iconst (1)), 1) := by decide +kernel
theorem dTs_draftClashes_7 : decode mTs_draftClashes.2.2.2.1 7 = .ok (.iadd, 1) := by decide +kernel
theorem dTs_draftClashes_8 : decode mTs_draftClashes.2.2.2.1 8 = .ok ((.invokevirtual 119), 3) := by decide +kernel
theorem dTs_draftClashes_11 : decode mTs_draftClashes.2.2.2.1 11 = .ok ((.astore_n 3), 1) := by decide +kernel
theorem dTs_draftClashes_12 : decode mTs_draftClashes.2.2.2.1 12 = .ok ((.iconst (0)), 1) := by decide +kernel
theorem dTs_draftClashes_13 : decode mTs_draftClashes.2.2.2.1 13 = .ok ((.istore 4), 2) := by decide +kernel
theorem dTs_draftClashes_15 : decode mTs_draftClashes.2.2.2.1 15 = .ok ((.iload 4), 2) := by decide +kernel
theorem dTs_draftClashes_17 : decode mTs_draftClashes.2.2.2.1 17 = .ok ((.sipush (361)), 3) := by decide +kernel
theorem dTs_draftClashes_20 : decode mTs_draftClashes.2.2.2.1 20 = .ok ((.if_icmp .ge (52)), 3) := by decide +kernel
theorem dTs_draftClashes_23 : decode mTs_draftClashes.2.2.2.1 23 = .ok ((.aload_n 3), 1) := by decide +kernel
theorem dTs_draftClashes_24 : decode mTs_draftClashes.2.2.2.1 24 = .ok ((.invokevirtual 123), 3) := by decide +kernel
theorem dTs_draftClashes_27 : decode mTs_draftClashes.2.2.2.1 27 = .ok ((.ifCond .eq (45)), 3) := by decide +kernel
theorem dTs_draftClashes_30 : decode mTs_draftClashes.2.2.2.1 30 = .ok ((.aload_n 3), 1) := by decide +kernel
theorem dTs_draftClashes_31 : decode mTs_draftClashes.2.2.2.1 31 = .ok ((.getfield 127), 3) := by decide +kernel
theorem dTs_draftClashes_34 : decode mTs_draftClashes.2.2.2.1 34 = .ok ((.lconst 0), 1) := by decide +kernel
theorem dTs_draftClashes_35 : decode mTs_draftClashes.2.2.2.1 35 = .ok (.lcmp, 1) := by decide +kernel
theorem dTs_draftClashes_36 : decode mTs_draftClashes.2.2.2.1 36 = .ok ((.ifCond .ne (6)), 3) := by decide +kernel
theorem dTs_draftClashes_39 : decode mTs_draftClashes.2.2.2.1 39 = .ok ((.goto (27)), 3) := by decide +kernel
theorem dTs_draftClashes_42 : decode mTs_draftClashes.2.2.2.1 42 = .ok ((.aload_n 3), 1) := by decide +kernel
theorem dTs_draftClashes_43 : decode mTs_draftClashes.2.2.2.1 43 = .ok ((.getfield 131), 3) := by decide +kernel
theorem dTs_draftClashes_46 : decode mTs_draftClashes.2.2.2.1 46 = .ok ((.lload_n 1), 1) := by decide +kernel
theorem dTs_draftClashes_47 : decode mTs_draftClashes.2.2.2.1 47 = .ok ((.invokestatic 134), 3) := by decide +kernel
theorem dTs_draftClashes_50 : decode mTs_draftClashes.2.2.2.1 50 = .ok ((.ifCond .ne (14)), 3) := by decide +kernel
theorem dTs_draftClashes_53 : decode mTs_draftClashes.2.2.2.1 53 = .ok ((.lload_n 1), 1) := by decide +kernel
theorem dTs_draftClashes_54 : decode mTs_draftClashes.2.2.2.1 54 = .ok ((.aload_n 3), 1) := by decide +kernel
theorem dTs_draftClashes_55 : decode mTs_draftClashes.2.2.2.1 55 = .ok ((.getfield 131), 3) := by decide +kernel
theorem dTs_draftClashes_58 : decode mTs_draftClashes.2.2.2.1 58 = .ok ((.invokestatic 134), 3) := by decide +kernel
theorem dTs_draftClashes_61 : decode mTs_draftClashes.2.2.2.1 61 = .ok ((.ifCond .eq (5)), 3) := by decide +kernel
theorem dTs_draftClashes_64 : decode mTs_draftClashes.2.2.2.1 64 = .ok ((.iconst (1)), 1) := by decide +kernel
theorem dTs_draftClashes_65 : decode mTs_draftClashes.2.2.2.1 65 = .ok (.ireturn, 1) := by decide +kernel
theorem dTs_draftClashes_66 : decode mTs_draftClashes.2.2.2.1 66 = .ok ((.iinc 4 (1)), 3) := by decide +kernel
theorem dTs_draftClashes_69 : decode mTs_draftClashes.2.2.2.1 69 = .ok ((.goto (-54)), 3) := by decide +kernel
theorem dTs_draftClashes_72 : decode mTs_draftClashes.2.2.2.1 72 = .ok ((.iconst (0)), 1) := by decide +kernel
theorem dTs_draftClashes_73 : decode mTs_draftClashes.2.2.2.1 73 = .ok (.ireturn, 1) := by decide +kernel
theorem dTs_pushDraft_0 : decode mTs_pushDraft.2.2.2.1 0 = .ok ((.aload_n 0), 1) := by decide +kernel
theorem dTs_pushDraft_1 : decode mTs_pushDraft.2.2.2.1 1 = .ok ((.aload_n 0), 1) := by decide +kernel
theorem dTs_pushDraft_2 : decode mTs_pushDraft.2.2.2.1 2 = .ok ((.getfield 36), 3) := by decide +kernel
theorem dTs_pushDraft_5 : decode mTs_pushDraft.2.2.2.1 5 = .ok ((.invokevirtual 50), 3) := by decide +kernel
theorem dTs_pushDraft_8 : decode mTs_pushDraft.2.2.2.1 8 = .ok ((.getfield 74), 3) := by decide +kernel
theorem dTs_pushDraft_11 : decode mTs_pushDraft.2.2.2.1 11 = .ok ((.sipush (2000)), 3) := by decide +kernel
theorem dTs_pushDraft_14 : decode mTs_pushDraft.2.2.2.1 14 = .ok ((.if_icmp .gt (10)), 3) := by decide +kernel
theorem dTs_pushDraft_17 : decode mTs_pushDraft.2.2.2.1 17 = .ok ((.aload_n 0), 1) := by decide +kernel
theorem dTs_pushDraft_18 : decode mTs_pushDraft.2.2.2.1 18 = .ok ((.invokevirtual 140), 3) := by decide +kernel
theorem dTs_pushDraft_21 : decode mTs_pushDraft.2.2.2.1 21 = .ok ((.ifCond .eq (5)), 3) := by decide +kernel
theorem dTs_pushDraft_24 : decode mTs_pushDraft.2.2.2.1 24 = .ok ((.iconst (0)), 1) := by decide +kernel
theorem dTs_pushDraft_25 : decode mTs_pushDraft.2.2.2.1 25 = .ok (.ireturn, 1) := by decide +kernel
theorem dTs_pushDraft_26 : decode mTs_pushDraft.2.2.2.1 26 = .ok ((.aload_n 0), 1) := by decide +kernel
theorem dTs_pushDraft_27 : decode mTs_pushDraft.2.2.2.1 27 = .ok ((.getfield 20), 3) := by decide +kernel
theorem dTs_pushDraft_30 : decode mTs_pushDraft.2.2.2.1 30 = .ok ((.aload_n 0), 1) := by decide +kernel
theorem dTs_pushDraft_31 : decode mTs_pushDraft.2.2.2.1 31 = .ok ((.aload_n 0), 1) := by decide +kernel
theorem dTs_pushDraft_32 : decode mTs_pushDraft.2.2.2.1 32 = .ok ((.getfield 36), 3) := by decide +kernel
theorem dTs_pushDraft_35 : decode mTs_pushDraft.2.2.2.1 35 = .ok ((.invokevirtual 50), 3) := by decide +kernel
theorem dTs_pushDraft_38 : decode mTs_pushDraft.2.2.2.1 38 = .ok ((.invokevirtual 143), 3) := by decide +kernel
theorem dTs_pushDraft_41 : decode mTs_pushDraft.2.2.2.1 41 = .ok ((.ifCond .ne (5)), 3) := by decide +kernel
theorem dTs_pushDraft_44 : decode mTs_pushDraft.2.2.2.1 44 = .ok ((.iconst (0)), 1) := by decide +kernel
theorem dTs_pushDraft_45 : decode mTs_pushDraft.2.2.2.1 45 = .ok (.ireturn, 1) := by decide +kernel
theorem dTs_pushDraft_46 : decode mTs_pushDraft.2.2.2.1 46 = .ok ((.aload_n 0), 1) := by decide +kernel
theorem dTs_pushDraft_47 : decode mTs_pushDraft.2.2.2.1 47 = .ok (.dup, 1) := by decide +kernel
theorem dTs_pushDraft_48 : decode mTs_pushDraft.2.2.2.1 48 = .ok ((.getfield 36), 3) := by decide +kernel
theorem dTs_pushDraft_51 : decode mTs_pushDraft.2.2.2.1 51 = .ok ((.iconst (1)), 1) := by decide +kernel
theorem dTs_pushDraft_52 : decode mTs_pushDraft.2.2.2.1 52 = .ok (.iadd, 1) := by decide +kernel
theorem dTs_pushDraft_53 : decode mTs_pushDraft.2.2.2.1 53 = .ok ((.putfield 36), 3) := by decide +kernel
theorem dTs_pushDraft_56 : decode mTs_pushDraft.2.2.2.1 56 = .ok ((.iconst (1)), 1) := by decide +kernel
theorem dTs_pushDraft_57 : decode mTs_pushDraft.2.2.2.1 57 = .ok (.ireturn, 1) := by decide +kernel
