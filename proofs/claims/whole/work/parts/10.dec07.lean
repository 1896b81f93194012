theorem dMd_sound_0 : decode mMd_sound.2.2.2.1 0 = .ok ((.aload_n 0), 1) := by decide +kernel
theorem dMd_sound_1 : decode mMd_sound.2.2.2.1 1 = .ok ((.invokevirtual 171), 3) := by decide +kernel
theorem dMd_sound_4 : decode mMd_sound.2.2.2.1 4 = .ok ((.iload_n 1), 1) := by decide +kernel
theorem dMd_sound_5 : decode mMd_sound.2.2.2.1 5 = .ok ((.iconst (0)), 1) := by decide +kernel
theorem dMd_sound_6 : decode mMd_sound.2.2.2.1 6 = .ok ((.aload_n 0), 1) := by decide +kernel
theorem dMd_sound_7 : decode mMd_sound.2.2.2.1 7 = .ok ((.getfield 158), 3) := by decide +kernel
theorem dMd_sound_10 : decode mMd_sound.2.2.2.1 10 = .ok ((.iconst (1)), 1) := by decide +kernel
theorem dMd_sound_11 : decode mMd_sound.2.2.2.1 11 = .ok (.isub, 1) := by decide +kernel
theorem dMd_sound_12 : decode mMd_sound.2.2.2.1 12 = .ok ((.invokestatic 133), 3) := by decide +kernel
theorem dMd_sound_15 : decode mMd_sound.2.2.2.1 15 = .ok ((.ifCond .eq (15)), 3) := by decide +kernel
theorem dMd_sound_18 : decode mMd_sound.2.2.2.1 18 = .ok ((.aload_n 0), 1) := by decide +kernel
theorem dMd_sound_19 : decode mMd_sound.2.2.2.1 19 = .ok ((.iload_n 1), 1) := by decide +kernel
theorem dMd_sound_20 : decode mMd_sound.2.2.2.1 20 = .ok ((.invokevirtual 161), 3) := by decide +kernel
theorem dMd_sound_23 : decode mMd_sound.2.2.2.1 23 = .ok ((.ifCond .eq (7)), 3) := by decide +kernel
theorem dMd_sound_26 : decode mMd_sound.2.2.2.1 26 = .ok ((.iconst (1)), 1) := by decide +kernel
theorem dMd_sound_27 : decode mMd_sound.2.2.2.1 27 = .ok ((.goto (4)), 3) := by decide +kernel
theorem dMd_sound_30 : decode mMd_sound.2.2.2.1 30 = .ok ((.iconst (0)), 1) := by decide +kernel
theorem dMd_sound_31 : decode mMd_sound.2.2.2.1 31 = .ok (.ireturn, 1) := by decide +kernel
theorem dMd_records_0 : decode mMd_records.2.2.2.1 0 = .ok ((.aload_n 0), 1) := by decide +kernel
theorem dMd_records_1 : decode mMd_records.2.2.2.1 1 = .ok ((.invokevirtual 171), 3) := by decide +kernel
theorem dMd_records_4 : decode mMd_records.2.2.2.1 4 = .ok ((.iload_n 1), 1) := by decide +kernel
theorem dMd_records_5 : decode mMd_records.2.2.2.1 5 = .ok ((.iconst (0)), 1) := by decide +kernel
theorem dMd_records_6 : decode mMd_records.2.2.2.1 6 = .ok ((.aload_n 0), 1) := by decide +kernel
theorem dMd_records_7 : decode mMd_records.2.2.2.1 7 = .ok ((.getfield 158), 3) := by decide +kernel
theorem dMd_records_10 : decode mMd_records.2.2.2.1 10 = .ok ((.iconst (1)), 1) := by decide +kernel
theorem dMd_records_11 : decode mMd_records.2.2.2.1 11 = .ok (.isub, 1) := by decide +kernel
theorem dMd_records_12 : decode mMd_records.2.2.2.1 12 = .ok ((.invokestatic 133), 3) := by decide +kernel
theorem dMd_records_15 : decode mMd_records.2.2.2.1 15 = .ok ((.ifCond .eq (18)), 3) := by decide +kernel
theorem dMd_records_18 : decode mMd_records.2.2.2.1 18 = .ok ((.aload_n 0), 1) := by decide +kernel
theorem dMd_records_19 : decode mMd_records.2.2.2.1 19 = .ok ((.iload_n 1), 1) := by decide +kernel
theorem dMd_records_20 : decode mMd_records.2.2.2.1 20 = .ok ((.invokevirtual 161), 3) := by decide +kernel
theorem dMd_records_23 : decode mMd_records.2.2.2.1 23 = .ok ((.ifCond .eq (10)), 3) := by decide +kernel
theorem dMd_records_26 : decode mMd_records.2.2.2.1 26 = .ok ((.aload_n 0), 1) := by decide +kernel
theorem dMd_records_27 : decode mMd_records.2.2.2.1 27 = .ok ((.getfield 152), 3) := by decide +kernel
theorem dMd_records_30 : decode mMd_records.2.2.2.1 30 = .ok ((.goto (4)), 3) := by decide +kernel
theorem dMd_records_33 : decode mMd_records.2.2.2.1 33 = .ok ((.iconst (-1)), 1) := by decide +kernel
theorem dMd_records_34 : decode mMd_records.2.2.2.1 34 = .ok (.ireturn, 1) := by decide +kernel
theorem dNm_placeOf_0 : decode mNm_placeOf.2.2.2.1 0 = .ok ((.iconst (5)), 1) := by decide +kernel
theorem dNm_placeOf_1 : decode mNm_placeOf.2.2.2.1 1 = .ok ((.bipush (11)), 2) := by decide +kernel
theorem dNm_placeOf_3 : decode mNm_placeOf.2.2.2.1 3 = .ok ((.iload_n 0), 1) := by decide +kernel
theorem dNm_placeOf_4 : decode mNm_placeOf.2.2.2.1 4 = .ok (.isub, 1) := by decide +kernel
theorem dNm_placeOf_5 : decode mNm_placeOf.2.2.2.1 5 = .ok (.imul, 1) := by decide +kernel
theorem dNm_placeOf_6 : decode mNm_placeOf.2.2.2.1 6 = .ok (.ireturn, 1) := by decide +kernel
theorem dNm_symbolOf_0 : decode mNm_symbolOf.2.2.2.1 0 = .ok ((.lload_n 0), 1) := by decide +kernel
theorem dNm_symbolOf_1 : decode mNm_symbolOf.2.2.2.1 1 = .ok ((.iconst (5)), 1) := by decide +kernel
theorem dNm_symbolOf_2 : decode mNm_symbolOf.2.2.2.1 2 = .ok ((.bipush (11)), 2) := by decide +kernel
theorem dNm_symbolOf_4 : decode mNm_symbolOf.2.2.2.1 4 = .ok ((.iload_n 2), 1) := by decide +kernel
theorem dNm_symbolOf_5 : decode mNm_symbolOf.2.2.2.1 5 = .ok (.isub, 1) := by decide +kernel
theorem dNm_symbolOf_6 : decode mNm_symbolOf.2.2.2.1 6 = .ok (.imul, 1) := by decide +kernel
theorem dNm_symbolOf_7 : decode mNm_symbolOf.2.2.2.1 7 = .ok (.lushr, 1) := by decide +kernel
theorem dNm_symbolOf_8 : decode mNm_symbolOf.2.2.2.1 8 = .ok (.l2i, 1) := by decide +kernel
theorem dNm_symbolOf_9 : decode mNm_symbolOf.2.2.2.1 9 = .ok ((.bipush (31)), 2) := by decide +kernel
theorem dNm_symbolOf_11 : decode mNm_symbolOf.2.2.2.1 11 = .ok (.iand, 1) := by decide +kernel
theorem dNm_symbolOf_12 : decode mNm_symbolOf.2.2.2.1 12 = .ok (.ireturn, 1) := by decide +kernel
theorem dNm_keyOf_0 : decode mNm_keyOf.2.2.2.1 0 = .ok ((.lconst 0), 1) := by decide +kernel
theorem dNm_keyOf_1 : decode mNm_keyOf.2.2.2.1 1 = .ok ((.lstore_n 2), 1) := by decide +kernel
theorem dNm_keyOf_2 : decode mNm_keyOf.2.2.2.1 2 = .ok ((.iconst (0)), 1) := by decide +kernel
theorem dNm_keyOf_3 : decode mNm_keyOf.2.2.2.1 3 = .ok ((.istore 4), 2) := by decide +kernel
theorem dNm_keyOf_5 : decode mNm_keyOf.2.2.2.1 5 = .ok ((.iload 4), 2) := by decide +kernel
theorem dNm_keyOf_7 : decode mNm_keyOf.2.2.2.1 7 = .ok ((.bipush (12)), 2) := by decide +kernel
theorem dNm_keyOf_9 : decode mNm_keyOf.2.2.2.1 9 = .ok ((.if_icmp .ge (42)), 3) := by decide +kernel
theorem dNm_keyOf_12 : decode mNm_keyOf.2.2.2.1 12 = .ok ((.lload_n 0), 1) := by decide +kernel
theorem dNm_keyOf_13 : decode mNm_keyOf.2.2.2.1 13 = .ok ((.iconst (5)), 1) := by decide +kernel
theorem dNm_keyOf_14 : decode mNm_keyOf.2.2.2.1 14 = .ok ((.iload 4), 2) := by decide +kernel
theorem dNm_keyOf_16 : decode mNm_keyOf.2.2.2.1 16 = .ok (.imul, 1) := by decide +kernel
theorem dNm_keyOf_17 : decode mNm_keyOf.2.2.2.1 17 = .ok (.lushr, 1) := by decide +kernel
theorem dNm_keyOf_18 : decode mNm_keyOf.2.2.2.1 18 = .ok ((.ldc2_w 9), 3) := by decide +kernel
theorem dNm_keyOf_21 : decode mNm_keyOf.2.2.2.1 21 = .ok (.land, 1) := by decide +kernel
theorem dNm_keyOf_22 : decode mNm_keyOf.2.2.2.1 22 = .ok ((.lstore 5), 2) := by decide +kernel
theorem dNm_keyOf_24 : decode mNm_keyOf.2.2.2.1 24 = .ok ((.lload 5), 2) := by decide +kernel
theorem dNm_keyOf_26 : decode mNm_keyOf.2.2.2.1 26 = .ok ((.lconst 0), 1) := by decide +kernel
theorem dNm_keyOf_27 : decode mNm_keyOf.2.2.2.1 27 = .ok (.lcmp, 1) := by decide +kernel
theorem dNm_keyOf_28 : decode mNm_keyOf.2.2.2.1 28 = .ok ((.ifCond .ne (6)), 3) := by decide +kernel
theorem dNm_keyOf_31 : decode mNm_keyOf.2.2.2.1 31 = .ok ((.goto (20)), 3) := by decide +kernel
theorem dNm_keyOf_34 : decode mNm_keyOf.2.2.2.1 34 = .ok ((.lload_n 2), 1) := by decide +kernel
theorem dNm_keyOf_35 : decode mNm_keyOf.2.2.2.1 35 = .ok ((.lload 5), 2) := by decide +kernel
theorem dNm_keyOf_37 : decode mNm_keyOf.2.2.2.1 37 = .ok ((.iload 4), 2) := by decide +kernel
theorem dNm_keyOf_39 : decode mNm_keyOf.2.2.2.1 39 = .ok ((.invokestatic 11), 3) := by decide +kernel
theorem dNm_keyOf_42 : decode mNm_keyOf.2.2.2.1 42 = .ok (.lshl, 1) := by decide +kernel
theorem dNm_keyOf_43 : decode mNm_keyOf.2.2.2.1 43 = .ok (.lor, 1) := by decide +kernel
theorem dNm_keyOf_44 : decode mNm_keyOf.2.2.2.1 44 = .ok ((.lstore_n 2), 1) := by decide +kernel
theorem dNm_keyOf_45 : decode mNm_keyOf.2.2.2.1 45 = .ok ((.iinc 4 (1)), 3) := by decide +kernel
theorem dNm_keyOf_48 : decode mNm_keyOf.2.2.2.1 48 = .ok ((.goto (-43)), 3) := by decide +kernel
theorem dNm_keyOf_51 : decode mNm_keyOf.2.2.2.1 51 = .ok ((.lload_n 2), 1) := by decide +kernel
theorem dNm_keyOf_52 : decode mNm_keyOf.2.2.2.1 52 = .ok (.lreturn, 1) := by decide +kernel
theorem dNm_nameOf_0 : decode mNm_nameOf.2.2.2.1 0 = .ok ((.lconst 0), 1) := by decide +kernel
theorem dNm_nameOf_1 : decode mNm_nameOf.2.2.2.1 1 = .ok ((.lstore_n 2), 1) := by decide +kernel
theorem dNm_nameOf_2 : decode mNm_nameOf.2.2.2.1 2 = .ok ((.iconst (0)), 1) := by decide +kernel
theorem dNm_nameOf_3 : decode mNm_nameOf.2.2.2.1 3 = .ok ((.istore 4), 2) := by decide +kernel
theorem dNm_nameOf_5 : decode mNm_nameOf.2.2.2.1 5 = .ok ((.iload 4), 2) := by decide +kernel
theorem dNm_nameOf_7 : decode mNm_nameOf.2.2.2.1 7 = .ok ((.bipush (12)), 2) := by decide +kernel
theorem dNm_nameOf_9 : decode mNm_nameOf.2.2.2.1 9 = .ok ((.if_icmp .ge (24)), 3) := by decide +kernel
theorem dNm_nameOf_12 : decode mNm_nameOf.2.2.2.1 12 = .ok ((.lload_n 2), 1) := by decide +kernel
theorem dNm_nameOf_13 : decode mNm_nameOf.2.2.2.1 13 = .ok ((.lload_n 0), 1) := by decide +kernel
theorem dNm_nameOf_14 : decode mNm_nameOf.2.2.2.1 14 = .ok ((.iload 4), 2) := by decide +kernel
theorem dNm_nameOf_16 : decode mNm_nameOf.2.2.2.1 16 = .ok ((.invokestatic 15), 3) := by decide +kernel
theorem dNm_nameOf_19 : decode mNm_nameOf.2.2.2.1 19 = .ok (.i2l, 1) := by decide +kernel
theorem dNm_nameOf_20 : decode mNm_nameOf.2.2.2.1 20 = .ok ((.iconst (5)), 1) := by decide +kernel
theorem dNm_nameOf_21 : decode mNm_nameOf.2.2.2.1 21 = .ok ((.iload 4), 2) := by decide +kernel
theorem dNm_nameOf_23 : decode mNm_nameOf.2.2.2.1 23 = .ok (.imul, 1) := by decide +kernel
theorem dNm_nameOf_24 : decode mNm_nameOf.2.2.2.1 24 = .ok (.lshl, 1) := by decide +kernel
theorem dNm_nameOf_25 : decode mNm_nameOf.2.2.2.1 25 = .ok (.lor, 1) := by decide +kernel
theorem dNm_nameOf_26 : decode mNm_nameOf.2.2.2.1 26 = .ok ((.lstore_n 2), 1) := by decide +kernel
theorem dNm_nameOf_27 : decode mNm_nameOf.2.2.2.1 27 = .ok ((.iinc 4 (1)), 3) := by decide +kernel
theorem dNm_nameOf_30 : decode mNm_nameOf.2.2.2.1 30 = .ok ((.goto (-25)), 3) := by decide +kernel
theorem dNm_nameOf_33 : decode mNm_nameOf.2.2.2.1 33 = .ok ((.lload_n 2), 1) := by decide +kernel
theorem dNm_nameOf_34 : decode mNm_nameOf.2.2.2.1 34 = .ok (.lreturn, 1) := by decide +kernel
theorem dNm_goodKey_0 : decode mNm_goodKey.2.2.2.1 0 = .ok ((.lload_n 0), 1) := by decide +kernel
theorem dNm_goodKey_1 : decode mNm_goodKey.2.2.2.1 1 = .ok ((.invokestatic 19), 3) := by decide +kernel
theorem dNm_goodKey_4 : decode mNm_goodKey.2.2.2.1 4 = .ok ((.lstore_n 2), 1) := by decide +kernel
theorem dNm_goodKey_5 : decode mNm_goodKey.2.2.2.1 5 = .ok ((.lload_n 2), 1) := by decide +kernel
theorem dNm_goodKey_6 : decode mNm_goodKey.2.2.2.1 6 = .ok ((.invokestatic 23), 3) := by decide +kernel
theorem dNm_goodKey_9 : decode mNm_goodKey.2.2.2.1 9 = .ok ((.lload_n 0), 1) := by decide +kernel
theorem dNm_goodKey_10 : decode mNm_goodKey.2.2.2.1 10 = .ok (.lcmp, 1) := by decide +kernel
theorem dNm_goodKey_11 : decode mNm_goodKey.2.2.2.1 11 = .ok ((.ifCond .ne (14)), 3) := by decide +kernel
theorem dNm_goodKey_14 : decode mNm_goodKey.2.2.2.1 14 = .ok ((.lload_n 2), 1) := by decide +kernel
theorem dNm_goodKey_15 : decode mNm_goodKey.2.2.2.1 15 = .ok ((.invokestatic 26), 3) := by decide +kernel
theorem dNm_goodKey_18 : decode mNm_goodKey.2.2.2.1 18 = .ok ((.ifCond .eq (7)), 3) := by decide +kernel
theorem dNm_goodKey_21 : decode mNm_goodKey.2.2.2.1 21 = .ok ((.lload_n 2), 1) := by decide +kernel
theorem dNm_goodKey_22 : decode mNm_goodKey.2.2.2.1 22 = .ok ((.goto (4)), 3) := by decide +kernel
theorem dNm_goodKey_25 : decode mNm_goodKey.2.2.2.1 25 = .ok ((.lconst 0), 1) := by decide +kernel
theorem dNm_goodKey_26 : decode mNm_goodKey.2.2.2.1 26 = .ok (.lreturn, 1) := by decide +kernel
theorem dNm_isGood_0 : decode mNm_isGood.2.2.2.1 0 = .ok ((.iconst (1)), 1) := by decide +kernel
theorem dNm_isGood_1 : decode mNm_isGood.2.2.2.1 1 = .ok ((.istore_n 2), 1) := by decide +kernel
theorem dNm_isGood_2 : decode mNm_isGood.2.2.2.1 2 = .ok ((.iconst (0)), 1) := by decide +kernel
theorem dNm_isGood_3 : decode mNm_isGood.2.2.2.1 3 = .ok ((.istore_n 3), 1) := by decide +kernel
theorem dNm_isGood_4 : decode mNm_isGood.2.2.2.1 4 = .ok ((.iload_n 3), 1) := by decide +kernel
theorem dNm_isGood_5 : decode mNm_isGood.2.2.2.1 5 = .ok ((.bipush (12)), 2) := by decide +kernel
theorem dNm_isGood_7 : decode mNm_isGood.2.2.2.1 7 = .ok ((.if_icmp .ge (59)), 3) := by decide +kernel
theorem dNm_isGood_10 : decode mNm_isGood.2.2.2.1 10 = .ok ((.lload_n 0), 1) := by decide +kernel
theorem dNm_isGood_11 : decode mNm_isGood.2.2.2.1 11 = .ok ((.iload_n 3), 1) := by decide +kernel
theorem dNm_isGood_12 : decode mNm_isGood.2.2.2.1 12 = .ok ((.invokestatic 15), 3) := by decide +kernel
theorem dNm_isGood_15 : decode mNm_isGood.2.2.2.1 15 = .ok ((.istore 4), 2) := by decide +kernel
theorem dNm_isGood_17 : decode mNm_isGood.2.2.2.1 17 = .ok ((.iload 4), 2) := by decide +kernel
theorem dNm_isGood_19 : decode mNm_isGood.2.2.2.1 19 = .ok ((.ifCond .ne (6)), 3) := by decide +kernel
theorem dNm_isGood_22 : decode mNm_isGood.2.2.2.1 22 = .ok ((.goto (44)), 3) := by decide +kernel
theorem dNm_isGood_25 : decode mNm_isGood.2.2.2.1 25 = .ok ((.iload 4), 2) := by decide +kernel
theorem dNm_isGood_27 : decode mNm_isGood.2.2.2.1 27 = .ok ((.bipush (27)), 2) := by decide +kernel
theorem dNm_isGood_29 : decode mNm_isGood.2.2.2.1 29 = .ok ((.if_icmp .eq (10)), 3) := by decide +kernel
theorem dNm_isGood_32 : decode mNm_isGood.2.2.2.1 32 = .ok ((.iload 4), 2) := by decide +kernel
theorem dNm_isGood_34 : decode mNm_isGood.2.2.2.1 34 = .ok ((.bipush (28)), 2) := by decide +kernel
theorem dNm_isGood_36 : decode mNm_isGood.2.2.2.1 36 = .ok ((.if_icmp .ne (7)), 3) := by decide +kernel
theorem dNm_isGood_39 : decode mNm_isGood.2.2.2.1 39 = .ok ((.iconst (1)), 1) := by decide +kernel
theorem dNm_isGood_40 : decode mNm_isGood.2.2.2.1 40 = .ok ((.goto (4)), 3) := by decide +kernel
theorem dNm_isGood_43 : decode mNm_isGood.2.2.2.1 43 = .ok ((.iconst (0)), 1) := by decide +kernel
theorem dNm_isGood_44 : decode mNm_isGood.2.2.2.1 44 = .ok ((.istore 5), 2) := by decide +kernel
theorem dNm_isGood_46 : decode mNm_isGood.2.2.2.1 46 = .ok ((.iload 5), 2) := by decide +kernel
theorem dNm_isGood_48 : decode mNm_isGood.2.2.2.1 48 = .ok ((.ifCond .eq (9)), 3) := by decide +kernel
theorem dNm_isGood_51 : decode mNm_isGood.2.2.2.1 51 = .ok ((.iload_n 2), 1) := by decide +kernel
theorem dNm_isGood_52 : decode mNm_isGood.2.2.2.1 52 = .ok ((.ifCond .eq (5)), 3) := by decide +kernel
theorem dNm_isGood_55 : decode mNm_isGood.2.2.2.1 55 = .ok ((.iconst (0)), 1) := by decide +kernel
theorem dNm_isGood_56 : decode mNm_isGood.2.2.2.1 56 = .ok (.ireturn, 1) := by decide +kernel
theorem dNm_isGood_57 : decode mNm_isGood.2.2.2.1 57 = .ok ((.iload 5), 2) := by decide +kernel
theorem dNm_isGood_59 : decode mNm_isGood.2.2.2.1 59 = .ok ((.istore_n 2), 1) := by decide +kernel
theorem dNm_isGood_60 : decode mNm_isGood.2.2.2.1 60 = .ok ((.iinc 3 (1)), 3) := by decide +kernel
theorem dNm_isGood_63 : decode mNm_isGood.2.2.2.1 63 = .ok ((.goto (-59)), 3) := by decide +kernel
theorem dNm_isGood_66 : decode mNm_isGood.2.2.2.1 66 = .ok ((.iload_n 2), 1) := by decide +kernel
theorem dNm_isGood_67 : decode mNm_isGood.2.2.2.1 67 = .ok ((.ifCond .ne (17)), 3) := by decide +kernel
theorem dNm_isGood_70 : decode mNm_isGood.2.2.2.1 70 = .ok ((.lload_n 0), 1) := by decide +kernel
theorem dNm_isGood_71 : decode mNm_isGood.2.2.2.1 71 = .ok ((.iconst (0)), 1) := by decide +kernel
theorem dNm_isGood_72 : decode mNm_isGood.2.2.2.1 72 = .ok ((.invokestatic 15), 3) := by decide +kernel
theorem dNm_isGood_75 : decode mNm_isGood.2.2.2.1 75 = .ok ((.bipush (29)), 2) := by decide +kernel
theorem dNm_isGood_77 : decode mNm_isGood.2.2.2.1 77 = .ok ((.if_icmp .eq (7)), 3) := by decide +kernel
theorem dNm_isGood_80 : decode mNm_isGood.2.2.2.1 80 = .ok ((.iconst (1)), 1) := by decide +kernel
theorem dNm_isGood_81 : decode mNm_isGood.2.2.2.1 81 = .ok ((.goto (4)), 3) := by decide +kernel
theorem dNm_isGood_84 : decode mNm_isGood.2.2.2.1 84 = .ok ((.iconst (0)), 1) := by decide +kernel
theorem dNm_isGood_85 : decode mNm_isGood.2.2.2.1 85 = .ok (.ireturn, 1) := by decide +kernel
theorem dNm_lengthOf_0 : decode mNm_lengthOf.2.2.2.1 0 = .ok ((.lload_n 0), 1) := by decide +kernel
theorem dNm_lengthOf_1 : decode mNm_lengthOf.2.2.2.1 1 = .ok ((.lload_n 0), 1) := by decide +kernel
theorem dNm_lengthOf_2 : decode mNm_lengthOf.2.2.2.1 2 = .ok ((.invokestatic 30), 3) := by decide +kernel
theorem dNm_lengthOf_5 : decode mNm_lengthOf.2.2.2.1 5 = .ok (.ireturn, 1) := by decide +kernel
theorem dNm_alike_0 : decode mNm_alike.2.2.2.1 0 = .ok ((.iconst (0)), 1) := by decide +kernel
theorem dNm_alike_1 : decode mNm_alike.2.2.2.1 1 = .ok ((.istore 4), 2) := by decide +kernel
theorem dNm_alike_3 : decode mNm_alike.2.2.2.1 3 = .ok ((.bipush (55)), 2) := by decide +kernel
theorem dNm_alike_5 : decode mNm_alike.2.2.2.1 5 = .ok ((.istore 5), 2) := by decide +kernel
theorem dNm_alike_7 : decode mNm_alike.2.2.2.1 7 = .ok ((.iload 5), 2) := by decide +kernel
theorem dNm_alike_9 : decode mNm_alike.2.2.2.1 9 = .ok ((.ifCond .lt (46)), 3) := by decide +kernel
theorem dNm_alike_12 : decode mNm_alike.2.2.2.1 12 = .ok ((.lload_n 0), 1) := by decide +kernel
theorem dNm_alike_13 : decode mNm_alike.2.2.2.1 13 = .ok ((.iload 5), 2) := by decide +kernel
theorem dNm_alike_15 : decode mNm_alike.2.2.2.1 15 = .ok (.lushr, 1) := by decide +kernel
theorem dNm_alike_16 : decode mNm_alike.2.2.2.1 16 = .ok ((.ldc2_w 9), 3) := by decide +kernel
theorem dNm_alike_19 : decode mNm_alike.2.2.2.1 19 = .ok (.land, 1) := by decide +kernel
theorem dNm_alike_20 : decode mNm_alike.2.2.2.1 20 = .ok ((.lstore 6), 2) := by decide +kernel
theorem dNm_alike_22 : decode mNm_alike.2.2.2.1 22 = .ok ((.lload 6), 2) := by decide +kernel
theorem dNm_alike_24 : decode mNm_alike.2.2.2.1 24 = .ok ((.lconst 0), 1) := by decide +kernel
theorem dNm_alike_25 : decode mNm_alike.2.2.2.1 25 = .ok (.lcmp, 1) := by decide +kernel
theorem dNm_alike_26 : decode mNm_alike.2.2.2.1 26 = .ok ((.ifCond .eq (29)), 3) := by decide +kernel
theorem dNm_alike_29 : decode mNm_alike.2.2.2.1 29 = .ok ((.lload 6), 2) := by decide +kernel
theorem dNm_alike_31 : decode mNm_alike.2.2.2.1 31 = .ok ((.lload_n 2), 1) := by decide +kernel
theorem dNm_alike_32 : decode mNm_alike.2.2.2.1 32 = .ok ((.iload 5), 2) := by decide +kernel
theorem dNm_alike_34 : decode mNm_alike.2.2.2.1 34 = .ok (.lushr, 1) := by decide +kernel
theorem dNm_alike_35 : decode mNm_alike.2.2.2.1 35 = .ok ((.ldc2_w 9), 3) := by decide +kernel
theorem dNm_alike_38 : decode mNm_alike.2.2.2.1 38 = .ok (.land, 1) := by decide +kernel
theorem dNm_alike_39 : decode mNm_alike.2.2.2.1 39 = .ok (.lcmp, 1) := by decide +kernel
theorem dNm_alike_40 : decode mNm_alike.2.2.2.1 40 = .ok ((.ifCond .eq (6)), 3) := by decide +kernel
theorem dNm_alike_43 : decode mNm_alike.2.2.2.1 43 = .ok ((.goto (12)), 3) := by decide +kernel
theorem dNm_alike_46 : decode mNm_alike.2.2.2.1 46 = .ok ((.iinc 4 (1)), 3) := by decide +kernel
theorem dNm_alike_49 : decode mNm_alike.2.2.2.1 49 = .ok ((.iinc 5 (-5)), 3) := by decide +kernel
theorem dNm_alike_52 : decode mNm_alike.2.2.2.1 52 = .ok ((.goto (-45)), 3) := by decide +kernel
theorem dNm_alike_55 : decode mNm_alike.2.2.2.1 55 = .ok ((.iload 4), 2) := by decide +kernel
theorem dNm_alike_57 : decode mNm_alike.2.2.2.1 57 = .ok (.ireturn, 1) := by decide +kernel
theorem dNm_begins_0 : decode mNm_begins.2.2.2.1 0 = .ok ((.lload_n 0), 1) := by decide +kernel
theorem dNm_begins_1 : decode mNm_begins.2.2.2.1 1 = .ok ((.lload_n 2), 1) := by decide +kernel
theorem dNm_begins_2 : decode mNm_begins.2.2.2.1 2 = .ok ((.invokestatic 30), 3) := by decide +kernel
theorem dNm_begins_5 : decode mNm_begins.2.2.2.1 5 = .ok ((.lload_n 2), 1) := by decide +kernel
theorem dNm_begins_6 : decode mNm_begins.2.2.2.1 6 = .ok ((.invokestatic 34), 3) := by decide +kernel
theorem dNm_begins_9 : decode mNm_begins.2.2.2.1 9 = .ok ((.if_icmp .ne (7)), 3) := by decide +kernel
theorem dNm_begins_12 : decode mNm_begins.2.2.2.1 12 = .ok ((.iconst (1)), 1) := by decide +kernel
theorem dNm_begins_13 : decode mNm_begins.2.2.2.1 13 = .ok ((.goto (4)), 3) := by decide +kernel
theorem dNm_begins_16 : decode mNm_begins.2.2.2.1 16 = .ok ((.iconst (0)), 1) := by decide +kernel
theorem dNm_begins_17 : decode mNm_begins.2.2.2.1 17 = .ok (.ireturn, 1) := by decide +kernel
theorem dNm_isUnder_0 : decode mNm_isUnder.2.2.2.1 0 = .ok ((.lload_n 2), 1) := by decide +kernel
theorem dNm_isUnder_1 : decode mNm_isUnder.2.2.2.1 1 = .ok ((.invokestatic 34), 3) := by decide +kernel
theorem dNm_isUnder_4 : decode mNm_isUnder.2.2.2.1 4 = .ok ((.istore 4), 2) := by decide +kernel
theorem dNm_isUnder_6 : decode mNm_isUnder.2.2.2.1 6 = .ok ((.iload 4), 2) := by decide +kernel
theorem dNm_isUnder_8 : decode mNm_isUnder.2.2.2.1 8 = .ok ((.bipush (12)), 2) := by decide +kernel
theorem dNm_isUnder_10 : decode mNm_isUnder.2.2.2.1 10 = .ok ((.if_icmp .ge (26)), 3) := by decide +kernel
theorem dNm_isUnder_13 : decode mNm_isUnder.2.2.2.1 13 = .ok ((.lload_n 0), 1) := by decide +kernel
theorem dNm_isUnder_14 : decode mNm_isUnder.2.2.2.1 14 = .ok ((.lload_n 2), 1) := by decide +kernel
theorem dNm_isUnder_15 : decode mNm_isUnder.2.2.2.1 15 = .ok ((.invokestatic 38), 3) := by decide +kernel
theorem dNm_isUnder_18 : decode mNm_isUnder.2.2.2.1 18 = .ok ((.ifCond .eq (18)), 3) := by decide +kernel
theorem dNm_isUnder_21 : decode mNm_isUnder.2.2.2.1 21 = .ok ((.lload_n 0), 1) := by decide +kernel
theorem dNm_isUnder_22 : decode mNm_isUnder.2.2.2.1 22 = .ok ((.iload 4), 2) := by decide +kernel
theorem dNm_isUnder_24 : decode mNm_isUnder.2.2.2.1 24 = .ok ((.invokestatic 15), 3) := by decide +kernel
theorem dNm_isUnder_27 : decode mNm_isUnder.2.2.2.1 27 = .ok ((.bipush (27)), 2) := by decide +kernel
theorem dNm_isUnder_29 : decode mNm_isUnder.2.2.2.1 29 = .ok ((.if_icmp .ne (7)), 3) := by decide +kernel
theorem dNm_isUnder_32 : decode mNm_isUnder.2.2.2.1 32 = .ok ((.iconst (1)), 1) := by decide +kernel
theorem dNm_isUnder_33 : decode mNm_isUnder.2.2.2.1 33 = .ok ((.goto (4)), 3) := by decide +kernel
theorem dNm_isUnder_36 : decode mNm_isUnder.2.2.2.1 36 = .ok ((.iconst (0)), 1) := by decide +kernel
theorem dNm_isUnder_37 : decode mNm_isUnder.2.2.2.1 37 = .ok (.ireturn, 1) := by decide +kernel
theorem dRd_init_0 : decode mRd_init.2.2.2.1 0 = .ok ((.aload_n 0), 1) := by decide +kernel
theorem dRd_init_1 : decode mRd_init.2.2.2.1 1 = .ok ((.invokespecial 3), 3) := by decide +kernel
theorem dRd_init_4 : decode mRd_init.2.2.2.1 4 = .ok (.return_, 1) := by decide +kernel
theorem dRd_read_0 : decode mRd_read.2.2.2.1 0 = .ok ((.aload_n 0), 1) := by decide +kernel
theorem dRd_read_1 : decode mRd_read.2.2.2.1 1 = .ok ((.aload_n 1), 1) := by decide +kernel
theorem dRd_read_2 : decode mRd_read.2.2.2.1 2 = .ok ((.putfield 9), 3) := by decide +kernel
theorem dRd_read_5 : decode mRd_read.2.2.2.1 5 = .ok ((.aload_n 0), 1) := by decide +kernel
theorem dRd_read_6 : decode mRd_read.2.2.2.1 6 = .ok ((.iconst (0)), 1) := by decide +kernel
theorem dRd_read_7 : decode mRd_read.2.2.2.1 7 = .ok ((.putfield 15), 3) := by decide +kernel
theorem dRd_read_10 : decode mRd_read.2.2.2.1 10 = .ok ((.aload_n 0), 1) := by decide +kernel
theorem dRd_read_11 : decode mRd_read.2.2.2.1 11 = .ok ((.aload_n 1), 1) := by decide +kernel
theorem dRd_read_12 : decode mRd_read.2.2.2.1 12 = .ok ((.getfield 19), 3) := by decide +kernel
theorem dRd_read_15 : decode mRd_read.2.2.2.1 15 = .ok ((.iconst (2)), 1) := by decide +kernel
theorem dRd_read_16 : decode mRd_read.2.2.2.1 16 = .ok (.isub, 1) := by decide +kernel
theorem dRd_read_17 : decode mRd_read.2.2.2.1 17 = .ok ((.putfield 24), 3) := by decide +kernel
theorem dRd_read_20 : decode mRd_read.2.2.2.1 20 = .ok ((.aload_n 0), 1) := by decide +kernel
theorem dRd_read_21 : decode mRd_read.2.2.2.1 21 = .ok ((.iconst (0)), 1) := by decide +kernel
theorem dRd_read_22 : decode mRd_read.2.2.2.1 22 = .ok ((.putfield 27), 3) := by decide +kernel
theorem dRd_read_25 : decode mRd_read.2.2.2.1 25 = .ok ((.aload_n 0), 1) := by decide +kernel
theorem dRd_read_26 : decode mRd_read.2.2.2.1 26 = .ok ((.aload_n 0), 1) := by decide +kernel
theorem dRd_read_27 : decode mRd_read.2.2.2.1 27 = .ok ((.invokevirtual 31), 3) := by decide +kernel
theorem dRd_read_30 : decode mRd_read.2.2.2.1 30 = .ok ((.bipush (82)), 2) := by decide +kernel
theorem dRd_read_32 : decode mRd_read.2.2.2.1 32 = .ok ((.if_icmp .ne (7)), 3) := by decide +kernel
theorem dRd_read_35 : decode mRd_read.2.2.2.1 35 = .ok ((.iconst (1)), 1) := by decide +kernel
theorem dRd_read_36 : decode mRd_read.2.2.2.1 36 = .ok ((.goto (4)), 3) := by decide +kernel
theorem dRd_read_39 : decode mRd_read.2.2.2.1 39 = .ok ((.iconst (0)), 1) := by decide +kernel
theorem dRd_read_40 : decode mRd_read.2.2.2.1 40 = .ok ((.invokevirtual 35), 3) := by decide +kernel
theorem dRd_read_43 : decode mRd_read.2.2.2.1 43 = .ok ((.aload_n 0), 1) := by decide +kernel
theorem dRd_read_44 : decode mRd_read.2.2.2.1 44 = .ok ((.invokevirtual 39), 3) := by decide +kernel
theorem dRd_read_47 : decode mRd_read.2.2.2.1 47 = .ok ((.istore_n 2), 1) := by decide +kernel
theorem dRd_read_48 : decode mRd_read.2.2.2.1 48 = .ok ((.aload_n 0), 1) := by decide +kernel
theorem dRd_read_49 : decode mRd_read.2.2.2.1 49 = .ok ((.invokevirtual 39), 3) := by decide +kernel
theorem dRd_read_52 : decode mRd_read.2.2.2.1 52 = .ok ((.istore_n 3), 1) := by decide +kernel
theorem dRd_read_53 : decode mRd_read.2.2.2.1 53 = .ok ((.aload_n 0), 1) := by decide +kernel
theorem dRd_read_54 : decode mRd_read.2.2.2.1 54 = .ok ((.iconst (1)), 1) := by decide +kernel
theorem dRd_read_55 : decode mRd_read.2.2.2.1 55 = .ok ((.iload_n 2), 1) := by decide +kernel
theorem dRd_read_56 : decode mRd_read.2.2.2.1 56 = .ok ((.if_icmp .gt (19)), 3) := by decide +kernel
theorem dRd_read_59 : decode mRd_read.2.2.2.1 59 = .ok ((.iload_n 2), 1) := by decide +kernel
theorem dRd_read_60 : decode mRd_read.2.2.2.1 60 = .ok ((.iload_n 3), 1) := by decide +kernel
theorem dRd_read_61 : decode mRd_read.2.2.2.1 61 = .ok ((.if_icmp .gt (14)), 3) := by decide +kernel
theorem dRd_read_64 : decode mRd_read.2.2.2.1 64 = .ok ((.iload_n 3), 1) := by decide +kernel
theorem dRd_read_65 : decode mRd_read.2.2.2.1 65 = .ok ((.sipush (2000)), 3) := by decide +kernel
theorem dRd_read_68 : decode mRd_read.2.2.2.1 68 = .ok ((.if_icmp .gt (7)), 3) := by decide +kernel
theorem dRd_read_71 : decode mRd_read.2.2.2.1 71 = .ok ((.iconst (1)), 1) := by decide +kernel
theorem dRd_read_72 : decode mRd_read.2.2.2.1 72 = .ok ((.goto (4)), 3) := by decide +kernel
theorem dRd_read_75 : decode mRd_read.2.2.2.1 75 = .ok ((.iconst (0)), 1) := by decide +kernel
theorem dRd_read_76 : decode mRd_read.2.2.2.1 76 = .ok ((.invokevirtual 35), 3) := by decide +kernel
theorem dRd_read_79 : decode mRd_read.2.2.2.1 79 = .ok ((.aload_n 1), 1) := by decide +kernel
theorem dRd_read_80 : decode mRd_read.2.2.2.1 80 = .ok ((.iload_n 2), 1) := by decide +kernel
theorem dRd_read_81 : decode mRd_read.2.2.2.1 81 = .ok ((.iload_n 3), 1) := by decide +kernel
theorem dRd_read_82 : decode mRd_read.2.2.2.1 82 = .ok ((.invokevirtual 42), 3) := by decide +kernel
theorem dRd_read_85 : decode mRd_read.2.2.2.1 85 = .ok ((.aload_n 0), 1) := by decide +kernel
theorem dRd_read_86 : decode mRd_read.2.2.2.1 86 = .ok ((.invokevirtual 39), 3) := by decide +kernel
theorem dRd_read_89 : decode mRd_read.2.2.2.1 89 = .ok ((.istore 4), 2) := by decide +kernel
theorem dRd_read_91 : decode mRd_read.2.2.2.1 91 = .ok ((.aload_n 0), 1) := by decide +kernel
theorem dRd_read_92 : decode mRd_read.2.2.2.1 92 = .ok ((.iload 4), 2) := by decide +kernel
theorem dRd_read_94 : decode mRd_read.2.2.2.1 94 = .ok ((.bipush (30)), 2) := by decide +kernel
theorem dRd_read_96 : decode mRd_read.2.2.2.1 96 = .ok ((.if_icmp .gt (7)), 3) := by decide +kernel
theorem dRd_read_99 : decode mRd_read.2.2.2.1 99 = .ok ((.iconst (1)), 1) := by decide +kernel
theorem dRd_read_100 : decode mRd_read.2.2.2.1 100 = .ok ((.goto (4)), 3) := by decide +kernel
theorem dRd_read_103 : decode mRd_read.2.2.2.1 103 = .ok ((.iconst (0)), 1) := by decide +kernel
theorem dRd_read_104 : decode mRd_read.2.2.2.1 104 = .ok ((.invokevirtual 35), 3) := by decide +kernel
theorem dRd_read_107 : decode mRd_read.2.2.2.1 107 = .ok ((.iconst (0)), 1) := by decide +kernel
theorem dRd_read_108 : decode mRd_read.2.2.2.1 108 = .ok ((.istore 5), 2) := by decide +kernel
theorem dRd_read_110 : decode mRd_read.2.2.2.1 110 = .ok ((.iload 5), 2) := by decide +kernel
theorem dRd_read_112 : decode mRd_read.2.2.2.1 112 = .ok ((.iload 4), 2) := by decide +kernel
theorem dRd_read_114 : decode mRd_read.2.2.2.1 114 = .ok ((.if_icmp .ge (22)), 3) := by decide +kernel
theorem dRd_read_117 : decode mRd_read.2.2.2.1 117 = .ok ((.aload_n 0), 1) := by decide +kernel
theorem dRd_read_118 : decode mRd_read.2.2.2.1 118 = .ok ((.getfield 27), 3) := by decide +kernel
theorem dRd_read_121 : decode mRd_read.2.2.2.1 121 = .ok ((.ifCond .ne (15)), 3) := by decide +kernel
theorem dRd_read_124 : decode mRd_read.2.2.2.1 124 = .ok ((.aload_n 0), 1) := by decide +kernel
theorem dRd_read_125 : decode mRd_read.2.2.2.1 125 = .ok ((.iload 5), 2) := by decide +kernel
theorem dRd_read_127 : decode mRd_read.2.2.2.1 127 = .ok ((.invokevirtual 46), 3) := by decide +kernel
theorem dRd_read_130 : decode mRd_read.2.2.2.1 130 = .ok ((.iinc 5 (1)), 3) := by decide +kernel
theorem dRd_read_133 : decode mRd_read.2.2.2.1 133 = .ok ((.goto (-23)), 3) := by decide +kernel
theorem dRd_read_136 : decode mRd_read.2.2.2.1 136 = .ok ((.aload_n 0), 1) := by decide +kernel
theorem dRd_read_137 : decode mRd_read.2.2.2.1 137 = .ok ((.invokevirtual 39), 3) := by decide +kernel
theorem dRd_read_140 : decode mRd_read.2.2.2.1 140 = .ok ((.istore 5), 2) := by decide +kernel
theorem dRd_read_142 : decode mRd_read.2.2.2.1 142 = .ok ((.aload_n 0), 1) := by decide +kernel
theorem dRd_read_143 : decode mRd_read.2.2.2.1 143 = .ok ((.iload 5), 2) := by decide +kernel
theorem dRd_read_145 : decode mRd_read.2.2.2.1 145 = .ok ((.bipush (40)), 2) := by decide +kernel
theorem dRd_read_147 : decode mRd_read.2.2.2.1 147 = .ok ((.if_icmp .gt (7)), 3) := by decide +kernel
theorem dRd_read_150 : decode mRd_read.2.2.2.1 150 = .ok ((.iconst (1)), 1) := by decide +kernel
theorem dRd_read_151 : decode mRd_read.2.2.2.1 151 = .ok ((.goto (4)), 3) := by decide +kernel
theorem dRd_read_154 : decode mRd_read.2.2.2.1 154 = .ok ((.iconst (0)), 1) := by decide +kernel
theorem dRd_read_155 : decode mRd_read.2.2.2.1 155 = .ok ((.invokevirtual 35), 3) := by decide +kernel
theorem dRd_read_158 : decode mRd_read.2.2.2.1 158 = .ok ((.iconst (0)), 1) := by decide +kernel
theorem dRd_read_159 : decode mRd_read.2.2.2.1 159 = .ok ((.istore 6), 2) := by decide +kernel
theorem dRd_read_161 : decode mRd_read.2.2.2.1 161 = .ok ((.iload 6), 2) := by decide +kernel
theorem dRd_read_163 : decode mRd_read.2.2.2.1 163 = .ok ((.iload 5), 2) := by decide +kernel
theorem dRd_read_165 : decode mRd_read.2.2.2.1 165 = .ok ((.if_icmp .ge (22)), 3) := by decide +kernel
theorem dRd_read_168 : decode mRd_read.2.2.2.1 168 = .ok ((.aload_n 0), 1) := by decide +kernel
theorem dRd_read_169 : decode mRd_read.2.2.2.1 169 = .ok ((.getfield 27), 3) := by decide +kernel
theorem dRd_read_172 : decode mRd_read.2.2.2.1 172 = .ok ((.ifCond .ne (15)), 3) := by decide +kernel
theorem dRd_read_175 : decode mRd_read.2.2.2.1 175 = .ok ((.aload_n 0), 1) := by decide +kernel
theorem dRd_read_176 : decode mRd_read.2.2.2.1 176 = .ok ((.iload 6), 2) := by decide +kernel
theorem dRd_read_178 : decode mRd_read.2.2.2.1 178 = .ok ((.invokevirtual 50), 3) := by decide +kernel
theorem dRd_read_181 : decode mRd_read.2.2.2.1 181 = .ok ((.iinc 6 (1)), 3) := by decide +kernel
theorem dRd_read_184 : decode mRd_read.2.2.2.1 184 = .ok ((.goto (-23)), 3) := by decide +kernel
theorem dRd_read_187 : decode mRd_read.2.2.2.1 187 = .ok ((.aload_n 0), 1) := by decide +kernel
theorem dRd_read_188 : decode mRd_read.2.2.2.1 188 = .ok ((.aload_n 0), 1) := by decide +kernel
theorem dRd_read_189 : decode mRd_read.2.2.2.1 189 = .ok ((.getfield 15), 3) := by decide +kernel
theorem dRd_read_192 : decode mRd_read.2.2.2.1 192 = .ok ((.aload_n 0), 1) := by decide +kernel
theorem dRd_read_193 : decode mRd_read.2.2.2.1 193 = .ok ((.getfield 24), 3) := by decide +kernel
theorem dRd_read_196 : decode mRd_read.2.2.2.1 196 = .ok ((.if_icmp .ne (7)), 3) := by decide +kernel
theorem dRd_read_199 : decode mRd_read.2.2.2.1 199 = .ok ((.iconst (1)), 1) := by decide +kernel
theorem dRd_read_200 : decode mRd_read.2.2.2.1 200 = .ok ((.goto (4)), 3) := by decide +kernel
theorem dRd_read_203 : decode mRd_read.2.2.2.1 203 = .ok ((.iconst (0)), 1) := by decide +kernel
theorem dRd_read_204 : decode mRd_read.2.2.2.1 204 = .ok ((.invokevirtual 35), 3) := by decide +kernel
theorem dRd_read_207 : decode mRd_read.2.2.2.1 207 = .ok ((.aload_n 1), 1) := by decide +kernel
theorem dRd_read_208 : decode mRd_read.2.2.2.1 208 = .ok ((.aload_n 0), 1) := by decide +kernel
theorem dRd_read_209 : decode mRd_read.2.2.2.1 209 = .ok ((.getfield 27), 3) := by decide +kernel
theorem dRd_read_212 : decode mRd_read.2.2.2.1 212 = .ok ((.ifCond .ne (14)), 3) := by decide +kernel
theorem dRd_read_215 : decode mRd_read.2.2.2.1 215 = .ok ((.aload_n 0), 1) := by decide +kernel
theorem dRd_read_216 : decode mRd_read.2.2.2.1 216 = .ok ((.invokevirtual 53), 3) := by decide +kernel
theorem dRd_read_219 : decode mRd_read.2.2.2.1 219 = .ok ((.ifCond .eq (7)), 3) := by decide +kernel
theorem dRd_read_222 : decode mRd_read.2.2.2.1 222 = .ok ((.iconst (1)), 1) := by decide +kernel
theorem dRd_read_223 : decode mRd_read.2.2.2.1 223 = .ok ((.goto (4)), 3) := by decide +kernel
theorem dRd_read_226 : decode mRd_read.2.2.2.1 226 = .ok ((.iconst (0)), 1) := by decide +kernel
theorem dRd_read_227 : decode mRd_read.2.2.2.1 227 = .ok ((.putfield 57), 3) := by decide +kernel
theorem dRd_read_230 : decode mRd_read.2.2.2.1 230 = .ok (.return_, 1) := by decide +kernel
theorem dRd_require_0 : decode mRd_require.2.2.2.1 0 = .ok ((.iload_n 1), 1) := by decide +kernel
theorem dRd_require_1 : decode mRd_require.2.2.2.1 1 = .ok ((.ifCond .ne (8)), 3) := by decide +kernel
theorem dRd_require_4 : decode mRd_require.2.2.2.1 4 = .ok ((.aload_n 0), 1) := by decide +kernel
theorem dRd_require_5 : decode mRd_require.2.2.2.1 5 = .ok ((.iconst (1)), 1) := by decide +kernel
theorem dRd_require_6 : decode mRd_require.2.2.2.1 6 = .ok ((.putfield 27), 3) := by decide +kernel
theorem dRd_require_9 : decode mRd_require.2.2.2.1 9 = .ok (.return_, 1) := by decide +kernel
theorem dRd_checkIsRight_0 : decode mRd_checkIsRight.2.2.2.1 0 = .ok ((.aload_n 0), 1) := by decide +kernel
theorem dRd_checkIsRight_1 : decode mRd_checkIsRight.2.2.2.1 1 = .ok ((.getfield 24), 3) := by decide +kernel
theorem dRd_checkIsRight_4 : decode mRd_checkIsRight.2.2.2.1 4 = .ok ((.ifCond .lt (15)), 3) := by decide +kernel
theorem dRd_checkIsRight_7 : decode mRd_checkIsRight.2.2.2.1 7 = .ok ((.aload_n 0), 1) := by decide +kernel
theorem dRd_checkIsRight_8 : decode mRd_checkIsRight.2.2.2.1 8 = .ok ((.getfield 24), 3) := by decide +kernel
theorem dRd_checkIsRight_11 : decode mRd_checkIsRight.2.2.2.1 11 = .ok ((.iconst (1)), 1) := by decide +kernel
theorem dRd_checkIsRight_12 : decode mRd_checkIsRight.2.2.2.1 12 = .ok (.iadd, 1) := by decide +kernel
theorem dRd_checkIsRight_13 : decode mRd_checkIsRight.2.2.2.1 13 = .ok ((.sipush (1200)), 3) := by decide +kernel
theorem dRd_checkIsRight_16 : decode mRd_checkIsRight.2.2.2.1 16 = .ok ((.if_icmp .lt (5)), 3) := by decide +kernel
theorem dRd_checkIsRight_19 : decode mRd_checkIsRight.2.2.2.1 19 = .ok ((.iconst (0)), 1) := by decide +kernel
theorem dRd_checkIsRight_20 : decode mRd_checkIsRight.2.2.2.1 20 = .ok (.ireturn, 1) := by decide +kernel
theorem dRd_checkIsRight_21 : decode mRd_checkIsRight.2.2.2.1 21 = .ok ((.aload_n 0), 1) := by decide +kernel
theorem dRd_checkIsRight_22 : decode mRd_checkIsRight.2.2.2.1 22 = .ok ((.getfield 9), 3) := by decide +kernel
theorem dRd_checkIsRight_25 : decode mRd_checkIsRight.2.2.2.1 25 = .ok ((.aload_n 0), 1) := by decide +kernel
theorem dRd_checkIsRight_26 : decode mRd_checkIsRight.2.2.2.1 26 = .ok ((.getfield 24), 3) := by decide +kernel
theorem dRd_checkIsRight_29 : decode mRd_checkIsRight.2.2.2.1 29 = .ok ((.invokevirtual 60), 3) := by decide +kernel
theorem dRd_checkIsRight_32 : decode mRd_checkIsRight.2.2.2.1 32 = .ok ((.aload_n 0), 1) := by decide +kernel
theorem dRd_checkIsRight_33 : decode mRd_checkIsRight.2.2.2.1 33 = .ok ((.getfield 9), 3) := by decide +kernel
theorem dRd_checkIsRight_36 : decode mRd_checkIsRight.2.2.2.1 36 = .ok ((.getfield 64), 3) := by decide +kernel
theorem dRd_checkIsRight_39 : decode mRd_checkIsRight.2.2.2.1 39 = .ok ((.aload_n 0), 1) := by decide +kernel
theorem dRd_checkIsRight_40 : decode mRd_checkIsRight.2.2.2.1 40 = .ok ((.getfield 24), 3) := by decide +kernel
theorem dRd_checkIsRight_43 : decode mRd_checkIsRight.2.2.2.1 43 = .ok (.iaload, 1) := by decide +kernel
theorem dRd_checkIsRight_44 : decode mRd_checkIsRight.2.2.2.1 44 = .ok ((.bipush (8)), 2) := by decide +kernel
theorem dRd_checkIsRight_46 : decode mRd_checkIsRight.2.2.2.1 46 = .ok (.ishl, 1) := by decide +kernel
theorem dRd_checkIsRight_47 : decode mRd_checkIsRight.2.2.2.1 47 = .ok ((.aload_n 0), 1) := by decide +kernel
theorem dRd_checkIsRight_48 : decode mRd_checkIsRight.2.2.2.1 48 = .ok ((.getfield 9), 3) := by decide +kernel
theorem dRd_checkIsRight_51 : decode mRd_checkIsRight.2.2.2.1 51 = .ok ((.getfield 64), 3) := by decide +kernel
theorem dRd_checkIsRight_54 : decode mRd_checkIsRight.2.2.2.1 54 = .ok ((.aload_n 0), 1) := by decide +kernel
theorem dRd_checkIsRight_55 : decode mRd_checkIsRight.2.2.2.1 55 = .ok ((.getfield 24), 3) := by decide +kernel
theorem dRd_checkIsRight_58 : decode mRd_checkIsRight.2.2.2.1 58 = .ok ((.iconst (1)), 1) := by decide +kernel
theorem dRd_checkIsRight_59 : decode mRd_checkIsRight.2.2.2.1 59 = .ok (.iadd, 1) := by decide +kernel
theorem dRd_checkIsRight_60 : decode mRd_checkIsRight.2.2.2.1 60 = .ok (.iaload, 1) := by decide +kernel
theorem dRd_checkIsRight_61 : decode mRd_checkIsRight.2.2.2.1 61 = .ok (.ior, 1) := by decide +kernel
theorem dRd_checkIsRight_62 : decode mRd_checkIsRight.2.2.2.1 62 = .ok ((.if_icmp .ne (7)), 3) := by decide +kernel
theorem dRd_checkIsRight_65 : decode mRd_checkIsRight.2.2.2.1 65 = .ok ((.iconst (1)), 1) := by decide +kernel
theorem dRd_checkIsRight_66 : decode mRd_checkIsRight.2.2.2.1 66 = .ok ((.goto (4)), 3) := by decide +kernel
theorem dRd_checkIsRight_69 : decode mRd_checkIsRight.2.2.2.1 69 = .ok ((.iconst (0)), 1) := by decide +kernel
theorem dRd_checkIsRight_70 : decode mRd_checkIsRight.2.2.2.1 70 = .ok (.ireturn, 1) := by decide +kernel
