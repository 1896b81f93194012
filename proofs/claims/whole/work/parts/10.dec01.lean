theorem dRS_sound_0 : decode mRS_sound.2.2.2.1 0 = .ok ((.aload_n 0), 1) := by decide +kernel
theorem dRS_sound_1 : decode mRS_sound.2.2.2.1 1 = .ok ((.getfield 12), 3) := by decide +kernel
theorem dRS_sound_4 : decode mRS_sound.2.2.2.1 4 = .ok ((.iload_n 1), 1) := by decide +kernel
theorem dRS_sound_5 : decode mRS_sound.2.2.2.1 5 = .ok ((.invokevirtual 133), 3) := by decide +kernel
theorem dRS_sound_8 : decode mRS_sound.2.2.2.1 8 = .ok ((.astore_n 2), 1) := by decide +kernel
theorem dRS_sound_9 : decode mRS_sound.2.2.2.1 9 = .ok ((.aload_n 2), 1) := by decide +kernel
theorem dRS_sound_10 : decode mRS_sound.2.2.2.1 10 = .ok ((.ifnull (14)), 3) := by decide +kernel
theorem dRS_sound_13 : decode mRS_sound.2.2.2.1 13 = .ok ((.aload_n 2), 1) := by decide +kernel
theorem dRS_sound_14 : decode mRS_sound.2.2.2.1 14 = .ok ((.getfield 150), 3) := by decide +kernel
theorem dRS_sound_17 : decode mRS_sound.2.2.2.1 17 = .ok ((.ifCond .eq (7)), 3) := by decide +kernel
theorem dRS_sound_20 : decode mRS_sound.2.2.2.1 20 = .ok ((.iconst (1)), 1) := by decide +kernel
theorem dRS_sound_21 : decode mRS_sound.2.2.2.1 21 = .ok ((.goto (4)), 3) := by decide +kernel
theorem dRS_sound_24 : decode mRS_sound.2.2.2.1 24 = .ok ((.iconst (0)), 1) := by decide +kernel
theorem dRS_sound_25 : decode mRS_sound.2.2.2.1 25 = .ok (.ireturn, 1) := by decide +kernel
theorem dRS_records_0 : decode mRS_records.2.2.2.1 0 = .ok ((.aload_n 0), 1) := by decide +kernel
theorem dRS_records_1 : decode mRS_records.2.2.2.1 1 = .ok ((.getfield 12), 3) := by decide +kernel
theorem dRS_records_4 : decode mRS_records.2.2.2.1 4 = .ok ((.iload_n 1), 1) := by decide +kernel
theorem dRS_records_5 : decode mRS_records.2.2.2.1 5 = .ok ((.invokevirtual 133), 3) := by decide +kernel
theorem dRS_records_8 : decode mRS_records.2.2.2.1 8 = .ok ((.astore_n 2), 1) := by decide +kernel
theorem dRS_records_9 : decode mRS_records.2.2.2.1 9 = .ok ((.aload_n 2), 1) := by decide +kernel
theorem dRS_records_10 : decode mRS_records.2.2.2.1 10 = .ok ((.ifnull (20)), 3) := by decide +kernel
theorem dRS_records_13 : decode mRS_records.2.2.2.1 13 = .ok ((.aload_n 2), 1) := by decide +kernel
theorem dRS_records_14 : decode mRS_records.2.2.2.1 14 = .ok ((.getfield 150), 3) := by decide +kernel
theorem dRS_records_17 : decode mRS_records.2.2.2.1 17 = .ok ((.ifCond .eq (13)), 3) := by decide +kernel
theorem dRS_records_20 : decode mRS_records.2.2.2.1 20 = .ok ((.aload_n 2), 1) := by decide +kernel
theorem dRS_records_21 : decode mRS_records.2.2.2.1 21 = .ok ((.getfield 153), 3) := by decide +kernel
theorem dRS_records_24 : decode mRS_records.2.2.2.1 24 = .ok ((.getfield 157), 3) := by decide +kernel
theorem dRS_records_27 : decode mRS_records.2.2.2.1 27 = .ok ((.goto (4)), 3) := by decide +kernel
theorem dRS_records_30 : decode mRS_records.2.2.2.1 30 = .ok ((.iconst (-1)), 1) := by decide +kernel
theorem dRS_records_31 : decode mRS_records.2.2.2.1 31 = .ok (.ireturn, 1) := by decide +kernel
theorem dRS_numberOrLinked_0 : decode mRS_numberOrLinked.2.2.2.1 0 = .ok ((.lload_n 0), 1) := by decide +kernel
theorem dRS_numberOrLinked_1 : decode mRS_numberOrLinked.2.2.2.1 1 = .ok ((.lconst 0), 1) := by decide +kernel
theorem dRS_numberOrLinked_2 : decode mRS_numberOrLinked.2.2.2.1 2 = .ok (.lcmp, 1) := by decide +kernel
theorem dRS_numberOrLinked_3 : decode mRS_numberOrLinked.2.2.2.1 3 = .ok ((.ifCond .ge (8)), 3) := by decide +kernel
theorem dRS_numberOrLinked_6 : decode mRS_numberOrLinked.2.2.2.1 6 = .ok ((.bipush (-4)), 2) := by decide +kernel
theorem dRS_numberOrLinked_8 : decode mRS_numberOrLinked.2.2.2.1 8 = .ok ((.goto (5)), 3) := by decide +kernel
theorem dRS_numberOrLinked_11 : decode mRS_numberOrLinked.2.2.2.1 11 = .ok ((.lload_n 0), 1) := by decide +kernel
theorem dRS_numberOrLinked_12 : decode mRS_numberOrLinked.2.2.2.1 12 = .ok (.l2i, 1) := by decide +kernel
theorem dRS_numberOrLinked_13 : decode mRS_numberOrLinked.2.2.2.1 13 = .ok (.ireturn, 1) := by decide +kernel
theorem dRS_refusal_0 : decode mRS_refusal.2.2.2.1 0 = .ok ((.bipush (-100)), 2) := by decide +kernel
theorem dRS_refusal_2 : decode mRS_refusal.2.2.2.1 2 = .ok ((.iload_n 0), 1) := by decide +kernel
theorem dRS_refusal_3 : decode mRS_refusal.2.2.2.1 3 = .ok ((.iconst (1)), 1) := by decide +kernel
theorem dRS_refusal_4 : decode mRS_refusal.2.2.2.1 4 = .ok (.iadd, 1) := by decide +kernel
theorem dRS_refusal_5 : decode mRS_refusal.2.2.2.1 5 = .ok (.imul, 1) := by decide +kernel
theorem dRS_refusal_6 : decode mRS_refusal.2.2.2.1 6 = .ok ((.iload_n 1), 1) := by decide +kernel
theorem dRS_refusal_7 : decode mRS_refusal.2.2.2.1 7 = .ok (.isub, 1) := by decide +kernel
theorem dRS_refusal_8 : decode mRS_refusal.2.2.2.1 8 = .ok (.ireturn, 1) := by decide +kernel
theorem dRS_partOfEntry_0 : decode mRS_partOfEntry.2.2.2.1 0 = .ok ((.iload_n 1), 1) := by decide +kernel
theorem dRS_partOfEntry_1 : decode mRS_partOfEntry.2.2.2.1 1 = .ok ((.tableswitch (48) (0) (2) #[27, 32, 40]), 27) := by decide +kernel
theorem dRS_partOfEntry_28 : decode mRS_partOfEntry.2.2.2.1 28 = .ok ((.aload_n 0), 1) := by decide +kernel
theorem dRS_partOfEntry_29 : decode mRS_partOfEntry.2.2.2.1 29 = .ok ((.getfield 160), 3) := by decide +kernel
theorem dRS_partOfEntry_32 : decode mRS_partOfEntry.2.2.2.1 32 = .ok (.ireturn, 1) := by decide +kernel
theorem dRS_partOfEntry_33 : decode mRS_partOfEntry.2.2.2.1 33 = .ok ((.aload_n 0), 1) := by decide +kernel
theorem dRS_partOfEntry_34 : decode mRS_partOfEntry.2.2.2.1 34 = .ok ((.getfield 104), 3) := by decide +kernel
theorem dRS_partOfEntry_37 : decode mRS_partOfEntry.2.2.2.1 37 = .ok ((.invokestatic 163), 3) := by decide +kernel
theorem dRS_partOfEntry_40 : decode mRS_partOfEntry.2.2.2.1 40 = .ok (.ireturn, 1) := by decide +kernel
theorem dRS_partOfEntry_41 : decode mRS_partOfEntry.2.2.2.1 41 = .ok ((.aload_n 0), 1) := by decide +kernel
theorem dRS_partOfEntry_42 : decode mRS_partOfEntry.2.2.2.1 42 = .ok ((.getfield 104), 3) := by decide +kernel
theorem dRS_partOfEntry_45 : decode mRS_partOfEntry.2.2.2.1 45 = .ok ((.invokestatic 166), 3) := by decide +kernel
theorem dRS_partOfEntry_48 : decode mRS_partOfEntry.2.2.2.1 48 = .ok (.ireturn, 1) := by decide +kernel
theorem dRS_partOfEntry_49 : decode mRS_partOfEntry.2.2.2.1 49 = .ok ((.iconst (-1)), 1) := by decide +kernel
theorem dRS_partOfEntry_50 : decode mRS_partOfEntry.2.2.2.1 50 = .ok (.ireturn, 1) := by decide +kernel
theorem dRS_firstUnexpected_0 : decode mRS_firstUnexpected.2.2.2.1 0 = .ok ((.iconst (0)), 1) := by decide +kernel
theorem dRS_firstUnexpected_1 : decode mRS_firstUnexpected.2.2.2.1 1 = .ok ((.istore_n 1), 1) := by decide +kernel
theorem dRS_firstUnexpected_2 : decode mRS_firstUnexpected.2.2.2.1 2 = .ok ((.iload_n 1), 1) := by decide +kernel
theorem dRS_firstUnexpected_3 : decode mRS_firstUnexpected.2.2.2.1 3 = .ok ((.aload_n 0), 1) := by decide +kernel
theorem dRS_firstUnexpected_4 : decode mRS_firstUnexpected.2.2.2.1 4 = .ok ((.getfield 19), 3) := by decide +kernel
theorem dRS_firstUnexpected_7 : decode mRS_firstUnexpected.2.2.2.1 7 = .ok ((.getfield 34), 3) := by decide +kernel
theorem dRS_firstUnexpected_10 : decode mRS_firstUnexpected.2.2.2.1 10 = .ok ((.if_icmp .ge (48)), 3) := by decide +kernel
theorem dRS_firstUnexpected_13 : decode mRS_firstUnexpected.2.2.2.1 13 = .ok ((.aload_n 0), 1) := by decide +kernel
theorem dRS_firstUnexpected_14 : decode mRS_firstUnexpected.2.2.2.1 14 = .ok ((.getfield 19), 3) := by decide +kernel
theorem dRS_firstUnexpected_17 : decode mRS_firstUnexpected.2.2.2.1 17 = .ok ((.getfield 169), 3) := by decide +kernel
theorem dRS_firstUnexpected_20 : decode mRS_firstUnexpected.2.2.2.1 20 = .ok ((.iload_n 1), 1) := by decide +kernel
theorem dRS_firstUnexpected_21 : decode mRS_firstUnexpected.2.2.2.1 21 = .ok (.iaload, 1) := by decide +kernel
theorem dRS_firstUnexpected_22 : decode mRS_firstUnexpected.2.2.2.1 22 = .ok ((.istore_n 2), 1) := by decide +kernel
theorem dRS_firstUnexpected_23 : decode mRS_firstUnexpected.2.2.2.1 23 = .ok ((.iload_n 2), 1) := by decide +kernel
theorem dRS_firstUnexpected_24 : decode mRS_firstUnexpected.2.2.2.1 24 = .ok ((.iconst (-1)), 1) := by decide +kernel
theorem dRS_firstUnexpected_25 : decode mRS_firstUnexpected.2.2.2.1 25 = .ok ((.if_icmp .eq (27)), 3) := by decide +kernel
theorem dRS_firstUnexpected_28 : decode mRS_firstUnexpected.2.2.2.1 28 = .ok ((.iload_n 2), 1) := by decide +kernel
theorem dRS_firstUnexpected_29 : decode mRS_firstUnexpected.2.2.2.1 29 = .ok (.i2l, 1) := by decide +kernel
theorem dRS_firstUnexpected_30 : decode mRS_firstUnexpected.2.2.2.1 30 = .ok ((.aload_n 0), 1) := by decide +kernel
theorem dRS_firstUnexpected_31 : decode mRS_firstUnexpected.2.2.2.1 31 = .ok ((.getfield 12), 3) := by decide +kernel
theorem dRS_firstUnexpected_34 : decode mRS_firstUnexpected.2.2.2.1 34 = .ok ((.aload_n 0), 1) := by decide +kernel
theorem dRS_firstUnexpected_35 : decode mRS_firstUnexpected.2.2.2.1 35 = .ok ((.getfield 19), 3) := by decide +kernel
theorem dRS_firstUnexpected_38 : decode mRS_firstUnexpected.2.2.2.1 38 = .ok ((.getfield 172), 3) := by decide +kernel
theorem dRS_firstUnexpected_41 : decode mRS_firstUnexpected.2.2.2.1 41 = .ok ((.iload_n 1), 1) := by decide +kernel
theorem dRS_firstUnexpected_42 : decode mRS_firstUnexpected.2.2.2.1 42 = .ok (.laload, 1) := by decide +kernel
theorem dRS_firstUnexpected_43 : decode mRS_firstUnexpected.2.2.2.1 43 = .ok ((.invokevirtual 77), 3) := by decide +kernel
theorem dRS_firstUnexpected_46 : decode mRS_firstUnexpected.2.2.2.1 46 = .ok (.lcmp, 1) := by decide +kernel
theorem dRS_firstUnexpected_47 : decode mRS_firstUnexpected.2.2.2.1 47 = .ok ((.ifCond .eq (5)), 3) := by decide +kernel
theorem dRS_firstUnexpected_50 : decode mRS_firstUnexpected.2.2.2.1 50 = .ok ((.iload_n 1), 1) := by decide +kernel
theorem dRS_firstUnexpected_51 : decode mRS_firstUnexpected.2.2.2.1 51 = .ok (.ireturn, 1) := by decide +kernel
theorem dRS_firstUnexpected_52 : decode mRS_firstUnexpected.2.2.2.1 52 = .ok ((.iinc 1 (1)), 3) := by decide +kernel
theorem dRS_firstUnexpected_55 : decode mRS_firstUnexpected.2.2.2.1 55 = .ok ((.goto (-53)), 3) := by decide +kernel
theorem dRS_firstUnexpected_58 : decode mRS_firstUnexpected.2.2.2.1 58 = .ok ((.iconst (-1)), 1) := by decide +kernel
theorem dRS_firstUnexpected_59 : decode mRS_firstUnexpected.2.2.2.1 59 = .ok (.ireturn, 1) := by decide +kernel
theorem dRS_firstClashing_0 : decode mRS_firstClashing.2.2.2.1 0 = .ok ((.iconst (0)), 1) := by decide +kernel
theorem dRS_firstClashing_1 : decode mRS_firstClashing.2.2.2.1 1 = .ok ((.istore_n 1), 1) := by decide +kernel
theorem dRS_firstClashing_2 : decode mRS_firstClashing.2.2.2.1 2 = .ok ((.iload_n 1), 1) := by decide +kernel
theorem dRS_firstClashing_3 : decode mRS_firstClashing.2.2.2.1 3 = .ok ((.aload_n 0), 1) := by decide +kernel
theorem dRS_firstClashing_4 : decode mRS_firstClashing.2.2.2.1 4 = .ok ((.getfield 19), 3) := by decide +kernel
theorem dRS_firstClashing_7 : decode mRS_firstClashing.2.2.2.1 7 = .ok ((.getfield 34), 3) := by decide +kernel
theorem dRS_firstClashing_10 : decode mRS_firstClashing.2.2.2.1 10 = .ok ((.if_icmp .ge (44)), 3) := by decide +kernel
theorem dRS_firstClashing_13 : decode mRS_firstClashing.2.2.2.1 13 = .ok ((.aload_n 0), 1) := by decide +kernel
theorem dRS_firstClashing_14 : decode mRS_firstClashing.2.2.2.1 14 = .ok ((.getfield 19), 3) := by decide +kernel
theorem dRS_firstClashing_17 : decode mRS_firstClashing.2.2.2.1 17 = .ok ((.getfield 176), 3) := by decide +kernel
theorem dRS_firstClashing_20 : decode mRS_firstClashing.2.2.2.1 20 = .ok ((.iload_n 1), 1) := by decide +kernel
theorem dRS_firstClashing_21 : decode mRS_firstClashing.2.2.2.1 21 = .ok (.laload, 1) := by decide +kernel
theorem dRS_firstClashing_22 : decode mRS_firstClashing.2.2.2.1 22 = .ok ((.lconst 0), 1) := by decide +kernel
theorem dRS_firstClashing_23 : decode mRS_firstClashing.2.2.2.1 23 = .ok (.lcmp, 1) := by decide +kernel
theorem dRS_firstClashing_24 : decode mRS_firstClashing.2.2.2.1 24 = .ok ((.ifCond .eq (24)), 3) := by decide +kernel
theorem dRS_firstClashing_27 : decode mRS_firstClashing.2.2.2.1 27 = .ok ((.aload_n 0), 1) := by decide +kernel
theorem dRS_firstClashing_28 : decode mRS_firstClashing.2.2.2.1 28 = .ok ((.getfield 12), 3) := by decide +kernel
theorem dRS_firstClashing_31 : decode mRS_firstClashing.2.2.2.1 31 = .ok ((.aload_n 0), 1) := by decide +kernel
theorem dRS_firstClashing_32 : decode mRS_firstClashing.2.2.2.1 32 = .ok ((.getfield 19), 3) := by decide +kernel
theorem dRS_firstClashing_35 : decode mRS_firstClashing.2.2.2.1 35 = .ok ((.getfield 172), 3) := by decide +kernel
theorem dRS_firstClashing_38 : decode mRS_firstClashing.2.2.2.1 38 = .ok ((.iload_n 1), 1) := by decide +kernel
theorem dRS_firstClashing_39 : decode mRS_firstClashing.2.2.2.1 39 = .ok (.laload, 1) := by decide +kernel
theorem dRS_firstClashing_40 : decode mRS_firstClashing.2.2.2.1 40 = .ok ((.invokevirtual 179), 3) := by decide +kernel
theorem dRS_firstClashing_43 : decode mRS_firstClashing.2.2.2.1 43 = .ok ((.ifCond .eq (5)), 3) := by decide +kernel
theorem dRS_firstClashing_46 : decode mRS_firstClashing.2.2.2.1 46 = .ok ((.iload_n 1), 1) := by decide +kernel
theorem dRS_firstClashing_47 : decode mRS_firstClashing.2.2.2.1 47 = .ok (.ireturn, 1) := by decide +kernel
theorem dRS_firstClashing_48 : decode mRS_firstClashing.2.2.2.1 48 = .ok ((.iinc 1 (1)), 3) := by decide +kernel
theorem dRS_firstClashing_51 : decode mRS_firstClashing.2.2.2.1 51 = .ok ((.goto (-49)), 3) := by decide +kernel
theorem dRS_firstClashing_54 : decode mRS_firstClashing.2.2.2.1 54 = .ok ((.iconst (-1)), 1) := by decide +kernel
theorem dRS_firstClashing_55 : decode mRS_firstClashing.2.2.2.1 55 = .ok (.ireturn, 1) := by decide +kernel
theorem dMd_init_0 : decode mMd_init.2.2.2.1 0 = .ok ((.aload_n 0), 1) := by decide +kernel
theorem dMd_init_1 : decode mMd_init.2.2.2.1 1 = .ok ((.invokespecial 1), 3) := by decide +kernel
theorem dMd_init_4 : decode mMd_init.2.2.2.1 4 = .ok ((.aload_n 0), 1) := by decide +kernel
theorem dMd_init_5 : decode mMd_init.2.2.2.1 5 = .ok ((.sipush (12000)), 3) := by decide +kernel
theorem dMd_init_8 : decode mMd_init.2.2.2.1 8 = .ok ((.newarray .byte), 2) := by decide +kernel
theorem dMd_init_10 : decode mMd_init.2.2.2.1 10 = .ok ((.putfield 7), 3) := by decide +kernel
theorem dMd_init_13 : decode mMd_init.2.2.2.1 13 = .ok ((.aload_n 0), 1) := by decide +kernel
theorem dMd_init_14 : decode mMd_init.2.2.2.1 14 = .ok ((.bipush (10)), 2) := by decide +kernel
theorem dMd_init_16 : decode mMd_init.2.2.2.1 16 = .ok ((.newarray .int), 2) := by decide +kernel
theorem dMd_init_18 : decode mMd_init.2.2.2.1 18 = .ok ((.putfield 13), 3) := by decide +kernel
theorem dMd_init_21 : decode mMd_init.2.2.2.1 21 = .ok ((.aload_n 0), 1) := by decide +kernel
theorem dMd_init_22 : decode mMd_init.2.2.2.1 22 = .ok ((.bipush (6)), 2) := by decide +kernel
theorem dMd_init_24 : decode mMd_init.2.2.2.1 24 = .ok ((.newarray .long), 2) := by decide +kernel
theorem dMd_init_26 : decode mMd_init.2.2.2.1 26 = .ok ((.putfield 17), 3) := by decide +kernel
theorem dMd_init_29 : decode mMd_init.2.2.2.1 29 = .ok ((.aload_n 0), 1) := by decide +kernel
theorem dMd_init_30 : decode mMd_init.2.2.2.1 30 = .ok ((.bipush (6)), 2) := by decide +kernel
theorem dMd_init_32 : decode mMd_init.2.2.2.1 32 = .ok ((.newarray .int), 2) := by decide +kernel
theorem dMd_init_34 : decode mMd_init.2.2.2.1 34 = .ok ((.putfield 21), 3) := by decide +kernel
theorem dMd_init_37 : decode mMd_init.2.2.2.1 37 = .ok ((.aload_n 0), 1) := by decide +kernel
theorem dMd_init_38 : decode mMd_init.2.2.2.1 38 = .ok ((.bipush (6)), 2) := by decide +kernel
theorem dMd_init_40 : decode mMd_init.2.2.2.1 40 = .ok ((.newarray .int), 2) := by decide +kernel
theorem dMd_init_42 : decode mMd_init.2.2.2.1 42 = .ok ((.putfield 24), 3) := by decide +kernel
theorem dMd_init_45 : decode mMd_init.2.2.2.1 45 = .ok ((.aload_n 0), 1) := by decide +kernel
theorem dMd_init_46 : decode mMd_init.2.2.2.1 46 = .ok ((.bipush (6)), 2) := by decide +kernel
theorem dMd_init_48 : decode mMd_init.2.2.2.1 48 = .ok ((.newarray .long), 2) := by decide +kernel
theorem dMd_init_50 : decode mMd_init.2.2.2.1 50 = .ok ((.putfield 27), 3) := by decide +kernel
theorem dMd_init_53 : decode mMd_init.2.2.2.1 53 = .ok ((.aload_n 0), 1) := by decide +kernel
theorem dMd_init_54 : decode mMd_init.2.2.2.1 54 = .ok ((.sipush (260)), 3) := by decide +kernel
theorem dMd_init_57 : decode mMd_init.2.2.2.1 57 = .ok ((.newarray .long), 2) := by decide +kernel
theorem dMd_init_59 : decode mMd_init.2.2.2.1 59 = .ok ((.putfield 30), 3) := by decide +kernel
theorem dMd_init_62 : decode mMd_init.2.2.2.1 62 = .ok ((.aload_n 0), 1) := by decide +kernel
theorem dMd_init_63 : decode mMd_init.2.2.2.1 63 = .ok ((.sipush (260)), 3) := by decide +kernel
theorem dMd_init_66 : decode mMd_init.2.2.2.1 66 = .ok ((.newarray .int), 2) := by decide +kernel
theorem dMd_init_68 : decode mMd_init.2.2.2.1 68 = .ok ((.putfield 33), 3) := by decide +kernel
theorem dMd_init_71 : decode mMd_init.2.2.2.1 71 = .ok ((.aload_n 0), 1) := by decide +kernel
theorem dMd_init_72 : decode mMd_init.2.2.2.1 72 = .ok ((.sipush (260)), 3) := by decide +kernel
theorem dMd_init_75 : decode mMd_init.2.2.2.1 75 = .ok ((.newarray .int), 2) := by decide +kernel
theorem dMd_init_77 : decode mMd_init.2.2.2.1 77 = .ok ((.putfield 36), 3) := by decide +kernel
theorem dMd_init_80 : decode mMd_init.2.2.2.1 80 = .ok ((.aload_n 0), 1) := by decide +kernel
theorem dMd_init_81 : decode mMd_init.2.2.2.1 81 = .ok ((.sipush (260)), 3) := by decide +kernel
theorem dMd_init_84 : decode mMd_init.2.2.2.1 84 = .ok ((.newarray .long), 2) := by decide +kernel
theorem dMd_init_86 : decode mMd_init.2.2.2.1 86 = .ok ((.putfield 39), 3) := by decide +kernel
theorem dMd_init_89 : decode mMd_init.2.2.2.1 89 = .ok ((.aload_n 0), 1) := by decide +kernel
theorem dMd_init_90 : decode mMd_init.2.2.2.1 90 = .ok ((.sipush (340)), 3) := by decide +kernel
theorem dMd_init_93 : decode mMd_init.2.2.2.1 93 = .ok ((.newarray .long), 2) := by decide +kernel
theorem dMd_init_95 : decode mMd_init.2.2.2.1 95 = .ok ((.putfield 42), 3) := by decide +kernel
theorem dMd_init_98 : decode mMd_init.2.2.2.1 98 = .ok ((.aload_n 0), 1) := by decide +kernel
theorem dMd_init_99 : decode mMd_init.2.2.2.1 99 = .ok ((.sipush (340)), 3) := by decide +kernel
theorem dMd_init_102 : decode mMd_init.2.2.2.1 102 = .ok ((.newarray .int), 2) := by decide +kernel
theorem dMd_init_104 : decode mMd_init.2.2.2.1 104 = .ok ((.putfield 45), 3) := by decide +kernel
theorem dMd_init_107 : decode mMd_init.2.2.2.1 107 = .ok ((.aload_n 0), 1) := by decide +kernel
theorem dMd_init_108 : decode mMd_init.2.2.2.1 108 = .ok ((.sipush (340)), 3) := by decide +kernel
theorem dMd_init_111 : decode mMd_init.2.2.2.1 111 = .ok ((.newarray .int), 2) := by decide +kernel
theorem dMd_init_113 : decode mMd_init.2.2.2.1 113 = .ok ((.putfield 48), 3) := by decide +kernel
theorem dMd_init_116 : decode mMd_init.2.2.2.1 116 = .ok ((.aload_n 0), 1) := by decide +kernel
theorem dMd_init_117 : decode mMd_init.2.2.2.1 117 = .ok ((.sipush (340)), 3) := by decide +kernel
theorem dMd_init_120 : decode mMd_init.2.2.2.1 120 = .ok ((.newarray .int), 2) := by decide +kernel
theorem dMd_init_122 : decode mMd_init.2.2.2.1 122 = .ok ((.putfield 51), 3) := by decide +kernel
theorem dMd_init_125 : decode mMd_init.2.2.2.1 125 = .ok ((.aload_n 0), 1) := by decide +kernel
theorem dMd_init_126 : decode mMd_init.2.2.2.1 126 = .ok ((.sipush (340)), 3) := by decide +kernel
theorem dMd_init_129 : decode mMd_init.2.2.2.1 129 = .ok ((.newarray .int), 2) := by decide +kernel
theorem dMd_init_131 : decode mMd_init.2.2.2.1 131 = .ok ((.putfield 54), 3) := by decide +kernel
theorem dMd_init_134 : decode mMd_init.2.2.2.1 134 = .ok ((.aload_n 0), 1) := by decide +kernel
theorem dMd_init_135 : decode mMd_init.2.2.2.1 135 = .ok ((.sipush (1200)), 3) := by decide +kernel
theorem dMd_init_138 : decode mMd_init.2.2.2.1 138 = .ok ((.newarray .byte), 2) := by decide +kernel
theorem dMd_init_140 : decode mMd_init.2.2.2.1 140 = .ok ((.putfield 57), 3) := by decide +kernel
theorem dMd_init_143 : decode mMd_init.2.2.2.1 143 = .ok (.return_, 1) := by decide +kernel
theorem dMd_within_0 : decode mMd_within.2.2.2.1 0 = .ok ((.iload_n 0), 1) := by decide +kernel
theorem dMd_within_1 : decode mMd_within.2.2.2.1 1 = .ok ((.iload_n 1), 1) := by decide +kernel
theorem dMd_within_2 : decode mMd_within.2.2.2.1 2 = .ok ((.if_icmp .lt (12)), 3) := by decide +kernel
theorem dMd_within_5 : decode mMd_within.2.2.2.1 5 = .ok ((.iload_n 0), 1) := by decide +kernel
theorem dMd_within_6 : decode mMd_within.2.2.2.1 6 = .ok ((.iload_n 2), 1) := by decide +kernel
theorem dMd_within_7 : decode mMd_within.2.2.2.1 7 = .ok ((.if_icmp .gt (7)), 3) := by decide +kernel
theorem dMd_within_10 : decode mMd_within.2.2.2.1 10 = .ok ((.iconst (1)), 1) := by decide +kernel
theorem dMd_within_11 : decode mMd_within.2.2.2.1 11 = .ok ((.goto (4)), 3) := by decide +kernel
theorem dMd_within_14 : decode mMd_within.2.2.2.1 14 = .ok ((.iconst (0)), 1) := by decide +kernel
theorem dMd_within_15 : decode mMd_within.2.2.2.1 15 = .ok (.ireturn, 1) := by decide +kernel
theorem dMd_symbol_0 : decode mMd_symbol.2.2.2.1 0 = .ok ((.iload_n 2), 1) := by decide +kernel
theorem dMd_symbol_1 : decode mMd_symbol.2.2.2.1 1 = .ok ((.bipush (11)), 2) := by decide +kernel
theorem dMd_symbol_3 : decode mMd_symbol.2.2.2.1 3 = .ok ((.if_icmp .le (7)), 3) := by decide +kernel
theorem dMd_symbol_6 : decode mMd_symbol.2.2.2.1 6 = .ok ((.iconst (0)), 1) := by decide +kernel
theorem dMd_symbol_7 : decode mMd_symbol.2.2.2.1 7 = .ok ((.goto (13)), 3) := by decide +kernel
theorem dMd_symbol_10 : decode mMd_symbol.2.2.2.1 10 = .ok ((.lload_n 0), 1) := by decide +kernel
theorem dMd_symbol_11 : decode mMd_symbol.2.2.2.1 11 = .ok ((.iconst (5)), 1) := by decide +kernel
theorem dMd_symbol_12 : decode mMd_symbol.2.2.2.1 12 = .ok ((.iload_n 2), 1) := by decide +kernel
theorem dMd_symbol_13 : decode mMd_symbol.2.2.2.1 13 = .ok (.imul, 1) := by decide +kernel
theorem dMd_symbol_14 : decode mMd_symbol.2.2.2.1 14 = .ok (.lushr, 1) := by decide +kernel
theorem dMd_symbol_15 : decode mMd_symbol.2.2.2.1 15 = .ok ((.ldc2_w 60), 3) := by decide +kernel
theorem dMd_symbol_18 : decode mMd_symbol.2.2.2.1 18 = .ok (.land, 1) := by decide +kernel
theorem dMd_symbol_19 : decode mMd_symbol.2.2.2.1 19 = .ok (.l2i, 1) := by decide +kernel
theorem dMd_symbol_20 : decode mMd_symbol.2.2.2.1 20 = .ok (.ireturn, 1) := by decide +kernel
theorem dMd_length_0 : decode mMd_length.2.2.2.1 0 = .ok ((.iconst (0)), 1) := by decide +kernel
theorem dMd_length_1 : decode mMd_length.2.2.2.1 1 = .ok ((.istore_n 2), 1) := by decide +kernel
theorem dMd_length_2 : decode mMd_length.2.2.2.1 2 = .ok ((.lload_n 0), 1) := by decide +kernel
theorem dMd_length_3 : decode mMd_length.2.2.2.1 3 = .ok ((.iload_n 2), 1) := by decide +kernel
theorem dMd_length_4 : decode mMd_length.2.2.2.1 4 = .ok ((.invokestatic 62), 3) := by decide +kernel
theorem dMd_length_7 : decode mMd_length.2.2.2.1 7 = .ok ((.ifCond .le (9)), 3) := by decide +kernel
theorem dMd_length_10 : decode mMd_length.2.2.2.1 10 = .ok ((.iinc 2 (1)), 3) := by decide +kernel
theorem dMd_length_13 : decode mMd_length.2.2.2.1 13 = .ok ((.goto (-11)), 3) := by decide +kernel
theorem dMd_length_16 : decode mMd_length.2.2.2.1 16 = .ok ((.iload_n 2), 1) := by decide +kernel
theorem dMd_length_17 : decode mMd_length.2.2.2.1 17 = .ok (.ireturn, 1) := by decide +kernel
theorem dMd_isGood_0 : decode mMd_isGood.2.2.2.1 0 = .ok ((.lload_n 0), 1) := by decide +kernel
theorem dMd_isGood_1 : decode mMd_isGood.2.2.2.1 1 = .ok ((.invokestatic 66), 3) := by decide +kernel
theorem dMd_isGood_4 : decode mMd_isGood.2.2.2.1 4 = .ok ((.istore_n 2), 1) := by decide +kernel
theorem dMd_isGood_5 : decode mMd_isGood.2.2.2.1 5 = .ok ((.iload_n 2), 1) := by decide +kernel
theorem dMd_isGood_6 : decode mMd_isGood.2.2.2.1 6 = .ok ((.ifCond .eq (23)), 3) := by decide +kernel
theorem dMd_isGood_9 : decode mMd_isGood.2.2.2.1 9 = .ok ((.lload_n 0), 1) := by decide +kernel
theorem dMd_isGood_10 : decode mMd_isGood.2.2.2.1 10 = .ok ((.iconst (5)), 1) := by decide +kernel
theorem dMd_isGood_11 : decode mMd_isGood.2.2.2.1 11 = .ok ((.iload_n 2), 1) := by decide +kernel
theorem dMd_isGood_12 : decode mMd_isGood.2.2.2.1 12 = .ok (.imul, 1) := by decide +kernel
theorem dMd_isGood_13 : decode mMd_isGood.2.2.2.1 13 = .ok (.lushr, 1) := by decide +kernel
theorem dMd_isGood_14 : decode mMd_isGood.2.2.2.1 14 = .ok ((.lconst 0), 1) := by decide +kernel
theorem dMd_isGood_15 : decode mMd_isGood.2.2.2.1 15 = .ok (.lcmp, 1) := by decide +kernel
theorem dMd_isGood_16 : decode mMd_isGood.2.2.2.1 16 = .ok ((.ifCond .ne (13)), 3) := by decide +kernel
theorem dMd_isGood_19 : decode mMd_isGood.2.2.2.1 19 = .ok ((.lload_n 0), 1) := by decide +kernel
theorem dMd_isGood_20 : decode mMd_isGood.2.2.2.1 20 = .ok ((.iconst (0)), 1) := by decide +kernel
theorem dMd_isGood_21 : decode mMd_isGood.2.2.2.1 21 = .ok ((.invokestatic 62), 3) := by decide +kernel
theorem dMd_isGood_24 : decode mMd_isGood.2.2.2.1 24 = .ok ((.bipush (29)), 2) := by decide +kernel
theorem dMd_isGood_26 : decode mMd_isGood.2.2.2.1 26 = .ok ((.if_icmp .ne (5)), 3) := by decide +kernel
theorem dMd_isGood_29 : decode mMd_isGood.2.2.2.1 29 = .ok ((.iconst (0)), 1) := by decide +kernel
theorem dMd_isGood_30 : decode mMd_isGood.2.2.2.1 30 = .ok (.ireturn, 1) := by decide +kernel
theorem dMd_isGood_31 : decode mMd_isGood.2.2.2.1 31 = .ok ((.iconst (0)), 1) := by decide +kernel
theorem dMd_isGood_32 : decode mMd_isGood.2.2.2.1 32 = .ok ((.istore_n 3), 1) := by decide +kernel
theorem dMd_isGood_33 : decode mMd_isGood.2.2.2.1 33 = .ok ((.iload_n 3), 1) := by decide +kernel
theorem dMd_isGood_34 : decode mMd_isGood.2.2.2.1 34 = .ok ((.iload_n 2), 1) := by decide +kernel
theorem dMd_isGood_35 : decode mMd_isGood.2.2.2.1 35 = .ok ((.if_icmp .gt (88)), 3) := by decide +kernel
theorem dMd_isGood_38 : decode mMd_isGood.2.2.2.1 38 = .ok ((.iload_n 3), 1) := by decide +kernel
theorem dMd_isGood_39 : decode mMd_isGood.2.2.2.1 39 = .ok ((.ifCond .ne (8)), 3) := by decide +kernel
theorem dMd_isGood_42 : decode mMd_isGood.2.2.2.1 42 = .ok ((.bipush (27)), 2) := by decide +kernel
theorem dMd_isGood_44 : decode mMd_isGood.2.2.2.1 44 = .ok ((.goto (10)), 3) := by decide +kernel
theorem dMd_isGood_47 : decode mMd_isGood.2.2.2.1 47 = .ok ((.lload_n 0), 1) := by decide +kernel
theorem dMd_isGood_48 : decode mMd_isGood.2.2.2.1 48 = .ok ((.iload_n 3), 1) := by decide +kernel
theorem dMd_isGood_49 : decode mMd_isGood.2.2.2.1 49 = .ok ((.iconst (1)), 1) := by decide +kernel
theorem dMd_isGood_50 : decode mMd_isGood.2.2.2.1 50 = .ok (.isub, 1) := by decide +kernel
theorem dMd_isGood_51 : decode mMd_isGood.2.2.2.1 51 = .ok ((.invokestatic 62), 3) := by decide +kernel
theorem dMd_isGood_54 : decode mMd_isGood.2.2.2.1 54 = .ok ((.istore 4), 2) := by decide +kernel
theorem dMd_isGood_56 : decode mMd_isGood.2.2.2.1 56 = .ok ((.iload_n 3), 1) := by decide +kernel
theorem dMd_isGood_57 : decode mMd_isGood.2.2.2.1 57 = .ok ((.iload_n 2), 1) := by decide +kernel
theorem dMd_isGood_58 : decode mMd_isGood.2.2.2.1 58 = .ok ((.if_icmp .ne (8)), 3) := by decide +kernel
theorem dMd_isGood_61 : decode mMd_isGood.2.2.2.1 61 = .ok ((.bipush (27)), 2) := by decide +kernel
theorem dMd_isGood_63 : decode mMd_isGood.2.2.2.1 63 = .ok ((.goto (8)), 3) := by decide +kernel
theorem dMd_isGood_66 : decode mMd_isGood.2.2.2.1 66 = .ok ((.lload_n 0), 1) := by decide +kernel
theorem dMd_isGood_67 : decode mMd_isGood.2.2.2.1 67 = .ok ((.iload_n 3), 1) := by decide +kernel
theorem dMd_isGood_68 : decode mMd_isGood.2.2.2.1 68 = .ok ((.invokestatic 62), 3) := by decide +kernel
theorem dMd_isGood_71 : decode mMd_isGood.2.2.2.1 71 = .ok ((.istore 5), 2) := by decide +kernel
theorem dMd_isGood_73 : decode mMd_isGood.2.2.2.1 73 = .ok ((.iload 4), 2) := by decide +kernel
theorem dMd_isGood_75 : decode mMd_isGood.2.2.2.1 75 = .ok ((.bipush (27)), 2) := by decide +kernel
theorem dMd_isGood_77 : decode mMd_isGood.2.2.2.1 77 = .ok ((.if_icmp .ne (17)), 3) := by decide +kernel
theorem dMd_isGood_80 : decode mMd_isGood.2.2.2.1 80 = .ok ((.iload 5), 2) := by decide +kernel
theorem dMd_isGood_82 : decode mMd_isGood.2.2.2.1 82 = .ok ((.bipush (27)), 2) := by decide +kernel
theorem dMd_isGood_84 : decode mMd_isGood.2.2.2.1 84 = .ok ((.if_icmp .eq (31)), 3) := by decide +kernel
theorem dMd_isGood_87 : decode mMd_isGood.2.2.2.1 87 = .ok ((.iload 5), 2) := by decide +kernel
theorem dMd_isGood_89 : decode mMd_isGood.2.2.2.1 89 = .ok ((.bipush (28)), 2) := by decide +kernel
theorem dMd_isGood_91 : decode mMd_isGood.2.2.2.1 91 = .ok ((.if_icmp .eq (24)), 3) := by decide +kernel
theorem dMd_isGood_94 : decode mMd_isGood.2.2.2.1 94 = .ok ((.iload 4), 2) := by decide +kernel
theorem dMd_isGood_96 : decode mMd_isGood.2.2.2.1 96 = .ok ((.bipush (28)), 2) := by decide +kernel
theorem dMd_isGood_98 : decode mMd_isGood.2.2.2.1 98 = .ok ((.if_icmp .ne (19)), 3) := by decide +kernel
theorem dMd_isGood_101 : decode mMd_isGood.2.2.2.1 101 = .ok ((.iload 5), 2) := by decide +kernel
theorem dMd_isGood_103 : decode mMd_isGood.2.2.2.1 103 = .ok ((.bipush (27)), 2) := by decide +kernel
theorem dMd_isGood_105 : decode mMd_isGood.2.2.2.1 105 = .ok ((.if_icmp .eq (10)), 3) := by decide +kernel
theorem dMd_isGood_108 : decode mMd_isGood.2.2.2.1 108 = .ok ((.iload 5), 2) := by decide +kernel
theorem dMd_isGood_110 : decode mMd_isGood.2.2.2.1 110 = .ok ((.bipush (28)), 2) := by decide +kernel
theorem dMd_isGood_112 : decode mMd_isGood.2.2.2.1 112 = .ok ((.if_icmp .ne (5)), 3) := by decide +kernel
theorem dMd_isGood_115 : decode mMd_isGood.2.2.2.1 115 = .ok ((.iconst (0)), 1) := by decide +kernel
theorem dMd_isGood_116 : decode mMd_isGood.2.2.2.1 116 = .ok (.ireturn, 1) := by decide +kernel
theorem dMd_isGood_117 : decode mMd_isGood.2.2.2.1 117 = .ok ((.iinc 3 (1)), 3) := by decide +kernel
theorem dMd_isGood_120 : decode mMd_isGood.2.2.2.1 120 = .ok ((.goto (-87)), 3) := by decide +kernel
theorem dMd_isGood_123 : decode mMd_isGood.2.2.2.1 123 = .ok ((.iconst (1)), 1) := by decide +kernel
theorem dMd_isGood_124 : decode mMd_isGood.2.2.2.1 124 = .ok (.ireturn, 1) := by decide +kernel
theorem dMd_compare_0 : decode mMd_compare.2.2.2.1 0 = .ok ((.iconst (0)), 1) := by decide +kernel
theorem dMd_compare_1 : decode mMd_compare.2.2.2.1 1 = .ok ((.istore 4), 2) := by decide +kernel
theorem dMd_compare_3 : decode mMd_compare.2.2.2.1 3 = .ok ((.iload 4), 2) := by decide +kernel
theorem dMd_compare_5 : decode mMd_compare.2.2.2.1 5 = .ok ((.bipush (12)), 2) := by decide +kernel
theorem dMd_compare_7 : decode mMd_compare.2.2.2.1 7 = .ok ((.if_icmp .ge (38)), 3) := by decide +kernel
theorem dMd_compare_10 : decode mMd_compare.2.2.2.1 10 = .ok ((.lload_n 0), 1) := by decide +kernel
theorem dMd_compare_11 : decode mMd_compare.2.2.2.1 11 = .ok ((.iload 4), 2) := by decide +kernel
theorem dMd_compare_13 : decode mMd_compare.2.2.2.1 13 = .ok ((.invokestatic 62), 3) := by decide +kernel
theorem dMd_compare_16 : decode mMd_compare.2.2.2.1 16 = .ok ((.lload_n 2), 1) := by decide +kernel
theorem dMd_compare_17 : decode mMd_compare.2.2.2.1 17 = .ok ((.iload 4), 2) := by decide +kernel
theorem dMd_compare_19 : decode mMd_compare.2.2.2.1 19 = .ok ((.invokestatic 62), 3) := by decide +kernel
theorem dMd_compare_22 : decode mMd_compare.2.2.2.1 22 = .ok ((.if_icmp .eq (17)), 3) := by decide +kernel
theorem dMd_compare_25 : decode mMd_compare.2.2.2.1 25 = .ok ((.lload_n 0), 1) := by decide +kernel
theorem dMd_compare_26 : decode mMd_compare.2.2.2.1 26 = .ok ((.iload 4), 2) := by decide +kernel
theorem dMd_compare_28 : decode mMd_compare.2.2.2.1 28 = .ok ((.invokestatic 62), 3) := by decide +kernel
theorem dMd_compare_31 : decode mMd_compare.2.2.2.1 31 = .ok ((.lload_n 2), 1) := by decide +kernel
theorem dMd_compare_32 : decode mMd_compare.2.2.2.1 32 = .ok ((.iload 4), 2) := by decide +kernel
theorem dMd_compare_34 : decode mMd_compare.2.2.2.1 34 = .ok ((.invokestatic 62), 3) := by decide +kernel
theorem dMd_compare_37 : decode mMd_compare.2.2.2.1 37 = .ok (.isub, 1) := by decide +kernel
theorem dMd_compare_38 : decode mMd_compare.2.2.2.1 38 = .ok (.ireturn, 1) := by decide +kernel
theorem dMd_compare_39 : decode mMd_compare.2.2.2.1 39 = .ok ((.iinc 4 (1)), 3) := by decide +kernel
theorem dMd_compare_42 : decode mMd_compare.2.2.2.1 42 = .ok ((.goto (-39)), 3) := by decide +kernel
theorem dMd_compare_45 : decode mMd_compare.2.2.2.1 45 = .ok ((.iconst (0)), 1) := by decide +kernel
theorem dMd_compare_46 : decode mMd_compare.2.2.2.1 46 = .ok (.ireturn, 1) := by decide +kernel
theorem dMd_alike_0 : decode mMd_alike.2.2.2.1 0 = .ok ((.iconst (0)), 1) := by decide +kernel
theorem dMd_alike_1 : decode mMd_alike.2.2.2.1 1 = .ok ((.istore 4), 2) := by decide +kernel
theorem dMd_alike_3 : decode mMd_alike.2.2.2.1 3 = .ok ((.iload 4), 2) := by decide +kernel
theorem dMd_alike_5 : decode mMd_alike.2.2.2.1 5 = .ok ((.bipush (12)), 2) := by decide +kernel
theorem dMd_alike_7 : decode mMd_alike.2.2.2.1 7 = .ok ((.if_icmp .ge (33)), 3) := by decide +kernel
theorem dMd_alike_10 : decode mMd_alike.2.2.2.1 10 = .ok ((.lload_n 0), 1) := by decide +kernel
theorem dMd_alike_11 : decode mMd_alike.2.2.2.1 11 = .ok ((.iload 4), 2) := by decide +kernel
theorem dMd_alike_13 : decode mMd_alike.2.2.2.1 13 = .ok ((.invokestatic 62), 3) := by decide +kernel
theorem dMd_alike_16 : decode mMd_alike.2.2.2.1 16 = .ok ((.ifCond .le (24)), 3) := by decide +kernel
theorem dMd_alike_19 : decode mMd_alike.2.2.2.1 19 = .ok ((.lload_n 0), 1) := by decide +kernel
theorem dMd_alike_20 : decode mMd_alike.2.2.2.1 20 = .ok ((.iload 4), 2) := by decide +kernel
theorem dMd_alike_22 : decode mMd_alike.2.2.2.1 22 = .ok ((.invokestatic 62), 3) := by decide +kernel
theorem dMd_alike_25 : decode mMd_alike.2.2.2.1 25 = .ok ((.lload_n 2), 1) := by decide +kernel
theorem dMd_alike_26 : decode mMd_alike.2.2.2.1 26 = .ok ((.iload 4), 2) := by decide +kernel
theorem dMd_alike_28 : decode mMd_alike.2.2.2.1 28 = .ok ((.invokestatic 62), 3) := by decide +kernel
theorem dMd_alike_31 : decode mMd_alike.2.2.2.1 31 = .ok ((.if_icmp .ne (9)), 3) := by decide +kernel
theorem dMd_alike_34 : decode mMd_alike.2.2.2.1 34 = .ok ((.iinc 4 (1)), 3) := by decide +kernel
theorem dMd_alike_37 : decode mMd_alike.2.2.2.1 37 = .ok ((.goto (-34)), 3) := by decide +kernel
theorem dMd_alike_40 : decode mMd_alike.2.2.2.1 40 = .ok ((.iload 4), 2) := by decide +kernel
theorem dMd_alike_42 : decode mMd_alike.2.2.2.1 42 = .ok (.ireturn, 1) := by decide +kernel
theorem dMd_first_0 : decode mMd_first.2.2.2.1 0 = .ok ((.iload_n 2), 1) := by decide +kernel
theorem dMd_first_1 : decode mMd_first.2.2.2.1 1 = .ok ((.bipush (11)), 2) := by decide +kernel
theorem dMd_first_3 : decode mMd_first.2.2.2.1 3 = .ok ((.if_icmp .le (11)), 3) := by decide +kernel
theorem dMd_first_6 : decode mMd_first.2.2.2.1 6 = .ok ((.lload_n 0), 1) := by decide +kernel
theorem dMd_first_7 : decode mMd_first.2.2.2.1 7 = .ok ((.ldc2_w 70), 3) := by decide +kernel
theorem dMd_first_10 : decode mMd_first.2.2.2.1 10 = .ok (.land, 1) := by decide +kernel
theorem dMd_first_11 : decode mMd_first.2.2.2.1 11 = .ok ((.goto (12)), 3) := by decide +kernel
theorem dMd_first_14 : decode mMd_first.2.2.2.1 14 = .ok ((.lload_n 0), 1) := by decide +kernel
theorem dMd_first_15 : decode mMd_first.2.2.2.1 15 = .ok ((.lconst 1), 1) := by decide +kernel
theorem dMd_first_16 : decode mMd_first.2.2.2.1 16 = .ok ((.iconst (5)), 1) := by decide +kernel
theorem dMd_first_17 : decode mMd_first.2.2.2.1 17 = .ok ((.iload_n 2), 1) := by decide +kernel
theorem dMd_first_18 : decode mMd_first.2.2.2.1 18 = .ok (.imul, 1) := by decide +kernel
theorem dMd_first_19 : decode mMd_first.2.2.2.1 19 = .ok (.lshl, 1) := by decide +kernel
theorem dMd_first_20 : decode mMd_first.2.2.2.1 20 = .ok ((.lconst 1), 1) := by decide +kernel
theorem dMd_first_21 : decode mMd_first.2.2.2.1 21 = .ok (.lsub, 1) := by decide +kernel
theorem dMd_first_22 : decode mMd_first.2.2.2.1 22 = .ok (.land, 1) := by decide +kernel
theorem dMd_first_23 : decode mMd_first.2.2.2.1 23 = .ok (.lreturn, 1) := by decide +kernel
theorem dMd_begins_0 : decode mMd_begins.2.2.2.1 0 = .ok ((.lload_n 0), 1) := by decide +kernel
theorem dMd_begins_1 : decode mMd_begins.2.2.2.1 1 = .ok ((.lload_n 2), 1) := by decide +kernel
theorem dMd_begins_2 : decode mMd_begins.2.2.2.1 2 = .ok ((.invokestatic 72), 3) := by decide +kernel
theorem dMd_begins_5 : decode mMd_begins.2.2.2.1 5 = .ok ((.lload_n 2), 1) := by decide +kernel
theorem dMd_begins_6 : decode mMd_begins.2.2.2.1 6 = .ok ((.invokestatic 66), 3) := by decide +kernel
theorem dMd_begins_9 : decode mMd_begins.2.2.2.1 9 = .ok ((.if_icmp .ne (7)), 3) := by decide +kernel
theorem dMd_begins_12 : decode mMd_begins.2.2.2.1 12 = .ok ((.iconst (1)), 1) := by decide +kernel
theorem dMd_begins_13 : decode mMd_begins.2.2.2.1 13 = .ok ((.goto (4)), 3) := by decide +kernel
theorem dMd_begins_16 : decode mMd_begins.2.2.2.1 16 = .ok ((.iconst (0)), 1) := by decide +kernel
theorem dMd_begins_17 : decode mMd_begins.2.2.2.1 17 = .ok (.ireturn, 1) := by decide +kernel
theorem dMd_under_0 : decode mMd_under.2.2.2.1 0 = .ok ((.lload_n 0), 1) := by decide +kernel
theorem dMd_under_1 : decode mMd_under.2.2.2.1 1 = .ok ((.lload_n 2), 1) := by decide +kernel
theorem dMd_under_2 : decode mMd_under.2.2.2.1 2 = .ok ((.invokestatic 76), 3) := by decide +kernel
theorem dMd_under_5 : decode mMd_under.2.2.2.1 5 = .ok ((.ifCond .eq (20)), 3) := by decide +kernel
theorem dMd_under_8 : decode mMd_under.2.2.2.1 8 = .ok ((.lload_n 0), 1) := by decide +kernel
theorem dMd_under_9 : decode mMd_under.2.2.2.1 9 = .ok ((.lload_n 2), 1) := by decide +kernel
theorem dMd_under_10 : decode mMd_under.2.2.2.1 10 = .ok ((.invokestatic 66), 3) := by decide +kernel
theorem dMd_under_13 : decode mMd_under.2.2.2.1 13 = .ok ((.invokestatic 62), 3) := by decide +kernel
theorem dMd_under_16 : decode mMd_under.2.2.2.1 16 = .ok ((.bipush (27)), 2) := by decide +kernel
theorem dMd_under_18 : decode mMd_under.2.2.2.1 18 = .ok ((.if_icmp .ne (7)), 3) := by decide +kernel
theorem dMd_under_21 : decode mMd_under.2.2.2.1 21 = .ok ((.iconst (1)), 1) := by decide +kernel
theorem dMd_under_22 : decode mMd_under.2.2.2.1 22 = .ok ((.goto (4)), 3) := by decide +kernel
theorem dMd_under_25 : decode mMd_under.2.2.2.1 25 = .ok ((.iconst (0)), 1) := by decide +kernel
theorem dMd_under_26 : decode mMd_under.2.2.2.1 26 = .ok (.ireturn, 1) := by decide +kernel
theorem dMd_take_0 : decode mMd_take.2.2.2.1 0 = .ok ((.aload_n 0), 1) := by decide +kernel
theorem dMd_take_1 : decode mMd_take.2.2.2.1 1 = .ok ((.getfield 80), 3) := by decide +kernel
theorem dMd_take_4 : decode mMd_take.2.2.2.1 4 = .ok ((.aload_n 0), 1) := by decide +kernel
theorem dMd_take_5 : decode mMd_take.2.2.2.1 5 = .ok ((.getfield 84), 3) := by decide +kernel
theorem dMd_take_8 : decode mMd_take.2.2.2.1 8 = .ok ((.if_icmp .lt (10)), 3) := by decide +kernel
theorem dMd_take_11 : decode mMd_take.2.2.2.1 11 = .ok ((.aload_n 0), 1) := by decide +kernel
theorem dMd_take_12 : decode mMd_take.2.2.2.1 12 = .ok ((.iconst (1)), 1) := by decide +kernel
theorem dMd_take_13 : decode mMd_take.2.2.2.1 13 = .ok ((.putfield 87), 3) := by decide +kernel
theorem dMd_take_16 : decode mMd_take.2.2.2.1 16 = .ok ((.iconst (0)), 1) := by decide +kernel
theorem dMd_take_17 : decode mMd_take.2.2.2.1 17 = .ok (.ireturn, 1) := by decide +kernel
theorem dMd_take_18 : decode mMd_take.2.2.2.1 18 = .ok ((.aload_n 0), 1) := by decide +kernel
theorem dMd_take_19 : decode mMd_take.2.2.2.1 19 = .ok (.dup, 1) := by decide +kernel
theorem dMd_take_20 : decode mMd_take.2.2.2.1 20 = .ok ((.getfield 80), 3) := by decide +kernel
theorem dMd_take_23 : decode mMd_take.2.2.2.1 23 = .ok ((.iconst (1)), 1) := by decide +kernel
theorem dMd_take_24 : decode mMd_take.2.2.2.1 24 = .ok (.iadd, 1) := by decide +kernel
theorem dMd_take_25 : decode mMd_take.2.2.2.1 25 = .ok ((.putfield 80), 3) := by decide +kernel
theorem dMd_take_28 : decode mMd_take.2.2.2.1 28 = .ok ((.aload_n 0), 1) := by decide +kernel
theorem dMd_take_29 : decode mMd_take.2.2.2.1 29 = .ok ((.getfield 7), 3) := by decide +kernel
theorem dMd_take_32 : decode mMd_take.2.2.2.1 32 = .ok ((.aload_n 0), 1) := by decide +kernel
theorem dMd_take_33 : decode mMd_take.2.2.2.1 33 = .ok ((.getfield 80), 3) := by decide +kernel
theorem dMd_take_36 : decode mMd_take.2.2.2.1 36 = .ok ((.iconst (1)), 1) := by decide +kernel
theorem dMd_take_37 : decode mMd_take.2.2.2.1 37 = .ok (.isub, 1) := by decide +kernel
theorem dMd_take_38 : decode mMd_take.2.2.2.1 38 = .ok (.baload, 1) := by decide +kernel
theorem dMd_take_39 : decode mMd_take.2.2.2.1 39 = .ok ((.sipush (255)), 3) := by decide +kernel
theorem dMd_take_42 : decode mMd_take.2.2.2.1 42 = .ok (.iand, 1) := by decide +kernel
theorem dMd_take_43 : decode mMd_take.2.2.2.1 43 = .ok (.ireturn, 1) := by decide +kernel
theorem dMd_takeNumber_0 : decode mMd_takeNumber.2.2.2.1 0 = .ok ((.iconst (0)), 1) := by decide +kernel
theorem dMd_takeNumber_1 : decode mMd_takeNumber.2.2.2.1 1 = .ok ((.istore_n 1), 1) := by decide +kernel
theorem dMd_takeNumber_2 : decode mMd_takeNumber.2.2.2.1 2 = .ok ((.iconst (0)), 1) := by decide +kernel
theorem dMd_takeNumber_3 : decode mMd_takeNumber.2.2.2.1 3 = .ok ((.istore_n 2), 1) := by decide +kernel
theorem dMd_takeNumber_4 : decode mMd_takeNumber.2.2.2.1 4 = .ok ((.iload_n 2), 1) := by decide +kernel
theorem dMd_takeNumber_5 : decode mMd_takeNumber.2.2.2.1 5 = .ok ((.iconst (3)), 1) := by decide +kernel
theorem dMd_takeNumber_6 : decode mMd_takeNumber.2.2.2.1 6 = .ok ((.if_icmp .ge (59)), 3) := by decide +kernel
theorem dMd_takeNumber_9 : decode mMd_takeNumber.2.2.2.1 9 = .ok ((.aload_n 0), 1) := by decide +kernel
theorem dMd_takeNumber_10 : decode mMd_takeNumber.2.2.2.1 10 = .ok ((.invokevirtual 91), 3) := by decide +kernel
theorem dMd_takeNumber_13 : decode mMd_takeNumber.2.2.2.1 13 = .ok ((.istore_n 3), 1) := by decide +kernel
theorem dMd_takeNumber_14 : decode mMd_takeNumber.2.2.2.1 14 = .ok ((.iload_n 1), 1) := by decide +kernel
theorem dMd_takeNumber_15 : decode mMd_takeNumber.2.2.2.1 15 = .ok ((.iload_n 3), 1) := by decide +kernel
theorem dMd_takeNumber_16 : decode mMd_takeNumber.2.2.2.1 16 = .ok ((.bipush (127)), 2) := by decide +kernel
theorem dMd_takeNumber_18 : decode mMd_takeNumber.2.2.2.1 18 = .ok (.iand, 1) := by decide +kernel
theorem dMd_takeNumber_19 : decode mMd_takeNumber.2.2.2.1 19 = .ok ((.bipush (7)), 2) := by decide +kernel
theorem dMd_takeNumber_21 : decode mMd_takeNumber.2.2.2.1 21 = .ok ((.iload_n 2), 1) := by decide +kernel
theorem dMd_takeNumber_22 : decode mMd_takeNumber.2.2.2.1 22 = .ok (.imul, 1) := by decide +kernel
theorem dMd_takeNumber_23 : decode mMd_takeNumber.2.2.2.1 23 = .ok (.ishl, 1) := by decide +kernel
theorem dMd_takeNumber_24 : decode mMd_takeNumber.2.2.2.1 24 = .ok (.iadd, 1) := by decide +kernel
theorem dMd_takeNumber_25 : decode mMd_takeNumber.2.2.2.1 25 = .ok ((.istore_n 1), 1) := by decide +kernel
theorem dMd_takeNumber_26 : decode mMd_takeNumber.2.2.2.1 26 = .ok ((.iload_n 3), 1) := by decide +kernel
theorem dMd_takeNumber_27 : decode mMd_takeNumber.2.2.2.1 27 = .ok ((.sipush (128)), 3) := by decide +kernel
theorem dMd_takeNumber_30 : decode mMd_takeNumber.2.2.2.1 30 = .ok ((.if_icmp .ge (29)), 3) := by decide +kernel
theorem dMd_takeNumber_33 : decode mMd_takeNumber.2.2.2.1 33 = .ok ((.aload_n 0), 1) := by decide +kernel
theorem dMd_takeNumber_34 : decode mMd_takeNumber.2.2.2.1 34 = .ok ((.aload_n 0), 1) := by decide +kernel
theorem dMd_takeNumber_35 : decode mMd_takeNumber.2.2.2.1 35 = .ok ((.getfield 87), 3) := by decide +kernel
theorem dMd_takeNumber_38 : decode mMd_takeNumber.2.2.2.1 38 = .ok ((.ifCond .ne (11)), 3) := by decide +kernel
theorem dMd_takeNumber_41 : decode mMd_takeNumber.2.2.2.1 41 = .ok ((.iload_n 3), 1) := by decide +kernel
theorem dMd_takeNumber_42 : decode mMd_takeNumber.2.2.2.1 42 = .ok ((.ifCond .ne (11)), 3) := by decide +kernel
theorem dMd_takeNumber_45 : decode mMd_takeNumber.2.2.2.1 45 = .ok ((.iload_n 2), 1) := by decide +kernel
theorem dMd_takeNumber_46 : decode mMd_takeNumber.2.2.2.1 46 = .ok ((.ifCond .le (7)), 3) := by decide +kernel
theorem dMd_takeNumber_49 : decode mMd_takeNumber.2.2.2.1 49 = .ok ((.iconst (1)), 1) := by decide +kernel
theorem dMd_takeNumber_50 : decode mMd_takeNumber.2.2.2.1 50 = .ok ((.goto (4)), 3) := by decide +kernel
theorem dMd_takeNumber_53 : decode mMd_takeNumber.2.2.2.1 53 = .ok ((.iconst (0)), 1) := by decide +kernel
theorem dMd_takeNumber_54 : decode mMd_takeNumber.2.2.2.1 54 = .ok ((.putfield 87), 3) := by decide +kernel
theorem dMd_takeNumber_57 : decode mMd_takeNumber.2.2.2.1 57 = .ok ((.iload_n 1), 1) := by decide +kernel
theorem dMd_takeNumber_58 : decode mMd_takeNumber.2.2.2.1 58 = .ok (.ireturn, 1) := by decide +kernel
theorem dMd_takeNumber_59 : decode mMd_takeNumber.2.2.2.1 59 = .ok ((.iinc 2 (1)), 3) := by decide +kernel
theorem dMd_takeNumber_62 : decode mMd_takeNumber.2.2.2.1 62 = .ok ((.goto (-58)), 3) := by decide +kernel
theorem dMd_takeNumber_65 : decode mMd_takeNumber.2.2.2.1 65 = .ok ((.aload_n 0), 1) := by decide +kernel
theorem dMd_takeNumber_66 : decode mMd_takeNumber.2.2.2.1 66 = .ok ((.iconst (1)), 1) := by decide +kernel
theorem dMd_takeNumber_67 : decode mMd_takeNumber.2.2.2.1 67 = .ok ((.putfield 87), 3) := by decide +kernel
theorem dMd_takeNumber_70 : decode mMd_takeNumber.2.2.2.1 70 = .ok ((.iconst (0)), 1) := by decide +kernel
theorem dMd_takeNumber_71 : decode mMd_takeNumber.2.2.2.1 71 = .ok (.ireturn, 1) := by decide +kernel
