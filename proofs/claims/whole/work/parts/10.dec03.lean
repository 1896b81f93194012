theorem dMd_takeEntry_0 : decode mMd_takeEntry.2.2.2.1 0 = .ok ((.aload_n 0), 1) := by decide +kernel
theorem dMd_takeEntry_1 : decode mMd_takeEntry.2.2.2.1 1 = .ok ((.invokevirtual 105), 3) := by decide +kernel
theorem dMd_takeEntry_4 : decode mMd_takeEntry.2.2.2.1 4 = .ok ((.istore 6), 2) := by decide +kernel
theorem dMd_takeEntry_6 : decode mMd_takeEntry.2.2.2.1 6 = .ok ((.aload_n 0), 1) := by decide +kernel
theorem dMd_takeEntry_7 : decode mMd_takeEntry.2.2.2.1 7 = .ok ((.invokevirtual 105), 3) := by decide +kernel
theorem dMd_takeEntry_10 : decode mMd_takeEntry.2.2.2.1 10 = .ok ((.istore 7), 2) := by decide +kernel
theorem dMd_takeEntry_12 : decode mMd_takeEntry.2.2.2.1 12 = .ok ((.aload_n 0), 1) := by decide +kernel
theorem dMd_takeEntry_13 : decode mMd_takeEntry.2.2.2.1 13 = .ok ((.lload_n 3), 1) := by decide +kernel
theorem dMd_takeEntry_14 : decode mMd_takeEntry.2.2.2.1 14 = .ok ((.iload 6), 2) := by decide +kernel
theorem dMd_takeEntry_16 : decode mMd_takeEntry.2.2.2.1 16 = .ok ((.iload 7), 2) := by decide +kernel
theorem dMd_takeEntry_18 : decode mMd_takeEntry.2.2.2.1 18 = .ok ((.invokevirtual 129), 3) := by decide +kernel
theorem dMd_takeEntry_21 : decode mMd_takeEntry.2.2.2.1 21 = .ok ((.lstore 8), 2) := by decide +kernel
theorem dMd_takeEntry_23 : decode mMd_takeEntry.2.2.2.1 23 = .ok ((.aload_n 0), 1) := by decide +kernel
theorem dMd_takeEntry_24 : decode mMd_takeEntry.2.2.2.1 24 = .ok ((.aload_n 0), 1) := by decide +kernel
theorem dMd_takeEntry_25 : decode mMd_takeEntry.2.2.2.1 25 = .ok ((.getfield 87), 3) := by decide +kernel
theorem dMd_takeEntry_28 : decode mMd_takeEntry.2.2.2.1 28 = .ok ((.ifCond .ne (24)), 3) := by decide +kernel
theorem dMd_takeEntry_31 : decode mMd_takeEntry.2.2.2.1 31 = .ok ((.iload 6), 2) := by decide +kernel
theorem dMd_takeEntry_33 : decode mMd_takeEntry.2.2.2.1 33 = .ok ((.iload_n 2), 1) := by decide +kernel
theorem dMd_takeEntry_34 : decode mMd_takeEntry.2.2.2.1 34 = .ok ((.iconst (4)), 1) := by decide +kernel
theorem dMd_takeEntry_35 : decode mMd_takeEntry.2.2.2.1 35 = .ok (.irem, 1) := by decide +kernel
theorem dMd_takeEntry_36 : decode mMd_takeEntry.2.2.2.1 36 = .ok ((.ifCond .ne (7)), 3) := by decide +kernel
theorem dMd_takeEntry_39 : decode mMd_takeEntry.2.2.2.1 39 = .ok ((.iconst (0)), 1) := by decide +kernel
theorem dMd_takeEntry_40 : decode mMd_takeEntry.2.2.2.1 40 = .ok ((.goto (9)), 3) := by decide +kernel
theorem dMd_takeEntry_43 : decode mMd_takeEntry.2.2.2.1 43 = .ok ((.lload_n 3), 1) := by decide +kernel
theorem dMd_takeEntry_44 : decode mMd_takeEntry.2.2.2.1 44 = .ok ((.lload 8), 2) := by decide +kernel
theorem dMd_takeEntry_46 : decode mMd_takeEntry.2.2.2.1 46 = .ok ((.invokestatic 72), 3) := by decide +kernel
theorem dMd_takeEntry_49 : decode mMd_takeEntry.2.2.2.1 49 = .ok ((.if_icmp .eq (7)), 3) := by decide +kernel
theorem dMd_takeEntry_52 : decode mMd_takeEntry.2.2.2.1 52 = .ok ((.iconst (1)), 1) := by decide +kernel
theorem dMd_takeEntry_53 : decode mMd_takeEntry.2.2.2.1 53 = .ok ((.goto (4)), 3) := by decide +kernel
theorem dMd_takeEntry_56 : decode mMd_takeEntry.2.2.2.1 56 = .ok ((.iconst (0)), 1) := by decide +kernel
theorem dMd_takeEntry_57 : decode mMd_takeEntry.2.2.2.1 57 = .ok ((.putfield 87), 3) := by decide +kernel
theorem dMd_takeEntry_60 : decode mMd_takeEntry.2.2.2.1 60 = .ok ((.aload_n 0), 1) := by decide +kernel
theorem dMd_takeEntry_61 : decode mMd_takeEntry.2.2.2.1 61 = .ok ((.invokevirtual 105), 3) := by decide +kernel
theorem dMd_takeEntry_64 : decode mMd_takeEntry.2.2.2.1 64 = .ok ((.istore 10), 2) := by decide +kernel
theorem dMd_takeEntry_66 : decode mMd_takeEntry.2.2.2.1 66 = .ok ((.aload_n 0), 1) := by decide +kernel
theorem dMd_takeEntry_67 : decode mMd_takeEntry.2.2.2.1 67 = .ok ((.invokevirtual 105), 3) := by decide +kernel
theorem dMd_takeEntry_70 : decode mMd_takeEntry.2.2.2.1 70 = .ok ((.istore 11), 2) := by decide +kernel
theorem dMd_takeEntry_72 : decode mMd_takeEntry.2.2.2.1 72 = .ok ((.aload_n 0), 1) := by decide +kernel
theorem dMd_takeEntry_73 : decode mMd_takeEntry.2.2.2.1 73 = .ok ((.invokevirtual 105), 3) := by decide +kernel
theorem dMd_takeEntry_76 : decode mMd_takeEntry.2.2.2.1 76 = .ok ((.istore 12), 2) := by decide +kernel
theorem dMd_takeEntry_78 : decode mMd_takeEntry.2.2.2.1 78 = .ok ((.aload_n 0), 1) := by decide +kernel
theorem dMd_takeEntry_79 : decode mMd_takeEntry.2.2.2.1 79 = .ok ((.aload_n 0), 1) := by decide +kernel
theorem dMd_takeEntry_80 : decode mMd_takeEntry.2.2.2.1 80 = .ok ((.getfield 87), 3) := by decide +kernel
theorem dMd_takeEntry_83 : decode mMd_takeEntry.2.2.2.1 83 = .ok ((.ifCond .ne (41)), 3) := by decide +kernel
theorem dMd_takeEntry_86 : decode mMd_takeEntry.2.2.2.1 86 = .ok ((.lload 8), 2) := by decide +kernel
theorem dMd_takeEntry_88 : decode mMd_takeEntry.2.2.2.1 88 = .ok ((.invokestatic 137), 3) := by decide +kernel
theorem dMd_takeEntry_91 : decode mMd_takeEntry.2.2.2.1 91 = .ok ((.ifCond .eq (33)), 3) := by decide +kernel
theorem dMd_takeEntry_94 : decode mMd_takeEntry.2.2.2.1 94 = .ok ((.iload 10), 2) := by decide +kernel
theorem dMd_takeEntry_96 : decode mMd_takeEntry.2.2.2.1 96 = .ok ((.aload_n 0), 1) := by decide +kernel
theorem dMd_takeEntry_97 : decode mMd_takeEntry.2.2.2.1 97 = .ok ((.getfield 108), 3) := by decide +kernel
theorem dMd_takeEntry_100 : decode mMd_takeEntry.2.2.2.1 100 = .ok ((.aload_n 0), 1) := by decide +kernel
theorem dMd_takeEntry_101 : decode mMd_takeEntry.2.2.2.1 101 = .ok ((.getfield 111), 3) := by decide +kernel
theorem dMd_takeEntry_104 : decode mMd_takeEntry.2.2.2.1 104 = .ok ((.invokestatic 133), 3) := by decide +kernel
theorem dMd_takeEntry_107 : decode mMd_takeEntry.2.2.2.1 107 = .ok ((.ifCond .eq (17)), 3) := by decide +kernel
theorem dMd_takeEntry_110 : decode mMd_takeEntry.2.2.2.1 110 = .ok ((.iload 11), 2) := by decide +kernel
theorem dMd_takeEntry_112 : decode mMd_takeEntry.2.2.2.1 112 = .ok ((.ldc 100), 2) := by decide +kernel
theorem dMd_takeEntry_114 : decode mMd_takeEntry.2.2.2.1 114 = .ok ((.if_icmp .gt (10)), 3) := by decide +kernel
theorem dMd_takeEntry_117 : decode mMd_takeEntry.2.2.2.1 117 = .ok ((.iload 12), 2) := by decide +kernel
theorem dMd_takeEntry_119 : decode mMd_takeEntry.2.2.2.1 119 = .ok ((.ldc 100), 2) := by decide +kernel
theorem dMd_takeEntry_121 : decode mMd_takeEntry.2.2.2.1 121 = .ok ((.if_icmp .le (7)), 3) := by decide +kernel
theorem dMd_takeEntry_124 : decode mMd_takeEntry.2.2.2.1 124 = .ok ((.iconst (1)), 1) := by decide +kernel
theorem dMd_takeEntry_125 : decode mMd_takeEntry.2.2.2.1 125 = .ok ((.goto (4)), 3) := by decide +kernel
theorem dMd_takeEntry_128 : decode mMd_takeEntry.2.2.2.1 128 = .ok ((.iconst (0)), 1) := by decide +kernel
theorem dMd_takeEntry_129 : decode mMd_takeEntry.2.2.2.1 129 = .ok ((.putfield 87), 3) := by decide +kernel
theorem dMd_takeEntry_132 : decode mMd_takeEntry.2.2.2.1 132 = .ok ((.iload_n 2), 1) := by decide +kernel
theorem dMd_takeEntry_133 : decode mMd_takeEntry.2.2.2.1 133 = .ok ((.ifCond .ne (7)), 3) := by decide +kernel
theorem dMd_takeEntry_136 : decode mMd_takeEntry.2.2.2.1 136 = .ok ((.iconst (-1)), 1) := by decide +kernel
theorem dMd_takeEntry_137 : decode mMd_takeEntry.2.2.2.1 137 = .ok ((.goto (9)), 3) := by decide +kernel
theorem dMd_takeEntry_140 : decode mMd_takeEntry.2.2.2.1 140 = .ok ((.lload_n 3), 1) := by decide +kernel
theorem dMd_takeEntry_141 : decode mMd_takeEntry.2.2.2.1 141 = .ok ((.lload 8), 2) := by decide +kernel
theorem dMd_takeEntry_143 : decode mMd_takeEntry.2.2.2.1 143 = .ok ((.invokestatic 141), 3) := by decide +kernel
theorem dMd_takeEntry_146 : decode mMd_takeEntry.2.2.2.1 146 = .ok ((.istore 13), 2) := by decide +kernel
theorem dMd_takeEntry_148 : decode mMd_takeEntry.2.2.2.1 148 = .ok ((.aload_n 0), 1) := by decide +kernel
theorem dMd_takeEntry_149 : decode mMd_takeEntry.2.2.2.1 149 = .ok ((.aload_n 0), 1) := by decide +kernel
theorem dMd_takeEntry_150 : decode mMd_takeEntry.2.2.2.1 150 = .ok ((.getfield 87), 3) := by decide +kernel
theorem dMd_takeEntry_153 : decode mMd_takeEntry.2.2.2.1 153 = .ok ((.ifCond .ne (20)), 3) := by decide +kernel
theorem dMd_takeEntry_156 : decode mMd_takeEntry.2.2.2.1 156 = .ok ((.iload 13), 2) := by decide +kernel
theorem dMd_takeEntry_158 : decode mMd_takeEntry.2.2.2.1 158 = .ok ((.ifCond .gt (15)), 3) := by decide +kernel
theorem dMd_takeEntry_161 : decode mMd_takeEntry.2.2.2.1 161 = .ok ((.iload 13), 2) := by decide +kernel
theorem dMd_takeEntry_163 : decode mMd_takeEntry.2.2.2.1 163 = .ok ((.ifCond .ne (14)), 3) := by decide +kernel
theorem dMd_takeEntry_166 : decode mMd_takeEntry.2.2.2.1 166 = .ok ((.iload 10), 2) := by decide +kernel
theorem dMd_takeEntry_168 : decode mMd_takeEntry.2.2.2.1 168 = .ok ((.iload 5), 2) := by decide +kernel
theorem dMd_takeEntry_170 : decode mMd_takeEntry.2.2.2.1 170 = .ok ((.if_icmp .lt (7)), 3) := by decide +kernel
theorem dMd_takeEntry_173 : decode mMd_takeEntry.2.2.2.1 173 = .ok ((.iconst (1)), 1) := by decide +kernel
theorem dMd_takeEntry_174 : decode mMd_takeEntry.2.2.2.1 174 = .ok ((.goto (4)), 3) := by decide +kernel
theorem dMd_takeEntry_177 : decode mMd_takeEntry.2.2.2.1 177 = .ok ((.iconst (0)), 1) := by decide +kernel
theorem dMd_takeEntry_178 : decode mMd_takeEntry.2.2.2.1 178 = .ok ((.putfield 87), 3) := by decide +kernel
theorem dMd_takeEntry_181 : decode mMd_takeEntry.2.2.2.1 181 = .ok ((.aload_n 0), 1) := by decide +kernel
theorem dMd_takeEntry_182 : decode mMd_takeEntry.2.2.2.1 182 = .ok ((.lload 8), 2) := by decide +kernel
theorem dMd_takeEntry_184 : decode mMd_takeEntry.2.2.2.1 184 = .ok ((.iload 10), 2) := by decide +kernel
theorem dMd_takeEntry_186 : decode mMd_takeEntry.2.2.2.1 186 = .ok ((.iload 11), 2) := by decide +kernel
theorem dMd_takeEntry_188 : decode mMd_takeEntry.2.2.2.1 188 = .ok ((.iload 12), 2) := by decide +kernel
theorem dMd_takeEntry_190 : decode mMd_takeEntry.2.2.2.1 190 = .ok ((.iload_n 1), 1) := by decide +kernel
theorem dMd_takeEntry_191 : decode mMd_takeEntry.2.2.2.1 191 = .ok ((.invokevirtual 148), 3) := by decide +kernel
theorem dMd_takeEntry_194 : decode mMd_takeEntry.2.2.2.1 194 = .ok ((.lload 8), 2) := by decide +kernel
theorem dMd_takeEntry_196 : decode mMd_takeEntry.2.2.2.1 196 = .ok (.lreturn, 1) := by decide +kernel
theorem dMd_find_0 : decode mMd_find.2.2.2.1 0 = .ok ((.iconst (0)), 1) := by decide +kernel
theorem dMd_find_1 : decode mMd_find.2.2.2.1 1 = .ok ((.istore_n 3), 1) := by decide +kernel
theorem dMd_find_2 : decode mMd_find.2.2.2.1 2 = .ok ((.iload_n 3), 1) := by decide +kernel
theorem dMd_find_3 : decode mMd_find.2.2.2.1 3 = .ok ((.aload_n 0), 1) := by decide +kernel
theorem dMd_find_4 : decode mMd_find.2.2.2.1 4 = .ok ((.getfield 152), 3) := by decide +kernel
theorem dMd_find_7 : decode mMd_find.2.2.2.1 7 = .ok ((.if_icmp .ge (22)), 3) := by decide +kernel
theorem dMd_find_10 : decode mMd_find.2.2.2.1 10 = .ok ((.aload_n 0), 1) := by decide +kernel
theorem dMd_find_11 : decode mMd_find.2.2.2.1 11 = .ok ((.getfield 30), 3) := by decide +kernel
theorem dMd_find_14 : decode mMd_find.2.2.2.1 14 = .ok ((.iload_n 3), 1) := by decide +kernel
theorem dMd_find_15 : decode mMd_find.2.2.2.1 15 = .ok (.laload, 1) := by decide +kernel
theorem dMd_find_16 : decode mMd_find.2.2.2.1 16 = .ok ((.lload_n 1), 1) := by decide +kernel
theorem dMd_find_17 : decode mMd_find.2.2.2.1 17 = .ok (.lcmp, 1) := by decide +kernel
theorem dMd_find_18 : decode mMd_find.2.2.2.1 18 = .ok ((.ifCond .ne (5)), 3) := by decide +kernel
theorem dMd_find_21 : decode mMd_find.2.2.2.1 21 = .ok ((.iload_n 3), 1) := by decide +kernel
theorem dMd_find_22 : decode mMd_find.2.2.2.1 22 = .ok (.ireturn, 1) := by decide +kernel
theorem dMd_find_23 : decode mMd_find.2.2.2.1 23 = .ok ((.iinc 3 (1)), 3) := by decide +kernel
theorem dMd_find_26 : decode mMd_find.2.2.2.1 26 = .ok ((.goto (-24)), 3) := by decide +kernel
theorem dMd_find_29 : decode mMd_find.2.2.2.1 29 = .ok ((.iconst (-1)), 1) := by decide +kernel
theorem dMd_find_30 : decode mMd_find.2.2.2.1 30 = .ok (.ireturn, 1) := by decide +kernel
theorem dMd_enter_0 : decode mMd_enter.2.2.2.1 0 = .ok ((.aload_n 0), 1) := by decide +kernel
theorem dMd_enter_1 : decode mMd_enter.2.2.2.1 1 = .ok ((.lload_n 1), 1) := by decide +kernel
theorem dMd_enter_2 : decode mMd_enter.2.2.2.1 2 = .ok ((.invokevirtual 155), 3) := by decide +kernel
theorem dMd_enter_5 : decode mMd_enter.2.2.2.1 5 = .ok ((.ifCond .ge (55)), 3) := by decide +kernel
theorem dMd_enter_8 : decode mMd_enter.2.2.2.1 8 = .ok ((.aload_n 0), 1) := by decide +kernel
theorem dMd_enter_9 : decode mMd_enter.2.2.2.1 9 = .ok ((.getfield 30), 3) := by decide +kernel
theorem dMd_enter_12 : decode mMd_enter.2.2.2.1 12 = .ok ((.aload_n 0), 1) := by decide +kernel
theorem dMd_enter_13 : decode mMd_enter.2.2.2.1 13 = .ok ((.getfield 152), 3) := by decide +kernel
theorem dMd_enter_16 : decode mMd_enter.2.2.2.1 16 = .ok ((.lload_n 1), 1) := by decide +kernel
theorem dMd_enter_17 : decode mMd_enter.2.2.2.1 17 = .ok (.lastore, 1) := by decide +kernel
theorem dMd_enter_18 : decode mMd_enter.2.2.2.1 18 = .ok ((.aload_n 0), 1) := by decide +kernel
theorem dMd_enter_19 : decode mMd_enter.2.2.2.1 19 = .ok ((.getfield 33), 3) := by decide +kernel
theorem dMd_enter_22 : decode mMd_enter.2.2.2.1 22 = .ok ((.aload_n 0), 1) := by decide +kernel
theorem dMd_enter_23 : decode mMd_enter.2.2.2.1 23 = .ok ((.getfield 152), 3) := by decide +kernel
theorem dMd_enter_26 : decode mMd_enter.2.2.2.1 26 = .ok ((.iload_n 3), 1) := by decide +kernel
theorem dMd_enter_27 : decode mMd_enter.2.2.2.1 27 = .ok (.iastore, 1) := by decide +kernel
theorem dMd_enter_28 : decode mMd_enter.2.2.2.1 28 = .ok ((.aload_n 0), 1) := by decide +kernel
theorem dMd_enter_29 : decode mMd_enter.2.2.2.1 29 = .ok ((.getfield 36), 3) := by decide +kernel
theorem dMd_enter_32 : decode mMd_enter.2.2.2.1 32 = .ok ((.aload_n 0), 1) := by decide +kernel
theorem dMd_enter_33 : decode mMd_enter.2.2.2.1 33 = .ok ((.getfield 152), 3) := by decide +kernel
theorem dMd_enter_36 : decode mMd_enter.2.2.2.1 36 = .ok ((.iload 4), 2) := by decide +kernel
theorem dMd_enter_38 : decode mMd_enter.2.2.2.1 38 = .ok (.iastore, 1) := by decide +kernel
theorem dMd_enter_39 : decode mMd_enter.2.2.2.1 39 = .ok ((.aload_n 0), 1) := by decide +kernel
theorem dMd_enter_40 : decode mMd_enter.2.2.2.1 40 = .ok ((.getfield 39), 3) := by decide +kernel
theorem dMd_enter_43 : decode mMd_enter.2.2.2.1 43 = .ok ((.aload_n 0), 1) := by decide +kernel
theorem dMd_enter_44 : decode mMd_enter.2.2.2.1 44 = .ok ((.getfield 152), 3) := by decide +kernel
theorem dMd_enter_47 : decode mMd_enter.2.2.2.1 47 = .ok ((.lload 5), 2) := by decide +kernel
theorem dMd_enter_49 : decode mMd_enter.2.2.2.1 49 = .ok (.lastore, 1) := by decide +kernel
theorem dMd_enter_50 : decode mMd_enter.2.2.2.1 50 = .ok ((.aload_n 0), 1) := by decide +kernel
theorem dMd_enter_51 : decode mMd_enter.2.2.2.1 51 = .ok (.dup, 1) := by decide +kernel
theorem dMd_enter_52 : decode mMd_enter.2.2.2.1 52 = .ok ((.getfield 152), 3) := by decide +kernel
theorem dMd_enter_55 : decode mMd_enter.2.2.2.1 55 = .ok ((.iconst (1)), 1) := by decide +kernel
theorem dMd_enter_56 : decode mMd_enter.2.2.2.1 56 = .ok (.iadd, 1) := by decide +kernel
theorem dMd_enter_57 : decode mMd_enter.2.2.2.1 57 = .ok ((.putfield 152), 3) := by decide +kernel
theorem dMd_enter_60 : decode mMd_enter.2.2.2.1 60 = .ok (.return_, 1) := by decide +kernel
theorem dMd_entry_0 : decode mMd_entry.2.2.2.1 0 = .ok ((.aload_n 0), 1) := by decide +kernel
theorem dMd_entry_1 : decode mMd_entry.2.2.2.1 1 = .ok ((.getfield 42), 3) := by decide +kernel
theorem dMd_entry_4 : decode mMd_entry.2.2.2.1 4 = .ok ((.aload_n 0), 1) := by decide +kernel
theorem dMd_entry_5 : decode mMd_entry.2.2.2.1 5 = .ok ((.getfield 122), 3) := by decide +kernel
theorem dMd_entry_8 : decode mMd_entry.2.2.2.1 8 = .ok ((.lload_n 1), 1) := by decide +kernel
theorem dMd_entry_9 : decode mMd_entry.2.2.2.1 9 = .ok (.lastore, 1) := by decide +kernel
theorem dMd_entry_10 : decode mMd_entry.2.2.2.1 10 = .ok ((.aload_n 0), 1) := by decide +kernel
theorem dMd_entry_11 : decode mMd_entry.2.2.2.1 11 = .ok ((.getfield 45), 3) := by decide +kernel
theorem dMd_entry_14 : decode mMd_entry.2.2.2.1 14 = .ok ((.aload_n 0), 1) := by decide +kernel
theorem dMd_entry_15 : decode mMd_entry.2.2.2.1 15 = .ok ((.getfield 122), 3) := by decide +kernel
theorem dMd_entry_18 : decode mMd_entry.2.2.2.1 18 = .ok ((.iload_n 3), 1) := by decide +kernel
theorem dMd_entry_19 : decode mMd_entry.2.2.2.1 19 = .ok (.iastore, 1) := by decide +kernel
theorem dMd_entry_20 : decode mMd_entry.2.2.2.1 20 = .ok ((.aload_n 0), 1) := by decide +kernel
theorem dMd_entry_21 : decode mMd_entry.2.2.2.1 21 = .ok ((.getfield 48), 3) := by decide +kernel
theorem dMd_entry_24 : decode mMd_entry.2.2.2.1 24 = .ok ((.aload_n 0), 1) := by decide +kernel
theorem dMd_entry_25 : decode mMd_entry.2.2.2.1 25 = .ok ((.getfield 122), 3) := by decide +kernel
theorem dMd_entry_28 : decode mMd_entry.2.2.2.1 28 = .ok ((.iload 4), 2) := by decide +kernel
theorem dMd_entry_30 : decode mMd_entry.2.2.2.1 30 = .ok (.iastore, 1) := by decide +kernel
theorem dMd_entry_31 : decode mMd_entry.2.2.2.1 31 = .ok ((.aload_n 0), 1) := by decide +kernel
theorem dMd_entry_32 : decode mMd_entry.2.2.2.1 32 = .ok ((.getfield 51), 3) := by decide +kernel
theorem dMd_entry_35 : decode mMd_entry.2.2.2.1 35 = .ok ((.aload_n 0), 1) := by decide +kernel
theorem dMd_entry_36 : decode mMd_entry.2.2.2.1 36 = .ok ((.getfield 122), 3) := by decide +kernel
theorem dMd_entry_39 : decode mMd_entry.2.2.2.1 39 = .ok ((.iload 5), 2) := by decide +kernel
theorem dMd_entry_41 : decode mMd_entry.2.2.2.1 41 = .ok (.iastore, 1) := by decide +kernel
theorem dMd_entry_42 : decode mMd_entry.2.2.2.1 42 = .ok ((.aload_n 0), 1) := by decide +kernel
theorem dMd_entry_43 : decode mMd_entry.2.2.2.1 43 = .ok ((.getfield 54), 3) := by decide +kernel
theorem dMd_entry_46 : decode mMd_entry.2.2.2.1 46 = .ok ((.aload_n 0), 1) := by decide +kernel
theorem dMd_entry_47 : decode mMd_entry.2.2.2.1 47 = .ok ((.getfield 122), 3) := by decide +kernel
theorem dMd_entry_50 : decode mMd_entry.2.2.2.1 50 = .ok ((.iload 6), 2) := by decide +kernel
theorem dMd_entry_52 : decode mMd_entry.2.2.2.1 52 = .ok (.iastore, 1) := by decide +kernel
theorem dMd_entry_53 : decode mMd_entry.2.2.2.1 53 = .ok ((.aload_n 0), 1) := by decide +kernel
theorem dMd_entry_54 : decode mMd_entry.2.2.2.1 54 = .ok (.dup, 1) := by decide +kernel
theorem dMd_entry_55 : decode mMd_entry.2.2.2.1 55 = .ok ((.getfield 122), 3) := by decide +kernel
theorem dMd_entry_58 : decode mMd_entry.2.2.2.1 58 = .ok ((.iconst (1)), 1) := by decide +kernel
theorem dMd_entry_59 : decode mMd_entry.2.2.2.1 59 = .ok (.iadd, 1) := by decide +kernel
theorem dMd_entry_60 : decode mMd_entry.2.2.2.1 60 = .ok ((.putfield 122), 3) := by decide +kernel
theorem dMd_entry_63 : decode mMd_entry.2.2.2.1 63 = .ok (.return_, 1) := by decide +kernel
theorem dMd_gather_0 : decode mMd_gather.2.2.2.1 0 = .ok ((.aload_n 0), 1) := by decide +kernel
theorem dMd_gather_1 : decode mMd_gather.2.2.2.1 1 = .ok ((.getfield 158), 3) := by decide +kernel
theorem dMd_gather_4 : decode mMd_gather.2.2.2.1 4 = .ok ((.iconst (1)), 1) := by decide +kernel
theorem dMd_gather_5 : decode mMd_gather.2.2.2.1 5 = .ok (.isub, 1) := by decide +kernel
theorem dMd_gather_6 : decode mMd_gather.2.2.2.1 6 = .ok ((.istore_n 2), 1) := by decide +kernel
theorem dMd_gather_7 : decode mMd_gather.2.2.2.1 7 = .ok ((.iload_n 2), 1) := by decide +kernel
theorem dMd_gather_8 : decode mMd_gather.2.2.2.1 8 = .ok ((.iload_n 1), 1) := by decide +kernel
theorem dMd_gather_9 : decode mMd_gather.2.2.2.1 9 = .ok ((.if_icmp .lt (71)), 3) := by decide +kernel
theorem dMd_gather_12 : decode mMd_gather.2.2.2.1 12 = .ok ((.aload_n 0), 1) := by decide +kernel
theorem dMd_gather_13 : decode mMd_gather.2.2.2.1 13 = .ok ((.iload_n 2), 1) := by decide +kernel
theorem dMd_gather_14 : decode mMd_gather.2.2.2.1 14 = .ok ((.invokevirtual 161), 3) := by decide +kernel
theorem dMd_gather_17 : decode mMd_gather.2.2.2.1 17 = .ok ((.ifCond .ne (5)), 3) := by decide +kernel
theorem dMd_gather_20 : decode mMd_gather.2.2.2.1 20 = .ok ((.iconst (0)), 1) := by decide +kernel
theorem dMd_gather_21 : decode mMd_gather.2.2.2.1 21 = .ok (.ireturn, 1) := by decide +kernel
theorem dMd_gather_22 : decode mMd_gather.2.2.2.1 22 = .ok ((.aload_n 0), 1) := by decide +kernel
theorem dMd_gather_23 : decode mMd_gather.2.2.2.1 23 = .ok ((.aload_n 0), 1) := by decide +kernel
theorem dMd_gather_24 : decode mMd_gather.2.2.2.1 24 = .ok ((.getfield 108), 3) := by decide +kernel
theorem dMd_gather_27 : decode mMd_gather.2.2.2.1 27 = .ok ((.aload_n 0), 1) := by decide +kernel
theorem dMd_gather_28 : decode mMd_gather.2.2.2.1 28 = .ok ((.getfield 165), 3) := by decide +kernel
theorem dMd_gather_31 : decode mMd_gather.2.2.2.1 31 = .ok ((.if_icmp .ge (10)), 3) := by decide +kernel
theorem dMd_gather_34 : decode mMd_gather.2.2.2.1 34 = .ok ((.aload_n 0), 1) := by decide +kernel
theorem dMd_gather_35 : decode mMd_gather.2.2.2.1 35 = .ok ((.getfield 108), 3) := by decide +kernel
theorem dMd_gather_38 : decode mMd_gather.2.2.2.1 38 = .ok ((.goto (7)), 3) := by decide +kernel
theorem dMd_gather_41 : decode mMd_gather.2.2.2.1 41 = .ok ((.aload_n 0), 1) := by decide +kernel
theorem dMd_gather_42 : decode mMd_gather.2.2.2.1 42 = .ok ((.getfield 165), 3) := by decide +kernel
theorem dMd_gather_45 : decode mMd_gather.2.2.2.1 45 = .ok ((.putfield 165), 3) := by decide +kernel
theorem dMd_gather_48 : decode mMd_gather.2.2.2.1 48 = .ok ((.aload_n 0), 1) := by decide +kernel
theorem dMd_gather_49 : decode mMd_gather.2.2.2.1 49 = .ok ((.aload_n 0), 1) := by decide +kernel
theorem dMd_gather_50 : decode mMd_gather.2.2.2.1 50 = .ok ((.getfield 111), 3) := by decide +kernel
theorem dMd_gather_53 : decode mMd_gather.2.2.2.1 53 = .ok ((.aload_n 0), 1) := by decide +kernel
theorem dMd_gather_54 : decode mMd_gather.2.2.2.1 54 = .ok ((.getfield 168), 3) := by decide +kernel
theorem dMd_gather_57 : decode mMd_gather.2.2.2.1 57 = .ok ((.if_icmp .le (10)), 3) := by decide +kernel
theorem dMd_gather_60 : decode mMd_gather.2.2.2.1 60 = .ok ((.aload_n 0), 1) := by decide +kernel
theorem dMd_gather_61 : decode mMd_gather.2.2.2.1 61 = .ok ((.getfield 111), 3) := by decide +kernel
theorem dMd_gather_64 : decode mMd_gather.2.2.2.1 64 = .ok ((.goto (7)), 3) := by decide +kernel
theorem dMd_gather_67 : decode mMd_gather.2.2.2.1 67 = .ok ((.aload_n 0), 1) := by decide +kernel
theorem dMd_gather_68 : decode mMd_gather.2.2.2.1 68 = .ok ((.getfield 168), 3) := by decide +kernel
theorem dMd_gather_71 : decode mMd_gather.2.2.2.1 71 = .ok ((.putfield 168), 3) := by decide +kernel
theorem dMd_gather_74 : decode mMd_gather.2.2.2.1 74 = .ok ((.iinc 2 (-1)), 3) := by decide +kernel
theorem dMd_gather_77 : decode mMd_gather.2.2.2.1 77 = .ok ((.goto (-70)), 3) := by decide +kernel
theorem dMd_gather_80 : decode mMd_gather.2.2.2.1 80 = .ok ((.iconst (1)), 1) := by decide +kernel
theorem dMd_gather_81 : decode mMd_gather.2.2.2.1 81 = .ok (.ireturn, 1) := by decide +kernel
theorem dMd_empty_0 : decode mMd_empty.2.2.2.1 0 = .ok ((.aload_n 0), 1) := by decide +kernel
theorem dMd_empty_1 : decode mMd_empty.2.2.2.1 1 = .ok ((.iconst (0)), 1) := by decide +kernel
theorem dMd_empty_2 : decode mMd_empty.2.2.2.1 2 = .ok ((.putfield 152), 3) := by decide +kernel
theorem dMd_empty_5 : decode mMd_empty.2.2.2.1 5 = .ok ((.aload_n 0), 1) := by decide +kernel
theorem dMd_empty_6 : decode mMd_empty.2.2.2.1 6 = .ok ((.iconst (0)), 1) := by decide +kernel
theorem dMd_empty_7 : decode mMd_empty.2.2.2.1 7 = .ok ((.putfield 122), 3) := by decide +kernel
theorem dMd_empty_10 : decode mMd_empty.2.2.2.1 10 = .ok ((.aload_n 0), 1) := by decide +kernel
theorem dMd_empty_11 : decode mMd_empty.2.2.2.1 11 = .ok ((.sipush (3000)), 3) := by decide +kernel
theorem dMd_empty_14 : decode mMd_empty.2.2.2.1 14 = .ok ((.putfield 165), 3) := by decide +kernel
theorem dMd_empty_17 : decode mMd_empty.2.2.2.1 17 = .ok ((.aload_n 0), 1) := by decide +kernel
theorem dMd_empty_18 : decode mMd_empty.2.2.2.1 18 = .ok ((.iconst (0)), 1) := by decide +kernel
theorem dMd_empty_19 : decode mMd_empty.2.2.2.1 19 = .ok ((.putfield 168), 3) := by decide +kernel
theorem dMd_empty_22 : decode mMd_empty.2.2.2.1 22 = .ok (.return_, 1) := by decide +kernel
theorem dMd_view_0 : decode mMd_view.2.2.2.1 0 = .ok ((.aload_n 0), 1) := by decide +kernel
theorem dMd_view_1 : decode mMd_view.2.2.2.1 1 = .ok ((.invokevirtual 171), 3) := by decide +kernel
theorem dMd_view_4 : decode mMd_view.2.2.2.1 4 = .ok ((.aload_n 0), 1) := by decide +kernel
theorem dMd_view_5 : decode mMd_view.2.2.2.1 5 = .ok ((.iconst (0)), 1) := by decide +kernel
theorem dMd_view_6 : decode mMd_view.2.2.2.1 6 = .ok ((.invokevirtual 174), 3) := by decide +kernel
theorem dMd_view_9 : decode mMd_view.2.2.2.1 9 = .ok (.ireturn, 1) := by decide +kernel
theorem dMd_put_0 : decode mMd_put.2.2.2.1 0 = .ok ((.aload_n 0), 1) := by decide +kernel
theorem dMd_put_1 : decode mMd_put.2.2.2.1 1 = .ok ((.getfield 177), 3) := by decide +kernel
theorem dMd_put_4 : decode mMd_put.2.2.2.1 4 = .ok ((.sipush (1200)), 3) := by decide +kernel
theorem dMd_put_7 : decode mMd_put.2.2.2.1 7 = .ok ((.if_icmp .ne (9)), 3) := by decide +kernel
theorem dMd_put_10 : decode mMd_put.2.2.2.1 10 = .ok ((.aload_n 0), 1) := by decide +kernel
theorem dMd_put_11 : decode mMd_put.2.2.2.1 11 = .ok ((.iconst (1)), 1) := by decide +kernel
theorem dMd_put_12 : decode mMd_put.2.2.2.1 12 = .ok ((.putfield 180), 3) := by decide +kernel
theorem dMd_put_15 : decode mMd_put.2.2.2.1 15 = .ok (.return_, 1) := by decide +kernel
theorem dMd_put_16 : decode mMd_put.2.2.2.1 16 = .ok ((.aload_n 0), 1) := by decide +kernel
theorem dMd_put_17 : decode mMd_put.2.2.2.1 17 = .ok ((.getfield 57), 3) := by decide +kernel
theorem dMd_put_20 : decode mMd_put.2.2.2.1 20 = .ok ((.aload_n 0), 1) := by decide +kernel
theorem dMd_put_21 : decode mMd_put.2.2.2.1 21 = .ok ((.getfield 177), 3) := by decide +kernel
theorem dMd_put_24 : decode mMd_put.2.2.2.1 24 = .ok ((.iload_n 1), 1) := by decide +kernel
theorem dMd_put_25 : decode mMd_put.2.2.2.1 25 = .ok (.i2b, 1) := by decide +kernel
theorem dMd_put_26 : decode mMd_put.2.2.2.1 26 = .ok (.bastore, 1) := by decide +kernel
theorem dMd_put_27 : decode mMd_put.2.2.2.1 27 = .ok ((.aload_n 0), 1) := by decide +kernel
theorem dMd_put_28 : decode mMd_put.2.2.2.1 28 = .ok (.dup, 1) := by decide +kernel
theorem dMd_put_29 : decode mMd_put.2.2.2.1 29 = .ok ((.getfield 177), 3) := by decide +kernel
theorem dMd_put_32 : decode mMd_put.2.2.2.1 32 = .ok ((.iconst (1)), 1) := by decide +kernel
theorem dMd_put_33 : decode mMd_put.2.2.2.1 33 = .ok (.iadd, 1) := by decide +kernel
theorem dMd_put_34 : decode mMd_put.2.2.2.1 34 = .ok ((.putfield 177), 3) := by decide +kernel
theorem dMd_put_37 : decode mMd_put.2.2.2.1 37 = .ok (.return_, 1) := by decide +kernel
theorem dMd_putNumber_0 : decode mMd_putNumber.2.2.2.1 0 = .ok ((.iload_n 1), 1) := by decide +kernel
theorem dMd_putNumber_1 : decode mMd_putNumber.2.2.2.1 1 = .ok ((.istore_n 2), 1) := by decide +kernel
theorem dMd_putNumber_2 : decode mMd_putNumber.2.2.2.1 2 = .ok ((.iload_n 2), 1) := by decide +kernel
theorem dMd_putNumber_3 : decode mMd_putNumber.2.2.2.1 3 = .ok ((.bipush (127)), 2) := by decide +kernel
theorem dMd_putNumber_5 : decode mMd_putNumber.2.2.2.1 5 = .ok ((.if_icmp .le (23)), 3) := by decide +kernel
theorem dMd_putNumber_8 : decode mMd_putNumber.2.2.2.1 8 = .ok ((.aload_n 0), 1) := by decide +kernel
theorem dMd_putNumber_9 : decode mMd_putNumber.2.2.2.1 9 = .ok ((.iload_n 2), 1) := by decide +kernel
theorem dMd_putNumber_10 : decode mMd_putNumber.2.2.2.1 10 = .ok ((.bipush (127)), 2) := by decide +kernel
theorem dMd_putNumber_12 : decode mMd_putNumber.2.2.2.1 12 = .ok (.iand, 1) := by decide +kernel
theorem dMd_putNumber_13 : decode mMd_putNumber.2.2.2.1 13 = .ok ((.sipush (128)), 3) := by decide +kernel
theorem dMd_putNumber_16 : decode mMd_putNumber.2.2.2.1 16 = .ok (.ior, 1) := by decide +kernel
theorem dMd_putNumber_17 : decode mMd_putNumber.2.2.2.1 17 = .ok ((.invokevirtual 183), 3) := by decide +kernel
theorem dMd_putNumber_20 : decode mMd_putNumber.2.2.2.1 20 = .ok ((.iload_n 2), 1) := by decide +kernel
theorem dMd_putNumber_21 : decode mMd_putNumber.2.2.2.1 21 = .ok ((.bipush (7)), 2) := by decide +kernel
theorem dMd_putNumber_23 : decode mMd_putNumber.2.2.2.1 23 = .ok (.ishr, 1) := by decide +kernel
theorem dMd_putNumber_24 : decode mMd_putNumber.2.2.2.1 24 = .ok ((.istore_n 2), 1) := by decide +kernel
theorem dMd_putNumber_25 : decode mMd_putNumber.2.2.2.1 25 = .ok ((.goto (-23)), 3) := by decide +kernel
theorem dMd_putNumber_28 : decode mMd_putNumber.2.2.2.1 28 = .ok ((.aload_n 0), 1) := by decide +kernel
theorem dMd_putNumber_29 : decode mMd_putNumber.2.2.2.1 29 = .ok ((.iload_n 2), 1) := by decide +kernel
theorem dMd_putNumber_30 : decode mMd_putNumber.2.2.2.1 30 = .ok ((.invokevirtual 183), 3) := by decide +kernel
theorem dMd_putNumber_33 : decode mMd_putNumber.2.2.2.1 33 = .ok (.return_, 1) := by decide +kernel
theorem dMd_putName_0 : decode mMd_putName.2.2.2.1 0 = .ok ((.iload_n 3), 1) := by decide +kernel
theorem dMd_putName_1 : decode mMd_putName.2.2.2.1 1 = .ok ((.istore 4), 2) := by decide +kernel
theorem dMd_putName_3 : decode mMd_putName.2.2.2.1 3 = .ok ((.iload 4), 2) := by decide +kernel
theorem dMd_putName_5 : decode mMd_putName.2.2.2.1 5 = .ok ((.lload_n 1), 1) := by decide +kernel
theorem dMd_putName_6 : decode mMd_putName.2.2.2.1 6 = .ok ((.invokestatic 66), 3) := by decide +kernel
theorem dMd_putName_9 : decode mMd_putName.2.2.2.1 9 = .ok ((.if_icmp .ge (19)), 3) := by decide +kernel
theorem dMd_putName_12 : decode mMd_putName.2.2.2.1 12 = .ok ((.aload_n 0), 1) := by decide +kernel
theorem dMd_putName_13 : decode mMd_putName.2.2.2.1 13 = .ok ((.lload_n 1), 1) := by decide +kernel
theorem dMd_putName_14 : decode mMd_putName.2.2.2.1 14 = .ok ((.iload 4), 2) := by decide +kernel
theorem dMd_putName_16 : decode mMd_putName.2.2.2.1 16 = .ok ((.invokestatic 62), 3) := by decide +kernel
theorem dMd_putName_19 : decode mMd_putName.2.2.2.1 19 = .ok ((.invokevirtual 183), 3) := by decide +kernel
theorem dMd_putName_22 : decode mMd_putName.2.2.2.1 22 = .ok ((.iinc 4 (1)), 3) := by decide +kernel
theorem dMd_putName_25 : decode mMd_putName.2.2.2.1 25 = .ok ((.goto (-22)), 3) := by decide +kernel
theorem dMd_putName_28 : decode mMd_putName.2.2.2.1 28 = .ok (.return_, 1) := by decide +kernel
theorem dMd_nextRecord_0 : decode mMd_nextRecord.2.2.2.1 0 = .ok ((.iconst (-1)), 1) := by decide +kernel
theorem dMd_nextRecord_1 : decode mMd_nextRecord.2.2.2.1 1 = .ok ((.istore 4), 2) := by decide +kernel
theorem dMd_nextRecord_3 : decode mMd_nextRecord.2.2.2.1 3 = .ok ((.iconst (0)), 1) := by decide +kernel
theorem dMd_nextRecord_4 : decode mMd_nextRecord.2.2.2.1 4 = .ok ((.istore 5), 2) := by decide +kernel
theorem dMd_nextRecord_6 : decode mMd_nextRecord.2.2.2.1 6 = .ok ((.iload 5), 2) := by decide +kernel
theorem dMd_nextRecord_8 : decode mMd_nextRecord.2.2.2.1 8 = .ok ((.aload_n 0), 1) := by decide +kernel
theorem dMd_nextRecord_9 : decode mMd_nextRecord.2.2.2.1 9 = .ok ((.getfield 152), 3) := by decide +kernel
theorem dMd_nextRecord_12 : decode mMd_nextRecord.2.2.2.1 12 = .ok ((.if_icmp .ge (86)), 3) := by decide +kernel
theorem dMd_nextRecord_15 : decode mMd_nextRecord.2.2.2.1 15 = .ok ((.aload_n 0), 1) := by decide +kernel
theorem dMd_nextRecord_16 : decode mMd_nextRecord.2.2.2.1 16 = .ok ((.getfield 33), 3) := by decide +kernel
theorem dMd_nextRecord_19 : decode mMd_nextRecord.2.2.2.1 19 = .ok ((.iload 5), 2) := by decide +kernel
theorem dMd_nextRecord_21 : decode mMd_nextRecord.2.2.2.1 21 = .ok (.iaload, 1) := by decide +kernel
theorem dMd_nextRecord_22 : decode mMd_nextRecord.2.2.2.1 22 = .ok ((.iload_n 3), 1) := by decide +kernel
theorem dMd_nextRecord_23 : decode mMd_nextRecord.2.2.2.1 23 = .ok ((.if_icmp .lt (27)), 3) := by decide +kernel
theorem dMd_nextRecord_26 : decode mMd_nextRecord.2.2.2.1 26 = .ok ((.lload_n 1), 1) := by decide +kernel
theorem dMd_nextRecord_27 : decode mMd_nextRecord.2.2.2.1 27 = .ok ((.lconst 0), 1) := by decide +kernel
theorem dMd_nextRecord_28 : decode mMd_nextRecord.2.2.2.1 28 = .ok (.lcmp, 1) := by decide +kernel
theorem dMd_nextRecord_29 : decode mMd_nextRecord.2.2.2.1 29 = .ok ((.ifCond .eq (17)), 3) := by decide +kernel
theorem dMd_nextRecord_32 : decode mMd_nextRecord.2.2.2.1 32 = .ok ((.aload_n 0), 1) := by decide +kernel
theorem dMd_nextRecord_33 : decode mMd_nextRecord.2.2.2.1 33 = .ok ((.getfield 30), 3) := by decide +kernel
theorem dMd_nextRecord_36 : decode mMd_nextRecord.2.2.2.1 36 = .ok ((.iload 5), 2) := by decide +kernel
theorem dMd_nextRecord_38 : decode mMd_nextRecord.2.2.2.1 38 = .ok (.laload, 1) := by decide +kernel
theorem dMd_nextRecord_39 : decode mMd_nextRecord.2.2.2.1 39 = .ok ((.lload_n 1), 1) := by decide +kernel
theorem dMd_nextRecord_40 : decode mMd_nextRecord.2.2.2.1 40 = .ok ((.invokestatic 141), 3) := by decide +kernel
theorem dMd_nextRecord_43 : decode mMd_nextRecord.2.2.2.1 43 = .ok ((.ifCond .le (7)), 3) := by decide +kernel
theorem dMd_nextRecord_46 : decode mMd_nextRecord.2.2.2.1 46 = .ok ((.iconst (1)), 1) := by decide +kernel
theorem dMd_nextRecord_47 : decode mMd_nextRecord.2.2.2.1 47 = .ok ((.goto (4)), 3) := by decide +kernel
theorem dMd_nextRecord_50 : decode mMd_nextRecord.2.2.2.1 50 = .ok ((.iconst (0)), 1) := by decide +kernel
theorem dMd_nextRecord_51 : decode mMd_nextRecord.2.2.2.1 51 = .ok ((.istore 6), 2) := by decide +kernel
theorem dMd_nextRecord_53 : decode mMd_nextRecord.2.2.2.1 53 = .ok ((.iload 6), 2) := by decide +kernel
theorem dMd_nextRecord_55 : decode mMd_nextRecord.2.2.2.1 55 = .ok ((.ifCond .eq (33)), 3) := by decide +kernel
theorem dMd_nextRecord_58 : decode mMd_nextRecord.2.2.2.1 58 = .ok ((.iload 4), 2) := by decide +kernel
theorem dMd_nextRecord_60 : decode mMd_nextRecord.2.2.2.1 60 = .ok ((.ifCond .lt (23)), 3) := by decide +kernel
theorem dMd_nextRecord_63 : decode mMd_nextRecord.2.2.2.1 63 = .ok ((.aload_n 0), 1) := by decide +kernel
theorem dMd_nextRecord_64 : decode mMd_nextRecord.2.2.2.1 64 = .ok ((.getfield 30), 3) := by decide +kernel
theorem dMd_nextRecord_67 : decode mMd_nextRecord.2.2.2.1 67 = .ok ((.iload 5), 2) := by decide +kernel
theorem dMd_nextRecord_69 : decode mMd_nextRecord.2.2.2.1 69 = .ok (.laload, 1) := by decide +kernel
theorem dMd_nextRecord_70 : decode mMd_nextRecord.2.2.2.1 70 = .ok ((.aload_n 0), 1) := by decide +kernel
theorem dMd_nextRecord_71 : decode mMd_nextRecord.2.2.2.1 71 = .ok ((.getfield 30), 3) := by decide +kernel
theorem dMd_nextRecord_74 : decode mMd_nextRecord.2.2.2.1 74 = .ok ((.iload 4), 2) := by decide +kernel
theorem dMd_nextRecord_76 : decode mMd_nextRecord.2.2.2.1 76 = .ok (.laload, 1) := by decide +kernel
theorem dMd_nextRecord_77 : decode mMd_nextRecord.2.2.2.1 77 = .ok ((.invokestatic 141), 3) := by decide +kernel
theorem dMd_nextRecord_80 : decode mMd_nextRecord.2.2.2.1 80 = .ok ((.ifCond .ge (8)), 3) := by decide +kernel
theorem dMd_nextRecord_83 : decode mMd_nextRecord.2.2.2.1 83 = .ok ((.iload 5), 2) := by decide +kernel
theorem dMd_nextRecord_85 : decode mMd_nextRecord.2.2.2.1 85 = .ok ((.goto (5)), 3) := by decide +kernel
theorem dMd_nextRecord_88 : decode mMd_nextRecord.2.2.2.1 88 = .ok ((.iload 4), 2) := by decide +kernel
theorem dMd_nextRecord_90 : decode mMd_nextRecord.2.2.2.1 90 = .ok ((.istore 4), 2) := by decide +kernel
theorem dMd_nextRecord_92 : decode mMd_nextRecord.2.2.2.1 92 = .ok ((.iinc 5 (1)), 3) := by decide +kernel
theorem dMd_nextRecord_95 : decode mMd_nextRecord.2.2.2.1 95 = .ok ((.goto (-89)), 3) := by decide +kernel
theorem dMd_nextRecord_98 : decode mMd_nextRecord.2.2.2.1 98 = .ok ((.iload 4), 2) := by decide +kernel
theorem dMd_nextRecord_100 : decode mMd_nextRecord.2.2.2.1 100 = .ok (.ireturn, 1) := by decide +kernel
theorem dMd_sooner_0 : decode mMd_sooner.2.2.2.1 0 = .ok ((.aload_n 0), 1) := by decide +kernel
theorem dMd_sooner_1 : decode mMd_sooner.2.2.2.1 1 = .ok ((.getfield 42), 3) := by decide +kernel
theorem dMd_sooner_4 : decode mMd_sooner.2.2.2.1 4 = .ok ((.iload_n 1), 1) := by decide +kernel
theorem dMd_sooner_5 : decode mMd_sooner.2.2.2.1 5 = .ok (.laload, 1) := by decide +kernel
theorem dMd_sooner_6 : decode mMd_sooner.2.2.2.1 6 = .ok ((.aload_n 0), 1) := by decide +kernel
theorem dMd_sooner_7 : decode mMd_sooner.2.2.2.1 7 = .ok ((.getfield 42), 3) := by decide +kernel
theorem dMd_sooner_10 : decode mMd_sooner.2.2.2.1 10 = .ok ((.iload_n 2), 1) := by decide +kernel
theorem dMd_sooner_11 : decode mMd_sooner.2.2.2.1 11 = .ok (.laload, 1) := by decide +kernel
theorem dMd_sooner_12 : decode mMd_sooner.2.2.2.1 12 = .ok ((.invokestatic 141), 3) := by decide +kernel
theorem dMd_sooner_15 : decode mMd_sooner.2.2.2.1 15 = .ok ((.istore_n 3), 1) := by decide +kernel
theorem dMd_sooner_16 : decode mMd_sooner.2.2.2.1 16 = .ok ((.iload_n 3), 1) := by decide +kernel
theorem dMd_sooner_17 : decode mMd_sooner.2.2.2.1 17 = .ok ((.ifCond .eq (15)), 3) := by decide +kernel
theorem dMd_sooner_20 : decode mMd_sooner.2.2.2.1 20 = .ok ((.iload_n 3), 1) := by decide +kernel
theorem dMd_sooner_21 : decode mMd_sooner.2.2.2.1 21 = .ok ((.ifCond .ge (7)), 3) := by decide +kernel
theorem dMd_sooner_24 : decode mMd_sooner.2.2.2.1 24 = .ok ((.iconst (1)), 1) := by decide +kernel
theorem dMd_sooner_25 : decode mMd_sooner.2.2.2.1 25 = .ok ((.goto (65)), 3) := by decide +kernel
theorem dMd_sooner_28 : decode mMd_sooner.2.2.2.1 28 = .ok ((.iconst (0)), 1) := by decide +kernel
theorem dMd_sooner_29 : decode mMd_sooner.2.2.2.1 29 = .ok ((.goto (61)), 3) := by decide +kernel
theorem dMd_sooner_32 : decode mMd_sooner.2.2.2.1 32 = .ok ((.aload_n 0), 1) := by decide +kernel
theorem dMd_sooner_33 : decode mMd_sooner.2.2.2.1 33 = .ok ((.getfield 45), 3) := by decide +kernel
theorem dMd_sooner_36 : decode mMd_sooner.2.2.2.1 36 = .ok ((.iload_n 1), 1) := by decide +kernel
theorem dMd_sooner_37 : decode mMd_sooner.2.2.2.1 37 = .ok (.iaload, 1) := by decide +kernel
theorem dMd_sooner_38 : decode mMd_sooner.2.2.2.1 38 = .ok ((.aload_n 0), 1) := by decide +kernel
theorem dMd_sooner_39 : decode mMd_sooner.2.2.2.1 39 = .ok ((.getfield 45), 3) := by decide +kernel
theorem dMd_sooner_42 : decode mMd_sooner.2.2.2.1 42 = .ok ((.iload_n 2), 1) := by decide +kernel
theorem dMd_sooner_43 : decode mMd_sooner.2.2.2.1 43 = .ok (.iaload, 1) := by decide +kernel
theorem dMd_sooner_44 : decode mMd_sooner.2.2.2.1 44 = .ok ((.if_icmp .eq (26)), 3) := by decide +kernel
theorem dMd_sooner_47 : decode mMd_sooner.2.2.2.1 47 = .ok ((.aload_n 0), 1) := by decide +kernel
theorem dMd_sooner_48 : decode mMd_sooner.2.2.2.1 48 = .ok ((.getfield 45), 3) := by decide +kernel
theorem dMd_sooner_51 : decode mMd_sooner.2.2.2.1 51 = .ok ((.iload_n 1), 1) := by decide +kernel
theorem dMd_sooner_52 : decode mMd_sooner.2.2.2.1 52 = .ok (.iaload, 1) := by decide +kernel
theorem dMd_sooner_53 : decode mMd_sooner.2.2.2.1 53 = .ok ((.aload_n 0), 1) := by decide +kernel
theorem dMd_sooner_54 : decode mMd_sooner.2.2.2.1 54 = .ok ((.getfield 45), 3) := by decide +kernel
theorem dMd_sooner_57 : decode mMd_sooner.2.2.2.1 57 = .ok ((.iload_n 2), 1) := by decide +kernel
theorem dMd_sooner_58 : decode mMd_sooner.2.2.2.1 58 = .ok (.iaload, 1) := by decide +kernel
theorem dMd_sooner_59 : decode mMd_sooner.2.2.2.1 59 = .ok ((.if_icmp .le (7)), 3) := by decide +kernel
theorem dMd_sooner_62 : decode mMd_sooner.2.2.2.1 62 = .ok ((.iconst (1)), 1) := by decide +kernel
theorem dMd_sooner_63 : decode mMd_sooner.2.2.2.1 63 = .ok ((.goto (27)), 3) := by decide +kernel
theorem dMd_sooner_66 : decode mMd_sooner.2.2.2.1 66 = .ok ((.iconst (0)), 1) := by decide +kernel
theorem dMd_sooner_67 : decode mMd_sooner.2.2.2.1 67 = .ok ((.goto (23)), 3) := by decide +kernel
theorem dMd_sooner_70 : decode mMd_sooner.2.2.2.1 70 = .ok ((.aload_n 0), 1) := by decide +kernel
theorem dMd_sooner_71 : decode mMd_sooner.2.2.2.1 71 = .ok ((.getfield 54), 3) := by decide +kernel
theorem dMd_sooner_74 : decode mMd_sooner.2.2.2.1 74 = .ok ((.iload_n 1), 1) := by decide +kernel
theorem dMd_sooner_75 : decode mMd_sooner.2.2.2.1 75 = .ok (.iaload, 1) := by decide +kernel
theorem dMd_sooner_76 : decode mMd_sooner.2.2.2.1 76 = .ok ((.aload_n 0), 1) := by decide +kernel
theorem dMd_sooner_77 : decode mMd_sooner.2.2.2.1 77 = .ok ((.getfield 54), 3) := by decide +kernel
theorem dMd_sooner_80 : decode mMd_sooner.2.2.2.1 80 = .ok ((.iload_n 2), 1) := by decide +kernel
theorem dMd_sooner_81 : decode mMd_sooner.2.2.2.1 81 = .ok (.iaload, 1) := by decide +kernel
theorem dMd_sooner_82 : decode mMd_sooner.2.2.2.1 82 = .ok ((.if_icmp .le (7)), 3) := by decide +kernel
theorem dMd_sooner_85 : decode mMd_sooner.2.2.2.1 85 = .ok ((.iconst (1)), 1) := by decide +kernel
theorem dMd_sooner_86 : decode mMd_sooner.2.2.2.1 86 = .ok ((.goto (4)), 3) := by decide +kernel
theorem dMd_sooner_89 : decode mMd_sooner.2.2.2.1 89 = .ok ((.iconst (0)), 1) := by decide +kernel
theorem dMd_sooner_90 : decode mMd_sooner.2.2.2.1 90 = .ok (.ireturn, 1) := by decide +kernel
