theorem dX8_leaves_52 : decode cX8_leaves 52 = .ok (.bipush 12, 2) := by decide +kernel
theorem dX8_leaves_54 : decode cX8_leaves 54 = .ok (.iload_n 2, 1) := by decide +kernel
theorem dX8_leaves_55 : decode cX8_leaves 55 = .ok (.iload 5, 2) := by decide +kernel
theorem dX8_leaves_57 : decode cX8_leaves 57 = .ok (.invokevirtual 128, 3) := by decide +kernel
theorem dX8_leaves_60 : decode cX8_leaves 60 = .ok (.aload_n 0, 1) := by decide +kernel
theorem dX8_leaves_61 : decode cX8_leaves 61 = .ok (.iload_n 1, 1) := by decide +kernel
theorem dX8_leaves_62 : decode cX8_leaves 62 = .ok (.iload_n 1, 1) := by decide +kernel
theorem dX8_leaves_63 : decode cX8_leaves 63 = .ok (.iload 5, 2) := by decide +kernel
theorem dX8_leaves_65 : decode cX8_leaves 65 = .ok (.invokevirtual 128, 3) := by decide +kernel
theorem dX8_leaves_68 : decode cX8_leaves 68 = .ok (.iload 4, 2) := by decide +kernel
theorem dX8_leaves_70 : decode cX8_leaves 70 = .ok (.iload_n 3, 1) := by decide +kernel
theorem dX8_leaves_71 : decode cX8_leaves 71 = .ok (.isub, 1) := by decide +kernel
theorem dX8_leaves_72 : decode cX8_leaves 72 = .ok (.istore 6, 2) := by decide +kernel
theorem dX8_leaves_74 : decode cX8_leaves 74 = .ok (.iload 6, 2) := by decide +kernel
theorem dX8_leaves_76 : decode cX8_leaves 76 = .ok (.ifCond .lt 17, 3) := by decide +kernel
theorem dX8_leaves_79 : decode cX8_leaves 79 = .ok (.aload_n 0, 1) := by decide +kernel
theorem dX8_leaves_80 : decode cX8_leaves 80 = .ok (.iload_n 1, 1) := by decide +kernel
theorem dX8_leaves_81 : decode cX8_leaves 81 = .ok (.iload 6, 2) := by decide +kernel
theorem dX8_leaves_83 : decode cX8_leaves 83 = .ok (.iload_n 3, 1) := by decide +kernel
theorem dX8_leaves_84 : decode cX8_leaves 84 = .ok (.invokevirtual 132, 3) := by decide +kernel
theorem dX8_leaves_87 : decode cX8_leaves 87 = .ok (.iinc 6 (-1), 3) := by decide +kernel
theorem dX8_leaves_90 : decode cX8_leaves 90 = .ok (.goto (-16), 3) := by decide +kernel
theorem dX8_leaves_93 : decode cX8_leaves 93 = .ok (.aload_n 0, 1) := by decide +kernel
theorem dX8_leaves_94 : decode cX8_leaves 94 = .ok (.iload_n 1, 1) := by decide +kernel
theorem dX8_leaves_95 : decode cX8_leaves 95 = .ok (.iload 5, 2) := by decide +kernel
theorem dX8_leaves_97 : decode cX8_leaves 97 = .ok (.invokevirtual 135, 3) := by decide +kernel
theorem dX8_leaves_100 : decode cX8_leaves 100 = .ok (.return_, 1) := by decide +kernel
theorem dX8_bit_0 : decode cX8_bit 0 = .ok (.aload_n 0, 1) := by decide +kernel
theorem dX8_bit_1 : decode cX8_bit 1 = .ok (.getfield 7, 3) := by decide +kernel
theorem dX8_bit_4 : decode cX8_bit 4 = .ok (.bipush 84, 2) := by decide +kernel
theorem dX8_bit_6 : decode cX8_bit 6 = .ok (.iload_n 1, 1) := by decide +kernel
theorem dX8_bit_7 : decode cX8_bit 7 = .ok (.imul, 1) := by decide +kernel
theorem dX8_bit_8 : decode cX8_bit 8 = .ok (.iload_n 2, 1) := by decide +kernel
theorem dX8_bit_9 : decode cX8_bit 9 = .ok (.bipush 16, 2) := by decide +kernel
theorem dX8_bit_11 : decode cX8_bit 11 = .ok (.idiv, 1) := by decide +kernel
theorem dX8_bit_12 : decode cX8_bit 12 = .ok (.iadd, 1) := by decide +kernel
theorem dX8_bit_13 : decode cX8_bit 13 = .ok (.iaload, 1) := by decide +kernel
theorem dX8_bit_14 : decode cX8_bit 14 = .ok (.iload_n 2, 1) := by decide +kernel
theorem dX8_bit_15 : decode cX8_bit 15 = .ok (.bipush 16, 2) := by decide +kernel
theorem dX8_bit_17 : decode cX8_bit 17 = .ok (.irem, 1) := by decide +kernel
theorem dX8_bit_18 : decode cX8_bit 18 = .ok (.ishr, 1) := by decide +kernel
theorem dX8_bit_19 : decode cX8_bit 19 = .ok (.iconst 1, 1) := by decide +kernel
theorem dX8_bit_20 : decode cX8_bit 20 = .ok (.iand, 1) := by decide +kernel
theorem dX8_bit_21 : decode cX8_bit 21 = .ok (.iconst 1, 1) := by decide +kernel
theorem dX8_bit_22 : decode cX8_bit 22 = .ok (.if_icmp .ne 7, 3) := by decide +kernel
theorem dX8_bit_25 : decode cX8_bit 25 = .ok (.iconst 1, 1) := by decide +kernel
theorem dX8_bit_26 : decode cX8_bit 26 = .ok (.goto 4, 3) := by decide +kernel
theorem dX8_bit_29 : decode cX8_bit 29 = .ok (.iconst 0, 1) := by decide +kernel
theorem dX8_bit_30 : decode cX8_bit 30 = .ok (.ireturn, 1) := by decide +kernel
theorem dX8_powers_0 : decode cX8_powers 0 = .ok (.aload_n 0, 1) := by decide +kernel
theorem dX8_powers_1 : decode cX8_powers 1 = .ok (.bipush 9, 2) := by decide +kernel
theorem dX8_powers_3 : decode cX8_powers 3 = .ok (.iload_n 1, 1) := by decide +kernel
theorem dX8_powers_4 : decode cX8_powers 4 = .ok (.invokevirtual 139, 3) := by decide +kernel
theorem dX8_powers_7 : decode cX8_powers 7 = .ok (.aload_n 0, 1) := by decide +kernel
theorem dX8_powers_8 : decode cX8_powers 8 = .ok (.bipush 9, 2) := by decide +kernel
theorem dX8_powers_10 : decode cX8_powers 10 = .ok (.iload_n 3, 1) := by decide +kernel
theorem dX8_powers_11 : decode cX8_powers 11 = .ok (.invokevirtual 142, 3) := by decide +kernel
theorem dX8_powers_14 : decode cX8_powers 14 = .ok (.aload_n 0, 1) := by decide +kernel
theorem dX8_powers_15 : decode cX8_powers 15 = .ok (.bipush 10, 2) := by decide +kernel
theorem dX8_powers_17 : decode cX8_powers 17 = .ok (.iconst 1, 1) := by decide +kernel
theorem dX8_powers_18 : decode cX8_powers 18 = .ok (.invokevirtual 145, 3) := by decide +kernel
theorem dX8_powers_21 : decode cX8_powers 21 = .ok (.bipush 16, 2) := by decide +kernel
theorem dX8_powers_23 : decode cX8_powers 23 = .ok (.aload_n 0, 1) := by decide +kernel
theorem dX8_powers_24 : decode cX8_powers 24 = .ok (.iload_n 2, 1) := by decide +kernel
theorem dX8_powers_25 : decode cX8_powers 25 = .ok (.invokevirtual 120, 3) := by decide +kernel
theorem dX8_powers_28 : decode cX8_powers 28 = .ok (.imul, 1) := by decide +kernel
theorem dX8_powers_29 : decode cX8_powers 29 = .ok (.iconst 1, 1) := by decide +kernel
theorem dX8_powers_30 : decode cX8_powers 30 = .ok (.isub, 1) := by decide +kernel
theorem dX8_powers_31 : decode cX8_powers 31 = .ok (.istore 4, 2) := by decide +kernel
theorem dX8_powers_33 : decode cX8_powers 33 = .ok (.iload 4, 2) := by decide +kernel
theorem dX8_powers_35 : decode cX8_powers 35 = .ok (.ifCond .lt 69, 3) := by decide +kernel
theorem dX8_powers_38 : decode cX8_powers 38 = .ok (.aload_n 0, 1) := by decide +kernel
theorem dX8_powers_39 : decode cX8_powers 39 = .ok (.bipush 11, 2) := by decide +kernel
theorem dX8_powers_41 : decode cX8_powers 41 = .ok (.bipush 10, 2) := by decide +kernel
theorem dX8_powers_43 : decode cX8_powers 43 = .ok (.bipush 10, 2) := by decide +kernel
theorem dX8_powers_45 : decode cX8_powers 45 = .ok (.invokevirtual 148, 3) := by decide +kernel
theorem dX8_powers_48 : decode cX8_powers 48 = .ok (.aload_n 0, 1) := by decide +kernel
theorem dX8_powers_49 : decode cX8_powers 49 = .ok (.bipush 11, 2) := by decide +kernel
theorem dX8_powers_51 : decode cX8_powers 51 = .ok (.iload_n 3, 1) := by decide +kernel
theorem dX8_powers_52 : decode cX8_powers 52 = .ok (.invokevirtual 142, 3) := by decide +kernel
theorem dX8_powers_55 : decode cX8_powers 55 = .ok (.aload_n 0, 1) := by decide +kernel
theorem dX8_powers_56 : decode cX8_powers 56 = .ok (.bipush 10, 2) := by decide +kernel
theorem dX8_powers_58 : decode cX8_powers 58 = .ok (.bipush 11, 2) := by decide +kernel
theorem dX8_powers_60 : decode cX8_powers 60 = .ok (.invokevirtual 139, 3) := by decide +kernel
theorem dX8_powers_63 : decode cX8_powers 63 = .ok (.aload_n 0, 1) := by decide +kernel
theorem dX8_powers_64 : decode cX8_powers 64 = .ok (.iload_n 2, 1) := by decide +kernel
theorem dX8_powers_65 : decode cX8_powers 65 = .ok (.iload 4, 2) := by decide +kernel
theorem dX8_powers_67 : decode cX8_powers 67 = .ok (.invokevirtual 151, 3) := by decide +kernel
theorem dX8_powers_70 : decode cX8_powers 70 = .ok (.ifCond .eq 28, 3) := by decide +kernel
theorem dX8_powers_73 : decode cX8_powers 73 = .ok (.aload_n 0, 1) := by decide +kernel
theorem dX8_powers_74 : decode cX8_powers 74 = .ok (.bipush 11, 2) := by decide +kernel
theorem dX8_powers_76 : decode cX8_powers 76 = .ok (.bipush 10, 2) := by decide +kernel
theorem dX8_powers_78 : decode cX8_powers 78 = .ok (.bipush 9, 2) := by decide +kernel
theorem dX8_powers_80 : decode cX8_powers 80 = .ok (.invokevirtual 148, 3) := by decide +kernel
theorem dX8_powers_83 : decode cX8_powers 83 = .ok (.aload_n 0, 1) := by decide +kernel
theorem dX8_powers_84 : decode cX8_powers 84 = .ok (.bipush 11, 2) := by decide +kernel
theorem dX8_powers_86 : decode cX8_powers 86 = .ok (.iload_n 3, 1) := by decide +kernel
theorem dX8_powers_87 : decode cX8_powers 87 = .ok (.invokevirtual 142, 3) := by decide +kernel
theorem dX8_powers_90 : decode cX8_powers 90 = .ok (.aload_n 0, 1) := by decide +kernel
theorem dX8_powers_91 : decode cX8_powers 91 = .ok (.bipush 10, 2) := by decide +kernel
theorem dX8_powers_93 : decode cX8_powers 93 = .ok (.bipush 11, 2) := by decide +kernel
theorem dX8_powers_95 : decode cX8_powers 95 = .ok (.invokevirtual 139, 3) := by decide +kernel
theorem dX8_powers_98 : decode cX8_powers 98 = .ok (.iinc 4 (-1), 3) := by decide +kernel
theorem dX8_powers_101 : decode cX8_powers 101 = .ok (.goto (-68), 3) := by decide +kernel
theorem dX8_powers_104 : decode cX8_powers 104 = .ok (.return_, 1) := by decide +kernel
theorem dX8_byteAt_0 : decode cX8_byteAt 0 = .ok (.iload_n 2, 1) := by decide +kernel
theorem dX8_byteAt_1 : decode cX8_byteAt 1 = .ok (.iconst 1, 1) := by decide +kernel
theorem dX8_byteAt_2 : decode cX8_byteAt 2 = .ok (.isub, 1) := by decide +kernel
theorem dX8_byteAt_3 : decode cX8_byteAt 3 = .ok (.iload_n 3, 1) := by decide +kernel
theorem dX8_byteAt_4 : decode cX8_byteAt 4 = .ok (.isub, 1) := by decide +kernel
theorem dX8_byteAt_5 : decode cX8_byteAt 5 = .ok (.istore 4, 2) := by decide +kernel
theorem dX8_byteAt_7 : decode cX8_byteAt 7 = .ok (.aload_n 0, 1) := by decide +kernel
theorem dX8_byteAt_8 : decode cX8_byteAt 8 = .ok (.getfield 7, 3) := by decide +kernel
theorem dX8_byteAt_11 : decode cX8_byteAt 11 = .ok (.bipush 84, 2) := by decide +kernel
theorem dX8_byteAt_13 : decode cX8_byteAt 13 = .ok (.iload_n 1, 1) := by decide +kernel
theorem dX8_byteAt_14 : decode cX8_byteAt 14 = .ok (.imul, 1) := by decide +kernel
theorem dX8_byteAt_15 : decode cX8_byteAt 15 = .ok (.iload 4, 2) := by decide +kernel
theorem dX8_byteAt_17 : decode cX8_byteAt 17 = .ok (.iconst 2, 1) := by decide +kernel
theorem dX8_byteAt_18 : decode cX8_byteAt 18 = .ok (.idiv, 1) := by decide +kernel
theorem dX8_byteAt_19 : decode cX8_byteAt 19 = .ok (.iadd, 1) := by decide +kernel
theorem dX8_byteAt_20 : decode cX8_byteAt 20 = .ok (.iaload, 1) := by decide +kernel
theorem dX8_byteAt_21 : decode cX8_byteAt 21 = .ok (.bipush 8, 2) := by decide +kernel
theorem dX8_byteAt_23 : decode cX8_byteAt 23 = .ok (.iload 4, 2) := by decide +kernel
theorem dX8_byteAt_25 : decode cX8_byteAt 25 = .ok (.iconst 2, 1) := by decide +kernel
theorem dX8_byteAt_26 : decode cX8_byteAt 26 = .ok (.irem, 1) := by decide +kernel
theorem dX8_byteAt_27 : decode cX8_byteAt 27 = .ok (.imul, 1) := by decide +kernel
theorem dX8_byteAt_28 : decode cX8_byteAt 28 = .ok (.ishr, 1) := by decide +kernel
theorem dX8_byteAt_29 : decode cX8_byteAt 29 = .ok (.sipush 255, 3) := by decide +kernel
theorem dX8_byteAt_32 : decode cX8_byteAt 32 = .ok (.iand, 1) := by decide +kernel
theorem dX8_byteAt_33 : decode cX8_byteAt 33 = .ok (.ireturn, 1) := by decide +kernel
theorem dX8_byteTo_0 : decode cX8_byteTo 0 = .ok (.iload_n 2, 1) := by decide +kernel
theorem dX8_byteTo_1 : decode cX8_byteTo 1 = .ok (.iconst 1, 1) := by decide +kernel
theorem dX8_byteTo_2 : decode cX8_byteTo 2 = .ok (.isub, 1) := by decide +kernel
theorem dX8_byteTo_3 : decode cX8_byteTo 3 = .ok (.iload_n 3, 1) := by decide +kernel
theorem dX8_byteTo_4 : decode cX8_byteTo 4 = .ok (.isub, 1) := by decide +kernel
theorem dX8_byteTo_5 : decode cX8_byteTo 5 = .ok (.istore 5, 2) := by decide +kernel
theorem dX8_byteTo_7 : decode cX8_byteTo 7 = .ok (.bipush 84, 2) := by decide +kernel
theorem dX8_byteTo_9 : decode cX8_byteTo 9 = .ok (.iload_n 1, 1) := by decide +kernel
theorem dX8_byteTo_10 : decode cX8_byteTo 10 = .ok (.imul, 1) := by decide +kernel
theorem dX8_byteTo_11 : decode cX8_byteTo 11 = .ok (.iload 5, 2) := by decide +kernel
theorem dX8_byteTo_13 : decode cX8_byteTo 13 = .ok (.iconst 2, 1) := by decide +kernel
theorem dX8_byteTo_14 : decode cX8_byteTo 14 = .ok (.idiv, 1) := by decide +kernel
theorem dX8_byteTo_15 : decode cX8_byteTo 15 = .ok (.iadd, 1) := by decide +kernel
theorem dX8_byteTo_16 : decode cX8_byteTo 16 = .ok (.istore 6, 2) := by decide +kernel
theorem dX8_byteTo_18 : decode cX8_byteTo 18 = .ok (.aload_n 0, 1) := by decide +kernel
theorem dX8_byteTo_19 : decode cX8_byteTo 19 = .ok (.getfield 7, 3) := by decide +kernel
theorem dX8_byteTo_22 : decode cX8_byteTo 22 = .ok (.iload 6, 2) := by decide +kernel
theorem dX8_byteTo_24 : decode cX8_byteTo 24 = .ok (.iload 5, 2) := by decide +kernel
theorem dX8_byteTo_26 : decode cX8_byteTo 26 = .ok (.iconst 2, 1) := by decide +kernel
theorem dX8_byteTo_27 : decode cX8_byteTo 27 = .ok (.irem, 1) := by decide +kernel
theorem dX8_byteTo_28 : decode cX8_byteTo 28 = .ok (.ifCond .ne 19, 3) := by decide +kernel
theorem dX8_byteTo_31 : decode cX8_byteTo 31 = .ok (.aload_n 0, 1) := by decide +kernel
theorem dX8_byteTo_32 : decode cX8_byteTo 32 = .ok (.getfield 7, 3) := by decide +kernel
theorem dX8_byteTo_35 : decode cX8_byteTo 35 = .ok (.iload 6, 2) := by decide +kernel
theorem dX8_byteTo_37 : decode cX8_byteTo 37 = .ok (.iaload, 1) := by decide +kernel
theorem dX8_byteTo_38 : decode cX8_byteTo 38 = .ok (.ldc 155, 2) := by decide +kernel
theorem dX8_byteTo_40 : decode cX8_byteTo 40 = .ok (.iand, 1) := by decide +kernel
theorem dX8_byteTo_41 : decode cX8_byteTo 41 = .ok (.iload 4, 2) := by decide +kernel
theorem dX8_byteTo_43 : decode cX8_byteTo 43 = .ok (.ior, 1) := by decide +kernel
theorem dX8_byteTo_44 : decode cX8_byteTo 44 = .ok (.goto 20, 3) := by decide +kernel
theorem dX8_byteTo_47 : decode cX8_byteTo 47 = .ok (.aload_n 0, 1) := by decide +kernel
theorem dX8_byteTo_48 : decode cX8_byteTo 48 = .ok (.getfield 7, 3) := by decide +kernel
theorem dX8_byteTo_51 : decode cX8_byteTo 51 = .ok (.iload 6, 2) := by decide +kernel
theorem dX8_byteTo_53 : decode cX8_byteTo 53 = .ok (.iaload, 1) := by decide +kernel
theorem dX8_byteTo_54 : decode cX8_byteTo 54 = .ok (.sipush 255, 3) := by decide +kernel
theorem dX8_byteTo_57 : decode cX8_byteTo 57 = .ok (.iand, 1) := by decide +kernel
theorem dX8_byteTo_58 : decode cX8_byteTo 58 = .ok (.iload 4, 2) := by decide +kernel
theorem dX8_byteTo_60 : decode cX8_byteTo 60 = .ok (.bipush 8, 2) := by decide +kernel
theorem dX8_byteTo_62 : decode cX8_byteTo 62 = .ok (.ishl, 1) := by decide +kernel
theorem dX8_byteTo_63 : decode cX8_byteTo 63 = .ok (.ior, 1) := by decide +kernel
theorem dX8_byteTo_64 : decode cX8_byteTo 64 = .ok (.iastore, 1) := by decide +kernel
theorem dX8_byteTo_65 : decode cX8_byteTo 65 = .ok (.return_, 1) := by decide +kernel
theorem dX8_padded_0 : decode cX8_padded 0 = .ok (.iload_n 1, 1) := by decide +kernel
theorem dX8_padded_1 : decode cX8_padded 1 = .ok (.aload_n 0, 1) := by decide +kernel
theorem dX8_padded_2 : decode cX8_padded 2 = .ok (.getfield 156, 3) := by decide +kernel
theorem dX8_padded_5 : decode cX8_padded 5 = .ok (.if_icmp .ge 10, 3) := by decide +kernel
theorem dX8_padded_8 : decode cX8_padded 8 = .ok (.aload_n 0, 1) := by decide +kernel
theorem dX8_padded_9 : decode cX8_padded 9 = .ok (.getfield 13, 3) := by decide +kernel
theorem dX8_padded_12 : decode cX8_padded 12 = .ok (.iload_n 1, 1) := by decide +kernel
theorem dX8_padded_13 : decode cX8_padded 13 = .ok (.iaload, 1) := by decide +kernel
theorem dX8_padded_14 : decode cX8_padded 14 = .ok (.ireturn, 1) := by decide +kernel
theorem dX8_padded_15 : decode cX8_padded 15 = .ok (.iload_n 1, 1) := by decide +kernel
theorem dX8_padded_16 : decode cX8_padded 16 = .ok (.aload_n 0, 1) := by decide +kernel
theorem dX8_padded_17 : decode cX8_padded 17 = .ok (.getfield 156, 3) := by decide +kernel
theorem dX8_padded_20 : decode cX8_padded 20 = .ok (.if_icmp .ne 7, 3) := by decide +kernel
theorem dX8_padded_23 : decode cX8_padded 23 = .ok (.sipush 128, 3) := by decide +kernel
theorem dX8_padded_26 : decode cX8_padded 26 = .ok (.ireturn, 1) := by decide +kernel
theorem dX8_padded_27 : decode cX8_padded 27 = .ok (.iload_n 1, 1) := by decide +kernel
theorem dX8_padded_28 : decode cX8_padded 28 = .ok (.iload_n 2, 1) := by decide +kernel
theorem dX8_padded_29 : decode cX8_padded 29 = .ok (.iconst 4, 1) := by decide +kernel
theorem dX8_padded_30 : decode cX8_padded 30 = .ok (.isub, 1) := by decide +kernel
theorem dX8_padded_31 : decode cX8_padded 31 = .ok (.if_icmp .ge 7, 3) := by decide +kernel
theorem dX8_padded_34 : decode cX8_padded 34 = .ok (.iconst 0, 1) := by decide +kernel
theorem dX8_padded_35 : decode cX8_padded 35 = .ok (.goto 23, 3) := by decide +kernel
theorem dX8_padded_38 : decode cX8_padded 38 = .ok (.bipush 8, 2) := by decide +kernel
theorem dX8_padded_40 : decode cX8_padded 40 = .ok (.aload_n 0, 1) := by decide +kernel
theorem dX8_padded_41 : decode cX8_padded 41 = .ok (.getfield 156, 3) := by decide +kernel
theorem dX8_padded_44 : decode cX8_padded 44 = .ok (.imul, 1) := by decide +kernel
theorem dX8_padded_45 : decode cX8_padded 45 = .ok (.bipush 8, 2) := by decide +kernel
theorem dX8_padded_47 : decode cX8_padded 47 = .ok (.iload_n 2, 1) := by decide +kernel
theorem dX8_padded_48 : decode cX8_padded 48 = .ok (.iconst 1, 1) := by decide +kernel
theorem dX8_padded_49 : decode cX8_padded 49 = .ok (.isub, 1) := by decide +kernel
theorem dX8_padded_50 : decode cX8_padded 50 = .ok (.iload_n 1, 1) := by decide +kernel
theorem dX8_padded_51 : decode cX8_padded 51 = .ok (.isub, 1) := by decide +kernel
theorem dX8_padded_52 : decode cX8_padded 52 = .ok (.imul, 1) := by decide +kernel
theorem dX8_padded_53 : decode cX8_padded 53 = .ok (.iushr, 1) := by decide +kernel
theorem dX8_padded_54 : decode cX8_padded 54 = .ok (.sipush 255, 3) := by decide +kernel
theorem dX8_padded_57 : decode cX8_padded 57 = .ok (.iand, 1) := by decide +kernel
theorem dX8_padded_58 : decode cX8_padded 58 = .ok (.ireturn, 1) := by decide +kernel
theorem dX8_turned_0 : decode cX8_turned 0 = .ok (.iload_n 0, 1) := by decide +kernel
theorem dX8_turned_1 : decode cX8_turned 1 = .ok (.iload_n 1, 1) := by decide +kernel
theorem dX8_turned_2 : decode cX8_turned 2 = .ok (.iushr, 1) := by decide +kernel
theorem dX8_turned_3 : decode cX8_turned 3 = .ok (.iload_n 0, 1) := by decide +kernel
theorem dX8_turned_4 : decode cX8_turned 4 = .ok (.bipush 32, 2) := by decide +kernel
theorem dX8_turned_6 : decode cX8_turned 6 = .ok (.iload_n 1, 1) := by decide +kernel
theorem dX8_turned_7 : decode cX8_turned 7 = .ok (.isub, 1) := by decide +kernel
theorem dX8_turned_8 : decode cX8_turned 8 = .ok (.ishl, 1) := by decide +kernel
theorem dX8_turned_9 : decode cX8_turned 9 = .ok (.ior, 1) := by decide +kernel
theorem dX8_turned_10 : decode cX8_turned 10 = .ok (.ireturn, 1) := by decide +kernel
theorem dX8_block_0 : decode cX8_block 0 = .ok (.iconst 0, 1) := by decide +kernel
theorem dX8_block_1 : decode cX8_block 1 = .ok (.istore_n 3, 1) := by decide +kernel
theorem dX8_block_2 : decode cX8_block 2 = .ok (.iload_n 3, 1) := by decide +kernel
theorem dX8_block_3 : decode cX8_block 3 = .ok (.bipush 16, 2) := by decide +kernel
theorem dX8_block_5 : decode cX8_block 5 = .ok (.if_icmp .ge 68, 3) := by decide +kernel
theorem dX8_block_8 : decode cX8_block 8 = .ok (.iload_n 1, 1) := by decide +kernel
theorem dX8_block_9 : decode cX8_block 9 = .ok (.iconst 4, 1) := by decide +kernel
theorem dX8_block_10 : decode cX8_block 10 = .ok (.iload_n 3, 1) := by decide +kernel
theorem dX8_block_11 : decode cX8_block 11 = .ok (.imul, 1) := by decide +kernel
theorem dX8_block_12 : decode cX8_block 12 = .ok (.iadd, 1) := by decide +kernel
theorem dX8_block_13 : decode cX8_block 13 = .ok (.istore 4, 2) := by decide +kernel
theorem dX8_block_15 : decode cX8_block 15 = .ok (.aload_n 0, 1) := by decide +kernel
theorem dX8_block_16 : decode cX8_block 16 = .ok (.getfield 19, 3) := by decide +kernel
theorem dX8_block_19 : decode cX8_block 19 = .ok (.iload_n 3, 1) := by decide +kernel
theorem dX8_block_20 : decode cX8_block 20 = .ok (.aload_n 0, 1) := by decide +kernel
theorem dX8_block_21 : decode cX8_block 21 = .ok (.iload 4, 2) := by decide +kernel
theorem dX8_block_23 : decode cX8_block 23 = .ok (.iload_n 2, 1) := by decide +kernel
theorem dX8_block_24 : decode cX8_block 24 = .ok (.invokevirtual 159, 3) := by decide +kernel
theorem dX8_block_27 : decode cX8_block 27 = .ok (.bipush 24, 2) := by decide +kernel
theorem dX8_block_29 : decode cX8_block 29 = .ok (.ishl, 1) := by decide +kernel
theorem dX8_block_30 : decode cX8_block 30 = .ok (.aload_n 0, 1) := by decide +kernel
theorem dX8_block_31 : decode cX8_block 31 = .ok (.iload 4, 2) := by decide +kernel
theorem dX8_block_33 : decode cX8_block 33 = .ok (.iconst 1, 1) := by decide +kernel
theorem dX8_block_34 : decode cX8_block 34 = .ok (.iadd, 1) := by decide +kernel
theorem dX8_block_35 : decode cX8_block 35 = .ok (.iload_n 2, 1) := by decide +kernel
theorem dX8_block_36 : decode cX8_block 36 = .ok (.invokevirtual 159, 3) := by decide +kernel
theorem dX8_block_39 : decode cX8_block 39 = .ok (.bipush 16, 2) := by decide +kernel
theorem dX8_block_41 : decode cX8_block 41 = .ok (.ishl, 1) := by decide +kernel
theorem dX8_block_42 : decode cX8_block 42 = .ok (.ior, 1) := by decide +kernel
theorem dX8_block_43 : decode cX8_block 43 = .ok (.aload_n 0, 1) := by decide +kernel
theorem dX8_block_44 : decode cX8_block 44 = .ok (.iload 4, 2) := by decide +kernel
theorem dX8_block_46 : decode cX8_block 46 = .ok (.iconst 2, 1) := by decide +kernel
theorem dX8_block_47 : decode cX8_block 47 = .ok (.iadd, 1) := by decide +kernel
theorem dX8_block_48 : decode cX8_block 48 = .ok (.iload_n 2, 1) := by decide +kernel
theorem dX8_block_49 : decode cX8_block 49 = .ok (.invokevirtual 159, 3) := by decide +kernel
theorem dX8_block_52 : decode cX8_block 52 = .ok (.bipush 8, 2) := by decide +kernel
theorem dX8_block_54 : decode cX8_block 54 = .ok (.ishl, 1) := by decide +kernel
theorem dX8_block_55 : decode cX8_block 55 = .ok (.ior, 1) := by decide +kernel
theorem dX8_block_56 : decode cX8_block 56 = .ok (.aload_n 0, 1) := by decide +kernel
theorem dX8_block_57 : decode cX8_block 57 = .ok (.iload 4, 2) := by decide +kernel
theorem dX8_block_59 : decode cX8_block 59 = .ok (.iconst 3, 1) := by decide +kernel
theorem dX8_block_60 : decode cX8_block 60 = .ok (.iadd, 1) := by decide +kernel
theorem dX8_block_61 : decode cX8_block 61 = .ok (.iload_n 2, 1) := by decide +kernel
theorem dX8_block_62 : decode cX8_block 62 = .ok (.invokevirtual 159, 3) := by decide +kernel
theorem dX8_block_65 : decode cX8_block 65 = .ok (.ior, 1) := by decide +kernel
theorem dX8_block_66 : decode cX8_block 66 = .ok (.iastore, 1) := by decide +kernel
theorem dX8_block_67 : decode cX8_block 67 = .ok (.iinc 3 1, 3) := by decide +kernel
theorem dX8_block_70 : decode cX8_block 70 = .ok (.goto (-68), 3) := by decide +kernel
theorem dX8_block_73 : decode cX8_block 73 = .ok (.bipush 16, 2) := by decide +kernel
theorem dX8_block_75 : decode cX8_block 75 = .ok (.istore_n 3, 1) := by decide +kernel
theorem dX8_block_76 : decode cX8_block 76 = .ok (.iload_n 3, 1) := by decide +kernel
theorem dX8_block_77 : decode cX8_block 77 = .ok (.bipush 64, 2) := by decide +kernel
theorem dX8_block_79 : decode cX8_block 79 = .ok (.if_icmp .ge 98, 3) := by decide +kernel
theorem dX8_block_82 : decode cX8_block 82 = .ok (.aload_n 0, 1) := by decide +kernel
theorem dX8_block_83 : decode cX8_block 83 = .ok (.getfield 19, 3) := by decide +kernel
theorem dX8_block_86 : decode cX8_block 86 = .ok (.iload_n 3, 1) := by decide +kernel
theorem dX8_block_87 : decode cX8_block 87 = .ok (.bipush 15, 2) := by decide +kernel
theorem dX8_block_89 : decode cX8_block 89 = .ok (.isub, 1) := by decide +kernel
theorem dX8_block_90 : decode cX8_block 90 = .ok (.iaload, 1) := by decide +kernel
theorem dX8_block_91 : decode cX8_block 91 = .ok (.istore 4, 2) := by decide +kernel
theorem dX8_block_93 : decode cX8_block 93 = .ok (.aload_n 0, 1) := by decide +kernel
theorem dX8_block_94 : decode cX8_block 94 = .ok (.getfield 19, 3) := by decide +kernel
theorem dX8_block_97 : decode cX8_block 97 = .ok (.iload_n 3, 1) := by decide +kernel
theorem dX8_block_98 : decode cX8_block 98 = .ok (.iconst 2, 1) := by decide +kernel
theorem dX8_block_99 : decode cX8_block 99 = .ok (.isub, 1) := by decide +kernel
theorem dX8_block_100 : decode cX8_block 100 = .ok (.iaload, 1) := by decide +kernel
theorem dX8_block_101 : decode cX8_block 101 = .ok (.istore 5, 2) := by decide +kernel
theorem dX8_block_103 : decode cX8_block 103 = .ok (.aload_n 0, 1) := by decide +kernel
theorem dX8_block_104 : decode cX8_block 104 = .ok (.getfield 19, 3) := by decide +kernel
theorem dX8_block_107 : decode cX8_block 107 = .ok (.iload_n 3, 1) := by decide +kernel
theorem dX8_block_108 : decode cX8_block 108 = .ok (.aload_n 0, 1) := by decide +kernel
theorem dX8_block_109 : decode cX8_block 109 = .ok (.getfield 19, 3) := by decide +kernel
theorem dX8_block_112 : decode cX8_block 112 = .ok (.iload_n 3, 1) := by decide +kernel
theorem dX8_block_113 : decode cX8_block 113 = .ok (.bipush 16, 2) := by decide +kernel
theorem dX8_block_115 : decode cX8_block 115 = .ok (.isub, 1) := by decide +kernel
theorem dX8_block_116 : decode cX8_block 116 = .ok (.iaload, 1) := by decide +kernel
theorem dX8_block_117 : decode cX8_block 117 = .ok (.iload 4, 2) := by decide +kernel
theorem dX8_block_119 : decode cX8_block 119 = .ok (.bipush 7, 2) := by decide +kernel
theorem dX8_block_121 : decode cX8_block 121 = .ok (.invokestatic 163, 3) := by decide +kernel
theorem dX8_block_124 : decode cX8_block 124 = .ok (.iload 4, 2) := by decide +kernel
theorem dX8_block_126 : decode cX8_block 126 = .ok (.bipush 18, 2) := by decide +kernel
theorem dX8_block_128 : decode cX8_block 128 = .ok (.invokestatic 163, 3) := by decide +kernel
theorem dX8_block_131 : decode cX8_block 131 = .ok (.ixor, 1) := by decide +kernel
theorem dX8_block_132 : decode cX8_block 132 = .ok (.iload 4, 2) := by decide +kernel
theorem dX8_block_134 : decode cX8_block 134 = .ok (.iconst 3, 1) := by decide +kernel
theorem dX8_block_135 : decode cX8_block 135 = .ok (.iushr, 1) := by decide +kernel
theorem dX8_block_136 : decode cX8_block 136 = .ok (.ixor, 1) := by decide +kernel
theorem dX8_block_137 : decode cX8_block 137 = .ok (.iadd, 1) := by decide +kernel
theorem dX8_block_138 : decode cX8_block 138 = .ok (.aload_n 0, 1) := by decide +kernel
theorem dX8_block_139 : decode cX8_block 139 = .ok (.getfield 19, 3) := by decide +kernel
theorem dX8_block_142 : decode cX8_block 142 = .ok (.iload_n 3, 1) := by decide +kernel
theorem dX8_block_143 : decode cX8_block 143 = .ok (.bipush 7, 2) := by decide +kernel
theorem dX8_block_145 : decode cX8_block 145 = .ok (.isub, 1) := by decide +kernel
theorem dX8_block_146 : decode cX8_block 146 = .ok (.iaload, 1) := by decide +kernel
theorem dX8_block_147 : decode cX8_block 147 = .ok (.iadd, 1) := by decide +kernel
theorem dX8_block_148 : decode cX8_block 148 = .ok (.iload 5, 2) := by decide +kernel
theorem dX8_block_150 : decode cX8_block 150 = .ok (.bipush 17, 2) := by decide +kernel
theorem dX8_block_152 : decode cX8_block 152 = .ok (.invokestatic 163, 3) := by decide +kernel
theorem dX8_block_155 : decode cX8_block 155 = .ok (.iload 5, 2) := by decide +kernel
theorem dX8_block_157 : decode cX8_block 157 = .ok (.bipush 19, 2) := by decide +kernel
theorem dX8_block_159 : decode cX8_block 159 = .ok (.invokestatic 163, 3) := by decide +kernel
theorem dX8_block_162 : decode cX8_block 162 = .ok (.ixor, 1) := by decide +kernel
theorem dX8_block_163 : decode cX8_block 163 = .ok (.iload 5, 2) := by decide +kernel
theorem dX8_block_165 : decode cX8_block 165 = .ok (.bipush 10, 2) := by decide +kernel
theorem dX8_block_167 : decode cX8_block 167 = .ok (.iushr, 1) := by decide +kernel
theorem dX8_block_168 : decode cX8_block 168 = .ok (.ixor, 1) := by decide +kernel
theorem dX8_block_169 : decode cX8_block 169 = .ok (.iadd, 1) := by decide +kernel
theorem dX8_block_170 : decode cX8_block 170 = .ok (.iastore, 1) := by decide +kernel
theorem dX8_block_171 : decode cX8_block 171 = .ok (.iinc 3 1, 3) := by decide +kernel
theorem dX8_block_174 : decode cX8_block 174 = .ok (.goto (-98), 3) := by decide +kernel
theorem dX8_block_177 : decode cX8_block 177 = .ok (.aload_n 0, 1) := by decide +kernel
theorem dX8_block_178 : decode cX8_block 178 = .ok (.getfield 16, 3) := by decide +kernel
theorem dX8_block_181 : decode cX8_block 181 = .ok (.iconst 0, 1) := by decide +kernel
theorem dX8_block_182 : decode cX8_block 182 = .ok (.iaload, 1) := by decide +kernel
theorem dX8_block_183 : decode cX8_block 183 = .ok (.istore_n 3, 1) := by decide +kernel
theorem dX8_block_184 : decode cX8_block 184 = .ok (.aload_n 0, 1) := by decide +kernel
theorem dX8_block_185 : decode cX8_block 185 = .ok (.getfield 16, 3) := by decide +kernel
theorem dX8_block_188 : decode cX8_block 188 = .ok (.iconst 1, 1) := by decide +kernel
theorem dX8_block_189 : decode cX8_block 189 = .ok (.iaload, 1) := by decide +kernel
theorem dX8_block_190 : decode cX8_block 190 = .ok (.istore 4, 2) := by decide +kernel
theorem dX8_block_192 : decode cX8_block 192 = .ok (.aload_n 0, 1) := by decide +kernel
theorem dX8_block_193 : decode cX8_block 193 = .ok (.getfield 16, 3) := by decide +kernel
theorem dX8_block_196 : decode cX8_block 196 = .ok (.iconst 2, 1) := by decide +kernel
theorem dX8_block_197 : decode cX8_block 197 = .ok (.iaload, 1) := by decide +kernel
theorem dX8_block_198 : decode cX8_block 198 = .ok (.istore 5, 2) := by decide +kernel
theorem dX8_block_200 : decode cX8_block 200 = .ok (.aload_n 0, 1) := by decide +kernel
theorem dX8_block_201 : decode cX8_block 201 = .ok (.getfield 16, 3) := by decide +kernel
theorem dX8_block_204 : decode cX8_block 204 = .ok (.iconst 3, 1) := by decide +kernel
theorem dX8_block_205 : decode cX8_block 205 = .ok (.iaload, 1) := by decide +kernel
theorem dX8_block_206 : decode cX8_block 206 = .ok (.istore 6, 2) := by decide +kernel
theorem dX8_block_208 : decode cX8_block 208 = .ok (.aload_n 0, 1) := by decide +kernel
theorem dX8_block_209 : decode cX8_block 209 = .ok (.getfield 16, 3) := by decide +kernel
theorem dX8_block_212 : decode cX8_block 212 = .ok (.iconst 4, 1) := by decide +kernel
theorem dX8_block_213 : decode cX8_block 213 = .ok (.iaload, 1) := by decide +kernel
theorem dX8_block_214 : decode cX8_block 214 = .ok (.istore 7, 2) := by decide +kernel
theorem dX8_block_216 : decode cX8_block 216 = .ok (.aload_n 0, 1) := by decide +kernel
theorem dX8_block_217 : decode cX8_block 217 = .ok (.getfield 16, 3) := by decide +kernel
theorem dX8_block_220 : decode cX8_block 220 = .ok (.iconst 5, 1) := by decide +kernel
theorem dX8_block_221 : decode cX8_block 221 = .ok (.iaload, 1) := by decide +kernel
theorem dX8_block_222 : decode cX8_block 222 = .ok (.istore 8, 2) := by decide +kernel
theorem dX8_block_224 : decode cX8_block 224 = .ok (.aload_n 0, 1) := by decide +kernel
theorem dX8_block_225 : decode cX8_block 225 = .ok (.getfield 16, 3) := by decide +kernel
theorem dX8_block_228 : decode cX8_block 228 = .ok (.bipush 6, 2) := by decide +kernel
theorem dX8_block_230 : decode cX8_block 230 = .ok (.iaload, 1) := by decide +kernel
theorem dX8_block_231 : decode cX8_block 231 = .ok (.istore 9, 2) := by decide +kernel
theorem dX8_block_233 : decode cX8_block 233 = .ok (.aload_n 0, 1) := by decide +kernel
theorem dX8_block_234 : decode cX8_block 234 = .ok (.getfield 16, 3) := by decide +kernel
theorem dX8_block_237 : decode cX8_block 237 = .ok (.bipush 7, 2) := by decide +kernel
theorem dX8_block_239 : decode cX8_block 239 = .ok (.iaload, 1) := by decide +kernel
theorem dX8_block_240 : decode cX8_block 240 = .ok (.istore 10, 2) := by decide +kernel
theorem dX8_block_242 : decode cX8_block 242 = .ok (.iconst 0, 1) := by decide +kernel
theorem dX8_block_243 : decode cX8_block 243 = .ok (.istore 11, 2) := by decide +kernel
theorem dX8_block_245 : decode cX8_block 245 = .ok (.iload 11, 2) := by decide +kernel
theorem dX8_block_247 : decode cX8_block 247 = .ok (.bipush 64, 2) := by decide +kernel
theorem dX8_block_249 : decode cX8_block 249 = .ok (.if_icmp .ge 140, 3) := by decide +kernel
theorem dX8_block_252 : decode cX8_block 252 = .ok (.iload 10, 2) := by decide +kernel
theorem dX8_block_254 : decode cX8_block 254 = .ok (.iload 7, 2) := by decide +kernel
theorem dX8_block_256 : decode cX8_block 256 = .ok (.bipush 6, 2) := by decide +kernel
theorem dX8_block_258 : decode cX8_block 258 = .ok (.invokestatic 163, 3) := by decide +kernel
theorem dX8_block_261 : decode cX8_block 261 = .ok (.iload 7, 2) := by decide +kernel
theorem dX8_block_263 : decode cX8_block 263 = .ok (.bipush 11, 2) := by decide +kernel
theorem dX8_block_265 : decode cX8_block 265 = .ok (.invokestatic 163, 3) := by decide +kernel
theorem dX8_block_268 : decode cX8_block 268 = .ok (.ixor, 1) := by decide +kernel
theorem dX8_block_269 : decode cX8_block 269 = .ok (.iload 7, 2) := by decide +kernel
theorem dX8_block_271 : decode cX8_block 271 = .ok (.bipush 25, 2) := by decide +kernel
theorem dX8_block_273 : decode cX8_block 273 = .ok (.invokestatic 163, 3) := by decide +kernel
theorem dX8_block_276 : decode cX8_block 276 = .ok (.ixor, 1) := by decide +kernel
theorem dX8_block_277 : decode cX8_block 277 = .ok (.iadd, 1) := by decide +kernel
theorem dX8_block_278 : decode cX8_block 278 = .ok (.iload 7, 2) := by decide +kernel
theorem dX8_block_280 : decode cX8_block 280 = .ok (.iload 8, 2) := by decide +kernel
theorem dX8_block_282 : decode cX8_block 282 = .ok (.iand, 1) := by decide +kernel
theorem dX8_block_283 : decode cX8_block 283 = .ok (.iload 7, 2) := by decide +kernel
theorem dX8_block_285 : decode cX8_block 285 = .ok (.iconst (-1), 1) := by decide +kernel
theorem dX8_block_286 : decode cX8_block 286 = .ok (.ixor, 1) := by decide +kernel
theorem dX8_block_287 : decode cX8_block 287 = .ok (.iload 9, 2) := by decide +kernel
theorem dX8_block_289 : decode cX8_block 289 = .ok (.iand, 1) := by decide +kernel
theorem dX8_block_290 : decode cX8_block 290 = .ok (.ixor, 1) := by decide +kernel
theorem dX8_block_291 : decode cX8_block 291 = .ok (.iadd, 1) := by decide +kernel
theorem dX8_block_292 : decode cX8_block 292 = .ok (.aload_n 0, 1) := by decide +kernel
theorem dX8_block_293 : decode cX8_block 293 = .ok (.getfield 97, 3) := by decide +kernel
theorem dX8_block_296 : decode cX8_block 296 = .ok (.iload 11, 2) := by decide +kernel
theorem dX8_block_298 : decode cX8_block 298 = .ok (.iaload, 1) := by decide +kernel
theorem dX8_block_299 : decode cX8_block 299 = .ok (.iadd, 1) := by decide +kernel
theorem dX8_block_300 : decode cX8_block 300 = .ok (.aload_n 0, 1) := by decide +kernel
theorem dX8_block_301 : decode cX8_block 301 = .ok (.getfield 19, 3) := by decide +kernel
theorem dX8_block_304 : decode cX8_block 304 = .ok (.iload 11, 2) := by decide +kernel
theorem dX8_block_306 : decode cX8_block 306 = .ok (.iaload, 1) := by decide +kernel
theorem dX8_block_307 : decode cX8_block 307 = .ok (.iadd, 1) := by decide +kernel
theorem dX8_block_308 : decode cX8_block 308 = .ok (.istore 12, 2) := by decide +kernel
theorem dX8_block_310 : decode cX8_block 310 = .ok (.iload_n 3, 1) := by decide +kernel
theorem dX8_block_311 : decode cX8_block 311 = .ok (.iconst 2, 1) := by decide +kernel
theorem dX8_block_312 : decode cX8_block 312 = .ok (.invokestatic 163, 3) := by decide +kernel
theorem dX8_block_315 : decode cX8_block 315 = .ok (.iload_n 3, 1) := by decide +kernel
theorem dX8_block_316 : decode cX8_block 316 = .ok (.bipush 13, 2) := by decide +kernel
theorem dX8_block_318 : decode cX8_block 318 = .ok (.invokestatic 163, 3) := by decide +kernel
theorem dX8_block_321 : decode cX8_block 321 = .ok (.ixor, 1) := by decide +kernel
theorem dX8_block_322 : decode cX8_block 322 = .ok (.iload_n 3, 1) := by decide +kernel
theorem dX8_block_323 : decode cX8_block 323 = .ok (.bipush 22, 2) := by decide +kernel
theorem dX8_block_325 : decode cX8_block 325 = .ok (.invokestatic 163, 3) := by decide +kernel
theorem dX8_block_328 : decode cX8_block 328 = .ok (.ixor, 1) := by decide +kernel
theorem dX8_block_329 : decode cX8_block 329 = .ok (.iload_n 3, 1) := by decide +kernel
theorem dX8_block_330 : decode cX8_block 330 = .ok (.iload 4, 2) := by decide +kernel
theorem dX8_block_332 : decode cX8_block 332 = .ok (.iand, 1) := by decide +kernel
theorem dX8_block_333 : decode cX8_block 333 = .ok (.iload_n 3, 1) := by decide +kernel
theorem dX8_block_334 : decode cX8_block 334 = .ok (.iload 5, 2) := by decide +kernel
theorem dX8_block_336 : decode cX8_block 336 = .ok (.iand, 1) := by decide +kernel
theorem dX8_block_337 : decode cX8_block 337 = .ok (.ixor, 1) := by decide +kernel
theorem dX8_block_338 : decode cX8_block 338 = .ok (.iload 4, 2) := by decide +kernel
theorem dX8_block_340 : decode cX8_block 340 = .ok (.iload 5, 2) := by decide +kernel
theorem dX8_block_342 : decode cX8_block 342 = .ok (.iand, 1) := by decide +kernel
theorem dX8_block_343 : decode cX8_block 343 = .ok (.ixor, 1) := by decide +kernel
theorem dX8_block_344 : decode cX8_block 344 = .ok (.iadd, 1) := by decide +kernel
theorem dX8_block_345 : decode cX8_block 345 = .ok (.istore 13, 2) := by decide +kernel
theorem dX8_block_347 : decode cX8_block 347 = .ok (.iload 9, 2) := by decide +kernel
theorem dX8_block_349 : decode cX8_block 349 = .ok (.istore 10, 2) := by decide +kernel
theorem dX8_block_351 : decode cX8_block 351 = .ok (.iload 8, 2) := by decide +kernel
theorem dX8_block_353 : decode cX8_block 353 = .ok (.istore 9, 2) := by decide +kernel
theorem dX8_block_355 : decode cX8_block 355 = .ok (.iload 7, 2) := by decide +kernel
theorem dX8_block_357 : decode cX8_block 357 = .ok (.istore 8, 2) := by decide +kernel
theorem dX8_block_359 : decode cX8_block 359 = .ok (.iload 6, 2) := by decide +kernel
theorem dX8_block_361 : decode cX8_block 361 = .ok (.iload 12, 2) := by decide +kernel
theorem dX8_block_363 : decode cX8_block 363 = .ok (.iadd, 1) := by decide +kernel
theorem dX8_block_364 : decode cX8_block 364 = .ok (.istore 7, 2) := by decide +kernel
theorem dX8_block_366 : decode cX8_block 366 = .ok (.iload 5, 2) := by decide +kernel
theorem dX8_block_368 : decode cX8_block 368 = .ok (.istore 6, 2) := by decide +kernel
theorem dX8_block_370 : decode cX8_block 370 = .ok (.iload 4, 2) := by decide +kernel
theorem dX8_block_372 : decode cX8_block 372 = .ok (.istore 5, 2) := by decide +kernel
theorem dX8_block_374 : decode cX8_block 374 = .ok (.iload_n 3, 1) := by decide +kernel
theorem dX8_block_375 : decode cX8_block 375 = .ok (.istore 4, 2) := by decide +kernel
theorem dX8_block_377 : decode cX8_block 377 = .ok (.iload 12, 2) := by decide +kernel
theorem dX8_block_379 : decode cX8_block 379 = .ok (.iload 13, 2) := by decide +kernel
theorem dX8_block_381 : decode cX8_block 381 = .ok (.iadd, 1) := by decide +kernel
theorem dX8_block_382 : decode cX8_block 382 = .ok (.istore_n 3, 1) := by decide +kernel
theorem dX8_block_383 : decode cX8_block 383 = .ok (.iinc 11 1, 3) := by decide +kernel
theorem dX8_block_386 : decode cX8_block 386 = .ok (.goto (-141), 3) := by decide +kernel
theorem dX8_block_389 : decode cX8_block 389 = .ok (.aload_n 0, 1) := by decide +kernel
theorem dX8_block_390 : decode cX8_block 390 = .ok (.getfield 16, 3) := by decide +kernel
theorem dX8_block_393 : decode cX8_block 393 = .ok (.iconst 0, 1) := by decide +kernel
theorem dX8_block_394 : decode cX8_block 394 = .ok (.dup2, 1) := by decide +kernel
theorem dX8_block_395 : decode cX8_block 395 = .ok (.iaload, 1) := by decide +kernel
theorem dX8_block_396 : decode cX8_block 396 = .ok (.iload_n 3, 1) := by decide +kernel
theorem dX8_block_397 : decode cX8_block 397 = .ok (.iadd, 1) := by decide +kernel
theorem dX8_block_398 : decode cX8_block 398 = .ok (.iastore, 1) := by decide +kernel
theorem dX8_block_399 : decode cX8_block 399 = .ok (.aload_n 0, 1) := by decide +kernel
theorem dX8_block_400 : decode cX8_block 400 = .ok (.getfield 16, 3) := by decide +kernel
theorem dX8_block_403 : decode cX8_block 403 = .ok (.iconst 1, 1) := by decide +kernel
theorem dX8_block_404 : decode cX8_block 404 = .ok (.dup2, 1) := by decide +kernel
theorem dX8_block_405 : decode cX8_block 405 = .ok (.iaload, 1) := by decide +kernel
theorem dX8_block_406 : decode cX8_block 406 = .ok (.iload 4, 2) := by decide +kernel
theorem dX8_block_408 : decode cX8_block 408 = .ok (.iadd, 1) := by decide +kernel
theorem dX8_block_409 : decode cX8_block 409 = .ok (.iastore, 1) := by decide +kernel
theorem dX8_block_410 : decode cX8_block 410 = .ok (.aload_n 0, 1) := by decide +kernel
theorem dX8_block_411 : decode cX8_block 411 = .ok (.getfield 16, 3) := by decide +kernel
theorem dX8_block_414 : decode cX8_block 414 = .ok (.iconst 2, 1) := by decide +kernel
theorem dX8_block_415 : decode cX8_block 415 = .ok (.dup2, 1) := by decide +kernel
theorem dX8_block_416 : decode cX8_block 416 = .ok (.iaload, 1) := by decide +kernel
theorem dX8_block_417 : decode cX8_block 417 = .ok (.iload 5, 2) := by decide +kernel
theorem dX8_block_419 : decode cX8_block 419 = .ok (.iadd, 1) := by decide +kernel
theorem dX8_block_420 : decode cX8_block 420 = .ok (.iastore, 1) := by decide +kernel
theorem dX8_block_421 : decode cX8_block 421 = .ok (.aload_n 0, 1) := by decide +kernel
theorem dX8_block_422 : decode cX8_block 422 = .ok (.getfield 16, 3) := by decide +kernel
theorem dX8_block_425 : decode cX8_block 425 = .ok (.iconst 3, 1) := by decide +kernel
theorem dX8_block_426 : decode cX8_block 426 = .ok (.dup2, 1) := by decide +kernel
theorem dX8_block_427 : decode cX8_block 427 = .ok (.iaload, 1) := by decide +kernel
theorem dX8_block_428 : decode cX8_block 428 = .ok (.iload 6, 2) := by decide +kernel
theorem dX8_block_430 : decode cX8_block 430 = .ok (.iadd, 1) := by decide +kernel
theorem dX8_block_431 : decode cX8_block 431 = .ok (.iastore, 1) := by decide +kernel
theorem dX8_block_432 : decode cX8_block 432 = .ok (.aload_n 0, 1) := by decide +kernel
theorem dX8_block_433 : decode cX8_block 433 = .ok (.getfield 16, 3) := by decide +kernel
theorem dX8_block_436 : decode cX8_block 436 = .ok (.iconst 4, 1) := by decide +kernel
theorem dX8_block_437 : decode cX8_block 437 = .ok (.dup2, 1) := by decide +kernel
theorem dX8_block_438 : decode cX8_block 438 = .ok (.iaload, 1) := by decide +kernel
theorem dX8_block_439 : decode cX8_block 439 = .ok (.iload 7, 2) := by decide +kernel
theorem dX8_block_441 : decode cX8_block 441 = .ok (.iadd, 1) := by decide +kernel
theorem dX8_block_442 : decode cX8_block 442 = .ok (.iastore, 1) := by decide +kernel
theorem dX8_block_443 : decode cX8_block 443 = .ok (.aload_n 0, 1) := by decide +kernel
theorem dX8_block_444 : decode cX8_block 444 = .ok (.getfield 16, 3) := by decide +kernel
theorem dX8_block_447 : decode cX8_block 447 = .ok (.iconst 5, 1) := by decide +kernel
theorem dX8_block_448 : decode cX8_block 448 = .ok (.dup2, 1) := by decide +kernel
theorem dX8_block_449 : decode cX8_block 449 = .ok (.iaload, 1) := by decide +kernel
theorem dX8_block_450 : decode cX8_block 450 = .ok (.iload 8, 2) := by decide +kernel
theorem dX8_block_452 : decode cX8_block 452 = .ok (.iadd, 1) := by decide +kernel
theorem dX8_block_453 : decode cX8_block 453 = .ok (.iastore, 1) := by decide +kernel
theorem dX8_block_454 : decode cX8_block 454 = .ok (.aload_n 0, 1) := by decide +kernel
theorem dX8_block_455 : decode cX8_block 455 = .ok (.getfield 16, 3) := by decide +kernel
theorem dX8_block_458 : decode cX8_block 458 = .ok (.bipush 6, 2) := by decide +kernel
theorem dX8_block_460 : decode cX8_block 460 = .ok (.dup2, 1) := by decide +kernel
theorem dX8_block_461 : decode cX8_block 461 = .ok (.iaload, 1) := by decide +kernel
theorem dX8_block_462 : decode cX8_block 462 = .ok (.iload 9, 2) := by decide +kernel
theorem dX8_block_464 : decode cX8_block 464 = .ok (.iadd, 1) := by decide +kernel
theorem dX8_block_465 : decode cX8_block 465 = .ok (.iastore, 1) := by decide +kernel
theorem dX8_block_466 : decode cX8_block 466 = .ok (.aload_n 0, 1) := by decide +kernel
theorem dX8_block_467 : decode cX8_block 467 = .ok (.getfield 16, 3) := by decide +kernel
theorem dX8_block_470 : decode cX8_block 470 = .ok (.bipush 7, 2) := by decide +kernel
theorem dX8_block_472 : decode cX8_block 472 = .ok (.dup2, 1) := by decide +kernel
theorem dX8_block_473 : decode cX8_block 473 = .ok (.iaload, 1) := by decide +kernel
theorem dX8_block_474 : decode cX8_block 474 = .ok (.iload 10, 2) := by decide +kernel
theorem dX8_block_476 : decode cX8_block 476 = .ok (.iadd, 1) := by decide +kernel
theorem dX8_block_477 : decode cX8_block 477 = .ok (.iastore, 1) := by decide +kernel
theorem dX8_block_478 : decode cX8_block 478 = .ok (.return_, 1) := by decide +kernel
theorem dX8_hashes_0 : decode cX8_hashes 0 = .ok (.aload_n 0, 1) := by decide +kernel
theorem dX8_hashes_1 : decode cX8_hashes 1 = .ok (.getfield 156, 3) := by decide +kernel
theorem dX8_hashes_4 : decode cX8_hashes 4 = .ok (.bipush 8, 2) := by decide +kernel
theorem dX8_hashes_6 : decode cX8_hashes 6 = .ok (.iadd, 1) := by decide +kernel
theorem dX8_hashes_7 : decode cX8_hashes 7 = .ok (.bipush 64, 2) := by decide +kernel
theorem dX8_hashes_9 : decode cX8_hashes 9 = .ok (.idiv, 1) := by decide +kernel
theorem dX8_hashes_10 : decode cX8_hashes 10 = .ok (.bipush 64, 2) := by decide +kernel
theorem dX8_hashes_12 : decode cX8_hashes 12 = .ok (.imul, 1) := by decide +kernel
theorem dX8_hashes_13 : decode cX8_hashes 13 = .ok (.bipush 64, 2) := by decide +kernel
theorem dX8_hashes_15 : decode cX8_hashes 15 = .ok (.iadd, 1) := by decide +kernel
theorem dX8_hashes_16 : decode cX8_hashes 16 = .ok (.istore_n 1, 1) := by decide +kernel
theorem dX8_hashes_17 : decode cX8_hashes 17 = .ok (.iconst 0, 1) := by decide +kernel
theorem dX8_hashes_18 : decode cX8_hashes 18 = .ok (.istore_n 2, 1) := by decide +kernel
theorem dX8_hashes_19 : decode cX8_hashes 19 = .ok (.iload_n 2, 1) := by decide +kernel
theorem dX8_hashes_20 : decode cX8_hashes 20 = .ok (.bipush 8, 2) := by decide +kernel
theorem dX8_hashes_22 : decode cX8_hashes 22 = .ok (.if_icmp .ge 21, 3) := by decide +kernel
theorem dX8_hashes_25 : decode cX8_hashes 25 = .ok (.aload_n 0, 1) := by decide +kernel
theorem dX8_hashes_26 : decode cX8_hashes 26 = .ok (.getfield 16, 3) := by decide +kernel
theorem dX8_hashes_29 : decode cX8_hashes 29 = .ok (.iload_n 2, 1) := by decide +kernel
theorem dX8_hashes_30 : decode cX8_hashes 30 = .ok (.aload_n 0, 1) := by decide +kernel
theorem dX8_hashes_31 : decode cX8_hashes 31 = .ok (.getfield 30, 3) := by decide +kernel
theorem dX8_hashes_34 : decode cX8_hashes 34 = .ok (.iload_n 2, 1) := by decide +kernel
theorem dX8_hashes_35 : decode cX8_hashes 35 = .ok (.iaload, 1) := by decide +kernel
theorem dX8_hashes_36 : decode cX8_hashes 36 = .ok (.iastore, 1) := by decide +kernel
theorem dX8_hashes_37 : decode cX8_hashes 37 = .ok (.iinc 2 1, 3) := by decide +kernel
theorem dX8_hashes_40 : decode cX8_hashes 40 = .ok (.goto (-21), 3) := by decide +kernel
theorem dX8_hashes_43 : decode cX8_hashes 43 = .ok (.iconst 0, 1) := by decide +kernel
theorem dX8_hashes_44 : decode cX8_hashes 44 = .ok (.istore_n 2, 1) := by decide +kernel
theorem dX8_hashes_45 : decode cX8_hashes 45 = .ok (.iload_n 2, 1) := by decide +kernel
theorem dX8_hashes_46 : decode cX8_hashes 46 = .ok (.iload_n 1, 1) := by decide +kernel
theorem dX8_hashes_47 : decode cX8_hashes 47 = .ok (.if_icmp .ge 15, 3) := by decide +kernel
theorem dX8_hashes_50 : decode cX8_hashes 50 = .ok (.aload_n 0, 1) := by decide +kernel
theorem dX8_hashes_51 : decode cX8_hashes 51 = .ok (.iload_n 2, 1) := by decide +kernel
theorem dX8_hashes_52 : decode cX8_hashes 52 = .ok (.iload_n 1, 1) := by decide +kernel
theorem dX8_hashes_53 : decode cX8_hashes 53 = .ok (.invokevirtual 166, 3) := by decide +kernel
theorem dX8_hashes_56 : decode cX8_hashes 56 = .ok (.iinc 2 64, 3) := by decide +kernel
theorem dX8_hashes_59 : decode cX8_hashes 59 = .ok (.goto (-14), 3) := by decide +kernel
theorem dX8_hashes_62 : decode cX8_hashes 62 = .ok (.return_, 1) := by decide +kernel
theorem dX8_hashByte_0 : decode cX8_hashByte 0 = .ok (.aload_n 0, 1) := by decide +kernel
theorem dX8_hashByte_1 : decode cX8_hashByte 1 = .ok (.getfield 16, 3) := by decide +kernel
theorem dX8_hashByte_4 : decode cX8_hashByte 4 = .ok (.iload_n 1, 1) := by decide +kernel
theorem dX8_hashByte_5 : decode cX8_hashByte 5 = .ok (.iconst 4, 1) := by decide +kernel
theorem dX8_hashByte_6 : decode cX8_hashByte 6 = .ok (.idiv, 1) := by decide +kernel
theorem dX8_hashByte_7 : decode cX8_hashByte 7 = .ok (.iaload, 1) := by decide +kernel
theorem dX8_hashByte_8 : decode cX8_hashByte 8 = .ok (.bipush 24, 2) := by decide +kernel
theorem dX8_hashByte_10 : decode cX8_hashByte 10 = .ok (.bipush 8, 2) := by decide +kernel
theorem dX8_hashByte_12 : decode cX8_hashByte 12 = .ok (.iload_n 1, 1) := by decide +kernel
theorem dX8_hashByte_13 : decode cX8_hashByte 13 = .ok (.iconst 4, 1) := by decide +kernel
theorem dX8_hashByte_14 : decode cX8_hashByte 14 = .ok (.irem, 1) := by decide +kernel
theorem dX8_hashByte_15 : decode cX8_hashByte 15 = .ok (.imul, 1) := by decide +kernel
theorem dX8_hashByte_16 : decode cX8_hashByte 16 = .ok (.isub, 1) := by decide +kernel
theorem dX8_hashByte_17 : decode cX8_hashByte 17 = .ok (.iushr, 1) := by decide +kernel
theorem dX8_hashByte_18 : decode cX8_hashByte 18 = .ok (.sipush 255, 3) := by decide +kernel
theorem dX8_hashByte_21 : decode cX8_hashByte 21 = .ok (.iand, 1) := by decide +kernel
theorem dX8_hashByte_22 : decode cX8_hashByte 22 = .ok (.ireturn, 1) := by decide +kernel
theorem dX8_seed_0 : decode cX8_seed 0 = .ok (.aload_n 0, 1) := by decide +kernel
theorem dX8_seed_1 : decode cX8_seed 1 = .ok (.getfield 169, 3) := by decide +kernel
theorem dX8_seed_4 : decode cX8_seed 4 = .ok (.ifCond .eq 6, 3) := by decide +kernel
theorem dX8_seed_7 : decode cX8_seed 7 = .ok (.bipush (-3), 2) := by decide +kernel
theorem dX8_seed_9 : decode cX8_seed 9 = .ok (.ireturn, 1) := by decide +kernel
theorem dX8_seed_10 : decode cX8_seed 10 = .ok (.aload_n 0, 1) := by decide +kernel
theorem dX8_seed_11 : decode cX8_seed 11 = .ok (.getfield 173, 3) := by decide +kernel
theorem dX8_seed_14 : decode cX8_seed 14 = .ok (.bipush 16, 2) := by decide +kernel
theorem dX8_seed_16 : decode cX8_seed 16 = .ok (.if_icmp .ne 6, 3) := by decide +kernel
theorem dX8_seed_19 : decode cX8_seed 19 = .ok (.bipush (-4), 2) := by decide +kernel
theorem dX8_seed_21 : decode cX8_seed 21 = .ok (.ireturn, 1) := by decide +kernel
theorem dX8_seed_22 : decode cX8_seed 22 = .ok (.aload_n 0, 1) := by decide +kernel
theorem dX8_seed_23 : decode cX8_seed 23 = .ok (.getfield 100, 3) := by decide +kernel
theorem dX8_seed_26 : decode cX8_seed 26 = .ok (.aload_n 0, 1) := by decide +kernel
theorem dX8_seed_27 : decode cX8_seed 27 = .ok (.getfield 173, 3) := by decide +kernel
theorem dX8_seed_30 : decode cX8_seed 30 = .ok (.iload_n 1, 1) := by decide +kernel
theorem dX8_seed_31 : decode cX8_seed 31 = .ok (.iastore, 1) := by decide +kernel
theorem dX8_seed_32 : decode cX8_seed 32 = .ok (.aload_n 0, 1) := by decide +kernel
theorem dX8_seed_33 : decode cX8_seed 33 = .ok (.dup, 1) := by decide +kernel
theorem dX8_seed_34 : decode cX8_seed 34 = .ok (.getfield 173, 3) := by decide +kernel
theorem dX8_seed_37 : decode cX8_seed 37 = .ok (.iconst 1, 1) := by decide +kernel
theorem dX8_seed_38 : decode cX8_seed 38 = .ok (.iadd, 1) := by decide +kernel
theorem dX8_seed_39 : decode cX8_seed 39 = .ok (.putfield 173, 3) := by decide +kernel
theorem dX8_seed_42 : decode cX8_seed 42 = .ok (.aload_n 0, 1) := by decide +kernel
theorem dX8_seed_43 : decode cX8_seed 43 = .ok (.getfield 173, 3) := by decide +kernel
theorem dX8_seed_46 : decode cX8_seed 46 = .ok (.ireturn, 1) := by decide +kernel
theorem dX8_lay_0 : decode cX8_lay 0 = .ok (.bipush 24, 2) := by decide +kernel
theorem dX8_lay_2 : decode cX8_lay 2 = .ok (.istore_n 2, 1) := by decide +kernel
theorem dX8_lay_3 : decode cX8_lay 3 = .ok (.iload_n 2, 1) := by decide +kernel
theorem dX8_lay_4 : decode cX8_lay 4 = .ok (.ifCond .lt 35, 3) := by decide +kernel
theorem dX8_lay_7 : decode cX8_lay 7 = .ok (.aload_n 0, 1) := by decide +kernel
theorem dX8_lay_8 : decode cX8_lay 8 = .ok (.getfield 13, 3) := by decide +kernel
theorem dX8_lay_11 : decode cX8_lay 11 = .ok (.aload_n 0, 1) := by decide +kernel
theorem dX8_lay_12 : decode cX8_lay 12 = .ok (.getfield 156, 3) := by decide +kernel
theorem dX8_lay_15 : decode cX8_lay 15 = .ok (.iload_n 1, 1) := by decide +kernel
theorem dX8_lay_16 : decode cX8_lay 16 = .ok (.iload_n 2, 1) := by decide +kernel
theorem dX8_lay_17 : decode cX8_lay 17 = .ok (.iushr, 1) := by decide +kernel
theorem dX8_lay_18 : decode cX8_lay 18 = .ok (.sipush 255, 3) := by decide +kernel
theorem dX8_lay_21 : decode cX8_lay 21 = .ok (.iand, 1) := by decide +kernel
theorem dX8_lay_22 : decode cX8_lay 22 = .ok (.iastore, 1) := by decide +kernel
theorem dX8_lay_23 : decode cX8_lay 23 = .ok (.aload_n 0, 1) := by decide +kernel
theorem dX8_lay_24 : decode cX8_lay 24 = .ok (.dup, 1) := by decide +kernel
theorem dX8_lay_25 : decode cX8_lay 25 = .ok (.getfield 156, 3) := by decide +kernel
theorem dX8_lay_28 : decode cX8_lay 28 = .ok (.iconst 1, 1) := by decide +kernel
theorem dX8_lay_29 : decode cX8_lay 29 = .ok (.iadd, 1) := by decide +kernel
theorem dX8_lay_30 : decode cX8_lay 30 = .ok (.putfield 156, 3) := by decide +kernel
theorem dX8_lay_33 : decode cX8_lay 33 = .ok (.iinc 2 (-8), 3) := by decide +kernel
theorem dX8_lay_36 : decode cX8_lay 36 = .ok (.goto (-33), 3) := by decide +kernel
theorem dX8_lay_39 : decode cX8_lay 39 = .ok (.return_, 1) := by decide +kernel
theorem dX8_draws_0 : decode cX8_draws 0 = .ok (.aload_n 0, 1) := by decide +kernel
theorem dX8_draws_1 : decode cX8_draws 1 = .ok (.iconst 0, 1) := by decide +kernel
theorem dX8_draws_2 : decode cX8_draws 2 = .ok (.putfield 156, 3) := by decide +kernel
theorem dX8_draws_5 : decode cX8_draws 5 = .ok (.iconst 0, 1) := by decide +kernel
theorem dX8_draws_6 : decode cX8_draws 6 = .ok (.istore_n 1, 1) := by decide +kernel
theorem dX8_draws_7 : decode cX8_draws 7 = .ok (.iload_n 1, 1) := by decide +kernel
theorem dX8_draws_8 : decode cX8_draws 8 = .ok (.aload_n 0, 1) := by decide +kernel
theorem dX8_draws_9 : decode cX8_draws 9 = .ok (.getfield 173, 3) := by decide +kernel
theorem dX8_draws_12 : decode cX8_draws 12 = .ok (.if_icmp .ge 19, 3) := by decide +kernel
theorem dX8_draws_15 : decode cX8_draws 15 = .ok (.aload_n 0, 1) := by decide +kernel
theorem dX8_draws_16 : decode cX8_draws 16 = .ok (.aload_n 0, 1) := by decide +kernel
theorem dX8_draws_17 : decode cX8_draws 17 = .ok (.getfield 100, 3) := by decide +kernel
theorem dX8_draws_20 : decode cX8_draws 20 = .ok (.iload_n 1, 1) := by decide +kernel
theorem dX8_draws_21 : decode cX8_draws 21 = .ok (.iaload, 1) := by decide +kernel
theorem dX8_draws_22 : decode cX8_draws 22 = .ok (.invokevirtual 176, 3) := by decide +kernel
theorem dX8_draws_25 : decode cX8_draws 25 = .ok (.iinc 1 1, 3) := by decide +kernel
theorem dX8_draws_28 : decode cX8_draws 28 = .ok (.goto (-21), 3) := by decide +kernel
theorem dX8_draws_31 : decode cX8_draws 31 = .ok (.aload_n 0, 1) := by decide +kernel
theorem dX8_draws_32 : decode cX8_draws 32 = .ok (.aload_n 0, 1) := by decide +kernel
theorem dX8_draws_33 : decode cX8_draws 33 = .ok (.getfield 179, 3) := by decide +kernel
theorem dX8_draws_36 : decode cX8_draws 36 = .ok (.invokevirtual 176, 3) := by decide +kernel
theorem dX8_draws_39 : decode cX8_draws 39 = .ok (.aload_n 0, 1) := by decide +kernel
theorem dX8_draws_40 : decode cX8_draws 40 = .ok (.invokevirtual 182, 3) := by decide +kernel
theorem dX8_draws_43 : decode cX8_draws 43 = .ok (.aload_n 0, 1) := by decide +kernel
theorem dX8_draws_44 : decode cX8_draws 44 = .ok (.aload_n 0, 1) := by decide +kernel
theorem dX8_draws_45 : decode cX8_draws 45 = .ok (.getfield 185, 3) := by decide +kernel
theorem dX8_draws_48 : decode cX8_draws 48 = .ok (.invokevirtual 188, 3) := by decide +kernel
theorem dX8_draws_51 : decode cX8_draws 51 = .ok (.istore_n 1, 1) := by decide +kernel
theorem dX8_draws_52 : decode cX8_draws 52 = .ok (.aload_n 0, 1) := by decide +kernel
theorem dX8_draws_53 : decode cX8_draws 53 = .ok (.dup, 1) := by decide +kernel
theorem dX8_draws_54 : decode cX8_draws 54 = .ok (.getfield 185, 3) := by decide +kernel
theorem dX8_draws_57 : decode cX8_draws 57 = .ok (.iconst 1, 1) := by decide +kernel
theorem dX8_draws_58 : decode cX8_draws 58 = .ok (.iadd, 1) := by decide +kernel
theorem dX8_draws_59 : decode cX8_draws 59 = .ok (.putfield 185, 3) := by decide +kernel
theorem dX8_draws_62 : decode cX8_draws 62 = .ok (.aload_n 0, 1) := by decide +kernel
theorem dX8_draws_63 : decode cX8_draws 63 = .ok (.getfield 185, 3) := by decide +kernel
theorem dX8_draws_66 : decode cX8_draws 66 = .ok (.bipush 32, 2) := by decide +kernel
theorem dX8_draws_68 : decode cX8_draws 68 = .ok (.if_icmp .ne 18, 3) := by decide +kernel
theorem dX8_draws_71 : decode cX8_draws 71 = .ok (.aload_n 0, 1) := by decide +kernel
theorem dX8_draws_72 : decode cX8_draws 72 = .ok (.iconst 0, 1) := by decide +kernel
theorem dX8_draws_73 : decode cX8_draws 73 = .ok (.putfield 185, 3) := by decide +kernel
theorem dX8_draws_76 : decode cX8_draws 76 = .ok (.aload_n 0, 1) := by decide +kernel
theorem dX8_draws_77 : decode cX8_draws 77 = .ok (.dup, 1) := by decide +kernel
theorem dX8_draws_78 : decode cX8_draws 78 = .ok (.getfield 179, 3) := by decide +kernel
theorem dX8_draws_81 : decode cX8_draws 81 = .ok (.iconst 1, 1) := by decide +kernel
theorem dX8_draws_82 : decode cX8_draws 82 = .ok (.iadd, 1) := by decide +kernel
theorem dX8_draws_83 : decode cX8_draws 83 = .ok (.putfield 179, 3) := by decide +kernel
theorem dX8_draws_86 : decode cX8_draws 86 = .ok (.iload_n 1, 1) := by decide +kernel
theorem dX8_draws_87 : decode cX8_draws 87 = .ok (.ireturn, 1) := by decide +kernel
theorem dX8_isDivided_0 : decode cX8_isDivided 0 = .ok (.iconst 3, 1) := by decide +kernel
theorem dX8_isDivided_1 : decode cX8_isDivided 1 = .ok (.istore_n 1, 1) := by decide +kernel
theorem dX8_isDivided_2 : decode cX8_isDivided 2 = .ok (.iload_n 1, 1) := by decide +kernel
theorem dX8_isDivided_3 : decode cX8_isDivided 3 = .ok (.sipush 256, 3) := by decide +kernel
theorem dX8_isDivided_6 : decode cX8_isDivided 6 = .ok (.if_icmp .ge 58, 3) := by decide +kernel
theorem dX8_isDivided_9 : decode cX8_isDivided 9 = .ok (.iconst 1, 1) := by decide +kernel
theorem dX8_isDivided_10 : decode cX8_isDivided 10 = .ok (.istore_n 2, 1) := by decide +kernel
theorem dX8_isDivided_11 : decode cX8_isDivided 11 = .ok (.iconst 3, 1) := by decide +kernel
theorem dX8_isDivided_12 : decode cX8_isDivided 12 = .ok (.istore_n 3, 1) := by decide +kernel
theorem dX8_isDivided_13 : decode cX8_isDivided 13 = .ok (.iload_n 3, 1) := by decide +kernel
theorem dX8_isDivided_14 : decode cX8_isDivided 14 = .ok (.iload_n 3, 1) := by decide +kernel
theorem dX8_isDivided_15 : decode cX8_isDivided 15 = .ok (.imul, 1) := by decide +kernel
theorem dX8_isDivided_16 : decode cX8_isDivided 16 = .ok (.iload_n 1, 1) := by decide +kernel
theorem dX8_isDivided_17 : decode cX8_isDivided 17 = .ok (.if_icmp .gt 25, 3) := by decide +kernel
theorem dX8_isDivided_20 : decode cX8_isDivided 20 = .ok (.iload_n 2, 1) := by decide +kernel
theorem dX8_isDivided_21 : decode cX8_isDivided 21 = .ok (.ifCond .eq 13, 3) := by decide +kernel
theorem dX8_isDivided_24 : decode cX8_isDivided 24 = .ok (.iload_n 1, 1) := by decide +kernel
theorem dX8_isDivided_25 : decode cX8_isDivided 25 = .ok (.iload_n 3, 1) := by decide +kernel
theorem dX8_isDivided_26 : decode cX8_isDivided 26 = .ok (.irem, 1) := by decide +kernel
theorem dX8_isDivided_27 : decode cX8_isDivided 27 = .ok (.ifCond .eq 7, 3) := by decide +kernel
theorem dX8_isDivided_30 : decode cX8_isDivided 30 = .ok (.iconst 1, 1) := by decide +kernel
theorem dX8_isDivided_31 : decode cX8_isDivided 31 = .ok (.goto 4, 3) := by decide +kernel
theorem dX8_isDivided_34 : decode cX8_isDivided 34 = .ok (.iconst 0, 1) := by decide +kernel
theorem dX8_isDivided_35 : decode cX8_isDivided 35 = .ok (.istore_n 2, 1) := by decide +kernel
theorem dX8_isDivided_36 : decode cX8_isDivided 36 = .ok (.iinc 3 2, 3) := by decide +kernel
theorem dX8_isDivided_39 : decode cX8_isDivided 39 = .ok (.goto (-26), 3) := by decide +kernel
theorem dX8_isDivided_42 : decode cX8_isDivided 42 = .ok (.iload_n 2, 1) := by decide +kernel
theorem dX8_isDivided_43 : decode cX8_isDivided 43 = .ok (.ifCond .eq 15, 3) := by decide +kernel
theorem dX8_isDivided_46 : decode cX8_isDivided 46 = .ok (.aload_n 0, 1) := by decide +kernel
theorem dX8_isDivided_47 : decode cX8_isDivided 47 = .ok (.bipush 8, 2) := by decide +kernel
theorem dX8_isDivided_49 : decode cX8_isDivided 49 = .ok (.iload_n 1, 1) := by decide +kernel
theorem dX8_isDivided_50 : decode cX8_isDivided 50 = .ok (.invokevirtual 191, 3) := by decide +kernel
theorem dX8_isDivided_53 : decode cX8_isDivided 53 = .ok (.ifCond .ne 5, 3) := by decide +kernel
theorem dX8_isDivided_56 : decode cX8_isDivided 56 = .ok (.iconst 1, 1) := by decide +kernel
theorem dX8_isDivided_57 : decode cX8_isDivided 57 = .ok (.ireturn, 1) := by decide +kernel
theorem dX8_isDivided_58 : decode cX8_isDivided 58 = .ok (.iinc 1 2, 3) := by decide +kernel
theorem dX8_isDivided_61 : decode cX8_isDivided 61 = .ok (.goto (-59), 3) := by decide +kernel
theorem dX8_isDivided_64 : decode cX8_isDivided 64 = .ok (.iconst 0, 1) := by decide +kernel
theorem dX8_isDivided_65 : decode cX8_isDivided 65 = .ok (.ireturn, 1) := by decide +kernel
theorem dX8_base_0 : decode cX8_base 0 = .ok (.iload_n 0, 1) := by decide +kernel
theorem dX8_base_1 : decode cX8_base 1 = .ok (.ifCond .ne 7, 3) := by decide +kernel
theorem dX8_base_4 : decode cX8_base 4 = .ok (.iconst 2, 1) := by decide +kernel
theorem dX8_base_5 : decode cX8_base 5 = .ok (.goto 64, 3) := by decide +kernel
theorem dX8_base_8 : decode cX8_base 8 = .ok (.iload_n 0, 1) := by decide +kernel
theorem dX8_base_9 : decode cX8_base 9 = .ok (.iconst 1, 1) := by decide +kernel
theorem dX8_base_10 : decode cX8_base 10 = .ok (.if_icmp .ne 7, 3) := by decide +kernel
theorem dX8_base_13 : decode cX8_base 13 = .ok (.iconst 3, 1) := by decide +kernel
theorem dX8_base_14 : decode cX8_base 14 = .ok (.goto 55, 3) := by decide +kernel
theorem dX8_base_17 : decode cX8_base 17 = .ok (.iload_n 0, 1) := by decide +kernel
theorem dX8_base_18 : decode cX8_base 18 = .ok (.iconst 2, 1) := by decide +kernel
theorem dX8_base_19 : decode cX8_base 19 = .ok (.if_icmp .ne 7, 3) := by decide +kernel
theorem dX8_base_22 : decode cX8_base 22 = .ok (.iconst 5, 1) := by decide +kernel
theorem dX8_base_23 : decode cX8_base 23 = .ok (.goto 46, 3) := by decide +kernel
theorem dX8_base_26 : decode cX8_base 26 = .ok (.iload_n 0, 1) := by decide +kernel
theorem dX8_base_27 : decode cX8_base 27 = .ok (.iconst 3, 1) := by decide +kernel
theorem dX8_base_28 : decode cX8_base 28 = .ok (.if_icmp .ne 8, 3) := by decide +kernel
theorem dX8_base_31 : decode cX8_base 31 = .ok (.bipush 7, 2) := by decide +kernel
theorem dX8_base_33 : decode cX8_base 33 = .ok (.goto 36, 3) := by decide +kernel
theorem dX8_base_36 : decode cX8_base 36 = .ok (.iload_n 0, 1) := by decide +kernel
theorem dX8_base_37 : decode cX8_base 37 = .ok (.iconst 4, 1) := by decide +kernel
theorem dX8_base_38 : decode cX8_base 38 = .ok (.if_icmp .ne 8, 3) := by decide +kernel
theorem dX8_base_41 : decode cX8_base 41 = .ok (.bipush 11, 2) := by decide +kernel
theorem dX8_base_43 : decode cX8_base 43 = .ok (.goto 26, 3) := by decide +kernel
theorem dX8_base_46 : decode cX8_base 46 = .ok (.iload_n 0, 1) := by decide +kernel
theorem dX8_base_47 : decode cX8_base 47 = .ok (.iconst 5, 1) := by decide +kernel
theorem dX8_base_48 : decode cX8_base 48 = .ok (.if_icmp .ne 8, 3) := by decide +kernel
theorem dX8_base_51 : decode cX8_base 51 = .ok (.bipush 13, 2) := by decide +kernel
theorem dX8_base_53 : decode cX8_base 53 = .ok (.goto 16, 3) := by decide +kernel
theorem dX8_base_56 : decode cX8_base 56 = .ok (.iload_n 0, 1) := by decide +kernel
theorem dX8_base_57 : decode cX8_base 57 = .ok (.bipush 6, 2) := by decide +kernel
theorem dX8_base_59 : decode cX8_base 59 = .ok (.if_icmp .ne 8, 3) := by decide +kernel
theorem dX8_base_62 : decode cX8_base 62 = .ok (.bipush 17, 2) := by decide +kernel
theorem dX8_base_64 : decode cX8_base 64 = .ok (.goto 5, 3) := by decide +kernel
theorem dX8_base_67 : decode cX8_base 67 = .ok (.bipush 19, 2) := by decide +kernel
theorem dX8_base_69 : decode cX8_base 69 = .ok (.ireturn, 1) := by decide +kernel
theorem dX8_passesBy_0 : decode cX8_passesBy 0 = .ok (.aload_n 0, 1) := by decide +kernel
theorem dX8_passesBy_1 : decode cX8_passesBy 1 = .ok (.bipush 17, 2) := by decide +kernel
theorem dX8_passesBy_3 : decode cX8_passesBy 3 = .ok (.iload_n 1, 1) := by decide +kernel
theorem dX8_passesBy_4 : decode cX8_passesBy 4 = .ok (.invokevirtual 145, 3) := by decide +kernel
theorem dX8_passesBy_7 : decode cX8_passesBy 7 = .ok (.aload_n 0, 1) := by decide +kernel
theorem dX8_passesBy_8 : decode cX8_passesBy 8 = .ok (.bipush 17, 2) := by decide +kernel
theorem dX8_passesBy_10 : decode cX8_passesBy 10 = .ok (.bipush 14, 2) := by decide +kernel
theorem dX8_passesBy_12 : decode cX8_passesBy 12 = .ok (.bipush 8, 2) := by decide +kernel
theorem dX8_passesBy_14 : decode cX8_passesBy 14 = .ok (.invokevirtual 194, 3) := by decide +kernel
theorem dX8_passesBy_17 : decode cX8_passesBy 17 = .ok (.aload_n 0, 1) := by decide +kernel
theorem dX8_passesBy_18 : decode cX8_passesBy 18 = .ok (.bipush 10, 2) := by decide +kernel
theorem dX8_passesBy_20 : decode cX8_passesBy 20 = .ok (.iconst 1, 1) := by decide +kernel
theorem dX8_passesBy_21 : decode cX8_passesBy 21 = .ok (.invokevirtual 197, 3) := by decide +kernel
theorem dX8_passesBy_24 : decode cX8_passesBy 24 = .ok (.ifCond .ne 14, 3) := by decide +kernel
theorem dX8_passesBy_27 : decode cX8_passesBy 27 = .ok (.aload_n 0, 1) := by decide +kernel
theorem dX8_passesBy_28 : decode cX8_passesBy 28 = .ok (.bipush 10, 2) := by decide +kernel
theorem dX8_passesBy_30 : decode cX8_passesBy 30 = .ok (.bipush 13, 2) := by decide +kernel
theorem dX8_passesBy_32 : decode cX8_passesBy 32 = .ok (.invokevirtual 200, 3) := by decide +kernel
theorem dX8_passesBy_35 : decode cX8_passesBy 35 = .ok (.ifCond .ne 7, 3) := by decide +kernel
theorem dX8_passesBy_38 : decode cX8_passesBy 38 = .ok (.iconst 1, 1) := by decide +kernel
theorem dX8_passesBy_39 : decode cX8_passesBy 39 = .ok (.goto 4, 3) := by decide +kernel
theorem dX8_passesBy_42 : decode cX8_passesBy 42 = .ok (.iconst 0, 1) := by decide +kernel
theorem dX8_passesBy_43 : decode cX8_passesBy 43 = .ok (.istore_n 3, 1) := by decide +kernel
theorem dX8_passesBy_44 : decode cX8_passesBy 44 = .ok (.iconst 1, 1) := by decide +kernel
theorem dX8_passesBy_45 : decode cX8_passesBy 45 = .ok (.istore 4, 2) := by decide +kernel
theorem dX8_passesBy_47 : decode cX8_passesBy 47 = .ok (.iload 4, 2) := by decide +kernel
theorem dX8_passesBy_49 : decode cX8_passesBy 49 = .ok (.iload_n 2, 1) := by decide +kernel
theorem dX8_passesBy_50 : decode cX8_passesBy 50 = .ok (.if_icmp .ge 56, 3) := by decide +kernel
theorem dX8_passesBy_53 : decode cX8_passesBy 53 = .ok (.iload_n 3, 1) := by decide +kernel
theorem dX8_passesBy_54 : decode cX8_passesBy 54 = .ok (.ifCond .ne 52, 3) := by decide +kernel
theorem dX8_passesBy_57 : decode cX8_passesBy 57 = .ok (.aload_n 0, 1) := by decide +kernel
theorem dX8_passesBy_58 : decode cX8_passesBy 58 = .ok (.bipush 11, 2) := by decide +kernel
theorem dX8_passesBy_60 : decode cX8_passesBy 60 = .ok (.bipush 10, 2) := by decide +kernel
theorem dX8_passesBy_62 : decode cX8_passesBy 62 = .ok (.bipush 10, 2) := by decide +kernel
theorem dX8_passesBy_64 : decode cX8_passesBy 64 = .ok (.invokevirtual 148, 3) := by decide +kernel
theorem dX8_passesBy_67 : decode cX8_passesBy 67 = .ok (.aload_n 0, 1) := by decide +kernel
theorem dX8_passesBy_68 : decode cX8_passesBy 68 = .ok (.bipush 11, 2) := by decide +kernel
theorem dX8_passesBy_70 : decode cX8_passesBy 70 = .ok (.bipush 8, 2) := by decide +kernel
theorem dX8_passesBy_72 : decode cX8_passesBy 72 = .ok (.invokevirtual 142, 3) := by decide +kernel
theorem dX8_passesBy_75 : decode cX8_passesBy 75 = .ok (.aload_n 0, 1) := by decide +kernel
theorem dX8_passesBy_76 : decode cX8_passesBy 76 = .ok (.bipush 10, 2) := by decide +kernel
theorem dX8_passesBy_78 : decode cX8_passesBy 78 = .ok (.bipush 11, 2) := by decide +kernel
theorem dX8_passesBy_80 : decode cX8_passesBy 80 = .ok (.invokevirtual 139, 3) := by decide +kernel
theorem dX8_passesBy_83 : decode cX8_passesBy 83 = .ok (.aload_n 0, 1) := by decide +kernel
theorem dX8_passesBy_84 : decode cX8_passesBy 84 = .ok (.bipush 10, 2) := by decide +kernel
theorem dX8_passesBy_86 : decode cX8_passesBy 86 = .ok (.bipush 13, 2) := by decide +kernel
theorem dX8_passesBy_88 : decode cX8_passesBy 88 = .ok (.invokevirtual 200, 3) := by decide +kernel
theorem dX8_passesBy_91 : decode cX8_passesBy 91 = .ok (.ifCond .ne 7, 3) := by decide +kernel
theorem dX8_passesBy_94 : decode cX8_passesBy 94 = .ok (.iconst 1, 1) := by decide +kernel
theorem dX8_passesBy_95 : decode cX8_passesBy 95 = .ok (.goto 4, 3) := by decide +kernel
theorem dX8_passesBy_98 : decode cX8_passesBy 98 = .ok (.iconst 0, 1) := by decide +kernel
theorem dX8_passesBy_99 : decode cX8_passesBy 99 = .ok (.istore_n 3, 1) := by decide +kernel
theorem dX8_passesBy_100 : decode cX8_passesBy 100 = .ok (.iinc 4 1, 3) := by decide +kernel
theorem dX8_passesBy_103 : decode cX8_passesBy 103 = .ok (.goto (-56), 3) := by decide +kernel
theorem dX8_passesBy_106 : decode cX8_passesBy 106 = .ok (.iload_n 3, 1) := by decide +kernel
theorem dX8_passesBy_107 : decode cX8_passesBy 107 = .ok (.ireturn, 1) := by decide +kernel
theorem dX8_passes_0 : decode cX8_passes 0 = .ok (.aload_n 0, 1) := by decide +kernel
theorem dX8_passes_1 : decode cX8_passes 1 = .ok (.bipush 13, 2) := by decide +kernel
theorem dX8_passes_3 : decode cX8_passes 3 = .ok (.bipush 8, 2) := by decide +kernel
theorem dX8_passes_5 : decode cX8_passes 5 = .ok (.invokevirtual 139, 3) := by decide +kernel
theorem dX8_passes_8 : decode cX8_passes 8 = .ok (.aload_n 0, 1) := by decide +kernel
theorem dX8_passes_9 : decode cX8_passes 9 = .ok (.bipush 13, 2) := by decide +kernel
theorem dX8_passes_11 : decode cX8_passes 11 = .ok (.iconst 1, 1) := by decide +kernel
theorem dX8_passes_12 : decode cX8_passes 12 = .ok (.invokevirtual 203, 3) := by decide +kernel
theorem dX8_passes_15 : decode cX8_passes 15 = .ok (.aload_n 0, 1) := by decide +kernel
theorem dX8_passes_16 : decode cX8_passes 16 = .ok (.bipush 14, 2) := by decide +kernel
theorem dX8_passes_18 : decode cX8_passes 18 = .ok (.bipush 13, 2) := by decide +kernel
theorem dX8_passes_20 : decode cX8_passes 20 = .ok (.invokevirtual 139, 3) := by decide +kernel
theorem dX8_passes_23 : decode cX8_passes 23 = .ok (.iconst 0, 1) := by decide +kernel
theorem dX8_passes_24 : decode cX8_passes 24 = .ok (.istore_n 1, 1) := by decide +kernel
theorem dX8_passes_25 : decode cX8_passes 25 = .ok (.aload_n 0, 1) := by decide +kernel
theorem dX8_passes_26 : decode cX8_passes 26 = .ok (.bipush 14, 2) := by decide +kernel
theorem dX8_passes_28 : decode cX8_passes 28 = .ok (.iconst 0, 1) := by decide +kernel
theorem dX8_passes_29 : decode cX8_passes 29 = .ok (.invokevirtual 151, 3) := by decide +kernel
theorem dX8_passes_32 : decode cX8_passes 32 = .ok (.ifCond .ne 16, 3) := by decide +kernel
theorem dX8_passes_35 : decode cX8_passes 35 = .ok (.aload_n 0, 1) := by decide +kernel
theorem dX8_passes_36 : decode cX8_passes 36 = .ok (.bipush 14, 2) := by decide +kernel
theorem dX8_passes_38 : decode cX8_passes 38 = .ok (.iconst 1, 1) := by decide +kernel
theorem dX8_passes_39 : decode cX8_passes 39 = .ok (.invokevirtual 135, 3) := by decide +kernel
theorem dX8_passes_42 : decode cX8_passes 42 = .ok (.iinc 1 1, 3) := by decide +kernel
theorem dX8_passes_45 : decode cX8_passes 45 = .ok (.goto (-20), 3) := by decide +kernel
theorem dX8_passes_48 : decode cX8_passes 48 = .ok (.iconst 1, 1) := by decide +kernel
theorem dX8_passes_49 : decode cX8_passes 49 = .ok (.istore_n 2, 1) := by decide +kernel
theorem dX8_passes_50 : decode cX8_passes 50 = .ok (.iconst 0, 1) := by decide +kernel
theorem dX8_passes_51 : decode cX8_passes 51 = .ok (.istore_n 3, 1) := by decide +kernel
theorem dX8_passes_52 : decode cX8_passes 52 = .ok (.iload_n 3, 1) := by decide +kernel
theorem dX8_passes_53 : decode cX8_passes 53 = .ok (.aload_n 0, 1) := by decide +kernel
theorem dX8_passes_54 : decode cX8_passes 54 = .ok (.getfield 113, 3) := by decide +kernel
theorem dX8_passes_57 : decode cX8_passes 57 = .ok (.if_icmp .ge 23, 3) := by decide +kernel
theorem dX8_passes_60 : decode cX8_passes 60 = .ok (.iload_n 2, 1) := by decide +kernel
theorem dX8_passes_61 : decode cX8_passes 61 = .ok (.ifCond .eq 19, 3) := by decide +kernel
theorem dX8_passes_64 : decode cX8_passes 64 = .ok (.aload_n 0, 1) := by decide +kernel
theorem dX8_passes_65 : decode cX8_passes 65 = .ok (.iload_n 3, 1) := by decide +kernel
theorem dX8_passes_66 : decode cX8_passes 66 = .ok (.invokestatic 206, 3) := by decide +kernel
theorem dX8_passes_69 : decode cX8_passes 69 = .ok (.iload_n 1, 1) := by decide +kernel
theorem dX8_passes_70 : decode cX8_passes 70 = .ok (.invokevirtual 209, 3) := by decide +kernel
theorem dX8_passes_73 : decode cX8_passes 73 = .ok (.istore_n 2, 1) := by decide +kernel
theorem dX8_passes_74 : decode cX8_passes 74 = .ok (.iinc 3 1, 3) := by decide +kernel
theorem dX8_passes_77 : decode cX8_passes 77 = .ok (.goto (-25), 3) := by decide +kernel
theorem dX8_passes_80 : decode cX8_passes 80 = .ok (.iload_n 2, 1) := by decide +kernel
theorem dX8_passes_81 : decode cX8_passes 81 = .ok (.ireturn, 1) := by decide +kernel
theorem dX8_isGood_0 : decode cX8_isGood 0 = .ok (.aload_n 0, 1) := by decide +kernel
theorem dX8_isGood_1 : decode cX8_isGood 1 = .ok (.invokevirtual 212, 3) := by decide +kernel
theorem dX8_isGood_4 : decode cX8_isGood 4 = .ok (.ifCond .eq 5, 3) := by decide +kernel
theorem dX8_isGood_7 : decode cX8_isGood 7 = .ok (.iconst 0, 1) := by decide +kernel
theorem dX8_isGood_8 : decode cX8_isGood 8 = .ok (.ireturn, 1) := by decide +kernel
theorem dX8_isGood_9 : decode cX8_isGood 9 = .ok (.aload_n 0, 1) := by decide +kernel
theorem dX8_isGood_10 : decode cX8_isGood 10 = .ok (.dup, 1) := by decide +kernel
theorem dX8_isGood_11 : decode cX8_isGood 11 = .ok (.getfield 216, 3) := by decide +kernel
theorem dX8_isGood_14 : decode cX8_isGood 14 = .ok (.iconst 1, 1) := by decide +kernel
theorem dX8_isGood_15 : decode cX8_isGood 15 = .ok (.iadd, 1) := by decide +kernel
theorem dX8_isGood_16 : decode cX8_isGood 16 = .ok (.putfield 216, 3) := by decide +kernel
theorem dX8_isGood_19 : decode cX8_isGood 19 = .ok (.aload_n 0, 1) := by decide +kernel
theorem dX8_isGood_20 : decode cX8_isGood 20 = .ok (.bipush 8, 2) := by decide +kernel
theorem dX8_isGood_22 : decode cX8_isGood 22 = .ok (.ldc 219, 2) := by decide +kernel
theorem dX8_isGood_24 : decode cX8_isGood 24 = .ok (.invokevirtual 191, 3) := by decide +kernel
theorem dX8_isGood_27 : decode cX8_isGood 27 = .ok (.iconst 1, 1) := by decide +kernel
theorem dX8_isGood_28 : decode cX8_isGood 28 = .ok (.if_icmp .eq 31, 3) := by decide +kernel
theorem dX8_isGood_31 : decode cX8_isGood 31 = .ok (.aload_n 0, 1) := by decide +kernel
theorem dX8_isGood_32 : decode cX8_isGood 32 = .ok (.getfield 220, 3) := by decide +kernel
theorem dX8_isGood_35 : decode cX8_isGood 35 = .ok (.ifCond .eq 13, 3) := by decide +kernel
theorem dX8_isGood_38 : decode cX8_isGood 38 = .ok (.aload_n 0, 1) := by decide +kernel
theorem dX8_isGood_39 : decode cX8_isGood 39 = .ok (.bipush 8, 2) := by decide +kernel
theorem dX8_isGood_41 : decode cX8_isGood 41 = .ok (.iconst 2, 1) := by decide +kernel
theorem dX8_isGood_42 : decode cX8_isGood 42 = .ok (.invokevirtual 200, 3) := by decide +kernel
theorem dX8_isGood_45 : decode cX8_isGood 45 = .ok (.ifCond .eq 14, 3) := by decide +kernel
theorem dX8_isGood_48 : decode cX8_isGood 48 = .ok (.aload_n 0, 1) := by decide +kernel
theorem dX8_isGood_49 : decode cX8_isGood 49 = .ok (.invokevirtual 223, 3) := by decide +kernel
theorem dX8_isGood_52 : decode cX8_isGood 52 = .ok (.ifCond .eq 7, 3) := by decide +kernel
theorem dX8_isGood_55 : decode cX8_isGood 55 = .ok (.iconst 1, 1) := by decide +kernel
theorem dX8_isGood_56 : decode cX8_isGood 56 = .ok (.goto 4, 3) := by decide +kernel
theorem dX8_isGood_59 : decode cX8_isGood 59 = .ok (.iconst 0, 1) := by decide +kernel
theorem dX8_isGood_60 : decode cX8_isGood 60 = .ok (.ireturn, 1) := by decide +kernel
theorem dX8_inverse_0 : decode cX8_inverse 0 = .ok (.aload_n 0, 1) := by decide +kernel
theorem dX8_inverse_1 : decode cX8_inverse 1 = .ok (.iload_n 2, 1) := by decide +kernel
theorem dX8_inverse_2 : decode cX8_inverse 2 = .ok (.ldc 219, 2) := by decide +kernel
theorem dX8_inverse_4 : decode cX8_inverse 4 = .ok (.invokevirtual 191, 3) := by decide +kernel
theorem dX8_inverse_7 : decode cX8_inverse 7 = .ok (.i2l, 1) := by decide +kernel
theorem dX8_inverse_8 : decode cX8_inverse 8 = .ok (.lstore_n 3, 1) := by decide +kernel
theorem dX8_inverse_9 : decode cX8_inverse 9 = .ok (.lconst 1, 1) := by decide +kernel
theorem dX8_inverse_10 : decode cX8_inverse 10 = .ok (.lstore 5, 2) := by decide +kernel
theorem dX8_inverse_12 : decode cX8_inverse 12 = .ok (.iconst 0, 1) := by decide +kernel
theorem dX8_inverse_13 : decode cX8_inverse 13 = .ok (.istore 7, 2) := by decide +kernel
theorem dX8_inverse_15 : decode cX8_inverse 15 = .ok (.iload 7, 2) := by decide +kernel
theorem dX8_inverse_17 : decode cX8_inverse 17 = .ok (.ldc 124, 2) := by decide +kernel
theorem dX8_inverse_19 : decode cX8_inverse 19 = .ok (.if_icmp .ge 19, 3) := by decide +kernel
theorem dX8_inverse_22 : decode cX8_inverse 22 = .ok (.lload 5, 2) := by decide +kernel
theorem dX8_inverse_24 : decode cX8_inverse 24 = .ok (.lload_n 3, 1) := by decide +kernel
theorem dX8_inverse_25 : decode cX8_inverse 25 = .ok (.lmul, 1) := by decide +kernel
theorem dX8_inverse_26 : decode cX8_inverse 26 = .ok (.ldc2_w 226, 3) := by decide +kernel
theorem dX8_inverse_29 : decode cX8_inverse 29 = .ok (.lrem, 1) := by decide +kernel
theorem dX8_inverse_30 : decode cX8_inverse 30 = .ok (.lstore 5, 2) := by decide +kernel
theorem dX8_inverse_32 : decode cX8_inverse 32 = .ok (.iinc 7 1, 3) := by decide +kernel
theorem dX8_inverse_35 : decode cX8_inverse 35 = .ok (.goto (-20), 3) := by decide +kernel
theorem dX8_inverse_38 : decode cX8_inverse 38 = .ok (.aload_n 0, 1) := by decide +kernel
theorem dX8_inverse_39 : decode cX8_inverse 39 = .ok (.iload_n 1, 1) := by decide +kernel
theorem dX8_inverse_40 : decode cX8_inverse 40 = .ok (.iload_n 2, 1) := by decide +kernel
theorem dX8_inverse_41 : decode cX8_inverse 41 = .ok (.invokevirtual 139, 3) := by decide +kernel
theorem dX8_inverse_44 : decode cX8_inverse 44 = .ok (.aload_n 0, 1) := by decide +kernel
theorem dX8_inverse_45 : decode cX8_inverse 45 = .ok (.iload_n 1, 1) := by decide +kernel
theorem dX8_inverse_46 : decode cX8_inverse 46 = .ok (.ldc2_w 226, 3) := by decide +kernel
theorem dX8_inverse_49 : decode cX8_inverse 49 = .ok (.lload 5, 2) := by decide +kernel
theorem dX8_inverse_51 : decode cX8_inverse 51 = .ok (.lsub, 1) := by decide +kernel
theorem dX8_inverse_52 : decode cX8_inverse 52 = .ok (.ldc2_w 226, 3) := by decide +kernel
theorem dX8_inverse_55 : decode cX8_inverse 55 = .ok (.lrem, 1) := by decide +kernel
theorem dX8_inverse_56 : decode cX8_inverse 56 = .ok (.l2i, 1) := by decide +kernel
theorem dX8_inverse_57 : decode cX8_inverse 57 = .ok (.iconst 1, 1) := by decide +kernel
theorem dX8_inverse_58 : decode cX8_inverse 58 = .ok (.invokevirtual 228, 3) := by decide +kernel
theorem dX8_inverse_61 : decode cX8_inverse 61 = .ok (.aload_n 0, 1) := by decide +kernel
theorem dX8_inverse_62 : decode cX8_inverse 62 = .ok (.iload_n 1, 1) := by decide +kernel
theorem dX8_inverse_63 : decode cX8_inverse 63 = .ok (.ldc 219, 2) := by decide +kernel
theorem dX8_inverse_65 : decode cX8_inverse 65 = .ok (.invokevirtual 231, 3) := by decide +kernel
theorem dX8_inverse_68 : decode cX8_inverse 68 = .ok (.return_, 1) := by decide +kernel
theorem dX8_makesKey_0 : decode cX8_makesKey 0 = .ok (.aload_n 0, 1) := by decide +kernel
theorem dX8_makesKey_1 : decode cX8_makesKey 1 = .ok (.iconst 2, 1) := by decide +kernel
theorem dX8_makesKey_2 : decode cX8_makesKey 2 = .ok (.iconst 3, 1) := by decide +kernel
theorem dX8_makesKey_3 : decode cX8_makesKey 3 = .ok (.invokevirtual 200, 3) := by decide +kernel
theorem dX8_makesKey_6 : decode cX8_makesKey 6 = .ok (.ifCond .ge 23, 3) := by decide +kernel
theorem dX8_makesKey_9 : decode cX8_makesKey 9 = .ok (.aload_n 0, 1) := by decide +kernel
theorem dX8_makesKey_10 : decode cX8_makesKey 10 = .ok (.bipush 15, 2) := by decide +kernel
theorem dX8_makesKey_12 : decode cX8_makesKey 12 = .ok (.iconst 2, 1) := by decide +kernel
theorem dX8_makesKey_13 : decode cX8_makesKey 13 = .ok (.invokevirtual 139, 3) := by decide +kernel
theorem dX8_makesKey_16 : decode cX8_makesKey 16 = .ok (.aload_n 0, 1) := by decide +kernel
theorem dX8_makesKey_17 : decode cX8_makesKey 17 = .ok (.iconst 2, 1) := by decide +kernel
theorem dX8_makesKey_18 : decode cX8_makesKey 18 = .ok (.iconst 3, 1) := by decide +kernel
theorem dX8_makesKey_19 : decode cX8_makesKey 19 = .ok (.invokevirtual 139, 3) := by decide +kernel
theorem dX8_makesKey_22 : decode cX8_makesKey 22 = .ok (.aload_n 0, 1) := by decide +kernel
theorem dX8_makesKey_23 : decode cX8_makesKey 23 = .ok (.iconst 3, 1) := by decide +kernel
theorem dX8_makesKey_24 : decode cX8_makesKey 24 = .ok (.bipush 15, 2) := by decide +kernel
theorem dX8_makesKey_26 : decode cX8_makesKey 26 = .ok (.invokevirtual 139, 3) := by decide +kernel
theorem dX8_makesKey_29 : decode cX8_makesKey 29 = .ok (.aload_n 0, 1) := by decide +kernel
theorem dX8_makesKey_30 : decode cX8_makesKey 30 = .ok (.iconst 0, 1) := by decide +kernel
theorem dX8_makesKey_31 : decode cX8_makesKey 31 = .ok (.iconst 2, 1) := by decide +kernel
theorem dX8_makesKey_32 : decode cX8_makesKey 32 = .ok (.iconst 3, 1) := by decide +kernel
theorem dX8_makesKey_33 : decode cX8_makesKey 33 = .ok (.invokevirtual 148, 3) := by decide +kernel
theorem dX8_makesKey_36 : decode cX8_makesKey 36 = .ok (.aload_n 0, 1) := by decide +kernel
theorem dX8_makesKey_37 : decode cX8_makesKey 37 = .ok (.bipush 15, 2) := by decide +kernel
theorem dX8_makesKey_39 : decode cX8_makesKey 39 = .ok (.iconst 2, 1) := by decide +kernel
theorem dX8_makesKey_40 : decode cX8_makesKey 40 = .ok (.invokevirtual 139, 3) := by decide +kernel
theorem dX8_makesKey_43 : decode cX8_makesKey 43 = .ok (.aload_n 0, 1) := by decide +kernel
theorem dX8_makesKey_44 : decode cX8_makesKey 44 = .ok (.bipush 15, 2) := by decide +kernel
theorem dX8_makesKey_46 : decode cX8_makesKey 46 = .ok (.iconst 1, 1) := by decide +kernel
theorem dX8_makesKey_47 : decode cX8_makesKey 47 = .ok (.invokevirtual 203, 3) := by decide +kernel
theorem dX8_makesKey_50 : decode cX8_makesKey 50 = .ok (.aload_n 0, 1) := by decide +kernel
theorem dX8_makesKey_51 : decode cX8_makesKey 51 = .ok (.bipush 16, 2) := by decide +kernel
theorem dX8_makesKey_53 : decode cX8_makesKey 53 = .ok (.iconst 3, 1) := by decide +kernel
theorem dX8_makesKey_54 : decode cX8_makesKey 54 = .ok (.invokevirtual 139, 3) := by decide +kernel
theorem dX8_makesKey_57 : decode cX8_makesKey 57 = .ok (.aload_n 0, 1) := by decide +kernel
theorem dX8_makesKey_58 : decode cX8_makesKey 58 = .ok (.bipush 16, 2) := by decide +kernel
theorem dX8_makesKey_60 : decode cX8_makesKey 60 = .ok (.iconst 1, 1) := by decide +kernel
theorem dX8_makesKey_61 : decode cX8_makesKey 61 = .ok (.invokevirtual 203, 3) := by decide +kernel
theorem dX8_makesKey_64 : decode cX8_makesKey 64 = .ok (.aload_n 0, 1) := by decide +kernel
theorem dX8_makesKey_65 : decode cX8_makesKey 65 = .ok (.iconst 4, 1) := by decide +kernel
theorem dX8_makesKey_66 : decode cX8_makesKey 66 = .ok (.bipush 15, 2) := by decide +kernel
theorem dX8_makesKey_68 : decode cX8_makesKey 68 = .ok (.invokevirtual 234, 3) := by decide +kernel
theorem dX8_makesKey_71 : decode cX8_makesKey 71 = .ok (.aload_n 0, 1) := by decide +kernel
theorem dX8_makesKey_72 : decode cX8_makesKey 72 = .ok (.iconst 5, 1) := by decide +kernel
theorem dX8_makesKey_73 : decode cX8_makesKey 73 = .ok (.bipush 16, 2) := by decide +kernel
theorem dX8_makesKey_75 : decode cX8_makesKey 75 = .ok (.invokevirtual 234, 3) := by decide +kernel
theorem dX8_makesKey_78 : decode cX8_makesKey 78 = .ok (.aload_n 0, 1) := by decide +kernel
theorem dX8_makesKey_79 : decode cX8_makesKey 79 = .ok (.bipush 18, 2) := by decide +kernel
theorem dX8_makesKey_81 : decode cX8_makesKey 81 = .ok (.bipush 15, 2) := by decide +kernel
theorem dX8_makesKey_83 : decode cX8_makesKey 83 = .ok (.bipush 16, 2) := by decide +kernel
theorem dX8_makesKey_85 : decode cX8_makesKey 85 = .ok (.invokevirtual 148, 3) := by decide +kernel
theorem dX8_makesKey_88 : decode cX8_makesKey 88 = .ok (.aload_n 0, 1) := by decide +kernel
theorem dX8_makesKey_89 : decode cX8_makesKey 89 = .ok (.iconst 1, 1) := by decide +kernel
theorem dX8_makesKey_90 : decode cX8_makesKey 90 = .ok (.bipush 18, 2) := by decide +kernel
theorem dX8_makesKey_92 : decode cX8_makesKey 92 = .ok (.invokevirtual 234, 3) := by decide +kernel
theorem dX8_makesKey_95 : decode cX8_makesKey 95 = .ok (.aload_n 0, 1) := by decide +kernel
theorem dX8_makesKey_96 : decode cX8_makesKey 96 = .ok (.bipush 15, 2) := by decide +kernel
theorem dX8_makesKey_98 : decode cX8_makesKey 98 = .ok (.iconst 1, 1) := by decide +kernel
theorem dX8_makesKey_99 : decode cX8_makesKey 99 = .ok (.invokevirtual 203, 3) := by decide +kernel
theorem dX8_makesKey_102 : decode cX8_makesKey 102 = .ok (.aload_n 0, 1) := by decide +kernel
theorem dX8_makesKey_103 : decode cX8_makesKey 103 = .ok (.iconst 3, 1) := by decide +kernel
theorem dX8_makesKey_104 : decode cX8_makesKey 104 = .ok (.bipush 15, 2) := by decide +kernel
theorem dX8_makesKey_106 : decode cX8_makesKey 106 = .ok (.iconst 2, 1) := by decide +kernel
theorem dX8_makesKey_107 : decode cX8_makesKey 107 = .ok (.invokevirtual 194, 3) := by decide +kernel
theorem dX8_makesKey_110 : decode cX8_makesKey 110 = .ok (.aload_n 0, 1) := by decide +kernel
theorem dX8_makesKey_111 : decode cX8_makesKey 111 = .ok (.bipush 6, 2) := by decide +kernel
theorem dX8_makesKey_113 : decode cX8_makesKey 113 = .ok (.bipush 10, 2) := by decide +kernel
theorem dX8_makesKey_115 : decode cX8_makesKey 115 = .ok (.invokevirtual 139, 3) := by decide +kernel
theorem dX8_makesKey_118 : decode cX8_makesKey 118 = .ok (.aload_n 0, 1) := by decide +kernel
theorem dX8_makesKey_119 : decode cX8_makesKey 119 = .ok (.iconst 1, 1) := by decide +kernel
theorem dX8_makesKey_120 : decode cX8_makesKey 120 = .ok (.putfield 237, 3) := by decide +kernel
theorem dX8_makesKey_123 : decode cX8_makesKey 123 = .ok (.return_, 1) := by decide +kernel
theorem dX8_examines_0 : decode cX8_examines 0 = .ok (.aload_n 0, 1) := by decide +kernel
theorem dX8_examines_1 : decode cX8_examines 1 = .ok (.bipush 8, 2) := by decide +kernel
theorem dX8_examines_3 : decode cX8_examines 3 = .ok (.invokevirtual 116, 3) := by decide +kernel
theorem dX8_examines_6 : decode cX8_examines 6 = .ok (.iconst 0, 1) := by decide +kernel
theorem dX8_examines_7 : decode cX8_examines 7 = .ok (.istore_n 1, 1) := by decide +kernel
theorem dX8_examines_8 : decode cX8_examines 8 = .ok (.iload_n 1, 1) := by decide +kernel
theorem dX8_examines_9 : decode cX8_examines 9 = .ok (.aload_n 0, 1) := by decide +kernel
theorem dX8_examines_10 : decode cX8_examines 10 = .ok (.getfield 109, 3) := by decide +kernel
theorem dX8_examines_13 : decode cX8_examines 13 = .ok (.if_icmp .ge 54, 3) := by decide +kernel
theorem dX8_examines_16 : decode cX8_examines 16 = .ok (.aload_n 0, 1) := by decide +kernel
theorem dX8_examines_17 : decode cX8_examines 17 = .ok (.invokevirtual 240, 3) := by decide +kernel
theorem dX8_examines_20 : decode cX8_examines 20 = .ok (.istore_n 2, 1) := by decide +kernel
theorem dX8_examines_21 : decode cX8_examines 21 = .ok (.aload_n 0, 1) := by decide +kernel
theorem dX8_examines_22 : decode cX8_examines 22 = .ok (.bipush 8, 2) := by decide +kernel
theorem dX8_examines_24 : decode cX8_examines 24 = .ok (.aload_n 0, 1) := by decide +kernel
theorem dX8_examines_25 : decode cX8_examines 25 = .ok (.getfield 109, 3) := by decide +kernel
theorem dX8_examines_28 : decode cX8_examines 28 = .ok (.iload_n 1, 1) := by decide +kernel
theorem dX8_examines_29 : decode cX8_examines 29 = .ok (.iload_n 2, 1) := by decide +kernel
theorem dX8_examines_30 : decode cX8_examines 30 = .ok (.iload_n 1, 1) := by decide +kernel
theorem dX8_examines_31 : decode cX8_examines 31 = .ok (.ifCond .ne 9, 3) := by decide +kernel
theorem dX8_examines_34 : decode cX8_examines 34 = .ok (.sipush 192, 3) := by decide +kernel
theorem dX8_examines_37 : decode cX8_examines 37 = .ok (.goto 4, 3) := by decide +kernel
theorem dX8_examines_40 : decode cX8_examines 40 = .ok (.iconst 0, 1) := by decide +kernel
theorem dX8_examines_41 : decode cX8_examines 41 = .ok (.ior, 1) := by decide +kernel
theorem dX8_examines_42 : decode cX8_examines 42 = .ok (.iload_n 1, 1) := by decide +kernel
theorem dX8_examines_43 : decode cX8_examines 43 = .ok (.aload_n 0, 1) := by decide +kernel
theorem dX8_examines_44 : decode cX8_examines 44 = .ok (.getfield 109, 3) := by decide +kernel
theorem dX8_examines_47 : decode cX8_examines 47 = .ok (.iconst 1, 1) := by decide +kernel
theorem dX8_examines_48 : decode cX8_examines 48 = .ok (.isub, 1) := by decide +kernel
theorem dX8_examines_49 : decode cX8_examines 49 = .ok (.if_icmp .ne 7, 3) := by decide +kernel
theorem dX8_examines_52 : decode cX8_examines 52 = .ok (.iconst 1, 1) := by decide +kernel
theorem dX8_examines_53 : decode cX8_examines 53 = .ok (.goto 4, 3) := by decide +kernel
theorem dX8_examines_56 : decode cX8_examines 56 = .ok (.iconst 0, 1) := by decide +kernel
theorem dX8_examines_57 : decode cX8_examines 57 = .ok (.ior, 1) := by decide +kernel
theorem dX8_examines_58 : decode cX8_examines 58 = .ok (.invokevirtual 244, 3) := by decide +kernel
theorem dX8_examines_61 : decode cX8_examines 61 = .ok (.iinc 1 1, 3) := by decide +kernel
theorem dX8_examines_64 : decode cX8_examines 64 = .ok (.goto (-56), 3) := by decide +kernel
theorem dX8_examines_67 : decode cX8_examines 67 = .ok (.aload_n 0, 1) := by decide +kernel
theorem dX8_examines_68 : decode cX8_examines 68 = .ok (.dup, 1) := by decide +kernel
theorem dX8_examines_69 : decode cX8_examines 69 = .ok (.getfield 248, 3) := by decide +kernel
theorem dX8_examines_72 : decode cX8_examines 72 = .ok (.iconst 1, 1) := by decide +kernel
theorem dX8_examines_73 : decode cX8_examines 73 = .ok (.iadd, 1) := by decide +kernel
theorem dX8_examines_74 : decode cX8_examines 74 = .ok (.putfield 248, 3) := by decide +kernel
theorem dX8_examines_77 : decode cX8_examines 77 = .ok (.aload_n 0, 1) := by decide +kernel
theorem dX8_examines_78 : decode cX8_examines 78 = .ok (.invokevirtual 251, 3) := by decide +kernel
theorem dX8_examines_81 : decode cX8_examines 81 = .ok (.ifCond .eq 37, 3) := by decide +kernel
theorem dX8_examines_84 : decode cX8_examines 84 = .ok (.aload_n 0, 1) := by decide +kernel
theorem dX8_examines_85 : decode cX8_examines 85 = .ok (.aload_n 0, 1) := by decide +kernel
theorem dX8_examines_86 : decode cX8_examines 86 = .ok (.getfield 220, 3) := by decide +kernel
theorem dX8_examines_89 : decode cX8_examines 89 = .ok (.ifCond .eq 7, 3) := by decide +kernel
theorem dX8_examines_92 : decode cX8_examines 92 = .ok (.iconst 3, 1) := by decide +kernel
theorem dX8_examines_93 : decode cX8_examines 93 = .ok (.goto 4, 3) := by decide +kernel
theorem dX8_examines_96 : decode cX8_examines 96 = .ok (.iconst 2, 1) := by decide +kernel
theorem dX8_examines_97 : decode cX8_examines 97 = .ok (.bipush 8, 2) := by decide +kernel
theorem dX8_examines_99 : decode cX8_examines 99 = .ok (.invokevirtual 139, 3) := by decide +kernel
theorem dX8_examines_102 : decode cX8_examines 102 = .ok (.aload_n 0, 1) := by decide +kernel
theorem dX8_examines_103 : decode cX8_examines 103 = .ok (.getfield 220, 3) := by decide +kernel
theorem dX8_examines_106 : decode cX8_examines 106 = .ok (.ifCond .eq 7, 3) := by decide +kernel
theorem dX8_examines_109 : decode cX8_examines 109 = .ok (.aload_n 0, 1) := by decide +kernel
theorem dX8_examines_110 : decode cX8_examines 110 = .ok (.invokevirtual 254, 3) := by decide +kernel
theorem dX8_examines_113 : decode cX8_examines 113 = .ok (.aload_n 0, 1) := by decide +kernel
theorem dX8_examines_114 : decode cX8_examines 114 = .ok (.iconst 1, 1) := by decide +kernel
theorem dX8_examines_115 : decode cX8_examines 115 = .ok (.putfield 220, 3) := by decide +kernel
theorem dX8_examines_118 : decode cX8_examines 118 = .ok (.return_, 1) := by decide +kernel
theorem dX8_search_0 : decode cX8_search 0 = .ok (.iload_n 1, 1) := by decide +kernel
theorem dX8_search_1 : decode cX8_search 1 = .ok (.iconst 1, 1) := by decide +kernel
theorem dX8_search_2 : decode cX8_search 2 = .ok (.bipush 60, 2) := by decide +kernel
theorem dX8_search_4 : decode cX8_search 4 = .ok (.invokestatic 257, 3) := by decide +kernel
theorem dX8_search_7 : decode cX8_search 7 = .ok (.ifCond .ne 6, 3) := by decide +kernel
theorem dX8_search_10 : decode cX8_search 10 = .ok (.bipush (-2), 2) := by decide +kernel
theorem dX8_search_12 : decode cX8_search 12 = .ok (.ireturn, 1) := by decide +kernel
theorem dX8_search_13 : decode cX8_search 13 = .ok (.aload_n 0, 1) := by decide +kernel
theorem dX8_search_14 : decode cX8_search 14 = .ok (.getfield 173, 3) := by decide +kernel
theorem dX8_search_17 : decode cX8_search 17 = .ok (.ifCond .ne 6, 3) := by decide +kernel
theorem dX8_search_20 : decode cX8_search 20 = .ok (.bipush (-3), 2) := by decide +kernel
theorem dX8_search_22 : decode cX8_search 22 = .ok (.ireturn, 1) := by decide +kernel
theorem dX8_search_23 : decode cX8_search 23 = .ok (.aload_n 0, 1) := by decide +kernel
theorem dX8_search_24 : decode cX8_search 24 = .ok (.iconst 1, 1) := by decide +kernel
theorem dX8_search_25 : decode cX8_search 25 = .ok (.putfield 169, 3) := by decide +kernel
theorem dX8_search_28 : decode cX8_search 28 = .ok (.iconst 0, 1) := by decide +kernel
theorem dX8_search_29 : decode cX8_search 29 = .ok (.istore_n 2, 1) := by decide +kernel
theorem dX8_search_30 : decode cX8_search 30 = .ok (.iload_n 2, 1) := by decide +kernel
theorem dX8_search_31 : decode cX8_search 31 = .ok (.iload_n 1, 1) := by decide +kernel
theorem dX8_search_32 : decode cX8_search 32 = .ok (.if_icmp .ge 20, 3) := by decide +kernel
theorem dX8_search_35 : decode cX8_search 35 = .ok (.aload_n 0, 1) := by decide +kernel
theorem dX8_search_36 : decode cX8_search 36 = .ok (.getfield 237, 3) := by decide +kernel
theorem dX8_search_39 : decode cX8_search 39 = .ok (.ifCond .ne 13, 3) := by decide +kernel
theorem dX8_search_42 : decode cX8_search 42 = .ok (.aload_n 0, 1) := by decide +kernel
theorem dX8_search_43 : decode cX8_search 43 = .ok (.invokevirtual 261, 3) := by decide +kernel
theorem dX8_search_46 : decode cX8_search 46 = .ok (.iinc 2 1, 3) := by decide +kernel
theorem dX8_search_49 : decode cX8_search 49 = .ok (.goto (-19), 3) := by decide +kernel
theorem dX8_search_52 : decode cX8_search 52 = .ok (.aload_n 0, 1) := by decide +kernel
theorem dX8_search_53 : decode cX8_search 53 = .ok (.getfield 237, 3) := by decide +kernel
theorem dX8_search_56 : decode cX8_search 56 = .ok (.ifCond .eq 7, 3) := by decide +kernel
theorem dX8_search_59 : decode cX8_search 59 = .ok (.iconst 1, 1) := by decide +kernel
theorem dX8_search_60 : decode cX8_search 60 = .ok (.goto 4, 3) := by decide +kernel
theorem dX8_search_63 : decode cX8_search 63 = .ok (.iconst 0, 1) := by decide +kernel
theorem dX8_search_64 : decode cX8_search 64 = .ok (.ireturn, 1) := by decide +kernel
theorem dX8_forget_0 : decode cX8_forget 0 = .ok (.aload_n 0, 1) := by decide +kernel
theorem dX8_forget_1 : decode cX8_forget 1 = .ok (.getfield 248, 3) := by decide +kernel
theorem dX8_forget_4 : decode cX8_forget 4 = .ok (.istore_n 1, 1) := by decide +kernel
theorem dX8_forget_5 : decode cX8_forget 5 = .ok (.aload_n 0, 1) := by decide +kernel
theorem dX8_forget_6 : decode cX8_forget 6 = .ok (.iconst 0, 1) := by decide +kernel
theorem dX8_forget_7 : decode cX8_forget 7 = .ok (.putfield 173, 3) := by decide +kernel
theorem dX8_forget_10 : decode cX8_forget 10 = .ok (.aload_n 0, 1) := by decide +kernel
theorem dX8_forget_11 : decode cX8_forget 11 = .ok (.iconst 0, 1) := by decide +kernel
theorem dX8_forget_12 : decode cX8_forget 12 = .ok (.putfield 169, 3) := by decide +kernel
theorem dX8_forget_15 : decode cX8_forget 15 = .ok (.aload_n 0, 1) := by decide +kernel
theorem dX8_forget_16 : decode cX8_forget 16 = .ok (.iconst 0, 1) := by decide +kernel
theorem dX8_forget_17 : decode cX8_forget 17 = .ok (.putfield 237, 3) := by decide +kernel
theorem dX8_forget_20 : decode cX8_forget 20 = .ok (.aload_n 0, 1) := by decide +kernel
theorem dX8_forget_21 : decode cX8_forget 21 = .ok (.iconst 0, 1) := by decide +kernel
theorem dX8_forget_22 : decode cX8_forget 22 = .ok (.putfield 220, 3) := by decide +kernel
theorem dX8_forget_25 : decode cX8_forget 25 = .ok (.aload_n 0, 1) := by decide +kernel
theorem dX8_forget_26 : decode cX8_forget 26 = .ok (.iconst 0, 1) := by decide +kernel
theorem dX8_forget_27 : decode cX8_forget 27 = .ok (.putfield 248, 3) := by decide +kernel
theorem dX8_forget_30 : decode cX8_forget 30 = .ok (.aload_n 0, 1) := by decide +kernel
theorem dX8_forget_31 : decode cX8_forget 31 = .ok (.iconst 0, 1) := by decide +kernel
theorem dX8_forget_32 : decode cX8_forget 32 = .ok (.putfield 216, 3) := by decide +kernel
theorem dX8_forget_35 : decode cX8_forget 35 = .ok (.aload_n 0, 1) := by decide +kernel
theorem dX8_forget_36 : decode cX8_forget 36 = .ok (.iconst 0, 1) := by decide +kernel
theorem dX8_forget_37 : decode cX8_forget 37 = .ok (.putfield 179, 3) := by decide +kernel
theorem dX8_forget_40 : decode cX8_forget 40 = .ok (.aload_n 0, 1) := by decide +kernel
theorem dX8_forget_41 : decode cX8_forget 41 = .ok (.iconst 0, 1) := by decide +kernel
theorem dX8_forget_42 : decode cX8_forget 42 = .ok (.putfield 185, 3) := by decide +kernel
theorem dX8_forget_45 : decode cX8_forget 45 = .ok (.iload_n 1, 1) := by decide +kernel
theorem dX8_forget_46 : decode cX8_forget 46 = .ok (.ireturn, 1) := by decide +kernel
theorem dX8_sizeOf_0 : decode cX8_sizeOf 0 = .ok (.iload_n 1, 1) := by decide +kernel
theorem dX8_sizeOf_1 : decode cX8_sizeOf 1 = .ok (.iconst 2, 1) := by decide +kernel
theorem dX8_sizeOf_2 : decode cX8_sizeOf 2 = .ok (.if_icmp .ge 12, 3) := by decide +kernel
theorem dX8_sizeOf_5 : decode cX8_sizeOf 5 = .ok (.iconst 2, 1) := by decide +kernel
theorem dX8_sizeOf_6 : decode cX8_sizeOf 6 = .ok (.aload_n 0, 1) := by decide +kernel
theorem dX8_sizeOf_7 : decode cX8_sizeOf 7 = .ok (.getfield 109, 3) := by decide +kernel
theorem dX8_sizeOf_10 : decode cX8_sizeOf 10 = .ok (.imul, 1) := by decide +kernel
theorem dX8_sizeOf_11 : decode cX8_sizeOf 11 = .ok (.goto 7, 3) := by decide +kernel
theorem dX8_sizeOf_14 : decode cX8_sizeOf 14 = .ok (.aload_n 0, 1) := by decide +kernel
theorem dX8_sizeOf_15 : decode cX8_sizeOf 15 = .ok (.getfield 109, 3) := by decide +kernel
theorem dX8_sizeOf_18 : decode cX8_sizeOf 18 = .ok (.ireturn, 1) := by decide +kernel
theorem dX8_key_0 : decode cX8_key 0 = .ok (.iload_n 1, 1) := by decide +kernel
theorem dX8_key_1 : decode cX8_key 1 = .ok (.iconst 0, 1) := by decide +kernel
theorem dX8_key_2 : decode cX8_key 2 = .ok (.bipush 6, 2) := by decide +kernel
theorem dX8_key_4 : decode cX8_key 4 = .ok (.invokestatic 257, 3) := by decide +kernel
theorem dX8_key_7 : decode cX8_key 7 = .ok (.ifCond .eq 18, 3) := by decide +kernel
theorem dX8_key_10 : decode cX8_key 10 = .ok (.iload_n 2, 1) := by decide +kernel
theorem dX8_key_11 : decode cX8_key 11 = .ok (.iconst 0, 1) := by decide +kernel
theorem dX8_key_12 : decode cX8_key 12 = .ok (.aload_n 0, 1) := by decide +kernel
theorem dX8_key_13 : decode cX8_key 13 = .ok (.iload_n 1, 1) := by decide +kernel
theorem dX8_key_14 : decode cX8_key 14 = .ok (.invokevirtual 264, 3) := by decide +kernel
theorem dX8_key_17 : decode cX8_key 17 = .ok (.iconst 1, 1) := by decide +kernel
theorem dX8_key_18 : decode cX8_key 18 = .ok (.isub, 1) := by decide +kernel
theorem dX8_key_19 : decode cX8_key 19 = .ok (.invokestatic 257, 3) := by decide +kernel
theorem dX8_key_22 : decode cX8_key 22 = .ok (.ifCond .ne 8, 3) := by decide +kernel
theorem dX8_key_25 : decode cX8_key 25 = .ok (.bipush (-2), 2) := by decide +kernel
theorem dX8_key_27 : decode cX8_key 27 = .ok (.goto 26, 3) := by decide +kernel
theorem dX8_key_30 : decode cX8_key 30 = .ok (.aload_n 0, 1) := by decide +kernel
theorem dX8_key_31 : decode cX8_key 31 = .ok (.getfield 237, 3) := by decide +kernel
theorem dX8_key_34 : decode cX8_key 34 = .ok (.ifCond .ne 8, 3) := by decide +kernel
theorem dX8_key_37 : decode cX8_key 37 = .ok (.bipush (-3), 2) := by decide +kernel
theorem dX8_key_39 : decode cX8_key 39 = .ok (.goto 14, 3) := by decide +kernel
theorem dX8_key_42 : decode cX8_key 42 = .ok (.aload_n 0, 1) := by decide +kernel
theorem dX8_key_43 : decode cX8_key 43 = .ok (.iload_n 1, 1) := by decide +kernel
theorem dX8_key_44 : decode cX8_key 44 = .ok (.aload_n 0, 1) := by decide +kernel
theorem dX8_key_45 : decode cX8_key 45 = .ok (.iload_n 1, 1) := by decide +kernel
theorem dX8_key_46 : decode cX8_key 46 = .ok (.invokevirtual 264, 3) := by decide +kernel
theorem dX8_key_49 : decode cX8_key 49 = .ok (.iload_n 2, 1) := by decide +kernel
theorem dX8_key_50 : decode cX8_key 50 = .ok (.invokevirtual 267, 3) := by decide +kernel
theorem dX8_key_53 : decode cX8_key 53 = .ok (.ireturn, 1) := by decide +kernel
theorem dX8_count_0 : decode cX8_count 0 = .ok (.iload_n 1, 1) := by decide +kernel
theorem dX8_count_1 : decode cX8_count 1 = .ok (.tableswitch 87 0 7 #[47, 52, 57, 62, 67, 72, 77, 82], 47) := by decide +kernel
theorem dX8_count_48 : decode cX8_count 48 = .ok (.aload_n 0, 1) := by decide +kernel
theorem dX8_count_49 : decode cX8_count 49 = .ok (.getfield 109, 3) := by decide +kernel
theorem dX8_count_52 : decode cX8_count 52 = .ok (.ireturn, 1) := by decide +kernel
theorem dX8_count_53 : decode cX8_count 53 = .ok (.aload_n 0, 1) := by decide +kernel
theorem dX8_count_54 : decode cX8_count 54 = .ok (.getfield 113, 3) := by decide +kernel
theorem dX8_count_57 : decode cX8_count 57 = .ok (.ireturn, 1) := by decide +kernel
theorem dX8_count_58 : decode cX8_count 58 = .ok (.aload_n 0, 1) := by decide +kernel
theorem dX8_count_59 : decode cX8_count 59 = .ok (.getfield 173, 3) := by decide +kernel
theorem dX8_count_62 : decode cX8_count 62 = .ok (.ireturn, 1) := by decide +kernel
theorem dX8_count_63 : decode cX8_count 63 = .ok (.aload_n 0, 1) := by decide +kernel
theorem dX8_count_64 : decode cX8_count 64 = .ok (.getfield 248, 3) := by decide +kernel
theorem dX8_count_67 : decode cX8_count 67 = .ok (.ireturn, 1) := by decide +kernel
theorem dX8_count_68 : decode cX8_count 68 = .ok (.aload_n 0, 1) := by decide +kernel
theorem dX8_count_69 : decode cX8_count 69 = .ok (.getfield 216, 3) := by decide +kernel
theorem dX8_count_72 : decode cX8_count 72 = .ok (.ireturn, 1) := by decide +kernel
theorem dX8_count_73 : decode cX8_count 73 = .ok (.aload_n 0, 1) := by decide +kernel
theorem dX8_count_74 : decode cX8_count 74 = .ok (.getfield 271, 3) := by decide +kernel
theorem dX8_count_77 : decode cX8_count 77 = .ok (.ireturn, 1) := by decide +kernel
theorem dX8_count_78 : decode cX8_count 78 = .ok (.aload_n 0, 1) := by decide +kernel
theorem dX8_count_79 : decode cX8_count 79 = .ok (.getfield 274, 3) := by decide +kernel
theorem dX8_count_82 : decode cX8_count 82 = .ok (.ireturn, 1) := by decide +kernel
theorem dX8_count_83 : decode cX8_count 83 = .ok (.aload_n 0, 1) := by decide +kernel
theorem dX8_count_84 : decode cX8_count 84 = .ok (.getfield 277, 3) := by decide +kernel
theorem dX8_count_87 : decode cX8_count 87 = .ok (.ireturn, 1) := by decide +kernel
theorem dX8_count_88 : decode cX8_count 88 = .ok (.bipush (-2), 2) := by decide +kernel
theorem dX8_count_90 : decode cX8_count 90 = .ok (.ireturn, 1) := by decide +kernel
theorem dX8_feed_0 : decode cX8_feed 0 = .ok (.iload_n 3, 1) := by decide +kernel
theorem dX8_feed_1 : decode cX8_feed 1 = .ok (.iconst 1, 1) := by decide +kernel
theorem dX8_feed_2 : decode cX8_feed 2 = .ok (.bipush 8, 2) := by decide +kernel
theorem dX8_feed_4 : decode cX8_feed 4 = .ok (.invokestatic 257, 3) := by decide +kernel
theorem dX8_feed_7 : decode cX8_feed 7 = .ok (.ifCond .ne 6, 3) := by decide +kernel
theorem dX8_feed_10 : decode cX8_feed 10 = .ok (.bipush (-2), 2) := by decide +kernel
theorem dX8_feed_12 : decode cX8_feed 12 = .ok (.ireturn, 1) := by decide +kernel
theorem dX8_feed_13 : decode cX8_feed 13 = .ok (.aload_n 0, 1) := by decide +kernel
theorem dX8_feed_14 : decode cX8_feed 14 = .ok (.getfield 271, 3) := by decide +kernel
theorem dX8_feed_17 : decode cX8_feed 17 = .ok (.iload_n 3, 1) := by decide +kernel
theorem dX8_feed_18 : decode cX8_feed 18 = .ok (.iadd, 1) := by decide +kernel
theorem dX8_feed_19 : decode cX8_feed 19 = .ok (.sipush 300, 3) := by decide +kernel
theorem dX8_feed_22 : decode cX8_feed 22 = .ok (.if_icmp .le 6, 3) := by decide +kernel
theorem dX8_feed_25 : decode cX8_feed 25 = .ok (.bipush (-4), 2) := by decide +kernel
theorem dX8_feed_27 : decode cX8_feed 27 = .ok (.ireturn, 1) := by decide +kernel
theorem dX8_feed_28 : decode cX8_feed 28 = .ok (.iload_n 3, 1) := by decide +kernel
theorem dX8_feed_29 : decode cX8_feed 29 = .ok (.iconst 1, 1) := by decide +kernel
theorem dX8_feed_30 : decode cX8_feed 30 = .ok (.isub, 1) := by decide +kernel
theorem dX8_feed_31 : decode cX8_feed 31 = .ok (.istore 4, 2) := by decide +kernel
theorem dX8_feed_33 : decode cX8_feed 33 = .ok (.iload 4, 2) := by decide +kernel
theorem dX8_feed_35 : decode cX8_feed 35 = .ok (.ifCond .lt 40, 3) := by decide +kernel
theorem dX8_feed_38 : decode cX8_feed 38 = .ok (.aload_n 0, 1) := by decide +kernel
theorem dX8_feed_39 : decode cX8_feed 39 = .ok (.getfield 103, 3) := by decide +kernel
theorem dX8_feed_42 : decode cX8_feed 42 = .ok (.aload_n 0, 1) := by decide +kernel
theorem dX8_feed_43 : decode cX8_feed 43 = .ok (.getfield 271, 3) := by decide +kernel
theorem dX8_feed_46 : decode cX8_feed 46 = .ok (.lload_n 1, 1) := by decide +kernel
theorem dX8_feed_47 : decode cX8_feed 47 = .ok (.bipush 8, 2) := by decide +kernel
theorem dX8_feed_49 : decode cX8_feed 49 = .ok (.iload 4, 2) := by decide +kernel
theorem dX8_feed_51 : decode cX8_feed 51 = .ok (.imul, 1) := by decide +kernel
theorem dX8_feed_52 : decode cX8_feed 52 = .ok (.lshr, 1) := by decide +kernel
theorem dX8_feed_53 : decode cX8_feed 53 = .ok (.l2i, 1) := by decide +kernel
theorem dX8_feed_54 : decode cX8_feed 54 = .ok (.sipush 255, 3) := by decide +kernel
theorem dX8_feed_57 : decode cX8_feed 57 = .ok (.iand, 1) := by decide +kernel
theorem dX8_feed_58 : decode cX8_feed 58 = .ok (.iastore, 1) := by decide +kernel
theorem dX8_feed_59 : decode cX8_feed 59 = .ok (.aload_n 0, 1) := by decide +kernel
theorem dX8_feed_60 : decode cX8_feed 60 = .ok (.dup, 1) := by decide +kernel
theorem dX8_feed_61 : decode cX8_feed 61 = .ok (.getfield 271, 3) := by decide +kernel
theorem dX8_feed_64 : decode cX8_feed 64 = .ok (.iconst 1, 1) := by decide +kernel
theorem dX8_feed_65 : decode cX8_feed 65 = .ok (.iadd, 1) := by decide +kernel
theorem dX8_feed_66 : decode cX8_feed 66 = .ok (.putfield 271, 3) := by decide +kernel
theorem dX8_feed_69 : decode cX8_feed 69 = .ok (.iinc 4 (-1), 3) := by decide +kernel
theorem dX8_feed_72 : decode cX8_feed 72 = .ok (.goto (-39), 3) := by decide +kernel
theorem dX8_feed_75 : decode cX8_feed 75 = .ok (.aload_n 0, 1) := by decide +kernel
theorem dX8_feed_76 : decode cX8_feed 76 = .ok (.getfield 271, 3) := by decide +kernel
theorem dX8_feed_79 : decode cX8_feed 79 = .ok (.ireturn, 1) := by decide +kernel
theorem dX8_cut_0 : decode cX8_cut 0 = .ok (.iload_n 1, 1) := by decide +kernel
theorem dX8_cut_1 : decode cX8_cut 1 = .ok (.iconst 0, 1) := by decide +kernel
theorem dX8_cut_2 : decode cX8_cut 2 = .ok (.aload_n 0, 1) := by decide +kernel
theorem dX8_cut_3 : decode cX8_cut 3 = .ok (.getfield 271, 3) := by decide +kernel
theorem dX8_cut_6 : decode cX8_cut 6 = .ok (.invokestatic 257, 3) := by decide +kernel
theorem dX8_cut_9 : decode cX8_cut 9 = .ok (.ifCond .ne 6, 3) := by decide +kernel
theorem dX8_cut_12 : decode cX8_cut 12 = .ok (.bipush (-2), 2) := by decide +kernel
theorem dX8_cut_14 : decode cX8_cut 14 = .ok (.ireturn, 1) := by decide +kernel
theorem dX8_cut_15 : decode cX8_cut 15 = .ok (.aload_n 0, 1) := by decide +kernel
theorem dX8_cut_16 : decode cX8_cut 16 = .ok (.getfield 271, 3) := by decide +kernel
theorem dX8_cut_19 : decode cX8_cut 19 = .ok (.iload_n 1, 1) := by decide +kernel
theorem dX8_cut_20 : decode cX8_cut 20 = .ok (.isub, 1) := by decide +kernel
theorem dX8_cut_21 : decode cX8_cut 21 = .ok (.istore_n 2, 1) := by decide +kernel
theorem dX8_cut_22 : decode cX8_cut 22 = .ok (.aload_n 0, 1) := by decide +kernel
theorem dX8_cut_23 : decode cX8_cut 23 = .ok (.iload_n 1, 1) := by decide +kernel
theorem dX8_cut_24 : decode cX8_cut 24 = .ok (.putfield 271, 3) := by decide +kernel
theorem dX8_cut_27 : decode cX8_cut 27 = .ok (.iload_n 2, 1) := by decide +kernel
theorem dX8_cut_28 : decode cX8_cut 28 = .ok (.ireturn, 1) := by decide +kernel
theorem dX8_hashesMessage_0 : decode cX8_hashesMessage 0 = .ok (.aload_n 0, 1) := by decide +kernel
theorem dX8_hashesMessage_1 : decode cX8_hashesMessage 1 = .ok (.aload_n 0, 1) := by decide +kernel
theorem dX8_hashesMessage_2 : decode cX8_hashesMessage 2 = .ok (.getfield 271, 3) := by decide +kernel
theorem dX8_hashesMessage_5 : decode cX8_hashesMessage 5 = .ok (.putfield 156, 3) := by decide +kernel
theorem dX8_hashesMessage_8 : decode cX8_hashesMessage 8 = .ok (.iconst 0, 1) := by decide +kernel
theorem dX8_hashesMessage_9 : decode cX8_hashesMessage 9 = .ok (.istore_n 1, 1) := by decide +kernel
theorem dX8_hashesMessage_10 : decode cX8_hashesMessage 10 = .ok (.iload_n 1, 1) := by decide +kernel
theorem dX8_hashesMessage_11 : decode cX8_hashesMessage 11 = .ok (.aload_n 0, 1) := by decide +kernel
theorem dX8_hashesMessage_12 : decode cX8_hashesMessage 12 = .ok (.getfield 271, 3) := by decide +kernel
theorem dX8_hashesMessage_15 : decode cX8_hashesMessage 15 = .ok (.if_icmp .ge 21, 3) := by decide +kernel
theorem dX8_hashesMessage_18 : decode cX8_hashesMessage 18 = .ok (.aload_n 0, 1) := by decide +kernel
theorem dX8_hashesMessage_19 : decode cX8_hashesMessage 19 = .ok (.getfield 13, 3) := by decide +kernel
theorem dX8_hashesMessage_22 : decode cX8_hashesMessage 22 = .ok (.iload_n 1, 1) := by decide +kernel
theorem dX8_hashesMessage_23 : decode cX8_hashesMessage 23 = .ok (.aload_n 0, 1) := by decide +kernel
theorem dX8_hashesMessage_24 : decode cX8_hashesMessage 24 = .ok (.getfield 103, 3) := by decide +kernel
theorem dX8_hashesMessage_27 : decode cX8_hashesMessage 27 = .ok (.iload_n 1, 1) := by decide +kernel
theorem dX8_hashesMessage_28 : decode cX8_hashesMessage 28 = .ok (.iaload, 1) := by decide +kernel
theorem dX8_hashesMessage_29 : decode cX8_hashesMessage 29 = .ok (.iastore, 1) := by decide +kernel
theorem dX8_hashesMessage_30 : decode cX8_hashesMessage 30 = .ok (.iinc 1 1, 3) := by decide +kernel
theorem dX8_hashesMessage_33 : decode cX8_hashesMessage 33 = .ok (.goto (-23), 3) := by decide +kernel
theorem dX8_hashesMessage_36 : decode cX8_hashesMessage 36 = .ok (.aload_n 0, 1) := by decide +kernel
theorem dX8_hashesMessage_37 : decode cX8_hashesMessage 37 = .ok (.invokevirtual 182, 3) := by decide +kernel
theorem dX8_hashesMessage_40 : decode cX8_hashesMessage 40 = .ok (.return_, 1) := by decide +kernel
theorem dX8_hash_0 : decode cX8_hash 0 = .ok (.iload_n 1, 1) := by decide +kernel
theorem dX8_hash_1 : decode cX8_hash 1 = .ok (.iconst 0, 1) := by decide +kernel
theorem dX8_hash_2 : decode cX8_hash 2 = .ok (.bipush 31, 2) := by decide +kernel
theorem dX8_hash_4 : decode cX8_hash 4 = .ok (.invokestatic 257, 3) := by decide +kernel
theorem dX8_hash_7 : decode cX8_hash 7 = .ok (.ifCond .ne 6, 3) := by decide +kernel
theorem dX8_hash_10 : decode cX8_hash 10 = .ok (.bipush (-2), 2) := by decide +kernel
theorem dX8_hash_12 : decode cX8_hash 12 = .ok (.ireturn, 1) := by decide +kernel
theorem dX8_hash_13 : decode cX8_hash 13 = .ok (.aload_n 0, 1) := by decide +kernel
theorem dX8_hash_14 : decode cX8_hash 14 = .ok (.invokevirtual 280, 3) := by decide +kernel
theorem dX8_hash_17 : decode cX8_hash 17 = .ok (.aload_n 0, 1) := by decide +kernel
theorem dX8_hash_18 : decode cX8_hash 18 = .ok (.iload_n 1, 1) := by decide +kernel
theorem dX8_hash_19 : decode cX8_hash 19 = .ok (.invokevirtual 188, 3) := by decide +kernel
theorem dX8_hash_22 : decode cX8_hash 22 = .ok (.ireturn, 1) := by decide +kernel
theorem dX8_encodes_0 : decode cX8_encodes 0 = .ok (.iconst 2, 1) := by decide +kernel
theorem dX8_encodes_1 : decode cX8_encodes 1 = .ok (.aload_n 0, 1) := by decide +kernel
theorem dX8_encodes_2 : decode cX8_encodes 2 = .ok (.getfield 109, 3) := by decide +kernel
theorem dX8_encodes_5 : decode cX8_encodes 5 = .ok (.imul, 1) := by decide +kernel
theorem dX8_encodes_6 : decode cX8_encodes 6 = .ok (.istore_n 1, 1) := by decide +kernel
theorem dX8_encodes_7 : decode cX8_encodes 7 = .ok (.aload_n 0, 1) := by decide +kernel
theorem dX8_encodes_8 : decode cX8_encodes 8 = .ok (.invokevirtual 280, 3) := by decide +kernel
theorem dX8_encodes_11 : decode cX8_encodes 11 = .ok (.aload_n 0, 1) := by decide +kernel
theorem dX8_encodes_12 : decode cX8_encodes 12 = .ok (.bipush 18, 2) := by decide +kernel
theorem dX8_encodes_14 : decode cX8_encodes 14 = .ok (.invokevirtual 116, 3) := by decide +kernel
theorem dX8_encodes_17 : decode cX8_encodes 17 = .ok (.iconst 0, 1) := by decide +kernel
theorem dX8_encodes_18 : decode cX8_encodes 18 = .ok (.istore_n 2, 1) := by decide +kernel
theorem dX8_encodes_19 : decode cX8_encodes 19 = .ok (.iload_n 2, 1) := by decide +kernel
theorem dX8_encodes_20 : decode cX8_encodes 20 = .ok (.iload_n 1, 1) := by decide +kernel
theorem dX8_encodes_21 : decode cX8_encodes 21 = .ok (.if_icmp .ge 82, 3) := by decide +kernel
theorem dX8_encodes_24 : decode cX8_encodes 24 = .ok (.iload_n 2, 1) := by decide +kernel
theorem dX8_encodes_25 : decode cX8_encodes 25 = .ok (.ifCond .ne 7, 3) := by decide +kernel
theorem dX8_encodes_28 : decode cX8_encodes 28 = .ok (.iconst 0, 1) := by decide +kernel
theorem dX8_encodes_29 : decode cX8_encodes 29 = .ok (.goto 58, 3) := by decide +kernel
theorem dX8_encodes_32 : decode cX8_encodes 32 = .ok (.iload_n 2, 1) := by decide +kernel
theorem dX8_encodes_33 : decode cX8_encodes 33 = .ok (.iconst 1, 1) := by decide +kernel
theorem dX8_encodes_34 : decode cX8_encodes 34 = .ok (.if_icmp .ne 7, 3) := by decide +kernel
theorem dX8_encodes_37 : decode cX8_encodes 37 = .ok (.iconst 1, 1) := by decide +kernel
theorem dX8_encodes_38 : decode cX8_encodes 38 = .ok (.goto 49, 3) := by decide +kernel
theorem dX8_encodes_41 : decode cX8_encodes 41 = .ok (.iload_n 2, 1) := by decide +kernel
theorem dX8_encodes_42 : decode cX8_encodes 42 = .ok (.iload_n 1, 1) := by decide +kernel
theorem dX8_encodes_43 : decode cX8_encodes 43 = .ok (.bipush 52, 2) := by decide +kernel
theorem dX8_encodes_45 : decode cX8_encodes 45 = .ok (.isub, 1) := by decide +kernel
theorem dX8_encodes_46 : decode cX8_encodes 46 = .ok (.if_icmp .ge 9, 3) := by decide +kernel
theorem dX8_encodes_49 : decode cX8_encodes 49 = .ok (.sipush 255, 3) := by decide +kernel
theorem dX8_encodes_52 : decode cX8_encodes 52 = .ok (.goto 35, 3) := by decide +kernel
theorem dX8_encodes_55 : decode cX8_encodes 55 = .ok (.iload_n 2, 1) := by decide +kernel
theorem dX8_encodes_56 : decode cX8_encodes 56 = .ok (.iload_n 1, 1) := by decide +kernel
theorem dX8_encodes_57 : decode cX8_encodes 57 = .ok (.bipush 32, 2) := by decide +kernel
theorem dX8_encodes_59 : decode cX8_encodes 59 = .ok (.isub, 1) := by decide +kernel
theorem dX8_encodes_60 : decode cX8_encodes 60 = .ok (.if_icmp .ge 17, 3) := by decide +kernel
theorem dX8_encodes_63 : decode cX8_encodes 63 = .ok (.aload_n 0, 1) := by decide +kernel
theorem dX8_encodes_64 : decode cX8_encodes 64 = .ok (.getfield 106, 3) := by decide +kernel
theorem dX8_encodes_67 : decode cX8_encodes 67 = .ok (.iload_n 2, 1) := by decide +kernel
theorem dX8_encodes_68 : decode cX8_encodes 68 = .ok (.iload_n 1, 1) := by decide +kernel
theorem dX8_encodes_69 : decode cX8_encodes 69 = .ok (.isub, 1) := by decide +kernel
theorem dX8_encodes_70 : decode cX8_encodes 70 = .ok (.bipush 52, 2) := by decide +kernel
theorem dX8_encodes_72 : decode cX8_encodes 72 = .ok (.iadd, 1) := by decide +kernel
theorem dX8_encodes_73 : decode cX8_encodes 73 = .ok (.iaload, 1) := by decide +kernel
theorem dX8_encodes_74 : decode cX8_encodes 74 = .ok (.goto 13, 3) := by decide +kernel
theorem dX8_encodes_77 : decode cX8_encodes 77 = .ok (.aload_n 0, 1) := by decide +kernel
theorem dX8_encodes_78 : decode cX8_encodes 78 = .ok (.iload_n 2, 1) := by decide +kernel
theorem dX8_encodes_79 : decode cX8_encodes 79 = .ok (.iload_n 1, 1) := by decide +kernel
theorem dX8_encodes_80 : decode cX8_encodes 80 = .ok (.isub, 1) := by decide +kernel
theorem dX8_encodes_81 : decode cX8_encodes 81 = .ok (.bipush 32, 2) := by decide +kernel
theorem dX8_encodes_83 : decode cX8_encodes 83 = .ok (.iadd, 1) := by decide +kernel
theorem dX8_encodes_84 : decode cX8_encodes 84 = .ok (.invokevirtual 188, 3) := by decide +kernel
theorem dX8_encodes_87 : decode cX8_encodes 87 = .ok (.istore_n 3, 1) := by decide +kernel
theorem dX8_encodes_88 : decode cX8_encodes 88 = .ok (.aload_n 0, 1) := by decide +kernel
theorem dX8_encodes_89 : decode cX8_encodes 89 = .ok (.bipush 18, 2) := by decide +kernel
theorem dX8_encodes_91 : decode cX8_encodes 91 = .ok (.iload_n 1, 1) := by decide +kernel
theorem dX8_encodes_92 : decode cX8_encodes 92 = .ok (.iload_n 2, 1) := by decide +kernel
theorem dX8_encodes_93 : decode cX8_encodes 93 = .ok (.iload_n 3, 1) := by decide +kernel
theorem dX8_encodes_94 : decode cX8_encodes 94 = .ok (.invokevirtual 244, 3) := by decide +kernel
theorem dX8_encodes_97 : decode cX8_encodes 97 = .ok (.iinc 2 1, 3) := by decide +kernel
theorem dX8_encodes_100 : decode cX8_encodes 100 = .ok (.goto (-81), 3) := by decide +kernel
theorem dX8_encodes_103 : decode cX8_encodes 103 = .ok (.return_, 1) := by decide +kernel
theorem dX8_encoded_0 : decode cX8_encoded 0 = .ok (.iload_n 1, 1) := by decide +kernel
theorem dX8_encoded_1 : decode cX8_encoded 1 = .ok (.iconst 0, 1) := by decide +kernel
theorem dX8_encoded_2 : decode cX8_encoded 2 = .ok (.iconst 2, 1) := by decide +kernel
theorem dX8_encoded_3 : decode cX8_encoded 3 = .ok (.aload_n 0, 1) := by decide +kernel
theorem dX8_encoded_4 : decode cX8_encoded 4 = .ok (.getfield 109, 3) := by decide +kernel
theorem dX8_encoded_7 : decode cX8_encoded 7 = .ok (.imul, 1) := by decide +kernel
theorem dX8_encoded_8 : decode cX8_encoded 8 = .ok (.iconst 1, 1) := by decide +kernel
theorem dX8_encoded_9 : decode cX8_encoded 9 = .ok (.isub, 1) := by decide +kernel
theorem dX8_encoded_10 : decode cX8_encoded 10 = .ok (.invokestatic 257, 3) := by decide +kernel
theorem dX8_encoded_13 : decode cX8_encoded 13 = .ok (.ifCond .ne 6, 3) := by decide +kernel
theorem dX8_encoded_16 : decode cX8_encoded 16 = .ok (.bipush (-2), 2) := by decide +kernel
theorem dX8_encoded_18 : decode cX8_encoded 18 = .ok (.ireturn, 1) := by decide +kernel
theorem dX8_encoded_19 : decode cX8_encoded 19 = .ok (.aload_n 0, 1) := by decide +kernel
theorem dX8_encoded_20 : decode cX8_encoded 20 = .ok (.invokevirtual 283, 3) := by decide +kernel
theorem dX8_encoded_23 : decode cX8_encoded 23 = .ok (.aload_n 0, 1) := by decide +kernel
theorem dX8_encoded_24 : decode cX8_encoded 24 = .ok (.bipush 18, 2) := by decide +kernel
theorem dX8_encoded_26 : decode cX8_encoded 26 = .ok (.iconst 2, 1) := by decide +kernel
theorem dX8_encoded_27 : decode cX8_encoded 27 = .ok (.aload_n 0, 1) := by decide +kernel
theorem dX8_encoded_28 : decode cX8_encoded 28 = .ok (.getfield 109, 3) := by decide +kernel
theorem dX8_encoded_31 : decode cX8_encoded 31 = .ok (.imul, 1) := by decide +kernel
theorem dX8_encoded_32 : decode cX8_encoded 32 = .ok (.iload_n 1, 1) := by decide +kernel
theorem dX8_encoded_33 : decode cX8_encoded 33 = .ok (.invokevirtual 267, 3) := by decide +kernel
theorem dX8_encoded_36 : decode cX8_encoded 36 = .ok (.ireturn, 1) := by decide +kernel
theorem dX8_sign_0 : decode cX8_sign 0 = .ok (.aload_n 0, 1) := by decide +kernel
theorem dX8_sign_1 : decode cX8_sign 1 = .ok (.getfield 237, 3) := by decide +kernel
theorem dX8_sign_4 : decode cX8_sign 4 = .ok (.ifCond .ne 6, 3) := by decide +kernel
theorem dX8_sign_7 : decode cX8_sign 7 = .ok (.bipush (-3), 2) := by decide +kernel
theorem dX8_sign_9 : decode cX8_sign 9 = .ok (.ireturn, 1) := by decide +kernel
theorem dX8_sign_10 : decode cX8_sign 10 = .ok (.aload_n 0, 1) := by decide +kernel
theorem dX8_sign_11 : decode cX8_sign 11 = .ok (.dup, 1) := by decide +kernel
theorem dX8_sign_12 : decode cX8_sign 12 = .ok (.getfield 274, 3) := by decide +kernel
theorem dX8_sign_15 : decode cX8_sign 15 = .ok (.iconst 1, 1) := by decide +kernel
theorem dX8_sign_16 : decode cX8_sign 16 = .ok (.iadd, 1) := by decide +kernel
theorem dX8_sign_17 : decode cX8_sign 17 = .ok (.putfield 274, 3) := by decide +kernel
theorem dX8_sign_20 : decode cX8_sign 20 = .ok (.aload_n 0, 1) := by decide +kernel
theorem dX8_sign_21 : decode cX8_sign 21 = .ok (.invokevirtual 283, 3) := by decide +kernel
theorem dX8_sign_24 : decode cX8_sign 24 = .ok (.aload_n 0, 1) := by decide +kernel
theorem dX8_sign_25 : decode cX8_sign 25 = .ok (.bipush 18, 2) := by decide +kernel
theorem dX8_sign_27 : decode cX8_sign 27 = .ok (.iconst 5, 1) := by decide +kernel
theorem dX8_sign_28 : decode cX8_sign 28 = .ok (.iconst 3, 1) := by decide +kernel
theorem dX8_sign_29 : decode cX8_sign 29 = .ok (.invokevirtual 194, 3) := by decide +kernel
theorem dX8_sign_32 : decode cX8_sign 32 = .ok (.aload_n 0, 1) := by decide +kernel
theorem dX8_sign_33 : decode cX8_sign 33 = .ok (.bipush 16, 2) := by decide +kernel
theorem dX8_sign_35 : decode cX8_sign 35 = .ok (.bipush 10, 2) := by decide +kernel
theorem dX8_sign_37 : decode cX8_sign 37 = .ok (.invokevirtual 139, 3) := by decide +kernel
theorem dX8_sign_40 : decode cX8_sign 40 = .ok (.aload_n 0, 1) := by decide +kernel
theorem dX8_sign_41 : decode cX8_sign 41 = .ok (.bipush 18, 2) := by decide +kernel
theorem dX8_sign_43 : decode cX8_sign 43 = .ok (.iconst 4, 1) := by decide +kernel
theorem dX8_sign_44 : decode cX8_sign 44 = .ok (.iconst 2, 1) := by decide +kernel
theorem dX8_sign_45 : decode cX8_sign 45 = .ok (.invokevirtual 194, 3) := by decide +kernel
theorem dX8_sign_48 : decode cX8_sign 48 = .ok (.aload_n 0, 1) := by decide +kernel
theorem dX8_sign_49 : decode cX8_sign 49 = .ok (.bipush 15, 2) := by decide +kernel
theorem dX8_sign_51 : decode cX8_sign 51 = .ok (.bipush 10, 2) := by decide +kernel
theorem dX8_sign_53 : decode cX8_sign 53 = .ok (.invokevirtual 139, 3) := by decide +kernel
theorem dX8_sign_56 : decode cX8_sign 56 = .ok (.aload_n 0, 1) := by decide +kernel
theorem dX8_sign_57 : decode cX8_sign 57 = .ok (.bipush 13, 2) := by decide +kernel
theorem dX8_sign_59 : decode cX8_sign 59 = .ok (.bipush 16, 2) := by decide +kernel
theorem dX8_sign_61 : decode cX8_sign 61 = .ok (.invokevirtual 139, 3) := by decide +kernel
theorem dX8_sign_64 : decode cX8_sign 64 = .ok (.aload_n 0, 1) := by decide +kernel
theorem dX8_sign_65 : decode cX8_sign 65 = .ok (.bipush 13, 2) := by decide +kernel
theorem dX8_sign_67 : decode cX8_sign 67 = .ok (.iconst 2, 1) := by decide +kernel
theorem dX8_sign_68 : decode cX8_sign 68 = .ok (.invokevirtual 142, 3) := by decide +kernel
theorem dX8_sign_71 : decode cX8_sign 71 = .ok (.aload_n 0, 1) := by decide +kernel
theorem dX8_sign_72 : decode cX8_sign 72 = .ok (.bipush 15, 2) := by decide +kernel
theorem dX8_sign_74 : decode cX8_sign 74 = .ok (.bipush 13, 2) := by decide +kernel
theorem dX8_sign_76 : decode cX8_sign 76 = .ok (.invokevirtual 200, 3) := by decide +kernel
theorem dX8_sign_79 : decode cX8_sign 79 = .ok (.ifCond .ge 10, 3) := by decide +kernel
theorem dX8_sign_82 : decode cX8_sign 82 = .ok (.aload_n 0, 1) := by decide +kernel
theorem dX8_sign_83 : decode cX8_sign 83 = .ok (.bipush 15, 2) := by decide +kernel
theorem dX8_sign_85 : decode cX8_sign 85 = .ok (.iconst 2, 1) := by decide +kernel
theorem dX8_sign_86 : decode cX8_sign 86 = .ok (.invokevirtual 286, 3) := by decide +kernel
theorem dX8_sign_89 : decode cX8_sign 89 = .ok (.aload_n 0, 1) := by decide +kernel
theorem dX8_sign_90 : decode cX8_sign 90 = .ok (.bipush 15, 2) := by decide +kernel
theorem dX8_sign_92 : decode cX8_sign 92 = .ok (.bipush 13, 2) := by decide +kernel
theorem dX8_sign_94 : decode cX8_sign 94 = .ok (.invokevirtual 289, 3) := by decide +kernel
theorem dX8_sign_97 : decode cX8_sign 97 = .ok (.aload_n 0, 1) := by decide +kernel
theorem dX8_sign_98 : decode cX8_sign 98 = .ok (.bipush 11, 2) := by decide +kernel
theorem dX8_sign_100 : decode cX8_sign 100 = .ok (.bipush 6, 2) := by decide +kernel
theorem dX8_sign_102 : decode cX8_sign 102 = .ok (.bipush 15, 2) := by decide +kernel
theorem dX8_sign_104 : decode cX8_sign 104 = .ok (.invokevirtual 148, 3) := by decide +kernel
theorem dX8_sign_107 : decode cX8_sign 107 = .ok (.aload_n 0, 1) := by decide +kernel
theorem dX8_sign_108 : decode cX8_sign 108 = .ok (.bipush 11, 2) := by decide +kernel
theorem dX8_sign_110 : decode cX8_sign 110 = .ok (.iconst 2, 1) := by decide +kernel
theorem dX8_sign_111 : decode cX8_sign 111 = .ok (.invokevirtual 142, 3) := by decide +kernel
theorem dX8_sign_114 : decode cX8_sign 114 = .ok (.aload_n 0, 1) := by decide +kernel
theorem dX8_sign_115 : decode cX8_sign 115 = .ok (.bipush 15, 2) := by decide +kernel
theorem dX8_sign_117 : decode cX8_sign 117 = .ok (.bipush 11, 2) := by decide +kernel
theorem dX8_sign_119 : decode cX8_sign 119 = .ok (.invokevirtual 139, 3) := by decide +kernel
theorem dX8_sign_122 : decode cX8_sign 122 = .ok (.aload_n 0, 1) := by decide +kernel
theorem dX8_sign_123 : decode cX8_sign 123 = .ok (.bipush 11, 2) := by decide +kernel
theorem dX8_sign_125 : decode cX8_sign 125 = .ok (.bipush 15, 2) := by decide +kernel
theorem dX8_sign_127 : decode cX8_sign 127 = .ok (.iconst 3, 1) := by decide +kernel
theorem dX8_sign_128 : decode cX8_sign 128 = .ok (.invokevirtual 148, 3) := by decide +kernel
theorem dX8_sign_131 : decode cX8_sign 131 = .ok (.aload_n 0, 1) := by decide +kernel
theorem dX8_sign_132 : decode cX8_sign 132 = .ok (.bipush 11, 2) := by decide +kernel
theorem dX8_sign_134 : decode cX8_sign 134 = .ok (.bipush 16, 2) := by decide +kernel
theorem dX8_sign_136 : decode cX8_sign 136 = .ok (.invokevirtual 286, 3) := by decide +kernel
theorem dX8_sign_139 : decode cX8_sign 139 = .ok (.aload_n 0, 1) := by decide +kernel
theorem dX8_sign_140 : decode cX8_sign 140 = .ok (.bipush 7, 2) := by decide +kernel
theorem dX8_sign_142 : decode cX8_sign 142 = .ok (.bipush 11, 2) := by decide +kernel
theorem dX8_sign_144 : decode cX8_sign 144 = .ok (.invokevirtual 139, 3) := by decide +kernel
theorem dX8_sign_147 : decode cX8_sign 147 = .ok (.iconst 1, 1) := by decide +kernel
theorem dX8_sign_148 : decode cX8_sign 148 = .ok (.ireturn, 1) := by decide +kernel
theorem dX8_exponentE_0 : decode cX8_exponentE 0 = .ok (.aload_n 0, 1) := by decide +kernel
theorem dX8_exponentE_1 : decode cX8_exponentE 1 = .ok (.bipush 17, 2) := by decide +kernel
theorem dX8_exponentE_3 : decode cX8_exponentE 3 = .ok (.invokevirtual 116, 3) := by decide +kernel
theorem dX8_exponentE_6 : decode cX8_exponentE 6 = .ok (.aload_n 0, 1) := by decide +kernel
theorem dX8_exponentE_7 : decode cX8_exponentE 7 = .ok (.getfield 7, 3) := by decide +kernel
theorem dX8_exponentE_10 : decode cX8_exponentE 10 = .ok (.sipush 1428, 3) := by decide +kernel
theorem dX8_exponentE_13 : decode cX8_exponentE 13 = .ok (.iconst 1, 1) := by decide +kernel
theorem dX8_exponentE_14 : decode cX8_exponentE 14 = .ok (.iastore, 1) := by decide +kernel
theorem dX8_exponentE_15 : decode cX8_exponentE 15 = .ok (.aload_n 0, 1) := by decide +kernel
theorem dX8_exponentE_16 : decode cX8_exponentE 16 = .ok (.getfield 7, 3) := by decide +kernel
theorem dX8_exponentE_19 : decode cX8_exponentE 19 = .ok (.sipush 1429, 3) := by decide +kernel
theorem dX8_exponentE_22 : decode cX8_exponentE 22 = .ok (.iconst 1, 1) := by decide +kernel
theorem dX8_exponentE_23 : decode cX8_exponentE 23 = .ok (.iastore, 1) := by decide +kernel
theorem dX8_exponentE_24 : decode cX8_exponentE 24 = .ok (.return_, 1) := by decide +kernel
theorem dX8_verify_0 : decode cX8_verify 0 = .ok (.aload_n 0, 1) := by decide +kernel
theorem dX8_verify_1 : decode cX8_verify 1 = .ok (.getfield 237, 3) := by decide +kernel
theorem dX8_verify_4 : decode cX8_verify 4 = .ok (.ifCond .ne 6, 3) := by decide +kernel
theorem dX8_verify_7 : decode cX8_verify 7 = .ok (.bipush (-3), 2) := by decide +kernel
theorem dX8_verify_9 : decode cX8_verify 9 = .ok (.ireturn, 1) := by decide +kernel
theorem dX8_verify_10 : decode cX8_verify 10 = .ok (.aload_n 0, 1) := by decide +kernel
theorem dX8_verify_11 : decode cX8_verify 11 = .ok (.dup, 1) := by decide +kernel
theorem dX8_verify_12 : decode cX8_verify 12 = .ok (.getfield 277, 3) := by decide +kernel
theorem dX8_verify_15 : decode cX8_verify 15 = .ok (.iconst 1, 1) := by decide +kernel
theorem dX8_verify_16 : decode cX8_verify 16 = .ok (.iadd, 1) := by decide +kernel
theorem dX8_verify_17 : decode cX8_verify 17 = .ok (.putfield 277, 3) := by decide +kernel
theorem dX8_verify_20 : decode cX8_verify 20 = .ok (.aload_n 0, 1) := by decide +kernel
theorem dX8_verify_21 : decode cX8_verify 21 = .ok (.bipush 7, 2) := by decide +kernel
theorem dX8_verify_23 : decode cX8_verify 23 = .ok (.iconst 0, 1) := by decide +kernel
theorem dX8_verify_24 : decode cX8_verify 24 = .ok (.invokevirtual 200, 3) := by decide +kernel
theorem dX8_verify_27 : decode cX8_verify 27 = .ok (.ifCond .lt 5, 3) := by decide +kernel
theorem dX8_verify_30 : decode cX8_verify 30 = .ok (.iconst 0, 1) := by decide +kernel
theorem dX8_verify_31 : decode cX8_verify 31 = .ok (.ireturn, 1) := by decide +kernel
theorem dX8_verify_32 : decode cX8_verify 32 = .ok (.aload_n 0, 1) := by decide +kernel
theorem dX8_verify_33 : decode cX8_verify 33 = .ok (.invokevirtual 292, 3) := by decide +kernel
theorem dX8_verify_36 : decode cX8_verify 36 = .ok (.aload_n 0, 1) := by decide +kernel
theorem dX8_verify_37 : decode cX8_verify 37 = .ok (.bipush 7, 2) := by decide +kernel
theorem dX8_verify_39 : decode cX8_verify 39 = .ok (.bipush 17, 2) := by decide +kernel
theorem dX8_verify_41 : decode cX8_verify 41 = .ok (.iconst 0, 1) := by decide +kernel
theorem dX8_verify_42 : decode cX8_verify 42 = .ok (.invokevirtual 194, 3) := by decide +kernel
theorem dX8_verify_45 : decode cX8_verify 45 = .ok (.aload_n 0, 1) := by decide +kernel
theorem dX8_verify_46 : decode cX8_verify 46 = .ok (.invokevirtual 283, 3) := by decide +kernel
theorem dX8_verify_49 : decode cX8_verify 49 = .ok (.aload_n 0, 1) := by decide +kernel
theorem dX8_verify_50 : decode cX8_verify 50 = .ok (.bipush 10, 2) := by decide +kernel
theorem dX8_verify_52 : decode cX8_verify 52 = .ok (.bipush 18, 2) := by decide +kernel
theorem dX8_verify_54 : decode cX8_verify 54 = .ok (.invokevirtual 200, 3) := by decide +kernel
theorem dX8_verify_57 : decode cX8_verify 57 = .ok (.ifCond .ne 7, 3) := by decide +kernel
theorem dX8_verify_60 : decode cX8_verify 60 = .ok (.iconst 1, 1) := by decide +kernel
theorem dX8_verify_61 : decode cX8_verify 61 = .ok (.goto 4, 3) := by decide +kernel
theorem dX8_verify_64 : decode cX8_verify 64 = .ok (.iconst 0, 1) := by decide +kernel
theorem dX8_verify_65 : decode cX8_verify 65 = .ok (.ireturn, 1) := by decide +kernel
theorem dX8_power_0 : decode cX8_power 0 = .ok (.aload_n 0, 1) := by decide +kernel
theorem dX8_power_1 : decode cX8_power 1 = .ok (.getfield 237, 3) := by decide +kernel
theorem dX8_power_4 : decode cX8_power 4 = .ok (.ifCond .eq 13, 3) := by decide +kernel
theorem dX8_power_7 : decode cX8_power 7 = .ok (.aload_n 0, 1) := by decide +kernel
theorem dX8_power_8 : decode cX8_power 8 = .ok (.bipush 7, 2) := by decide +kernel
theorem dX8_power_10 : decode cX8_power 10 = .ok (.iconst 0, 1) := by decide +kernel
theorem dX8_power_11 : decode cX8_power 11 = .ok (.invokevirtual 200, 3) := by decide +kernel
theorem dX8_power_14 : decode cX8_power 14 = .ok (.ifCond .lt 6, 3) := by decide +kernel
theorem dX8_power_17 : decode cX8_power 17 = .ok (.bipush (-3), 2) := by decide +kernel
theorem dX8_power_19 : decode cX8_power 19 = .ok (.ireturn, 1) := by decide +kernel
theorem dX8_power_20 : decode cX8_power 20 = .ok (.aload_n 0, 1) := by decide +kernel
theorem dX8_power_21 : decode cX8_power 21 = .ok (.invokevirtual 292, 3) := by decide +kernel
theorem dX8_power_24 : decode cX8_power 24 = .ok (.aload_n 0, 1) := by decide +kernel
theorem dX8_power_25 : decode cX8_power 25 = .ok (.bipush 7, 2) := by decide +kernel
theorem dX8_power_27 : decode cX8_power 27 = .ok (.iload_n 1, 1) := by decide +kernel
theorem dX8_power_28 : decode cX8_power 28 = .ok (.ifCond .eq 8, 3) := by decide +kernel
theorem dX8_power_31 : decode cX8_power 31 = .ok (.bipush 17, 2) := by decide +kernel
theorem dX8_power_33 : decode cX8_power 33 = .ok (.goto 4, 3) := by decide +kernel
theorem dX8_power_36 : decode cX8_power 36 = .ok (.iconst 1, 1) := by decide +kernel
theorem dX8_power_37 : decode cX8_power 37 = .ok (.iconst 0, 1) := by decide +kernel
theorem dX8_power_38 : decode cX8_power 38 = .ok (.invokevirtual 194, 3) := by decide +kernel
theorem dX8_power_41 : decode cX8_power 41 = .ok (.aload_n 0, 1) := by decide +kernel
theorem dX8_power_42 : decode cX8_power 42 = .ok (.bipush 7, 2) := by decide +kernel
theorem dX8_power_44 : decode cX8_power 44 = .ok (.bipush 10, 2) := by decide +kernel
theorem dX8_power_46 : decode cX8_power 46 = .ok (.invokevirtual 139, 3) := by decide +kernel
theorem dX8_power_49 : decode cX8_power 49 = .ok (.iconst 1, 1) := by decide +kernel
theorem dX8_power_50 : decode cX8_power 50 = .ok (.ireturn, 1) := by decide +kernel
theorem dX8_encode_0 : decode cX8_encode 0 = .ok (.aload_n 0, 1) := by decide +kernel
theorem dX8_encode_1 : decode cX8_encode 1 = .ok (.invokevirtual 283, 3) := by decide +kernel
theorem dX8_encode_4 : decode cX8_encode 4 = .ok (.aload_n 0, 1) := by decide +kernel
theorem dX8_encode_5 : decode cX8_encode 5 = .ok (.bipush 7, 2) := by decide +kernel
theorem dX8_encode_7 : decode cX8_encode 7 = .ok (.bipush 18, 2) := by decide +kernel
theorem dX8_encode_9 : decode cX8_encode 9 = .ok (.invokevirtual 139, 3) := by decide +kernel
theorem dX8_encode_12 : decode cX8_encode 12 = .ok (.iconst 1, 1) := by decide +kernel
theorem dX8_encode_13 : decode cX8_encode 13 = .ok (.ireturn, 1) := by decide +kernel
theorem dX8_set_0 : decode cX8_set 0 = .ok (.iload_n 1, 1) := by decide +kernel
theorem dX8_set_1 : decode cX8_set 1 = .ok (.iconst 0, 1) := by decide +kernel
theorem dX8_set_2 : decode cX8_set 2 = .ok (.iconst 2, 1) := by decide +kernel
theorem dX8_set_3 : decode cX8_set 3 = .ok (.aload_n 0, 1) := by decide +kernel
theorem dX8_set_4 : decode cX8_set 4 = .ok (.getfield 109, 3) := by decide +kernel
theorem dX8_set_7 : decode cX8_set 7 = .ok (.imul, 1) := by decide +kernel
theorem dX8_set_8 : decode cX8_set 8 = .ok (.iconst 1, 1) := by decide +kernel
theorem dX8_set_9 : decode cX8_set 9 = .ok (.isub, 1) := by decide +kernel
theorem dX8_set_10 : decode cX8_set 10 = .ok (.invokestatic 257, 3) := by decide +kernel
theorem dX8_set_13 : decode cX8_set 13 = .ok (.ifCond .eq 14, 3) := by decide +kernel
theorem dX8_set_16 : decode cX8_set 16 = .ok (.iload_n 2, 1) := by decide +kernel
theorem dX8_set_17 : decode cX8_set 17 = .ok (.iconst 0, 1) := by decide +kernel
theorem dX8_set_18 : decode cX8_set 18 = .ok (.sipush 255, 3) := by decide +kernel
theorem dX8_set_21 : decode cX8_set 21 = .ok (.invokestatic 257, 3) := by decide +kernel
theorem dX8_set_24 : decode cX8_set 24 = .ok (.ifCond .ne 6, 3) := by decide +kernel
theorem dX8_set_27 : decode cX8_set 27 = .ok (.bipush (-2), 2) := by decide +kernel
theorem dX8_set_29 : decode cX8_set 29 = .ok (.ireturn, 1) := by decide +kernel
theorem dX8_set_30 : decode cX8_set 30 = .ok (.aload_n 0, 1) := by decide +kernel
theorem dX8_set_31 : decode cX8_set 31 = .ok (.bipush 7, 2) := by decide +kernel
theorem dX8_set_33 : decode cX8_set 33 = .ok (.iconst 2, 1) := by decide +kernel
theorem dX8_set_34 : decode cX8_set 34 = .ok (.aload_n 0, 1) := by decide +kernel
theorem dX8_set_35 : decode cX8_set 35 = .ok (.getfield 109, 3) := by decide +kernel
theorem dX8_set_38 : decode cX8_set 38 = .ok (.imul, 1) := by decide +kernel
theorem dX8_set_39 : decode cX8_set 39 = .ok (.iload_n 1, 1) := by decide +kernel
theorem dX8_set_40 : decode cX8_set 40 = .ok (.invokevirtual 267, 3) := by decide +kernel
theorem dX8_set_43 : decode cX8_set 43 = .ok (.istore_n 3, 1) := by decide +kernel
theorem dX8_set_44 : decode cX8_set 44 = .ok (.aload_n 0, 1) := by decide +kernel
theorem dX8_set_45 : decode cX8_set 45 = .ok (.bipush 7, 2) := by decide +kernel
theorem dX8_set_47 : decode cX8_set 47 = .ok (.iconst 2, 1) := by decide +kernel
theorem dX8_set_48 : decode cX8_set 48 = .ok (.aload_n 0, 1) := by decide +kernel
theorem dX8_set_49 : decode cX8_set 49 = .ok (.getfield 109, 3) := by decide +kernel
theorem dX8_set_52 : decode cX8_set 52 = .ok (.imul, 1) := by decide +kernel
theorem dX8_set_53 : decode cX8_set 53 = .ok (.iload_n 1, 1) := by decide +kernel
theorem dX8_set_54 : decode cX8_set 54 = .ok (.iload_n 2, 1) := by decide +kernel
theorem dX8_set_55 : decode cX8_set 55 = .ok (.invokevirtual 244, 3) := by decide +kernel
theorem dX8_set_58 : decode cX8_set 58 = .ok (.iload_n 3, 1) := by decide +kernel
theorem dX8_set_59 : decode cX8_set 59 = .ok (.ireturn, 1) := by decide +kernel
theorem dX8_get_0 : decode cX8_get 0 = .ok (.iload_n 1, 1) := by decide +kernel
theorem dX8_get_1 : decode cX8_get 1 = .ok (.iconst 0, 1) := by decide +kernel
theorem dX8_get_2 : decode cX8_get 2 = .ok (.iconst 2, 1) := by decide +kernel
theorem dX8_get_3 : decode cX8_get 3 = .ok (.aload_n 0, 1) := by decide +kernel
theorem dX8_get_4 : decode cX8_get 4 = .ok (.getfield 109, 3) := by decide +kernel
theorem dX8_get_7 : decode cX8_get 7 = .ok (.imul, 1) := by decide +kernel
theorem dX8_get_8 : decode cX8_get 8 = .ok (.iconst 1, 1) := by decide +kernel
theorem dX8_get_9 : decode cX8_get 9 = .ok (.isub, 1) := by decide +kernel
theorem dX8_get_10 : decode cX8_get 10 = .ok (.invokestatic 257, 3) := by decide +kernel
theorem dX8_get_13 : decode cX8_get 13 = .ok (.ifCond .eq 19, 3) := by decide +kernel
theorem dX8_get_16 : decode cX8_get 16 = .ok (.aload_n 0, 1) := by decide +kernel
theorem dX8_get_17 : decode cX8_get 17 = .ok (.bipush 7, 2) := by decide +kernel
theorem dX8_get_19 : decode cX8_get 19 = .ok (.iconst 2, 1) := by decide +kernel
theorem dX8_get_20 : decode cX8_get 20 = .ok (.aload_n 0, 1) := by decide +kernel
theorem dX8_get_21 : decode cX8_get 21 = .ok (.getfield 109, 3) := by decide +kernel
theorem dX8_get_24 : decode cX8_get 24 = .ok (.imul, 1) := by decide +kernel
theorem dX8_get_25 : decode cX8_get 25 = .ok (.iload_n 1, 1) := by decide +kernel
theorem dX8_get_26 : decode cX8_get 26 = .ok (.invokevirtual 267, 3) := by decide +kernel
theorem dX8_get_29 : decode cX8_get 29 = .ok (.goto 5, 3) := by decide +kernel
theorem dX8_get_32 : decode cX8_get 32 = .ok (.bipush (-2), 2) := by decide +kernel
theorem dX8_get_34 : decode cX8_get 34 = .ok (.ireturn, 1) := by decide +kernel
theorem dX8_mixed_0 : decode cX8_mixed 0 = .ok (.lload_n 1, 1) := by decide +kernel
theorem dX8_mixed_1 : decode cX8_mixed 1 = .ok (.lstore 5, 2) := by decide +kernel
theorem dX8_mixed_3 : decode cX8_mixed 3 = .ok (.iconst 0, 1) := by decide +kernel
theorem dX8_mixed_4 : decode cX8_mixed 4 = .ok (.istore 7, 2) := by decide +kernel
theorem dX8_mixed_6 : decode cX8_mixed 6 = .ok (.iload 7, 2) := by decide +kernel
theorem dX8_mixed_8 : decode cX8_mixed 8 = .ok (.iload 4, 2) := by decide +kernel
theorem dX8_mixed_10 : decode cX8_mixed 10 = .ok (.if_icmp .ge 28, 3) := by decide +kernel
theorem dX8_mixed_13 : decode cX8_mixed 13 = .ok (.ldc2_w 295, 3) := by decide +kernel
theorem dX8_mixed_16 : decode cX8_mixed 16 = .ok (.lload 5, 2) := by decide +kernel
theorem dX8_mixed_18 : decode cX8_mixed 18 = .ok (.lmul, 1) := by decide +kernel
theorem dX8_mixed_19 : decode cX8_mixed 19 = .ok (.aload_n 0, 1) := by decide +kernel
theorem dX8_mixed_20 : decode cX8_mixed 20 = .ok (.iload_n 3, 1) := by decide +kernel
theorem dX8_mixed_21 : decode cX8_mixed 21 = .ok (.iload 4, 2) := by decide +kernel
theorem dX8_mixed_23 : decode cX8_mixed 23 = .ok (.iload 7, 2) := by decide +kernel
theorem dX8_mixed_25 : decode cX8_mixed 25 = .ok (.invokevirtual 267, 3) := by decide +kernel
theorem dX8_mixed_28 : decode cX8_mixed 28 = .ok (.i2l, 1) := by decide +kernel
theorem dX8_mixed_29 : decode cX8_mixed 29 = .ok (.ladd, 1) := by decide +kernel
theorem dX8_mixed_30 : decode cX8_mixed 30 = .ok (.lstore 5, 2) := by decide +kernel
theorem dX8_mixed_32 : decode cX8_mixed 32 = .ok (.iinc 7 1, 3) := by decide +kernel
theorem dX8_mixed_35 : decode cX8_mixed 35 = .ok (.goto (-29), 3) := by decide +kernel
theorem dX8_mixed_38 : decode cX8_mixed 38 = .ok (.lload 5, 2) := by decide +kernel
theorem dX8_mixed_40 : decode cX8_mixed 40 = .ok (.lreturn, 1) := by decide +kernel
theorem dX8_digest_0 : decode cX8_digest 0 = .ok (.aload_n 0, 1) := by decide +kernel
theorem dX8_digest_1 : decode cX8_digest 1 = .ok (.ldc2_w 297, 3) := by decide +kernel
theorem dX8_digest_4 : decode cX8_digest 4 = .ok (.bipush 7, 2) := by decide +kernel
theorem dX8_digest_6 : decode cX8_digest 6 = .ok (.iconst 2, 1) := by decide +kernel
theorem dX8_digest_7 : decode cX8_digest 7 = .ok (.aload_n 0, 1) := by decide +kernel
theorem dX8_digest_8 : decode cX8_digest 8 = .ok (.getfield 109, 3) := by decide +kernel
theorem dX8_digest_11 : decode cX8_digest 11 = .ok (.imul, 1) := by decide +kernel
theorem dX8_digest_12 : decode cX8_digest 12 = .ok (.invokevirtual 299, 3) := by decide +kernel
theorem dX8_digest_15 : decode cX8_digest 15 = .ok (.lstore_n 1, 1) := by decide +kernel
theorem dX8_digest_16 : decode cX8_digest 16 = .ok (.iconst 0, 1) := by decide +kernel
theorem dX8_digest_17 : decode cX8_digest 17 = .ok (.istore_n 3, 1) := by decide +kernel
theorem dX8_digest_18 : decode cX8_digest 18 = .ok (.iload_n 3, 1) := by decide +kernel
theorem dX8_digest_19 : decode cX8_digest 19 = .ok (.bipush 6, 2) := by decide +kernel
theorem dX8_digest_21 : decode cX8_digest 21 = .ok (.if_icmp .gt 28, 3) := by decide +kernel
theorem dX8_digest_24 : decode cX8_digest 24 = .ok (.aload_n 0, 1) := by decide +kernel
theorem dX8_digest_25 : decode cX8_digest 25 = .ok (.getfield 237, 3) := by decide +kernel
theorem dX8_digest_28 : decode cX8_digest 28 = .ok (.ifCond .eq 21, 3) := by decide +kernel
theorem dX8_digest_31 : decode cX8_digest 31 = .ok (.aload_n 0, 1) := by decide +kernel
theorem dX8_digest_32 : decode cX8_digest 32 = .ok (.lload_n 1, 1) := by decide +kernel
theorem dX8_digest_33 : decode cX8_digest 33 = .ok (.iload_n 3, 1) := by decide +kernel
theorem dX8_digest_34 : decode cX8_digest 34 = .ok (.aload_n 0, 1) := by decide +kernel
theorem dX8_digest_35 : decode cX8_digest 35 = .ok (.iload_n 3, 1) := by decide +kernel
theorem dX8_digest_36 : decode cX8_digest 36 = .ok (.invokevirtual 264, 3) := by decide +kernel
theorem dX8_digest_39 : decode cX8_digest 39 = .ok (.invokevirtual 299, 3) := by decide +kernel
theorem dX8_digest_42 : decode cX8_digest 42 = .ok (.lstore_n 1, 1) := by decide +kernel
theorem dX8_digest_43 : decode cX8_digest 43 = .ok (.iinc 3 1, 3) := by decide +kernel
theorem dX8_digest_46 : decode cX8_digest 46 = .ok (.goto (-28), 3) := by decide +kernel
theorem dX8_digest_49 : decode cX8_digest 49 = .ok (.iconst 2, 1) := by decide +kernel
theorem dX8_digest_50 : decode cX8_digest 50 = .ok (.istore_n 3, 1) := by decide +kernel
theorem dX8_digest_51 : decode cX8_digest 51 = .ok (.iload_n 3, 1) := by decide +kernel
theorem dX8_digest_52 : decode cX8_digest 52 = .ok (.bipush 8, 2) := by decide +kernel
theorem dX8_digest_54 : decode cX8_digest 54 = .ok (.if_icmp .ge 22, 3) := by decide +kernel
theorem dX8_digest_57 : decode cX8_digest 57 = .ok (.ldc2_w 295, 3) := by decide +kernel
theorem dX8_digest_60 : decode cX8_digest 60 = .ok (.lload_n 1, 1) := by decide +kernel
theorem dX8_digest_61 : decode cX8_digest 61 = .ok (.lmul, 1) := by decide +kernel
theorem dX8_digest_62 : decode cX8_digest 62 = .ok (.aload_n 0, 1) := by decide +kernel
theorem dX8_digest_63 : decode cX8_digest 63 = .ok (.iload_n 3, 1) := by decide +kernel
theorem dX8_digest_64 : decode cX8_digest 64 = .ok (.invokevirtual 303, 3) := by decide +kernel
theorem dX8_digest_67 : decode cX8_digest 67 = .ok (.i2l, 1) := by decide +kernel
theorem dX8_digest_68 : decode cX8_digest 68 = .ok (.ladd, 1) := by decide +kernel
theorem dX8_digest_69 : decode cX8_digest 69 = .ok (.lstore_n 1, 1) := by decide +kernel
theorem dX8_digest_70 : decode cX8_digest 70 = .ok (.iinc 3 1, 3) := by decide +kernel
theorem dX8_digest_73 : decode cX8_digest 73 = .ok (.goto (-22), 3) := by decide +kernel
theorem dX8_digest_76 : decode cX8_digest 76 = .ok (.lload_n 1, 1) := by decide +kernel
theorem dX8_digest_77 : decode cX8_digest 77 = .ok (.lreturn, 1) := by decide +kernel
theorem dJ6_numberOfLeadingZeros_0f7a4_0 : decode cJ6_numberOfLeadingZeros_0f7a4 0 = .ok (.iload_n 0, 1) := by decide +kernel
theorem dJ6_numberOfLeadingZeros_0f7a4_1 : decode cJ6_numberOfLeadingZeros_0f7a4 1 = .ok (.ifCond .gt 14, 3) := by decide +kernel
theorem dJ6_numberOfLeadingZeros_0f7a4_4 : decode cJ6_numberOfLeadingZeros_0f7a4 4 = .ok (.iload_n 0, 1) := by decide +kernel
theorem dJ6_numberOfLeadingZeros_0f7a4_5 : decode cJ6_numberOfLeadingZeros_0f7a4 5 = .ok (.ifCond .ne 8, 3) := by decide +kernel
theorem dJ6_numberOfLeadingZeros_0f7a4_8 : decode cJ6_numberOfLeadingZeros_0f7a4 8 = .ok (.bipush 32, 2) := by decide +kernel
theorem dJ6_numberOfLeadingZeros_0f7a4_10 : decode cJ6_numberOfLeadingZeros_0f7a4 10 = .ok (.goto 4, 3) := by decide +kernel
theorem dJ6_numberOfLeadingZeros_0f7a4_13 : decode cJ6_numberOfLeadingZeros_0f7a4 13 = .ok (.iconst 0, 1) := by decide +kernel
theorem dJ6_numberOfLeadingZeros_0f7a4_14 : decode cJ6_numberOfLeadingZeros_0f7a4 14 = .ok (.ireturn, 1) := by decide +kernel
theorem dJ6_numberOfLeadingZeros_0f7a4_15 : decode cJ6_numberOfLeadingZeros_0f7a4 15 = .ok (.bipush 31, 2) := by decide +kernel
theorem dJ6_numberOfLeadingZeros_0f7a4_17 : decode cJ6_numberOfLeadingZeros_0f7a4 17 = .ok (.istore_n 1, 1) := by decide +kernel
theorem dJ6_numberOfLeadingZeros_0f7a4_18 : decode cJ6_numberOfLeadingZeros_0f7a4 18 = .ok (.iload_n 0, 1) := by decide +kernel
theorem dJ6_numberOfLeadingZeros_0f7a4_19 : decode cJ6_numberOfLeadingZeros_0f7a4 19 = .ok (.ldc_w 264, 3) := by decide +kernel
theorem dJ6_numberOfLeadingZeros_0f7a4_22 : decode cJ6_numberOfLeadingZeros_0f7a4 22 = .ok (.if_icmp .lt 11, 3) := by decide +kernel
theorem dJ6_numberOfLeadingZeros_0f7a4_25 : decode cJ6_numberOfLeadingZeros_0f7a4 25 = .ok (.iinc 1 (-16), 3) := by decide +kernel
theorem dJ6_numberOfLeadingZeros_0f7a4_28 : decode cJ6_numberOfLeadingZeros_0f7a4 28 = .ok (.iload_n 0, 1) := by decide +kernel
theorem dJ6_numberOfLeadingZeros_0f7a4_29 : decode cJ6_numberOfLeadingZeros_0f7a4 29 = .ok (.bipush 16, 2) := by decide +kernel
theorem dJ6_numberOfLeadingZeros_0f7a4_31 : decode cJ6_numberOfLeadingZeros_0f7a4 31 = .ok (.iushr, 1) := by decide +kernel
theorem dJ6_numberOfLeadingZeros_0f7a4_32 : decode cJ6_numberOfLeadingZeros_0f7a4 32 = .ok (.istore_n 0, 1) := by decide +kernel
theorem dJ6_numberOfLeadingZeros_0f7a4_33 : decode cJ6_numberOfLeadingZeros_0f7a4 33 = .ok (.iload_n 0, 1) := by decide +kernel
theorem dJ6_numberOfLeadingZeros_0f7a4_34 : decode cJ6_numberOfLeadingZeros_0f7a4 34 = .ok (.sipush 256, 3) := by decide +kernel
theorem dJ6_numberOfLeadingZeros_0f7a4_37 : decode cJ6_numberOfLeadingZeros_0f7a4 37 = .ok (.if_icmp .lt 11, 3) := by decide +kernel
theorem dJ6_numberOfLeadingZeros_0f7a4_40 : decode cJ6_numberOfLeadingZeros_0f7a4 40 = .ok (.iinc 1 (-8), 3) := by decide +kernel
theorem dJ6_numberOfLeadingZeros_0f7a4_43 : decode cJ6_numberOfLeadingZeros_0f7a4 43 = .ok (.iload_n 0, 1) := by decide +kernel
theorem dJ6_numberOfLeadingZeros_0f7a4_44 : decode cJ6_numberOfLeadingZeros_0f7a4 44 = .ok (.bipush 8, 2) := by decide +kernel
theorem dJ6_numberOfLeadingZeros_0f7a4_46 : decode cJ6_numberOfLeadingZeros_0f7a4 46 = .ok (.iushr, 1) := by decide +kernel
theorem dJ6_numberOfLeadingZeros_0f7a4_47 : decode cJ6_numberOfLeadingZeros_0f7a4 47 = .ok (.istore_n 0, 1) := by decide +kernel
theorem dJ6_numberOfLeadingZeros_0f7a4_48 : decode cJ6_numberOfLeadingZeros_0f7a4 48 = .ok (.iload_n 0, 1) := by decide +kernel
theorem dJ6_numberOfLeadingZeros_0f7a4_49 : decode cJ6_numberOfLeadingZeros_0f7a4 49 = .ok (.bipush 16, 2) := by decide +kernel
theorem dJ6_numberOfLeadingZeros_0f7a4_51 : decode cJ6_numberOfLeadingZeros_0f7a4 51 = .ok (.if_icmp .lt 10, 3) := by decide +kernel
theorem dJ6_numberOfLeadingZeros_0f7a4_54 : decode cJ6_numberOfLeadingZeros_0f7a4 54 = .ok (.iinc 1 (-4), 3) := by decide +kernel
theorem dJ6_numberOfLeadingZeros_0f7a4_57 : decode cJ6_numberOfLeadingZeros_0f7a4 57 = .ok (.iload_n 0, 1) := by decide +kernel
theorem dJ6_numberOfLeadingZeros_0f7a4_58 : decode cJ6_numberOfLeadingZeros_0f7a4 58 = .ok (.iconst 4, 1) := by decide +kernel
theorem dJ6_numberOfLeadingZeros_0f7a4_59 : decode cJ6_numberOfLeadingZeros_0f7a4 59 = .ok (.iushr, 1) := by decide +kernel
theorem dJ6_numberOfLeadingZeros_0f7a4_60 : decode cJ6_numberOfLeadingZeros_0f7a4 60 = .ok (.istore_n 0, 1) := by decide +kernel
theorem dJ6_numberOfLeadingZeros_0f7a4_61 : decode cJ6_numberOfLeadingZeros_0f7a4 61 = .ok (.iload_n 0, 1) := by decide +kernel
theorem dJ6_numberOfLeadingZeros_0f7a4_62 : decode cJ6_numberOfLeadingZeros_0f7a4 62 = .ok (.iconst 4, 1) := by decide +kernel
theorem dJ6_numberOfLeadingZeros_0f7a4_63 : decode cJ6_numberOfLeadingZeros_0f7a4 63 = .ok (.if_icmp .lt 10, 3) := by decide +kernel
theorem dJ6_numberOfLeadingZeros_0f7a4_66 : decode cJ6_numberOfLeadingZeros_0f7a4 66 = .ok (.iinc 1 (-2), 3) := by decide +kernel
theorem dJ6_numberOfLeadingZeros_0f7a4_69 : decode cJ6_numberOfLeadingZeros_0f7a4 69 = .ok (.iload_n 0, 1) := by decide +kernel
theorem dJ6_numberOfLeadingZeros_0f7a4_70 : decode cJ6_numberOfLeadingZeros_0f7a4 70 = .ok (.iconst 2, 1) := by decide +kernel
theorem dJ6_numberOfLeadingZeros_0f7a4_71 : decode cJ6_numberOfLeadingZeros_0f7a4 71 = .ok (.iushr, 1) := by decide +kernel
theorem dJ6_numberOfLeadingZeros_0f7a4_72 : decode cJ6_numberOfLeadingZeros_0f7a4 72 = .ok (.istore_n 0, 1) := by decide +kernel
theorem dJ6_numberOfLeadingZeros_0f7a4_73 : decode cJ6_numberOfLeadingZeros_0f7a4 73 = .ok (.iload_n 1, 1) := by decide +kernel
theorem dJ6_numberOfLeadingZeros_0f7a4_74 : decode cJ6_numberOfLeadingZeros_0f7a4 74 = .ok (.iload_n 0, 1) := by decide +kernel
theorem dJ6_numberOfLeadingZeros_0f7a4_75 : decode cJ6_numberOfLeadingZeros_0f7a4 75 = .ok (.iconst 1, 1) := by decide +kernel
theorem dJ6_numberOfLeadingZeros_0f7a4_76 : decode cJ6_numberOfLeadingZeros_0f7a4 76 = .ok (.iushr, 1) := by decide +kernel
theorem dJ6_numberOfLeadingZeros_0f7a4_77 : decode cJ6_numberOfLeadingZeros_0f7a4 77 = .ok (.isub, 1) := by decide +kernel
theorem dJ6_numberOfLeadingZeros_0f7a4_78 : decode cJ6_numberOfLeadingZeros_0f7a4 78 = .ok (.ireturn, 1) := by decide +kernel
theorem dJ6_rotateRight_7cf53_0 : decode cJ6_rotateRight_7cf53 0 = .ok (.iload_n 0, 1) := by decide +kernel
theorem dJ6_rotateRight_7cf53_1 : decode cJ6_rotateRight_7cf53 1 = .ok (.iload_n 1, 1) := by decide +kernel
theorem dJ6_rotateRight_7cf53_2 : decode cJ6_rotateRight_7cf53 2 = .ok (.iushr, 1) := by decide +kernel
theorem dJ6_rotateRight_7cf53_3 : decode cJ6_rotateRight_7cf53 3 = .ok (.iload_n 0, 1) := by decide +kernel
theorem dJ6_rotateRight_7cf53_4 : decode cJ6_rotateRight_7cf53 4 = .ok (.iload_n 1, 1) := by decide +kernel
theorem dJ6_rotateRight_7cf53_5 : decode cJ6_rotateRight_7cf53 5 = .ok (.ineg, 1) := by decide +kernel
theorem dJ6_rotateRight_7cf53_6 : decode cJ6_rotateRight_7cf53 6 = .ok (.ishl, 1) := by decide +kernel
theorem dJ6_rotateRight_7cf53_7 : decode cJ6_rotateRight_7cf53 7 = .ok (.ior, 1) := by decide +kernel
theorem dJ6_rotateRight_7cf53_8 : decode cJ6_rotateRight_7cf53 8 = .ok (.ireturn, 1) := by decide +kernel
theorem dJ13_numberOfLeadingZeros_95d88_0 : decode cJ13_numberOfLeadingZeros_95d88 0 = .ok (.lload_n 0, 1) := by decide +kernel
theorem dJ13_numberOfLeadingZeros_95d88_1 : decode cJ13_numberOfLeadingZeros_95d88 1 = .ok (.bipush 32, 2) := by decide +kernel
theorem dJ13_numberOfLeadingZeros_95d88_3 : decode cJ13_numberOfLeadingZeros_95d88 3 = .ok (.lushr, 1) := by decide +kernel
theorem dJ13_numberOfLeadingZeros_95d88_4 : decode cJ13_numberOfLeadingZeros_95d88 4 = .ok (.l2i, 1) := by decide +kernel
theorem dJ13_numberOfLeadingZeros_95d88_5 : decode cJ13_numberOfLeadingZeros_95d88 5 = .ok (.istore_n 2, 1) := by decide +kernel
theorem dJ13_numberOfLeadingZeros_95d88_6 : decode cJ13_numberOfLeadingZeros_95d88 6 = .ok (.iload_n 2, 1) := by decide +kernel
theorem dJ13_numberOfLeadingZeros_95d88_7 : decode cJ13_numberOfLeadingZeros_95d88 7 = .ok (.ifCond .ne 14, 3) := by decide +kernel
theorem dJ13_numberOfLeadingZeros_95d88_10 : decode cJ13_numberOfLeadingZeros_95d88 10 = .ok (.bipush 32, 2) := by decide +kernel
theorem dJ13_numberOfLeadingZeros_95d88_12 : decode cJ13_numberOfLeadingZeros_95d88 12 = .ok (.lload_n 0, 1) := by decide +kernel
theorem dJ13_numberOfLeadingZeros_95d88_13 : decode cJ13_numberOfLeadingZeros_95d88 13 = .ok (.l2i, 1) := by decide +kernel
theorem dJ13_numberOfLeadingZeros_95d88_14 : decode cJ13_numberOfLeadingZeros_95d88 14 = .ok (.invokestatic 308, 3) := by decide +kernel
theorem dJ13_numberOfLeadingZeros_95d88_17 : decode cJ13_numberOfLeadingZeros_95d88 17 = .ok (.iadd, 1) := by decide +kernel
theorem dJ13_numberOfLeadingZeros_95d88_18 : decode cJ13_numberOfLeadingZeros_95d88 18 = .ok (.goto 7, 3) := by decide +kernel
theorem dJ13_numberOfLeadingZeros_95d88_21 : decode cJ13_numberOfLeadingZeros_95d88 21 = .ok (.iload_n 2, 1) := by decide +kernel
theorem dJ13_numberOfLeadingZeros_95d88_22 : decode cJ13_numberOfLeadingZeros_95d88 22 = .ok (.invokestatic 308, 3) := by decide +kernel
theorem dJ13_numberOfLeadingZeros_95d88_25 : decode cJ13_numberOfLeadingZeros_95d88 25 = .ok (.ireturn, 1) := by decide +kernel
theorem dJ9_max_7cf53_0 : decode cJ9_max_7cf53 0 = .ok (.iload_n 0, 1) := by decide +kernel
theorem dJ9_max_7cf53_1 : decode cJ9_max_7cf53 1 = .ok (.iload_n 1, 1) := by decide +kernel
theorem dJ9_max_7cf53_2 : decode cJ9_max_7cf53 2 = .ok (.if_icmp .lt 7, 3) := by decide +kernel
theorem dJ9_max_7cf53_5 : decode cJ9_max_7cf53 5 = .ok (.iload_n 0, 1) := by decide +kernel
theorem dJ9_max_7cf53_6 : decode cJ9_max_7cf53 6 = .ok (.goto 4, 3) := by decide +kernel
theorem dJ9_max_7cf53_9 : decode cJ9_max_7cf53 9 = .ok (.iload_n 1, 1) := by decide +kernel
theorem dJ9_max_7cf53_10 : decode cJ9_max_7cf53 10 = .ok (.ireturn, 1) := by decide +kernel
theorem dJ9_min_7cf53_0 : decode cJ9_min_7cf53 0 = .ok (.iload_n 0, 1) := by decide +kernel
theorem dJ9_min_7cf53_1 : decode cJ9_min_7cf53 1 = .ok (.iload_n 1, 1) := by decide +kernel
theorem dJ9_min_7cf53_2 : decode cJ9_min_7cf53 2 = .ok (.if_icmp .gt 7, 3) := by decide +kernel
theorem dJ9_min_7cf53_5 : decode cJ9_min_7cf53 5 = .ok (.iload_n 0, 1) := by decide +kernel
theorem dJ9_min_7cf53_6 : decode cJ9_min_7cf53 6 = .ok (.goto 4, 3) := by decide +kernel
theorem dJ9_min_7cf53_9 : decode cJ9_min_7cf53 9 = .ok (.iload_n 1, 1) := by decide +kernel
theorem dJ9_min_7cf53_10 : decode cJ9_min_7cf53 10 = .ok (.ireturn, 1) := by decide +kernel
theorem dJ7_fill_d0a16_0 : decode cJ7_fill_d0a16 0 = .ok (.iconst 0, 1) := by decide +kernel
theorem dJ7_fill_d0a16_1 : decode cJ7_fill_d0a16 1 = .ok (.istore_n 3, 1) := by decide +kernel
theorem dJ7_fill_d0a16_2 : decode cJ7_fill_d0a16 2 = .ok (.aload_n 0, 1) := by decide +kernel
theorem dJ7_fill_d0a16_3 : decode cJ7_fill_d0a16 3 = .ok (.arraylength, 1) := by decide +kernel
theorem dJ7_fill_d0a16_4 : decode cJ7_fill_d0a16 4 = .ok (.istore 4, 2) := by decide +kernel
theorem dJ7_fill_d0a16_6 : decode cJ7_fill_d0a16 6 = .ok (.iload_n 3, 1) := by decide +kernel
theorem dJ7_fill_d0a16_7 : decode cJ7_fill_d0a16 7 = .ok (.iload 4, 2) := by decide +kernel
theorem dJ7_fill_d0a16_9 : decode cJ7_fill_d0a16 9 = .ok (.if_icmp .ge 13, 3) := by decide +kernel
theorem dJ7_fill_d0a16_12 : decode cJ7_fill_d0a16 12 = .ok (.aload_n 0, 1) := by decide +kernel
theorem dJ7_fill_d0a16_13 : decode cJ7_fill_d0a16 13 = .ok (.iload_n 3, 1) := by decide +kernel
theorem dJ7_fill_d0a16_14 : decode cJ7_fill_d0a16 14 = .ok (.lload_n 1, 1) := by decide +kernel
theorem dJ7_fill_d0a16_15 : decode cJ7_fill_d0a16 15 = .ok (.lastore, 1) := by decide +kernel
theorem dJ7_fill_d0a16_16 : decode cJ7_fill_d0a16 16 = .ok (.iinc 3 1, 3) := by decide +kernel
theorem dJ7_fill_d0a16_19 : decode cJ7_fill_d0a16 19 = .ok (.goto (-13), 3) := by decide +kernel
theorem dJ7_fill_d0a16_22 : decode cJ7_fill_d0a16 22 = .ok (.return_, 1) := by decide +kernel
theorem dL_cell_0 : decode cL_cell 0 = .ok (.iload_n 1, 1) := by decide +kernel
theorem dL_cell_1 : decode cL_cell 1 = .ok (.aload_n 0, 1) := by decide +kernel
theorem dL_cell_2 : decode cL_cell 2 = .ok (.arraylength, 1) := by decide +kernel
theorem dL_cell_3 : decode cL_cell 3 = .ok (.if_icmp .ge 9, 3) := by decide +kernel
theorem dL_cell_6 : decode cL_cell 6 = .ok (.aload_n 0, 1) := by decide +kernel
theorem dL_cell_7 : decode cL_cell 7 = .ok (.iload_n 1, 1) := by decide +kernel
theorem dL_cell_8 : decode cL_cell 8 = .ok (.iaload, 1) := by decide +kernel
theorem dL_cell_9 : decode cL_cell 9 = .ok (.goto 4, 3) := by decide +kernel
theorem dL_cell_12 : decode cL_cell 12 = .ok (.iconst 0, 1) := by decide +kernel
theorem dL_cell_13 : decode cL_cell 13 = .ok (.ireturn, 1) := by decide +kernel
theorem dL_law_0 : decode cL_law 0 = .ok (.new 7, 3) := by decide +kernel
theorem dL_law_3 : decode cL_law 3 = .ok (.dup, 1) := by decide +kernel
theorem dL_law_4 : decode cL_law 4 = .ok (.aload_n 0, 1) := by decide +kernel
theorem dL_law_5 : decode cL_law 5 = .ok (.iconst 0, 1) := by decide +kernel
theorem dL_law_6 : decode cL_law 6 = .ok (.invokestatic 9, 3) := by decide +kernel
theorem dL_law_9 : decode cL_law 9 = .ok (.aload_n 0, 1) := by decide +kernel
theorem dL_law_10 : decode cL_law 10 = .ok (.iconst 1, 1) := by decide +kernel
theorem dL_law_11 : decode cL_law 11 = .ok (.invokestatic 9, 3) := by decide +kernel
theorem dL_law_14 : decode cL_law 14 = .ok (.invokespecial 15, 3) := by decide +kernel
theorem dL_law_17 : decode cL_law 17 = .ok (.astore_n 1, 1) := by decide +kernel
theorem dL_law_18 : decode cL_law 18 = .ok (.new 18, 3) := by decide +kernel
theorem dL_law_21 : decode cL_law 21 = .ok (.dup, 1) := by decide +kernel
theorem dL_law_22 : decode cL_law 22 = .ok (.aload_n 0, 1) := by decide +kernel
theorem dL_law_23 : decode cL_law 23 = .ok (.iconst 0, 1) := by decide +kernel
theorem dL_law_24 : decode cL_law 24 = .ok (.invokestatic 9, 3) := by decide +kernel
theorem dL_law_27 : decode cL_law 27 = .ok (.aload_n 0, 1) := by decide +kernel
theorem dL_law_28 : decode cL_law 28 = .ok (.iconst 1, 1) := by decide +kernel
theorem dL_law_29 : decode cL_law 29 = .ok (.invokestatic 9, 3) := by decide +kernel
theorem dL_law_32 : decode cL_law 32 = .ok (.invokespecial 20, 3) := by decide +kernel
theorem dL_law_35 : decode cL_law 35 = .ok (.astore_n 2, 1) := by decide +kernel
theorem dL_law_36 : decode cL_law 36 = .ok (.iconst 2, 1) := by decide +kernel
theorem dL_law_37 : decode cL_law 37 = .ok (.istore_n 3, 1) := by decide +kernel
theorem dL_law_38 : decode cL_law 38 = .ok (.iload_n 3, 1) := by decide +kernel
theorem dL_law_39 : decode cL_law 39 = .ok (.aload_n 0, 1) := by decide +kernel
theorem dL_law_40 : decode cL_law 40 = .ok (.arraylength, 1) := by decide +kernel
theorem dL_law_41 : decode cL_law 41 = .ok (.iconst 4, 1) := by decide +kernel
theorem dL_law_42 : decode cL_law 42 = .ok (.isub, 1) := by decide +kernel
theorem dL_law_43 : decode cL_law 43 = .ok (.if_icmp .gt 490, 3) := by decide +kernel
theorem dL_law_46 : decode cL_law 46 = .ok (.aload_n 0, 1) := by decide +kernel
theorem dL_law_47 : decode cL_law 47 = .ok (.iload_n 3, 1) := by decide +kernel
theorem dL_law_48 : decode cL_law 48 = .ok (.iaload, 1) := by decide +kernel
theorem dL_law_49 : decode cL_law 49 = .ok (.bipush 15, 2) := by decide +kernel
theorem dL_law_51 : decode cL_law 51 = .ok (.iand, 1) := by decide +kernel
theorem dL_law_52 : decode cL_law 52 = .ok (.tableswitch 475 0 15 #[80, 103, 126, 139, 172, 195, 258, 281, 304, 327, 340, 353, 392, 405, 438, 461], 80) := by decide +kernel
theorem dL_law_132 : decode cL_law 132 = .ok (.aload_n 1, 1) := by decide +kernel
theorem dL_law_133 : decode cL_law 133 = .ok (.aload_n 0, 1) := by decide +kernel
theorem dL_law_134 : decode cL_law 134 = .ok (.iload_n 3, 1) := by decide +kernel
theorem dL_law_135 : decode cL_law 135 = .ok (.iconst 1, 1) := by decide +kernel
theorem dL_law_136 : decode cL_law 136 = .ok (.iadd, 1) := by decide +kernel
theorem dL_law_137 : decode cL_law 137 = .ok (.iaload, 1) := by decide +kernel
theorem dL_law_138 : decode cL_law 138 = .ok (.invokevirtual 21, 3) := by decide +kernel
theorem dL_law_141 : decode cL_law 141 = .ok (.aload_n 2, 1) := by decide +kernel
theorem dL_law_142 : decode cL_law 142 = .ok (.aload_n 0, 1) := by decide +kernel
theorem dL_law_143 : decode cL_law 143 = .ok (.iload_n 3, 1) := by decide +kernel
theorem dL_law_144 : decode cL_law 144 = .ok (.iconst 1, 1) := by decide +kernel
theorem dL_law_145 : decode cL_law 145 = .ok (.iadd, 1) := by decide +kernel
theorem dL_law_146 : decode cL_law 146 = .ok (.iaload, 1) := by decide +kernel
theorem dL_law_147 : decode cL_law 147 = .ok (.invokevirtual 25, 3) := by decide +kernel
theorem dL_law_150 : decode cL_law 150 = .ok (.if_icmp .eq 377, 3) := by decide +kernel
theorem dL_law_153 : decode cL_law 153 = .ok (.iconst 0, 1) := by decide +kernel
theorem dL_law_154 : decode cL_law 154 = .ok (.ireturn, 1) := by decide +kernel
theorem dL_law_155 : decode cL_law 155 = .ok (.aload_n 1, 1) := by decide +kernel
theorem dL_law_156 : decode cL_law 156 = .ok (.aload_n 0, 1) := by decide +kernel
theorem dL_law_157 : decode cL_law 157 = .ok (.iload_n 3, 1) := by decide +kernel
theorem dL_law_158 : decode cL_law 158 = .ok (.iconst 1, 1) := by decide +kernel
theorem dL_law_159 : decode cL_law 159 = .ok (.iadd, 1) := by decide +kernel
theorem dL_law_160 : decode cL_law 160 = .ok (.iaload, 1) := by decide +kernel
theorem dL_law_161 : decode cL_law 161 = .ok (.invokevirtual 26, 3) := by decide +kernel
theorem dL_law_164 : decode cL_law 164 = .ok (.aload_n 2, 1) := by decide +kernel
theorem dL_law_165 : decode cL_law 165 = .ok (.aload_n 0, 1) := by decide +kernel
theorem dL_law_166 : decode cL_law 166 = .ok (.iload_n 3, 1) := by decide +kernel
theorem dL_law_167 : decode cL_law 167 = .ok (.iconst 1, 1) := by decide +kernel
theorem dL_law_168 : decode cL_law 168 = .ok (.iadd, 1) := by decide +kernel
theorem dL_law_169 : decode cL_law 169 = .ok (.iaload, 1) := by decide +kernel
theorem dL_law_170 : decode cL_law 170 = .ok (.invokevirtual 29, 3) := by decide +kernel
theorem dL_law_173 : decode cL_law 173 = .ok (.if_icmp .eq 354, 3) := by decide +kernel
theorem dL_law_176 : decode cL_law 176 = .ok (.iconst 0, 1) := by decide +kernel
theorem dL_law_177 : decode cL_law 177 = .ok (.ireturn, 1) := by decide +kernel
theorem dL_law_178 : decode cL_law 178 = .ok (.aload_n 1, 1) := by decide +kernel
theorem dL_law_179 : decode cL_law 179 = .ok (.invokevirtual 30, 3) := by decide +kernel
theorem dL_law_182 : decode cL_law 182 = .ok (.aload_n 2, 1) := by decide +kernel
theorem dL_law_183 : decode cL_law 183 = .ok (.invokevirtual 34, 3) := by decide +kernel
theorem dL_law_186 : decode cL_law 186 = .ok (.if_icmp .eq 341, 3) := by decide +kernel
theorem dL_law_189 : decode cL_law 189 = .ok (.iconst 0, 1) := by decide +kernel
theorem dL_law_190 : decode cL_law 190 = .ok (.ireturn, 1) := by decide +kernel
theorem dL_law_191 : decode cL_law 191 = .ok (.aload_n 1, 1) := by decide +kernel
theorem dL_law_192 : decode cL_law 192 = .ok (.aload_n 0, 1) := by decide +kernel
theorem dL_law_193 : decode cL_law 193 = .ok (.iload_n 3, 1) := by decide +kernel
theorem dL_law_194 : decode cL_law 194 = .ok (.iconst 1, 1) := by decide +kernel
theorem dL_law_195 : decode cL_law 195 = .ok (.iadd, 1) := by decide +kernel
theorem dL_law_196 : decode cL_law 196 = .ok (.iaload, 1) := by decide +kernel
theorem dL_law_197 : decode cL_law 197 = .ok (.aload_n 0, 1) := by decide +kernel
theorem dL_law_198 : decode cL_law 198 = .ok (.iload_n 3, 1) := by decide +kernel
theorem dL_law_199 : decode cL_law 199 = .ok (.iconst 2, 1) := by decide +kernel
theorem dL_law_200 : decode cL_law 200 = .ok (.iadd, 1) := by decide +kernel
theorem dL_law_201 : decode cL_law 201 = .ok (.iaload, 1) := by decide +kernel
theorem dL_law_202 : decode cL_law 202 = .ok (.invokevirtual 35, 3) := by decide +kernel
theorem dL_law_205 : decode cL_law 205 = .ok (.aload_n 2, 1) := by decide +kernel
theorem dL_law_206 : decode cL_law 206 = .ok (.aload_n 0, 1) := by decide +kernel
theorem dL_law_207 : decode cL_law 207 = .ok (.iload_n 3, 1) := by decide +kernel
theorem dL_law_208 : decode cL_law 208 = .ok (.iconst 1, 1) := by decide +kernel
theorem dL_law_209 : decode cL_law 209 = .ok (.iadd, 1) := by decide +kernel
theorem dL_law_210 : decode cL_law 210 = .ok (.iaload, 1) := by decide +kernel
theorem dL_law_211 : decode cL_law 211 = .ok (.aload_n 0, 1) := by decide +kernel
theorem dL_law_212 : decode cL_law 212 = .ok (.iload_n 3, 1) := by decide +kernel
theorem dL_law_213 : decode cL_law 213 = .ok (.iconst 2, 1) := by decide +kernel
theorem dL_law_214 : decode cL_law 214 = .ok (.iadd, 1) := by decide +kernel
theorem dL_law_215 : decode cL_law 215 = .ok (.iaload, 1) := by decide +kernel
theorem dL_law_216 : decode cL_law 216 = .ok (.invokevirtual 39, 3) := by decide +kernel
theorem dL_law_219 : decode cL_law 219 = .ok (.if_icmp .eq 308, 3) := by decide +kernel
theorem dL_law_222 : decode cL_law 222 = .ok (.iconst 0, 1) := by decide +kernel
theorem dL_law_223 : decode cL_law 223 = .ok (.ireturn, 1) := by decide +kernel
theorem dL_law_224 : decode cL_law 224 = .ok (.aload_n 1, 1) := by decide +kernel
theorem dL_law_225 : decode cL_law 225 = .ok (.aload_n 0, 1) := by decide +kernel
theorem dL_law_226 : decode cL_law 226 = .ok (.iload_n 3, 1) := by decide +kernel
theorem dL_law_227 : decode cL_law 227 = .ok (.iconst 1, 1) := by decide +kernel
theorem dL_law_228 : decode cL_law 228 = .ok (.iadd, 1) := by decide +kernel
theorem dL_law_229 : decode cL_law 229 = .ok (.iaload, 1) := by decide +kernel
theorem dL_law_230 : decode cL_law 230 = .ok (.invokevirtual 40, 3) := by decide +kernel
theorem dL_law_233 : decode cL_law 233 = .ok (.aload_n 2, 1) := by decide +kernel
theorem dL_law_234 : decode cL_law 234 = .ok (.aload_n 0, 1) := by decide +kernel
theorem dL_law_235 : decode cL_law 235 = .ok (.iload_n 3, 1) := by decide +kernel
theorem dL_law_236 : decode cL_law 236 = .ok (.iconst 1, 1) := by decide +kernel
theorem dL_law_237 : decode cL_law 237 = .ok (.iadd, 1) := by decide +kernel
theorem dL_law_238 : decode cL_law 238 = .ok (.iaload, 1) := by decide +kernel
theorem dL_law_239 : decode cL_law 239 = .ok (.invokevirtual 43, 3) := by decide +kernel
theorem dL_law_242 : decode cL_law 242 = .ok (.if_icmp .eq 285, 3) := by decide +kernel
theorem dL_law_245 : decode cL_law 245 = .ok (.iconst 0, 1) := by decide +kernel
theorem dL_law_246 : decode cL_law 246 = .ok (.ireturn, 1) := by decide +kernel
theorem dL_law_247 : decode cL_law 247 = .ok (.aload_n 1, 1) := by decide +kernel
theorem dL_law_248 : decode cL_law 248 = .ok (.aload_n 0, 1) := by decide +kernel
theorem dL_law_249 : decode cL_law 249 = .ok (.iload_n 3, 1) := by decide +kernel
theorem dL_law_250 : decode cL_law 250 = .ok (.iconst 1, 1) := by decide +kernel
theorem dL_law_251 : decode cL_law 251 = .ok (.iadd, 1) := by decide +kernel
theorem dL_law_252 : decode cL_law 252 = .ok (.iaload, 1) := by decide +kernel
theorem dL_law_253 : decode cL_law 253 = .ok (.i2l, 1) := by decide +kernel
theorem dL_law_254 : decode cL_law 254 = .ok (.bipush 32, 2) := by decide +kernel
theorem dL_law_256 : decode cL_law 256 = .ok (.lshl, 1) := by decide +kernel
theorem dL_law_257 : decode cL_law 257 = .ok (.aload_n 0, 1) := by decide +kernel
theorem dL_law_258 : decode cL_law 258 = .ok (.iload_n 3, 1) := by decide +kernel
theorem dL_law_259 : decode cL_law 259 = .ok (.iconst 2, 1) := by decide +kernel
theorem dL_law_260 : decode cL_law 260 = .ok (.iadd, 1) := by decide +kernel
theorem dL_law_261 : decode cL_law 261 = .ok (.iaload, 1) := by decide +kernel
theorem dL_law_262 : decode cL_law 262 = .ok (.i2l, 1) := by decide +kernel
theorem dL_law_263 : decode cL_law 263 = .ok (.ldc2_w 44, 3) := by decide +kernel
theorem dL_law_266 : decode cL_law 266 = .ok (.land, 1) := by decide +kernel
theorem dL_law_267 : decode cL_law 267 = .ok (.lor, 1) := by decide +kernel
theorem dL_law_268 : decode cL_law 268 = .ok (.aload_n 0, 1) := by decide +kernel
theorem dL_law_269 : decode cL_law 269 = .ok (.iload_n 3, 1) := by decide +kernel
theorem dL_law_270 : decode cL_law 270 = .ok (.iconst 3, 1) := by decide +kernel
theorem dL_law_271 : decode cL_law 271 = .ok (.iadd, 1) := by decide +kernel
theorem dL_law_272 : decode cL_law 272 = .ok (.iaload, 1) := by decide +kernel
theorem dL_law_273 : decode cL_law 273 = .ok (.invokevirtual 46, 3) := by decide +kernel
theorem dL_law_276 : decode cL_law 276 = .ok (.aload_n 2, 1) := by decide +kernel
theorem dL_law_277 : decode cL_law 277 = .ok (.aload_n 0, 1) := by decide +kernel
theorem dL_law_278 : decode cL_law 278 = .ok (.iload_n 3, 1) := by decide +kernel
theorem dL_law_279 : decode cL_law 279 = .ok (.iconst 1, 1) := by decide +kernel
theorem dL_law_280 : decode cL_law 280 = .ok (.iadd, 1) := by decide +kernel
theorem dL_law_281 : decode cL_law 281 = .ok (.iaload, 1) := by decide +kernel
theorem dL_law_282 : decode cL_law 282 = .ok (.i2l, 1) := by decide +kernel
theorem dL_law_283 : decode cL_law 283 = .ok (.bipush 32, 2) := by decide +kernel
theorem dL_law_285 : decode cL_law 285 = .ok (.lshl, 1) := by decide +kernel
theorem dL_law_286 : decode cL_law 286 = .ok (.aload_n 0, 1) := by decide +kernel
theorem dL_law_287 : decode cL_law 287 = .ok (.iload_n 3, 1) := by decide +kernel
theorem dL_law_288 : decode cL_law 288 = .ok (.iconst 2, 1) := by decide +kernel
theorem dL_law_289 : decode cL_law 289 = .ok (.iadd, 1) := by decide +kernel
theorem dL_law_290 : decode cL_law 290 = .ok (.iaload, 1) := by decide +kernel
theorem dL_law_291 : decode cL_law 291 = .ok (.i2l, 1) := by decide +kernel
theorem dL_law_292 : decode cL_law 292 = .ok (.ldc2_w 44, 3) := by decide +kernel
theorem dL_law_295 : decode cL_law 295 = .ok (.land, 1) := by decide +kernel
theorem dL_law_296 : decode cL_law 296 = .ok (.lor, 1) := by decide +kernel
theorem dL_law_297 : decode cL_law 297 = .ok (.aload_n 0, 1) := by decide +kernel
theorem dL_law_298 : decode cL_law 298 = .ok (.iload_n 3, 1) := by decide +kernel
theorem dL_law_299 : decode cL_law 299 = .ok (.iconst 3, 1) := by decide +kernel
theorem dL_law_300 : decode cL_law 300 = .ok (.iadd, 1) := by decide +kernel
theorem dL_law_301 : decode cL_law 301 = .ok (.iaload, 1) := by decide +kernel
theorem dL_law_302 : decode cL_law 302 = .ok (.invokevirtual 50, 3) := by decide +kernel
theorem dL_law_305 : decode cL_law 305 = .ok (.if_icmp .eq 222, 3) := by decide +kernel
theorem dL_law_308 : decode cL_law 308 = .ok (.iconst 0, 1) := by decide +kernel
theorem dL_law_309 : decode cL_law 309 = .ok (.ireturn, 1) := by decide +kernel
theorem dL_law_310 : decode cL_law 310 = .ok (.aload_n 1, 1) := by decide +kernel
theorem dL_law_311 : decode cL_law 311 = .ok (.aload_n 0, 1) := by decide +kernel
theorem dL_law_312 : decode cL_law 312 = .ok (.iload_n 3, 1) := by decide +kernel
theorem dL_law_313 : decode cL_law 313 = .ok (.iconst 1, 1) := by decide +kernel
theorem dL_law_314 : decode cL_law 314 = .ok (.iadd, 1) := by decide +kernel
theorem dL_law_315 : decode cL_law 315 = .ok (.iaload, 1) := by decide +kernel
theorem dL_law_316 : decode cL_law 316 = .ok (.invokevirtual 51, 3) := by decide +kernel
theorem dL_law_319 : decode cL_law 319 = .ok (.aload_n 2, 1) := by decide +kernel
theorem dL_law_320 : decode cL_law 320 = .ok (.aload_n 0, 1) := by decide +kernel
theorem dL_law_321 : decode cL_law 321 = .ok (.iload_n 3, 1) := by decide +kernel
theorem dL_law_322 : decode cL_law 322 = .ok (.iconst 1, 1) := by decide +kernel
theorem dL_law_323 : decode cL_law 323 = .ok (.iadd, 1) := by decide +kernel
theorem dL_law_324 : decode cL_law 324 = .ok (.iaload, 1) := by decide +kernel
theorem dL_law_325 : decode cL_law 325 = .ok (.invokevirtual 54, 3) := by decide +kernel
theorem dL_law_328 : decode cL_law 328 = .ok (.if_icmp .eq 199, 3) := by decide +kernel
theorem dL_law_331 : decode cL_law 331 = .ok (.iconst 0, 1) := by decide +kernel
theorem dL_law_332 : decode cL_law 332 = .ok (.ireturn, 1) := by decide +kernel
theorem dL_law_333 : decode cL_law 333 = .ok (.aload_n 1, 1) := by decide +kernel
theorem dL_law_334 : decode cL_law 334 = .ok (.aload_n 0, 1) := by decide +kernel
theorem dL_law_335 : decode cL_law 335 = .ok (.iload_n 3, 1) := by decide +kernel
theorem dL_law_336 : decode cL_law 336 = .ok (.iconst 1, 1) := by decide +kernel
theorem dL_law_337 : decode cL_law 337 = .ok (.iadd, 1) := by decide +kernel
theorem dL_law_338 : decode cL_law 338 = .ok (.iaload, 1) := by decide +kernel
theorem dL_law_339 : decode cL_law 339 = .ok (.invokevirtual 55, 3) := by decide +kernel
theorem dL_law_342 : decode cL_law 342 = .ok (.aload_n 2, 1) := by decide +kernel
theorem dL_law_343 : decode cL_law 343 = .ok (.aload_n 0, 1) := by decide +kernel
theorem dL_law_344 : decode cL_law 344 = .ok (.iload_n 3, 1) := by decide +kernel
theorem dL_law_345 : decode cL_law 345 = .ok (.iconst 1, 1) := by decide +kernel
theorem dL_law_346 : decode cL_law 346 = .ok (.iadd, 1) := by decide +kernel
theorem dL_law_347 : decode cL_law 347 = .ok (.iaload, 1) := by decide +kernel
theorem dL_law_348 : decode cL_law 348 = .ok (.invokevirtual 58, 3) := by decide +kernel
theorem dL_law_351 : decode cL_law 351 = .ok (.if_icmp .eq 176, 3) := by decide +kernel
theorem dL_law_354 : decode cL_law 354 = .ok (.iconst 0, 1) := by decide +kernel
theorem dL_law_355 : decode cL_law 355 = .ok (.ireturn, 1) := by decide +kernel
theorem dL_law_356 : decode cL_law 356 = .ok (.aload_n 1, 1) := by decide +kernel
theorem dL_law_357 : decode cL_law 357 = .ok (.aload_n 0, 1) := by decide +kernel
theorem dL_law_358 : decode cL_law 358 = .ok (.iload_n 3, 1) := by decide +kernel
theorem dL_law_359 : decode cL_law 359 = .ok (.iconst 1, 1) := by decide +kernel
theorem dL_law_360 : decode cL_law 360 = .ok (.iadd, 1) := by decide +kernel
theorem dL_law_361 : decode cL_law 361 = .ok (.iaload, 1) := by decide +kernel
theorem dL_law_362 : decode cL_law 362 = .ok (.invokevirtual 59, 3) := by decide +kernel
theorem dL_law_365 : decode cL_law 365 = .ok (.aload_n 2, 1) := by decide +kernel
theorem dL_law_366 : decode cL_law 366 = .ok (.aload_n 0, 1) := by decide +kernel
theorem dL_law_367 : decode cL_law 367 = .ok (.iload_n 3, 1) := by decide +kernel
theorem dL_law_368 : decode cL_law 368 = .ok (.iconst 1, 1) := by decide +kernel
theorem dL_law_369 : decode cL_law 369 = .ok (.iadd, 1) := by decide +kernel
theorem dL_law_370 : decode cL_law 370 = .ok (.iaload, 1) := by decide +kernel
theorem dL_law_371 : decode cL_law 371 = .ok (.invokevirtual 62, 3) := by decide +kernel
theorem dL_law_374 : decode cL_law 374 = .ok (.if_icmp .eq 153, 3) := by decide +kernel
theorem dL_law_377 : decode cL_law 377 = .ok (.iconst 0, 1) := by decide +kernel
theorem dL_law_378 : decode cL_law 378 = .ok (.ireturn, 1) := by decide +kernel
theorem dL_law_379 : decode cL_law 379 = .ok (.aload_n 1, 1) := by decide +kernel
theorem dL_law_380 : decode cL_law 380 = .ok (.invokevirtual 63, 3) := by decide +kernel
theorem dL_law_383 : decode cL_law 383 = .ok (.aload_n 2, 1) := by decide +kernel
theorem dL_law_384 : decode cL_law 384 = .ok (.invokevirtual 66, 3) := by decide +kernel
theorem dL_law_387 : decode cL_law 387 = .ok (.if_icmp .eq 140, 3) := by decide +kernel
theorem dL_law_390 : decode cL_law 390 = .ok (.iconst 0, 1) := by decide +kernel
theorem dL_law_391 : decode cL_law 391 = .ok (.ireturn, 1) := by decide +kernel
theorem dL_law_392 : decode cL_law 392 = .ok (.aload_n 1, 1) := by decide +kernel
theorem dL_law_393 : decode cL_law 393 = .ok (.invokevirtual 67, 3) := by decide +kernel
theorem dL_law_396 : decode cL_law 396 = .ok (.aload_n 2, 1) := by decide +kernel
theorem dL_law_397 : decode cL_law 397 = .ok (.invokevirtual 70, 3) := by decide +kernel
theorem dL_law_400 : decode cL_law 400 = .ok (.if_icmp .eq 127, 3) := by decide +kernel
theorem dL_law_403 : decode cL_law 403 = .ok (.iconst 0, 1) := by decide +kernel
theorem dL_law_404 : decode cL_law 404 = .ok (.ireturn, 1) := by decide +kernel
theorem dL_law_405 : decode cL_law 405 = .ok (.aload_n 1, 1) := by decide +kernel
theorem dL_law_406 : decode cL_law 406 = .ok (.aload_n 0, 1) := by decide +kernel
theorem dL_law_407 : decode cL_law 407 = .ok (.iload_n 3, 1) := by decide +kernel
theorem dL_law_408 : decode cL_law 408 = .ok (.iconst 1, 1) := by decide +kernel
theorem dL_law_409 : decode cL_law 409 = .ok (.iadd, 1) := by decide +kernel
theorem dL_law_410 : decode cL_law 410 = .ok (.iaload, 1) := by decide +kernel
theorem dL_law_411 : decode cL_law 411 = .ok (.ifCond .eq 7, 3) := by decide +kernel
theorem dL_law_414 : decode cL_law 414 = .ok (.iconst 1, 1) := by decide +kernel
theorem dL_law_415 : decode cL_law 415 = .ok (.goto 4, 3) := by decide +kernel
theorem dL_law_418 : decode cL_law 418 = .ok (.iconst 0, 1) := by decide +kernel
theorem dL_law_419 : decode cL_law 419 = .ok (.invokevirtual 71, 3) := by decide +kernel
theorem dL_law_422 : decode cL_law 422 = .ok (.aload_n 2, 1) := by decide +kernel
theorem dL_law_423 : decode cL_law 423 = .ok (.aload_n 0, 1) := by decide +kernel
theorem dL_law_424 : decode cL_law 424 = .ok (.iload_n 3, 1) := by decide +kernel
theorem dL_law_425 : decode cL_law 425 = .ok (.iconst 1, 1) := by decide +kernel
theorem dL_law_426 : decode cL_law 426 = .ok (.iadd, 1) := by decide +kernel
theorem dL_law_427 : decode cL_law 427 = .ok (.iaload, 1) := by decide +kernel
theorem dL_law_428 : decode cL_law 428 = .ok (.ifCond .eq 7, 3) := by decide +kernel
theorem dL_law_431 : decode cL_law 431 = .ok (.iconst 1, 1) := by decide +kernel
theorem dL_law_432 : decode cL_law 432 = .ok (.goto 4, 3) := by decide +kernel
theorem dL_law_435 : decode cL_law 435 = .ok (.iconst 0, 1) := by decide +kernel
theorem dL_law_436 : decode cL_law 436 = .ok (.invokevirtual 75, 3) := by decide +kernel
theorem dL_law_439 : decode cL_law 439 = .ok (.if_icmp .eq 88, 3) := by decide +kernel
theorem dL_law_442 : decode cL_law 442 = .ok (.iconst 0, 1) := by decide +kernel
theorem dL_law_443 : decode cL_law 443 = .ok (.ireturn, 1) := by decide +kernel
theorem dL_law_444 : decode cL_law 444 = .ok (.aload_n 1, 1) := by decide +kernel
theorem dL_law_445 : decode cL_law 445 = .ok (.invokevirtual 76, 3) := by decide +kernel
theorem dL_law_448 : decode cL_law 448 = .ok (.aload_n 2, 1) := by decide +kernel
theorem dL_law_449 : decode cL_law 449 = .ok (.invokevirtual 79, 3) := by decide +kernel
theorem dL_law_452 : decode cL_law 452 = .ok (.if_icmp .eq 75, 3) := by decide +kernel
theorem dL_law_455 : decode cL_law 455 = .ok (.iconst 0, 1) := by decide +kernel
theorem dL_law_456 : decode cL_law 456 = .ok (.ireturn, 1) := by decide +kernel
theorem dL_law_457 : decode cL_law 457 = .ok (.aload_n 1, 1) := by decide +kernel
theorem dL_law_458 : decode cL_law 458 = .ok (.aload_n 0, 1) := by decide +kernel
theorem dL_law_459 : decode cL_law 459 = .ok (.iload_n 3, 1) := by decide +kernel
theorem dL_law_460 : decode cL_law 460 = .ok (.iconst 1, 1) := by decide +kernel
theorem dL_law_461 : decode cL_law 461 = .ok (.iadd, 1) := by decide +kernel
theorem dL_law_462 : decode cL_law 462 = .ok (.iaload, 1) := by decide +kernel
theorem dL_law_463 : decode cL_law 463 = .ok (.aload_n 0, 1) := by decide +kernel
theorem dL_law_464 : decode cL_law 464 = .ok (.iload_n 3, 1) := by decide +kernel
theorem dL_law_465 : decode cL_law 465 = .ok (.iconst 2, 1) := by decide +kernel
theorem dL_law_466 : decode cL_law 466 = .ok (.iadd, 1) := by decide +kernel
theorem dL_law_467 : decode cL_law 467 = .ok (.iaload, 1) := by decide +kernel
theorem dL_law_468 : decode cL_law 468 = .ok (.invokevirtual 80, 3) := by decide +kernel
theorem dL_law_471 : decode cL_law 471 = .ok (.aload_n 2, 1) := by decide +kernel
theorem dL_law_472 : decode cL_law 472 = .ok (.aload_n 0, 1) := by decide +kernel
theorem dL_law_473 : decode cL_law 473 = .ok (.iload_n 3, 1) := by decide +kernel
theorem dL_law_474 : decode cL_law 474 = .ok (.iconst 1, 1) := by decide +kernel
theorem dL_law_475 : decode cL_law 475 = .ok (.iadd, 1) := by decide +kernel
theorem dL_law_476 : decode cL_law 476 = .ok (.iaload, 1) := by decide +kernel
theorem dL_law_477 : decode cL_law 477 = .ok (.aload_n 0, 1) := by decide +kernel
theorem dL_law_478 : decode cL_law 478 = .ok (.iload_n 3, 1) := by decide +kernel
theorem dL_law_479 : decode cL_law 479 = .ok (.iconst 2, 1) := by decide +kernel
theorem dL_law_480 : decode cL_law 480 = .ok (.iadd, 1) := by decide +kernel
theorem dL_law_481 : decode cL_law 481 = .ok (.iaload, 1) := by decide +kernel
theorem dL_law_482 : decode cL_law 482 = .ok (.invokevirtual 83, 3) := by decide +kernel
theorem dL_law_485 : decode cL_law 485 = .ok (.if_icmp .eq 42, 3) := by decide +kernel
theorem dL_law_488 : decode cL_law 488 = .ok (.iconst 0, 1) := by decide +kernel
theorem dL_law_489 : decode cL_law 489 = .ok (.ireturn, 1) := by decide +kernel
theorem dL_law_490 : decode cL_law 490 = .ok (.aload_n 1, 1) := by decide +kernel
theorem dL_law_491 : decode cL_law 491 = .ok (.aload_n 0, 1) := by decide +kernel
theorem dL_law_492 : decode cL_law 492 = .ok (.iload_n 3, 1) := by decide +kernel
theorem dL_law_493 : decode cL_law 493 = .ok (.iconst 1, 1) := by decide +kernel
theorem dL_law_494 : decode cL_law 494 = .ok (.iadd, 1) := by decide +kernel
theorem dL_law_495 : decode cL_law 495 = .ok (.iaload, 1) := by decide +kernel
theorem dL_law_496 : decode cL_law 496 = .ok (.invokevirtual 84, 3) := by decide +kernel
theorem dL_law_499 : decode cL_law 499 = .ok (.aload_n 2, 1) := by decide +kernel
theorem dL_law_500 : decode cL_law 500 = .ok (.aload_n 0, 1) := by decide +kernel
theorem dL_law_501 : decode cL_law 501 = .ok (.iload_n 3, 1) := by decide +kernel
theorem dL_law_502 : decode cL_law 502 = .ok (.iconst 1, 1) := by decide +kernel
theorem dL_law_503 : decode cL_law 503 = .ok (.iadd, 1) := by decide +kernel
theorem dL_law_504 : decode cL_law 504 = .ok (.iaload, 1) := by decide +kernel
theorem dL_law_505 : decode cL_law 505 = .ok (.invokevirtual 87, 3) := by decide +kernel
theorem dL_law_508 : decode cL_law 508 = .ok (.if_icmp .eq 19, 3) := by decide +kernel
theorem dL_law_511 : decode cL_law 511 = .ok (.iconst 0, 1) := by decide +kernel
theorem dL_law_512 : decode cL_law 512 = .ok (.ireturn, 1) := by decide +kernel
theorem dL_law_513 : decode cL_law 513 = .ok (.aload_n 1, 1) := by decide +kernel
theorem dL_law_514 : decode cL_law 514 = .ok (.invokevirtual 88, 3) := by decide +kernel
theorem dL_law_517 : decode cL_law 517 = .ok (.aload_n 2, 1) := by decide +kernel
theorem dL_law_518 : decode cL_law 518 = .ok (.invokevirtual 92, 3) := by decide +kernel
theorem dL_law_521 : decode cL_law 521 = .ok (.lcmp, 1) := by decide +kernel
theorem dL_law_522 : decode cL_law 522 = .ok (.ifCond .eq 5, 3) := by decide +kernel
theorem dL_law_525 : decode cL_law 525 = .ok (.iconst 0, 1) := by decide +kernel
theorem dL_law_526 : decode cL_law 526 = .ok (.ireturn, 1) := by decide +kernel
theorem dL_law_527 : decode cL_law 527 = .ok (.iinc 3 4, 3) := by decide +kernel
theorem dL_law_530 : decode cL_law 530 = .ok (.goto (-492), 3) := by decide +kernel
theorem dL_law_533 : decode cL_law 533 = .ok (.iconst 1, 1) := by decide +kernel
theorem dL_law_534 : decode cL_law 534 = .ok (.ireturn, 1) := by decide +kernel
