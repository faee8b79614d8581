theorem dX0_init_0 : decode cX0_init 0 = .ok (.aload_n 0, 1) := by decide +kernel
theorem dX0_init_1 : decode cX0_init 1 = .ok (.invokespecial 3, 3) := by decide +kernel
theorem dX0_init_4 : decode cX0_init 4 = .ok (.aload_n 0, 1) := by decide +kernel
theorem dX0_init_5 : decode cX0_init 5 = .ok (.bipush 68, 2) := by decide +kernel
theorem dX0_init_7 : decode cX0_init 7 = .ok (.newarray .byte, 2) := by decide +kernel
theorem dX0_init_9 : decode cX0_init 9 = .ok (.putfield 11, 3) := by decide +kernel
theorem dX0_init_12 : decode cX0_init 12 = .ok (.aload_n 0, 1) := by decide +kernel
theorem dX0_init_13 : decode cX0_init 13 = .ok (.new 15, 3) := by decide +kernel
theorem dX0_init_16 : decode cX0_init 16 = .ok (.dup, 1) := by decide +kernel
theorem dX0_init_17 : decode cX0_init 17 = .ok (.invokespecial 17, 3) := by decide +kernel
theorem dX0_init_20 : decode cX0_init 20 = .ok (.putfield 18, 3) := by decide +kernel
theorem dX0_init_23 : decode cX0_init 23 = .ok (.return_, 1) := by decide +kernel
theorem dX0_clear_0 : decode cX0_clear 0 = .ok (.aload_n 0, 1) := by decide +kernel
theorem dX0_clear_1 : decode cX0_clear 1 = .ok (.iconst 0, 1) := by decide +kernel
theorem dX0_clear_2 : decode cX0_clear 2 = .ok (.putfield 22, 3) := by decide +kernel
theorem dX0_clear_5 : decode cX0_clear 5 = .ok (.aload_n 0, 1) := by decide +kernel
theorem dX0_clear_6 : decode cX0_clear 6 = .ok (.iconst 0, 1) := by decide +kernel
theorem dX0_clear_7 : decode cX0_clear 7 = .ok (.putfield 26, 3) := by decide +kernel
theorem dX0_clear_10 : decode cX0_clear 10 = .ok (.aload_n 0, 1) := by decide +kernel
theorem dX0_clear_11 : decode cX0_clear 11 = .ok (.iconst 0, 1) := by decide +kernel
theorem dX0_clear_12 : decode cX0_clear 12 = .ok (.putfield 29, 3) := by decide +kernel
theorem dX0_clear_15 : decode cX0_clear 15 = .ok (.return_, 1) := by decide +kernel
theorem dX0_wordCount_0 : decode cX0_wordCount 0 = .ok (.aload_n 0, 1) := by decide +kernel
theorem dX0_wordCount_1 : decode cX0_wordCount 1 = .ok (.getfield 22, 3) := by decide +kernel
theorem dX0_wordCount_4 : decode cX0_wordCount 4 = .ok (.ireturn, 1) := by decide +kernel
theorem dX0_addWord_0 : decode cX0_addWord 0 = .ok (.aload_n 0, 1) := by decide +kernel
theorem dX0_addWord_1 : decode cX0_addWord 1 = .ok (.getfield 22, 3) := by decide +kernel
theorem dX0_addWord_4 : decode cX0_addWord 4 = .ok (.bipush 16, 2) := by decide +kernel
theorem dX0_addWord_6 : decode cX0_addWord 6 = .ok (.if_icmp .ge 18, 3) := by decide +kernel
theorem dX0_addWord_9 : decode cX0_addWord 9 = .ok (.aload_n 0, 1) := by decide +kernel
theorem dX0_addWord_10 : decode cX0_addWord 10 = .ok (.iload_n 1, 1) := by decide +kernel
theorem dX0_addWord_11 : decode cX0_addWord 11 = .ok (.invokevirtual 32, 3) := by decide +kernel
theorem dX0_addWord_14 : decode cX0_addWord 14 = .ok (.aload_n 0, 1) := by decide +kernel
theorem dX0_addWord_15 : decode cX0_addWord 15 = .ok (.dup, 1) := by decide +kernel
theorem dX0_addWord_16 : decode cX0_addWord 16 = .ok (.getfield 22, 3) := by decide +kernel
theorem dX0_addWord_19 : decode cX0_addWord 19 = .ok (.iconst 1, 1) := by decide +kernel
theorem dX0_addWord_20 : decode cX0_addWord 20 = .ok (.iadd, 1) := by decide +kernel
theorem dX0_addWord_21 : decode cX0_addWord 21 = .ok (.putfield 22, 3) := by decide +kernel
theorem dX0_addWord_24 : decode cX0_addWord 24 = .ok (.return_, 1) := by decide +kernel
theorem dX0_nextByte_0 : decode cX0_nextByte 0 = .ok (.aload_n 0, 1) := by decide +kernel
theorem dX0_nextByte_1 : decode cX0_nextByte 1 = .ok (.getfield 29, 3) := by decide +kernel
theorem dX0_nextByte_4 : decode cX0_nextByte 4 = .ok (.ifCond .ne 46, 3) := by decide +kernel
theorem dX0_nextByte_7 : decode cX0_nextByte 7 = .ok (.aload_n 0, 1) := by decide +kernel
theorem dX0_nextByte_8 : decode cX0_nextByte 8 = .ok (.aload_n 0, 1) := by decide +kernel
theorem dX0_nextByte_9 : decode cX0_nextByte 9 = .ok (.getfield 26, 3) := by decide +kernel
theorem dX0_nextByte_12 : decode cX0_nextByte 12 = .ok (.invokevirtual 32, 3) := by decide +kernel
theorem dX0_nextByte_15 : decode cX0_nextByte 15 = .ok (.aload_n 0, 1) := by decide +kernel
theorem dX0_nextByte_16 : decode cX0_nextByte 16 = .ok (.getfield 18, 3) := by decide +kernel
theorem dX0_nextByte_19 : decode cX0_nextByte 19 = .ok (.aload_n 0, 1) := by decide +kernel
theorem dX0_nextByte_20 : decode cX0_nextByte 20 = .ok (.getfield 11, 3) := by decide +kernel
theorem dX0_nextByte_23 : decode cX0_nextByte 23 = .ok (.iconst 4, 1) := by decide +kernel
theorem dX0_nextByte_24 : decode cX0_nextByte 24 = .ok (.aload_n 0, 1) := by decide +kernel
theorem dX0_nextByte_25 : decode cX0_nextByte 25 = .ok (.getfield 22, 3) := by decide +kernel
theorem dX0_nextByte_28 : decode cX0_nextByte 28 = .ok (.imul, 1) := by decide +kernel
theorem dX0_nextByte_29 : decode cX0_nextByte 29 = .ok (.iconst 4, 1) := by decide +kernel
theorem dX0_nextByte_30 : decode cX0_nextByte 30 = .ok (.iadd, 1) := by decide +kernel
theorem dX0_nextByte_31 : decode cX0_nextByte 31 = .ok (.invokevirtual 36, 3) := by decide +kernel
theorem dX0_nextByte_34 : decode cX0_nextByte 34 = .ok (.aload_n 0, 1) := by decide +kernel
theorem dX0_nextByte_35 : decode cX0_nextByte 35 = .ok (.dup, 1) := by decide +kernel
theorem dX0_nextByte_36 : decode cX0_nextByte 36 = .ok (.getfield 26, 3) := by decide +kernel
theorem dX0_nextByte_39 : decode cX0_nextByte 39 = .ok (.iconst 1, 1) := by decide +kernel
theorem dX0_nextByte_40 : decode cX0_nextByte 40 = .ok (.iadd, 1) := by decide +kernel
theorem dX0_nextByte_41 : decode cX0_nextByte 41 = .ok (.putfield 26, 3) := by decide +kernel
theorem dX0_nextByte_44 : decode cX0_nextByte 44 = .ok (.aload_n 0, 1) := by decide +kernel
theorem dX0_nextByte_45 : decode cX0_nextByte 45 = .ok (.bipush 32, 2) := by decide +kernel
theorem dX0_nextByte_47 : decode cX0_nextByte 47 = .ok (.putfield 29, 3) := by decide +kernel
theorem dX0_nextByte_50 : decode cX0_nextByte 50 = .ok (.aload_n 0, 1) := by decide +kernel
theorem dX0_nextByte_51 : decode cX0_nextByte 51 = .ok (.dup, 1) := by decide +kernel
theorem dX0_nextByte_52 : decode cX0_nextByte 52 = .ok (.getfield 29, 3) := by decide +kernel
theorem dX0_nextByte_55 : decode cX0_nextByte 55 = .ok (.iconst 1, 1) := by decide +kernel
theorem dX0_nextByte_56 : decode cX0_nextByte 56 = .ok (.isub, 1) := by decide +kernel
theorem dX0_nextByte_57 : decode cX0_nextByte 57 = .ok (.putfield 29, 3) := by decide +kernel
theorem dX0_nextByte_60 : decode cX0_nextByte 60 = .ok (.aload_n 0, 1) := by decide +kernel
theorem dX0_nextByte_61 : decode cX0_nextByte 61 = .ok (.getfield 18, 3) := by decide +kernel
theorem dX0_nextByte_64 : decode cX0_nextByte 64 = .ok (.bipush 31, 2) := by decide +kernel
theorem dX0_nextByte_66 : decode cX0_nextByte 66 = .ok (.aload_n 0, 1) := by decide +kernel
theorem dX0_nextByte_67 : decode cX0_nextByte 67 = .ok (.getfield 29, 3) := by decide +kernel
theorem dX0_nextByte_70 : decode cX0_nextByte 70 = .ok (.isub, 1) := by decide +kernel
theorem dX0_nextByte_71 : decode cX0_nextByte 71 = .ok (.invokevirtual 40, 3) := by decide +kernel
theorem dX0_nextByte_74 : decode cX0_nextByte 74 = .ok (.ireturn, 1) := by decide +kernel
theorem dX0_putWord_0 : decode cX0_putWord 0 = .ok (.iconst 0, 1) := by decide +kernel
theorem dX0_putWord_1 : decode cX0_putWord 1 = .ok (.istore_n 2, 1) := by decide +kernel
theorem dX0_putWord_2 : decode cX0_putWord 2 = .ok (.iload_n 2, 1) := by decide +kernel
theorem dX0_putWord_3 : decode cX0_putWord 3 = .ok (.iconst 4, 1) := by decide +kernel
theorem dX0_putWord_4 : decode cX0_putWord 4 = .ok (.if_icmp .ge 47, 3) := by decide +kernel
theorem dX0_putWord_7 : decode cX0_putWord 7 = .ok (.iconst 4, 1) := by decide +kernel
theorem dX0_putWord_8 : decode cX0_putWord 8 = .ok (.aload_n 0, 1) := by decide +kernel
theorem dX0_putWord_9 : decode cX0_putWord 9 = .ok (.getfield 22, 3) := by decide +kernel
theorem dX0_putWord_12 : decode cX0_putWord 12 = .ok (.imul, 1) := by decide +kernel
theorem dX0_putWord_13 : decode cX0_putWord 13 = .ok (.iload_n 2, 1) := by decide +kernel
theorem dX0_putWord_14 : decode cX0_putWord 14 = .ok (.iadd, 1) := by decide +kernel
theorem dX0_putWord_15 : decode cX0_putWord 15 = .ok (.istore_n 3, 1) := by decide +kernel
theorem dX0_putWord_16 : decode cX0_putWord 16 = .ok (.iload_n 3, 1) := by decide +kernel
theorem dX0_putWord_17 : decode cX0_putWord 17 = .ok (.ifCond .lt 28, 3) := by decide +kernel
theorem dX0_putWord_20 : decode cX0_putWord 20 = .ok (.iload_n 3, 1) := by decide +kernel
theorem dX0_putWord_21 : decode cX0_putWord 21 = .ok (.aload_n 0, 1) := by decide +kernel
theorem dX0_putWord_22 : decode cX0_putWord 22 = .ok (.getfield 11, 3) := by decide +kernel
theorem dX0_putWord_25 : decode cX0_putWord 25 = .ok (.arraylength, 1) := by decide +kernel
theorem dX0_putWord_26 : decode cX0_putWord 26 = .ok (.if_icmp .ge 19, 3) := by decide +kernel
theorem dX0_putWord_29 : decode cX0_putWord 29 = .ok (.aload_n 0, 1) := by decide +kernel
theorem dX0_putWord_30 : decode cX0_putWord 30 = .ok (.getfield 11, 3) := by decide +kernel
theorem dX0_putWord_33 : decode cX0_putWord 33 = .ok (.iload_n 3, 1) := by decide +kernel
theorem dX0_putWord_34 : decode cX0_putWord 34 = .ok (.iload_n 1, 1) := by decide +kernel
theorem dX0_putWord_35 : decode cX0_putWord 35 = .ok (.bipush 24, 2) := by decide +kernel
theorem dX0_putWord_37 : decode cX0_putWord 37 = .ok (.bipush 8, 2) := by decide +kernel
theorem dX0_putWord_39 : decode cX0_putWord 39 = .ok (.iload_n 2, 1) := by decide +kernel
theorem dX0_putWord_40 : decode cX0_putWord 40 = .ok (.imul, 1) := by decide +kernel
theorem dX0_putWord_41 : decode cX0_putWord 41 = .ok (.isub, 1) := by decide +kernel
theorem dX0_putWord_42 : decode cX0_putWord 42 = .ok (.iushr, 1) := by decide +kernel
theorem dX0_putWord_43 : decode cX0_putWord 43 = .ok (.i2b, 1) := by decide +kernel
theorem dX0_putWord_44 : decode cX0_putWord 44 = .ok (.bastore, 1) := by decide +kernel
theorem dX0_putWord_45 : decode cX0_putWord 45 = .ok (.iinc 2 1, 3) := by decide +kernel
theorem dX0_putWord_48 : decode cX0_putWord 48 = .ok (.goto (-46), 3) := by decide +kernel
theorem dX0_putWord_51 : decode cX0_putWord 51 = .ok (.return_, 1) := by decide +kernel
theorem dX1_init_0 : decode cX1_init 0 = .ok (.aload_n 0, 1) := by decide +kernel
theorem dX1_init_1 : decode cX1_init 1 = .ok (.invokespecial 1, 3) := by decide +kernel
theorem dX1_init_4 : decode cX1_init 4 = .ok (.aload_n 0, 1) := by decide +kernel
theorem dX1_init_5 : decode cX1_init 5 = .ok (.aload_n 1, 1) := by decide +kernel
theorem dX1_init_6 : decode cX1_init 6 = .ok (.putfield 7, 3) := by decide +kernel
theorem dX1_init_9 : decode cX1_init 9 = .ok (.aload_n 0, 1) := by decide +kernel
theorem dX1_init_10 : decode cX1_init 10 = .ok (.iload_n 2, 1) := by decide +kernel
theorem dX1_init_11 : decode cX1_init 11 = .ok (.putfield 13, 3) := by decide +kernel
theorem dX1_init_14 : decode cX1_init 14 = .ok (.aload_n 0, 1) := by decide +kernel
theorem dX1_init_15 : decode cX1_init 15 = .ok (.iload 4, 2) := by decide +kernel
theorem dX1_init_17 : decode cX1_init 17 = .ok (.putfield 17, 3) := by decide +kernel
theorem dX1_init_20 : decode cX1_init 20 = .ok (.iconst 1, 1) := by decide +kernel
theorem dX1_init_21 : decode cX1_init 21 = .ok (.iload_n 3, 1) := by decide +kernel
theorem dX1_init_22 : decode cX1_init 22 = .ok (.invokestatic 20, 3) := by decide +kernel
theorem dX1_init_25 : decode cX1_init 25 = .ok (.istore 5, 2) := by decide +kernel
theorem dX1_init_27 : decode cX1_init 27 = .ok (.aload_n 0, 1) := by decide +kernel
theorem dX1_init_28 : decode cX1_init 28 = .ok (.new 26, 3) := by decide +kernel
theorem dX1_init_31 : decode cX1_init 31 = .ok (.dup, 1) := by decide +kernel
theorem dX1_init_32 : decode cX1_init 32 = .ok (.iload 5, 2) := by decide +kernel
theorem dX1_init_34 : decode cX1_init 34 = .ok (.invokespecial 28, 3) := by decide +kernel
theorem dX1_init_37 : decode cX1_init 37 = .ok (.putfield 31, 3) := by decide +kernel
theorem dX1_init_40 : decode cX1_init 40 = .ok (.aload_n 0, 1) := by decide +kernel
theorem dX1_init_41 : decode cX1_init 41 = .ok (.iload 5, 2) := by decide +kernel
theorem dX1_init_43 : decode cX1_init 43 = .ok (.newarray .long, 2) := by decide +kernel
theorem dX1_init_45 : decode cX1_init 45 = .ok (.putfield 35, 3) := by decide +kernel
theorem dX1_init_48 : decode cX1_init 48 = .ok (.aload_n 0, 1) := by decide +kernel
theorem dX1_init_49 : decode cX1_init 49 = .ok (.iload 5, 2) := by decide +kernel
theorem dX1_init_51 : decode cX1_init 51 = .ok (.newarray .long, 2) := by decide +kernel
theorem dX1_init_53 : decode cX1_init 53 = .ok (.putfield 39, 3) := by decide +kernel
theorem dX1_init_56 : decode cX1_init 56 = .ok (.aload_n 0, 1) := by decide +kernel
theorem dX1_init_57 : decode cX1_init 57 = .ok (.iload 5, 2) := by decide +kernel
theorem dX1_init_59 : decode cX1_init 59 = .ok (.newarray .long, 2) := by decide +kernel
theorem dX1_init_61 : decode cX1_init 61 = .ok (.putfield 42, 3) := by decide +kernel
theorem dX1_init_64 : decode cX1_init 64 = .ok (.aload_n 0, 1) := by decide +kernel
theorem dX1_init_65 : decode cX1_init 65 = .ok (.iload 5, 2) := by decide +kernel
theorem dX1_init_67 : decode cX1_init 67 = .ok (.newarray .long, 2) := by decide +kernel
theorem dX1_init_69 : decode cX1_init 69 = .ok (.putfield 45, 3) := by decide +kernel
theorem dX1_init_72 : decode cX1_init 72 = .ok (.aload_n 0, 1) := by decide +kernel
theorem dX1_init_73 : decode cX1_init 73 = .ok (.iload 5, 2) := by decide +kernel
theorem dX1_init_75 : decode cX1_init 75 = .ok (.newarray .long, 2) := by decide +kernel
theorem dX1_init_77 : decode cX1_init 77 = .ok (.putfield 48, 3) := by decide +kernel
theorem dX1_init_80 : decode cX1_init 80 = .ok (.aload_n 0, 1) := by decide +kernel
theorem dX1_init_81 : decode cX1_init 81 = .ok (.iload 5, 2) := by decide +kernel
theorem dX1_init_83 : decode cX1_init 83 = .ok (.newarray .long, 2) := by decide +kernel
theorem dX1_init_85 : decode cX1_init 85 = .ok (.putfield 51, 3) := by decide +kernel
theorem dX1_init_88 : decode cX1_init 88 = .ok (.return_, 1) := by decide +kernel
theorem dX1_clear_0 : decode cX1_clear 0 = .ok (.aload_n 0, 1) := by decide +kernel
theorem dX1_clear_1 : decode cX1_clear 1 = .ok (.iconst 0, 1) := by decide +kernel
theorem dX1_clear_2 : decode cX1_clear 2 = .ok (.putfield 54, 3) := by decide +kernel
theorem dX1_clear_5 : decode cX1_clear 5 = .ok (.aload_n 0, 1) := by decide +kernel
theorem dX1_clear_6 : decode cX1_clear 6 = .ok (.iconst 0, 1) := by decide +kernel
theorem dX1_clear_7 : decode cX1_clear 7 = .ok (.putfield 58, 3) := by decide +kernel
theorem dX1_clear_10 : decode cX1_clear 10 = .ok (.aload_n 0, 1) := by decide +kernel
theorem dX1_clear_11 : decode cX1_clear 11 = .ok (.iconst 0, 1) := by decide +kernel
theorem dX1_clear_12 : decode cX1_clear 12 = .ok (.putfield 61, 3) := by decide +kernel
theorem dX1_clear_15 : decode cX1_clear 15 = .ok (.aload_n 0, 1) := by decide +kernel
theorem dX1_clear_16 : decode cX1_clear 16 = .ok (.iconst 0, 1) := by decide +kernel
theorem dX1_clear_17 : decode cX1_clear 17 = .ok (.putfield 64, 3) := by decide +kernel
theorem dX1_clear_20 : decode cX1_clear 20 = .ok (.return_, 1) := by decide +kernel
theorem dX1_begin_0 : decode cX1_begin 0 = .ok (.aload_n 0, 1) := by decide +kernel
theorem dX1_begin_1 : decode cX1_begin 1 = .ok (.iconst 1, 1) := by decide +kernel
theorem dX1_begin_2 : decode cX1_begin 2 = .ok (.putfield 54, 3) := by decide +kernel
theorem dX1_begin_5 : decode cX1_begin 5 = .ok (.return_, 1) := by decide +kernel
theorem dX1_hasBegun_0 : decode cX1_hasBegun 0 = .ok (.aload_n 0, 1) := by decide +kernel
theorem dX1_hasBegun_1 : decode cX1_hasBegun 1 = .ok (.getfield 54, 3) := by decide +kernel
theorem dX1_hasBegun_4 : decode cX1_hasBegun 4 = .ok (.ireturn, 1) := by decide +kernel
theorem dX1_hasBothPrimes_0 : decode cX1_hasBothPrimes 0 = .ok (.aload_n 0, 1) := by decide +kernel
theorem dX1_hasBothPrimes_1 : decode cX1_hasBothPrimes 1 = .ok (.getfield 58, 3) := by decide +kernel
theorem dX1_hasBothPrimes_4 : decode cX1_hasBothPrimes 4 = .ok (.iconst 2, 1) := by decide +kernel
theorem dX1_hasBothPrimes_5 : decode cX1_hasBothPrimes 5 = .ok (.if_icmp .ne 7, 3) := by decide +kernel
theorem dX1_hasBothPrimes_8 : decode cX1_hasBothPrimes 8 = .ok (.iconst 1, 1) := by decide +kernel
theorem dX1_hasBothPrimes_9 : decode cX1_hasBothPrimes 9 = .ok (.goto 4, 3) := by decide +kernel
theorem dX1_hasBothPrimes_12 : decode cX1_hasBothPrimes 12 = .ok (.iconst 0, 1) := by decide +kernel
theorem dX1_hasBothPrimes_13 : decode cX1_hasBothPrimes 13 = .ok (.ireturn, 1) := by decide +kernel
theorem dX1_firstPrime_0 : decode cX1_firstPrime 0 = .ok (.aload_n 0, 1) := by decide +kernel
theorem dX1_firstPrime_1 : decode cX1_firstPrime 1 = .ok (.getfield 48, 3) := by decide +kernel
theorem dX1_firstPrime_4 : decode cX1_firstPrime 4 = .ok (.areturn, 1) := by decide +kernel
theorem dX1_secondPrime_0 : decode cX1_secondPrime 0 = .ok (.aload_n 0, 1) := by decide +kernel
theorem dX1_secondPrime_1 : decode cX1_secondPrime 1 = .ok (.getfield 51, 3) := by decide +kernel
theorem dX1_secondPrime_4 : decode cX1_secondPrime 4 = .ok (.areturn, 1) := by decide +kernel
theorem dX1_examinedCount_0 : decode cX1_examinedCount 0 = .ok (.aload_n 0, 1) := by decide +kernel
theorem dX1_examinedCount_1 : decode cX1_examinedCount 1 = .ok (.getfield 61, 3) := by decide +kernel
theorem dX1_examinedCount_4 : decode cX1_examinedCount 4 = .ok (.ireturn, 1) := by decide +kernel
theorem dX1_undividedCount_0 : decode cX1_undividedCount 0 = .ok (.aload_n 0, 1) := by decide +kernel
theorem dX1_undividedCount_1 : decode cX1_undividedCount 1 = .ok (.getfield 64, 3) := by decide +kernel
theorem dX1_undividedCount_4 : decode cX1_undividedCount 4 = .ok (.ireturn, 1) := by decide +kernel
theorem dX1_examineNext_0 : decode cX1_examineNext 0 = .ok (.aload_n 0, 1) := by decide +kernel
theorem dX1_examineNext_1 : decode cX1_examineNext 1 = .ok (.invokevirtual 67, 3) := by decide +kernel
theorem dX1_examineNext_4 : decode cX1_examineNext 4 = .ok (.aload_n 0, 1) := by decide +kernel
theorem dX1_examineNext_5 : decode cX1_examineNext 5 = .ok (.dup, 1) := by decide +kernel
theorem dX1_examineNext_6 : decode cX1_examineNext 6 = .ok (.getfield 61, 3) := by decide +kernel
theorem dX1_examineNext_9 : decode cX1_examineNext 9 = .ok (.iconst 1, 1) := by decide +kernel
theorem dX1_examineNext_10 : decode cX1_examineNext 10 = .ok (.iadd, 1) := by decide +kernel
theorem dX1_examineNext_11 : decode cX1_examineNext 11 = .ok (.putfield 61, 3) := by decide +kernel
theorem dX1_examineNext_14 : decode cX1_examineNext 14 = .ok (.aload_n 0, 1) := by decide +kernel
theorem dX1_examineNext_15 : decode cX1_examineNext 15 = .ok (.invokevirtual 70, 3) := by decide +kernel
theorem dX1_examineNext_18 : decode cX1_examineNext 18 = .ok (.ifCond .eq 4, 3) := by decide +kernel
theorem dX1_examineNext_21 : decode cX1_examineNext 21 = .ok (.return_, 1) := by decide +kernel
theorem dX1_examineNext_22 : decode cX1_examineNext 22 = .ok (.aload_n 0, 1) := by decide +kernel
theorem dX1_examineNext_23 : decode cX1_examineNext 23 = .ok (.dup, 1) := by decide +kernel
theorem dX1_examineNext_24 : decode cX1_examineNext 24 = .ok (.getfield 64, 3) := by decide +kernel
theorem dX1_examineNext_27 : decode cX1_examineNext 27 = .ok (.iconst 1, 1) := by decide +kernel
theorem dX1_examineNext_28 : decode cX1_examineNext 28 = .ok (.iadd, 1) := by decide +kernel
theorem dX1_examineNext_29 : decode cX1_examineNext 29 = .ok (.putfield 64, 3) := by decide +kernel
theorem dX1_examineNext_32 : decode cX1_examineNext 32 = .ok (.aload_n 0, 1) := by decide +kernel
theorem dX1_examineNext_33 : decode cX1_examineNext 33 = .ok (.invokevirtual 74, 3) := by decide +kernel
theorem dX1_examineNext_36 : decode cX1_examineNext 36 = .ok (.ifCond .eq 38, 3) := by decide +kernel
theorem dX1_examineNext_39 : decode cX1_examineNext 39 = .ok (.aload_n 0, 1) := by decide +kernel
theorem dX1_examineNext_40 : decode cX1_examineNext 40 = .ok (.getfield 58, 3) := by decide +kernel
theorem dX1_examineNext_43 : decode cX1_examineNext 43 = .ok (.ifCond .ne 10, 3) := by decide +kernel
theorem dX1_examineNext_46 : decode cX1_examineNext 46 = .ok (.aload_n 0, 1) := by decide +kernel
theorem dX1_examineNext_47 : decode cX1_examineNext 47 = .ok (.getfield 48, 3) := by decide +kernel
theorem dX1_examineNext_50 : decode cX1_examineNext 50 = .ok (.goto 7, 3) := by decide +kernel
theorem dX1_examineNext_53 : decode cX1_examineNext 53 = .ok (.aload_n 0, 1) := by decide +kernel
theorem dX1_examineNext_54 : decode cX1_examineNext 54 = .ok (.getfield 51, 3) := by decide +kernel
theorem dX1_examineNext_57 : decode cX1_examineNext 57 = .ok (.aload_n 0, 1) := by decide +kernel
theorem dX1_examineNext_58 : decode cX1_examineNext 58 = .ok (.getfield 35, 3) := by decide +kernel
theorem dX1_examineNext_61 : decode cX1_examineNext 61 = .ok (.invokestatic 77, 3) := by decide +kernel
theorem dX1_examineNext_64 : decode cX1_examineNext 64 = .ok (.aload_n 0, 1) := by decide +kernel
theorem dX1_examineNext_65 : decode cX1_examineNext 65 = .ok (.dup, 1) := by decide +kernel
theorem dX1_examineNext_66 : decode cX1_examineNext 66 = .ok (.getfield 58, 3) := by decide +kernel
theorem dX1_examineNext_69 : decode cX1_examineNext 69 = .ok (.iconst 1, 1) := by decide +kernel
theorem dX1_examineNext_70 : decode cX1_examineNext 70 = .ok (.iadd, 1) := by decide +kernel
theorem dX1_examineNext_71 : decode cX1_examineNext 71 = .ok (.putfield 58, 3) := by decide +kernel
theorem dX1_examineNext_74 : decode cX1_examineNext 74 = .ok (.return_, 1) := by decide +kernel
theorem dX1_drawCandidate_0 : decode cX1_drawCandidate 0 = .ok (.aload_n 0, 1) := by decide +kernel
theorem dX1_drawCandidate_1 : decode cX1_drawCandidate 1 = .ok (.getfield 13, 3) := by decide +kernel
theorem dX1_drawCandidate_4 : decode cX1_drawCandidate 4 = .ok (.iconst 1, 1) := by decide +kernel
theorem dX1_drawCandidate_5 : decode cX1_drawCandidate 5 = .ok (.isub, 1) := by decide +kernel
theorem dX1_drawCandidate_6 : decode cX1_drawCandidate 6 = .ok (.istore_n 1, 1) := by decide +kernel
theorem dX1_drawCandidate_7 : decode cX1_drawCandidate 7 = .ok (.iload_n 1, 1) := by decide +kernel
theorem dX1_drawCandidate_8 : decode cX1_drawCandidate 8 = .ok (.ifCond .lt 52, 3) := by decide +kernel
theorem dX1_drawCandidate_11 : decode cX1_drawCandidate 11 = .ok (.aload_n 0, 1) := by decide +kernel
theorem dX1_drawCandidate_12 : decode cX1_drawCandidate 12 = .ok (.getfield 7, 3) := by decide +kernel
theorem dX1_drawCandidate_15 : decode cX1_drawCandidate 15 = .ok (.invokevirtual 83, 3) := by decide +kernel
theorem dX1_drawCandidate_18 : decode cX1_drawCandidate 18 = .ok (.istore_n 2, 1) := by decide +kernel
theorem dX1_drawCandidate_19 : decode cX1_drawCandidate 19 = .ok (.iload_n 1, 1) := by decide +kernel
theorem dX1_drawCandidate_20 : decode cX1_drawCandidate 20 = .ok (.aload_n 0, 1) := by decide +kernel
theorem dX1_drawCandidate_21 : decode cX1_drawCandidate 21 = .ok (.getfield 13, 3) := by decide +kernel
theorem dX1_drawCandidate_24 : decode cX1_drawCandidate 24 = .ok (.iconst 1, 1) := by decide +kernel
theorem dX1_drawCandidate_25 : decode cX1_drawCandidate 25 = .ok (.isub, 1) := by decide +kernel
theorem dX1_drawCandidate_26 : decode cX1_drawCandidate 26 = .ok (.if_icmp .ne 9, 3) := by decide +kernel
theorem dX1_drawCandidate_29 : decode cX1_drawCandidate 29 = .ok (.iload_n 2, 1) := by decide +kernel
theorem dX1_drawCandidate_30 : decode cX1_drawCandidate 30 = .ok (.sipush 192, 3) := by decide +kernel
theorem dX1_drawCandidate_33 : decode cX1_drawCandidate 33 = .ok (.ior, 1) := by decide +kernel
theorem dX1_drawCandidate_34 : decode cX1_drawCandidate 34 = .ok (.istore_n 2, 1) := by decide +kernel
theorem dX1_drawCandidate_35 : decode cX1_drawCandidate 35 = .ok (.aload_n 0, 1) := by decide +kernel
theorem dX1_drawCandidate_36 : decode cX1_drawCandidate 36 = .ok (.getfield 35, 3) := by decide +kernel
theorem dX1_drawCandidate_39 : decode cX1_drawCandidate 39 = .ok (.iload_n 1, 1) := by decide +kernel
theorem dX1_drawCandidate_40 : decode cX1_drawCandidate 40 = .ok (.iload_n 1, 1) := by decide +kernel
theorem dX1_drawCandidate_41 : decode cX1_drawCandidate 41 = .ok (.ifCond .ne 9, 3) := by decide +kernel
theorem dX1_drawCandidate_44 : decode cX1_drawCandidate 44 = .ok (.iload_n 2, 1) := by decide +kernel
theorem dX1_drawCandidate_45 : decode cX1_drawCandidate 45 = .ok (.iconst 1, 1) := by decide +kernel
theorem dX1_drawCandidate_46 : decode cX1_drawCandidate 46 = .ok (.ior, 1) := by decide +kernel
theorem dX1_drawCandidate_47 : decode cX1_drawCandidate 47 = .ok (.goto 4, 3) := by decide +kernel
theorem dX1_drawCandidate_50 : decode cX1_drawCandidate 50 = .ok (.iload_n 2, 1) := by decide +kernel
theorem dX1_drawCandidate_51 : decode cX1_drawCandidate 51 = .ok (.invokestatic 89, 3) := by decide +kernel
theorem dX1_drawCandidate_54 : decode cX1_drawCandidate 54 = .ok (.iinc 1 (-1), 3) := by decide +kernel
theorem dX1_drawCandidate_57 : decode cX1_drawCandidate 57 = .ok (.goto (-50), 3) := by decide +kernel
theorem dX1_drawCandidate_60 : decode cX1_drawCandidate 60 = .ok (.return_, 1) := by decide +kernel
theorem dX1_hasSmallDivisor_0 : decode cX1_hasSmallDivisor 0 = .ok (.getstatic 93, 3) := by decide +kernel
theorem dX1_hasSmallDivisor_3 : decode cX1_hasSmallDivisor 3 = .ok (.astore_n 1, 1) := by decide +kernel
theorem dX1_hasSmallDivisor_4 : decode cX1_hasSmallDivisor 4 = .ok (.aload_n 1, 1) := by decide +kernel
theorem dX1_hasSmallDivisor_5 : decode cX1_hasSmallDivisor 5 = .ok (.arraylength, 1) := by decide +kernel
theorem dX1_hasSmallDivisor_6 : decode cX1_hasSmallDivisor 6 = .ok (.istore_n 2, 1) := by decide +kernel
theorem dX1_hasSmallDivisor_7 : decode cX1_hasSmallDivisor 7 = .ok (.iconst 0, 1) := by decide +kernel
theorem dX1_hasSmallDivisor_8 : decode cX1_hasSmallDivisor 8 = .ok (.istore_n 3, 1) := by decide +kernel
theorem dX1_hasSmallDivisor_9 : decode cX1_hasSmallDivisor 9 = .ok (.iload_n 3, 1) := by decide +kernel
theorem dX1_hasSmallDivisor_10 : decode cX1_hasSmallDivisor 10 = .ok (.iload_n 2, 1) := by decide +kernel
theorem dX1_hasSmallDivisor_11 : decode cX1_hasSmallDivisor 11 = .ok (.if_icmp .ge 30, 3) := by decide +kernel
theorem dX1_hasSmallDivisor_14 : decode cX1_hasSmallDivisor 14 = .ok (.aload_n 1, 1) := by decide +kernel
theorem dX1_hasSmallDivisor_15 : decode cX1_hasSmallDivisor 15 = .ok (.iload_n 3, 1) := by decide +kernel
theorem dX1_hasSmallDivisor_16 : decode cX1_hasSmallDivisor 16 = .ok (.iaload, 1) := by decide +kernel
theorem dX1_hasSmallDivisor_17 : decode cX1_hasSmallDivisor 17 = .ok (.istore 4, 2) := by decide +kernel
theorem dX1_hasSmallDivisor_19 : decode cX1_hasSmallDivisor 19 = .ok (.aload_n 0, 1) := by decide +kernel
theorem dX1_hasSmallDivisor_20 : decode cX1_hasSmallDivisor 20 = .ok (.getfield 35, 3) := by decide +kernel
theorem dX1_hasSmallDivisor_23 : decode cX1_hasSmallDivisor 23 = .ok (.iload 4, 2) := by decide +kernel
theorem dX1_hasSmallDivisor_25 : decode cX1_hasSmallDivisor 25 = .ok (.invokestatic 97, 3) := by decide +kernel
theorem dX1_hasSmallDivisor_28 : decode cX1_hasSmallDivisor 28 = .ok (.lconst 0, 1) := by decide +kernel
theorem dX1_hasSmallDivisor_29 : decode cX1_hasSmallDivisor 29 = .ok (.lcmp, 1) := by decide +kernel
theorem dX1_hasSmallDivisor_30 : decode cX1_hasSmallDivisor 30 = .ok (.ifCond .ne 5, 3) := by decide +kernel
theorem dX1_hasSmallDivisor_33 : decode cX1_hasSmallDivisor 33 = .ok (.iconst 1, 1) := by decide +kernel
theorem dX1_hasSmallDivisor_34 : decode cX1_hasSmallDivisor 34 = .ok (.ireturn, 1) := by decide +kernel
theorem dX1_hasSmallDivisor_35 : decode cX1_hasSmallDivisor 35 = .ok (.iinc 3 1, 3) := by decide +kernel
theorem dX1_hasSmallDivisor_38 : decode cX1_hasSmallDivisor 38 = .ok (.goto (-29), 3) := by decide +kernel
theorem dX1_hasSmallDivisor_41 : decode cX1_hasSmallDivisor 41 = .ok (.iconst 0, 1) := by decide +kernel
theorem dX1_hasSmallDivisor_42 : decode cX1_hasSmallDivisor 42 = .ok (.ireturn, 1) := by decide +kernel
theorem dX1_isGood_0 : decode cX1_isGood 0 = .ok (.aload_n 0, 1) := by decide +kernel
theorem dX1_isGood_1 : decode cX1_isGood 1 = .ok (.getfield 35, 3) := by decide +kernel
theorem dX1_isGood_4 : decode cX1_isGood 4 = .ok (.ldc 103, 2) := by decide +kernel
theorem dX1_isGood_6 : decode cX1_isGood 6 = .ok (.invokestatic 97, 3) := by decide +kernel
theorem dX1_isGood_9 : decode cX1_isGood 9 = .ok (.lconst 1, 1) := by decide +kernel
theorem dX1_isGood_10 : decode cX1_isGood 10 = .ok (.lcmp, 1) := by decide +kernel
theorem dX1_isGood_11 : decode cX1_isGood 11 = .ok (.ifCond .ne 5, 3) := by decide +kernel
theorem dX1_isGood_14 : decode cX1_isGood 14 = .ok (.iconst 0, 1) := by decide +kernel
theorem dX1_isGood_15 : decode cX1_isGood 15 = .ok (.ireturn, 1) := by decide +kernel
theorem dX1_isGood_16 : decode cX1_isGood 16 = .ok (.aload_n 0, 1) := by decide +kernel
theorem dX1_isGood_17 : decode cX1_isGood 17 = .ok (.getfield 58, 3) := by decide +kernel
theorem dX1_isGood_20 : decode cX1_isGood 20 = .ok (.ifCond .le 19, 3) := by decide +kernel
theorem dX1_isGood_23 : decode cX1_isGood 23 = .ok (.aload_n 0, 1) := by decide +kernel
theorem dX1_isGood_24 : decode cX1_isGood 24 = .ok (.getfield 35, 3) := by decide +kernel
theorem dX1_isGood_27 : decode cX1_isGood 27 = .ok (.aload_n 0, 1) := by decide +kernel
theorem dX1_isGood_28 : decode cX1_isGood 28 = .ok (.getfield 48, 3) := by decide +kernel
theorem dX1_isGood_31 : decode cX1_isGood 31 = .ok (.invokestatic 104, 3) := by decide +kernel
theorem dX1_isGood_34 : decode cX1_isGood 34 = .ok (.ifCond .ne 5, 3) := by decide +kernel
theorem dX1_isGood_37 : decode cX1_isGood 37 = .ok (.iconst 0, 1) := by decide +kernel
theorem dX1_isGood_38 : decode cX1_isGood 38 = .ok (.ireturn, 1) := by decide +kernel
theorem dX1_isGood_39 : decode cX1_isGood 39 = .ok (.aload_n 0, 1) := by decide +kernel
theorem dX1_isGood_40 : decode cX1_isGood 40 = .ok (.getfield 39, 3) := by decide +kernel
theorem dX1_isGood_43 : decode cX1_isGood 43 = .ok (.aload_n 0, 1) := by decide +kernel
theorem dX1_isGood_44 : decode cX1_isGood 44 = .ok (.getfield 35, 3) := by decide +kernel
theorem dX1_isGood_47 : decode cX1_isGood 47 = .ok (.invokestatic 77, 3) := by decide +kernel
theorem dX1_isGood_50 : decode cX1_isGood 50 = .ok (.aload_n 0, 1) := by decide +kernel
theorem dX1_isGood_51 : decode cX1_isGood 51 = .ok (.getfield 39, 3) := by decide +kernel
theorem dX1_isGood_54 : decode cX1_isGood 54 = .ok (.lconst 1, 1) := by decide +kernel
theorem dX1_isGood_55 : decode cX1_isGood 55 = .ok (.invokestatic 108, 3) := by decide +kernel
theorem dX1_isGood_58 : decode cX1_isGood 58 = .ok (.aload_n 0, 1) := by decide +kernel
theorem dX1_isGood_59 : decode cX1_isGood 59 = .ok (.getfield 42, 3) := by decide +kernel
theorem dX1_isGood_62 : decode cX1_isGood 62 = .ok (.aload_n 0, 1) := by decide +kernel
theorem dX1_isGood_63 : decode cX1_isGood 63 = .ok (.getfield 39, 3) := by decide +kernel
theorem dX1_isGood_66 : decode cX1_isGood 66 = .ok (.invokestatic 77, 3) := by decide +kernel
theorem dX1_isGood_69 : decode cX1_isGood 69 = .ok (.aload_n 0, 1) := by decide +kernel
theorem dX1_isGood_70 : decode cX1_isGood 70 = .ok (.getfield 42, 3) := by decide +kernel
theorem dX1_isGood_73 : decode cX1_isGood 73 = .ok (.invokestatic 112, 3) := by decide +kernel
theorem dX1_isGood_76 : decode cX1_isGood 76 = .ok (.istore_n 1, 1) := by decide +kernel
theorem dX1_isGood_77 : decode cX1_isGood 77 = .ok (.aload_n 0, 1) := by decide +kernel
theorem dX1_isGood_78 : decode cX1_isGood 78 = .ok (.getfield 31, 3) := by decide +kernel
theorem dX1_isGood_81 : decode cX1_isGood 81 = .ok (.aload_n 0, 1) := by decide +kernel
theorem dX1_isGood_82 : decode cX1_isGood 82 = .ok (.getfield 35, 3) := by decide +kernel
theorem dX1_isGood_85 : decode cX1_isGood 85 = .ok (.invokevirtual 116, 3) := by decide +kernel
theorem dX1_isGood_88 : decode cX1_isGood 88 = .ok (.iconst 0, 1) := by decide +kernel
theorem dX1_isGood_89 : decode cX1_isGood 89 = .ok (.istore_n 2, 1) := by decide +kernel
theorem dX1_isGood_90 : decode cX1_isGood 90 = .ok (.iload_n 2, 1) := by decide +kernel
theorem dX1_isGood_91 : decode cX1_isGood 91 = .ok (.aload_n 0, 1) := by decide +kernel
theorem dX1_isGood_92 : decode cX1_isGood 92 = .ok (.getfield 17, 3) := by decide +kernel
theorem dX1_isGood_95 : decode cX1_isGood 95 = .ok (.if_icmp .ge 32, 3) := by decide +kernel
theorem dX1_isGood_98 : decode cX1_isGood 98 = .ok (.iload_n 2, 1) := by decide +kernel
theorem dX1_isGood_99 : decode cX1_isGood 99 = .ok (.getstatic 120, 3) := by decide +kernel
theorem dX1_isGood_102 : decode cX1_isGood 102 = .ok (.arraylength, 1) := by decide +kernel
theorem dX1_isGood_103 : decode cX1_isGood 103 = .ok (.if_icmp .ge 24, 3) := by decide +kernel
theorem dX1_isGood_106 : decode cX1_isGood 106 = .ok (.aload_n 0, 1) := by decide +kernel
theorem dX1_isGood_107 : decode cX1_isGood 107 = .ok (.getstatic 120, 3) := by decide +kernel
theorem dX1_isGood_110 : decode cX1_isGood 110 = .ok (.iload_n 2, 1) := by decide +kernel
theorem dX1_isGood_111 : decode cX1_isGood 111 = .ok (.iaload, 1) := by decide +kernel
theorem dX1_isGood_112 : decode cX1_isGood 112 = .ok (.iload_n 1, 1) := by decide +kernel
theorem dX1_isGood_113 : decode cX1_isGood 113 = .ok (.invokevirtual 123, 3) := by decide +kernel
theorem dX1_isGood_116 : decode cX1_isGood 116 = .ok (.ifCond .ne 5, 3) := by decide +kernel
theorem dX1_isGood_119 : decode cX1_isGood 119 = .ok (.iconst 0, 1) := by decide +kernel
theorem dX1_isGood_120 : decode cX1_isGood 120 = .ok (.ireturn, 1) := by decide +kernel
theorem dX1_isGood_121 : decode cX1_isGood 121 = .ok (.iinc 2 1, 3) := by decide +kernel
theorem dX1_isGood_124 : decode cX1_isGood 124 = .ok (.goto (-34), 3) := by decide +kernel
theorem dX1_isGood_127 : decode cX1_isGood 127 = .ok (.iconst 1, 1) := by decide +kernel
theorem dX1_isGood_128 : decode cX1_isGood 128 = .ok (.ireturn, 1) := by decide +kernel
theorem dX1_passes_0 : decode cX1_passes 0 = .ok (.aload_n 0, 1) := by decide +kernel
theorem dX1_passes_1 : decode cX1_passes 1 = .ok (.getfield 45, 3) := by decide +kernel
theorem dX1_passes_4 : decode cX1_passes 4 = .ok (.iload_n 1, 1) := by decide +kernel
theorem dX1_passes_5 : decode cX1_passes 5 = .ok (.i2l, 1) := by decide +kernel
theorem dX1_passes_6 : decode cX1_passes 6 = .ok (.invokestatic 127, 3) := by decide +kernel
theorem dX1_passes_9 : decode cX1_passes 9 = .ok (.aload_n 0, 1) := by decide +kernel
theorem dX1_passes_10 : decode cX1_passes 10 = .ok (.getfield 31, 3) := by decide +kernel
theorem dX1_passes_13 : decode cX1_passes 13 = .ok (.aload_n 0, 1) := by decide +kernel
theorem dX1_passes_14 : decode cX1_passes 14 = .ok (.getfield 45, 3) := by decide +kernel
theorem dX1_passes_17 : decode cX1_passes 17 = .ok (.aload_n 0, 1) := by decide +kernel
theorem dX1_passes_18 : decode cX1_passes 18 = .ok (.getfield 45, 3) := by decide +kernel
theorem dX1_passes_21 : decode cX1_passes 21 = .ok (.aload_n 0, 1) := by decide +kernel
theorem dX1_passes_22 : decode cX1_passes 22 = .ok (.getfield 42, 3) := by decide +kernel
theorem dX1_passes_25 : decode cX1_passes 25 = .ok (.invokevirtual 130, 3) := by decide +kernel
theorem dX1_passes_28 : decode cX1_passes 28 = .ok (.aload_n 0, 1) := by decide +kernel
theorem dX1_passes_29 : decode cX1_passes 29 = .ok (.getfield 45, 3) := by decide +kernel
theorem dX1_passes_32 : decode cX1_passes 32 = .ok (.invokestatic 134, 3) := by decide +kernel
theorem dX1_passes_35 : decode cX1_passes 35 = .ok (.ifCond .ne 17, 3) := by decide +kernel
theorem dX1_passes_38 : decode cX1_passes 38 = .ok (.aload_n 0, 1) := by decide +kernel
theorem dX1_passes_39 : decode cX1_passes 39 = .ok (.getfield 45, 3) := by decide +kernel
theorem dX1_passes_42 : decode cX1_passes 42 = .ok (.aload_n 0, 1) := by decide +kernel
theorem dX1_passes_43 : decode cX1_passes 43 = .ok (.getfield 39, 3) := by decide +kernel
theorem dX1_passes_46 : decode cX1_passes 46 = .ok (.invokestatic 104, 3) := by decide +kernel
theorem dX1_passes_49 : decode cX1_passes 49 = .ok (.ifCond .ne 5, 3) := by decide +kernel
theorem dX1_passes_52 : decode cX1_passes 52 = .ok (.iconst 1, 1) := by decide +kernel
theorem dX1_passes_53 : decode cX1_passes 53 = .ok (.ireturn, 1) := by decide +kernel
theorem dX1_passes_54 : decode cX1_passes 54 = .ok (.iconst 1, 1) := by decide +kernel
theorem dX1_passes_55 : decode cX1_passes 55 = .ok (.istore_n 3, 1) := by decide +kernel
theorem dX1_passes_56 : decode cX1_passes 56 = .ok (.iload_n 3, 1) := by decide +kernel
theorem dX1_passes_57 : decode cX1_passes 57 = .ok (.iload_n 2, 1) := by decide +kernel
theorem dX1_passes_58 : decode cX1_passes 58 = .ok (.if_icmp .ge 44, 3) := by decide +kernel
theorem dX1_passes_61 : decode cX1_passes 61 = .ok (.aload_n 0, 1) := by decide +kernel
theorem dX1_passes_62 : decode cX1_passes 62 = .ok (.getfield 31, 3) := by decide +kernel
theorem dX1_passes_65 : decode cX1_passes 65 = .ok (.aload_n 0, 1) := by decide +kernel
theorem dX1_passes_66 : decode cX1_passes 66 = .ok (.getfield 45, 3) := by decide +kernel
theorem dX1_passes_69 : decode cX1_passes 69 = .ok (.aload_n 0, 1) := by decide +kernel
theorem dX1_passes_70 : decode cX1_passes 70 = .ok (.getfield 45, 3) := by decide +kernel
theorem dX1_passes_73 : decode cX1_passes 73 = .ok (.aload_n 0, 1) := by decide +kernel
theorem dX1_passes_74 : decode cX1_passes 74 = .ok (.getfield 45, 3) := by decide +kernel
theorem dX1_passes_77 : decode cX1_passes 77 = .ok (.invokevirtual 138, 3) := by decide +kernel
theorem dX1_passes_80 : decode cX1_passes 80 = .ok (.aload_n 0, 1) := by decide +kernel
theorem dX1_passes_81 : decode cX1_passes 81 = .ok (.getfield 45, 3) := by decide +kernel
theorem dX1_passes_84 : decode cX1_passes 84 = .ok (.aload_n 0, 1) := by decide +kernel
theorem dX1_passes_85 : decode cX1_passes 85 = .ok (.getfield 39, 3) := by decide +kernel
theorem dX1_passes_88 : decode cX1_passes 88 = .ok (.invokestatic 104, 3) := by decide +kernel
theorem dX1_passes_91 : decode cX1_passes 91 = .ok (.ifCond .ne 5, 3) := by decide +kernel
theorem dX1_passes_94 : decode cX1_passes 94 = .ok (.iconst 1, 1) := by decide +kernel
theorem dX1_passes_95 : decode cX1_passes 95 = .ok (.ireturn, 1) := by decide +kernel
theorem dX1_passes_96 : decode cX1_passes 96 = .ok (.iinc 3 1, 3) := by decide +kernel
theorem dX1_passes_99 : decode cX1_passes 99 = .ok (.goto (-43), 3) := by decide +kernel
theorem dX1_passes_102 : decode cX1_passes 102 = .ok (.iconst 0, 1) := by decide +kernel
theorem dX1_passes_103 : decode cX1_passes 103 = .ok (.ireturn, 1) := by decide +kernel
theorem dX2_init_0 : decode cX2_init 0 = .ok (.aload_n 0, 1) := by decide +kernel
theorem dX2_init_1 : decode cX2_init 1 = .ok (.invokespecial 1, 3) := by decide +kernel
theorem dX2_init_4 : decode cX2_init 4 = .ok (.iconst 1, 1) := by decide +kernel
theorem dX2_init_5 : decode cX2_init 5 = .ok (.iload_n 1, 1) := by decide +kernel
theorem dX2_init_6 : decode cX2_init 6 = .ok (.invokestatic 7, 3) := by decide +kernel
theorem dX2_init_9 : decode cX2_init 9 = .ok (.istore_n 2, 1) := by decide +kernel
theorem dX2_init_10 : decode cX2_init 10 = .ok (.aload_n 0, 1) := by decide +kernel
theorem dX2_init_11 : decode cX2_init 11 = .ok (.new 13, 3) := by decide +kernel
theorem dX2_init_14 : decode cX2_init 14 = .ok (.dup, 1) := by decide +kernel
theorem dX2_init_15 : decode cX2_init 15 = .ok (.iconst 2, 1) := by decide +kernel
theorem dX2_init_16 : decode cX2_init 16 = .ok (.iload_n 2, 1) := by decide +kernel
theorem dX2_init_17 : decode cX2_init 17 = .ok (.imul, 1) := by decide +kernel
theorem dX2_init_18 : decode cX2_init 18 = .ok (.invokespecial 15, 3) := by decide +kernel
theorem dX2_init_21 : decode cX2_init 21 = .ok (.putfield 18, 3) := by decide +kernel
theorem dX2_init_24 : decode cX2_init 24 = .ok (.aload_n 0, 1) := by decide +kernel
theorem dX2_init_25 : decode cX2_init 25 = .ok (.new 13, 3) := by decide +kernel
theorem dX2_init_28 : decode cX2_init 28 = .ok (.dup, 1) := by decide +kernel
theorem dX2_init_29 : decode cX2_init 29 = .ok (.iload_n 2, 1) := by decide +kernel
theorem dX2_init_30 : decode cX2_init 30 = .ok (.invokespecial 15, 3) := by decide +kernel
theorem dX2_init_33 : decode cX2_init 33 = .ok (.putfield 24, 3) := by decide +kernel
theorem dX2_init_36 : decode cX2_init 36 = .ok (.aload_n 0, 1) := by decide +kernel
theorem dX2_init_37 : decode cX2_init 37 = .ok (.new 13, 3) := by decide +kernel
theorem dX2_init_40 : decode cX2_init 40 = .ok (.dup, 1) := by decide +kernel
theorem dX2_init_41 : decode cX2_init 41 = .ok (.iload_n 2, 1) := by decide +kernel
theorem dX2_init_42 : decode cX2_init 42 = .ok (.invokespecial 15, 3) := by decide +kernel
theorem dX2_init_45 : decode cX2_init 45 = .ok (.putfield 27, 3) := by decide +kernel
theorem dX2_init_48 : decode cX2_init 48 = .ok (.aload_n 0, 1) := by decide +kernel
theorem dX2_init_49 : decode cX2_init 49 = .ok (.iconst 2, 1) := by decide +kernel
theorem dX2_init_50 : decode cX2_init 50 = .ok (.iload_n 2, 1) := by decide +kernel
theorem dX2_init_51 : decode cX2_init 51 = .ok (.imul, 1) := by decide +kernel
theorem dX2_init_52 : decode cX2_init 52 = .ok (.newarray .long, 2) := by decide +kernel
theorem dX2_init_54 : decode cX2_init 54 = .ok (.putfield 30, 3) := by decide +kernel
theorem dX2_init_57 : decode cX2_init 57 = .ok (.aload_n 0, 1) := by decide +kernel
theorem dX2_init_58 : decode cX2_init 58 = .ok (.iconst 2, 1) := by decide +kernel
theorem dX2_init_59 : decode cX2_init 59 = .ok (.iload_n 2, 1) := by decide +kernel
theorem dX2_init_60 : decode cX2_init 60 = .ok (.imul, 1) := by decide +kernel
theorem dX2_init_61 : decode cX2_init 61 = .ok (.newarray .long, 2) := by decide +kernel
theorem dX2_init_63 : decode cX2_init 63 = .ok (.putfield 34, 3) := by decide +kernel
theorem dX2_init_66 : decode cX2_init 66 = .ok (.aload_n 0, 1) := by decide +kernel
theorem dX2_init_67 : decode cX2_init 67 = .ok (.iload_n 2, 1) := by decide +kernel
theorem dX2_init_68 : decode cX2_init 68 = .ok (.newarray .long, 2) := by decide +kernel
theorem dX2_init_70 : decode cX2_init 70 = .ok (.putfield 37, 3) := by decide +kernel
theorem dX2_init_73 : decode cX2_init 73 = .ok (.aload_n 0, 1) := by decide +kernel
theorem dX2_init_74 : decode cX2_init 74 = .ok (.iload_n 2, 1) := by decide +kernel
theorem dX2_init_75 : decode cX2_init 75 = .ok (.newarray .long, 2) := by decide +kernel
theorem dX2_init_77 : decode cX2_init 77 = .ok (.putfield 40, 3) := by decide +kernel
theorem dX2_init_80 : decode cX2_init 80 = .ok (.aload_n 0, 1) := by decide +kernel
theorem dX2_init_81 : decode cX2_init 81 = .ok (.iload_n 2, 1) := by decide +kernel
theorem dX2_init_82 : decode cX2_init 82 = .ok (.newarray .long, 2) := by decide +kernel
theorem dX2_init_84 : decode cX2_init 84 = .ok (.putfield 43, 3) := by decide +kernel
theorem dX2_init_87 : decode cX2_init 87 = .ok (.aload_n 0, 1) := by decide +kernel
theorem dX2_init_88 : decode cX2_init 88 = .ok (.iload_n 2, 1) := by decide +kernel
theorem dX2_init_89 : decode cX2_init 89 = .ok (.newarray .long, 2) := by decide +kernel
theorem dX2_init_91 : decode cX2_init 91 = .ok (.putfield 46, 3) := by decide +kernel
theorem dX2_init_94 : decode cX2_init 94 = .ok (.aload_n 0, 1) := by decide +kernel
theorem dX2_init_95 : decode cX2_init 95 = .ok (.iload_n 2, 1) := by decide +kernel
theorem dX2_init_96 : decode cX2_init 96 = .ok (.newarray .long, 2) := by decide +kernel
theorem dX2_init_98 : decode cX2_init 98 = .ok (.putfield 49, 3) := by decide +kernel
theorem dX2_init_101 : decode cX2_init 101 = .ok (.aload_n 0, 1) := by decide +kernel
theorem dX2_init_102 : decode cX2_init 102 = .ok (.iload_n 2, 1) := by decide +kernel
theorem dX2_init_103 : decode cX2_init 103 = .ok (.newarray .long, 2) := by decide +kernel
theorem dX2_init_105 : decode cX2_init 105 = .ok (.putfield 52, 3) := by decide +kernel
theorem dX2_init_108 : decode cX2_init 108 = .ok (.aload_n 0, 1) := by decide +kernel
theorem dX2_init_109 : decode cX2_init 109 = .ok (.iload_n 2, 1) := by decide +kernel
theorem dX2_init_110 : decode cX2_init 110 = .ok (.newarray .long, 2) := by decide +kernel
theorem dX2_init_112 : decode cX2_init 112 = .ok (.putfield 55, 3) := by decide +kernel
theorem dX2_init_115 : decode cX2_init 115 = .ok (.aload_n 0, 1) := by decide +kernel
theorem dX2_init_116 : decode cX2_init 116 = .ok (.iconst 2, 1) := by decide +kernel
theorem dX2_init_117 : decode cX2_init 117 = .ok (.iload_n 2, 1) := by decide +kernel
theorem dX2_init_118 : decode cX2_init 118 = .ok (.imul, 1) := by decide +kernel
theorem dX2_init_119 : decode cX2_init 119 = .ok (.newarray .long, 2) := by decide +kernel
theorem dX2_init_121 : decode cX2_init 121 = .ok (.putfield 58, 3) := by decide +kernel
theorem dX2_init_124 : decode cX2_init 124 = .ok (.aload_n 0, 1) := by decide +kernel
theorem dX2_init_125 : decode cX2_init 125 = .ok (.iconst 2, 1) := by decide +kernel
theorem dX2_init_126 : decode cX2_init 126 = .ok (.iload_n 2, 1) := by decide +kernel
theorem dX2_init_127 : decode cX2_init 127 = .ok (.imul, 1) := by decide +kernel
theorem dX2_init_128 : decode cX2_init 128 = .ok (.iconst 1, 1) := by decide +kernel
theorem dX2_init_129 : decode cX2_init 129 = .ok (.iadd, 1) := by decide +kernel
theorem dX2_init_130 : decode cX2_init 130 = .ok (.newarray .long, 2) := by decide +kernel
theorem dX2_init_132 : decode cX2_init 132 = .ok (.putfield 61, 3) := by decide +kernel
theorem dX2_init_135 : decode cX2_init 135 = .ok (.aload_n 0, 1) := by decide +kernel
theorem dX2_init_136 : decode cX2_init 136 = .ok (.iload_n 2, 1) := by decide +kernel
theorem dX2_init_137 : decode cX2_init 137 = .ok (.newarray .long, 2) := by decide +kernel
theorem dX2_init_139 : decode cX2_init 139 = .ok (.putfield 64, 3) := by decide +kernel
theorem dX2_init_142 : decode cX2_init 142 = .ok (.aload_n 0, 1) := by decide +kernel
theorem dX2_init_143 : decode cX2_init 143 = .ok (.iload_n 2, 1) := by decide +kernel
theorem dX2_init_144 : decode cX2_init 144 = .ok (.newarray .long, 2) := by decide +kernel
theorem dX2_init_146 : decode cX2_init 146 = .ok (.putfield 67, 3) := by decide +kernel
theorem dX2_init_149 : decode cX2_init 149 = .ok (.return_, 1) := by decide +kernel
theorem dX2_clear_0 : decode cX2_clear 0 = .ok (.aload_n 0, 1) := by decide +kernel
theorem dX2_clear_1 : decode cX2_clear 1 = .ok (.iconst 0, 1) := by decide +kernel
theorem dX2_clear_2 : decode cX2_clear 2 = .ok (.putfield 70, 3) := by decide +kernel
theorem dX2_clear_5 : decode cX2_clear 5 = .ok (.return_, 1) := by decide +kernel
theorem dX2_stand_0 : decode cX2_stand 0 = .ok (.aload_n 0, 1) := by decide +kernel
theorem dX2_stand_1 : decode cX2_stand 1 = .ok (.getfield 70, 3) := by decide +kernel
theorem dX2_stand_4 : decode cX2_stand 4 = .ok (.ireturn, 1) := by decide +kernel
theorem dX2_part_0 : decode cX2_part 0 = .ok (.iload_n 1, 1) := by decide +kernel
theorem dX2_part_1 : decode cX2_part 1 = .ok (.tableswitch 69 0 5 #[39, 44, 49, 54, 59, 64], 39) := by decide +kernel
theorem dX2_part_40 : decode cX2_part 40 = .ok (.aload_n 0, 1) := by decide +kernel
theorem dX2_part_41 : decode cX2_part 41 = .ok (.getfield 30, 3) := by decide +kernel
theorem dX2_part_44 : decode cX2_part 44 = .ok (.areturn, 1) := by decide +kernel
theorem dX2_part_45 : decode cX2_part 45 = .ok (.aload_n 0, 1) := by decide +kernel
theorem dX2_part_46 : decode cX2_part 46 = .ok (.getfield 34, 3) := by decide +kernel
theorem dX2_part_49 : decode cX2_part 49 = .ok (.areturn, 1) := by decide +kernel
theorem dX2_part_50 : decode cX2_part 50 = .ok (.aload_n 0, 1) := by decide +kernel
theorem dX2_part_51 : decode cX2_part 51 = .ok (.getfield 37, 3) := by decide +kernel
theorem dX2_part_54 : decode cX2_part 54 = .ok (.areturn, 1) := by decide +kernel
theorem dX2_part_55 : decode cX2_part 55 = .ok (.aload_n 0, 1) := by decide +kernel
theorem dX2_part_56 : decode cX2_part 56 = .ok (.getfield 40, 3) := by decide +kernel
theorem dX2_part_59 : decode cX2_part 59 = .ok (.areturn, 1) := by decide +kernel
theorem dX2_part_60 : decode cX2_part 60 = .ok (.aload_n 0, 1) := by decide +kernel
theorem dX2_part_61 : decode cX2_part 61 = .ok (.getfield 43, 3) := by decide +kernel
theorem dX2_part_64 : decode cX2_part 64 = .ok (.areturn, 1) := by decide +kernel
theorem dX2_part_65 : decode cX2_part 65 = .ok (.aload_n 0, 1) := by decide +kernel
theorem dX2_part_66 : decode cX2_part 66 = .ok (.getfield 46, 3) := by decide +kernel
theorem dX2_part_69 : decode cX2_part 69 = .ok (.areturn, 1) := by decide +kernel
theorem dX2_part_70 : decode cX2_part 70 = .ok (.aload_n 0, 1) := by decide +kernel
theorem dX2_part_71 : decode cX2_part 71 = .ok (.getfield 49, 3) := by decide +kernel
theorem dX2_part_74 : decode cX2_part 74 = .ok (.areturn, 1) := by decide +kernel
theorem dX2_make_0 : decode cX2_make 0 = .ok (.aload_n 1, 1) := by decide +kernel
theorem dX2_make_1 : decode cX2_make 1 = .ok (.aload_n 2, 1) := by decide +kernel
theorem dX2_make_2 : decode cX2_make 2 = .ok (.invokestatic 74, 3) := by decide +kernel
theorem dX2_make_5 : decode cX2_make 5 = .ok (.ifCond .lt 7, 3) := by decide +kernel
theorem dX2_make_8 : decode cX2_make 8 = .ok (.iconst 1, 1) := by decide +kernel
theorem dX2_make_9 : decode cX2_make 9 = .ok (.goto 4, 3) := by decide +kernel
theorem dX2_make_12 : decode cX2_make 12 = .ok (.iconst 0, 1) := by decide +kernel
theorem dX2_make_13 : decode cX2_make 13 = .ok (.istore_n 3, 1) := by decide +kernel
theorem dX2_make_14 : decode cX2_make 14 = .ok (.aload_n 0, 1) := by decide +kernel
theorem dX2_make_15 : decode cX2_make 15 = .ok (.getfield 37, 3) := by decide +kernel
theorem dX2_make_18 : decode cX2_make 18 = .ok (.iload_n 3, 1) := by decide +kernel
theorem dX2_make_19 : decode cX2_make 19 = .ok (.ifCond .eq 7, 3) := by decide +kernel
theorem dX2_make_22 : decode cX2_make 22 = .ok (.aload_n 1, 1) := by decide +kernel
theorem dX2_make_23 : decode cX2_make 23 = .ok (.goto 4, 3) := by decide +kernel
theorem dX2_make_26 : decode cX2_make 26 = .ok (.aload_n 2, 1) := by decide +kernel
theorem dX2_make_27 : decode cX2_make 27 = .ok (.invokestatic 80, 3) := by decide +kernel
theorem dX2_make_30 : decode cX2_make 30 = .ok (.aload_n 0, 1) := by decide +kernel
theorem dX2_make_31 : decode cX2_make 31 = .ok (.getfield 40, 3) := by decide +kernel
theorem dX2_make_34 : decode cX2_make 34 = .ok (.iload_n 3, 1) := by decide +kernel
theorem dX2_make_35 : decode cX2_make 35 = .ok (.ifCond .eq 7, 3) := by decide +kernel
theorem dX2_make_38 : decode cX2_make 38 = .ok (.aload_n 2, 1) := by decide +kernel
theorem dX2_make_39 : decode cX2_make 39 = .ok (.goto 4, 3) := by decide +kernel
theorem dX2_make_42 : decode cX2_make 42 = .ok (.aload_n 1, 1) := by decide +kernel
theorem dX2_make_43 : decode cX2_make 43 = .ok (.invokestatic 80, 3) := by decide +kernel
theorem dX2_make_46 : decode cX2_make 46 = .ok (.aload_n 0, 1) := by decide +kernel
theorem dX2_make_47 : decode cX2_make 47 = .ok (.getfield 30, 3) := by decide +kernel
theorem dX2_make_50 : decode cX2_make 50 = .ok (.aload_n 0, 1) := by decide +kernel
theorem dX2_make_51 : decode cX2_make 51 = .ok (.getfield 37, 3) := by decide +kernel
theorem dX2_make_54 : decode cX2_make 54 = .ok (.aload_n 0, 1) := by decide +kernel
theorem dX2_make_55 : decode cX2_make 55 = .ok (.getfield 40, 3) := by decide +kernel
theorem dX2_make_58 : decode cX2_make 58 = .ok (.invokestatic 84, 3) := by decide +kernel
theorem dX2_make_61 : decode cX2_make 61 = .ok (.aload_n 0, 1) := by decide +kernel
theorem dX2_make_62 : decode cX2_make 62 = .ok (.getfield 18, 3) := by decide +kernel
theorem dX2_make_65 : decode cX2_make 65 = .ok (.aload_n 0, 1) := by decide +kernel
theorem dX2_make_66 : decode cX2_make 66 = .ok (.getfield 30, 3) := by decide +kernel
theorem dX2_make_69 : decode cX2_make 69 = .ok (.invokevirtual 88, 3) := by decide +kernel
theorem dX2_make_72 : decode cX2_make 72 = .ok (.aload_n 0, 1) := by decide +kernel
theorem dX2_make_73 : decode cX2_make 73 = .ok (.getfield 24, 3) := by decide +kernel
theorem dX2_make_76 : decode cX2_make 76 = .ok (.aload_n 0, 1) := by decide +kernel
theorem dX2_make_77 : decode cX2_make 77 = .ok (.getfield 37, 3) := by decide +kernel
theorem dX2_make_80 : decode cX2_make 80 = .ok (.invokevirtual 88, 3) := by decide +kernel
theorem dX2_make_83 : decode cX2_make 83 = .ok (.aload_n 0, 1) := by decide +kernel
theorem dX2_make_84 : decode cX2_make 84 = .ok (.getfield 27, 3) := by decide +kernel
theorem dX2_make_87 : decode cX2_make 87 = .ok (.aload_n 0, 1) := by decide +kernel
theorem dX2_make_88 : decode cX2_make 88 = .ok (.getfield 40, 3) := by decide +kernel
theorem dX2_make_91 : decode cX2_make 91 = .ok (.invokevirtual 88, 3) := by decide +kernel
theorem dX2_make_94 : decode cX2_make 94 = .ok (.aload_n 0, 1) := by decide +kernel
theorem dX2_make_95 : decode cX2_make 95 = .ok (.invokevirtual 92, 3) := by decide +kernel
theorem dX2_make_98 : decode cX2_make 98 = .ok (.aload_n 0, 1) := by decide +kernel
theorem dX2_make_99 : decode cX2_make 99 = .ok (.invokevirtual 95, 3) := by decide +kernel
theorem dX2_make_102 : decode cX2_make 102 = .ok (.aload_n 0, 1) := by decide +kernel
theorem dX2_make_103 : decode cX2_make 103 = .ok (.iconst 1, 1) := by decide +kernel
theorem dX2_make_104 : decode cX2_make 104 = .ok (.putfield 70, 3) := by decide +kernel
theorem dX2_make_107 : decode cX2_make 107 = .ok (.return_, 1) := by decide +kernel
theorem dX2_findPrivateNumbers_0 : decode cX2_findPrivateNumbers 0 = .ok (.aload_n 0, 1) := by decide +kernel
theorem dX2_findPrivateNumbers_1 : decode cX2_findPrivateNumbers 1 = .ok (.getfield 52, 3) := by decide +kernel
theorem dX2_findPrivateNumbers_4 : decode cX2_findPrivateNumbers 4 = .ok (.aload_n 0, 1) := by decide +kernel
theorem dX2_findPrivateNumbers_5 : decode cX2_findPrivateNumbers 5 = .ok (.getfield 37, 3) := by decide +kernel
theorem dX2_findPrivateNumbers_8 : decode cX2_findPrivateNumbers 8 = .ok (.invokestatic 80, 3) := by decide +kernel
theorem dX2_findPrivateNumbers_11 : decode cX2_findPrivateNumbers 11 = .ok (.aload_n 0, 1) := by decide +kernel
theorem dX2_findPrivateNumbers_12 : decode cX2_findPrivateNumbers 12 = .ok (.getfield 52, 3) := by decide +kernel
theorem dX2_findPrivateNumbers_15 : decode cX2_findPrivateNumbers 15 = .ok (.lconst 1, 1) := by decide +kernel
theorem dX2_findPrivateNumbers_16 : decode cX2_findPrivateNumbers 16 = .ok (.invokestatic 98, 3) := by decide +kernel
theorem dX2_findPrivateNumbers_19 : decode cX2_findPrivateNumbers 19 = .ok (.aload_n 0, 1) := by decide +kernel
theorem dX2_findPrivateNumbers_20 : decode cX2_findPrivateNumbers 20 = .ok (.getfield 55, 3) := by decide +kernel
theorem dX2_findPrivateNumbers_23 : decode cX2_findPrivateNumbers 23 = .ok (.aload_n 0, 1) := by decide +kernel
theorem dX2_findPrivateNumbers_24 : decode cX2_findPrivateNumbers 24 = .ok (.getfield 40, 3) := by decide +kernel
theorem dX2_findPrivateNumbers_27 : decode cX2_findPrivateNumbers 27 = .ok (.invokestatic 80, 3) := by decide +kernel
theorem dX2_findPrivateNumbers_30 : decode cX2_findPrivateNumbers 30 = .ok (.aload_n 0, 1) := by decide +kernel
theorem dX2_findPrivateNumbers_31 : decode cX2_findPrivateNumbers 31 = .ok (.getfield 55, 3) := by decide +kernel
theorem dX2_findPrivateNumbers_34 : decode cX2_findPrivateNumbers 34 = .ok (.lconst 1, 1) := by decide +kernel
theorem dX2_findPrivateNumbers_35 : decode cX2_findPrivateNumbers 35 = .ok (.invokestatic 98, 3) := by decide +kernel
theorem dX2_findPrivateNumbers_38 : decode cX2_findPrivateNumbers 38 = .ok (.aload_n 0, 1) := by decide +kernel
theorem dX2_findPrivateNumbers_39 : decode cX2_findPrivateNumbers 39 = .ok (.getfield 58, 3) := by decide +kernel
theorem dX2_findPrivateNumbers_42 : decode cX2_findPrivateNumbers 42 = .ok (.aload_n 0, 1) := by decide +kernel
theorem dX2_findPrivateNumbers_43 : decode cX2_findPrivateNumbers 43 = .ok (.getfield 52, 3) := by decide +kernel
theorem dX2_findPrivateNumbers_46 : decode cX2_findPrivateNumbers 46 = .ok (.aload_n 0, 1) := by decide +kernel
theorem dX2_findPrivateNumbers_47 : decode cX2_findPrivateNumbers 47 = .ok (.getfield 55, 3) := by decide +kernel
theorem dX2_findPrivateNumbers_50 : decode cX2_findPrivateNumbers 50 = .ok (.invokestatic 84, 3) := by decide +kernel
theorem dX2_findPrivateNumbers_53 : decode cX2_findPrivateNumbers 53 = .ok (.aload_n 0, 1) := by decide +kernel
theorem dX2_findPrivateNumbers_54 : decode cX2_findPrivateNumbers 54 = .ok (.aload_n 0, 1) := by decide +kernel
theorem dX2_findPrivateNumbers_55 : decode cX2_findPrivateNumbers 55 = .ok (.getfield 34, 3) := by decide +kernel
theorem dX2_findPrivateNumbers_58 : decode cX2_findPrivateNumbers 58 = .ok (.aload_n 0, 1) := by decide +kernel
theorem dX2_findPrivateNumbers_59 : decode cX2_findPrivateNumbers 59 = .ok (.getfield 58, 3) := by decide +kernel
theorem dX2_findPrivateNumbers_62 : decode cX2_findPrivateNumbers 62 = .ok (.invokevirtual 102, 3) := by decide +kernel
theorem dX2_findPrivateNumbers_65 : decode cX2_findPrivateNumbers 65 = .ok (.aload_n 0, 1) := by decide +kernel
theorem dX2_findPrivateNumbers_66 : decode cX2_findPrivateNumbers 66 = .ok (.aload_n 0, 1) := by decide +kernel
theorem dX2_findPrivateNumbers_67 : decode cX2_findPrivateNumbers 67 = .ok (.getfield 43, 3) := by decide +kernel
theorem dX2_findPrivateNumbers_70 : decode cX2_findPrivateNumbers 70 = .ok (.aload_n 0, 1) := by decide +kernel
theorem dX2_findPrivateNumbers_71 : decode cX2_findPrivateNumbers 71 = .ok (.getfield 52, 3) := by decide +kernel
theorem dX2_findPrivateNumbers_74 : decode cX2_findPrivateNumbers 74 = .ok (.invokevirtual 102, 3) := by decide +kernel
theorem dX2_findPrivateNumbers_77 : decode cX2_findPrivateNumbers 77 = .ok (.aload_n 0, 1) := by decide +kernel
theorem dX2_findPrivateNumbers_78 : decode cX2_findPrivateNumbers 78 = .ok (.aload_n 0, 1) := by decide +kernel
theorem dX2_findPrivateNumbers_79 : decode cX2_findPrivateNumbers 79 = .ok (.getfield 46, 3) := by decide +kernel
theorem dX2_findPrivateNumbers_82 : decode cX2_findPrivateNumbers 82 = .ok (.aload_n 0, 1) := by decide +kernel
theorem dX2_findPrivateNumbers_83 : decode cX2_findPrivateNumbers 83 = .ok (.getfield 55, 3) := by decide +kernel
theorem dX2_findPrivateNumbers_86 : decode cX2_findPrivateNumbers 86 = .ok (.invokevirtual 102, 3) := by decide +kernel
theorem dX2_findPrivateNumbers_89 : decode cX2_findPrivateNumbers 89 = .ok (.return_, 1) := by decide +kernel
theorem dX2_findInverseOfQ_0 : decode cX2_findInverseOfQ 0 = .ok (.aload_n 0, 1) := by decide +kernel
theorem dX2_findInverseOfQ_1 : decode cX2_findInverseOfQ 1 = .ok (.getfield 52, 3) := by decide +kernel
theorem dX2_findInverseOfQ_4 : decode cX2_findInverseOfQ 4 = .ok (.aload_n 0, 1) := by decide +kernel
theorem dX2_findInverseOfQ_5 : decode cX2_findInverseOfQ 5 = .ok (.getfield 37, 3) := by decide +kernel
theorem dX2_findInverseOfQ_8 : decode cX2_findInverseOfQ 8 = .ok (.invokestatic 80, 3) := by decide +kernel
theorem dX2_findInverseOfQ_11 : decode cX2_findInverseOfQ 11 = .ok (.aload_n 0, 1) := by decide +kernel
theorem dX2_findInverseOfQ_12 : decode cX2_findInverseOfQ 12 = .ok (.getfield 52, 3) := by decide +kernel
theorem dX2_findInverseOfQ_15 : decode cX2_findInverseOfQ 15 = .ok (.ldc2_w 105, 3) := by decide +kernel
theorem dX2_findInverseOfQ_18 : decode cX2_findInverseOfQ 18 = .ok (.invokestatic 98, 3) := by decide +kernel
theorem dX2_findInverseOfQ_21 : decode cX2_findInverseOfQ 21 = .ok (.aload_n 0, 1) := by decide +kernel
theorem dX2_findInverseOfQ_22 : decode cX2_findInverseOfQ 22 = .ok (.getfield 24, 3) := by decide +kernel
theorem dX2_findInverseOfQ_25 : decode cX2_findInverseOfQ 25 = .ok (.aload_n 0, 1) := by decide +kernel
theorem dX2_findInverseOfQ_26 : decode cX2_findInverseOfQ 26 = .ok (.getfield 49, 3) := by decide +kernel
theorem dX2_findInverseOfQ_29 : decode cX2_findInverseOfQ 29 = .ok (.aload_n 0, 1) := by decide +kernel
theorem dX2_findInverseOfQ_30 : decode cX2_findInverseOfQ 30 = .ok (.getfield 40, 3) := by decide +kernel
theorem dX2_findInverseOfQ_33 : decode cX2_findInverseOfQ 33 = .ok (.aload_n 0, 1) := by decide +kernel
theorem dX2_findInverseOfQ_34 : decode cX2_findInverseOfQ 34 = .ok (.getfield 52, 3) := by decide +kernel
theorem dX2_findInverseOfQ_37 : decode cX2_findInverseOfQ 37 = .ok (.invokevirtual 107, 3) := by decide +kernel
theorem dX2_findInverseOfQ_40 : decode cX2_findInverseOfQ 40 = .ok (.return_, 1) := by decide +kernel
theorem dX2_invertE_0 : decode cX2_invertE 0 = .ok (.ldc2_w 110, 3) := by decide +kernel
theorem dX2_invertE_3 : decode cX2_invertE 3 = .ok (.aload_n 2, 1) := by decide +kernel
theorem dX2_invertE_4 : decode cX2_invertE 4 = .ok (.ldc 112, 2) := by decide +kernel
theorem dX2_invertE_6 : decode cX2_invertE 6 = .ok (.invokestatic 113, 3) := by decide +kernel
theorem dX2_invertE_9 : decode cX2_invertE 9 = .ok (.invokestatic 117, 3) := by decide +kernel
theorem dX2_invertE_12 : decode cX2_invertE 12 = .ok (.lsub, 1) := by decide +kernel
theorem dX2_invertE_13 : decode cX2_invertE 13 = .ok (.lstore_n 3, 1) := by decide +kernel
theorem dX2_invertE_14 : decode cX2_invertE 14 = .ok (.aload_n 2, 1) := by decide +kernel
theorem dX2_invertE_15 : decode cX2_invertE 15 = .ok (.arraylength, 1) := by decide +kernel
theorem dX2_invertE_16 : decode cX2_invertE 16 = .ok (.aload_n 0, 1) := by decide +kernel
theorem dX2_invertE_17 : decode cX2_invertE 17 = .ok (.getfield 61, 3) := by decide +kernel
theorem dX2_invertE_20 : decode cX2_invertE 20 = .ok (.arraylength, 1) := by decide +kernel
theorem dX2_invertE_21 : decode cX2_invertE 21 = .ok (.if_icmp .lt 4, 3) := by decide +kernel
theorem dX2_invertE_24 : decode cX2_invertE 24 = .ok (.return_, 1) := by decide +kernel
theorem dX2_invertE_25 : decode cX2_invertE 25 = .ok (.lconst 1, 1) := by decide +kernel
theorem dX2_invertE_26 : decode cX2_invertE 26 = .ok (.lstore 5, 2) := by decide +kernel
theorem dX2_invertE_28 : decode cX2_invertE 28 = .ok (.iconst 0, 1) := by decide +kernel
theorem dX2_invertE_29 : decode cX2_invertE 29 = .ok (.istore 7, 2) := by decide +kernel
theorem dX2_invertE_31 : decode cX2_invertE 31 = .ok (.iload 7, 2) := by decide +kernel
theorem dX2_invertE_33 : decode cX2_invertE 33 = .ok (.aload_n 2, 1) := by decide +kernel
theorem dX2_invertE_34 : decode cX2_invertE 34 = .ok (.arraylength, 1) := by decide +kernel
theorem dX2_invertE_35 : decode cX2_invertE 35 = .ok (.if_icmp .ge 40, 3) := by decide +kernel
theorem dX2_invertE_38 : decode cX2_invertE 38 = .ok (.aload_n 2, 1) := by decide +kernel
theorem dX2_invertE_39 : decode cX2_invertE 39 = .ok (.iload 7, 2) := by decide +kernel
theorem dX2_invertE_41 : decode cX2_invertE 41 = .ok (.laload, 1) := by decide +kernel
theorem dX2_invertE_42 : decode cX2_invertE 42 = .ok (.lload_n 3, 1) := by decide +kernel
theorem dX2_invertE_43 : decode cX2_invertE 43 = .ok (.lmul, 1) := by decide +kernel
theorem dX2_invertE_44 : decode cX2_invertE 44 = .ok (.lload 5, 2) := by decide +kernel
theorem dX2_invertE_46 : decode cX2_invertE 46 = .ok (.ladd, 1) := by decide +kernel
theorem dX2_invertE_47 : decode cX2_invertE 47 = .ok (.lstore 8, 2) := by decide +kernel
theorem dX2_invertE_49 : decode cX2_invertE 49 = .ok (.aload_n 0, 1) := by decide +kernel
theorem dX2_invertE_50 : decode cX2_invertE 50 = .ok (.getfield 61, 3) := by decide +kernel
theorem dX2_invertE_53 : decode cX2_invertE 53 = .ok (.iload 7, 2) := by decide +kernel
theorem dX2_invertE_55 : decode cX2_invertE 55 = .ok (.lload 8, 2) := by decide +kernel
theorem dX2_invertE_57 : decode cX2_invertE 57 = .ok (.ldc2_w 121, 3) := by decide +kernel
theorem dX2_invertE_60 : decode cX2_invertE 60 = .ok (.land, 1) := by decide +kernel
theorem dX2_invertE_61 : decode cX2_invertE 61 = .ok (.lastore, 1) := by decide +kernel
theorem dX2_invertE_62 : decode cX2_invertE 62 = .ok (.lload 8, 2) := by decide +kernel
theorem dX2_invertE_64 : decode cX2_invertE 64 = .ok (.bipush 32, 2) := by decide +kernel
theorem dX2_invertE_66 : decode cX2_invertE 66 = .ok (.lushr, 1) := by decide +kernel
theorem dX2_invertE_67 : decode cX2_invertE 67 = .ok (.lstore 5, 2) := by decide +kernel
theorem dX2_invertE_69 : decode cX2_invertE 69 = .ok (.iinc 7 1, 3) := by decide +kernel
theorem dX2_invertE_72 : decode cX2_invertE 72 = .ok (.goto (-41), 3) := by decide +kernel
theorem dX2_invertE_75 : decode cX2_invertE 75 = .ok (.aload_n 0, 1) := by decide +kernel
theorem dX2_invertE_76 : decode cX2_invertE 76 = .ok (.getfield 61, 3) := by decide +kernel
theorem dX2_invertE_79 : decode cX2_invertE 79 = .ok (.aload_n 2, 1) := by decide +kernel
theorem dX2_invertE_80 : decode cX2_invertE 80 = .ok (.arraylength, 1) := by decide +kernel
theorem dX2_invertE_81 : decode cX2_invertE 81 = .ok (.lload 5, 2) := by decide +kernel
theorem dX2_invertE_83 : decode cX2_invertE 83 = .ok (.lastore, 1) := by decide +kernel
theorem dX2_invertE_84 : decode cX2_invertE 84 = .ok (.lconst 0, 1) := by decide +kernel
theorem dX2_invertE_85 : decode cX2_invertE 85 = .ok (.lstore 7, 2) := by decide +kernel
theorem dX2_invertE_87 : decode cX2_invertE 87 = .ok (.aload_n 2, 1) := by decide +kernel
theorem dX2_invertE_88 : decode cX2_invertE 88 = .ok (.arraylength, 1) := by decide +kernel
theorem dX2_invertE_89 : decode cX2_invertE 89 = .ok (.istore 9, 2) := by decide +kernel
theorem dX2_invertE_91 : decode cX2_invertE 91 = .ok (.iload 9, 2) := by decide +kernel
theorem dX2_invertE_93 : decode cX2_invertE 93 = .ok (.ifCond .lt 49, 3) := by decide +kernel
theorem dX2_invertE_96 : decode cX2_invertE 96 = .ok (.lload 7, 2) := by decide +kernel
theorem dX2_invertE_98 : decode cX2_invertE 98 = .ok (.bipush 32, 2) := by decide +kernel
theorem dX2_invertE_100 : decode cX2_invertE 100 = .ok (.lshl, 1) := by decide +kernel
theorem dX2_invertE_101 : decode cX2_invertE 101 = .ok (.aload_n 0, 1) := by decide +kernel
theorem dX2_invertE_102 : decode cX2_invertE 102 = .ok (.getfield 61, 3) := by decide +kernel
theorem dX2_invertE_105 : decode cX2_invertE 105 = .ok (.iload 9, 2) := by decide +kernel
theorem dX2_invertE_107 : decode cX2_invertE 107 = .ok (.laload, 1) := by decide +kernel
theorem dX2_invertE_108 : decode cX2_invertE 108 = .ok (.lor, 1) := by decide +kernel
theorem dX2_invertE_109 : decode cX2_invertE 109 = .ok (.lstore 10, 2) := by decide +kernel
theorem dX2_invertE_111 : decode cX2_invertE 111 = .ok (.iload 9, 2) := by decide +kernel
theorem dX2_invertE_113 : decode cX2_invertE 113 = .ok (.aload_n 1, 1) := by decide +kernel
theorem dX2_invertE_114 : decode cX2_invertE 114 = .ok (.arraylength, 1) := by decide +kernel
theorem dX2_invertE_115 : decode cX2_invertE 115 = .ok (.if_icmp .ge 13, 3) := by decide +kernel
theorem dX2_invertE_118 : decode cX2_invertE 118 = .ok (.aload_n 1, 1) := by decide +kernel
theorem dX2_invertE_119 : decode cX2_invertE 119 = .ok (.iload 9, 2) := by decide +kernel
theorem dX2_invertE_121 : decode cX2_invertE 121 = .ok (.lload 10, 2) := by decide +kernel
theorem dX2_invertE_123 : decode cX2_invertE 123 = .ok (.ldc2_w 110, 3) := by decide +kernel
theorem dX2_invertE_126 : decode cX2_invertE 126 = .ok (.ldiv, 1) := by decide +kernel
theorem dX2_invertE_127 : decode cX2_invertE 127 = .ok (.lastore, 1) := by decide +kernel
theorem dX2_invertE_128 : decode cX2_invertE 128 = .ok (.lload 10, 2) := by decide +kernel
theorem dX2_invertE_130 : decode cX2_invertE 130 = .ok (.ldc2_w 110, 3) := by decide +kernel
theorem dX2_invertE_133 : decode cX2_invertE 133 = .ok (.lrem, 1) := by decide +kernel
theorem dX2_invertE_134 : decode cX2_invertE 134 = .ok (.lstore 7, 2) := by decide +kernel
theorem dX2_invertE_136 : decode cX2_invertE 136 = .ok (.iinc 9 (-1), 3) := by decide +kernel
theorem dX2_invertE_139 : decode cX2_invertE 139 = .ok (.goto (-48), 3) := by decide +kernel
theorem dX2_invertE_142 : decode cX2_invertE 142 = .ok (.return_, 1) := by decide +kernel
theorem dX2_inverseByE_0 : decode cX2_inverseByE 0 = .ok (.lconst 1, 1) := by decide +kernel
theorem dX2_inverseByE_1 : decode cX2_inverseByE 1 = .ok (.lstore_n 2, 1) := by decide +kernel
theorem dX2_inverseByE_2 : decode cX2_inverseByE 2 = .ok (.iconst 0, 1) := by decide +kernel
theorem dX2_inverseByE_3 : decode cX2_inverseByE 3 = .ok (.istore 4, 2) := by decide +kernel
theorem dX2_inverseByE_5 : decode cX2_inverseByE 5 = .ok (.iload 4, 2) := by decide +kernel
theorem dX2_inverseByE_7 : decode cX2_inverseByE 7 = .ok (.bipush 16, 2) := by decide +kernel
theorem dX2_inverseByE_9 : decode cX2_inverseByE 9 = .ok (.if_icmp .ge 23, 3) := by decide +kernel
theorem dX2_inverseByE_12 : decode cX2_inverseByE 12 = .ok (.lload_n 2, 1) := by decide +kernel
theorem dX2_inverseByE_13 : decode cX2_inverseByE 13 = .ok (.lload_n 2, 1) := by decide +kernel
theorem dX2_inverseByE_14 : decode cX2_inverseByE 14 = .ok (.lmul, 1) := by decide +kernel
theorem dX2_inverseByE_15 : decode cX2_inverseByE 15 = .ok (.ldc2_w 110, 3) := by decide +kernel
theorem dX2_inverseByE_18 : decode cX2_inverseByE 18 = .ok (.lrem, 1) := by decide +kernel
theorem dX2_inverseByE_19 : decode cX2_inverseByE 19 = .ok (.lload_n 0, 1) := by decide +kernel
theorem dX2_inverseByE_20 : decode cX2_inverseByE 20 = .ok (.lmul, 1) := by decide +kernel
theorem dX2_inverseByE_21 : decode cX2_inverseByE 21 = .ok (.ldc2_w 110, 3) := by decide +kernel
theorem dX2_inverseByE_24 : decode cX2_inverseByE 24 = .ok (.lrem, 1) := by decide +kernel
theorem dX2_inverseByE_25 : decode cX2_inverseByE 25 = .ok (.lstore_n 2, 1) := by decide +kernel
theorem dX2_inverseByE_26 : decode cX2_inverseByE 26 = .ok (.iinc 4 1, 3) := by decide +kernel
theorem dX2_inverseByE_29 : decode cX2_inverseByE 29 = .ok (.goto (-24), 3) := by decide +kernel
theorem dX2_inverseByE_32 : decode cX2_inverseByE 32 = .ok (.lload_n 2, 1) := by decide +kernel
theorem dX2_inverseByE_33 : decode cX2_inverseByE 33 = .ok (.lreturn, 1) := by decide +kernel
theorem dX2_isBelowN_0 : decode cX2_isBelowN 0 = .ok (.aload_n 1, 1) := by decide +kernel
theorem dX2_isBelowN_1 : decode cX2_isBelowN 1 = .ok (.aload_n 0, 1) := by decide +kernel
theorem dX2_isBelowN_2 : decode cX2_isBelowN 2 = .ok (.getfield 30, 3) := by decide +kernel
theorem dX2_isBelowN_5 : decode cX2_isBelowN 5 = .ok (.invokestatic 74, 3) := by decide +kernel
theorem dX2_isBelowN_8 : decode cX2_isBelowN 8 = .ok (.ifCond .ge 7, 3) := by decide +kernel
theorem dX2_isBelowN_11 : decode cX2_isBelowN 11 = .ok (.iconst 1, 1) := by decide +kernel
theorem dX2_isBelowN_12 : decode cX2_isBelowN 12 = .ok (.goto 4, 3) := by decide +kernel
theorem dX2_isBelowN_15 : decode cX2_isBelowN 15 = .ok (.iconst 0, 1) := by decide +kernel
theorem dX2_isBelowN_16 : decode cX2_isBelowN 16 = .ok (.ireturn, 1) := by decide +kernel
theorem dX2_raisePublic_0 : decode cX2_raisePublic 0 = .ok (.aload_n 0, 1) := by decide +kernel
theorem dX2_raisePublic_1 : decode cX2_raisePublic 1 = .ok (.getfield 18, 3) := by decide +kernel
theorem dX2_raisePublic_4 : decode cX2_raisePublic 4 = .ok (.aload_n 1, 1) := by decide +kernel
theorem dX2_raisePublic_5 : decode cX2_raisePublic 5 = .ok (.aload_n 2, 1) := by decide +kernel
theorem dX2_raisePublic_6 : decode cX2_raisePublic 6 = .ok (.getstatic 123, 3) := by decide +kernel
theorem dX2_raisePublic_9 : decode cX2_raisePublic 9 = .ok (.invokevirtual 107, 3) := by decide +kernel
theorem dX2_raisePublic_12 : decode cX2_raisePublic 12 = .ok (.return_, 1) := by decide +kernel
theorem dX2_raisePrivate_0 : decode cX2_raisePrivate 0 = .ok (.aload_n 0, 1) := by decide +kernel
theorem dX2_raisePrivate_1 : decode cX2_raisePrivate 1 = .ok (.getfield 18, 3) := by decide +kernel
theorem dX2_raisePrivate_4 : decode cX2_raisePrivate 4 = .ok (.aload_n 1, 1) := by decide +kernel
theorem dX2_raisePrivate_5 : decode cX2_raisePrivate 5 = .ok (.aload_n 2, 1) := by decide +kernel
theorem dX2_raisePrivate_6 : decode cX2_raisePrivate 6 = .ok (.aload_n 0, 1) := by decide +kernel
theorem dX2_raisePrivate_7 : decode cX2_raisePrivate 7 = .ok (.getfield 34, 3) := by decide +kernel
theorem dX2_raisePrivate_10 : decode cX2_raisePrivate 10 = .ok (.invokevirtual 107, 3) := by decide +kernel
theorem dX2_raisePrivate_13 : decode cX2_raisePrivate 13 = .ok (.return_, 1) := by decide +kernel
theorem dX2_makeSignature_0 : decode cX2_makeSignature 0 = .ok (.aload_n 0, 1) := by decide +kernel
theorem dX2_makeSignature_1 : decode cX2_makeSignature 1 = .ok (.getfield 24, 3) := by decide +kernel
theorem dX2_makeSignature_4 : decode cX2_makeSignature 4 = .ok (.aload_n 0, 1) := by decide +kernel
theorem dX2_makeSignature_5 : decode cX2_makeSignature 5 = .ok (.getfield 64, 3) := by decide +kernel
theorem dX2_makeSignature_8 : decode cX2_makeSignature 8 = .ok (.aload_n 2, 1) := by decide +kernel
theorem dX2_makeSignature_9 : decode cX2_makeSignature 9 = .ok (.invokevirtual 126, 3) := by decide +kernel
theorem dX2_makeSignature_12 : decode cX2_makeSignature 12 = .ok (.aload_n 0, 1) := by decide +kernel
theorem dX2_makeSignature_13 : decode cX2_makeSignature 13 = .ok (.getfield 24, 3) := by decide +kernel
theorem dX2_makeSignature_16 : decode cX2_makeSignature 16 = .ok (.aload_n 0, 1) := by decide +kernel
theorem dX2_makeSignature_17 : decode cX2_makeSignature 17 = .ok (.getfield 64, 3) := by decide +kernel
theorem dX2_makeSignature_20 : decode cX2_makeSignature 20 = .ok (.aload_n 0, 1) := by decide +kernel
theorem dX2_makeSignature_21 : decode cX2_makeSignature 21 = .ok (.getfield 64, 3) := by decide +kernel
theorem dX2_makeSignature_24 : decode cX2_makeSignature 24 = .ok (.aload_n 0, 1) := by decide +kernel
theorem dX2_makeSignature_25 : decode cX2_makeSignature 25 = .ok (.getfield 43, 3) := by decide +kernel
theorem dX2_makeSignature_28 : decode cX2_makeSignature 28 = .ok (.invokevirtual 107, 3) := by decide +kernel
theorem dX2_makeSignature_31 : decode cX2_makeSignature 31 = .ok (.aload_n 0, 1) := by decide +kernel
theorem dX2_makeSignature_32 : decode cX2_makeSignature 32 = .ok (.getfield 27, 3) := by decide +kernel
theorem dX2_makeSignature_35 : decode cX2_makeSignature 35 = .ok (.aload_n 0, 1) := by decide +kernel
theorem dX2_makeSignature_36 : decode cX2_makeSignature 36 = .ok (.getfield 67, 3) := by decide +kernel
theorem dX2_makeSignature_39 : decode cX2_makeSignature 39 = .ok (.aload_n 2, 1) := by decide +kernel
theorem dX2_makeSignature_40 : decode cX2_makeSignature 40 = .ok (.invokevirtual 126, 3) := by decide +kernel
theorem dX2_makeSignature_43 : decode cX2_makeSignature 43 = .ok (.aload_n 0, 1) := by decide +kernel
theorem dX2_makeSignature_44 : decode cX2_makeSignature 44 = .ok (.getfield 27, 3) := by decide +kernel
theorem dX2_makeSignature_47 : decode cX2_makeSignature 47 = .ok (.aload_n 0, 1) := by decide +kernel
theorem dX2_makeSignature_48 : decode cX2_makeSignature 48 = .ok (.getfield 67, 3) := by decide +kernel
theorem dX2_makeSignature_51 : decode cX2_makeSignature 51 = .ok (.aload_n 0, 1) := by decide +kernel
theorem dX2_makeSignature_52 : decode cX2_makeSignature 52 = .ok (.getfield 67, 3) := by decide +kernel
theorem dX2_makeSignature_55 : decode cX2_makeSignature 55 = .ok (.aload_n 0, 1) := by decide +kernel
theorem dX2_makeSignature_56 : decode cX2_makeSignature 56 = .ok (.getfield 46, 3) := by decide +kernel
theorem dX2_makeSignature_59 : decode cX2_makeSignature 59 = .ok (.invokevirtual 107, 3) := by decide +kernel
theorem dX2_makeSignature_62 : decode cX2_makeSignature 62 = .ok (.aload_n 0, 1) := by decide +kernel
theorem dX2_makeSignature_63 : decode cX2_makeSignature 63 = .ok (.getfield 64, 3) := by decide +kernel
theorem dX2_makeSignature_66 : decode cX2_makeSignature 66 = .ok (.aload_n 0, 1) := by decide +kernel
theorem dX2_makeSignature_67 : decode cX2_makeSignature 67 = .ok (.getfield 64, 3) := by decide +kernel
theorem dX2_makeSignature_70 : decode cX2_makeSignature 70 = .ok (.aload_n 0, 1) := by decide +kernel
theorem dX2_makeSignature_71 : decode cX2_makeSignature 71 = .ok (.getfield 67, 3) := by decide +kernel
theorem dX2_makeSignature_74 : decode cX2_makeSignature 74 = .ok (.invokestatic 129, 3) := by decide +kernel
theorem dX2_makeSignature_77 : decode cX2_makeSignature 77 = .ok (.ifCond .eq 14, 3) := by decide +kernel
theorem dX2_makeSignature_80 : decode cX2_makeSignature 80 = .ok (.aload_n 0, 1) := by decide +kernel
theorem dX2_makeSignature_81 : decode cX2_makeSignature 81 = .ok (.getfield 64, 3) := by decide +kernel
theorem dX2_makeSignature_84 : decode cX2_makeSignature 84 = .ok (.aload_n 0, 1) := by decide +kernel
theorem dX2_makeSignature_85 : decode cX2_makeSignature 85 = .ok (.getfield 37, 3) := by decide +kernel
theorem dX2_makeSignature_88 : decode cX2_makeSignature 88 = .ok (.invokestatic 133, 3) := by decide +kernel
theorem dX2_makeSignature_91 : decode cX2_makeSignature 91 = .ok (.aload_n 0, 1) := by decide +kernel
theorem dX2_makeSignature_92 : decode cX2_makeSignature 92 = .ok (.getfield 24, 3) := by decide +kernel
theorem dX2_makeSignature_95 : decode cX2_makeSignature 95 = .ok (.aload_n 0, 1) := by decide +kernel
theorem dX2_makeSignature_96 : decode cX2_makeSignature 96 = .ok (.getfield 64, 3) := by decide +kernel
theorem dX2_makeSignature_99 : decode cX2_makeSignature 99 = .ok (.aload_n 0, 1) := by decide +kernel
theorem dX2_makeSignature_100 : decode cX2_makeSignature 100 = .ok (.getfield 64, 3) := by decide +kernel
theorem dX2_makeSignature_103 : decode cX2_makeSignature 103 = .ok (.aload_n 0, 1) := by decide +kernel
theorem dX2_makeSignature_104 : decode cX2_makeSignature 104 = .ok (.getfield 49, 3) := by decide +kernel
theorem dX2_makeSignature_107 : decode cX2_makeSignature 107 = .ok (.invokevirtual 136, 3) := by decide +kernel
theorem dX2_makeSignature_110 : decode cX2_makeSignature 110 = .ok (.aload_n 1, 1) := by decide +kernel
theorem dX2_makeSignature_111 : decode cX2_makeSignature 111 = .ok (.aload_n 0, 1) := by decide +kernel
theorem dX2_makeSignature_112 : decode cX2_makeSignature 112 = .ok (.getfield 64, 3) := by decide +kernel
theorem dX2_makeSignature_115 : decode cX2_makeSignature 115 = .ok (.aload_n 0, 1) := by decide +kernel
theorem dX2_makeSignature_116 : decode cX2_makeSignature 116 = .ok (.getfield 40, 3) := by decide +kernel
theorem dX2_makeSignature_119 : decode cX2_makeSignature 119 = .ok (.invokestatic 84, 3) := by decide +kernel
theorem dX2_makeSignature_122 : decode cX2_makeSignature 122 = .ok (.aload_n 1, 1) := by decide +kernel
theorem dX2_makeSignature_123 : decode cX2_makeSignature 123 = .ok (.aload_n 0, 1) := by decide +kernel
theorem dX2_makeSignature_124 : decode cX2_makeSignature 124 = .ok (.getfield 67, 3) := by decide +kernel
theorem dX2_makeSignature_127 : decode cX2_makeSignature 127 = .ok (.invokestatic 133, 3) := by decide +kernel
theorem dX2_makeSignature_130 : decode cX2_makeSignature 130 = .ok (.return_, 1) := by decide +kernel
theorem dX3_init_0 : decode cX3_init 0 = .ok (.aload_n 0, 1) := by decide +kernel
theorem dX3_init_1 : decode cX3_init 1 = .ok (.invokespecial 1, 3) := by decide +kernel
theorem dX3_init_4 : decode cX3_init 4 = .ok (.aload_n 0, 1) := by decide +kernel
theorem dX3_init_5 : decode cX3_init 5 = .ok (.sipush 300, 3) := by decide +kernel
theorem dX3_init_8 : decode cX3_init 8 = .ok (.newarray .byte, 2) := by decide +kernel
theorem dX3_init_10 : decode cX3_init 10 = .ok (.putfield 9, 3) := by decide +kernel
theorem dX3_init_13 : decode cX3_init 13 = .ok (.aload_n 0, 1) := by decide +kernel
theorem dX3_init_14 : decode cX3_init 14 = .ok (.new 13, 3) := by decide +kernel
theorem dX3_init_17 : decode cX3_init 17 = .ok (.dup, 1) := by decide +kernel
theorem dX3_init_18 : decode cX3_init 18 = .ok (.invokespecial 15, 3) := by decide +kernel
theorem dX3_init_21 : decode cX3_init 21 = .ok (.putfield 16, 3) := by decide +kernel
theorem dX3_init_24 : decode cX3_init 24 = .ok (.aload_n 0, 1) := by decide +kernel
theorem dX3_init_25 : decode cX3_init 25 = .ok (.invokevirtual 20, 3) := by decide +kernel
theorem dX3_init_28 : decode cX3_init 28 = .ok (.return_, 1) := by decide +kernel
theorem dX3_byteCount_0 : decode cX3_byteCount 0 = .ok (.aload_n 0, 1) := by decide +kernel
theorem dX3_byteCount_1 : decode cX3_byteCount 1 = .ok (.getfield 23, 3) := by decide +kernel
theorem dX3_byteCount_4 : decode cX3_byteCount 4 = .ok (.ireturn, 1) := by decide +kernel
theorem dX3_append_0 : decode cX3_append 0 = .ok (.iload_n 3, 1) := by decide +kernel
theorem dX3_append_1 : decode cX3_append 1 = .ok (.iconst 1, 1) := by decide +kernel
theorem dX3_append_2 : decode cX3_append 2 = .ok (.isub, 1) := by decide +kernel
theorem dX3_append_3 : decode cX3_append 3 = .ok (.istore 4, 2) := by decide +kernel
theorem dX3_append_5 : decode cX3_append 5 = .ok (.iload 4, 2) := by decide +kernel
theorem dX3_append_7 : decode cX3_append 7 = .ok (.ifCond .lt 49, 3) := by decide +kernel
theorem dX3_append_10 : decode cX3_append 10 = .ok (.aload_n 0, 1) := by decide +kernel
theorem dX3_append_11 : decode cX3_append 11 = .ok (.getfield 23, 3) := by decide +kernel
theorem dX3_append_14 : decode cX3_append 14 = .ok (.aload_n 0, 1) := by decide +kernel
theorem dX3_append_15 : decode cX3_append 15 = .ok (.getfield 9, 3) := by decide +kernel
theorem dX3_append_18 : decode cX3_append 18 = .ok (.arraylength, 1) := by decide +kernel
theorem dX3_append_19 : decode cX3_append 19 = .ok (.if_icmp .ge 37, 3) := by decide +kernel
theorem dX3_append_22 : decode cX3_append 22 = .ok (.aload_n 0, 1) := by decide +kernel
theorem dX3_append_23 : decode cX3_append 23 = .ok (.getfield 9, 3) := by decide +kernel
theorem dX3_append_26 : decode cX3_append 26 = .ok (.aload_n 0, 1) := by decide +kernel
theorem dX3_append_27 : decode cX3_append 27 = .ok (.getfield 23, 3) := by decide +kernel
theorem dX3_append_30 : decode cX3_append 30 = .ok (.lload_n 1, 1) := by decide +kernel
theorem dX3_append_31 : decode cX3_append 31 = .ok (.bipush 8, 2) := by decide +kernel
theorem dX3_append_33 : decode cX3_append 33 = .ok (.iload 4, 2) := by decide +kernel
theorem dX3_append_35 : decode cX3_append 35 = .ok (.imul, 1) := by decide +kernel
theorem dX3_append_36 : decode cX3_append 36 = .ok (.lushr, 1) := by decide +kernel
theorem dX3_append_37 : decode cX3_append 37 = .ok (.l2i, 1) := by decide +kernel
theorem dX3_append_38 : decode cX3_append 38 = .ok (.i2b, 1) := by decide +kernel
theorem dX3_append_39 : decode cX3_append 39 = .ok (.bastore, 1) := by decide +kernel
theorem dX3_append_40 : decode cX3_append 40 = .ok (.aload_n 0, 1) := by decide +kernel
theorem dX3_append_41 : decode cX3_append 41 = .ok (.dup, 1) := by decide +kernel
theorem dX3_append_42 : decode cX3_append 42 = .ok (.getfield 23, 3) := by decide +kernel
theorem dX3_append_45 : decode cX3_append 45 = .ok (.iconst 1, 1) := by decide +kernel
theorem dX3_append_46 : decode cX3_append 46 = .ok (.iadd, 1) := by decide +kernel
theorem dX3_append_47 : decode cX3_append 47 = .ok (.putfield 23, 3) := by decide +kernel
theorem dX3_append_50 : decode cX3_append 50 = .ok (.iinc 4 (-1), 3) := by decide +kernel
theorem dX3_append_53 : decode cX3_append 53 = .ok (.goto (-48), 3) := by decide +kernel
theorem dX3_append_56 : decode cX3_append 56 = .ok (.aload_n 0, 1) := by decide +kernel
theorem dX3_append_57 : decode cX3_append 57 = .ok (.invokevirtual 20, 3) := by decide +kernel
theorem dX3_append_60 : decode cX3_append 60 = .ok (.return_, 1) := by decide +kernel
theorem dX3_keepFirst_0 : decode cX3_keepFirst 0 = .ok (.aload_n 0, 1) := by decide +kernel
theorem dX3_keepFirst_1 : decode cX3_keepFirst 1 = .ok (.iload_n 1, 1) := by decide +kernel
theorem dX3_keepFirst_2 : decode cX3_keepFirst 2 = .ok (.putfield 23, 3) := by decide +kernel
theorem dX3_keepFirst_5 : decode cX3_keepFirst 5 = .ok (.aload_n 0, 1) := by decide +kernel
theorem dX3_keepFirst_6 : decode cX3_keepFirst 6 = .ok (.invokevirtual 20, 3) := by decide +kernel
theorem dX3_keepFirst_9 : decode cX3_keepFirst 9 = .ok (.return_, 1) := by decide +kernel
theorem dX3_hashByte_0 : decode cX3_hashByte 0 = .ok (.aload_n 0, 1) := by decide +kernel
theorem dX3_hashByte_1 : decode cX3_hashByte 1 = .ok (.getfield 16, 3) := by decide +kernel
theorem dX3_hashByte_4 : decode cX3_hashByte 4 = .ok (.iload_n 1, 1) := by decide +kernel
theorem dX3_hashByte_5 : decode cX3_hashByte 5 = .ok (.invokevirtual 27, 3) := by decide +kernel
theorem dX3_hashByte_8 : decode cX3_hashByte 8 = .ok (.ireturn, 1) := by decide +kernel
theorem dX3_makeHash_0 : decode cX3_makeHash 0 = .ok (.aload_n 0, 1) := by decide +kernel
theorem dX3_makeHash_1 : decode cX3_makeHash 1 = .ok (.getfield 16, 3) := by decide +kernel
theorem dX3_makeHash_4 : decode cX3_makeHash 4 = .ok (.aload_n 0, 1) := by decide +kernel
theorem dX3_makeHash_5 : decode cX3_makeHash 5 = .ok (.getfield 9, 3) := by decide +kernel
theorem dX3_makeHash_8 : decode cX3_makeHash 8 = .ok (.aload_n 0, 1) := by decide +kernel
theorem dX3_makeHash_9 : decode cX3_makeHash 9 = .ok (.getfield 23, 3) := by decide +kernel
theorem dX3_makeHash_12 : decode cX3_makeHash 12 = .ok (.invokevirtual 31, 3) := by decide +kernel
theorem dX3_makeHash_15 : decode cX3_makeHash 15 = .ok (.return_, 1) := by decide +kernel
theorem dX4_init_0 : decode cX4_init 0 = .ok (.aload_n 0, 1) := by decide +kernel
theorem dX4_init_1 : decode cX4_init 1 = .ok (.invokespecial 1, 3) := by decide +kernel
theorem dX4_init_4 : decode cX4_init 4 = .ok (.aload_n 0, 1) := by decide +kernel
theorem dX4_init_5 : decode cX4_init 5 = .ok (.iconst 1, 1) := by decide +kernel
theorem dX4_init_6 : decode cX4_init 6 = .ok (.iload_n 1, 1) := by decide +kernel
theorem dX4_init_7 : decode cX4_init 7 = .ok (.invokestatic 7, 3) := by decide +kernel
theorem dX4_init_10 : decode cX4_init 10 = .ok (.putfield 13, 3) := by decide +kernel
theorem dX4_init_13 : decode cX4_init 13 = .ok (.aload_n 0, 1) := by decide +kernel
theorem dX4_init_14 : decode cX4_init 14 = .ok (.aload_n 0, 1) := by decide +kernel
theorem dX4_init_15 : decode cX4_init 15 = .ok (.getfield 13, 3) := by decide +kernel
theorem dX4_init_18 : decode cX4_init 18 = .ok (.newarray .long, 2) := by decide +kernel
theorem dX4_init_20 : decode cX4_init 20 = .ok (.putfield 19, 3) := by decide +kernel
theorem dX4_init_23 : decode cX4_init 23 = .ok (.aload_n 0, 1) := by decide +kernel
theorem dX4_init_24 : decode cX4_init 24 = .ok (.aload_n 0, 1) := by decide +kernel
theorem dX4_init_25 : decode cX4_init 25 = .ok (.getfield 13, 3) := by decide +kernel
theorem dX4_init_28 : decode cX4_init 28 = .ok (.newarray .long, 2) := by decide +kernel
theorem dX4_init_30 : decode cX4_init 30 = .ok (.putfield 23, 3) := by decide +kernel
theorem dX4_init_33 : decode cX4_init 33 = .ok (.aload_n 0, 1) := by decide +kernel
theorem dX4_init_34 : decode cX4_init 34 = .ok (.aload_n 0, 1) := by decide +kernel
theorem dX4_init_35 : decode cX4_init 35 = .ok (.getfield 13, 3) := by decide +kernel
theorem dX4_init_38 : decode cX4_init 38 = .ok (.newarray .long, 2) := by decide +kernel
theorem dX4_init_40 : decode cX4_init 40 = .ok (.putfield 26, 3) := by decide +kernel
theorem dX4_init_43 : decode cX4_init 43 = .ok (.aload_n 0, 1) := by decide +kernel
theorem dX4_init_44 : decode cX4_init 44 = .ok (.aload_n 0, 1) := by decide +kernel
theorem dX4_init_45 : decode cX4_init 45 = .ok (.getfield 13, 3) := by decide +kernel
theorem dX4_init_48 : decode cX4_init 48 = .ok (.newarray .long, 2) := by decide +kernel
theorem dX4_init_50 : decode cX4_init 50 = .ok (.putfield 29, 3) := by decide +kernel
theorem dX4_init_53 : decode cX4_init 53 = .ok (.aload_n 0, 1) := by decide +kernel
theorem dX4_init_54 : decode cX4_init 54 = .ok (.aload_n 0, 1) := by decide +kernel
theorem dX4_init_55 : decode cX4_init 55 = .ok (.getfield 13, 3) := by decide +kernel
theorem dX4_init_58 : decode cX4_init 58 = .ok (.newarray .long, 2) := by decide +kernel
theorem dX4_init_60 : decode cX4_init 60 = .ok (.putfield 32, 3) := by decide +kernel
theorem dX4_init_63 : decode cX4_init 63 = .ok (.aload_n 0, 1) := by decide +kernel
theorem dX4_init_64 : decode cX4_init 64 = .ok (.aload_n 0, 1) := by decide +kernel
theorem dX4_init_65 : decode cX4_init 65 = .ok (.getfield 13, 3) := by decide +kernel
theorem dX4_init_68 : decode cX4_init 68 = .ok (.newarray .long, 2) := by decide +kernel
theorem dX4_init_70 : decode cX4_init 70 = .ok (.putfield 35, 3) := by decide +kernel
theorem dX4_init_73 : decode cX4_init 73 = .ok (.aload_n 0, 1) := by decide +kernel
theorem dX4_init_74 : decode cX4_init 74 = .ok (.aload_n 0, 1) := by decide +kernel
theorem dX4_init_75 : decode cX4_init 75 = .ok (.getfield 13, 3) := by decide +kernel
theorem dX4_init_78 : decode cX4_init 78 = .ok (.iconst 2, 1) := by decide +kernel
theorem dX4_init_79 : decode cX4_init 79 = .ok (.iadd, 1) := by decide +kernel
theorem dX4_init_80 : decode cX4_init 80 = .ok (.newarray .long, 2) := by decide +kernel
theorem dX4_init_82 : decode cX4_init 82 = .ok (.putfield 38, 3) := by decide +kernel
theorem dX4_init_85 : decode cX4_init 85 = .ok (.return_, 1) := by decide +kernel
theorem dX4_choose_0 : decode cX4_choose 0 = .ok (.aload_n 0, 1) := by decide +kernel
theorem dX4_choose_1 : decode cX4_choose 1 = .ok (.getfield 19, 3) := by decide +kernel
theorem dX4_choose_4 : decode cX4_choose 4 = .ok (.aload_n 1, 1) := by decide +kernel
theorem dX4_choose_5 : decode cX4_choose 5 = .ok (.invokestatic 41, 3) := by decide +kernel
theorem dX4_choose_8 : decode cX4_choose 8 = .ok (.aload_n 0, 1) := by decide +kernel
theorem dX4_choose_9 : decode cX4_choose 9 = .ok (.aload_n 0, 1) := by decide +kernel
theorem dX4_choose_10 : decode cX4_choose 10 = .ok (.invokevirtual 47, 3) := by decide +kernel
theorem dX4_choose_13 : decode cX4_choose 13 = .ok (.lneg, 1) := by decide +kernel
theorem dX4_choose_14 : decode cX4_choose 14 = .ok (.ldc2_w 51, 3) := by decide +kernel
theorem dX4_choose_17 : decode cX4_choose 17 = .ok (.land, 1) := by decide +kernel
theorem dX4_choose_18 : decode cX4_choose 18 = .ok (.putfield 53, 3) := by decide +kernel
theorem dX4_choose_21 : decode cX4_choose 21 = .ok (.aload_n 0, 1) := by decide +kernel
theorem dX4_choose_22 : decode cX4_choose 22 = .ok (.getfield 23, 3) := by decide +kernel
theorem dX4_choose_25 : decode cX4_choose 25 = .ok (.lconst 1, 1) := by decide +kernel
theorem dX4_choose_26 : decode cX4_choose 26 = .ok (.invokestatic 57, 3) := by decide +kernel
theorem dX4_choose_29 : decode cX4_choose 29 = .ok (.aload_n 0, 1) := by decide +kernel
theorem dX4_choose_30 : decode cX4_choose 30 = .ok (.getfield 26, 3) := by decide +kernel
theorem dX4_choose_33 : decode cX4_choose 33 = .ok (.aload_n 0, 1) := by decide +kernel
theorem dX4_choose_34 : decode cX4_choose 34 = .ok (.getfield 23, 3) := by decide +kernel
theorem dX4_choose_37 : decode cX4_choose 37 = .ok (.invokestatic 41, 3) := by decide +kernel
theorem dX4_choose_40 : decode cX4_choose 40 = .ok (.iconst 0, 1) := by decide +kernel
theorem dX4_choose_41 : decode cX4_choose 41 = .ok (.istore_n 2, 1) := by decide +kernel
theorem dX4_choose_42 : decode cX4_choose 42 = .ok (.iload_n 2, 1) := by decide +kernel
theorem dX4_choose_43 : decode cX4_choose 43 = .ok (.bipush 32, 2) := by decide +kernel
theorem dX4_choose_45 : decode cX4_choose 45 = .ok (.aload_n 0, 1) := by decide +kernel
theorem dX4_choose_46 : decode cX4_choose 46 = .ok (.getfield 13, 3) := by decide +kernel
theorem dX4_choose_49 : decode cX4_choose 49 = .ok (.imul, 1) := by decide +kernel
theorem dX4_choose_50 : decode cX4_choose 50 = .ok (.if_icmp .ge 18, 3) := by decide +kernel
theorem dX4_choose_53 : decode cX4_choose 53 = .ok (.aload_n 0, 1) := by decide +kernel
theorem dX4_choose_54 : decode cX4_choose 54 = .ok (.aload_n 0, 1) := by decide +kernel
theorem dX4_choose_55 : decode cX4_choose 55 = .ok (.getfield 26, 3) := by decide +kernel
theorem dX4_choose_58 : decode cX4_choose 58 = .ok (.iconst 0, 1) := by decide +kernel
theorem dX4_choose_59 : decode cX4_choose 59 = .ok (.invokevirtual 61, 3) := by decide +kernel
theorem dX4_choose_62 : decode cX4_choose 62 = .ok (.iinc 2 1, 3) := by decide +kernel
theorem dX4_choose_65 : decode cX4_choose 65 = .ok (.goto (-23), 3) := by decide +kernel
theorem dX4_choose_68 : decode cX4_choose 68 = .ok (.aload_n 0, 1) := by decide +kernel
theorem dX4_choose_69 : decode cX4_choose 69 = .ok (.getfield 29, 3) := by decide +kernel
theorem dX4_choose_72 : decode cX4_choose 72 = .ok (.aload_n 0, 1) := by decide +kernel
theorem dX4_choose_73 : decode cX4_choose 73 = .ok (.getfield 26, 3) := by decide +kernel
theorem dX4_choose_76 : decode cX4_choose 76 = .ok (.invokestatic 41, 3) := by decide +kernel
theorem dX4_choose_79 : decode cX4_choose 79 = .ok (.iconst 0, 1) := by decide +kernel
theorem dX4_choose_80 : decode cX4_choose 80 = .ok (.istore_n 2, 1) := by decide +kernel
theorem dX4_choose_81 : decode cX4_choose 81 = .ok (.iload_n 2, 1) := by decide +kernel
theorem dX4_choose_82 : decode cX4_choose 82 = .ok (.bipush 32, 2) := by decide +kernel
theorem dX4_choose_84 : decode cX4_choose 84 = .ok (.aload_n 0, 1) := by decide +kernel
theorem dX4_choose_85 : decode cX4_choose 85 = .ok (.getfield 13, 3) := by decide +kernel
theorem dX4_choose_88 : decode cX4_choose 88 = .ok (.imul, 1) := by decide +kernel
theorem dX4_choose_89 : decode cX4_choose 89 = .ok (.if_icmp .ge 18, 3) := by decide +kernel
theorem dX4_choose_92 : decode cX4_choose 92 = .ok (.aload_n 0, 1) := by decide +kernel
theorem dX4_choose_93 : decode cX4_choose 93 = .ok (.aload_n 0, 1) := by decide +kernel
theorem dX4_choose_94 : decode cX4_choose 94 = .ok (.getfield 29, 3) := by decide +kernel
theorem dX4_choose_97 : decode cX4_choose 97 = .ok (.iconst 0, 1) := by decide +kernel
theorem dX4_choose_98 : decode cX4_choose 98 = .ok (.invokevirtual 61, 3) := by decide +kernel
theorem dX4_choose_101 : decode cX4_choose 101 = .ok (.iinc 2 1, 3) := by decide +kernel
theorem dX4_choose_104 : decode cX4_choose 104 = .ok (.goto (-23), 3) := by decide +kernel
theorem dX4_choose_107 : decode cX4_choose 107 = .ok (.return_, 1) := by decide +kernel
theorem dX4_inverseOfLowLimb_0 : decode cX4_inverseOfLowLimb 0 = .ok (.aload_n 0, 1) := by decide +kernel
theorem dX4_inverseOfLowLimb_1 : decode cX4_inverseOfLowLimb 1 = .ok (.getfield 19, 3) := by decide +kernel
theorem dX4_inverseOfLowLimb_4 : decode cX4_inverseOfLowLimb 4 = .ok (.iconst 0, 1) := by decide +kernel
theorem dX4_inverseOfLowLimb_5 : decode cX4_inverseOfLowLimb 5 = .ok (.laload, 1) := by decide +kernel
theorem dX4_inverseOfLowLimb_6 : decode cX4_inverseOfLowLimb 6 = .ok (.lstore_n 1, 1) := by decide +kernel
theorem dX4_inverseOfLowLimb_7 : decode cX4_inverseOfLowLimb 7 = .ok (.lload_n 1, 1) := by decide +kernel
theorem dX4_inverseOfLowLimb_8 : decode cX4_inverseOfLowLimb 8 = .ok (.lstore_n 3, 1) := by decide +kernel
theorem dX4_inverseOfLowLimb_9 : decode cX4_inverseOfLowLimb 9 = .ok (.iconst 3, 1) := by decide +kernel
theorem dX4_inverseOfLowLimb_10 : decode cX4_inverseOfLowLimb 10 = .ok (.istore 5, 2) := by decide +kernel
theorem dX4_inverseOfLowLimb_12 : decode cX4_inverseOfLowLimb 12 = .ok (.iload 5, 2) := by decide +kernel
theorem dX4_inverseOfLowLimb_14 : decode cX4_inverseOfLowLimb 14 = .ok (.bipush 32, 2) := by decide +kernel
theorem dX4_inverseOfLowLimb_16 : decode cX4_inverseOfLowLimb 16 = .ok (.if_icmp .ge 22, 3) := by decide +kernel
theorem dX4_inverseOfLowLimb_19 : decode cX4_inverseOfLowLimb 19 = .ok (.lload_n 3, 1) := by decide +kernel
theorem dX4_inverseOfLowLimb_20 : decode cX4_inverseOfLowLimb 20 = .ok (.ldc2_w 65, 3) := by decide +kernel
theorem dX4_inverseOfLowLimb_23 : decode cX4_inverseOfLowLimb 23 = .ok (.lload_n 1, 1) := by decide +kernel
theorem dX4_inverseOfLowLimb_24 : decode cX4_inverseOfLowLimb 24 = .ok (.lload_n 3, 1) := by decide +kernel
theorem dX4_inverseOfLowLimb_25 : decode cX4_inverseOfLowLimb 25 = .ok (.lmul, 1) := by decide +kernel
theorem dX4_inverseOfLowLimb_26 : decode cX4_inverseOfLowLimb 26 = .ok (.lsub, 1) := by decide +kernel
theorem dX4_inverseOfLowLimb_27 : decode cX4_inverseOfLowLimb 27 = .ok (.lmul, 1) := by decide +kernel
theorem dX4_inverseOfLowLimb_28 : decode cX4_inverseOfLowLimb 28 = .ok (.lstore_n 3, 1) := by decide +kernel
theorem dX4_inverseOfLowLimb_29 : decode cX4_inverseOfLowLimb 29 = .ok (.iload 5, 2) := by decide +kernel
theorem dX4_inverseOfLowLimb_31 : decode cX4_inverseOfLowLimb 31 = .ok (.iconst 2, 1) := by decide +kernel
theorem dX4_inverseOfLowLimb_32 : decode cX4_inverseOfLowLimb 32 = .ok (.imul, 1) := by decide +kernel
theorem dX4_inverseOfLowLimb_33 : decode cX4_inverseOfLowLimb 33 = .ok (.istore 5, 2) := by decide +kernel
theorem dX4_inverseOfLowLimb_35 : decode cX4_inverseOfLowLimb 35 = .ok (.goto (-23), 3) := by decide +kernel
theorem dX4_inverseOfLowLimb_38 : decode cX4_inverseOfLowLimb 38 = .ok (.lload_n 3, 1) := by decide +kernel
theorem dX4_inverseOfLowLimb_39 : decode cX4_inverseOfLowLimb 39 = .ok (.lreturn, 1) := by decide +kernel
theorem dX4_reduce_0 : decode cX4_reduce 0 = .ok (.aload_n 1, 1) := by decide +kernel
theorem dX4_reduce_1 : decode cX4_reduce 1 = .ok (.arraylength, 1) := by decide +kernel
theorem dX4_reduce_2 : decode cX4_reduce 2 = .ok (.aload_n 0, 1) := by decide +kernel
theorem dX4_reduce_3 : decode cX4_reduce 3 = .ok (.getfield 13, 3) := by decide +kernel
theorem dX4_reduce_6 : decode cX4_reduce 6 = .ok (.if_icmp .eq 4, 3) := by decide +kernel
theorem dX4_reduce_9 : decode cX4_reduce 9 = .ok (.return_, 1) := by decide +kernel
theorem dX4_reduce_10 : decode cX4_reduce 10 = .ok (.aload_n 1, 1) := by decide +kernel
theorem dX4_reduce_11 : decode cX4_reduce 11 = .ok (.lconst 0, 1) := by decide +kernel
theorem dX4_reduce_12 : decode cX4_reduce 12 = .ok (.invokestatic 67, 3) := by decide +kernel
theorem dX4_reduce_15 : decode cX4_reduce 15 = .ok (.aload_n 2, 1) := by decide +kernel
theorem dX4_reduce_16 : decode cX4_reduce 16 = .ok (.invokestatic 72, 3) := by decide +kernel
theorem dX4_reduce_19 : decode cX4_reduce 19 = .ok (.iconst 1, 1) := by decide +kernel
theorem dX4_reduce_20 : decode cX4_reduce 20 = .ok (.isub, 1) := by decide +kernel
theorem dX4_reduce_21 : decode cX4_reduce 21 = .ok (.istore_n 3, 1) := by decide +kernel
theorem dX4_reduce_22 : decode cX4_reduce 22 = .ok (.iload_n 3, 1) := by decide +kernel
theorem dX4_reduce_23 : decode cX4_reduce 23 = .ok (.ifCond .lt 19, 3) := by decide +kernel
theorem dX4_reduce_26 : decode cX4_reduce 26 = .ok (.aload_n 0, 1) := by decide +kernel
theorem dX4_reduce_27 : decode cX4_reduce 27 = .ok (.aload_n 1, 1) := by decide +kernel
theorem dX4_reduce_28 : decode cX4_reduce 28 = .ok (.aload_n 2, 1) := by decide +kernel
theorem dX4_reduce_29 : decode cX4_reduce 29 = .ok (.iload_n 3, 1) := by decide +kernel
theorem dX4_reduce_30 : decode cX4_reduce 30 = .ok (.invokestatic 76, 3) := by decide +kernel
theorem dX4_reduce_33 : decode cX4_reduce 33 = .ok (.invokevirtual 61, 3) := by decide +kernel
theorem dX4_reduce_36 : decode cX4_reduce 36 = .ok (.iinc 3 (-1), 3) := by decide +kernel
theorem dX4_reduce_39 : decode cX4_reduce 39 = .ok (.goto (-17), 3) := by decide +kernel
theorem dX4_reduce_42 : decode cX4_reduce 42 = .ok (.return_, 1) := by decide +kernel
theorem dX4_raise_0 : decode cX4_raise 0 = .ok (.aload_n 0, 1) := by decide +kernel
theorem dX4_raise_1 : decode cX4_raise 1 = .ok (.aload_n 0, 1) := by decide +kernel
theorem dX4_raise_2 : decode cX4_raise 2 = .ok (.getfield 32, 3) := by decide +kernel
theorem dX4_raise_5 : decode cX4_raise 5 = .ok (.aload_n 2, 1) := by decide +kernel
theorem dX4_raise_6 : decode cX4_raise 6 = .ok (.aload_n 0, 1) := by decide +kernel
theorem dX4_raise_7 : decode cX4_raise 7 = .ok (.getfield 29, 3) := by decide +kernel
theorem dX4_raise_10 : decode cX4_raise 10 = .ok (.invokevirtual 80, 3) := by decide +kernel
theorem dX4_raise_13 : decode cX4_raise 13 = .ok (.aload_n 0, 1) := by decide +kernel
theorem dX4_raise_14 : decode cX4_raise 14 = .ok (.getfield 35, 3) := by decide +kernel
theorem dX4_raise_17 : decode cX4_raise 17 = .ok (.aload_n 0, 1) := by decide +kernel
theorem dX4_raise_18 : decode cX4_raise 18 = .ok (.getfield 26, 3) := by decide +kernel
theorem dX4_raise_21 : decode cX4_raise 21 = .ok (.invokestatic 41, 3) := by decide +kernel
theorem dX4_raise_24 : decode cX4_raise 24 = .ok (.aload_n 3, 1) := by decide +kernel
theorem dX4_raise_25 : decode cX4_raise 25 = .ok (.invokestatic 72, 3) := by decide +kernel
theorem dX4_raise_28 : decode cX4_raise 28 = .ok (.iconst 1, 1) := by decide +kernel
theorem dX4_raise_29 : decode cX4_raise 29 = .ok (.isub, 1) := by decide +kernel
theorem dX4_raise_30 : decode cX4_raise 30 = .ok (.istore 4, 2) := by decide +kernel
theorem dX4_raise_32 : decode cX4_raise 32 = .ok (.iload 4, 2) := by decide +kernel
theorem dX4_raise_34 : decode cX4_raise 34 = .ok (.ifCond .lt 50, 3) := by decide +kernel
theorem dX4_raise_37 : decode cX4_raise 37 = .ok (.aload_n 0, 1) := by decide +kernel
theorem dX4_raise_38 : decode cX4_raise 38 = .ok (.aload_n 0, 1) := by decide +kernel
theorem dX4_raise_39 : decode cX4_raise 39 = .ok (.getfield 35, 3) := by decide +kernel
theorem dX4_raise_42 : decode cX4_raise 42 = .ok (.aload_n 0, 1) := by decide +kernel
theorem dX4_raise_43 : decode cX4_raise 43 = .ok (.getfield 35, 3) := by decide +kernel
theorem dX4_raise_46 : decode cX4_raise 46 = .ok (.aload_n 0, 1) := by decide +kernel
theorem dX4_raise_47 : decode cX4_raise 47 = .ok (.getfield 35, 3) := by decide +kernel
theorem dX4_raise_50 : decode cX4_raise 50 = .ok (.invokevirtual 80, 3) := by decide +kernel
theorem dX4_raise_53 : decode cX4_raise 53 = .ok (.aload_n 3, 1) := by decide +kernel
theorem dX4_raise_54 : decode cX4_raise 54 = .ok (.iload 4, 2) := by decide +kernel
theorem dX4_raise_56 : decode cX4_raise 56 = .ok (.invokestatic 76, 3) := by decide +kernel
theorem dX4_raise_59 : decode cX4_raise 59 = .ok (.ifCond .eq 19, 3) := by decide +kernel
theorem dX4_raise_62 : decode cX4_raise 62 = .ok (.aload_n 0, 1) := by decide +kernel
theorem dX4_raise_63 : decode cX4_raise 63 = .ok (.aload_n 0, 1) := by decide +kernel
theorem dX4_raise_64 : decode cX4_raise 64 = .ok (.getfield 35, 3) := by decide +kernel
theorem dX4_raise_67 : decode cX4_raise 67 = .ok (.aload_n 0, 1) := by decide +kernel
theorem dX4_raise_68 : decode cX4_raise 68 = .ok (.getfield 35, 3) := by decide +kernel
theorem dX4_raise_71 : decode cX4_raise 71 = .ok (.aload_n 0, 1) := by decide +kernel
theorem dX4_raise_72 : decode cX4_raise 72 = .ok (.getfield 32, 3) := by decide +kernel
theorem dX4_raise_75 : decode cX4_raise 75 = .ok (.invokevirtual 80, 3) := by decide +kernel
theorem dX4_raise_78 : decode cX4_raise 78 = .ok (.iinc 4 (-1), 3) := by decide +kernel
theorem dX4_raise_81 : decode cX4_raise 81 = .ok (.goto (-49), 3) := by decide +kernel
theorem dX4_raise_84 : decode cX4_raise 84 = .ok (.aload_n 0, 1) := by decide +kernel
theorem dX4_raise_85 : decode cX4_raise 85 = .ok (.aload_n 1, 1) := by decide +kernel
theorem dX4_raise_86 : decode cX4_raise 86 = .ok (.aload_n 0, 1) := by decide +kernel
theorem dX4_raise_87 : decode cX4_raise 87 = .ok (.getfield 35, 3) := by decide +kernel
theorem dX4_raise_90 : decode cX4_raise 90 = .ok (.aload_n 0, 1) := by decide +kernel
theorem dX4_raise_91 : decode cX4_raise 91 = .ok (.getfield 23, 3) := by decide +kernel
theorem dX4_raise_94 : decode cX4_raise 94 = .ok (.invokevirtual 80, 3) := by decide +kernel
theorem dX4_raise_97 : decode cX4_raise 97 = .ok (.return_, 1) := by decide +kernel
theorem dX4_times_0 : decode cX4_times 0 = .ok (.aload_n 0, 1) := by decide +kernel
theorem dX4_times_1 : decode cX4_times 1 = .ok (.aload_n 0, 1) := by decide +kernel
theorem dX4_times_2 : decode cX4_times 2 = .ok (.getfield 32, 3) := by decide +kernel
theorem dX4_times_5 : decode cX4_times 5 = .ok (.aload_n 2, 1) := by decide +kernel
theorem dX4_times_6 : decode cX4_times 6 = .ok (.aload_n 0, 1) := by decide +kernel
theorem dX4_times_7 : decode cX4_times 7 = .ok (.getfield 29, 3) := by decide +kernel
theorem dX4_times_10 : decode cX4_times 10 = .ok (.invokevirtual 80, 3) := by decide +kernel
theorem dX4_times_13 : decode cX4_times 13 = .ok (.aload_n 0, 1) := by decide +kernel
theorem dX4_times_14 : decode cX4_times 14 = .ok (.aload_n 1, 1) := by decide +kernel
theorem dX4_times_15 : decode cX4_times 15 = .ok (.aload_n 0, 1) := by decide +kernel
theorem dX4_times_16 : decode cX4_times 16 = .ok (.getfield 32, 3) := by decide +kernel
theorem dX4_times_19 : decode cX4_times 19 = .ok (.aload_n 3, 1) := by decide +kernel
theorem dX4_times_20 : decode cX4_times 20 = .ok (.invokevirtual 80, 3) := by decide +kernel
theorem dX4_times_23 : decode cX4_times 23 = .ok (.return_, 1) := by decide +kernel
theorem dX4_twice_0 : decode cX4_twice 0 = .ok (.iload_n 2, 1) := by decide +kernel
theorem dX4_twice_1 : decode cX4_twice 1 = .ok (.ifCond .eq 7, 3) := by decide +kernel
theorem dX4_twice_4 : decode cX4_twice 4 = .ok (.lconst 1, 1) := by decide +kernel
theorem dX4_twice_5 : decode cX4_twice 5 = .ok (.goto 4, 3) := by decide +kernel
theorem dX4_twice_8 : decode cX4_twice 8 = .ok (.lconst 0, 1) := by decide +kernel
theorem dX4_twice_9 : decode cX4_twice 9 = .ok (.lstore_n 3, 1) := by decide +kernel
theorem dX4_twice_10 : decode cX4_twice 10 = .ok (.iconst 0, 1) := by decide +kernel
theorem dX4_twice_11 : decode cX4_twice 11 = .ok (.istore 5, 2) := by decide +kernel
theorem dX4_twice_13 : decode cX4_twice 13 = .ok (.iload 5, 2) := by decide +kernel
theorem dX4_twice_15 : decode cX4_twice 15 = .ok (.aload_n 1, 1) := by decide +kernel
theorem dX4_twice_16 : decode cX4_twice 16 = .ok (.arraylength, 1) := by decide +kernel
theorem dX4_twice_17 : decode cX4_twice 17 = .ok (.if_icmp .ge 35, 3) := by decide +kernel
theorem dX4_twice_20 : decode cX4_twice 20 = .ok (.aload_n 1, 1) := by decide +kernel
theorem dX4_twice_21 : decode cX4_twice 21 = .ok (.iload 5, 2) := by decide +kernel
theorem dX4_twice_23 : decode cX4_twice 23 = .ok (.laload, 1) := by decide +kernel
theorem dX4_twice_24 : decode cX4_twice 24 = .ok (.iconst 1, 1) := by decide +kernel
theorem dX4_twice_25 : decode cX4_twice 25 = .ok (.lshl, 1) := by decide +kernel
theorem dX4_twice_26 : decode cX4_twice 26 = .ok (.lload_n 3, 1) := by decide +kernel
theorem dX4_twice_27 : decode cX4_twice 27 = .ok (.lor, 1) := by decide +kernel
theorem dX4_twice_28 : decode cX4_twice 28 = .ok (.lstore 6, 2) := by decide +kernel
theorem dX4_twice_30 : decode cX4_twice 30 = .ok (.aload_n 1, 1) := by decide +kernel
theorem dX4_twice_31 : decode cX4_twice 31 = .ok (.iload 5, 2) := by decide +kernel
theorem dX4_twice_33 : decode cX4_twice 33 = .ok (.lload 6, 2) := by decide +kernel
theorem dX4_twice_35 : decode cX4_twice 35 = .ok (.ldc2_w 51, 3) := by decide +kernel
theorem dX4_twice_38 : decode cX4_twice 38 = .ok (.land, 1) := by decide +kernel
theorem dX4_twice_39 : decode cX4_twice 39 = .ok (.lastore, 1) := by decide +kernel
theorem dX4_twice_40 : decode cX4_twice 40 = .ok (.lload 6, 2) := by decide +kernel
theorem dX4_twice_42 : decode cX4_twice 42 = .ok (.bipush 32, 2) := by decide +kernel
theorem dX4_twice_44 : decode cX4_twice 44 = .ok (.lushr, 1) := by decide +kernel
theorem dX4_twice_45 : decode cX4_twice 45 = .ok (.lstore_n 3, 1) := by decide +kernel
theorem dX4_twice_46 : decode cX4_twice 46 = .ok (.iinc 5 1, 3) := by decide +kernel
theorem dX4_twice_49 : decode cX4_twice 49 = .ok (.goto (-36), 3) := by decide +kernel
theorem dX4_twice_52 : decode cX4_twice 52 = .ok (.lload_n 3, 1) := by decide +kernel
theorem dX4_twice_53 : decode cX4_twice 53 = .ok (.lconst 0, 1) := by decide +kernel
theorem dX4_twice_54 : decode cX4_twice 54 = .ok (.lcmp, 1) := by decide +kernel
theorem dX4_twice_55 : decode cX4_twice 55 = .ok (.ifCond .ne 14, 3) := by decide +kernel
theorem dX4_twice_58 : decode cX4_twice 58 = .ok (.aload_n 1, 1) := by decide +kernel
theorem dX4_twice_59 : decode cX4_twice 59 = .ok (.aload_n 0, 1) := by decide +kernel
theorem dX4_twice_60 : decode cX4_twice 60 = .ok (.getfield 19, 3) := by decide +kernel
theorem dX4_twice_63 : decode cX4_twice 63 = .ok (.invokestatic 84, 3) := by decide +kernel
theorem dX4_twice_66 : decode cX4_twice 66 = .ok (.ifCond .lt 13, 3) := by decide +kernel
theorem dX4_twice_69 : decode cX4_twice 69 = .ok (.aload_n 1, 1) := by decide +kernel
theorem dX4_twice_70 : decode cX4_twice 70 = .ok (.aload_n 1, 1) := by decide +kernel
theorem dX4_twice_71 : decode cX4_twice 71 = .ok (.aload_n 0, 1) := by decide +kernel
theorem dX4_twice_72 : decode cX4_twice 72 = .ok (.getfield 19, 3) := by decide +kernel
theorem dX4_twice_75 : decode cX4_twice 75 = .ok (.invokestatic 88, 3) := by decide +kernel
theorem dX4_twice_78 : decode cX4_twice 78 = .ok (.pop, 1) := by decide +kernel
theorem dX4_twice_79 : decode cX4_twice 79 = .ok (.return_, 1) := by decide +kernel
theorem dX4_multiplyCarried_0 : decode cX4_multiplyCarried 0 = .ok (.aload_n 1, 1) := by decide +kernel
theorem dX4_multiplyCarried_1 : decode cX4_multiplyCarried 1 = .ok (.arraylength, 1) := by decide +kernel
theorem dX4_multiplyCarried_2 : decode cX4_multiplyCarried 2 = .ok (.aload_n 0, 1) := by decide +kernel
theorem dX4_multiplyCarried_3 : decode cX4_multiplyCarried 3 = .ok (.getfield 13, 3) := by decide +kernel
theorem dX4_multiplyCarried_6 : decode cX4_multiplyCarried 6 = .ok (.if_icmp .ne 21, 3) := by decide +kernel
theorem dX4_multiplyCarried_9 : decode cX4_multiplyCarried 9 = .ok (.aload_n 2, 1) := by decide +kernel
theorem dX4_multiplyCarried_10 : decode cX4_multiplyCarried 10 = .ok (.arraylength, 1) := by decide +kernel
theorem dX4_multiplyCarried_11 : decode cX4_multiplyCarried 11 = .ok (.aload_n 0, 1) := by decide +kernel
theorem dX4_multiplyCarried_12 : decode cX4_multiplyCarried 12 = .ok (.getfield 13, 3) := by decide +kernel
theorem dX4_multiplyCarried_15 : decode cX4_multiplyCarried 15 = .ok (.if_icmp .ne 12, 3) := by decide +kernel
theorem dX4_multiplyCarried_18 : decode cX4_multiplyCarried 18 = .ok (.aload_n 3, 1) := by decide +kernel
theorem dX4_multiplyCarried_19 : decode cX4_multiplyCarried 19 = .ok (.arraylength, 1) := by decide +kernel
theorem dX4_multiplyCarried_20 : decode cX4_multiplyCarried 20 = .ok (.aload_n 0, 1) := by decide +kernel
theorem dX4_multiplyCarried_21 : decode cX4_multiplyCarried 21 = .ok (.getfield 13, 3) := by decide +kernel
theorem dX4_multiplyCarried_24 : decode cX4_multiplyCarried 24 = .ok (.if_icmp .eq 4, 3) := by decide +kernel
theorem dX4_multiplyCarried_27 : decode cX4_multiplyCarried 27 = .ok (.return_, 1) := by decide +kernel
theorem dX4_multiplyCarried_28 : decode cX4_multiplyCarried 28 = .ok (.aload_n 0, 1) := by decide +kernel
theorem dX4_multiplyCarried_29 : decode cX4_multiplyCarried 29 = .ok (.getfield 38, 3) := by decide +kernel
theorem dX4_multiplyCarried_32 : decode cX4_multiplyCarried 32 = .ok (.lconst 0, 1) := by decide +kernel
theorem dX4_multiplyCarried_33 : decode cX4_multiplyCarried 33 = .ok (.invokestatic 67, 3) := by decide +kernel
theorem dX4_multiplyCarried_36 : decode cX4_multiplyCarried 36 = .ok (.iconst 0, 1) := by decide +kernel
theorem dX4_multiplyCarried_37 : decode cX4_multiplyCarried 37 = .ok (.istore 4, 2) := by decide +kernel
theorem dX4_multiplyCarried_39 : decode cX4_multiplyCarried 39 = .ok (.iload 4, 2) := by decide +kernel
theorem dX4_multiplyCarried_41 : decode cX4_multiplyCarried 41 = .ok (.aload_n 0, 1) := by decide +kernel
theorem dX4_multiplyCarried_42 : decode cX4_multiplyCarried 42 = .ok (.getfield 13, 3) := by decide +kernel
theorem dX4_multiplyCarried_45 : decode cX4_multiplyCarried 45 = .ok (.if_icmp .ge 22, 3) := by decide +kernel
theorem dX4_multiplyCarried_48 : decode cX4_multiplyCarried 48 = .ok (.aload_n 0, 1) := by decide +kernel
theorem dX4_multiplyCarried_49 : decode cX4_multiplyCarried 49 = .ok (.aload_n 2, 1) := by decide +kernel
theorem dX4_multiplyCarried_50 : decode cX4_multiplyCarried 50 = .ok (.aload_n 3, 1) := by decide +kernel
theorem dX4_multiplyCarried_51 : decode cX4_multiplyCarried 51 = .ok (.iload 4, 2) := by decide +kernel
theorem dX4_multiplyCarried_53 : decode cX4_multiplyCarried 53 = .ok (.laload, 1) := by decide +kernel
theorem dX4_multiplyCarried_54 : decode cX4_multiplyCarried 54 = .ok (.invokevirtual 92, 3) := by decide +kernel
theorem dX4_multiplyCarried_57 : decode cX4_multiplyCarried 57 = .ok (.aload_n 0, 1) := by decide +kernel
theorem dX4_multiplyCarried_58 : decode cX4_multiplyCarried 58 = .ok (.invokevirtual 95, 3) := by decide +kernel
theorem dX4_multiplyCarried_61 : decode cX4_multiplyCarried 61 = .ok (.iinc 4 1, 3) := by decide +kernel
theorem dX4_multiplyCarried_64 : decode cX4_multiplyCarried 64 = .ok (.goto (-25), 3) := by decide +kernel
theorem dX4_multiplyCarried_67 : decode cX4_multiplyCarried 67 = .ok (.aload_n 1, 1) := by decide +kernel
theorem dX4_multiplyCarried_68 : decode cX4_multiplyCarried 68 = .ok (.aload_n 0, 1) := by decide +kernel
theorem dX4_multiplyCarried_69 : decode cX4_multiplyCarried 69 = .ok (.getfield 38, 3) := by decide +kernel
theorem dX4_multiplyCarried_72 : decode cX4_multiplyCarried 72 = .ok (.invokestatic 41, 3) := by decide +kernel
theorem dX4_multiplyCarried_75 : decode cX4_multiplyCarried 75 = .ok (.aload_n 0, 1) := by decide +kernel
theorem dX4_multiplyCarried_76 : decode cX4_multiplyCarried 76 = .ok (.getfield 38, 3) := by decide +kernel
theorem dX4_multiplyCarried_79 : decode cX4_multiplyCarried 79 = .ok (.aload_n 0, 1) := by decide +kernel
theorem dX4_multiplyCarried_80 : decode cX4_multiplyCarried 80 = .ok (.getfield 13, 3) := by decide +kernel
theorem dX4_multiplyCarried_83 : decode cX4_multiplyCarried 83 = .ok (.laload, 1) := by decide +kernel
theorem dX4_multiplyCarried_84 : decode cX4_multiplyCarried 84 = .ok (.lconst 0, 1) := by decide +kernel
theorem dX4_multiplyCarried_85 : decode cX4_multiplyCarried 85 = .ok (.lcmp, 1) := by decide +kernel
theorem dX4_multiplyCarried_86 : decode cX4_multiplyCarried 86 = .ok (.ifCond .ne 14, 3) := by decide +kernel
theorem dX4_multiplyCarried_89 : decode cX4_multiplyCarried 89 = .ok (.aload_n 1, 1) := by decide +kernel
theorem dX4_multiplyCarried_90 : decode cX4_multiplyCarried 90 = .ok (.aload_n 0, 1) := by decide +kernel
theorem dX4_multiplyCarried_91 : decode cX4_multiplyCarried 91 = .ok (.getfield 19, 3) := by decide +kernel
theorem dX4_multiplyCarried_94 : decode cX4_multiplyCarried 94 = .ok (.invokestatic 84, 3) := by decide +kernel
theorem dX4_multiplyCarried_97 : decode cX4_multiplyCarried 97 = .ok (.ifCond .lt 13, 3) := by decide +kernel
theorem dX4_multiplyCarried_100 : decode cX4_multiplyCarried 100 = .ok (.aload_n 1, 1) := by decide +kernel
theorem dX4_multiplyCarried_101 : decode cX4_multiplyCarried 101 = .ok (.aload_n 1, 1) := by decide +kernel
theorem dX4_multiplyCarried_102 : decode cX4_multiplyCarried 102 = .ok (.aload_n 0, 1) := by decide +kernel
theorem dX4_multiplyCarried_103 : decode cX4_multiplyCarried 103 = .ok (.getfield 19, 3) := by decide +kernel
theorem dX4_multiplyCarried_106 : decode cX4_multiplyCarried 106 = .ok (.invokestatic 88, 3) := by decide +kernel
theorem dX4_multiplyCarried_109 : decode cX4_multiplyCarried 109 = .ok (.pop, 1) := by decide +kernel
theorem dX4_multiplyCarried_110 : decode cX4_multiplyCarried 110 = .ok (.return_, 1) := by decide +kernel
theorem dX4_addProduct_0 : decode cX4_addProduct 0 = .ok (.lconst 0, 1) := by decide +kernel
theorem dX4_addProduct_1 : decode cX4_addProduct 1 = .ok (.lstore 4, 2) := by decide +kernel
theorem dX4_addProduct_3 : decode cX4_addProduct 3 = .ok (.iconst 0, 1) := by decide +kernel
theorem dX4_addProduct_4 : decode cX4_addProduct 4 = .ok (.istore 6, 2) := by decide +kernel
theorem dX4_addProduct_6 : decode cX4_addProduct 6 = .ok (.iload 6, 2) := by decide +kernel
theorem dX4_addProduct_8 : decode cX4_addProduct 8 = .ok (.aload_n 0, 1) := by decide +kernel
theorem dX4_addProduct_9 : decode cX4_addProduct 9 = .ok (.getfield 13, 3) := by decide +kernel
theorem dX4_addProduct_12 : decode cX4_addProduct 12 = .ok (.if_icmp .ge 55, 3) := by decide +kernel
theorem dX4_addProduct_15 : decode cX4_addProduct 15 = .ok (.iload 6, 2) := by decide +kernel
theorem dX4_addProduct_17 : decode cX4_addProduct 17 = .ok (.aload_n 1, 1) := by decide +kernel
theorem dX4_addProduct_18 : decode cX4_addProduct 18 = .ok (.arraylength, 1) := by decide +kernel
theorem dX4_addProduct_19 : decode cX4_addProduct 19 = .ok (.if_icmp .ge 48, 3) := by decide +kernel
theorem dX4_addProduct_22 : decode cX4_addProduct 22 = .ok (.aload_n 1, 1) := by decide +kernel
theorem dX4_addProduct_23 : decode cX4_addProduct 23 = .ok (.iload 6, 2) := by decide +kernel
theorem dX4_addProduct_25 : decode cX4_addProduct 25 = .ok (.laload, 1) := by decide +kernel
theorem dX4_addProduct_26 : decode cX4_addProduct 26 = .ok (.lload_n 2, 1) := by decide +kernel
theorem dX4_addProduct_27 : decode cX4_addProduct 27 = .ok (.lmul, 1) := by decide +kernel
theorem dX4_addProduct_28 : decode cX4_addProduct 28 = .ok (.aload_n 0, 1) := by decide +kernel
theorem dX4_addProduct_29 : decode cX4_addProduct 29 = .ok (.getfield 38, 3) := by decide +kernel
theorem dX4_addProduct_32 : decode cX4_addProduct 32 = .ok (.iload 6, 2) := by decide +kernel
theorem dX4_addProduct_34 : decode cX4_addProduct 34 = .ok (.laload, 1) := by decide +kernel
theorem dX4_addProduct_35 : decode cX4_addProduct 35 = .ok (.ladd, 1) := by decide +kernel
theorem dX4_addProduct_36 : decode cX4_addProduct 36 = .ok (.lload 4, 2) := by decide +kernel
theorem dX4_addProduct_38 : decode cX4_addProduct 38 = .ok (.ladd, 1) := by decide +kernel
theorem dX4_addProduct_39 : decode cX4_addProduct 39 = .ok (.lstore 7, 2) := by decide +kernel
theorem dX4_addProduct_41 : decode cX4_addProduct 41 = .ok (.aload_n 0, 1) := by decide +kernel
theorem dX4_addProduct_42 : decode cX4_addProduct 42 = .ok (.getfield 38, 3) := by decide +kernel
theorem dX4_addProduct_45 : decode cX4_addProduct 45 = .ok (.iload 6, 2) := by decide +kernel
theorem dX4_addProduct_47 : decode cX4_addProduct 47 = .ok (.lload 7, 2) := by decide +kernel
theorem dX4_addProduct_49 : decode cX4_addProduct 49 = .ok (.ldc2_w 51, 3) := by decide +kernel
theorem dX4_addProduct_52 : decode cX4_addProduct 52 = .ok (.land, 1) := by decide +kernel
theorem dX4_addProduct_53 : decode cX4_addProduct 53 = .ok (.lastore, 1) := by decide +kernel
theorem dX4_addProduct_54 : decode cX4_addProduct 54 = .ok (.lload 7, 2) := by decide +kernel
theorem dX4_addProduct_56 : decode cX4_addProduct 56 = .ok (.bipush 32, 2) := by decide +kernel
theorem dX4_addProduct_58 : decode cX4_addProduct 58 = .ok (.lushr, 1) := by decide +kernel
theorem dX4_addProduct_59 : decode cX4_addProduct 59 = .ok (.lstore 4, 2) := by decide +kernel
theorem dX4_addProduct_61 : decode cX4_addProduct 61 = .ok (.iinc 6 1, 3) := by decide +kernel
theorem dX4_addProduct_64 : decode cX4_addProduct 64 = .ok (.goto (-58), 3) := by decide +kernel
theorem dX4_addProduct_67 : decode cX4_addProduct 67 = .ok (.aload_n 0, 1) := by decide +kernel
theorem dX4_addProduct_68 : decode cX4_addProduct 68 = .ok (.getfield 38, 3) := by decide +kernel
theorem dX4_addProduct_71 : decode cX4_addProduct 71 = .ok (.aload_n 0, 1) := by decide +kernel
theorem dX4_addProduct_72 : decode cX4_addProduct 72 = .ok (.getfield 13, 3) := by decide +kernel
theorem dX4_addProduct_75 : decode cX4_addProduct 75 = .ok (.laload, 1) := by decide +kernel
theorem dX4_addProduct_76 : decode cX4_addProduct 76 = .ok (.lload 4, 2) := by decide +kernel
theorem dX4_addProduct_78 : decode cX4_addProduct 78 = .ok (.ladd, 1) := by decide +kernel
theorem dX4_addProduct_79 : decode cX4_addProduct 79 = .ok (.lstore 6, 2) := by decide +kernel
theorem dX4_addProduct_81 : decode cX4_addProduct 81 = .ok (.aload_n 0, 1) := by decide +kernel
theorem dX4_addProduct_82 : decode cX4_addProduct 82 = .ok (.getfield 38, 3) := by decide +kernel
theorem dX4_addProduct_85 : decode cX4_addProduct 85 = .ok (.aload_n 0, 1) := by decide +kernel
theorem dX4_addProduct_86 : decode cX4_addProduct 86 = .ok (.getfield 13, 3) := by decide +kernel
theorem dX4_addProduct_89 : decode cX4_addProduct 89 = .ok (.lload 6, 2) := by decide +kernel
theorem dX4_addProduct_91 : decode cX4_addProduct 91 = .ok (.ldc2_w 51, 3) := by decide +kernel
theorem dX4_addProduct_94 : decode cX4_addProduct 94 = .ok (.land, 1) := by decide +kernel
theorem dX4_addProduct_95 : decode cX4_addProduct 95 = .ok (.lastore, 1) := by decide +kernel
theorem dX4_addProduct_96 : decode cX4_addProduct 96 = .ok (.aload_n 0, 1) := by decide +kernel
theorem dX4_addProduct_97 : decode cX4_addProduct 97 = .ok (.getfield 38, 3) := by decide +kernel
theorem dX4_addProduct_100 : decode cX4_addProduct 100 = .ok (.aload_n 0, 1) := by decide +kernel
theorem dX4_addProduct_101 : decode cX4_addProduct 101 = .ok (.getfield 13, 3) := by decide +kernel
theorem dX4_addProduct_104 : decode cX4_addProduct 104 = .ok (.iconst 1, 1) := by decide +kernel
theorem dX4_addProduct_105 : decode cX4_addProduct 105 = .ok (.iadd, 1) := by decide +kernel
theorem dX4_addProduct_106 : decode cX4_addProduct 106 = .ok (.lload 6, 2) := by decide +kernel
theorem dX4_addProduct_108 : decode cX4_addProduct 108 = .ok (.bipush 32, 2) := by decide +kernel
theorem dX4_addProduct_110 : decode cX4_addProduct 110 = .ok (.lushr, 1) := by decide +kernel
theorem dX4_addProduct_111 : decode cX4_addProduct 111 = .ok (.lastore, 1) := by decide +kernel
theorem dX4_addProduct_112 : decode cX4_addProduct 112 = .ok (.return_, 1) := by decide +kernel
theorem dX4_dropLowLimb_0 : decode cX4_dropLowLimb 0 = .ok (.aload_n 0, 1) := by decide +kernel
theorem dX4_dropLowLimb_1 : decode cX4_dropLowLimb 1 = .ok (.getfield 38, 3) := by decide +kernel
theorem dX4_dropLowLimb_4 : decode cX4_dropLowLimb 4 = .ok (.iconst 0, 1) := by decide +kernel
theorem dX4_dropLowLimb_5 : decode cX4_dropLowLimb 5 = .ok (.laload, 1) := by decide +kernel
theorem dX4_dropLowLimb_6 : decode cX4_dropLowLimb 6 = .ok (.aload_n 0, 1) := by decide +kernel
theorem dX4_dropLowLimb_7 : decode cX4_dropLowLimb 7 = .ok (.getfield 53, 3) := by decide +kernel
theorem dX4_dropLowLimb_10 : decode cX4_dropLowLimb 10 = .ok (.lmul, 1) := by decide +kernel
theorem dX4_dropLowLimb_11 : decode cX4_dropLowLimb 11 = .ok (.ldc2_w 51, 3) := by decide +kernel
theorem dX4_dropLowLimb_14 : decode cX4_dropLowLimb 14 = .ok (.land, 1) := by decide +kernel
theorem dX4_dropLowLimb_15 : decode cX4_dropLowLimb 15 = .ok (.lstore_n 1, 1) := by decide +kernel
theorem dX4_dropLowLimb_16 : decode cX4_dropLowLimb 16 = .ok (.lload_n 1, 1) := by decide +kernel
theorem dX4_dropLowLimb_17 : decode cX4_dropLowLimb 17 = .ok (.aload_n 0, 1) := by decide +kernel
theorem dX4_dropLowLimb_18 : decode cX4_dropLowLimb 18 = .ok (.getfield 19, 3) := by decide +kernel
theorem dX4_dropLowLimb_21 : decode cX4_dropLowLimb 21 = .ok (.iconst 0, 1) := by decide +kernel
theorem dX4_dropLowLimb_22 : decode cX4_dropLowLimb 22 = .ok (.laload, 1) := by decide +kernel
theorem dX4_dropLowLimb_23 : decode cX4_dropLowLimb 23 = .ok (.lmul, 1) := by decide +kernel
theorem dX4_dropLowLimb_24 : decode cX4_dropLowLimb 24 = .ok (.aload_n 0, 1) := by decide +kernel
theorem dX4_dropLowLimb_25 : decode cX4_dropLowLimb 25 = .ok (.getfield 38, 3) := by decide +kernel
theorem dX4_dropLowLimb_28 : decode cX4_dropLowLimb 28 = .ok (.iconst 0, 1) := by decide +kernel
theorem dX4_dropLowLimb_29 : decode cX4_dropLowLimb 29 = .ok (.laload, 1) := by decide +kernel
theorem dX4_dropLowLimb_30 : decode cX4_dropLowLimb 30 = .ok (.ladd, 1) := by decide +kernel
theorem dX4_dropLowLimb_31 : decode cX4_dropLowLimb 31 = .ok (.bipush 32, 2) := by decide +kernel
theorem dX4_dropLowLimb_33 : decode cX4_dropLowLimb 33 = .ok (.lushr, 1) := by decide +kernel
theorem dX4_dropLowLimb_34 : decode cX4_dropLowLimb 34 = .ok (.lstore_n 3, 1) := by decide +kernel
theorem dX4_dropLowLimb_35 : decode cX4_dropLowLimb 35 = .ok (.iconst 1, 1) := by decide +kernel
theorem dX4_dropLowLimb_36 : decode cX4_dropLowLimb 36 = .ok (.istore 5, 2) := by decide +kernel
theorem dX4_dropLowLimb_38 : decode cX4_dropLowLimb 38 = .ok (.iload 5, 2) := by decide +kernel
theorem dX4_dropLowLimb_40 : decode cX4_dropLowLimb 40 = .ok (.aload_n 0, 1) := by decide +kernel
theorem dX4_dropLowLimb_41 : decode cX4_dropLowLimb 41 = .ok (.getfield 13, 3) := by decide +kernel
theorem dX4_dropLowLimb_44 : decode cX4_dropLowLimb 44 = .ok (.if_icmp .ge 51, 3) := by decide +kernel
theorem dX4_dropLowLimb_47 : decode cX4_dropLowLimb 47 = .ok (.lload_n 1, 1) := by decide +kernel
theorem dX4_dropLowLimb_48 : decode cX4_dropLowLimb 48 = .ok (.aload_n 0, 1) := by decide +kernel
theorem dX4_dropLowLimb_49 : decode cX4_dropLowLimb 49 = .ok (.getfield 19, 3) := by decide +kernel
theorem dX4_dropLowLimb_52 : decode cX4_dropLowLimb 52 = .ok (.iload 5, 2) := by decide +kernel
theorem dX4_dropLowLimb_54 : decode cX4_dropLowLimb 54 = .ok (.laload, 1) := by decide +kernel
theorem dX4_dropLowLimb_55 : decode cX4_dropLowLimb 55 = .ok (.lmul, 1) := by decide +kernel
theorem dX4_dropLowLimb_56 : decode cX4_dropLowLimb 56 = .ok (.aload_n 0, 1) := by decide +kernel
theorem dX4_dropLowLimb_57 : decode cX4_dropLowLimb 57 = .ok (.getfield 38, 3) := by decide +kernel
theorem dX4_dropLowLimb_60 : decode cX4_dropLowLimb 60 = .ok (.iload 5, 2) := by decide +kernel
theorem dX4_dropLowLimb_62 : decode cX4_dropLowLimb 62 = .ok (.laload, 1) := by decide +kernel
theorem dX4_dropLowLimb_63 : decode cX4_dropLowLimb 63 = .ok (.ladd, 1) := by decide +kernel
theorem dX4_dropLowLimb_64 : decode cX4_dropLowLimb 64 = .ok (.lload_n 3, 1) := by decide +kernel
theorem dX4_dropLowLimb_65 : decode cX4_dropLowLimb 65 = .ok (.ladd, 1) := by decide +kernel
theorem dX4_dropLowLimb_66 : decode cX4_dropLowLimb 66 = .ok (.lstore 6, 2) := by decide +kernel
theorem dX4_dropLowLimb_68 : decode cX4_dropLowLimb 68 = .ok (.aload_n 0, 1) := by decide +kernel
theorem dX4_dropLowLimb_69 : decode cX4_dropLowLimb 69 = .ok (.getfield 38, 3) := by decide +kernel
theorem dX4_dropLowLimb_72 : decode cX4_dropLowLimb 72 = .ok (.iload 5, 2) := by decide +kernel
theorem dX4_dropLowLimb_74 : decode cX4_dropLowLimb 74 = .ok (.iconst 1, 1) := by decide +kernel
theorem dX4_dropLowLimb_75 : decode cX4_dropLowLimb 75 = .ok (.isub, 1) := by decide +kernel
theorem dX4_dropLowLimb_76 : decode cX4_dropLowLimb 76 = .ok (.lload 6, 2) := by decide +kernel
theorem dX4_dropLowLimb_78 : decode cX4_dropLowLimb 78 = .ok (.ldc2_w 51, 3) := by decide +kernel
theorem dX4_dropLowLimb_81 : decode cX4_dropLowLimb 81 = .ok (.land, 1) := by decide +kernel
theorem dX4_dropLowLimb_82 : decode cX4_dropLowLimb 82 = .ok (.lastore, 1) := by decide +kernel
theorem dX4_dropLowLimb_83 : decode cX4_dropLowLimb 83 = .ok (.lload 6, 2) := by decide +kernel
theorem dX4_dropLowLimb_85 : decode cX4_dropLowLimb 85 = .ok (.bipush 32, 2) := by decide +kernel
theorem dX4_dropLowLimb_87 : decode cX4_dropLowLimb 87 = .ok (.lushr, 1) := by decide +kernel
theorem dX4_dropLowLimb_88 : decode cX4_dropLowLimb 88 = .ok (.lstore_n 3, 1) := by decide +kernel
theorem dX4_dropLowLimb_89 : decode cX4_dropLowLimb 89 = .ok (.iinc 5 1, 3) := by decide +kernel
theorem dX4_dropLowLimb_92 : decode cX4_dropLowLimb 92 = .ok (.goto (-54), 3) := by decide +kernel
theorem dX4_dropLowLimb_95 : decode cX4_dropLowLimb 95 = .ok (.aload_n 0, 1) := by decide +kernel
theorem dX4_dropLowLimb_96 : decode cX4_dropLowLimb 96 = .ok (.getfield 38, 3) := by decide +kernel
theorem dX4_dropLowLimb_99 : decode cX4_dropLowLimb 99 = .ok (.aload_n 0, 1) := by decide +kernel
theorem dX4_dropLowLimb_100 : decode cX4_dropLowLimb 100 = .ok (.getfield 13, 3) := by decide +kernel
theorem dX4_dropLowLimb_103 : decode cX4_dropLowLimb 103 = .ok (.laload, 1) := by decide +kernel
theorem dX4_dropLowLimb_104 : decode cX4_dropLowLimb 104 = .ok (.lload_n 3, 1) := by decide +kernel
theorem dX4_dropLowLimb_105 : decode cX4_dropLowLimb 105 = .ok (.ladd, 1) := by decide +kernel
theorem dX4_dropLowLimb_106 : decode cX4_dropLowLimb 106 = .ok (.lstore 5, 2) := by decide +kernel
theorem dX4_dropLowLimb_108 : decode cX4_dropLowLimb 108 = .ok (.aload_n 0, 1) := by decide +kernel
theorem dX4_dropLowLimb_109 : decode cX4_dropLowLimb 109 = .ok (.getfield 38, 3) := by decide +kernel
theorem dX4_dropLowLimb_112 : decode cX4_dropLowLimb 112 = .ok (.aload_n 0, 1) := by decide +kernel
theorem dX4_dropLowLimb_113 : decode cX4_dropLowLimb 113 = .ok (.getfield 13, 3) := by decide +kernel
theorem dX4_dropLowLimb_116 : decode cX4_dropLowLimb 116 = .ok (.iconst 1, 1) := by decide +kernel
theorem dX4_dropLowLimb_117 : decode cX4_dropLowLimb 117 = .ok (.isub, 1) := by decide +kernel
theorem dX4_dropLowLimb_118 : decode cX4_dropLowLimb 118 = .ok (.lload 5, 2) := by decide +kernel
theorem dX4_dropLowLimb_120 : decode cX4_dropLowLimb 120 = .ok (.ldc2_w 51, 3) := by decide +kernel
theorem dX4_dropLowLimb_123 : decode cX4_dropLowLimb 123 = .ok (.land, 1) := by decide +kernel
theorem dX4_dropLowLimb_124 : decode cX4_dropLowLimb 124 = .ok (.lastore, 1) := by decide +kernel
theorem dX4_dropLowLimb_125 : decode cX4_dropLowLimb 125 = .ok (.aload_n 0, 1) := by decide +kernel
theorem dX4_dropLowLimb_126 : decode cX4_dropLowLimb 126 = .ok (.getfield 38, 3) := by decide +kernel
theorem dX4_dropLowLimb_129 : decode cX4_dropLowLimb 129 = .ok (.aload_n 0, 1) := by decide +kernel
theorem dX4_dropLowLimb_130 : decode cX4_dropLowLimb 130 = .ok (.getfield 13, 3) := by decide +kernel
theorem dX4_dropLowLimb_133 : decode cX4_dropLowLimb 133 = .ok (.aload_n 0, 1) := by decide +kernel
theorem dX4_dropLowLimb_134 : decode cX4_dropLowLimb 134 = .ok (.getfield 38, 3) := by decide +kernel
theorem dX4_dropLowLimb_137 : decode cX4_dropLowLimb 137 = .ok (.aload_n 0, 1) := by decide +kernel
theorem dX4_dropLowLimb_138 : decode cX4_dropLowLimb 138 = .ok (.getfield 13, 3) := by decide +kernel
theorem dX4_dropLowLimb_141 : decode cX4_dropLowLimb 141 = .ok (.iconst 1, 1) := by decide +kernel
theorem dX4_dropLowLimb_142 : decode cX4_dropLowLimb 142 = .ok (.iadd, 1) := by decide +kernel
theorem dX4_dropLowLimb_143 : decode cX4_dropLowLimb 143 = .ok (.laload, 1) := by decide +kernel
theorem dX4_dropLowLimb_144 : decode cX4_dropLowLimb 144 = .ok (.lload 5, 2) := by decide +kernel
theorem dX4_dropLowLimb_146 : decode cX4_dropLowLimb 146 = .ok (.bipush 32, 2) := by decide +kernel
theorem dX4_dropLowLimb_148 : decode cX4_dropLowLimb 148 = .ok (.lushr, 1) := by decide +kernel
theorem dX4_dropLowLimb_149 : decode cX4_dropLowLimb 149 = .ok (.ladd, 1) := by decide +kernel
theorem dX4_dropLowLimb_150 : decode cX4_dropLowLimb 150 = .ok (.lastore, 1) := by decide +kernel
theorem dX4_dropLowLimb_151 : decode cX4_dropLowLimb 151 = .ok (.return_, 1) := by decide +kernel
theorem dX5_byteAt_0 : decode cX5_byteAt 0 = .ok (.iload_n 1, 1) := by decide +kernel
theorem dX5_byteAt_1 : decode cX5_byteAt 1 = .ok (.iconst 2, 1) := by decide +kernel
theorem dX5_byteAt_2 : decode cX5_byteAt 2 = .ok (.ishr, 1) := by decide +kernel
theorem dX5_byteAt_3 : decode cX5_byteAt 3 = .ok (.istore_n 2, 1) := by decide +kernel
theorem dX5_byteAt_4 : decode cX5_byteAt 4 = .ok (.iload_n 2, 1) := by decide +kernel
theorem dX5_byteAt_5 : decode cX5_byteAt 5 = .ok (.ifCond .lt 9, 3) := by decide +kernel
theorem dX5_byteAt_8 : decode cX5_byteAt 8 = .ok (.iload_n 2, 1) := by decide +kernel
theorem dX5_byteAt_9 : decode cX5_byteAt 9 = .ok (.aload_n 0, 1) := by decide +kernel
theorem dX5_byteAt_10 : decode cX5_byteAt 10 = .ok (.arraylength, 1) := by decide +kernel
theorem dX5_byteAt_11 : decode cX5_byteAt 11 = .ok (.if_icmp .lt 5, 3) := by decide +kernel
theorem dX5_byteAt_14 : decode cX5_byteAt 14 = .ok (.iconst 0, 1) := by decide +kernel
theorem dX5_byteAt_15 : decode cX5_byteAt 15 = .ok (.ireturn, 1) := by decide +kernel
theorem dX5_byteAt_16 : decode cX5_byteAt 16 = .ok (.aload_n 0, 1) := by decide +kernel
theorem dX5_byteAt_17 : decode cX5_byteAt 17 = .ok (.iload_n 2, 1) := by decide +kernel
theorem dX5_byteAt_18 : decode cX5_byteAt 18 = .ok (.laload, 1) := by decide +kernel
theorem dX5_byteAt_19 : decode cX5_byteAt 19 = .ok (.bipush 8, 2) := by decide +kernel
theorem dX5_byteAt_21 : decode cX5_byteAt 21 = .ok (.iload_n 1, 1) := by decide +kernel
theorem dX5_byteAt_22 : decode cX5_byteAt 22 = .ok (.iconst 3, 1) := by decide +kernel
theorem dX5_byteAt_23 : decode cX5_byteAt 23 = .ok (.iand, 1) := by decide +kernel
theorem dX5_byteAt_24 : decode cX5_byteAt 24 = .ok (.imul, 1) := by decide +kernel
theorem dX5_byteAt_25 : decode cX5_byteAt 25 = .ok (.lushr, 1) := by decide +kernel
theorem dX5_byteAt_26 : decode cX5_byteAt 26 = .ok (.l2i, 1) := by decide +kernel
theorem dX5_byteAt_27 : decode cX5_byteAt 27 = .ok (.sipush 255, 3) := by decide +kernel
theorem dX5_byteAt_30 : decode cX5_byteAt 30 = .ok (.iand, 1) := by decide +kernel
theorem dX5_byteAt_31 : decode cX5_byteAt 31 = .ok (.ireturn, 1) := by decide +kernel
theorem dX5_putByte_0 : decode cX5_putByte 0 = .ok (.iload_n 1, 1) := by decide +kernel
theorem dX5_putByte_1 : decode cX5_putByte 1 = .ok (.iconst 2, 1) := by decide +kernel
theorem dX5_putByte_2 : decode cX5_putByte 2 = .ok (.ishr, 1) := by decide +kernel
theorem dX5_putByte_3 : decode cX5_putByte 3 = .ok (.istore_n 3, 1) := by decide +kernel
theorem dX5_putByte_4 : decode cX5_putByte 4 = .ok (.iload_n 3, 1) := by decide +kernel
theorem dX5_putByte_5 : decode cX5_putByte 5 = .ok (.ifCond .lt 9, 3) := by decide +kernel
theorem dX5_putByte_8 : decode cX5_putByte 8 = .ok (.iload_n 3, 1) := by decide +kernel
theorem dX5_putByte_9 : decode cX5_putByte 9 = .ok (.aload_n 0, 1) := by decide +kernel
theorem dX5_putByte_10 : decode cX5_putByte 10 = .ok (.arraylength, 1) := by decide +kernel
theorem dX5_putByte_11 : decode cX5_putByte 11 = .ok (.if_icmp .lt 4, 3) := by decide +kernel
theorem dX5_putByte_14 : decode cX5_putByte 14 = .ok (.return_, 1) := by decide +kernel
theorem dX5_putByte_15 : decode cX5_putByte 15 = .ok (.bipush 8, 2) := by decide +kernel
theorem dX5_putByte_17 : decode cX5_putByte 17 = .ok (.iload_n 1, 1) := by decide +kernel
theorem dX5_putByte_18 : decode cX5_putByte 18 = .ok (.iconst 3, 1) := by decide +kernel
theorem dX5_putByte_19 : decode cX5_putByte 19 = .ok (.iand, 1) := by decide +kernel
theorem dX5_putByte_20 : decode cX5_putByte 20 = .ok (.imul, 1) := by decide +kernel
theorem dX5_putByte_21 : decode cX5_putByte 21 = .ok (.istore 4, 2) := by decide +kernel
theorem dX5_putByte_23 : decode cX5_putByte 23 = .ok (.aload_n 0, 1) := by decide +kernel
theorem dX5_putByte_24 : decode cX5_putByte 24 = .ok (.iload_n 3, 1) := by decide +kernel
theorem dX5_putByte_25 : decode cX5_putByte 25 = .ok (.aload_n 0, 1) := by decide +kernel
theorem dX5_putByte_26 : decode cX5_putByte 26 = .ok (.iload_n 3, 1) := by decide +kernel
theorem dX5_putByte_27 : decode cX5_putByte 27 = .ok (.laload, 1) := by decide +kernel
theorem dX5_putByte_28 : decode cX5_putByte 28 = .ok (.ldc2_w 7, 3) := by decide +kernel
theorem dX5_putByte_31 : decode cX5_putByte 31 = .ok (.iload 4, 2) := by decide +kernel
theorem dX5_putByte_33 : decode cX5_putByte 33 = .ok (.lshl, 1) := by decide +kernel
theorem dX5_putByte_34 : decode cX5_putByte 34 = .ok (.ldc2_w 9, 3) := by decide +kernel
theorem dX5_putByte_37 : decode cX5_putByte 37 = .ok (.lxor, 1) := by decide +kernel
theorem dX5_putByte_38 : decode cX5_putByte 38 = .ok (.land, 1) := by decide +kernel
theorem dX5_putByte_39 : decode cX5_putByte 39 = .ok (.iload_n 2, 1) := by decide +kernel
theorem dX5_putByte_40 : decode cX5_putByte 40 = .ok (.i2l, 1) := by decide +kernel
theorem dX5_putByte_41 : decode cX5_putByte 41 = .ok (.ldc2_w 7, 3) := by decide +kernel
theorem dX5_putByte_44 : decode cX5_putByte 44 = .ok (.land, 1) := by decide +kernel
theorem dX5_putByte_45 : decode cX5_putByte 45 = .ok (.iload 4, 2) := by decide +kernel
theorem dX5_putByte_47 : decode cX5_putByte 47 = .ok (.lshl, 1) := by decide +kernel
theorem dX5_putByte_48 : decode cX5_putByte 48 = .ok (.lor, 1) := by decide +kernel
theorem dX5_putByte_49 : decode cX5_putByte 49 = .ok (.lastore, 1) := by decide +kernel
theorem dX5_putByte_50 : decode cX5_putByte 50 = .ok (.return_, 1) := by decide +kernel
theorem dX5_bitAt_0 : decode cX5_bitAt 0 = .ok (.iload_n 1, 1) := by decide +kernel
theorem dX5_bitAt_1 : decode cX5_bitAt 1 = .ok (.iconst 5, 1) := by decide +kernel
theorem dX5_bitAt_2 : decode cX5_bitAt 2 = .ok (.ishr, 1) := by decide +kernel
theorem dX5_bitAt_3 : decode cX5_bitAt 3 = .ok (.istore_n 2, 1) := by decide +kernel
theorem dX5_bitAt_4 : decode cX5_bitAt 4 = .ok (.iload_n 2, 1) := by decide +kernel
theorem dX5_bitAt_5 : decode cX5_bitAt 5 = .ok (.ifCond .lt 28, 3) := by decide +kernel
theorem dX5_bitAt_8 : decode cX5_bitAt 8 = .ok (.iload_n 2, 1) := by decide +kernel
theorem dX5_bitAt_9 : decode cX5_bitAt 9 = .ok (.aload_n 0, 1) := by decide +kernel
theorem dX5_bitAt_10 : decode cX5_bitAt 10 = .ok (.arraylength, 1) := by decide +kernel
theorem dX5_bitAt_11 : decode cX5_bitAt 11 = .ok (.if_icmp .ge 22, 3) := by decide +kernel
theorem dX5_bitAt_14 : decode cX5_bitAt 14 = .ok (.aload_n 0, 1) := by decide +kernel
theorem dX5_bitAt_15 : decode cX5_bitAt 15 = .ok (.iload_n 2, 1) := by decide +kernel
theorem dX5_bitAt_16 : decode cX5_bitAt 16 = .ok (.laload, 1) := by decide +kernel
theorem dX5_bitAt_17 : decode cX5_bitAt 17 = .ok (.iload_n 1, 1) := by decide +kernel
theorem dX5_bitAt_18 : decode cX5_bitAt 18 = .ok (.bipush 31, 2) := by decide +kernel
theorem dX5_bitAt_20 : decode cX5_bitAt 20 = .ok (.iand, 1) := by decide +kernel
theorem dX5_bitAt_21 : decode cX5_bitAt 21 = .ok (.lushr, 1) := by decide +kernel
theorem dX5_bitAt_22 : decode cX5_bitAt 22 = .ok (.lconst 1, 1) := by decide +kernel
theorem dX5_bitAt_23 : decode cX5_bitAt 23 = .ok (.land, 1) := by decide +kernel
theorem dX5_bitAt_24 : decode cX5_bitAt 24 = .ok (.lconst 1, 1) := by decide +kernel
theorem dX5_bitAt_25 : decode cX5_bitAt 25 = .ok (.lcmp, 1) := by decide +kernel
theorem dX5_bitAt_26 : decode cX5_bitAt 26 = .ok (.ifCond .ne 7, 3) := by decide +kernel
theorem dX5_bitAt_29 : decode cX5_bitAt 29 = .ok (.iconst 1, 1) := by decide +kernel
theorem dX5_bitAt_30 : decode cX5_bitAt 30 = .ok (.goto 4, 3) := by decide +kernel
theorem dX5_bitAt_33 : decode cX5_bitAt 33 = .ok (.iconst 0, 1) := by decide +kernel
theorem dX5_bitAt_34 : decode cX5_bitAt 34 = .ok (.ireturn, 1) := by decide +kernel
theorem dX5_bitCount_0 : decode cX5_bitCount 0 = .ok (.aload_n 0, 1) := by decide +kernel
theorem dX5_bitCount_1 : decode cX5_bitCount 1 = .ok (.arraylength, 1) := by decide +kernel
theorem dX5_bitCount_2 : decode cX5_bitCount 2 = .ok (.iconst 1, 1) := by decide +kernel
theorem dX5_bitCount_3 : decode cX5_bitCount 3 = .ok (.isub, 1) := by decide +kernel
theorem dX5_bitCount_4 : decode cX5_bitCount 4 = .ok (.istore_n 1, 1) := by decide +kernel
theorem dX5_bitCount_5 : decode cX5_bitCount 5 = .ok (.iload_n 1, 1) := by decide +kernel
theorem dX5_bitCount_6 : decode cX5_bitCount 6 = .ok (.ifCond .lt 32, 3) := by decide +kernel
theorem dX5_bitCount_9 : decode cX5_bitCount 9 = .ok (.aload_n 0, 1) := by decide +kernel
theorem dX5_bitCount_10 : decode cX5_bitCount 10 = .ok (.iload_n 1, 1) := by decide +kernel
theorem dX5_bitCount_11 : decode cX5_bitCount 11 = .ok (.laload, 1) := by decide +kernel
theorem dX5_bitCount_12 : decode cX5_bitCount 12 = .ok (.lconst 0, 1) := by decide +kernel
theorem dX5_bitCount_13 : decode cX5_bitCount 13 = .ok (.lcmp, 1) := by decide +kernel
theorem dX5_bitCount_14 : decode cX5_bitCount 14 = .ok (.ifCond .eq 18, 3) := by decide +kernel
theorem dX5_bitCount_17 : decode cX5_bitCount 17 = .ok (.bipush 32, 2) := by decide +kernel
theorem dX5_bitCount_19 : decode cX5_bitCount 19 = .ok (.iload_n 1, 1) := by decide +kernel
theorem dX5_bitCount_20 : decode cX5_bitCount 20 = .ok (.imul, 1) := by decide +kernel
theorem dX5_bitCount_21 : decode cX5_bitCount 21 = .ok (.bipush 64, 2) := by decide +kernel
theorem dX5_bitCount_23 : decode cX5_bitCount 23 = .ok (.iadd, 1) := by decide +kernel
theorem dX5_bitCount_24 : decode cX5_bitCount 24 = .ok (.aload_n 0, 1) := by decide +kernel
theorem dX5_bitCount_25 : decode cX5_bitCount 25 = .ok (.iload_n 1, 1) := by decide +kernel
theorem dX5_bitCount_26 : decode cX5_bitCount 26 = .ok (.laload, 1) := by decide +kernel
theorem dX5_bitCount_27 : decode cX5_bitCount 27 = .ok (.invokestatic 13, 3) := by decide +kernel
theorem dX5_bitCount_30 : decode cX5_bitCount 30 = .ok (.isub, 1) := by decide +kernel
theorem dX5_bitCount_31 : decode cX5_bitCount 31 = .ok (.ireturn, 1) := by decide +kernel
theorem dX5_bitCount_32 : decode cX5_bitCount 32 = .ok (.iinc 1 (-1), 3) := by decide +kernel
theorem dX5_bitCount_35 : decode cX5_bitCount 35 = .ok (.goto (-30), 3) := by decide +kernel
theorem dX5_bitCount_38 : decode cX5_bitCount 38 = .ok (.iconst 0, 1) := by decide +kernel
theorem dX5_bitCount_39 : decode cX5_bitCount 39 = .ok (.ireturn, 1) := by decide +kernel
theorem dX5_copy_0 : decode cX5_copy 0 = .ok (.iconst 0, 1) := by decide +kernel
theorem dX5_copy_1 : decode cX5_copy 1 = .ok (.istore_n 2, 1) := by decide +kernel
theorem dX5_copy_2 : decode cX5_copy 2 = .ok (.iload_n 2, 1) := by decide +kernel
theorem dX5_copy_3 : decode cX5_copy 3 = .ok (.aload_n 0, 1) := by decide +kernel
theorem dX5_copy_4 : decode cX5_copy 4 = .ok (.arraylength, 1) := by decide +kernel
theorem dX5_copy_5 : decode cX5_copy 5 = .ok (.if_icmp .ge 25, 3) := by decide +kernel
theorem dX5_copy_8 : decode cX5_copy 8 = .ok (.aload_n 0, 1) := by decide +kernel
theorem dX5_copy_9 : decode cX5_copy 9 = .ok (.iload_n 2, 1) := by decide +kernel
theorem dX5_copy_10 : decode cX5_copy 10 = .ok (.iload_n 2, 1) := by decide +kernel
theorem dX5_copy_11 : decode cX5_copy 11 = .ok (.aload_n 1, 1) := by decide +kernel
theorem dX5_copy_12 : decode cX5_copy 12 = .ok (.arraylength, 1) := by decide +kernel
theorem dX5_copy_13 : decode cX5_copy 13 = .ok (.if_icmp .ge 9, 3) := by decide +kernel
theorem dX5_copy_16 : decode cX5_copy 16 = .ok (.aload_n 1, 1) := by decide +kernel
theorem dX5_copy_17 : decode cX5_copy 17 = .ok (.iload_n 2, 1) := by decide +kernel
theorem dX5_copy_18 : decode cX5_copy 18 = .ok (.laload, 1) := by decide +kernel
theorem dX5_copy_19 : decode cX5_copy 19 = .ok (.goto 4, 3) := by decide +kernel
theorem dX5_copy_22 : decode cX5_copy 22 = .ok (.lconst 0, 1) := by decide +kernel
theorem dX5_copy_23 : decode cX5_copy 23 = .ok (.lastore, 1) := by decide +kernel
theorem dX5_copy_24 : decode cX5_copy 24 = .ok (.iinc 2 1, 3) := by decide +kernel
theorem dX5_copy_27 : decode cX5_copy 27 = .ok (.goto (-25), 3) := by decide +kernel
theorem dX5_copy_30 : decode cX5_copy 30 = .ok (.return_, 1) := by decide +kernel
theorem dX5_putSmall_0 : decode cX5_putSmall 0 = .ok (.iconst 0, 1) := by decide +kernel
theorem dX5_putSmall_1 : decode cX5_putSmall 1 = .ok (.istore_n 3, 1) := by decide +kernel
theorem dX5_putSmall_2 : decode cX5_putSmall 2 = .ok (.iload_n 3, 1) := by decide +kernel
theorem dX5_putSmall_3 : decode cX5_putSmall 3 = .ok (.aload_n 0, 1) := by decide +kernel
theorem dX5_putSmall_4 : decode cX5_putSmall 4 = .ok (.arraylength, 1) := by decide +kernel
theorem dX5_putSmall_5 : decode cX5_putSmall 5 = .ok (.if_icmp .ge 25, 3) := by decide +kernel
theorem dX5_putSmall_8 : decode cX5_putSmall 8 = .ok (.aload_n 0, 1) := by decide +kernel
theorem dX5_putSmall_9 : decode cX5_putSmall 9 = .ok (.iload_n 3, 1) := by decide +kernel
theorem dX5_putSmall_10 : decode cX5_putSmall 10 = .ok (.iload_n 3, 1) := by decide +kernel
theorem dX5_putSmall_11 : decode cX5_putSmall 11 = .ok (.ifCond .ne 11, 3) := by decide +kernel
theorem dX5_putSmall_14 : decode cX5_putSmall 14 = .ok (.lload_n 1, 1) := by decide +kernel
theorem dX5_putSmall_15 : decode cX5_putSmall 15 = .ok (.ldc2_w 19, 3) := by decide +kernel
theorem dX5_putSmall_18 : decode cX5_putSmall 18 = .ok (.land, 1) := by decide +kernel
theorem dX5_putSmall_19 : decode cX5_putSmall 19 = .ok (.goto 4, 3) := by decide +kernel
theorem dX5_putSmall_22 : decode cX5_putSmall 22 = .ok (.lconst 0, 1) := by decide +kernel
theorem dX5_putSmall_23 : decode cX5_putSmall 23 = .ok (.lastore, 1) := by decide +kernel
theorem dX5_putSmall_24 : decode cX5_putSmall 24 = .ok (.iinc 3 1, 3) := by decide +kernel
theorem dX5_putSmall_27 : decode cX5_putSmall 27 = .ok (.goto (-25), 3) := by decide +kernel
theorem dX5_putSmall_30 : decode cX5_putSmall 30 = .ok (.return_, 1) := by decide +kernel
theorem dX5_isOne_0 : decode cX5_isOne 0 = .ok (.aload_n 0, 1) := by decide +kernel
theorem dX5_isOne_1 : decode cX5_isOne 1 = .ok (.invokestatic 21, 3) := by decide +kernel
theorem dX5_isOne_4 : decode cX5_isOne 4 = .ok (.iconst 1, 1) := by decide +kernel
theorem dX5_isOne_5 : decode cX5_isOne 5 = .ok (.if_icmp .ne 7, 3) := by decide +kernel
theorem dX5_isOne_8 : decode cX5_isOne 8 = .ok (.iconst 1, 1) := by decide +kernel
theorem dX5_isOne_9 : decode cX5_isOne 9 = .ok (.goto 4, 3) := by decide +kernel
theorem dX5_isOne_12 : decode cX5_isOne 12 = .ok (.iconst 0, 1) := by decide +kernel
theorem dX5_isOne_13 : decode cX5_isOne 13 = .ok (.ireturn, 1) := by decide +kernel
theorem dX5_order_0 : decode cX5_order 0 = .ok (.aload_n 0, 1) := by decide +kernel
theorem dX5_order_1 : decode cX5_order 1 = .ok (.arraylength, 1) := by decide +kernel
theorem dX5_order_2 : decode cX5_order 2 = .ok (.aload_n 1, 1) := by decide +kernel
theorem dX5_order_3 : decode cX5_order 3 = .ok (.arraylength, 1) := by decide +kernel
theorem dX5_order_4 : decode cX5_order 4 = .ok (.invokestatic 25, 3) := by decide +kernel
theorem dX5_order_7 : decode cX5_order 7 = .ok (.iconst 1, 1) := by decide +kernel
theorem dX5_order_8 : decode cX5_order 8 = .ok (.isub, 1) := by decide +kernel
theorem dX5_order_9 : decode cX5_order 9 = .ok (.istore_n 2, 1) := by decide +kernel
theorem dX5_order_10 : decode cX5_order 10 = .ok (.iload_n 2, 1) := by decide +kernel
theorem dX5_order_11 : decode cX5_order 11 = .ok (.ifCond .lt 35, 3) := by decide +kernel
theorem dX5_order_14 : decode cX5_order 14 = .ok (.aload_n 0, 1) := by decide +kernel
theorem dX5_order_15 : decode cX5_order 15 = .ok (.iload_n 2, 1) := by decide +kernel
theorem dX5_order_16 : decode cX5_order 16 = .ok (.laload, 1) := by decide +kernel
theorem dX5_order_17 : decode cX5_order 17 = .ok (.aload_n 1, 1) := by decide +kernel
theorem dX5_order_18 : decode cX5_order 18 = .ok (.iload_n 2, 1) := by decide +kernel
theorem dX5_order_19 : decode cX5_order 19 = .ok (.laload, 1) := by decide +kernel
theorem dX5_order_20 : decode cX5_order 20 = .ok (.lcmp, 1) := by decide +kernel
theorem dX5_order_21 : decode cX5_order 21 = .ok (.ifCond .eq 19, 3) := by decide +kernel
theorem dX5_order_24 : decode cX5_order 24 = .ok (.aload_n 0, 1) := by decide +kernel
theorem dX5_order_25 : decode cX5_order 25 = .ok (.iload_n 2, 1) := by decide +kernel
theorem dX5_order_26 : decode cX5_order 26 = .ok (.laload, 1) := by decide +kernel
theorem dX5_order_27 : decode cX5_order 27 = .ok (.aload_n 1, 1) := by decide +kernel
theorem dX5_order_28 : decode cX5_order 28 = .ok (.iload_n 2, 1) := by decide +kernel
theorem dX5_order_29 : decode cX5_order 29 = .ok (.laload, 1) := by decide +kernel
theorem dX5_order_30 : decode cX5_order 30 = .ok (.lcmp, 1) := by decide +kernel
theorem dX5_order_31 : decode cX5_order 31 = .ok (.ifCond .ge 7, 3) := by decide +kernel
theorem dX5_order_34 : decode cX5_order 34 = .ok (.iconst (-1), 1) := by decide +kernel
theorem dX5_order_35 : decode cX5_order 35 = .ok (.goto 4, 3) := by decide +kernel
theorem dX5_order_38 : decode cX5_order 38 = .ok (.iconst 1, 1) := by decide +kernel
theorem dX5_order_39 : decode cX5_order 39 = .ok (.ireturn, 1) := by decide +kernel
theorem dX5_order_40 : decode cX5_order 40 = .ok (.iinc 2 (-1), 3) := by decide +kernel
theorem dX5_order_43 : decode cX5_order 43 = .ok (.goto (-33), 3) := by decide +kernel
theorem dX5_order_46 : decode cX5_order 46 = .ok (.iconst 0, 1) := by decide +kernel
theorem dX5_order_47 : decode cX5_order 47 = .ok (.ireturn, 1) := by decide +kernel
theorem dX5_add_0 : decode cX5_add 0 = .ok (.lconst 0, 1) := by decide +kernel
theorem dX5_add_1 : decode cX5_add 1 = .ok (.lstore_n 2, 1) := by decide +kernel
theorem dX5_add_2 : decode cX5_add 2 = .ok (.iconst 0, 1) := by decide +kernel
theorem dX5_add_3 : decode cX5_add 3 = .ok (.istore 4, 2) := by decide +kernel
theorem dX5_add_5 : decode cX5_add 5 = .ok (.iload 4, 2) := by decide +kernel
theorem dX5_add_7 : decode cX5_add 7 = .ok (.aload_n 0, 1) := by decide +kernel
theorem dX5_add_8 : decode cX5_add 8 = .ok (.arraylength, 1) := by decide +kernel
theorem dX5_add_9 : decode cX5_add 9 = .ok (.if_icmp .ge 49, 3) := by decide +kernel
theorem dX5_add_12 : decode cX5_add 12 = .ok (.aload_n 0, 1) := by decide +kernel
theorem dX5_add_13 : decode cX5_add 13 = .ok (.iload 4, 2) := by decide +kernel
theorem dX5_add_15 : decode cX5_add 15 = .ok (.laload, 1) := by decide +kernel
theorem dX5_add_16 : decode cX5_add 16 = .ok (.iload 4, 2) := by decide +kernel
theorem dX5_add_18 : decode cX5_add 18 = .ok (.aload_n 1, 1) := by decide +kernel
theorem dX5_add_19 : decode cX5_add 19 = .ok (.arraylength, 1) := by decide +kernel
theorem dX5_add_20 : decode cX5_add 20 = .ok (.if_icmp .ge 10, 3) := by decide +kernel
theorem dX5_add_23 : decode cX5_add 23 = .ok (.aload_n 1, 1) := by decide +kernel
theorem dX5_add_24 : decode cX5_add 24 = .ok (.iload 4, 2) := by decide +kernel
theorem dX5_add_26 : decode cX5_add 26 = .ok (.laload, 1) := by decide +kernel
theorem dX5_add_27 : decode cX5_add 27 = .ok (.goto 4, 3) := by decide +kernel
theorem dX5_add_30 : decode cX5_add 30 = .ok (.lconst 0, 1) := by decide +kernel
theorem dX5_add_31 : decode cX5_add 31 = .ok (.ladd, 1) := by decide +kernel
theorem dX5_add_32 : decode cX5_add 32 = .ok (.lload_n 2, 1) := by decide +kernel
theorem dX5_add_33 : decode cX5_add 33 = .ok (.ladd, 1) := by decide +kernel
theorem dX5_add_34 : decode cX5_add 34 = .ok (.lstore 5, 2) := by decide +kernel
theorem dX5_add_36 : decode cX5_add 36 = .ok (.aload_n 0, 1) := by decide +kernel
theorem dX5_add_37 : decode cX5_add 37 = .ok (.iload 4, 2) := by decide +kernel
theorem dX5_add_39 : decode cX5_add 39 = .ok (.lload 5, 2) := by decide +kernel
theorem dX5_add_41 : decode cX5_add 41 = .ok (.ldc2_w 19, 3) := by decide +kernel
theorem dX5_add_44 : decode cX5_add 44 = .ok (.land, 1) := by decide +kernel
theorem dX5_add_45 : decode cX5_add 45 = .ok (.lastore, 1) := by decide +kernel
theorem dX5_add_46 : decode cX5_add 46 = .ok (.lload 5, 2) := by decide +kernel
theorem dX5_add_48 : decode cX5_add 48 = .ok (.bipush 32, 2) := by decide +kernel
theorem dX5_add_50 : decode cX5_add 50 = .ok (.lushr, 1) := by decide +kernel
theorem dX5_add_51 : decode cX5_add 51 = .ok (.lstore_n 2, 1) := by decide +kernel
theorem dX5_add_52 : decode cX5_add 52 = .ok (.iinc 4 1, 3) := by decide +kernel
theorem dX5_add_55 : decode cX5_add 55 = .ok (.goto (-50), 3) := by decide +kernel
theorem dX5_add_58 : decode cX5_add 58 = .ok (.return_, 1) := by decide +kernel
theorem dX5_subtract_0 : decode cX5_subtract 0 = .ok (.lconst 0, 1) := by decide +kernel
theorem dX5_subtract_1 : decode cX5_subtract 1 = .ok (.lstore_n 3, 1) := by decide +kernel
theorem dX5_subtract_2 : decode cX5_subtract 2 = .ok (.iconst 0, 1) := by decide +kernel
theorem dX5_subtract_3 : decode cX5_subtract 3 = .ok (.istore 5, 2) := by decide +kernel
theorem dX5_subtract_5 : decode cX5_subtract 5 = .ok (.iload 5, 2) := by decide +kernel
theorem dX5_subtract_7 : decode cX5_subtract 7 = .ok (.aload_n 0, 1) := by decide +kernel
theorem dX5_subtract_8 : decode cX5_subtract 8 = .ok (.arraylength, 1) := by decide +kernel
theorem dX5_subtract_9 : decode cX5_subtract 9 = .ok (.if_icmp .ge 59, 3) := by decide +kernel
theorem dX5_subtract_12 : decode cX5_subtract 12 = .ok (.iload 5, 2) := by decide +kernel
theorem dX5_subtract_14 : decode cX5_subtract 14 = .ok (.aload_n 1, 1) := by decide +kernel
theorem dX5_subtract_15 : decode cX5_subtract 15 = .ok (.arraylength, 1) := by decide +kernel
theorem dX5_subtract_16 : decode cX5_subtract 16 = .ok (.if_icmp .ge 52, 3) := by decide +kernel
theorem dX5_subtract_19 : decode cX5_subtract 19 = .ok (.iload 5, 2) := by decide +kernel
theorem dX5_subtract_21 : decode cX5_subtract 21 = .ok (.aload_n 2, 1) := by decide +kernel
theorem dX5_subtract_22 : decode cX5_subtract 22 = .ok (.arraylength, 1) := by decide +kernel
theorem dX5_subtract_23 : decode cX5_subtract 23 = .ok (.if_icmp .ge 45, 3) := by decide +kernel
theorem dX5_subtract_26 : decode cX5_subtract 26 = .ok (.aload_n 1, 1) := by decide +kernel
theorem dX5_subtract_27 : decode cX5_subtract 27 = .ok (.iload 5, 2) := by decide +kernel
theorem dX5_subtract_29 : decode cX5_subtract 29 = .ok (.laload, 1) := by decide +kernel
theorem dX5_subtract_30 : decode cX5_subtract 30 = .ok (.aload_n 2, 1) := by decide +kernel
theorem dX5_subtract_31 : decode cX5_subtract 31 = .ok (.iload 5, 2) := by decide +kernel
theorem dX5_subtract_33 : decode cX5_subtract 33 = .ok (.laload, 1) := by decide +kernel
theorem dX5_subtract_34 : decode cX5_subtract 34 = .ok (.lsub, 1) := by decide +kernel
theorem dX5_subtract_35 : decode cX5_subtract 35 = .ok (.lload_n 3, 1) := by decide +kernel
theorem dX5_subtract_36 : decode cX5_subtract 36 = .ok (.lsub, 1) := by decide +kernel
theorem dX5_subtract_37 : decode cX5_subtract 37 = .ok (.lstore 6, 2) := by decide +kernel
theorem dX5_subtract_39 : decode cX5_subtract 39 = .ok (.aload_n 0, 1) := by decide +kernel
theorem dX5_subtract_40 : decode cX5_subtract 40 = .ok (.iload 5, 2) := by decide +kernel
theorem dX5_subtract_42 : decode cX5_subtract 42 = .ok (.lload 6, 2) := by decide +kernel
theorem dX5_subtract_44 : decode cX5_subtract 44 = .ok (.ldc2_w 19, 3) := by decide +kernel
theorem dX5_subtract_47 : decode cX5_subtract 47 = .ok (.land, 1) := by decide +kernel
theorem dX5_subtract_48 : decode cX5_subtract 48 = .ok (.lastore, 1) := by decide +kernel
theorem dX5_subtract_49 : decode cX5_subtract 49 = .ok (.lload 6, 2) := by decide +kernel
theorem dX5_subtract_51 : decode cX5_subtract 51 = .ok (.lconst 0, 1) := by decide +kernel
theorem dX5_subtract_52 : decode cX5_subtract 52 = .ok (.lcmp, 1) := by decide +kernel
theorem dX5_subtract_53 : decode cX5_subtract 53 = .ok (.ifCond .ge 7, 3) := by decide +kernel
theorem dX5_subtract_56 : decode cX5_subtract 56 = .ok (.lconst 1, 1) := by decide +kernel
theorem dX5_subtract_57 : decode cX5_subtract 57 = .ok (.goto 4, 3) := by decide +kernel
theorem dX5_subtract_60 : decode cX5_subtract 60 = .ok (.lconst 0, 1) := by decide +kernel
theorem dX5_subtract_61 : decode cX5_subtract 61 = .ok (.lstore_n 3, 1) := by decide +kernel
theorem dX5_subtract_62 : decode cX5_subtract 62 = .ok (.iinc 5 1, 3) := by decide +kernel
theorem dX5_subtract_65 : decode cX5_subtract 65 = .ok (.goto (-60), 3) := by decide +kernel
theorem dX5_subtract_68 : decode cX5_subtract 68 = .ok (.lload_n 3, 1) := by decide +kernel
theorem dX5_subtract_69 : decode cX5_subtract 69 = .ok (.lconst 0, 1) := by decide +kernel
theorem dX5_subtract_70 : decode cX5_subtract 70 = .ok (.lcmp, 1) := by decide +kernel
theorem dX5_subtract_71 : decode cX5_subtract 71 = .ok (.ifCond .eq 7, 3) := by decide +kernel
theorem dX5_subtract_74 : decode cX5_subtract 74 = .ok (.iconst 1, 1) := by decide +kernel
theorem dX5_subtract_75 : decode cX5_subtract 75 = .ok (.goto 4, 3) := by decide +kernel
theorem dX5_subtract_78 : decode cX5_subtract 78 = .ok (.iconst 0, 1) := by decide +kernel
theorem dX5_subtract_79 : decode cX5_subtract 79 = .ok (.ireturn, 1) := by decide +kernel
theorem dX5_lessen_0 : decode cX5_lessen 0 = .ok (.lload_n 1, 1) := by decide +kernel
theorem dX5_lessen_1 : decode cX5_lessen 1 = .ok (.lstore_n 3, 1) := by decide +kernel
theorem dX5_lessen_2 : decode cX5_lessen 2 = .ok (.iconst 0, 1) := by decide +kernel
theorem dX5_lessen_3 : decode cX5_lessen 3 = .ok (.istore 5, 2) := by decide +kernel
theorem dX5_lessen_5 : decode cX5_lessen 5 = .ok (.iload 5, 2) := by decide +kernel
theorem dX5_lessen_7 : decode cX5_lessen 7 = .ok (.aload_n 0, 1) := by decide +kernel
theorem dX5_lessen_8 : decode cX5_lessen 8 = .ok (.arraylength, 1) := by decide +kernel
theorem dX5_lessen_9 : decode cX5_lessen 9 = .ok (.if_icmp .ge 46, 3) := by decide +kernel
theorem dX5_lessen_12 : decode cX5_lessen 12 = .ok (.lload_n 3, 1) := by decide +kernel
theorem dX5_lessen_13 : decode cX5_lessen 13 = .ok (.lconst 0, 1) := by decide +kernel
theorem dX5_lessen_14 : decode cX5_lessen 14 = .ok (.lcmp, 1) := by decide +kernel
theorem dX5_lessen_15 : decode cX5_lessen 15 = .ok (.ifCond .eq 40, 3) := by decide +kernel
theorem dX5_lessen_18 : decode cX5_lessen 18 = .ok (.aload_n 0, 1) := by decide +kernel
theorem dX5_lessen_19 : decode cX5_lessen 19 = .ok (.iload 5, 2) := by decide +kernel
theorem dX5_lessen_21 : decode cX5_lessen 21 = .ok (.laload, 1) := by decide +kernel
theorem dX5_lessen_22 : decode cX5_lessen 22 = .ok (.lload_n 3, 1) := by decide +kernel
theorem dX5_lessen_23 : decode cX5_lessen 23 = .ok (.lsub, 1) := by decide +kernel
theorem dX5_lessen_24 : decode cX5_lessen 24 = .ok (.lstore 6, 2) := by decide +kernel
theorem dX5_lessen_26 : decode cX5_lessen 26 = .ok (.aload_n 0, 1) := by decide +kernel
theorem dX5_lessen_27 : decode cX5_lessen 27 = .ok (.iload 5, 2) := by decide +kernel
theorem dX5_lessen_29 : decode cX5_lessen 29 = .ok (.lload 6, 2) := by decide +kernel
theorem dX5_lessen_31 : decode cX5_lessen 31 = .ok (.ldc2_w 19, 3) := by decide +kernel
theorem dX5_lessen_34 : decode cX5_lessen 34 = .ok (.land, 1) := by decide +kernel
theorem dX5_lessen_35 : decode cX5_lessen 35 = .ok (.lastore, 1) := by decide +kernel
theorem dX5_lessen_36 : decode cX5_lessen 36 = .ok (.lload 6, 2) := by decide +kernel
theorem dX5_lessen_38 : decode cX5_lessen 38 = .ok (.lconst 0, 1) := by decide +kernel
theorem dX5_lessen_39 : decode cX5_lessen 39 = .ok (.lcmp, 1) := by decide +kernel
theorem dX5_lessen_40 : decode cX5_lessen 40 = .ok (.ifCond .ge 7, 3) := by decide +kernel
theorem dX5_lessen_43 : decode cX5_lessen 43 = .ok (.lconst 1, 1) := by decide +kernel
theorem dX5_lessen_44 : decode cX5_lessen 44 = .ok (.goto 4, 3) := by decide +kernel
theorem dX5_lessen_47 : decode cX5_lessen 47 = .ok (.lconst 0, 1) := by decide +kernel
theorem dX5_lessen_48 : decode cX5_lessen 48 = .ok (.lstore_n 3, 1) := by decide +kernel
theorem dX5_lessen_49 : decode cX5_lessen 49 = .ok (.iinc 5 1, 3) := by decide +kernel
theorem dX5_lessen_52 : decode cX5_lessen 52 = .ok (.goto (-47), 3) := by decide +kernel
theorem dX5_lessen_55 : decode cX5_lessen 55 = .ok (.return_, 1) := by decide +kernel
theorem dX5_halveUntilOdd_0 : decode cX5_halveUntilOdd 0 = .ok (.bipush 32, 2) := by decide +kernel
theorem dX5_halveUntilOdd_2 : decode cX5_halveUntilOdd 2 = .ok (.aload_n 0, 1) := by decide +kernel
theorem dX5_halveUntilOdd_3 : decode cX5_halveUntilOdd 3 = .ok (.arraylength, 1) := by decide +kernel
theorem dX5_halveUntilOdd_4 : decode cX5_halveUntilOdd 4 = .ok (.imul, 1) := by decide +kernel
theorem dX5_halveUntilOdd_5 : decode cX5_halveUntilOdd 5 = .ok (.istore_n 1, 1) := by decide +kernel
theorem dX5_halveUntilOdd_6 : decode cX5_halveUntilOdd 6 = .ok (.iconst 0, 1) := by decide +kernel
theorem dX5_halveUntilOdd_7 : decode cX5_halveUntilOdd 7 = .ok (.istore_n 2, 1) := by decide +kernel
theorem dX5_halveUntilOdd_8 : decode cX5_halveUntilOdd 8 = .ok (.iload_n 2, 1) := by decide +kernel
theorem dX5_halveUntilOdd_9 : decode cX5_halveUntilOdd 9 = .ok (.iload_n 1, 1) := by decide +kernel
theorem dX5_halveUntilOdd_10 : decode cX5_halveUntilOdd 10 = .ok (.if_icmp .ge 21, 3) := by decide +kernel
theorem dX5_halveUntilOdd_13 : decode cX5_halveUntilOdd 13 = .ok (.aload_n 0, 1) := by decide +kernel
theorem dX5_halveUntilOdd_14 : decode cX5_halveUntilOdd 14 = .ok (.iconst 0, 1) := by decide +kernel
theorem dX5_halveUntilOdd_15 : decode cX5_halveUntilOdd 15 = .ok (.invokestatic 31, 3) := by decide +kernel
theorem dX5_halveUntilOdd_18 : decode cX5_halveUntilOdd 18 = .ok (.ifCond .ne 13, 3) := by decide +kernel
theorem dX5_halveUntilOdd_21 : decode cX5_halveUntilOdd 21 = .ok (.aload_n 0, 1) := by decide +kernel
theorem dX5_halveUntilOdd_22 : decode cX5_halveUntilOdd 22 = .ok (.invokestatic 35, 3) := by decide +kernel
theorem dX5_halveUntilOdd_25 : decode cX5_halveUntilOdd 25 = .ok (.iinc 2 1, 3) := by decide +kernel
theorem dX5_halveUntilOdd_28 : decode cX5_halveUntilOdd 28 = .ok (.goto (-20), 3) := by decide +kernel
theorem dX5_halveUntilOdd_31 : decode cX5_halveUntilOdd 31 = .ok (.iload_n 2, 1) := by decide +kernel
theorem dX5_halveUntilOdd_32 : decode cX5_halveUntilOdd 32 = .ok (.ireturn, 1) := by decide +kernel
theorem dX5_halve_0 : decode cX5_halve 0 = .ok (.lconst 0, 1) := by decide +kernel
theorem dX5_halve_1 : decode cX5_halve 1 = .ok (.lstore_n 1, 1) := by decide +kernel
theorem dX5_halve_2 : decode cX5_halve 2 = .ok (.aload_n 0, 1) := by decide +kernel
theorem dX5_halve_3 : decode cX5_halve 3 = .ok (.arraylength, 1) := by decide +kernel
theorem dX5_halve_4 : decode cX5_halve 4 = .ok (.iconst 1, 1) := by decide +kernel
theorem dX5_halve_5 : decode cX5_halve 5 = .ok (.isub, 1) := by decide +kernel
theorem dX5_halve_6 : decode cX5_halve 6 = .ok (.istore_n 3, 1) := by decide +kernel
theorem dX5_halve_7 : decode cX5_halve 7 = .ok (.iload_n 3, 1) := by decide +kernel
theorem dX5_halve_8 : decode cX5_halve 8 = .ok (.ifCond .lt 31, 3) := by decide +kernel
theorem dX5_halve_11 : decode cX5_halve 11 = .ok (.aload_n 0, 1) := by decide +kernel
theorem dX5_halve_12 : decode cX5_halve 12 = .ok (.iload_n 3, 1) := by decide +kernel
theorem dX5_halve_13 : decode cX5_halve 13 = .ok (.laload, 1) := by decide +kernel
theorem dX5_halve_14 : decode cX5_halve 14 = .ok (.lstore 4, 2) := by decide +kernel
theorem dX5_halve_16 : decode cX5_halve 16 = .ok (.aload_n 0, 1) := by decide +kernel
theorem dX5_halve_17 : decode cX5_halve 17 = .ok (.iload_n 3, 1) := by decide +kernel
theorem dX5_halve_18 : decode cX5_halve 18 = .ok (.lload 4, 2) := by decide +kernel
theorem dX5_halve_20 : decode cX5_halve 20 = .ok (.iconst 1, 1) := by decide +kernel
theorem dX5_halve_21 : decode cX5_halve 21 = .ok (.lushr, 1) := by decide +kernel
theorem dX5_halve_22 : decode cX5_halve 22 = .ok (.lload_n 1, 1) := by decide +kernel
theorem dX5_halve_23 : decode cX5_halve 23 = .ok (.bipush 31, 2) := by decide +kernel
theorem dX5_halve_25 : decode cX5_halve 25 = .ok (.lshl, 1) := by decide +kernel
theorem dX5_halve_26 : decode cX5_halve 26 = .ok (.lor, 1) := by decide +kernel
theorem dX5_halve_27 : decode cX5_halve 27 = .ok (.lastore, 1) := by decide +kernel
theorem dX5_halve_28 : decode cX5_halve 28 = .ok (.lload 4, 2) := by decide +kernel
theorem dX5_halve_30 : decode cX5_halve 30 = .ok (.lconst 1, 1) := by decide +kernel
theorem dX5_halve_31 : decode cX5_halve 31 = .ok (.land, 1) := by decide +kernel
theorem dX5_halve_32 : decode cX5_halve 32 = .ok (.lstore_n 1, 1) := by decide +kernel
theorem dX5_halve_33 : decode cX5_halve 33 = .ok (.iinc 3 (-1), 3) := by decide +kernel
theorem dX5_halve_36 : decode cX5_halve 36 = .ok (.goto (-29), 3) := by decide +kernel
theorem dX5_halve_39 : decode cX5_halve 39 = .ok (.return_, 1) := by decide +kernel
theorem dX5_multiply_0 : decode cX5_multiply 0 = .ok (.aload_n 0, 1) := by decide +kernel
theorem dX5_multiply_1 : decode cX5_multiply 1 = .ok (.lconst 0, 1) := by decide +kernel
theorem dX5_multiply_2 : decode cX5_multiply 2 = .ok (.invokestatic 39, 3) := by decide +kernel
theorem dX5_multiply_5 : decode cX5_multiply 5 = .ok (.iconst 0, 1) := by decide +kernel
theorem dX5_multiply_6 : decode cX5_multiply 6 = .ok (.istore_n 3, 1) := by decide +kernel
theorem dX5_multiply_7 : decode cX5_multiply 7 = .ok (.iload_n 3, 1) := by decide +kernel
theorem dX5_multiply_8 : decode cX5_multiply 8 = .ok (.aload_n 1, 1) := by decide +kernel
theorem dX5_multiply_9 : decode cX5_multiply 9 = .ok (.arraylength, 1) := by decide +kernel
theorem dX5_multiply_10 : decode cX5_multiply 10 = .ok (.if_icmp .ge 93, 3) := by decide +kernel
theorem dX5_multiply_13 : decode cX5_multiply 13 = .ok (.lconst 0, 1) := by decide +kernel
theorem dX5_multiply_14 : decode cX5_multiply 14 = .ok (.lstore 4, 2) := by decide +kernel
theorem dX5_multiply_16 : decode cX5_multiply 16 = .ok (.iconst 0, 1) := by decide +kernel
theorem dX5_multiply_17 : decode cX5_multiply 17 = .ok (.istore 6, 2) := by decide +kernel
theorem dX5_multiply_19 : decode cX5_multiply 19 = .ok (.iload 6, 2) := by decide +kernel
theorem dX5_multiply_21 : decode cX5_multiply 21 = .ok (.aload_n 2, 1) := by decide +kernel
theorem dX5_multiply_22 : decode cX5_multiply 22 = .ok (.arraylength, 1) := by decide +kernel
theorem dX5_multiply_23 : decode cX5_multiply 23 = .ok (.if_icmp .ge 57, 3) := by decide +kernel
theorem dX5_multiply_26 : decode cX5_multiply 26 = .ok (.iload_n 3, 1) := by decide +kernel
theorem dX5_multiply_27 : decode cX5_multiply 27 = .ok (.iload 6, 2) := by decide +kernel
theorem dX5_multiply_29 : decode cX5_multiply 29 = .ok (.iadd, 1) := by decide +kernel
theorem dX5_multiply_30 : decode cX5_multiply 30 = .ok (.aload_n 0, 1) := by decide +kernel
theorem dX5_multiply_31 : decode cX5_multiply 31 = .ok (.arraylength, 1) := by decide +kernel
theorem dX5_multiply_32 : decode cX5_multiply 32 = .ok (.if_icmp .ge 48, 3) := by decide +kernel
theorem dX5_multiply_35 : decode cX5_multiply 35 = .ok (.aload_n 1, 1) := by decide +kernel
theorem dX5_multiply_36 : decode cX5_multiply 36 = .ok (.iload_n 3, 1) := by decide +kernel
theorem dX5_multiply_37 : decode cX5_multiply 37 = .ok (.laload, 1) := by decide +kernel
theorem dX5_multiply_38 : decode cX5_multiply 38 = .ok (.aload_n 2, 1) := by decide +kernel
theorem dX5_multiply_39 : decode cX5_multiply 39 = .ok (.iload 6, 2) := by decide +kernel
theorem dX5_multiply_41 : decode cX5_multiply 41 = .ok (.laload, 1) := by decide +kernel
theorem dX5_multiply_42 : decode cX5_multiply 42 = .ok (.lmul, 1) := by decide +kernel
theorem dX5_multiply_43 : decode cX5_multiply 43 = .ok (.aload_n 0, 1) := by decide +kernel
theorem dX5_multiply_44 : decode cX5_multiply 44 = .ok (.iload_n 3, 1) := by decide +kernel
theorem dX5_multiply_45 : decode cX5_multiply 45 = .ok (.iload 6, 2) := by decide +kernel
theorem dX5_multiply_47 : decode cX5_multiply 47 = .ok (.iadd, 1) := by decide +kernel
theorem dX5_multiply_48 : decode cX5_multiply 48 = .ok (.laload, 1) := by decide +kernel
theorem dX5_multiply_49 : decode cX5_multiply 49 = .ok (.ladd, 1) := by decide +kernel
theorem dX5_multiply_50 : decode cX5_multiply 50 = .ok (.lload 4, 2) := by decide +kernel
theorem dX5_multiply_52 : decode cX5_multiply 52 = .ok (.ladd, 1) := by decide +kernel
theorem dX5_multiply_53 : decode cX5_multiply 53 = .ok (.lstore 7, 2) := by decide +kernel
theorem dX5_multiply_55 : decode cX5_multiply 55 = .ok (.aload_n 0, 1) := by decide +kernel
theorem dX5_multiply_56 : decode cX5_multiply 56 = .ok (.iload_n 3, 1) := by decide +kernel
theorem dX5_multiply_57 : decode cX5_multiply 57 = .ok (.iload 6, 2) := by decide +kernel
theorem dX5_multiply_59 : decode cX5_multiply 59 = .ok (.iadd, 1) := by decide +kernel
theorem dX5_multiply_60 : decode cX5_multiply 60 = .ok (.lload 7, 2) := by decide +kernel
theorem dX5_multiply_62 : decode cX5_multiply 62 = .ok (.ldc2_w 19, 3) := by decide +kernel
theorem dX5_multiply_65 : decode cX5_multiply 65 = .ok (.land, 1) := by decide +kernel
theorem dX5_multiply_66 : decode cX5_multiply 66 = .ok (.lastore, 1) := by decide +kernel
theorem dX5_multiply_67 : decode cX5_multiply 67 = .ok (.lload 7, 2) := by decide +kernel
theorem dX5_multiply_69 : decode cX5_multiply 69 = .ok (.bipush 32, 2) := by decide +kernel
theorem dX5_multiply_71 : decode cX5_multiply 71 = .ok (.lushr, 1) := by decide +kernel
theorem dX5_multiply_72 : decode cX5_multiply 72 = .ok (.lstore 4, 2) := by decide +kernel
theorem dX5_multiply_74 : decode cX5_multiply 74 = .ok (.iinc 6 1, 3) := by decide +kernel
theorem dX5_multiply_77 : decode cX5_multiply 77 = .ok (.goto (-58), 3) := by decide +kernel
theorem dX5_multiply_80 : decode cX5_multiply 80 = .ok (.iload_n 3, 1) := by decide +kernel
theorem dX5_multiply_81 : decode cX5_multiply 81 = .ok (.aload_n 2, 1) := by decide +kernel
theorem dX5_multiply_82 : decode cX5_multiply 82 = .ok (.arraylength, 1) := by decide +kernel
theorem dX5_multiply_83 : decode cX5_multiply 83 = .ok (.iadd, 1) := by decide +kernel
theorem dX5_multiply_84 : decode cX5_multiply 84 = .ok (.aload_n 0, 1) := by decide +kernel
theorem dX5_multiply_85 : decode cX5_multiply 85 = .ok (.arraylength, 1) := by decide +kernel
theorem dX5_multiply_86 : decode cX5_multiply 86 = .ok (.if_icmp .ge 11, 3) := by decide +kernel
theorem dX5_multiply_89 : decode cX5_multiply 89 = .ok (.aload_n 0, 1) := by decide +kernel
theorem dX5_multiply_90 : decode cX5_multiply 90 = .ok (.iload_n 3, 1) := by decide +kernel
theorem dX5_multiply_91 : decode cX5_multiply 91 = .ok (.aload_n 2, 1) := by decide +kernel
theorem dX5_multiply_92 : decode cX5_multiply 92 = .ok (.arraylength, 1) := by decide +kernel
theorem dX5_multiply_93 : decode cX5_multiply 93 = .ok (.iadd, 1) := by decide +kernel
theorem dX5_multiply_94 : decode cX5_multiply 94 = .ok (.lload 4, 2) := by decide +kernel
theorem dX5_multiply_96 : decode cX5_multiply 96 = .ok (.lastore, 1) := by decide +kernel
theorem dX5_multiply_97 : decode cX5_multiply 97 = .ok (.iinc 3 1, 3) := by decide +kernel
theorem dX5_multiply_100 : decode cX5_multiply 100 = .ok (.goto (-93), 3) := by decide +kernel
theorem dX5_multiply_103 : decode cX5_multiply 103 = .ok (.return_, 1) := by decide +kernel
theorem dX5_remainder_0 : decode cX5_remainder 0 = .ok (.iload_n 1, 1) := by decide +kernel
theorem dX5_remainder_1 : decode cX5_remainder 1 = .ok (.ifCond .gt 5, 3) := by decide +kernel
theorem dX5_remainder_4 : decode cX5_remainder 4 = .ok (.lconst 0, 1) := by decide +kernel
theorem dX5_remainder_5 : decode cX5_remainder 5 = .ok (.lreturn, 1) := by decide +kernel
theorem dX5_remainder_6 : decode cX5_remainder 6 = .ok (.lconst 0, 1) := by decide +kernel
theorem dX5_remainder_7 : decode cX5_remainder 7 = .ok (.lstore_n 2, 1) := by decide +kernel
theorem dX5_remainder_8 : decode cX5_remainder 8 = .ok (.aload_n 0, 1) := by decide +kernel
theorem dX5_remainder_9 : decode cX5_remainder 9 = .ok (.arraylength, 1) := by decide +kernel
theorem dX5_remainder_10 : decode cX5_remainder 10 = .ok (.iconst 1, 1) := by decide +kernel
theorem dX5_remainder_11 : decode cX5_remainder 11 = .ok (.isub, 1) := by decide +kernel
theorem dX5_remainder_12 : decode cX5_remainder 12 = .ok (.istore 4, 2) := by decide +kernel
theorem dX5_remainder_14 : decode cX5_remainder 14 = .ok (.iload 4, 2) := by decide +kernel
theorem dX5_remainder_16 : decode cX5_remainder 16 = .ok (.ifCond .lt 22, 3) := by decide +kernel
theorem dX5_remainder_19 : decode cX5_remainder 19 = .ok (.lload_n 2, 1) := by decide +kernel
theorem dX5_remainder_20 : decode cX5_remainder 20 = .ok (.bipush 32, 2) := by decide +kernel
theorem dX5_remainder_22 : decode cX5_remainder 22 = .ok (.lshl, 1) := by decide +kernel
theorem dX5_remainder_23 : decode cX5_remainder 23 = .ok (.aload_n 0, 1) := by decide +kernel
theorem dX5_remainder_24 : decode cX5_remainder 24 = .ok (.iload 4, 2) := by decide +kernel
theorem dX5_remainder_26 : decode cX5_remainder 26 = .ok (.laload, 1) := by decide +kernel
theorem dX5_remainder_27 : decode cX5_remainder 27 = .ok (.lor, 1) := by decide +kernel
theorem dX5_remainder_28 : decode cX5_remainder 28 = .ok (.iload_n 1, 1) := by decide +kernel
theorem dX5_remainder_29 : decode cX5_remainder 29 = .ok (.i2l, 1) := by decide +kernel
theorem dX5_remainder_30 : decode cX5_remainder 30 = .ok (.lrem, 1) := by decide +kernel
theorem dX5_remainder_31 : decode cX5_remainder 31 = .ok (.lstore_n 2, 1) := by decide +kernel
theorem dX5_remainder_32 : decode cX5_remainder 32 = .ok (.iinc 4 (-1), 3) := by decide +kernel
theorem dX5_remainder_35 : decode cX5_remainder 35 = .ok (.goto (-21), 3) := by decide +kernel
theorem dX5_remainder_38 : decode cX5_remainder 38 = .ok (.lload_n 2, 1) := by decide +kernel
theorem dX5_remainder_39 : decode cX5_remainder 39 = .ok (.lreturn, 1) := by decide +kernel
theorem dX6_init_0 : decode cX6_init 0 = .ok (.aload_n 0, 1) := by decide +kernel
theorem dX6_init_1 : decode cX6_init 1 = .ok (.invokespecial 1, 3) := by decide +kernel
theorem dX6_init_4 : decode cX6_init 4 = .ok (.aload_n 0, 1) := by decide +kernel
theorem dX6_init_5 : decode cX6_init 5 = .ok (.bipush 8, 2) := by decide +kernel
theorem dX6_init_7 : decode cX6_init 7 = .ok (.newarray .int, 2) := by decide +kernel
theorem dX6_init_9 : decode cX6_init 9 = .ok (.putfield 7, 3) := by decide +kernel
theorem dX6_init_12 : decode cX6_init 12 = .ok (.aload_n 0, 1) := by decide +kernel
theorem dX6_init_13 : decode cX6_init 13 = .ok (.bipush 64, 2) := by decide +kernel
theorem dX6_init_15 : decode cX6_init 15 = .ok (.newarray .int, 2) := by decide +kernel
theorem dX6_init_17 : decode cX6_init 17 = .ok (.putfield 13, 3) := by decide +kernel
theorem dX6_init_20 : decode cX6_init 20 = .ok (.return_, 1) := by decide +kernel
theorem dX6_hashFirst_0 : decode cX6_hashFirst 0 = .ok (.iconst 0, 1) := by decide +kernel
theorem dX6_hashFirst_1 : decode cX6_hashFirst 1 = .ok (.istore_n 3, 1) := by decide +kernel
theorem dX6_hashFirst_2 : decode cX6_hashFirst 2 = .ok (.iload_n 3, 1) := by decide +kernel
theorem dX6_hashFirst_3 : decode cX6_hashFirst 3 = .ok (.aload_n 0, 1) := by decide +kernel
theorem dX6_hashFirst_4 : decode cX6_hashFirst 4 = .ok (.getfield 7, 3) := by decide +kernel
theorem dX6_hashFirst_7 : decode cX6_hashFirst 7 = .ok (.arraylength, 1) := by decide +kernel
theorem dX6_hashFirst_8 : decode cX6_hashFirst 8 = .ok (.if_icmp .ge 28, 3) := by decide +kernel
theorem dX6_hashFirst_11 : decode cX6_hashFirst 11 = .ok (.iload_n 3, 1) := by decide +kernel
theorem dX6_hashFirst_12 : decode cX6_hashFirst 12 = .ok (.getstatic 16, 3) := by decide +kernel
theorem dX6_hashFirst_15 : decode cX6_hashFirst 15 = .ok (.arraylength, 1) := by decide +kernel
theorem dX6_hashFirst_16 : decode cX6_hashFirst 16 = .ok (.if_icmp .ge 20, 3) := by decide +kernel
theorem dX6_hashFirst_19 : decode cX6_hashFirst 19 = .ok (.aload_n 0, 1) := by decide +kernel
theorem dX6_hashFirst_20 : decode cX6_hashFirst 20 = .ok (.getfield 7, 3) := by decide +kernel
theorem dX6_hashFirst_23 : decode cX6_hashFirst 23 = .ok (.iload_n 3, 1) := by decide +kernel
theorem dX6_hashFirst_24 : decode cX6_hashFirst 24 = .ok (.getstatic 16, 3) := by decide +kernel
theorem dX6_hashFirst_27 : decode cX6_hashFirst 27 = .ok (.iload_n 3, 1) := by decide +kernel
theorem dX6_hashFirst_28 : decode cX6_hashFirst 28 = .ok (.iaload, 1) := by decide +kernel
theorem dX6_hashFirst_29 : decode cX6_hashFirst 29 = .ok (.iastore, 1) := by decide +kernel
theorem dX6_hashFirst_30 : decode cX6_hashFirst 30 = .ok (.iinc 3 1, 3) := by decide +kernel
theorem dX6_hashFirst_33 : decode cX6_hashFirst 33 = .ok (.goto (-31), 3) := by decide +kernel
theorem dX6_hashFirst_36 : decode cX6_hashFirst 36 = .ok (.iload_n 2, 1) := by decide +kernel
theorem dX6_hashFirst_37 : decode cX6_hashFirst 37 = .ok (.bipush 9, 2) := by decide +kernel
theorem dX6_hashFirst_39 : decode cX6_hashFirst 39 = .ok (.iadd, 1) := by decide +kernel
theorem dX6_hashFirst_40 : decode cX6_hashFirst 40 = .ok (.bipush 64, 2) := by decide +kernel
theorem dX6_hashFirst_42 : decode cX6_hashFirst 42 = .ok (.iadd, 1) := by decide +kernel
theorem dX6_hashFirst_43 : decode cX6_hashFirst 43 = .ok (.iconst 1, 1) := by decide +kernel
theorem dX6_hashFirst_44 : decode cX6_hashFirst 44 = .ok (.isub, 1) := by decide +kernel
theorem dX6_hashFirst_45 : decode cX6_hashFirst 45 = .ok (.bipush 64, 2) := by decide +kernel
theorem dX6_hashFirst_47 : decode cX6_hashFirst 47 = .ok (.idiv, 1) := by decide +kernel
theorem dX6_hashFirst_48 : decode cX6_hashFirst 48 = .ok (.istore_n 3, 1) := by decide +kernel
theorem dX6_hashFirst_49 : decode cX6_hashFirst 49 = .ok (.iconst 0, 1) := by decide +kernel
theorem dX6_hashFirst_50 : decode cX6_hashFirst 50 = .ok (.istore 4, 2) := by decide +kernel
theorem dX6_hashFirst_52 : decode cX6_hashFirst 52 = .ok (.iload 4, 2) := by decide +kernel
theorem dX6_hashFirst_54 : decode cX6_hashFirst 54 = .ok (.iload_n 3, 1) := by decide +kernel
theorem dX6_hashFirst_55 : decode cX6_hashFirst 55 = .ok (.if_icmp .ge 63, 3) := by decide +kernel
theorem dX6_hashFirst_58 : decode cX6_hashFirst 58 = .ok (.iconst 0, 1) := by decide +kernel
theorem dX6_hashFirst_59 : decode cX6_hashFirst 59 = .ok (.istore 5, 2) := by decide +kernel
theorem dX6_hashFirst_61 : decode cX6_hashFirst 61 = .ok (.iload 5, 2) := by decide +kernel
theorem dX6_hashFirst_63 : decode cX6_hashFirst 63 = .ok (.bipush 16, 2) := by decide +kernel
theorem dX6_hashFirst_65 : decode cX6_hashFirst 65 = .ok (.if_icmp .ge 39, 3) := by decide +kernel
theorem dX6_hashFirst_68 : decode cX6_hashFirst 68 = .ok (.bipush 64, 2) := by decide +kernel
theorem dX6_hashFirst_70 : decode cX6_hashFirst 70 = .ok (.iload 4, 2) := by decide +kernel
theorem dX6_hashFirst_72 : decode cX6_hashFirst 72 = .ok (.imul, 1) := by decide +kernel
theorem dX6_hashFirst_73 : decode cX6_hashFirst 73 = .ok (.iconst 4, 1) := by decide +kernel
theorem dX6_hashFirst_74 : decode cX6_hashFirst 74 = .ok (.iload 5, 2) := by decide +kernel
theorem dX6_hashFirst_76 : decode cX6_hashFirst 76 = .ok (.imul, 1) := by decide +kernel
theorem dX6_hashFirst_77 : decode cX6_hashFirst 77 = .ok (.iadd, 1) := by decide +kernel
theorem dX6_hashFirst_78 : decode cX6_hashFirst 78 = .ok (.istore 6, 2) := by decide +kernel
theorem dX6_hashFirst_80 : decode cX6_hashFirst 80 = .ok (.aload_n 0, 1) := by decide +kernel
theorem dX6_hashFirst_81 : decode cX6_hashFirst 81 = .ok (.getfield 13, 3) := by decide +kernel
theorem dX6_hashFirst_84 : decode cX6_hashFirst 84 = .ok (.iload 5, 2) := by decide +kernel
theorem dX6_hashFirst_86 : decode cX6_hashFirst 86 = .ok (.aload_n 1, 1) := by decide +kernel
theorem dX6_hashFirst_87 : decode cX6_hashFirst 87 = .ok (.iload_n 2, 1) := by decide +kernel
theorem dX6_hashFirst_88 : decode cX6_hashFirst 88 = .ok (.iload 6, 2) := by decide +kernel
theorem dX6_hashFirst_90 : decode cX6_hashFirst 90 = .ok (.bipush 64, 2) := by decide +kernel
theorem dX6_hashFirst_92 : decode cX6_hashFirst 92 = .ok (.iload_n 3, 1) := by decide +kernel
theorem dX6_hashFirst_93 : decode cX6_hashFirst 93 = .ok (.imul, 1) := by decide +kernel
theorem dX6_hashFirst_94 : decode cX6_hashFirst 94 = .ok (.invokestatic 19, 3) := by decide +kernel
theorem dX6_hashFirst_97 : decode cX6_hashFirst 97 = .ok (.iastore, 1) := by decide +kernel
theorem dX6_hashFirst_98 : decode cX6_hashFirst 98 = .ok (.iinc 5 1, 3) := by decide +kernel
theorem dX6_hashFirst_101 : decode cX6_hashFirst 101 = .ok (.goto (-40), 3) := by decide +kernel
theorem dX6_hashFirst_104 : decode cX6_hashFirst 104 = .ok (.aload_n 0, 1) := by decide +kernel
theorem dX6_hashFirst_105 : decode cX6_hashFirst 105 = .ok (.invokevirtual 23, 3) := by decide +kernel
theorem dX6_hashFirst_108 : decode cX6_hashFirst 108 = .ok (.aload_n 0, 1) := by decide +kernel
theorem dX6_hashFirst_109 : decode cX6_hashFirst 109 = .ok (.invokevirtual 26, 3) := by decide +kernel
theorem dX6_hashFirst_112 : decode cX6_hashFirst 112 = .ok (.iinc 4 1, 3) := by decide +kernel
theorem dX6_hashFirst_115 : decode cX6_hashFirst 115 = .ok (.goto (-63), 3) := by decide +kernel
theorem dX6_hashFirst_118 : decode cX6_hashFirst 118 = .ok (.return_, 1) := by decide +kernel
theorem dX6_byteAt_0 : decode cX6_byteAt 0 = .ok (.iload_n 1, 1) := by decide +kernel
theorem dX6_byteAt_1 : decode cX6_byteAt 1 = .ok (.iconst 2, 1) := by decide +kernel
theorem dX6_byteAt_2 : decode cX6_byteAt 2 = .ok (.ishr, 1) := by decide +kernel
theorem dX6_byteAt_3 : decode cX6_byteAt 3 = .ok (.istore_n 2, 1) := by decide +kernel
theorem dX6_byteAt_4 : decode cX6_byteAt 4 = .ok (.iload_n 2, 1) := by decide +kernel
theorem dX6_byteAt_5 : decode cX6_byteAt 5 = .ok (.ifCond .lt 12, 3) := by decide +kernel
theorem dX6_byteAt_8 : decode cX6_byteAt 8 = .ok (.iload_n 2, 1) := by decide +kernel
theorem dX6_byteAt_9 : decode cX6_byteAt 9 = .ok (.aload_n 0, 1) := by decide +kernel
theorem dX6_byteAt_10 : decode cX6_byteAt 10 = .ok (.getfield 7, 3) := by decide +kernel
theorem dX6_byteAt_13 : decode cX6_byteAt 13 = .ok (.arraylength, 1) := by decide +kernel
theorem dX6_byteAt_14 : decode cX6_byteAt 14 = .ok (.if_icmp .lt 5, 3) := by decide +kernel
theorem dX6_byteAt_17 : decode cX6_byteAt 17 = .ok (.iconst 0, 1) := by decide +kernel
theorem dX6_byteAt_18 : decode cX6_byteAt 18 = .ok (.ireturn, 1) := by decide +kernel
theorem dX6_byteAt_19 : decode cX6_byteAt 19 = .ok (.aload_n 0, 1) := by decide +kernel
theorem dX6_byteAt_20 : decode cX6_byteAt 20 = .ok (.getfield 7, 3) := by decide +kernel
theorem dX6_byteAt_23 : decode cX6_byteAt 23 = .ok (.iload_n 2, 1) := by decide +kernel
theorem dX6_byteAt_24 : decode cX6_byteAt 24 = .ok (.iaload, 1) := by decide +kernel
theorem dX6_byteAt_25 : decode cX6_byteAt 25 = .ok (.bipush 24, 2) := by decide +kernel
theorem dX6_byteAt_27 : decode cX6_byteAt 27 = .ok (.bipush 8, 2) := by decide +kernel
theorem dX6_byteAt_29 : decode cX6_byteAt 29 = .ok (.iload_n 1, 1) := by decide +kernel
theorem dX6_byteAt_30 : decode cX6_byteAt 30 = .ok (.iconst 3, 1) := by decide +kernel
theorem dX6_byteAt_31 : decode cX6_byteAt 31 = .ok (.iand, 1) := by decide +kernel
theorem dX6_byteAt_32 : decode cX6_byteAt 32 = .ok (.imul, 1) := by decide +kernel
theorem dX6_byteAt_33 : decode cX6_byteAt 33 = .ok (.isub, 1) := by decide +kernel
theorem dX6_byteAt_34 : decode cX6_byteAt 34 = .ok (.iushr, 1) := by decide +kernel
theorem dX6_byteAt_35 : decode cX6_byteAt 35 = .ok (.sipush 255, 3) := by decide +kernel
theorem dX6_byteAt_38 : decode cX6_byteAt 38 = .ok (.iand, 1) := by decide +kernel
theorem dX6_byteAt_39 : decode cX6_byteAt 39 = .ok (.ireturn, 1) := by decide +kernel
theorem dX6_paddedWord_0 : decode cX6_paddedWord 0 = .ok (.iload_n 2, 1) := by decide +kernel
theorem dX6_paddedWord_1 : decode cX6_paddedWord 1 = .ok (.iload_n 3, 1) := by decide +kernel
theorem dX6_paddedWord_2 : decode cX6_paddedWord 2 = .ok (.iconst 4, 1) := by decide +kernel
theorem dX6_paddedWord_3 : decode cX6_paddedWord 3 = .ok (.isub, 1) := by decide +kernel
theorem dX6_paddedWord_4 : decode cX6_paddedWord 4 = .ok (.if_icmp .ne 8, 3) := by decide +kernel
theorem dX6_paddedWord_7 : decode cX6_paddedWord 7 = .ok (.bipush 8, 2) := by decide +kernel
theorem dX6_paddedWord_9 : decode cX6_paddedWord 9 = .ok (.iload_n 1, 1) := by decide +kernel
theorem dX6_paddedWord_10 : decode cX6_paddedWord 10 = .ok (.imul, 1) := by decide +kernel
theorem dX6_paddedWord_11 : decode cX6_paddedWord 11 = .ok (.ireturn, 1) := by decide +kernel
theorem dX6_paddedWord_12 : decode cX6_paddedWord 12 = .ok (.iconst 0, 1) := by decide +kernel
theorem dX6_paddedWord_13 : decode cX6_paddedWord 13 = .ok (.istore 4, 2) := by decide +kernel
theorem dX6_paddedWord_15 : decode cX6_paddedWord 15 = .ok (.iload_n 2, 1) := by decide +kernel
theorem dX6_paddedWord_16 : decode cX6_paddedWord 16 = .ok (.istore 5, 2) := by decide +kernel
theorem dX6_paddedWord_18 : decode cX6_paddedWord 18 = .ok (.iload 5, 2) := by decide +kernel
theorem dX6_paddedWord_20 : decode cX6_paddedWord 20 = .ok (.iload_n 2, 1) := by decide +kernel
theorem dX6_paddedWord_21 : decode cX6_paddedWord 21 = .ok (.iconst 4, 1) := by decide +kernel
theorem dX6_paddedWord_22 : decode cX6_paddedWord 22 = .ok (.iadd, 1) := by decide +kernel
theorem dX6_paddedWord_23 : decode cX6_paddedWord 23 = .ok (.if_icmp .ge 62, 3) := by decide +kernel
theorem dX6_paddedWord_26 : decode cX6_paddedWord 26 = .ok (.iload 5, 2) := by decide +kernel
theorem dX6_paddedWord_28 : decode cX6_paddedWord 28 = .ok (.iload_n 1, 1) := by decide +kernel
theorem dX6_paddedWord_29 : decode cX6_paddedWord 29 = .ok (.if_icmp .ne 9, 3) := by decide +kernel
theorem dX6_paddedWord_32 : decode cX6_paddedWord 32 = .ok (.sipush 128, 3) := by decide +kernel
theorem dX6_paddedWord_35 : decode cX6_paddedWord 35 = .ok (.goto 4, 3) := by decide +kernel
theorem dX6_paddedWord_38 : decode cX6_paddedWord 38 = .ok (.iconst 0, 1) := by decide +kernel
theorem dX6_paddedWord_39 : decode cX6_paddedWord 39 = .ok (.istore 6, 2) := by decide +kernel
theorem dX6_paddedWord_41 : decode cX6_paddedWord 41 = .ok (.iload 5, 2) := by decide +kernel
theorem dX6_paddedWord_43 : decode cX6_paddedWord 43 = .ok (.ifCond .lt 26, 3) := by decide +kernel
theorem dX6_paddedWord_46 : decode cX6_paddedWord 46 = .ok (.iload 5, 2) := by decide +kernel
theorem dX6_paddedWord_48 : decode cX6_paddedWord 48 = .ok (.iload_n 1, 1) := by decide +kernel
theorem dX6_paddedWord_49 : decode cX6_paddedWord 49 = .ok (.if_icmp .ge 20, 3) := by decide +kernel
theorem dX6_paddedWord_52 : decode cX6_paddedWord 52 = .ok (.iload 5, 2) := by decide +kernel
theorem dX6_paddedWord_54 : decode cX6_paddedWord 54 = .ok (.aload_n 0, 1) := by decide +kernel
theorem dX6_paddedWord_55 : decode cX6_paddedWord 55 = .ok (.arraylength, 1) := by decide +kernel
theorem dX6_paddedWord_56 : decode cX6_paddedWord 56 = .ok (.if_icmp .ge 13, 3) := by decide +kernel
theorem dX6_paddedWord_59 : decode cX6_paddedWord 59 = .ok (.aload_n 0, 1) := by decide +kernel
theorem dX6_paddedWord_60 : decode cX6_paddedWord 60 = .ok (.iload 5, 2) := by decide +kernel
theorem dX6_paddedWord_62 : decode cX6_paddedWord 62 = .ok (.baload, 1) := by decide +kernel
theorem dX6_paddedWord_63 : decode cX6_paddedWord 63 = .ok (.sipush 255, 3) := by decide +kernel
theorem dX6_paddedWord_66 : decode cX6_paddedWord 66 = .ok (.iand, 1) := by decide +kernel
theorem dX6_paddedWord_67 : decode cX6_paddedWord 67 = .ok (.istore 6, 2) := by decide +kernel
theorem dX6_paddedWord_69 : decode cX6_paddedWord 69 = .ok (.iload 4, 2) := by decide +kernel
theorem dX6_paddedWord_71 : decode cX6_paddedWord 71 = .ok (.bipush 8, 2) := by decide +kernel
theorem dX6_paddedWord_73 : decode cX6_paddedWord 73 = .ok (.ishl, 1) := by decide +kernel
theorem dX6_paddedWord_74 : decode cX6_paddedWord 74 = .ok (.iload 6, 2) := by decide +kernel
theorem dX6_paddedWord_76 : decode cX6_paddedWord 76 = .ok (.ior, 1) := by decide +kernel
theorem dX6_paddedWord_77 : decode cX6_paddedWord 77 = .ok (.istore 4, 2) := by decide +kernel
theorem dX6_paddedWord_79 : decode cX6_paddedWord 79 = .ok (.iinc 5 1, 3) := by decide +kernel
theorem dX6_paddedWord_82 : decode cX6_paddedWord 82 = .ok (.goto (-64), 3) := by decide +kernel
theorem dX6_paddedWord_85 : decode cX6_paddedWord 85 = .ok (.iload 4, 2) := by decide +kernel
theorem dX6_paddedWord_87 : decode cX6_paddedWord 87 = .ok (.ireturn, 1) := by decide +kernel
theorem dX6_extendSchedule_0 : decode cX6_extendSchedule 0 = .ok (.bipush 16, 2) := by decide +kernel
theorem dX6_extendSchedule_2 : decode cX6_extendSchedule 2 = .ok (.istore_n 1, 1) := by decide +kernel
theorem dX6_extendSchedule_3 : decode cX6_extendSchedule 3 = .ok (.iload_n 1, 1) := by decide +kernel
theorem dX6_extendSchedule_4 : decode cX6_extendSchedule 4 = .ok (.aload_n 0, 1) := by decide +kernel
theorem dX6_extendSchedule_5 : decode cX6_extendSchedule 5 = .ok (.getfield 13, 3) := by decide +kernel
theorem dX6_extendSchedule_8 : decode cX6_extendSchedule 8 = .ok (.arraylength, 1) := by decide +kernel
theorem dX6_extendSchedule_9 : decode cX6_extendSchedule 9 = .ok (.if_icmp .ge 98, 3) := by decide +kernel
theorem dX6_extendSchedule_12 : decode cX6_extendSchedule 12 = .ok (.aload_n 0, 1) := by decide +kernel
theorem dX6_extendSchedule_13 : decode cX6_extendSchedule 13 = .ok (.getfield 13, 3) := by decide +kernel
theorem dX6_extendSchedule_16 : decode cX6_extendSchedule 16 = .ok (.iload_n 1, 1) := by decide +kernel
theorem dX6_extendSchedule_17 : decode cX6_extendSchedule 17 = .ok (.bipush 15, 2) := by decide +kernel
theorem dX6_extendSchedule_19 : decode cX6_extendSchedule 19 = .ok (.isub, 1) := by decide +kernel
theorem dX6_extendSchedule_20 : decode cX6_extendSchedule 20 = .ok (.iaload, 1) := by decide +kernel
theorem dX6_extendSchedule_21 : decode cX6_extendSchedule 21 = .ok (.istore_n 2, 1) := by decide +kernel
theorem dX6_extendSchedule_22 : decode cX6_extendSchedule 22 = .ok (.aload_n 0, 1) := by decide +kernel
theorem dX6_extendSchedule_23 : decode cX6_extendSchedule 23 = .ok (.getfield 13, 3) := by decide +kernel
theorem dX6_extendSchedule_26 : decode cX6_extendSchedule 26 = .ok (.iload_n 1, 1) := by decide +kernel
theorem dX6_extendSchedule_27 : decode cX6_extendSchedule 27 = .ok (.iconst 2, 1) := by decide +kernel
theorem dX6_extendSchedule_28 : decode cX6_extendSchedule 28 = .ok (.isub, 1) := by decide +kernel
theorem dX6_extendSchedule_29 : decode cX6_extendSchedule 29 = .ok (.iaload, 1) := by decide +kernel
theorem dX6_extendSchedule_30 : decode cX6_extendSchedule 30 = .ok (.istore_n 3, 1) := by decide +kernel
theorem dX6_extendSchedule_31 : decode cX6_extendSchedule 31 = .ok (.iload_n 2, 1) := by decide +kernel
theorem dX6_extendSchedule_32 : decode cX6_extendSchedule 32 = .ok (.bipush 7, 2) := by decide +kernel
theorem dX6_extendSchedule_34 : decode cX6_extendSchedule 34 = .ok (.invokestatic 29, 3) := by decide +kernel
theorem dX6_extendSchedule_37 : decode cX6_extendSchedule 37 = .ok (.iload_n 2, 1) := by decide +kernel
theorem dX6_extendSchedule_38 : decode cX6_extendSchedule 38 = .ok (.bipush 18, 2) := by decide +kernel
theorem dX6_extendSchedule_40 : decode cX6_extendSchedule 40 = .ok (.invokestatic 29, 3) := by decide +kernel
theorem dX6_extendSchedule_43 : decode cX6_extendSchedule 43 = .ok (.ixor, 1) := by decide +kernel
theorem dX6_extendSchedule_44 : decode cX6_extendSchedule 44 = .ok (.iload_n 2, 1) := by decide +kernel
theorem dX6_extendSchedule_45 : decode cX6_extendSchedule 45 = .ok (.iconst 3, 1) := by decide +kernel
theorem dX6_extendSchedule_46 : decode cX6_extendSchedule 46 = .ok (.iushr, 1) := by decide +kernel
theorem dX6_extendSchedule_47 : decode cX6_extendSchedule 47 = .ok (.ixor, 1) := by decide +kernel
theorem dX6_extendSchedule_48 : decode cX6_extendSchedule 48 = .ok (.istore 4, 2) := by decide +kernel
theorem dX6_extendSchedule_50 : decode cX6_extendSchedule 50 = .ok (.iload_n 3, 1) := by decide +kernel
theorem dX6_extendSchedule_51 : decode cX6_extendSchedule 51 = .ok (.bipush 17, 2) := by decide +kernel
theorem dX6_extendSchedule_53 : decode cX6_extendSchedule 53 = .ok (.invokestatic 29, 3) := by decide +kernel
theorem dX6_extendSchedule_56 : decode cX6_extendSchedule 56 = .ok (.iload_n 3, 1) := by decide +kernel
theorem dX6_extendSchedule_57 : decode cX6_extendSchedule 57 = .ok (.bipush 19, 2) := by decide +kernel
theorem dX6_extendSchedule_59 : decode cX6_extendSchedule 59 = .ok (.invokestatic 29, 3) := by decide +kernel
theorem dX6_extendSchedule_62 : decode cX6_extendSchedule 62 = .ok (.ixor, 1) := by decide +kernel
theorem dX6_extendSchedule_63 : decode cX6_extendSchedule 63 = .ok (.iload_n 3, 1) := by decide +kernel
theorem dX6_extendSchedule_64 : decode cX6_extendSchedule 64 = .ok (.bipush 10, 2) := by decide +kernel
theorem dX6_extendSchedule_66 : decode cX6_extendSchedule 66 = .ok (.iushr, 1) := by decide +kernel
theorem dX6_extendSchedule_67 : decode cX6_extendSchedule 67 = .ok (.ixor, 1) := by decide +kernel
theorem dX6_extendSchedule_68 : decode cX6_extendSchedule 68 = .ok (.istore 5, 2) := by decide +kernel
theorem dX6_extendSchedule_70 : decode cX6_extendSchedule 70 = .ok (.aload_n 0, 1) := by decide +kernel
theorem dX6_extendSchedule_71 : decode cX6_extendSchedule 71 = .ok (.getfield 13, 3) := by decide +kernel
theorem dX6_extendSchedule_74 : decode cX6_extendSchedule 74 = .ok (.iload_n 1, 1) := by decide +kernel
theorem dX6_extendSchedule_75 : decode cX6_extendSchedule 75 = .ok (.aload_n 0, 1) := by decide +kernel
theorem dX6_extendSchedule_76 : decode cX6_extendSchedule 76 = .ok (.getfield 13, 3) := by decide +kernel
theorem dX6_extendSchedule_79 : decode cX6_extendSchedule 79 = .ok (.iload_n 1, 1) := by decide +kernel
theorem dX6_extendSchedule_80 : decode cX6_extendSchedule 80 = .ok (.bipush 16, 2) := by decide +kernel
theorem dX6_extendSchedule_82 : decode cX6_extendSchedule 82 = .ok (.isub, 1) := by decide +kernel
theorem dX6_extendSchedule_83 : decode cX6_extendSchedule 83 = .ok (.iaload, 1) := by decide +kernel
theorem dX6_extendSchedule_84 : decode cX6_extendSchedule 84 = .ok (.iload 4, 2) := by decide +kernel
theorem dX6_extendSchedule_86 : decode cX6_extendSchedule 86 = .ok (.iadd, 1) := by decide +kernel
theorem dX6_extendSchedule_87 : decode cX6_extendSchedule 87 = .ok (.aload_n 0, 1) := by decide +kernel
theorem dX6_extendSchedule_88 : decode cX6_extendSchedule 88 = .ok (.getfield 13, 3) := by decide +kernel
theorem dX6_extendSchedule_91 : decode cX6_extendSchedule 91 = .ok (.iload_n 1, 1) := by decide +kernel
theorem dX6_extendSchedule_92 : decode cX6_extendSchedule 92 = .ok (.bipush 7, 2) := by decide +kernel
theorem dX6_extendSchedule_94 : decode cX6_extendSchedule 94 = .ok (.isub, 1) := by decide +kernel
theorem dX6_extendSchedule_95 : decode cX6_extendSchedule 95 = .ok (.iaload, 1) := by decide +kernel
theorem dX6_extendSchedule_96 : decode cX6_extendSchedule 96 = .ok (.iadd, 1) := by decide +kernel
theorem dX6_extendSchedule_97 : decode cX6_extendSchedule 97 = .ok (.iload 5, 2) := by decide +kernel
theorem dX6_extendSchedule_99 : decode cX6_extendSchedule 99 = .ok (.iadd, 1) := by decide +kernel
theorem dX6_extendSchedule_100 : decode cX6_extendSchedule 100 = .ok (.iastore, 1) := by decide +kernel
theorem dX6_extendSchedule_101 : decode cX6_extendSchedule 101 = .ok (.iinc 1 1, 3) := by decide +kernel
theorem dX6_extendSchedule_104 : decode cX6_extendSchedule 104 = .ok (.goto (-101), 3) := by decide +kernel
theorem dX6_extendSchedule_107 : decode cX6_extendSchedule 107 = .ok (.return_, 1) := by decide +kernel
theorem dX6_mixBlock_0 : decode cX6_mixBlock 0 = .ok (.aload_n 0, 1) := by decide +kernel
theorem dX6_mixBlock_1 : decode cX6_mixBlock 1 = .ok (.getfield 7, 3) := by decide +kernel
theorem dX6_mixBlock_4 : decode cX6_mixBlock 4 = .ok (.iconst 0, 1) := by decide +kernel
theorem dX6_mixBlock_5 : decode cX6_mixBlock 5 = .ok (.iaload, 1) := by decide +kernel
theorem dX6_mixBlock_6 : decode cX6_mixBlock 6 = .ok (.istore_n 1, 1) := by decide +kernel
