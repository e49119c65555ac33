theorem d_MD_begin_13 : decode b_MD_begin 13 = .ok (.aload_n 0, 1) := by decide +kernel
theorem d_MD_begin_14 : decode b_MD_begin 14 = .ok (.getfield 7, 3) := by decide +kernel
theorem d_MD_begin_17 : decode b_MD_begin 17 = .ok (.iload_n 1, 1) := by decide +kernel
theorem d_MD_begin_18 : decode b_MD_begin 18 = .ok (.iconst 0, 1) := by decide +kernel
theorem d_MD_begin_19 : decode b_MD_begin 19 = .ok (.iastore, 1) := by decide +kernel
theorem d_MD_begin_20 : decode b_MD_begin 20 = .ok (.aload_n 0, 1) := by decide +kernel
theorem d_MD_begin_21 : decode b_MD_begin 21 = .ok (.getfield 13, 3) := by decide +kernel
theorem d_MD_begin_24 : decode b_MD_begin 24 = .ok (.iload_n 1, 1) := by decide +kernel
theorem d_MD_begin_25 : decode b_MD_begin 25 = .ok (.iconst 0, 1) := by decide +kernel
theorem d_MD_begin_26 : decode b_MD_begin 26 = .ok (.iastore, 1) := by decide +kernel
theorem d_MD_begin_27 : decode b_MD_begin 27 = .ok (.aload_n 0, 1) := by decide +kernel
theorem d_MD_begin_28 : decode b_MD_begin 28 = .ok (.getfield 13, 3) := by decide +kernel
theorem d_MD_begin_31 : decode b_MD_begin 31 = .ok (.bipush 16, 2) := by decide +kernel
theorem d_MD_begin_33 : decode b_MD_begin 33 = .ok (.iload_n 1, 1) := by decide +kernel
theorem d_MD_begin_34 : decode b_MD_begin 34 = .ok (.iadd, 1) := by decide +kernel
theorem d_MD_begin_35 : decode b_MD_begin 35 = .ok (.iconst 0, 1) := by decide +kernel
theorem d_MD_begin_36 : decode b_MD_begin 36 = .ok (.iastore, 1) := by decide +kernel
theorem d_MD_begin_37 : decode b_MD_begin 37 = .ok (.iinc 1 1, 3) := by decide +kernel
theorem d_MD_begin_40 : decode b_MD_begin 40 = .ok (.goto (-33), 3) := by decide +kernel
theorem d_MD_begin_43 : decode b_MD_begin 43 = .ok (.aload_n 0, 1) := by decide +kernel
theorem d_MD_begin_44 : decode b_MD_begin 44 = .ok (.iconst 0, 1) := by decide +kernel
theorem d_MD_begin_45 : decode b_MD_begin 45 = .ok (.putfield 189, 3) := by decide +kernel
theorem d_MD_begin_48 : decode b_MD_begin 48 = .ok (.aload_n 0, 1) := by decide +kernel
theorem d_MD_begin_49 : decode b_MD_begin 49 = .ok (.iconst 0, 1) := by decide +kernel
theorem d_MD_begin_50 : decode b_MD_begin 50 = .ok (.putfield 185, 3) := by decide +kernel
theorem d_MD_begin_53 : decode b_MD_begin 53 = .ok (.aload_n 0, 1) := by decide +kernel
theorem d_MD_begin_54 : decode b_MD_begin 54 = .ok (.getfield 16, 3) := by decide +kernel
theorem d_MD_begin_57 : decode b_MD_begin 57 = .ok (.iconst 0, 1) := by decide +kernel
theorem d_MD_begin_58 : decode b_MD_begin 58 = .ok (.iconst 0, 1) := by decide +kernel
theorem d_MD_begin_59 : decode b_MD_begin 59 = .ok (.iastore, 1) := by decide +kernel
theorem d_MD_begin_60 : decode b_MD_begin 60 = .ok (.aload_n 0, 1) := by decide +kernel
theorem d_MD_begin_61 : decode b_MD_begin 61 = .ok (.getfield 16, 3) := by decide +kernel
theorem d_MD_begin_64 : decode b_MD_begin 64 = .ok (.iconst 1, 1) := by decide +kernel
theorem d_MD_begin_65 : decode b_MD_begin 65 = .ok (.iconst 0, 1) := by decide +kernel
theorem d_MD_begin_66 : decode b_MD_begin 66 = .ok (.iastore, 1) := by decide +kernel
theorem d_MD_begin_67 : decode b_MD_begin 67 = .ok (.aload_n 0, 1) := by decide +kernel
theorem d_MD_begin_68 : decode b_MD_begin 68 = .ok (.iconst 0, 1) := by decide +kernel
theorem d_MD_begin_69 : decode b_MD_begin 69 = .ok (.putfield 195, 3) := by decide +kernel
theorem d_MD_begin_72 : decode b_MD_begin 72 = .ok (.aload_n 0, 1) := by decide +kernel
theorem d_MD_begin_73 : decode b_MD_begin 73 = .ok (.iconst 0, 1) := by decide +kernel
theorem d_MD_begin_74 : decode b_MD_begin 74 = .ok (.putfield 209, 3) := by decide +kernel
theorem d_MD_begin_77 : decode b_MD_begin 77 = .ok (.aload_n 0, 1) := by decide +kernel
theorem d_MD_begin_78 : decode b_MD_begin 78 = .ok (.iconst 0, 1) := by decide +kernel
theorem d_MD_begin_79 : decode b_MD_begin 79 = .ok (.putfield 216, 3) := by decide +kernel
theorem d_MD_begin_82 : decode b_MD_begin 82 = .ok (.aload_n 0, 1) := by decide +kernel
theorem d_MD_begin_83 : decode b_MD_begin 83 = .ok (.iconst 0, 1) := by decide +kernel
theorem d_MD_begin_84 : decode b_MD_begin 84 = .ok (.putfield 219, 3) := by decide +kernel
theorem d_MD_begin_87 : decode b_MD_begin 87 = .ok (.aload_n 0, 1) := by decide +kernel
theorem d_MD_begin_88 : decode b_MD_begin 88 = .ok (.iconst 0, 1) := by decide +kernel
theorem d_MD_begin_89 : decode b_MD_begin 89 = .ok (.putfield 231, 3) := by decide +kernel
theorem d_MD_begin_92 : decode b_MD_begin 92 = .ok (.return_, 1) := by decide +kernel
theorem d_BQ_init_0 : decode b_BQ_init 0 = .ok (.aload_n 0, 1) := by decide +kernel
theorem d_BQ_init_1 : decode b_BQ_init 1 = .ok (.invokespecial 1, 3) := by decide +kernel
theorem d_BQ_init_4 : decode b_BQ_init 4 = .ok (.aload_n 0, 1) := by decide +kernel
theorem d_BQ_init_5 : decode b_BQ_init 5 = .ok (.iload_n 1, 1) := by decide +kernel
theorem d_BQ_init_6 : decode b_BQ_init 6 = .ok (.iconst 1, 1) := by decide +kernel
theorem d_BQ_init_7 : decode b_BQ_init 7 = .ok (.invokestatic 7, 3) := by decide +kernel
theorem d_BQ_init_10 : decode b_BQ_init 10 = .ok (.newarray .byte, 2) := by decide +kernel
theorem d_BQ_init_12 : decode b_BQ_init 12 = .ok (.putfield 13, 3) := by decide +kernel
theorem d_BQ_init_15 : decode b_BQ_init 15 = .ok (.return_, 1) := by decide +kernel
theorem d_BQ_size_0 : decode b_BQ_size 0 = .ok (.aload_n 0, 1) := by decide +kernel
theorem d_BQ_size_1 : decode b_BQ_size 1 = .ok (.getfield 19, 3) := by decide +kernel
theorem d_BQ_size_4 : decode b_BQ_size 4 = .ok (.ireturn, 1) := by decide +kernel
theorem d_BQ_at_0 : decode b_BQ_at 0 = .ok (.aload_n 0, 1) := by decide +kernel
theorem d_BQ_at_1 : decode b_BQ_at 1 = .ok (.iload_n 1, 1) := by decide +kernel
theorem d_BQ_at_2 : decode b_BQ_at 2 = .ok (.invokevirtual 23, 3) := by decide +kernel
theorem d_BQ_at_5 : decode b_BQ_at 5 = .ok (.aload_n 0, 1) := by decide +kernel
theorem d_BQ_at_6 : decode b_BQ_at 6 = .ok (.getfield 13, 3) := by decide +kernel
theorem d_BQ_at_9 : decode b_BQ_at 9 = .ok (.aload_n 0, 1) := by decide +kernel
theorem d_BQ_at_10 : decode b_BQ_at 10 = .ok (.iload_n 1, 1) := by decide +kernel
theorem d_BQ_at_11 : decode b_BQ_at 11 = .ok (.invokevirtual 27, 3) := by decide +kernel
theorem d_BQ_at_14 : decode b_BQ_at 14 = .ok (.baload, 1) := by decide +kernel
theorem d_BQ_at_15 : decode b_BQ_at 15 = .ok (.sipush 255, 3) := by decide +kernel
theorem d_BQ_at_18 : decode b_BQ_at 18 = .ok (.iand, 1) := by decide +kernel
theorem d_BQ_at_19 : decode b_BQ_at 19 = .ok (.ireturn, 1) := by decide +kernel
theorem d_BQ_flip_0 : decode b_BQ_flip 0 = .ok (.aload_n 0, 1) := by decide +kernel
theorem d_BQ_flip_1 : decode b_BQ_flip 1 = .ok (.iload_n 1, 1) := by decide +kernel
theorem d_BQ_flip_2 : decode b_BQ_flip 2 = .ok (.invokevirtual 23, 3) := by decide +kernel
theorem d_BQ_flip_5 : decode b_BQ_flip 5 = .ok (.aload_n 0, 1) := by decide +kernel
theorem d_BQ_flip_6 : decode b_BQ_flip 6 = .ok (.getfield 13, 3) := by decide +kernel
theorem d_BQ_flip_9 : decode b_BQ_flip 9 = .ok (.aload_n 0, 1) := by decide +kernel
theorem d_BQ_flip_10 : decode b_BQ_flip 10 = .ok (.iload_n 1, 1) := by decide +kernel
theorem d_BQ_flip_11 : decode b_BQ_flip 11 = .ok (.invokevirtual 27, 3) := by decide +kernel
theorem d_BQ_flip_14 : decode b_BQ_flip 14 = .ok (.dup2, 1) := by decide +kernel
theorem d_BQ_flip_15 : decode b_BQ_flip 15 = .ok (.baload, 1) := by decide +kernel
theorem d_BQ_flip_16 : decode b_BQ_flip 16 = .ok (.iload_n 2, 1) := by decide +kernel
theorem d_BQ_flip_17 : decode b_BQ_flip 17 = .ok (.i2b, 1) := by decide +kernel
theorem d_BQ_flip_18 : decode b_BQ_flip 18 = .ok (.ixor, 1) := by decide +kernel
theorem d_BQ_flip_19 : decode b_BQ_flip 19 = .ok (.i2b, 1) := by decide +kernel
theorem d_BQ_flip_20 : decode b_BQ_flip 20 = .ok (.bastore, 1) := by decide +kernel
theorem d_BQ_flip_21 : decode b_BQ_flip 21 = .ok (.return_, 1) := by decide +kernel
theorem d_BQ_add_0 : decode b_BQ_add 0 = .ok (.aload_n 0, 1) := by decide +kernel
theorem d_BQ_add_1 : decode b_BQ_add 1 = .ok (.getfield 19, 3) := by decide +kernel
theorem d_BQ_add_4 : decode b_BQ_add 4 = .ok (.aload_n 0, 1) := by decide +kernel
theorem d_BQ_add_5 : decode b_BQ_add 5 = .ok (.getfield 13, 3) := by decide +kernel
theorem d_BQ_add_8 : decode b_BQ_add 8 = .ok (.arraylength, 1) := by decide +kernel
theorem d_BQ_add_9 : decode b_BQ_add 9 = .ok (.if_icmp .ge 28, 3) := by decide +kernel
theorem d_BQ_add_12 : decode b_BQ_add 12 = .ok (.aload_n 0, 1) := by decide +kernel
theorem d_BQ_add_13 : decode b_BQ_add 13 = .ok (.getfield 13, 3) := by decide +kernel
theorem d_BQ_add_16 : decode b_BQ_add 16 = .ok (.aload_n 0, 1) := by decide +kernel
theorem d_BQ_add_17 : decode b_BQ_add 17 = .ok (.aload_n 0, 1) := by decide +kernel
theorem d_BQ_add_18 : decode b_BQ_add 18 = .ok (.getfield 19, 3) := by decide +kernel
theorem d_BQ_add_21 : decode b_BQ_add 21 = .ok (.invokevirtual 27, 3) := by decide +kernel
theorem d_BQ_add_24 : decode b_BQ_add 24 = .ok (.iload_n 1, 1) := by decide +kernel
theorem d_BQ_add_25 : decode b_BQ_add 25 = .ok (.i2b, 1) := by decide +kernel
theorem d_BQ_add_26 : decode b_BQ_add 26 = .ok (.bastore, 1) := by decide +kernel
theorem d_BQ_add_27 : decode b_BQ_add 27 = .ok (.aload_n 0, 1) := by decide +kernel
theorem d_BQ_add_28 : decode b_BQ_add 28 = .ok (.dup, 1) := by decide +kernel
theorem d_BQ_add_29 : decode b_BQ_add 29 = .ok (.getfield 19, 3) := by decide +kernel
theorem d_BQ_add_32 : decode b_BQ_add 32 = .ok (.iconst 1, 1) := by decide +kernel
theorem d_BQ_add_33 : decode b_BQ_add 33 = .ok (.iadd, 1) := by decide +kernel
theorem d_BQ_add_34 : decode b_BQ_add 34 = .ok (.putfield 19, 3) := by decide +kernel
theorem d_BQ_add_37 : decode b_BQ_add 37 = .ok (.return_, 1) := by decide +kernel
theorem d_BQ_addWord_0 : decode b_BQ_addWord 0 = .ok (.bipush 24, 2) := by decide +kernel
theorem d_BQ_addWord_2 : decode b_BQ_addWord 2 = .ok (.istore_n 2, 1) := by decide +kernel
theorem d_BQ_addWord_3 : decode b_BQ_addWord 3 = .ok (.iload_n 2, 1) := by decide +kernel
theorem d_BQ_addWord_4 : decode b_BQ_addWord 4 = .ok (.ifCond .lt 16, 3) := by decide +kernel
theorem d_BQ_addWord_7 : decode b_BQ_addWord 7 = .ok (.aload_n 0, 1) := by decide +kernel
theorem d_BQ_addWord_8 : decode b_BQ_addWord 8 = .ok (.iload_n 1, 1) := by decide +kernel
theorem d_BQ_addWord_9 : decode b_BQ_addWord 9 = .ok (.iload_n 2, 1) := by decide +kernel
theorem d_BQ_addWord_10 : decode b_BQ_addWord 10 = .ok (.iushr, 1) := by decide +kernel
theorem d_BQ_addWord_11 : decode b_BQ_addWord 11 = .ok (.invokevirtual 31, 3) := by decide +kernel
theorem d_BQ_addWord_14 : decode b_BQ_addWord 14 = .ok (.iinc 2 (-8), 3) := by decide +kernel
theorem d_BQ_addWord_17 : decode b_BQ_addWord 17 = .ok (.goto (-14), 3) := by decide +kernel
theorem d_BQ_addWord_20 : decode b_BQ_addWord 20 = .ok (.return_, 1) := by decide +kernel
theorem d_BQ_addFrom_0 : decode b_BQ_addFrom 0 = .ok (.iload_n 2, 1) := by decide +kernel
theorem d_BQ_addFrom_1 : decode b_BQ_addFrom 1 = .ok (.istore 4, 2) := by decide +kernel
theorem d_BQ_addFrom_3 : decode b_BQ_addFrom 3 = .ok (.iload 4, 2) := by decide +kernel
theorem d_BQ_addFrom_5 : decode b_BQ_addFrom 5 = .ok (.iload_n 3, 1) := by decide +kernel
theorem d_BQ_addFrom_6 : decode b_BQ_addFrom 6 = .ok (.if_icmp .ge 19, 3) := by decide +kernel
theorem d_BQ_addFrom_9 : decode b_BQ_addFrom 9 = .ok (.aload_n 0, 1) := by decide +kernel
theorem d_BQ_addFrom_10 : decode b_BQ_addFrom 10 = .ok (.aload_n 1, 1) := by decide +kernel
theorem d_BQ_addFrom_11 : decode b_BQ_addFrom 11 = .ok (.iload 4, 2) := by decide +kernel
theorem d_BQ_addFrom_13 : decode b_BQ_addFrom 13 = .ok (.invokevirtual 34, 3) := by decide +kernel
theorem d_BQ_addFrom_16 : decode b_BQ_addFrom 16 = .ok (.invokevirtual 31, 3) := by decide +kernel
theorem d_BQ_addFrom_19 : decode b_BQ_addFrom 19 = .ok (.iinc 4 1, 3) := by decide +kernel
theorem d_BQ_addFrom_22 : decode b_BQ_addFrom 22 = .ok (.goto (-19), 3) := by decide +kernel
theorem d_BQ_addFrom_25 : decode b_BQ_addFrom 25 = .ok (.return_, 1) := by decide +kernel
theorem d_BQ_dropFirst_0 : decode b_BQ_dropFirst 0 = .ok (.iconst 0, 1) := by decide +kernel
theorem d_BQ_dropFirst_1 : decode b_BQ_dropFirst 1 = .ok (.iload_n 1, 1) := by decide +kernel
theorem d_BQ_dropFirst_2 : decode b_BQ_dropFirst 2 = .ok (.aload_n 0, 1) := by decide +kernel
theorem d_BQ_dropFirst_3 : decode b_BQ_dropFirst 3 = .ok (.getfield 19, 3) := by decide +kernel
theorem d_BQ_dropFirst_6 : decode b_BQ_dropFirst 6 = .ok (.invokestatic 37, 3) := by decide +kernel
theorem d_BQ_dropFirst_9 : decode b_BQ_dropFirst 9 = .ok (.invokestatic 7, 3) := by decide +kernel
theorem d_BQ_dropFirst_12 : decode b_BQ_dropFirst 12 = .ok (.istore_n 2, 1) := by decide +kernel
theorem d_BQ_dropFirst_13 : decode b_BQ_dropFirst 13 = .ok (.aload_n 0, 1) := by decide +kernel
theorem d_BQ_dropFirst_14 : decode b_BQ_dropFirst 14 = .ok (.dup, 1) := by decide +kernel
theorem d_BQ_dropFirst_15 : decode b_BQ_dropFirst 15 = .ok (.getfield 19, 3) := by decide +kernel
theorem d_BQ_dropFirst_18 : decode b_BQ_dropFirst 18 = .ok (.iload_n 2, 1) := by decide +kernel
theorem d_BQ_dropFirst_19 : decode b_BQ_dropFirst 19 = .ok (.isub, 1) := by decide +kernel
theorem d_BQ_dropFirst_20 : decode b_BQ_dropFirst 20 = .ok (.putfield 19, 3) := by decide +kernel
theorem d_BQ_dropFirst_23 : decode b_BQ_dropFirst 23 = .ok (.aload_n 0, 1) := by decide +kernel
theorem d_BQ_dropFirst_24 : decode b_BQ_dropFirst 24 = .ok (.aload_n 0, 1) := by decide +kernel
theorem d_BQ_dropFirst_25 : decode b_BQ_dropFirst 25 = .ok (.getfield 19, 3) := by decide +kernel
theorem d_BQ_dropFirst_28 : decode b_BQ_dropFirst 28 = .ok (.ifCond .ne 7, 3) := by decide +kernel
theorem d_BQ_dropFirst_31 : decode b_BQ_dropFirst 31 = .ok (.iconst 0, 1) := by decide +kernel
theorem d_BQ_dropFirst_32 : decode b_BQ_dropFirst 32 = .ok (.goto 8, 3) := by decide +kernel
theorem d_BQ_dropFirst_35 : decode b_BQ_dropFirst 35 = .ok (.aload_n 0, 1) := by decide +kernel
theorem d_BQ_dropFirst_36 : decode b_BQ_dropFirst 36 = .ok (.iload_n 2, 1) := by decide +kernel
theorem d_BQ_dropFirst_37 : decode b_BQ_dropFirst 37 = .ok (.invokevirtual 27, 3) := by decide +kernel
theorem d_BQ_dropFirst_40 : decode b_BQ_dropFirst 40 = .ok (.putfield 40, 3) := by decide +kernel
theorem d_BQ_dropFirst_43 : decode b_BQ_dropFirst 43 = .ok (.return_, 1) := by decide +kernel
theorem d_BQ_clear_0 : decode b_BQ_clear 0 = .ok (.aload_n 0, 1) := by decide +kernel
theorem d_BQ_clear_1 : decode b_BQ_clear 1 = .ok (.iconst 0, 1) := by decide +kernel
theorem d_BQ_clear_2 : decode b_BQ_clear 2 = .ok (.putfield 40, 3) := by decide +kernel
theorem d_BQ_clear_5 : decode b_BQ_clear 5 = .ok (.aload_n 0, 1) := by decide +kernel
theorem d_BQ_clear_6 : decode b_BQ_clear 6 = .ok (.iconst 0, 1) := by decide +kernel
theorem d_BQ_clear_7 : decode b_BQ_clear 7 = .ok (.putfield 19, 3) := by decide +kernel
theorem d_BQ_clear_10 : decode b_BQ_clear 10 = .ok (.return_, 1) := by decide +kernel
theorem d_BQ_checkIndex_0 : decode b_BQ_checkIndex 0 = .ok (.iload_n 1, 1) := by decide +kernel
theorem d_BQ_checkIndex_1 : decode b_BQ_checkIndex 1 = .ok (.ifCond .lt 11, 3) := by decide +kernel
theorem d_BQ_checkIndex_4 : decode b_BQ_checkIndex 4 = .ok (.iload_n 1, 1) := by decide +kernel
theorem d_BQ_checkIndex_5 : decode b_BQ_checkIndex 5 = .ok (.aload_n 0, 1) := by decide +kernel
theorem d_BQ_checkIndex_6 : decode b_BQ_checkIndex 6 = .ok (.getfield 19, 3) := by decide +kernel
theorem d_BQ_checkIndex_9 : decode b_BQ_checkIndex 9 = .ok (.if_icmp .lt 13, 3) := by decide +kernel
theorem d_BQ_checkIndex_12 : decode b_BQ_checkIndex 12 = .ok (.new 43, 3) := by decide +kernel
theorem d_BQ_checkIndex_15 : decode b_BQ_checkIndex 15 = .ok (.dup, 1) := by decide +kernel
theorem d_BQ_checkIndex_16 : decode b_BQ_checkIndex 16 = .ok (.ldc 45, 2) := by decide +kernel
theorem d_BQ_checkIndex_18 : decode b_BQ_checkIndex 18 = .ok (.invokespecial 47, 3) := by decide +kernel
theorem d_BQ_checkIndex_21 : decode b_BQ_checkIndex 21 = .ok (.athrow, 1) := by decide +kernel
theorem d_BQ_checkIndex_22 : decode b_BQ_checkIndex 22 = .ok (.return_, 1) := by decide +kernel
theorem d_BQ_place_0 : decode b_BQ_place 0 = .ok (.aload_n 0, 1) := by decide +kernel
theorem d_BQ_place_1 : decode b_BQ_place 1 = .ok (.getfield 40, 3) := by decide +kernel
theorem d_BQ_place_4 : decode b_BQ_place 4 = .ok (.iload_n 1, 1) := by decide +kernel
theorem d_BQ_place_5 : decode b_BQ_place 5 = .ok (.iadd, 1) := by decide +kernel
theorem d_BQ_place_6 : decode b_BQ_place 6 = .ok (.istore_n 2, 1) := by decide +kernel
theorem d_BQ_place_7 : decode b_BQ_place 7 = .ok (.iload_n 2, 1) := by decide +kernel
theorem d_BQ_place_8 : decode b_BQ_place 8 = .ok (.aload_n 0, 1) := by decide +kernel
theorem d_BQ_place_9 : decode b_BQ_place 9 = .ok (.getfield 13, 3) := by decide +kernel
theorem d_BQ_place_12 : decode b_BQ_place 12 = .ok (.arraylength, 1) := by decide +kernel
theorem d_BQ_place_13 : decode b_BQ_place 13 = .ok (.if_icmp .ge 7, 3) := by decide +kernel
theorem d_BQ_place_16 : decode b_BQ_place 16 = .ok (.iload_n 2, 1) := by decide +kernel
theorem d_BQ_place_17 : decode b_BQ_place 17 = .ok (.goto 10, 3) := by decide +kernel
theorem d_BQ_place_20 : decode b_BQ_place 20 = .ok (.iload_n 2, 1) := by decide +kernel
theorem d_BQ_place_21 : decode b_BQ_place 21 = .ok (.aload_n 0, 1) := by decide +kernel
theorem d_BQ_place_22 : decode b_BQ_place 22 = .ok (.getfield 13, 3) := by decide +kernel
theorem d_BQ_place_25 : decode b_BQ_place 25 = .ok (.arraylength, 1) := by decide +kernel
theorem d_BQ_place_26 : decode b_BQ_place 26 = .ok (.isub, 1) := by decide +kernel
theorem d_BQ_place_27 : decode b_BQ_place 27 = .ok (.ireturn, 1) := by decide +kernel
theorem d_CC_init_0 : decode b_CC_init 0 = .ok (.aload_n 0, 1) := by decide +kernel
theorem d_CC_init_1 : decode b_CC_init 1 = .ok (.invokespecial 3, 3) := by decide +kernel
theorem d_CC_init_4 : decode b_CC_init 4 = .ok (.aload_n 0, 1) := by decide +kernel
theorem d_CC_init_5 : decode b_CC_init 5 = .ok (.bipush 44, 2) := by decide +kernel
theorem d_CC_init_7 : decode b_CC_init 7 = .ok (.newarray .int, 2) := by decide +kernel
theorem d_CC_init_9 : decode b_CC_init 9 = .ok (.putfield 11, 3) := by decide +kernel
theorem d_CC_init_12 : decode b_CC_init 12 = .ok (.aload_n 0, 1) := by decide +kernel
theorem d_CC_init_13 : decode b_CC_init 13 = .ok (.bipush 16, 2) := by decide +kernel
theorem d_CC_init_15 : decode b_CC_init 15 = .ok (.newarray .int, 2) := by decide +kernel
theorem d_CC_init_17 : decode b_CC_init 17 = .ok (.putfield 15, 3) := by decide +kernel
theorem d_CC_init_20 : decode b_CC_init 20 = .ok (.aload_n 0, 1) := by decide +kernel
theorem d_CC_init_21 : decode b_CC_init 21 = .ok (.bipush 16, 2) := by decide +kernel
theorem d_CC_init_23 : decode b_CC_init 23 = .ok (.newarray .int, 2) := by decide +kernel
theorem d_CC_init_25 : decode b_CC_init 25 = .ok (.putfield 18, 3) := by decide +kernel
theorem d_CC_init_28 : decode b_CC_init 28 = .ok (.return_, 1) := by decide +kernel
theorem d_CC_apply_0 : decode b_CC_apply 0 = .ok (.aload_n 0, 1) := by decide +kernel
theorem d_CC_apply_1 : decode b_CC_apply 1 = .ok (.aload_n 1, 1) := by decide +kernel
theorem d_CC_apply_2 : decode b_CC_apply 2 = .ok (.invokevirtual 21, 3) := by decide +kernel
theorem d_CC_apply_5 : decode b_CC_apply 5 = .ok (.aload_n 2, 1) := by decide +kernel
theorem d_CC_apply_6 : decode b_CC_apply 6 = .ok (.invokevirtual 25, 3) := by decide +kernel
theorem d_CC_apply_9 : decode b_CC_apply 9 = .ok (.istore_n 3, 1) := by decide +kernel
theorem d_CC_apply_10 : decode b_CC_apply 10 = .ok (.iconst 0, 1) := by decide +kernel
theorem d_CC_apply_11 : decode b_CC_apply 11 = .ok (.istore 4, 2) := by decide +kernel
theorem d_CC_apply_13 : decode b_CC_apply 13 = .ok (.iload 4, 2) := by decide +kernel
theorem d_CC_apply_15 : decode b_CC_apply 15 = .ok (.iload_n 3, 1) := by decide +kernel
theorem d_CC_apply_16 : decode b_CC_apply 16 = .ok (.if_icmp .ge 43, 3) := by decide +kernel
theorem d_CC_apply_19 : decode b_CC_apply 19 = .ok (.iload 4, 2) := by decide +kernel
theorem d_CC_apply_21 : decode b_CC_apply 21 = .ok (.bipush 16, 2) := by decide +kernel
theorem d_CC_apply_23 : decode b_CC_apply 23 = .ok (.irem, 1) := by decide +kernel
theorem d_CC_apply_24 : decode b_CC_apply 24 = .ok (.istore 5, 2) := by decide +kernel
theorem d_CC_apply_26 : decode b_CC_apply 26 = .ok (.iload 5, 2) := by decide +kernel
theorem d_CC_apply_28 : decode b_CC_apply 28 = .ok (.ifCond .ne 12, 3) := by decide +kernel
theorem d_CC_apply_31 : decode b_CC_apply 31 = .ok (.aload_n 0, 1) := by decide +kernel
theorem d_CC_apply_32 : decode b_CC_apply 32 = .ok (.aload_n 1, 1) := by decide +kernel
theorem d_CC_apply_33 : decode b_CC_apply 33 = .ok (.invokevirtual 31, 3) := by decide +kernel
theorem d_CC_apply_36 : decode b_CC_apply 36 = .ok (.aload_n 1, 1) := by decide +kernel
theorem d_CC_apply_37 : decode b_CC_apply 37 = .ok (.invokevirtual 34, 3) := by decide +kernel
theorem d_CC_apply_40 : decode b_CC_apply 40 = .ok (.aload_n 2, 1) := by decide +kernel
theorem d_CC_apply_41 : decode b_CC_apply 41 = .ok (.iload 4, 2) := by decide +kernel
theorem d_CC_apply_43 : decode b_CC_apply 43 = .ok (.aload_n 0, 1) := by decide +kernel
theorem d_CC_apply_44 : decode b_CC_apply 44 = .ok (.getfield 15, 3) := by decide +kernel
theorem d_CC_apply_47 : decode b_CC_apply 47 = .ok (.iload 5, 2) := by decide +kernel
theorem d_CC_apply_49 : decode b_CC_apply 49 = .ok (.iaload, 1) := by decide +kernel
theorem d_CC_apply_50 : decode b_CC_apply 50 = .ok (.invokevirtual 39, 3) := by decide +kernel
theorem d_CC_apply_53 : decode b_CC_apply 53 = .ok (.iinc 4 1, 3) := by decide +kernel
theorem d_CC_apply_56 : decode b_CC_apply 56 = .ok (.goto (-43), 3) := by decide +kernel
theorem d_CC_apply_59 : decode b_CC_apply 59 = .ok (.return_, 1) := by decide +kernel
theorem d_CC_firstBlock_0 : decode b_CC_firstBlock 0 = .ok (.aload_n 0, 1) := by decide +kernel
theorem d_CC_firstBlock_1 : decode b_CC_firstBlock 1 = .ok (.aload_n 1, 1) := by decide +kernel
theorem d_CC_firstBlock_2 : decode b_CC_firstBlock 2 = .ok (.invokevirtual 21, 3) := by decide +kernel
theorem d_CC_firstBlock_5 : decode b_CC_firstBlock 5 = .ok (.aload_n 0, 1) := by decide +kernel
theorem d_CC_firstBlock_6 : decode b_CC_firstBlock 6 = .ok (.aload_n 1, 1) := by decide +kernel
theorem d_CC_firstBlock_7 : decode b_CC_firstBlock 7 = .ok (.invokevirtual 31, 3) := by decide +kernel
theorem d_CC_firstBlock_10 : decode b_CC_firstBlock 10 = .ok (.return_, 1) := by decide +kernel
theorem d_CC_blockByte_0 : decode b_CC_blockByte 0 = .ok (.aload_n 0, 1) := by decide +kernel
theorem d_CC_blockByte_1 : decode b_CC_blockByte 1 = .ok (.getfield 15, 3) := by decide +kernel
theorem d_CC_blockByte_4 : decode b_CC_blockByte 4 = .ok (.iload_n 1, 1) := by decide +kernel
theorem d_CC_blockByte_5 : decode b_CC_blockByte 5 = .ok (.bipush 15, 2) := by decide +kernel
theorem d_CC_blockByte_7 : decode b_CC_blockByte 7 = .ok (.iand, 1) := by decide +kernel
theorem d_CC_blockByte_8 : decode b_CC_blockByte 8 = .ok (.iaload, 1) := by decide +kernel
theorem d_CC_blockByte_9 : decode b_CC_blockByte 9 = .ok (.ireturn, 1) := by decide +kernel
theorem d_CC_spreadKey_0 : decode b_CC_spreadKey 0 = .ok (.iconst 0, 1) := by decide +kernel
theorem d_CC_spreadKey_1 : decode b_CC_spreadKey 1 = .ok (.istore_n 2, 1) := by decide +kernel
theorem d_CC_spreadKey_2 : decode b_CC_spreadKey 2 = .ok (.iload_n 2, 1) := by decide +kernel
theorem d_CC_spreadKey_3 : decode b_CC_spreadKey 3 = .ok (.iconst 4, 1) := by decide +kernel
theorem d_CC_spreadKey_4 : decode b_CC_spreadKey 4 = .ok (.if_icmp .ge 20, 3) := by decide +kernel
theorem d_CC_spreadKey_7 : decode b_CC_spreadKey 7 = .ok (.aload_n 0, 1) := by decide +kernel
theorem d_CC_spreadKey_8 : decode b_CC_spreadKey 8 = .ok (.getfield 11, 3) := by decide +kernel
theorem d_CC_spreadKey_11 : decode b_CC_spreadKey 11 = .ok (.iload_n 2, 1) := by decide +kernel
theorem d_CC_spreadKey_12 : decode b_CC_spreadKey 12 = .ok (.aload_n 1, 1) := by decide +kernel
theorem d_CC_spreadKey_13 : decode b_CC_spreadKey 13 = .ok (.iload_n 2, 1) := by decide +kernel
theorem d_CC_spreadKey_14 : decode b_CC_spreadKey 14 = .ok (.invokevirtual 43, 3) := by decide +kernel
theorem d_CC_spreadKey_17 : decode b_CC_spreadKey 17 = .ok (.iastore, 1) := by decide +kernel
theorem d_CC_spreadKey_18 : decode b_CC_spreadKey 18 = .ok (.iinc 2 1, 3) := by decide +kernel
theorem d_CC_spreadKey_21 : decode b_CC_spreadKey 21 = .ok (.goto (-19), 3) := by decide +kernel
theorem d_CC_spreadKey_24 : decode b_CC_spreadKey 24 = .ok (.iconst 1, 1) := by decide +kernel
theorem d_CC_spreadKey_25 : decode b_CC_spreadKey 25 = .ok (.istore_n 2, 1) := by decide +kernel
theorem d_CC_spreadKey_26 : decode b_CC_spreadKey 26 = .ok (.iconst 4, 1) := by decide +kernel
theorem d_CC_spreadKey_27 : decode b_CC_spreadKey 27 = .ok (.istore_n 3, 1) := by decide +kernel
theorem d_CC_spreadKey_28 : decode b_CC_spreadKey 28 = .ok (.iload_n 3, 1) := by decide +kernel
theorem d_CC_spreadKey_29 : decode b_CC_spreadKey 29 = .ok (.bipush 44, 2) := by decide +kernel
theorem d_CC_spreadKey_31 : decode b_CC_spreadKey 31 = .ok (.if_icmp .ge 68, 3) := by decide +kernel
theorem d_CC_spreadKey_34 : decode b_CC_spreadKey 34 = .ok (.aload_n 0, 1) := by decide +kernel
theorem d_CC_spreadKey_35 : decode b_CC_spreadKey 35 = .ok (.getfield 11, 3) := by decide +kernel
theorem d_CC_spreadKey_38 : decode b_CC_spreadKey 38 = .ok (.iload_n 3, 1) := by decide +kernel
theorem d_CC_spreadKey_39 : decode b_CC_spreadKey 39 = .ok (.iconst 1, 1) := by decide +kernel
theorem d_CC_spreadKey_40 : decode b_CC_spreadKey 40 = .ok (.isub, 1) := by decide +kernel
theorem d_CC_spreadKey_41 : decode b_CC_spreadKey 41 = .ok (.iaload, 1) := by decide +kernel
theorem d_CC_spreadKey_42 : decode b_CC_spreadKey 42 = .ok (.istore 4, 2) := by decide +kernel
theorem d_CC_spreadKey_44 : decode b_CC_spreadKey 44 = .ok (.iload_n 3, 1) := by decide +kernel
theorem d_CC_spreadKey_45 : decode b_CC_spreadKey 45 = .ok (.iconst 4, 1) := by decide +kernel
theorem d_CC_spreadKey_46 : decode b_CC_spreadKey 46 = .ok (.irem, 1) := by decide +kernel
theorem d_CC_spreadKey_47 : decode b_CC_spreadKey 47 = .ok (.ifCond .ne 29, 3) := by decide +kernel
theorem d_CC_spreadKey_50 : decode b_CC_spreadKey 50 = .ok (.iload 4, 2) := by decide +kernel
theorem d_CC_spreadKey_52 : decode b_CC_spreadKey 52 = .ok (.bipush 8, 2) := by decide +kernel
theorem d_CC_spreadKey_54 : decode b_CC_spreadKey 54 = .ok (.ishl, 1) := by decide +kernel
theorem d_CC_spreadKey_55 : decode b_CC_spreadKey 55 = .ok (.iload 4, 2) := by decide +kernel
theorem d_CC_spreadKey_57 : decode b_CC_spreadKey 57 = .ok (.bipush 24, 2) := by decide +kernel
theorem d_CC_spreadKey_59 : decode b_CC_spreadKey 59 = .ok (.iushr, 1) := by decide +kernel
theorem d_CC_spreadKey_60 : decode b_CC_spreadKey 60 = .ok (.ior, 1) := by decide +kernel
theorem d_CC_spreadKey_61 : decode b_CC_spreadKey 61 = .ok (.invokestatic 47, 3) := by decide +kernel
theorem d_CC_spreadKey_64 : decode b_CC_spreadKey 64 = .ok (.iload_n 2, 1) := by decide +kernel
theorem d_CC_spreadKey_65 : decode b_CC_spreadKey 65 = .ok (.bipush 24, 2) := by decide +kernel
theorem d_CC_spreadKey_67 : decode b_CC_spreadKey 67 = .ok (.ishl, 1) := by decide +kernel
theorem d_CC_spreadKey_68 : decode b_CC_spreadKey 68 = .ok (.ixor, 1) := by decide +kernel
theorem d_CC_spreadKey_69 : decode b_CC_spreadKey 69 = .ok (.istore 4, 2) := by decide +kernel
theorem d_CC_spreadKey_71 : decode b_CC_spreadKey 71 = .ok (.iload_n 2, 1) := by decide +kernel
theorem d_CC_spreadKey_72 : decode b_CC_spreadKey 72 = .ok (.invokestatic 50, 3) := by decide +kernel
theorem d_CC_spreadKey_75 : decode b_CC_spreadKey 75 = .ok (.istore_n 2, 1) := by decide +kernel
theorem d_CC_spreadKey_76 : decode b_CC_spreadKey 76 = .ok (.aload_n 0, 1) := by decide +kernel
theorem d_CC_spreadKey_77 : decode b_CC_spreadKey 77 = .ok (.getfield 11, 3) := by decide +kernel
theorem d_CC_spreadKey_80 : decode b_CC_spreadKey 80 = .ok (.iload_n 3, 1) := by decide +kernel
theorem d_CC_spreadKey_81 : decode b_CC_spreadKey 81 = .ok (.aload_n 0, 1) := by decide +kernel
theorem d_CC_spreadKey_82 : decode b_CC_spreadKey 82 = .ok (.getfield 11, 3) := by decide +kernel
theorem d_CC_spreadKey_85 : decode b_CC_spreadKey 85 = .ok (.iload_n 3, 1) := by decide +kernel
theorem d_CC_spreadKey_86 : decode b_CC_spreadKey 86 = .ok (.iconst 4, 1) := by decide +kernel
theorem d_CC_spreadKey_87 : decode b_CC_spreadKey 87 = .ok (.isub, 1) := by decide +kernel
theorem d_CC_spreadKey_88 : decode b_CC_spreadKey 88 = .ok (.iaload, 1) := by decide +kernel
theorem d_CC_spreadKey_89 : decode b_CC_spreadKey 89 = .ok (.iload 4, 2) := by decide +kernel
theorem d_CC_spreadKey_91 : decode b_CC_spreadKey 91 = .ok (.ixor, 1) := by decide +kernel
theorem d_CC_spreadKey_92 : decode b_CC_spreadKey 92 = .ok (.iastore, 1) := by decide +kernel
theorem d_CC_spreadKey_93 : decode b_CC_spreadKey 93 = .ok (.iinc 3 1, 3) := by decide +kernel
theorem d_CC_spreadKey_96 : decode b_CC_spreadKey 96 = .ok (.goto (-68), 3) := by decide +kernel
theorem d_CC_spreadKey_99 : decode b_CC_spreadKey 99 = .ok (.return_, 1) := by decide +kernel
theorem d_CC_encipherCounter_0 : decode b_CC_encipherCounter 0 = .ok (.iconst 0, 1) := by decide +kernel
theorem d_CC_encipherCounter_1 : decode b_CC_encipherCounter 1 = .ok (.istore_n 2, 1) := by decide +kernel
theorem d_CC_encipherCounter_2 : decode b_CC_encipherCounter 2 = .ok (.iload_n 2, 1) := by decide +kernel
theorem d_CC_encipherCounter_3 : decode b_CC_encipherCounter 3 = .ok (.bipush 16, 2) := by decide +kernel
theorem d_CC_encipherCounter_5 : decode b_CC_encipherCounter 5 = .ok (.if_icmp .ge 30, 3) := by decide +kernel
theorem d_CC_encipherCounter_8 : decode b_CC_encipherCounter 8 = .ok (.aload_n 0, 1) := by decide +kernel
theorem d_CC_encipherCounter_9 : decode b_CC_encipherCounter 9 = .ok (.getfield 15, 3) := by decide +kernel
theorem d_CC_encipherCounter_12 : decode b_CC_encipherCounter 12 = .ok (.iload_n 2, 1) := by decide +kernel
theorem d_CC_encipherCounter_13 : decode b_CC_encipherCounter 13 = .ok (.aload_n 1, 1) := by decide +kernel
theorem d_CC_encipherCounter_14 : decode b_CC_encipherCounter 14 = .ok (.iconst 4, 1) := by decide +kernel
theorem d_CC_encipherCounter_15 : decode b_CC_encipherCounter 15 = .ok (.iload_n 2, 1) := by decide +kernel
theorem d_CC_encipherCounter_16 : decode b_CC_encipherCounter 16 = .ok (.iconst 4, 1) := by decide +kernel
theorem d_CC_encipherCounter_17 : decode b_CC_encipherCounter 17 = .ok (.idiv, 1) := by decide +kernel
theorem d_CC_encipherCounter_18 : decode b_CC_encipherCounter 18 = .ok (.iadd, 1) := by decide +kernel
theorem d_CC_encipherCounter_19 : decode b_CC_encipherCounter 19 = .ok (.invokevirtual 43, 3) := by decide +kernel
theorem d_CC_encipherCounter_22 : decode b_CC_encipherCounter 22 = .ok (.iload_n 2, 1) := by decide +kernel
theorem d_CC_encipherCounter_23 : decode b_CC_encipherCounter 23 = .ok (.iconst 4, 1) := by decide +kernel
theorem d_CC_encipherCounter_24 : decode b_CC_encipherCounter 24 = .ok (.irem, 1) := by decide +kernel
theorem d_CC_encipherCounter_25 : decode b_CC_encipherCounter 25 = .ok (.invokestatic 53, 3) := by decide +kernel
theorem d_CC_encipherCounter_28 : decode b_CC_encipherCounter 28 = .ok (.iastore, 1) := by decide +kernel
theorem d_CC_encipherCounter_29 : decode b_CC_encipherCounter 29 = .ok (.iinc 2 1, 3) := by decide +kernel
theorem d_CC_encipherCounter_32 : decode b_CC_encipherCounter 32 = .ok (.goto (-30), 3) := by decide +kernel
theorem d_CC_encipherCounter_35 : decode b_CC_encipherCounter 35 = .ok (.aload_n 0, 1) := by decide +kernel
theorem d_CC_encipherCounter_36 : decode b_CC_encipherCounter 36 = .ok (.iconst 0, 1) := by decide +kernel
theorem d_CC_encipherCounter_37 : decode b_CC_encipherCounter 37 = .ok (.invokevirtual 57, 3) := by decide +kernel
theorem d_CC_encipherCounter_40 : decode b_CC_encipherCounter 40 = .ok (.iconst 1, 1) := by decide +kernel
theorem d_CC_encipherCounter_41 : decode b_CC_encipherCounter 41 = .ok (.istore_n 2, 1) := by decide +kernel
theorem d_CC_encipherCounter_42 : decode b_CC_encipherCounter 42 = .ok (.iload_n 2, 1) := by decide +kernel
theorem d_CC_encipherCounter_43 : decode b_CC_encipherCounter 43 = .ok (.bipush 10, 2) := by decide +kernel
theorem d_CC_encipherCounter_45 : decode b_CC_encipherCounter 45 = .ok (.if_icmp .gt 28, 3) := by decide +kernel
theorem d_CC_encipherCounter_48 : decode b_CC_encipherCounter 48 = .ok (.aload_n 0, 1) := by decide +kernel
theorem d_CC_encipherCounter_49 : decode b_CC_encipherCounter 49 = .ok (.invokevirtual 61, 3) := by decide +kernel
theorem d_CC_encipherCounter_52 : decode b_CC_encipherCounter 52 = .ok (.iload_n 2, 1) := by decide +kernel
theorem d_CC_encipherCounter_53 : decode b_CC_encipherCounter 53 = .ok (.bipush 10, 2) := by decide +kernel
theorem d_CC_encipherCounter_55 : decode b_CC_encipherCounter 55 = .ok (.if_icmp .ge 7, 3) := by decide +kernel
theorem d_CC_encipherCounter_58 : decode b_CC_encipherCounter 58 = .ok (.aload_n 0, 1) := by decide +kernel
theorem d_CC_encipherCounter_59 : decode b_CC_encipherCounter 59 = .ok (.invokevirtual 64, 3) := by decide +kernel
theorem d_CC_encipherCounter_62 : decode b_CC_encipherCounter 62 = .ok (.aload_n 0, 1) := by decide +kernel
theorem d_CC_encipherCounter_63 : decode b_CC_encipherCounter 63 = .ok (.iload_n 2, 1) := by decide +kernel
theorem d_CC_encipherCounter_64 : decode b_CC_encipherCounter 64 = .ok (.invokevirtual 57, 3) := by decide +kernel
theorem d_CC_encipherCounter_67 : decode b_CC_encipherCounter 67 = .ok (.iinc 2 1, 3) := by decide +kernel
theorem d_CC_encipherCounter_70 : decode b_CC_encipherCounter 70 = .ok (.goto (-28), 3) := by decide +kernel
theorem d_CC_encipherCounter_73 : decode b_CC_encipherCounter 73 = .ok (.return_, 1) := by decide +kernel
theorem d_CC_addRoundKey_0 : decode b_CC_addRoundKey 0 = .ok (.iconst 0, 1) := by decide +kernel
theorem d_CC_addRoundKey_1 : decode b_CC_addRoundKey 1 = .ok (.istore_n 2, 1) := by decide +kernel
theorem d_CC_addRoundKey_2 : decode b_CC_addRoundKey 2 = .ok (.iload_n 2, 1) := by decide +kernel
theorem d_CC_addRoundKey_3 : decode b_CC_addRoundKey 3 = .ok (.bipush 16, 2) := by decide +kernel
theorem d_CC_addRoundKey_5 : decode b_CC_addRoundKey 5 = .ok (.if_icmp .ge 36, 3) := by decide +kernel
theorem d_CC_addRoundKey_8 : decode b_CC_addRoundKey 8 = .ok (.aload_n 0, 1) := by decide +kernel
theorem d_CC_addRoundKey_9 : decode b_CC_addRoundKey 9 = .ok (.getfield 15, 3) := by decide +kernel
theorem d_CC_addRoundKey_12 : decode b_CC_addRoundKey 12 = .ok (.iload_n 2, 1) := by decide +kernel
theorem d_CC_addRoundKey_13 : decode b_CC_addRoundKey 13 = .ok (.dup2, 1) := by decide +kernel
theorem d_CC_addRoundKey_14 : decode b_CC_addRoundKey 14 = .ok (.iaload, 1) := by decide +kernel
theorem d_CC_addRoundKey_15 : decode b_CC_addRoundKey 15 = .ok (.aload_n 0, 1) := by decide +kernel
theorem d_CC_addRoundKey_16 : decode b_CC_addRoundKey 16 = .ok (.getfield 11, 3) := by decide +kernel
theorem d_CC_addRoundKey_19 : decode b_CC_addRoundKey 19 = .ok (.iconst 4, 1) := by decide +kernel
theorem d_CC_addRoundKey_20 : decode b_CC_addRoundKey 20 = .ok (.iload_n 1, 1) := by decide +kernel
theorem d_CC_addRoundKey_21 : decode b_CC_addRoundKey 21 = .ok (.imul, 1) := by decide +kernel
theorem d_CC_addRoundKey_22 : decode b_CC_addRoundKey 22 = .ok (.iload_n 2, 1) := by decide +kernel
theorem d_CC_addRoundKey_23 : decode b_CC_addRoundKey 23 = .ok (.iconst 4, 1) := by decide +kernel
theorem d_CC_addRoundKey_24 : decode b_CC_addRoundKey 24 = .ok (.idiv, 1) := by decide +kernel
theorem d_CC_addRoundKey_25 : decode b_CC_addRoundKey 25 = .ok (.iadd, 1) := by decide +kernel
theorem d_CC_addRoundKey_26 : decode b_CC_addRoundKey 26 = .ok (.iaload, 1) := by decide +kernel
theorem d_CC_addRoundKey_27 : decode b_CC_addRoundKey 27 = .ok (.iload_n 2, 1) := by decide +kernel
theorem d_CC_addRoundKey_28 : decode b_CC_addRoundKey 28 = .ok (.iconst 4, 1) := by decide +kernel
theorem d_CC_addRoundKey_29 : decode b_CC_addRoundKey 29 = .ok (.irem, 1) := by decide +kernel
theorem d_CC_addRoundKey_30 : decode b_CC_addRoundKey 30 = .ok (.invokestatic 53, 3) := by decide +kernel
theorem d_CC_addRoundKey_33 : decode b_CC_addRoundKey 33 = .ok (.ixor, 1) := by decide +kernel
theorem d_CC_addRoundKey_34 : decode b_CC_addRoundKey 34 = .ok (.iastore, 1) := by decide +kernel
theorem d_CC_addRoundKey_35 : decode b_CC_addRoundKey 35 = .ok (.iinc 2 1, 3) := by decide +kernel
theorem d_CC_addRoundKey_38 : decode b_CC_addRoundKey 38 = .ok (.goto (-36), 3) := by decide +kernel
theorem d_CC_addRoundKey_41 : decode b_CC_addRoundKey 41 = .ok (.return_, 1) := by decide +kernel
theorem d_CC_substituteAndShift_0 : decode b_CC_substituteAndShift 0 = .ok (.iconst 0, 1) := by decide +kernel
theorem d_CC_substituteAndShift_1 : decode b_CC_substituteAndShift 1 = .ok (.istore_n 1, 1) := by decide +kernel
theorem d_CC_substituteAndShift_2 : decode b_CC_substituteAndShift 2 = .ok (.iload_n 1, 1) := by decide +kernel
theorem d_CC_substituteAndShift_3 : decode b_CC_substituteAndShift 3 = .ok (.iconst 4, 1) := by decide +kernel
theorem d_CC_substituteAndShift_4 : decode b_CC_substituteAndShift 4 = .ok (.if_icmp .ge 54, 3) := by decide +kernel
theorem d_CC_substituteAndShift_7 : decode b_CC_substituteAndShift 7 = .ok (.iconst 0, 1) := by decide +kernel
theorem d_CC_substituteAndShift_8 : decode b_CC_substituteAndShift 8 = .ok (.istore_n 2, 1) := by decide +kernel
theorem d_CC_substituteAndShift_9 : decode b_CC_substituteAndShift 9 = .ok (.iload_n 2, 1) := by decide +kernel
theorem d_CC_substituteAndShift_10 : decode b_CC_substituteAndShift 10 = .ok (.iconst 4, 1) := by decide +kernel
theorem d_CC_substituteAndShift_11 : decode b_CC_substituteAndShift 11 = .ok (.if_icmp .ge 41, 3) := by decide +kernel
theorem d_CC_substituteAndShift_14 : decode b_CC_substituteAndShift 14 = .ok (.aload_n 0, 1) := by decide +kernel
theorem d_CC_substituteAndShift_15 : decode b_CC_substituteAndShift 15 = .ok (.getfield 18, 3) := by decide +kernel
theorem d_CC_substituteAndShift_18 : decode b_CC_substituteAndShift 18 = .ok (.iconst 4, 1) := by decide +kernel
theorem d_CC_substituteAndShift_19 : decode b_CC_substituteAndShift 19 = .ok (.iload_n 1, 1) := by decide +kernel
theorem d_CC_substituteAndShift_20 : decode b_CC_substituteAndShift 20 = .ok (.imul, 1) := by decide +kernel
theorem d_CC_substituteAndShift_21 : decode b_CC_substituteAndShift 21 = .ok (.iload_n 2, 1) := by decide +kernel
theorem d_CC_substituteAndShift_22 : decode b_CC_substituteAndShift 22 = .ok (.iadd, 1) := by decide +kernel
theorem d_CC_substituteAndShift_23 : decode b_CC_substituteAndShift 23 = .ok (.getstatic 67, 3) := by decide +kernel
theorem d_CC_substituteAndShift_26 : decode b_CC_substituteAndShift 26 = .ok (.aload_n 0, 1) := by decide +kernel
theorem d_CC_substituteAndShift_27 : decode b_CC_substituteAndShift 27 = .ok (.getfield 15, 3) := by decide +kernel
theorem d_CC_substituteAndShift_30 : decode b_CC_substituteAndShift 30 = .ok (.iconst 4, 1) := by decide +kernel
theorem d_CC_substituteAndShift_31 : decode b_CC_substituteAndShift 31 = .ok (.iload_n 1, 1) := by decide +kernel
theorem d_CC_substituteAndShift_32 : decode b_CC_substituteAndShift 32 = .ok (.iload_n 2, 1) := by decide +kernel
theorem d_CC_substituteAndShift_33 : decode b_CC_substituteAndShift 33 = .ok (.iadd, 1) := by decide +kernel
theorem d_CC_substituteAndShift_34 : decode b_CC_substituteAndShift 34 = .ok (.iconst 4, 1) := by decide +kernel
theorem d_CC_substituteAndShift_35 : decode b_CC_substituteAndShift 35 = .ok (.irem, 1) := by decide +kernel
theorem d_CC_substituteAndShift_36 : decode b_CC_substituteAndShift 36 = .ok (.imul, 1) := by decide +kernel
theorem d_CC_substituteAndShift_37 : decode b_CC_substituteAndShift 37 = .ok (.iload_n 2, 1) := by decide +kernel
theorem d_CC_substituteAndShift_38 : decode b_CC_substituteAndShift 38 = .ok (.iadd, 1) := by decide +kernel
theorem d_CC_substituteAndShift_39 : decode b_CC_substituteAndShift 39 = .ok (.iaload, 1) := by decide +kernel
theorem d_CC_substituteAndShift_40 : decode b_CC_substituteAndShift 40 = .ok (.sipush 255, 3) := by decide +kernel
theorem d_CC_substituteAndShift_43 : decode b_CC_substituteAndShift 43 = .ok (.iand, 1) := by decide +kernel
theorem d_CC_substituteAndShift_44 : decode b_CC_substituteAndShift 44 = .ok (.iaload, 1) := by decide +kernel
theorem d_CC_substituteAndShift_45 : decode b_CC_substituteAndShift 45 = .ok (.iastore, 1) := by decide +kernel
theorem d_CC_substituteAndShift_46 : decode b_CC_substituteAndShift 46 = .ok (.iinc 2 1, 3) := by decide +kernel
theorem d_CC_substituteAndShift_49 : decode b_CC_substituteAndShift 49 = .ok (.goto (-40), 3) := by decide +kernel
theorem d_CC_substituteAndShift_52 : decode b_CC_substituteAndShift 52 = .ok (.iinc 1 1, 3) := by decide +kernel
theorem d_CC_substituteAndShift_55 : decode b_CC_substituteAndShift 55 = .ok (.goto (-53), 3) := by decide +kernel
theorem d_CC_substituteAndShift_58 : decode b_CC_substituteAndShift 58 = .ok (.iconst 0, 1) := by decide +kernel
theorem d_CC_substituteAndShift_59 : decode b_CC_substituteAndShift 59 = .ok (.istore_n 1, 1) := by decide +kernel
theorem d_CC_substituteAndShift_60 : decode b_CC_substituteAndShift 60 = .ok (.iload_n 1, 1) := by decide +kernel
theorem d_CC_substituteAndShift_61 : decode b_CC_substituteAndShift 61 = .ok (.bipush 16, 2) := by decide +kernel
theorem d_CC_substituteAndShift_63 : decode b_CC_substituteAndShift 63 = .ok (.if_icmp .ge 21, 3) := by decide +kernel
theorem d_CC_substituteAndShift_66 : decode b_CC_substituteAndShift 66 = .ok (.aload_n 0, 1) := by decide +kernel
theorem d_CC_substituteAndShift_67 : decode b_CC_substituteAndShift 67 = .ok (.getfield 15, 3) := by decide +kernel
theorem d_CC_substituteAndShift_70 : decode b_CC_substituteAndShift 70 = .ok (.iload_n 1, 1) := by decide +kernel
theorem d_CC_substituteAndShift_71 : decode b_CC_substituteAndShift 71 = .ok (.aload_n 0, 1) := by decide +kernel
theorem d_CC_substituteAndShift_72 : decode b_CC_substituteAndShift 72 = .ok (.getfield 18, 3) := by decide +kernel
theorem d_CC_substituteAndShift_75 : decode b_CC_substituteAndShift 75 = .ok (.iload_n 1, 1) := by decide +kernel
theorem d_CC_substituteAndShift_76 : decode b_CC_substituteAndShift 76 = .ok (.iaload, 1) := by decide +kernel
theorem d_CC_substituteAndShift_77 : decode b_CC_substituteAndShift 77 = .ok (.iastore, 1) := by decide +kernel
theorem d_CC_substituteAndShift_78 : decode b_CC_substituteAndShift 78 = .ok (.iinc 1 1, 3) := by decide +kernel
theorem d_CC_substituteAndShift_81 : decode b_CC_substituteAndShift 81 = .ok (.goto (-21), 3) := by decide +kernel
theorem d_CC_substituteAndShift_84 : decode b_CC_substituteAndShift 84 = .ok (.return_, 1) := by decide +kernel
theorem d_CC_mixColumns_0 : decode b_CC_mixColumns 0 = .ok (.iconst 0, 1) := by decide +kernel
theorem d_CC_mixColumns_1 : decode b_CC_mixColumns 1 = .ok (.istore_n 1, 1) := by decide +kernel
theorem d_CC_mixColumns_2 : decode b_CC_mixColumns 2 = .ok (.iload_n 1, 1) := by decide +kernel
theorem d_CC_mixColumns_3 : decode b_CC_mixColumns 3 = .ok (.bipush 16, 2) := by decide +kernel
theorem d_CC_mixColumns_5 : decode b_CC_mixColumns 5 = .ok (.if_icmp .ge 136, 3) := by decide +kernel
theorem d_CC_mixColumns_8 : decode b_CC_mixColumns 8 = .ok (.aload_n 0, 1) := by decide +kernel
theorem d_CC_mixColumns_9 : decode b_CC_mixColumns 9 = .ok (.getfield 15, 3) := by decide +kernel
theorem d_CC_mixColumns_12 : decode b_CC_mixColumns 12 = .ok (.iload_n 1, 1) := by decide +kernel
theorem d_CC_mixColumns_13 : decode b_CC_mixColumns 13 = .ok (.iaload, 1) := by decide +kernel
theorem d_CC_mixColumns_14 : decode b_CC_mixColumns 14 = .ok (.istore_n 2, 1) := by decide +kernel
theorem d_CC_mixColumns_15 : decode b_CC_mixColumns 15 = .ok (.aload_n 0, 1) := by decide +kernel
theorem d_CC_mixColumns_16 : decode b_CC_mixColumns 16 = .ok (.getfield 15, 3) := by decide +kernel
theorem d_CC_mixColumns_19 : decode b_CC_mixColumns 19 = .ok (.iload_n 1, 1) := by decide +kernel
theorem d_CC_mixColumns_20 : decode b_CC_mixColumns 20 = .ok (.iconst 1, 1) := by decide +kernel
theorem d_CC_mixColumns_21 : decode b_CC_mixColumns 21 = .ok (.iadd, 1) := by decide +kernel
theorem d_CC_mixColumns_22 : decode b_CC_mixColumns 22 = .ok (.iaload, 1) := by decide +kernel
theorem d_CC_mixColumns_23 : decode b_CC_mixColumns 23 = .ok (.istore_n 3, 1) := by decide +kernel
theorem d_CC_mixColumns_24 : decode b_CC_mixColumns 24 = .ok (.aload_n 0, 1) := by decide +kernel
theorem d_CC_mixColumns_25 : decode b_CC_mixColumns 25 = .ok (.getfield 15, 3) := by decide +kernel
theorem d_CC_mixColumns_28 : decode b_CC_mixColumns 28 = .ok (.iload_n 1, 1) := by decide +kernel
theorem d_CC_mixColumns_29 : decode b_CC_mixColumns 29 = .ok (.iconst 2, 1) := by decide +kernel
theorem d_CC_mixColumns_30 : decode b_CC_mixColumns 30 = .ok (.iadd, 1) := by decide +kernel
theorem d_CC_mixColumns_31 : decode b_CC_mixColumns 31 = .ok (.iaload, 1) := by decide +kernel
theorem d_CC_mixColumns_32 : decode b_CC_mixColumns 32 = .ok (.istore 4, 2) := by decide +kernel
theorem d_CC_mixColumns_34 : decode b_CC_mixColumns 34 = .ok (.aload_n 0, 1) := by decide +kernel
theorem d_CC_mixColumns_35 : decode b_CC_mixColumns 35 = .ok (.getfield 15, 3) := by decide +kernel
theorem d_CC_mixColumns_38 : decode b_CC_mixColumns 38 = .ok (.iload_n 1, 1) := by decide +kernel
theorem d_CC_mixColumns_39 : decode b_CC_mixColumns 39 = .ok (.iconst 3, 1) := by decide +kernel
theorem d_CC_mixColumns_40 : decode b_CC_mixColumns 40 = .ok (.iadd, 1) := by decide +kernel
theorem d_CC_mixColumns_41 : decode b_CC_mixColumns 41 = .ok (.iaload, 1) := by decide +kernel
theorem d_CC_mixColumns_42 : decode b_CC_mixColumns 42 = .ok (.istore 5, 2) := by decide +kernel
theorem d_CC_mixColumns_44 : decode b_CC_mixColumns 44 = .ok (.iload_n 2, 1) := by decide +kernel
theorem d_CC_mixColumns_45 : decode b_CC_mixColumns 45 = .ok (.iload_n 3, 1) := by decide +kernel
theorem d_CC_mixColumns_46 : decode b_CC_mixColumns 46 = .ok (.ixor, 1) := by decide +kernel
theorem d_CC_mixColumns_47 : decode b_CC_mixColumns 47 = .ok (.iload 4, 2) := by decide +kernel
theorem d_CC_mixColumns_49 : decode b_CC_mixColumns 49 = .ok (.ixor, 1) := by decide +kernel
theorem d_CC_mixColumns_50 : decode b_CC_mixColumns 50 = .ok (.iload 5, 2) := by decide +kernel
theorem d_CC_mixColumns_52 : decode b_CC_mixColumns 52 = .ok (.ixor, 1) := by decide +kernel
theorem d_CC_mixColumns_53 : decode b_CC_mixColumns 53 = .ok (.istore 6, 2) := by decide +kernel
theorem d_CC_mixColumns_55 : decode b_CC_mixColumns 55 = .ok (.aload_n 0, 1) := by decide +kernel
theorem d_CC_mixColumns_56 : decode b_CC_mixColumns 56 = .ok (.getfield 15, 3) := by decide +kernel
theorem d_CC_mixColumns_59 : decode b_CC_mixColumns 59 = .ok (.iload_n 1, 1) := by decide +kernel
theorem d_CC_mixColumns_60 : decode b_CC_mixColumns 60 = .ok (.iload_n 2, 1) := by decide +kernel
theorem d_CC_mixColumns_61 : decode b_CC_mixColumns 61 = .ok (.iload 6, 2) := by decide +kernel
theorem d_CC_mixColumns_63 : decode b_CC_mixColumns 63 = .ok (.ixor, 1) := by decide +kernel
theorem d_CC_mixColumns_64 : decode b_CC_mixColumns 64 = .ok (.iload_n 2, 1) := by decide +kernel
theorem d_CC_mixColumns_65 : decode b_CC_mixColumns 65 = .ok (.iload_n 3, 1) := by decide +kernel
theorem d_CC_mixColumns_66 : decode b_CC_mixColumns 66 = .ok (.ixor, 1) := by decide +kernel
theorem d_CC_mixColumns_67 : decode b_CC_mixColumns 67 = .ok (.invokestatic 50, 3) := by decide +kernel
theorem d_CC_mixColumns_70 : decode b_CC_mixColumns 70 = .ok (.ixor, 1) := by decide +kernel
theorem d_CC_mixColumns_71 : decode b_CC_mixColumns 71 = .ok (.iastore, 1) := by decide +kernel
theorem d_CC_mixColumns_72 : decode b_CC_mixColumns 72 = .ok (.aload_n 0, 1) := by decide +kernel
theorem d_CC_mixColumns_73 : decode b_CC_mixColumns 73 = .ok (.getfield 15, 3) := by decide +kernel
theorem d_CC_mixColumns_76 : decode b_CC_mixColumns 76 = .ok (.iload_n 1, 1) := by decide +kernel
theorem d_CC_mixColumns_77 : decode b_CC_mixColumns 77 = .ok (.iconst 1, 1) := by decide +kernel
theorem d_CC_mixColumns_78 : decode b_CC_mixColumns 78 = .ok (.iadd, 1) := by decide +kernel
theorem d_CC_mixColumns_79 : decode b_CC_mixColumns 79 = .ok (.iload_n 3, 1) := by decide +kernel
theorem d_CC_mixColumns_80 : decode b_CC_mixColumns 80 = .ok (.iload 6, 2) := by decide +kernel
theorem d_CC_mixColumns_82 : decode b_CC_mixColumns 82 = .ok (.ixor, 1) := by decide +kernel
theorem d_CC_mixColumns_83 : decode b_CC_mixColumns 83 = .ok (.iload_n 3, 1) := by decide +kernel
theorem d_CC_mixColumns_84 : decode b_CC_mixColumns 84 = .ok (.iload 4, 2) := by decide +kernel
theorem d_CC_mixColumns_86 : decode b_CC_mixColumns 86 = .ok (.ixor, 1) := by decide +kernel
theorem d_CC_mixColumns_87 : decode b_CC_mixColumns 87 = .ok (.invokestatic 50, 3) := by decide +kernel
theorem d_CC_mixColumns_90 : decode b_CC_mixColumns 90 = .ok (.ixor, 1) := by decide +kernel
theorem d_CC_mixColumns_91 : decode b_CC_mixColumns 91 = .ok (.iastore, 1) := by decide +kernel
theorem d_CC_mixColumns_92 : decode b_CC_mixColumns 92 = .ok (.aload_n 0, 1) := by decide +kernel
theorem d_CC_mixColumns_93 : decode b_CC_mixColumns 93 = .ok (.getfield 15, 3) := by decide +kernel
theorem d_CC_mixColumns_96 : decode b_CC_mixColumns 96 = .ok (.iload_n 1, 1) := by decide +kernel
theorem d_CC_mixColumns_97 : decode b_CC_mixColumns 97 = .ok (.iconst 2, 1) := by decide +kernel
theorem d_CC_mixColumns_98 : decode b_CC_mixColumns 98 = .ok (.iadd, 1) := by decide +kernel
theorem d_CC_mixColumns_99 : decode b_CC_mixColumns 99 = .ok (.iload 4, 2) := by decide +kernel
theorem d_CC_mixColumns_101 : decode b_CC_mixColumns 101 = .ok (.iload 6, 2) := by decide +kernel
theorem d_CC_mixColumns_103 : decode b_CC_mixColumns 103 = .ok (.ixor, 1) := by decide +kernel
theorem d_CC_mixColumns_104 : decode b_CC_mixColumns 104 = .ok (.iload 4, 2) := by decide +kernel
theorem d_CC_mixColumns_106 : decode b_CC_mixColumns 106 = .ok (.iload 5, 2) := by decide +kernel
theorem d_CC_mixColumns_108 : decode b_CC_mixColumns 108 = .ok (.ixor, 1) := by decide +kernel
theorem d_CC_mixColumns_109 : decode b_CC_mixColumns 109 = .ok (.invokestatic 50, 3) := by decide +kernel
theorem d_CC_mixColumns_112 : decode b_CC_mixColumns 112 = .ok (.ixor, 1) := by decide +kernel
theorem d_CC_mixColumns_113 : decode b_CC_mixColumns 113 = .ok (.iastore, 1) := by decide +kernel
theorem d_CC_mixColumns_114 : decode b_CC_mixColumns 114 = .ok (.aload_n 0, 1) := by decide +kernel
theorem d_CC_mixColumns_115 : decode b_CC_mixColumns 115 = .ok (.getfield 15, 3) := by decide +kernel
theorem d_CC_mixColumns_118 : decode b_CC_mixColumns 118 = .ok (.iload_n 1, 1) := by decide +kernel
theorem d_CC_mixColumns_119 : decode b_CC_mixColumns 119 = .ok (.iconst 3, 1) := by decide +kernel
theorem d_CC_mixColumns_120 : decode b_CC_mixColumns 120 = .ok (.iadd, 1) := by decide +kernel
theorem d_CC_mixColumns_121 : decode b_CC_mixColumns 121 = .ok (.iload 5, 2) := by decide +kernel
theorem d_CC_mixColumns_123 : decode b_CC_mixColumns 123 = .ok (.iload 6, 2) := by decide +kernel
theorem d_CC_mixColumns_125 : decode b_CC_mixColumns 125 = .ok (.ixor, 1) := by decide +kernel
theorem d_CC_mixColumns_126 : decode b_CC_mixColumns 126 = .ok (.iload 5, 2) := by decide +kernel
theorem d_CC_mixColumns_128 : decode b_CC_mixColumns 128 = .ok (.iload_n 2, 1) := by decide +kernel
theorem d_CC_mixColumns_129 : decode b_CC_mixColumns 129 = .ok (.ixor, 1) := by decide +kernel
theorem d_CC_mixColumns_130 : decode b_CC_mixColumns 130 = .ok (.invokestatic 50, 3) := by decide +kernel
theorem d_CC_mixColumns_133 : decode b_CC_mixColumns 133 = .ok (.ixor, 1) := by decide +kernel
theorem d_CC_mixColumns_134 : decode b_CC_mixColumns 134 = .ok (.iastore, 1) := by decide +kernel
theorem d_CC_mixColumns_135 : decode b_CC_mixColumns 135 = .ok (.iinc 1 4, 3) := by decide +kernel
theorem d_CC_mixColumns_138 : decode b_CC_mixColumns 138 = .ok (.goto (-136), 3) := by decide +kernel
theorem d_CC_mixColumns_141 : decode b_CC_mixColumns 141 = .ok (.return_, 1) := by decide +kernel
theorem d_CC_substituteWord_0 : decode b_CC_substituteWord 0 = .ok (.iconst 0, 1) := by decide +kernel
theorem d_CC_substituteWord_1 : decode b_CC_substituteWord 1 = .ok (.istore_n 1, 1) := by decide +kernel
theorem d_CC_substituteWord_2 : decode b_CC_substituteWord 2 = .ok (.iconst 0, 1) := by decide +kernel
theorem d_CC_substituteWord_3 : decode b_CC_substituteWord 3 = .ok (.istore_n 2, 1) := by decide +kernel
theorem d_CC_substituteWord_4 : decode b_CC_substituteWord 4 = .ok (.iload_n 2, 1) := by decide +kernel
theorem d_CC_substituteWord_5 : decode b_CC_substituteWord 5 = .ok (.iconst 4, 1) := by decide +kernel
theorem d_CC_substituteWord_6 : decode b_CC_substituteWord 6 = .ok (.if_icmp .ge 24, 3) := by decide +kernel
theorem d_CC_substituteWord_9 : decode b_CC_substituteWord 9 = .ok (.iload_n 1, 1) := by decide +kernel
theorem d_CC_substituteWord_10 : decode b_CC_substituteWord 10 = .ok (.bipush 8, 2) := by decide +kernel
theorem d_CC_substituteWord_12 : decode b_CC_substituteWord 12 = .ok (.ishl, 1) := by decide +kernel
theorem d_CC_substituteWord_13 : decode b_CC_substituteWord 13 = .ok (.getstatic 67, 3) := by decide +kernel
theorem d_CC_substituteWord_16 : decode b_CC_substituteWord 16 = .ok (.iload_n 0, 1) := by decide +kernel
theorem d_CC_substituteWord_17 : decode b_CC_substituteWord 17 = .ok (.iload_n 2, 1) := by decide +kernel
theorem d_CC_substituteWord_18 : decode b_CC_substituteWord 18 = .ok (.invokestatic 53, 3) := by decide +kernel
theorem d_CC_substituteWord_21 : decode b_CC_substituteWord 21 = .ok (.iaload, 1) := by decide +kernel
theorem d_CC_substituteWord_22 : decode b_CC_substituteWord 22 = .ok (.ior, 1) := by decide +kernel
theorem d_CC_substituteWord_23 : decode b_CC_substituteWord 23 = .ok (.istore_n 1, 1) := by decide +kernel
theorem d_CC_substituteWord_24 : decode b_CC_substituteWord 24 = .ok (.iinc 2 1, 3) := by decide +kernel
theorem d_CC_substituteWord_27 : decode b_CC_substituteWord 27 = .ok (.goto (-23), 3) := by decide +kernel
theorem d_CC_substituteWord_30 : decode b_CC_substituteWord 30 = .ok (.iload_n 1, 1) := by decide +kernel
theorem d_CC_substituteWord_31 : decode b_CC_substituteWord 31 = .ok (.ireturn, 1) := by decide +kernel
theorem d_CC_twice_0 : decode b_CC_twice 0 = .ok (.iload_n 0, 1) := by decide +kernel
theorem d_CC_twice_1 : decode b_CC_twice 1 = .ok (.sipush 128, 3) := by decide +kernel
theorem d_CC_twice_4 : decode b_CC_twice 4 = .ok (.iand, 1) := by decide +kernel
theorem d_CC_twice_5 : decode b_CC_twice 5 = .ok (.ifCond .ne 9, 3) := by decide +kernel
theorem d_CC_twice_8 : decode b_CC_twice 8 = .ok (.iload_n 0, 1) := by decide +kernel
theorem d_CC_twice_9 : decode b_CC_twice 9 = .ok (.iconst 1, 1) := by decide +kernel
theorem d_CC_twice_10 : decode b_CC_twice 10 = .ok (.ishl, 1) := by decide +kernel
theorem d_CC_twice_11 : decode b_CC_twice 11 = .ok (.goto 10, 3) := by decide +kernel
theorem d_CC_twice_14 : decode b_CC_twice 14 = .ok (.iload_n 0, 1) := by decide +kernel
theorem d_CC_twice_15 : decode b_CC_twice 15 = .ok (.iconst 1, 1) := by decide +kernel
theorem d_CC_twice_16 : decode b_CC_twice 16 = .ok (.ishl, 1) := by decide +kernel
theorem d_CC_twice_17 : decode b_CC_twice 17 = .ok (.sipush 283, 3) := by decide +kernel
theorem d_CC_twice_20 : decode b_CC_twice 20 = .ok (.ixor, 1) := by decide +kernel
theorem d_CC_twice_21 : decode b_CC_twice 21 = .ok (.ireturn, 1) := by decide +kernel
theorem d_CC_byteOf_0 : decode b_CC_byteOf 0 = .ok (.iload_n 0, 1) := by decide +kernel
theorem d_CC_byteOf_1 : decode b_CC_byteOf 1 = .ok (.bipush 24, 2) := by decide +kernel
theorem d_CC_byteOf_3 : decode b_CC_byteOf 3 = .ok (.bipush 8, 2) := by decide +kernel
theorem d_CC_byteOf_5 : decode b_CC_byteOf 5 = .ok (.iload_n 1, 1) := by decide +kernel
theorem d_CC_byteOf_6 : decode b_CC_byteOf 6 = .ok (.imul, 1) := by decide +kernel
theorem d_CC_byteOf_7 : decode b_CC_byteOf 7 = .ok (.isub, 1) := by decide +kernel
theorem d_CC_byteOf_8 : decode b_CC_byteOf 8 = .ok (.iushr, 1) := by decide +kernel
theorem d_CC_byteOf_9 : decode b_CC_byteOf 9 = .ok (.sipush 255, 3) := by decide +kernel
theorem d_CC_byteOf_12 : decode b_CC_byteOf 12 = .ok (.iand, 1) := by decide +kernel
theorem d_CC_byteOf_13 : decode b_CC_byteOf 13 = .ok (.ireturn, 1) := by decide +kernel
theorem d_DG_init_0 : decode b_DG_init 0 = .ok (.aload_n 0, 1) := by decide +kernel
theorem d_DG_init_1 : decode b_DG_init 1 = .ok (.invokespecial 1, 3) := by decide +kernel
theorem d_DG_init_4 : decode b_DG_init 4 = .ok (.aload_n 0, 1) := by decide +kernel
theorem d_DG_init_5 : decode b_DG_init 5 = .ok (.bipush 8, 2) := by decide +kernel
theorem d_DG_init_7 : decode b_DG_init 7 = .ok (.newarray .int, 2) := by decide +kernel
theorem d_DG_init_9 : decode b_DG_init 9 = .ok (.putfield 9, 3) := by decide +kernel
theorem d_DG_init_12 : decode b_DG_init 12 = .ok (.aload_n 0, 1) := by decide +kernel
theorem d_DG_init_13 : decode b_DG_init 13 = .ok (.bipush 64, 2) := by decide +kernel
theorem d_DG_init_15 : decode b_DG_init 15 = .ok (.newarray .int, 2) := by decide +kernel
theorem d_DG_init_17 : decode b_DG_init 17 = .ok (.putfield 13, 3) := by decide +kernel
theorem d_DG_init_20 : decode b_DG_init 20 = .ok (.return_, 1) := by decide +kernel
theorem d_DG_digest_0 : decode b_DG_digest 0 = .ok (.bipush 8, 2) := by decide +kernel
theorem d_DG_digest_2 : decode b_DG_digest 2 = .ok (.aload_n 1, 1) := by decide +kernel
theorem d_DG_digest_3 : decode b_DG_digest 3 = .ok (.invokevirtual 16, 3) := by decide +kernel
theorem d_DG_digest_6 : decode b_DG_digest 6 = .ok (.imul, 1) := by decide +kernel
theorem d_DG_digest_7 : decode b_DG_digest 7 = .ok (.istore_n 2, 1) := by decide +kernel
theorem d_DG_digest_8 : decode b_DG_digest 8 = .ok (.aload_n 1, 1) := by decide +kernel
theorem d_DG_digest_9 : decode b_DG_digest 9 = .ok (.sipush 128, 3) := by decide +kernel
theorem d_DG_digest_12 : decode b_DG_digest 12 = .ok (.invokevirtual 22, 3) := by decide +kernel
theorem d_DG_digest_15 : decode b_DG_digest 15 = .ok (.bipush 56, 2) := by decide +kernel
theorem d_DG_digest_17 : decode b_DG_digest 17 = .ok (.aload_n 1, 1) := by decide +kernel
theorem d_DG_digest_18 : decode b_DG_digest 18 = .ok (.invokevirtual 16, 3) := by decide +kernel
theorem d_DG_digest_21 : decode b_DG_digest 21 = .ok (.isub, 1) := by decide +kernel
theorem d_DG_digest_22 : decode b_DG_digest 22 = .ok (.bipush 64, 2) := by decide +kernel
theorem d_DG_digest_24 : decode b_DG_digest 24 = .ok (.invokestatic 26, 3) := by decide +kernel
theorem d_DG_digest_27 : decode b_DG_digest 27 = .ok (.istore_n 3, 1) := by decide +kernel
theorem d_DG_digest_28 : decode b_DG_digest 28 = .ok (.iconst 0, 1) := by decide +kernel
theorem d_DG_digest_29 : decode b_DG_digest 29 = .ok (.istore 4, 2) := by decide +kernel
theorem d_DG_digest_31 : decode b_DG_digest 31 = .ok (.iload 4, 2) := by decide +kernel
theorem d_DG_digest_33 : decode b_DG_digest 33 = .ok (.iload_n 3, 1) := by decide +kernel
theorem d_DG_digest_34 : decode b_DG_digest 34 = .ok (.if_icmp .ge 14, 3) := by decide +kernel
theorem d_DG_digest_37 : decode b_DG_digest 37 = .ok (.aload_n 1, 1) := by decide +kernel
theorem d_DG_digest_38 : decode b_DG_digest 38 = .ok (.iconst 0, 1) := by decide +kernel
theorem d_DG_digest_39 : decode b_DG_digest 39 = .ok (.invokevirtual 22, 3) := by decide +kernel
theorem d_DG_digest_42 : decode b_DG_digest 42 = .ok (.iinc 4 1, 3) := by decide +kernel
theorem d_DG_digest_45 : decode b_DG_digest 45 = .ok (.goto (-14), 3) := by decide +kernel
theorem d_DG_digest_48 : decode b_DG_digest 48 = .ok (.aload_n 1, 1) := by decide +kernel
theorem d_DG_digest_49 : decode b_DG_digest 49 = .ok (.iconst 0, 1) := by decide +kernel
theorem d_DG_digest_50 : decode b_DG_digest 50 = .ok (.invokevirtual 32, 3) := by decide +kernel
theorem d_DG_digest_53 : decode b_DG_digest 53 = .ok (.aload_n 1, 1) := by decide +kernel
theorem d_DG_digest_54 : decode b_DG_digest 54 = .ok (.iload_n 2, 1) := by decide +kernel
theorem d_DG_digest_55 : decode b_DG_digest 55 = .ok (.invokevirtual 32, 3) := by decide +kernel
theorem d_DG_digest_58 : decode b_DG_digest 58 = .ok (.iconst 0, 1) := by decide +kernel
theorem d_DG_digest_59 : decode b_DG_digest 59 = .ok (.istore 4, 2) := by decide +kernel
theorem d_DG_digest_61 : decode b_DG_digest 61 = .ok (.iload 4, 2) := by decide +kernel
theorem d_DG_digest_63 : decode b_DG_digest 63 = .ok (.bipush 8, 2) := by decide +kernel
theorem d_DG_digest_65 : decode b_DG_digest 65 = .ok (.if_icmp .ge 22, 3) := by decide +kernel
theorem d_DG_digest_68 : decode b_DG_digest 68 = .ok (.aload_n 0, 1) := by decide +kernel
theorem d_DG_digest_69 : decode b_DG_digest 69 = .ok (.getfield 9, 3) := by decide +kernel
theorem d_DG_digest_72 : decode b_DG_digest 72 = .ok (.iload 4, 2) := by decide +kernel
theorem d_DG_digest_74 : decode b_DG_digest 74 = .ok (.getstatic 35, 3) := by decide +kernel
theorem d_DG_digest_77 : decode b_DG_digest 77 = .ok (.iload 4, 2) := by decide +kernel
theorem d_DG_digest_79 : decode b_DG_digest 79 = .ok (.iaload, 1) := by decide +kernel
theorem d_DG_digest_80 : decode b_DG_digest 80 = .ok (.iastore, 1) := by decide +kernel
theorem d_DG_digest_81 : decode b_DG_digest 81 = .ok (.iinc 4 1, 3) := by decide +kernel
theorem d_DG_digest_84 : decode b_DG_digest 84 = .ok (.goto (-23), 3) := by decide +kernel
theorem d_DG_digest_87 : decode b_DG_digest 87 = .ok (.aload_n 1, 1) := by decide +kernel
theorem d_DG_digest_88 : decode b_DG_digest 88 = .ok (.invokevirtual 16, 3) := by decide +kernel
theorem d_DG_digest_91 : decode b_DG_digest 91 = .ok (.bipush 64, 2) := by decide +kernel
theorem d_DG_digest_93 : decode b_DG_digest 93 = .ok (.isub, 1) := by decide +kernel
theorem d_DG_digest_94 : decode b_DG_digest 94 = .ok (.istore 4, 2) := by decide +kernel
theorem d_DG_digest_96 : decode b_DG_digest 96 = .ok (.iconst 0, 1) := by decide +kernel
theorem d_DG_digest_97 : decode b_DG_digest 97 = .ok (.istore 5, 2) := by decide +kernel
theorem d_DG_digest_99 : decode b_DG_digest 99 = .ok (.iload 5, 2) := by decide +kernel
theorem d_DG_digest_101 : decode b_DG_digest 101 = .ok (.iload 4, 2) := by decide +kernel
theorem d_DG_digest_103 : decode b_DG_digest 103 = .ok (.if_icmp .gt 24, 3) := by decide +kernel
theorem d_DG_digest_106 : decode b_DG_digest 106 = .ok (.aload_n 0, 1) := by decide +kernel
theorem d_DG_digest_107 : decode b_DG_digest 107 = .ok (.aload_n 1, 1) := by decide +kernel
theorem d_DG_digest_108 : decode b_DG_digest 108 = .ok (.iload 5, 2) := by decide +kernel
theorem d_DG_digest_110 : decode b_DG_digest 110 = .ok (.invokevirtual 40, 3) := by decide +kernel
theorem d_DG_digest_113 : decode b_DG_digest 113 = .ok (.aload_n 0, 1) := by decide +kernel
theorem d_DG_digest_114 : decode b_DG_digest 114 = .ok (.invokevirtual 44, 3) := by decide +kernel
theorem d_DG_digest_117 : decode b_DG_digest 117 = .ok (.aload_n 0, 1) := by decide +kernel
theorem d_DG_digest_118 : decode b_DG_digest 118 = .ok (.invokevirtual 47, 3) := by decide +kernel
theorem d_DG_digest_121 : decode b_DG_digest 121 = .ok (.iinc 5 64, 3) := by decide +kernel
theorem d_DG_digest_124 : decode b_DG_digest 124 = .ok (.goto (-25), 3) := by decide +kernel
theorem d_DG_digest_127 : decode b_DG_digest 127 = .ok (.return_, 1) := by decide +kernel
theorem d_DG_stateWord_0 : decode b_DG_stateWord 0 = .ok (.aload_n 0, 1) := by decide +kernel
theorem d_DG_stateWord_1 : decode b_DG_stateWord 1 = .ok (.getfield 9, 3) := by decide +kernel
theorem d_DG_stateWord_4 : decode b_DG_stateWord 4 = .ok (.iload_n 1, 1) := by decide +kernel
theorem d_DG_stateWord_5 : decode b_DG_stateWord 5 = .ok (.bipush 7, 2) := by decide +kernel
theorem d_DG_stateWord_7 : decode b_DG_stateWord 7 = .ok (.iand, 1) := by decide +kernel
theorem d_DG_stateWord_8 : decode b_DG_stateWord 8 = .ok (.iaload, 1) := by decide +kernel
theorem d_DG_stateWord_9 : decode b_DG_stateWord 9 = .ok (.ireturn, 1) := by decide +kernel
theorem d_DG_readRow_0 : decode b_DG_readRow 0 = .ok (.iconst 0, 1) := by decide +kernel
theorem d_DG_readRow_1 : decode b_DG_readRow 1 = .ok (.istore_n 3, 1) := by decide +kernel
theorem d_DG_readRow_2 : decode b_DG_readRow 2 = .ok (.iload_n 3, 1) := by decide +kernel
theorem d_DG_readRow_3 : decode b_DG_readRow 3 = .ok (.bipush 64, 2) := by decide +kernel
theorem d_DG_readRow_5 : decode b_DG_readRow 5 = .ok (.if_icmp .ge 36, 3) := by decide +kernel
theorem d_DG_readRow_8 : decode b_DG_readRow 8 = .ok (.aload_n 0, 1) := by decide +kernel
theorem d_DG_readRow_9 : decode b_DG_readRow 9 = .ok (.getfield 13, 3) := by decide +kernel
theorem d_DG_readRow_12 : decode b_DG_readRow 12 = .ok (.iload_n 3, 1) := by decide +kernel
theorem d_DG_readRow_13 : decode b_DG_readRow 13 = .ok (.iconst 4, 1) := by decide +kernel
theorem d_DG_readRow_14 : decode b_DG_readRow 14 = .ok (.idiv, 1) := by decide +kernel
theorem d_DG_readRow_15 : decode b_DG_readRow 15 = .ok (.aload_n 0, 1) := by decide +kernel
theorem d_DG_readRow_16 : decode b_DG_readRow 16 = .ok (.getfield 13, 3) := by decide +kernel
theorem d_DG_readRow_19 : decode b_DG_readRow 19 = .ok (.iload_n 3, 1) := by decide +kernel
theorem d_DG_readRow_20 : decode b_DG_readRow 20 = .ok (.iconst 4, 1) := by decide +kernel
theorem d_DG_readRow_21 : decode b_DG_readRow 21 = .ok (.idiv, 1) := by decide +kernel
theorem d_DG_readRow_22 : decode b_DG_readRow 22 = .ok (.iaload, 1) := by decide +kernel
theorem d_DG_readRow_23 : decode b_DG_readRow 23 = .ok (.bipush 8, 2) := by decide +kernel
theorem d_DG_readRow_25 : decode b_DG_readRow 25 = .ok (.ishl, 1) := by decide +kernel
theorem d_DG_readRow_26 : decode b_DG_readRow 26 = .ok (.aload_n 1, 1) := by decide +kernel
theorem d_DG_readRow_27 : decode b_DG_readRow 27 = .ok (.iload_n 2, 1) := by decide +kernel
theorem d_DG_readRow_28 : decode b_DG_readRow 28 = .ok (.iload_n 3, 1) := by decide +kernel
theorem d_DG_readRow_29 : decode b_DG_readRow 29 = .ok (.iadd, 1) := by decide +kernel
theorem d_DG_readRow_30 : decode b_DG_readRow 30 = .ok (.invokevirtual 50, 3) := by decide +kernel
theorem d_DG_readRow_33 : decode b_DG_readRow 33 = .ok (.ior, 1) := by decide +kernel
theorem d_DG_readRow_34 : decode b_DG_readRow 34 = .ok (.iastore, 1) := by decide +kernel
theorem d_DG_readRow_35 : decode b_DG_readRow 35 = .ok (.iinc 3 1, 3) := by decide +kernel
