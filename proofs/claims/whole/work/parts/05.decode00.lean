theorem d_PG_init_0 : decode b_PG_init 0 = .ok (.aload_n 0, 1) := by decide +kernel
theorem d_PG_init_1 : decode b_PG_init 1 = .ok (.invokespecial 1, 3) := by decide +kernel
theorem d_PG_init_4 : decode b_PG_init 4 = .ok (.aload_n 0, 1) := by decide +kernel
theorem d_PG_init_5 : decode b_PG_init 5 = .ok (.new 7, 3) := by decide +kernel
theorem d_PG_init_8 : decode b_PG_init 8 = .ok (.dup, 1) := by decide +kernel
theorem d_PG_init_9 : decode b_PG_init 9 = .ok (.invokespecial 9, 3) := by decide +kernel
theorem d_PG_init_12 : decode b_PG_init 12 = .ok (.putfield 10, 3) := by decide +kernel
theorem d_PG_init_15 : decode b_PG_init 15 = .ok (.aload_n 0, 1) := by decide +kernel
theorem d_PG_init_16 : decode b_PG_init 16 = .ok (.new 16, 3) := by decide +kernel
theorem d_PG_init_19 : decode b_PG_init 19 = .ok (.dup, 1) := by decide +kernel
theorem d_PG_init_20 : decode b_PG_init 20 = .ok (.invokespecial 18, 3) := by decide +kernel
theorem d_PG_init_23 : decode b_PG_init 23 = .ok (.putfield 19, 3) := by decide +kernel
theorem d_PG_init_26 : decode b_PG_init 26 = .ok (.aload_n 0, 1) := by decide +kernel
theorem d_PG_init_27 : decode b_PG_init 27 = .ok (.new 16, 3) := by decide +kernel
theorem d_PG_init_30 : decode b_PG_init 30 = .ok (.dup, 1) := by decide +kernel
theorem d_PG_init_31 : decode b_PG_init 31 = .ok (.invokespecial 18, 3) := by decide +kernel
theorem d_PG_init_34 : decode b_PG_init 34 = .ok (.putfield 23, 3) := by decide +kernel
theorem d_PG_init_37 : decode b_PG_init 37 = .ok (.aload_n 0, 1) := by decide +kernel
theorem d_PG_init_38 : decode b_PG_init 38 = .ok (.new 7, 3) := by decide +kernel
theorem d_PG_init_41 : decode b_PG_init 41 = .ok (.dup, 1) := by decide +kernel
theorem d_PG_init_42 : decode b_PG_init 42 = .ok (.invokespecial 9, 3) := by decide +kernel
theorem d_PG_init_45 : decode b_PG_init 45 = .ok (.putfield 26, 3) := by decide +kernel
theorem d_PG_init_48 : decode b_PG_init 48 = .ok (.aload_n 0, 1) := by decide +kernel
theorem d_PG_init_49 : decode b_PG_init 49 = .ok (.new 29, 3) := by decide +kernel
theorem d_PG_init_52 : decode b_PG_init 52 = .ok (.dup, 1) := by decide +kernel
theorem d_PG_init_53 : decode b_PG_init 53 = .ok (.sipush 500, 3) := by decide +kernel
theorem d_PG_init_56 : decode b_PG_init 56 = .ok (.invokespecial 31, 3) := by decide +kernel
theorem d_PG_init_59 : decode b_PG_init 59 = .ok (.putfield 34, 3) := by decide +kernel
theorem d_PG_init_62 : decode b_PG_init 62 = .ok (.aload_n 0, 1) := by decide +kernel
theorem d_PG_init_63 : decode b_PG_init 63 = .ok (.new 29, 3) := by decide +kernel
theorem d_PG_init_66 : decode b_PG_init 66 = .ok (.dup, 1) := by decide +kernel
theorem d_PG_init_67 : decode b_PG_init 67 = .ok (.sipush 6000, 3) := by decide +kernel
theorem d_PG_init_70 : decode b_PG_init 70 = .ok (.invokespecial 31, 3) := by decide +kernel
theorem d_PG_init_73 : decode b_PG_init 73 = .ok (.putfield 38, 3) := by decide +kernel
theorem d_PG_init_76 : decode b_PG_init 76 = .ok (.aload_n 0, 1) := by decide +kernel
theorem d_PG_init_77 : decode b_PG_init 77 = .ok (.new 29, 3) := by decide +kernel
theorem d_PG_init_80 : decode b_PG_init 80 = .ok (.dup, 1) := by decide +kernel
theorem d_PG_init_81 : decode b_PG_init 81 = .ok (.sipush 2000, 3) := by decide +kernel
theorem d_PG_init_84 : decode b_PG_init 84 = .ok (.invokespecial 31, 3) := by decide +kernel
theorem d_PG_init_87 : decode b_PG_init 87 = .ok (.putfield 41, 3) := by decide +kernel
theorem d_PG_init_90 : decode b_PG_init 90 = .ok (.aload_n 0, 1) := by decide +kernel
theorem d_PG_init_91 : decode b_PG_init 91 = .ok (.new 29, 3) := by decide +kernel
theorem d_PG_init_94 : decode b_PG_init 94 = .ok (.dup, 1) := by decide +kernel
theorem d_PG_init_95 : decode b_PG_init 95 = .ok (.sipush 540, 3) := by decide +kernel
theorem d_PG_init_98 : decode b_PG_init 98 = .ok (.invokespecial 31, 3) := by decide +kernel
theorem d_PG_init_101 : decode b_PG_init 101 = .ok (.putfield 44, 3) := by decide +kernel
theorem d_PG_init_104 : decode b_PG_init 104 = .ok (.aload_n 0, 1) := by decide +kernel
theorem d_PG_init_105 : decode b_PG_init 105 = .ok (.new 29, 3) := by decide +kernel
theorem d_PG_init_108 : decode b_PG_init 108 = .ok (.dup, 1) := by decide +kernel
theorem d_PG_init_109 : decode b_PG_init 109 = .ok (.sipush 544, 3) := by decide +kernel
theorem d_PG_init_112 : decode b_PG_init 112 = .ok (.invokespecial 31, 3) := by decide +kernel
theorem d_PG_init_115 : decode b_PG_init 115 = .ok (.putfield 47, 3) := by decide +kernel
theorem d_PG_init_118 : decode b_PG_init 118 = .ok (.aload_n 0, 1) := by decide +kernel
theorem d_PG_init_119 : decode b_PG_init 119 = .ok (.new 50, 3) := by decide +kernel
theorem d_PG_init_122 : decode b_PG_init 122 = .ok (.dup, 1) := by decide +kernel
theorem d_PG_init_123 : decode b_PG_init 123 = .ok (.invokespecial 52, 3) := by decide +kernel
theorem d_PG_init_126 : decode b_PG_init 126 = .ok (.putfield 53, 3) := by decide +kernel
theorem d_PG_init_129 : decode b_PG_init 129 = .ok (.aload_n 0, 1) := by decide +kernel
theorem d_PG_init_130 : decode b_PG_init 130 = .ok (.new 57, 3) := by decide +kernel
theorem d_PG_init_133 : decode b_PG_init 133 = .ok (.dup, 1) := by decide +kernel
theorem d_PG_init_134 : decode b_PG_init 134 = .ok (.invokespecial 59, 3) := by decide +kernel
theorem d_PG_init_137 : decode b_PG_init 137 = .ok (.putfield 60, 3) := by decide +kernel
theorem d_PG_init_140 : decode b_PG_init 140 = .ok (.return_, 1) := by decide +kernel
theorem d_PG_key_0 : decode b_PG_key 0 = .ok (.aload_n 0, 1) := by decide +kernel
theorem d_PG_key_1 : decode b_PG_key 1 = .ok (.getfield 10, 3) := by decide +kernel
theorem d_PG_key_4 : decode b_PG_key 4 = .ok (.iload_n 1, 1) := by decide +kernel
theorem d_PG_key_5 : decode b_PG_key 5 = .ok (.iload_n 2, 1) := by decide +kernel
theorem d_PG_key_6 : decode b_PG_key 6 = .ok (.invokevirtual 64, 3) := by decide +kernel
theorem d_PG_key_9 : decode b_PG_key 9 = .ok (.return_, 1) := by decide +kernel
theorem d_PG_turn_0 : decode b_PG_turn 0 = .ok (.aload_n 0, 1) := by decide +kernel
theorem d_PG_turn_1 : decode b_PG_turn 1 = .ok (.iload_n 1, 1) := by decide +kernel
theorem d_PG_turn_2 : decode b_PG_turn 2 = .ok (.invokevirtual 68, 3) := by decide +kernel
theorem d_PG_turn_5 : decode b_PG_turn 5 = .ok (.astore_n 2, 1) := by decide +kernel
theorem d_PG_turn_6 : decode b_PG_turn 6 = .ok (.iload_n 1, 1) := by decide +kernel
theorem d_PG_turn_7 : decode b_PG_turn 7 = .ok (.iconst 1, 1) := by decide +kernel
theorem d_PG_turn_8 : decode b_PG_turn 8 = .ok (.if_icmp .ne 29, 3) := by decide +kernel
theorem d_PG_turn_11 : decode b_PG_turn 11 = .ok (.aload_n 0, 1) := by decide +kernel
theorem d_PG_turn_12 : decode b_PG_turn 12 = .ok (.getfield 72, 3) := by decide +kernel
theorem d_PG_turn_15 : decode b_PG_turn 15 = .ok (.ifCond .eq 22, 3) := by decide +kernel
theorem d_PG_turn_18 : decode b_PG_turn 18 = .ok (.aload_n 0, 1) := by decide +kernel
theorem d_PG_turn_19 : decode b_PG_turn 19 = .ok (.getfield 26, 3) := by decide +kernel
theorem d_PG_turn_22 : decode b_PG_turn 22 = .ok (.aload_n 0, 1) := by decide +kernel
theorem d_PG_turn_23 : decode b_PG_turn 23 = .ok (.getfield 10, 3) := by decide +kernel
theorem d_PG_turn_26 : decode b_PG_turn 26 = .ok (.invokevirtual 76, 3) := by decide +kernel
theorem d_PG_turn_29 : decode b_PG_turn 29 = .ok (.aload_n 0, 1) := by decide +kernel
theorem d_PG_turn_30 : decode b_PG_turn 30 = .ok (.iconst 1, 1) := by decide +kernel
theorem d_PG_turn_31 : decode b_PG_turn 31 = .ok (.putfield 80, 3) := by decide +kernel
theorem d_PG_turn_34 : decode b_PG_turn 34 = .ok (.goto 14, 3) := by decide +kernel
theorem d_PG_turn_37 : decode b_PG_turn 37 = .ok (.aload_n 2, 1) := by decide +kernel
theorem d_PG_turn_38 : decode b_PG_turn 38 = .ok (.invokevirtual 84, 3) := by decide +kernel
theorem d_PG_turn_41 : decode b_PG_turn 41 = .ok (.aload_n 0, 1) := by decide +kernel
theorem d_PG_turn_42 : decode b_PG_turn 42 = .ok (.getfield 10, 3) := by decide +kernel
theorem d_PG_turn_45 : decode b_PG_turn 45 = .ok (.invokevirtual 76, 3) := by decide +kernel
theorem d_PG_turn_48 : decode b_PG_turn 48 = .ok (.return_, 1) := by decide +kernel
theorem d_PG_put_0 : decode b_PG_put 0 = .ok (.iload_n 2, 1) := by decide +kernel
theorem d_PG_put_1 : decode b_PG_put 1 = .ok (.iconst 1, 1) := by decide +kernel
theorem d_PG_put_2 : decode b_PG_put 2 = .ok (.if_icmp .lt 8, 3) := by decide +kernel
theorem d_PG_put_5 : decode b_PG_put 5 = .ok (.iload_n 2, 1) := by decide +kernel
theorem d_PG_put_6 : decode b_PG_put 6 = .ok (.iconst 4, 1) := by decide +kernel
theorem d_PG_put_7 : decode b_PG_put 7 = .ok (.if_icmp .le 13, 3) := by decide +kernel
theorem d_PG_put_10 : decode b_PG_put 10 = .ok (.new 88, 3) := by decide +kernel
theorem d_PG_put_13 : decode b_PG_put 13 = .ok (.dup, 1) := by decide +kernel
theorem d_PG_put_14 : decode b_PG_put 14 = .ok (.ldc 90, 2) := by decide +kernel
theorem d_PG_put_16 : decode b_PG_put 16 = .ok (.invokespecial 92, 3) := by decide +kernel
theorem d_PG_put_19 : decode b_PG_put 19 = .ok (.athrow, 1) := by decide +kernel
theorem d_PG_put_20 : decode b_PG_put 20 = .ok (.aload_n 0, 1) := by decide +kernel
theorem d_PG_put_21 : decode b_PG_put 21 = .ok (.getfield 34, 3) := by decide +kernel
theorem d_PG_put_24 : decode b_PG_put 24 = .ok (.invokevirtual 95, 3) := by decide +kernel
theorem d_PG_put_27 : decode b_PG_put 27 = .ok (.iload_n 2, 1) := by decide +kernel
theorem d_PG_put_28 : decode b_PG_put 28 = .ok (.iadd, 1) := by decide +kernel
theorem d_PG_put_29 : decode b_PG_put 29 = .ok (.sipush 500, 3) := by decide +kernel
theorem d_PG_put_32 : decode b_PG_put 32 = .ok (.if_icmp .le 13, 3) := by decide +kernel
theorem d_PG_put_35 : decode b_PG_put 35 = .ok (.new 99, 3) := by decide +kernel
theorem d_PG_put_38 : decode b_PG_put 38 = .ok (.dup, 1) := by decide +kernel
theorem d_PG_put_39 : decode b_PG_put 39 = .ok (.ldc 101, 2) := by decide +kernel
theorem d_PG_put_41 : decode b_PG_put 41 = .ok (.invokespecial 103, 3) := by decide +kernel
theorem d_PG_put_44 : decode b_PG_put 44 = .ok (.athrow, 1) := by decide +kernel
theorem d_PG_put_45 : decode b_PG_put 45 = .ok (.iload_n 2, 1) := by decide +kernel
theorem d_PG_put_46 : decode b_PG_put 46 = .ok (.iconst 1, 1) := by decide +kernel
theorem d_PG_put_47 : decode b_PG_put 47 = .ok (.isub, 1) := by decide +kernel
theorem d_PG_put_48 : decode b_PG_put 48 = .ok (.istore_n 3, 1) := by decide +kernel
theorem d_PG_put_49 : decode b_PG_put 49 = .ok (.iload_n 3, 1) := by decide +kernel
theorem d_PG_put_50 : decode b_PG_put 50 = .ok (.ifCond .lt 22, 3) := by decide +kernel
theorem d_PG_put_53 : decode b_PG_put 53 = .ok (.aload_n 0, 1) := by decide +kernel
theorem d_PG_put_54 : decode b_PG_put 54 = .ok (.getfield 34, 3) := by decide +kernel
theorem d_PG_put_57 : decode b_PG_put 57 = .ok (.iload_n 1, 1) := by decide +kernel
theorem d_PG_put_58 : decode b_PG_put 58 = .ok (.bipush 8, 2) := by decide +kernel
theorem d_PG_put_60 : decode b_PG_put 60 = .ok (.iload_n 3, 1) := by decide +kernel
theorem d_PG_put_61 : decode b_PG_put 61 = .ok (.imul, 1) := by decide +kernel
theorem d_PG_put_62 : decode b_PG_put 62 = .ok (.iushr, 1) := by decide +kernel
theorem d_PG_put_63 : decode b_PG_put 63 = .ok (.invokevirtual 104, 3) := by decide +kernel
theorem d_PG_put_66 : decode b_PG_put 66 = .ok (.iinc 3 (-1), 3) := by decide +kernel
theorem d_PG_put_69 : decode b_PG_put 69 = .ok (.goto (-20), 3) := by decide +kernel
theorem d_PG_put_72 : decode b_PG_put 72 = .ok (.aload_n 0, 1) := by decide +kernel
theorem d_PG_put_73 : decode b_PG_put 73 = .ok (.getfield 34, 3) := by decide +kernel
theorem d_PG_put_76 : decode b_PG_put 76 = .ok (.invokevirtual 95, 3) := by decide +kernel
theorem d_PG_put_79 : decode b_PG_put 79 = .ok (.ireturn, 1) := by decide +kernel
theorem d_PG_send_0 : decode b_PG_send 0 = .ok (.aload_n 0, 1) := by decide +kernel
theorem d_PG_send_1 : decode b_PG_send 1 = .ok (.getfield 34, 3) := by decide +kernel
theorem d_PG_send_4 : decode b_PG_send 4 = .ok (.invokevirtual 95, 3) := by decide +kernel
theorem d_PG_send_7 : decode b_PG_send 7 = .ok (.invokestatic 107, 3) := by decide +kernel
theorem d_PG_send_10 : decode b_PG_send 10 = .ok (.istore_n 2, 1) := by decide +kernel
theorem d_PG_send_11 : decode b_PG_send 11 = .ok (.aload_n 0, 1) := by decide +kernel
theorem d_PG_send_12 : decode b_PG_send 12 = .ok (.iconst 1, 1) := by decide +kernel
theorem d_PG_send_13 : decode b_PG_send 13 = .ok (.aload_n 0, 1) := by decide +kernel
theorem d_PG_send_14 : decode b_PG_send 14 = .ok (.getfield 34, 3) := by decide +kernel
theorem d_PG_send_17 : decode b_PG_send 17 = .ok (.invokevirtual 95, 3) := by decide +kernel
theorem d_PG_send_20 : decode b_PG_send 20 = .ok (.iadd, 1) := by decide +kernel
theorem d_PG_send_21 : decode b_PG_send 21 = .ok (.iload_n 2, 1) := by decide +kernel
theorem d_PG_send_22 : decode b_PG_send 22 = .ok (.iadd, 1) := by decide +kernel
theorem d_PG_send_23 : decode b_PG_send 23 = .ok (.iload_n 2, 1) := by decide +kernel
theorem d_PG_send_24 : decode b_PG_send 24 = .ok (.iload_n 1, 1) := by decide +kernel
theorem d_PG_send_25 : decode b_PG_send 25 = .ok (.invokevirtual 111, 3) := by decide +kernel
theorem d_PG_send_28 : decode b_PG_send 28 = .ok (.ireturn, 1) := by decide +kernel
theorem d_PG_forge_0 : decode b_PG_forge 0 = .ok (.aload_n 0, 1) := by decide +kernel
theorem d_PG_forge_1 : decode b_PG_forge 1 = .ok (.iload_n 1, 1) := by decide +kernel
theorem d_PG_forge_2 : decode b_PG_forge 2 = .ok (.iload_n 2, 1) := by decide +kernel
theorem d_PG_forge_3 : decode b_PG_forge 3 = .ok (.iconst 0, 1) := by decide +kernel
theorem d_PG_forge_4 : decode b_PG_forge 4 = .ok (.invokevirtual 111, 3) := by decide +kernel
theorem d_PG_forge_7 : decode b_PG_forge 7 = .ok (.ireturn, 1) := by decide +kernel
theorem d_PG_onTheWay_0 : decode b_PG_onTheWay 0 = .ok (.aload_n 0, 1) := by decide +kernel
theorem d_PG_onTheWay_1 : decode b_PG_onTheWay 1 = .ok (.getfield 38, 3) := by decide +kernel
theorem d_PG_onTheWay_4 : decode b_PG_onTheWay 4 = .ok (.invokevirtual 95, 3) := by decide +kernel
theorem d_PG_onTheWay_7 : decode b_PG_onTheWay 7 = .ok (.ireturn, 1) := by decide +kernel
theorem d_PG_octet_0 : decode b_PG_octet 0 = .ok (.aload_n 0, 1) := by decide +kernel
theorem d_PG_octet_1 : decode b_PG_octet 1 = .ok (.getfield 38, 3) := by decide +kernel
theorem d_PG_octet_4 : decode b_PG_octet 4 = .ok (.iload_n 1, 1) := by decide +kernel
theorem d_PG_octet_5 : decode b_PG_octet 5 = .ok (.invokevirtual 115, 3) := by decide +kernel
theorem d_PG_octet_8 : decode b_PG_octet 8 = .ok (.ireturn, 1) := by decide +kernel
theorem d_PG_alter_0 : decode b_PG_alter 0 = .ok (.aload_n 0, 1) := by decide +kernel
theorem d_PG_alter_1 : decode b_PG_alter 1 = .ok (.getfield 38, 3) := by decide +kernel
theorem d_PG_alter_4 : decode b_PG_alter 4 = .ok (.iload_n 1, 1) := by decide +kernel
theorem d_PG_alter_5 : decode b_PG_alter 5 = .ok (.iload_n 2, 1) := by decide +kernel
theorem d_PG_alter_6 : decode b_PG_alter 6 = .ok (.invokevirtual 118, 3) := by decide +kernel
theorem d_PG_alter_9 : decode b_PG_alter 9 = .ok (.return_, 1) := by decide +kernel
theorem d_PG_link_0 : decode b_PG_link 0 = .ok (.iload_n 1, 1) := by decide +kernel
theorem d_PG_link_1 : decode b_PG_link 1 = .ok (.ifCond .ge 13, 3) := by decide +kernel
theorem d_PG_link_4 : decode b_PG_link 4 = .ok (.new 88, 3) := by decide +kernel
theorem d_PG_link_7 : decode b_PG_link 7 = .ok (.dup, 1) := by decide +kernel
theorem d_PG_link_8 : decode b_PG_link 8 = .ok (.ldc 121, 2) := by decide +kernel
theorem d_PG_link_10 : decode b_PG_link 10 = .ok (.invokespecial 92, 3) := by decide +kernel
theorem d_PG_link_13 : decode b_PG_link 13 = .ok (.athrow, 1) := by decide +kernel
theorem d_PG_link_14 : decode b_PG_link 14 = .ok (.iload_n 1, 1) := by decide +kernel
theorem d_PG_link_15 : decode b_PG_link 15 = .ok (.aload_n 0, 1) := by decide +kernel
theorem d_PG_link_16 : decode b_PG_link 16 = .ok (.getfield 38, 3) := by decide +kernel
theorem d_PG_link_19 : decode b_PG_link 19 = .ok (.invokevirtual 95, 3) := by decide +kernel
theorem d_PG_link_22 : decode b_PG_link 22 = .ok (.invokestatic 123, 3) := by decide +kernel
theorem d_PG_link_25 : decode b_PG_link 25 = .ok (.istore_n 2, 1) := by decide +kernel
theorem d_PG_link_26 : decode b_PG_link 26 = .ok (.aload_n 0, 1) := by decide +kernel
theorem d_PG_link_27 : decode b_PG_link 27 = .ok (.getfield 41, 3) := by decide +kernel
theorem d_PG_link_30 : decode b_PG_link 30 = .ok (.invokevirtual 95, 3) := by decide +kernel
theorem d_PG_link_33 : decode b_PG_link 33 = .ok (.iload_n 2, 1) := by decide +kernel
theorem d_PG_link_34 : decode b_PG_link 34 = .ok (.iadd, 1) := by decide +kernel
theorem d_PG_link_35 : decode b_PG_link 35 = .ok (.sipush 2000, 3) := by decide +kernel
theorem d_PG_link_38 : decode b_PG_link 38 = .ok (.if_icmp .le 13, 3) := by decide +kernel
theorem d_PG_link_41 : decode b_PG_link 41 = .ok (.new 99, 3) := by decide +kernel
theorem d_PG_link_44 : decode b_PG_link 44 = .ok (.dup, 1) := by decide +kernel
theorem d_PG_link_45 : decode b_PG_link 45 = .ok (.ldc 129, 2) := by decide +kernel
theorem d_PG_link_47 : decode b_PG_link 47 = .ok (.invokespecial 103, 3) := by decide +kernel
theorem d_PG_link_50 : decode b_PG_link 50 = .ok (.athrow, 1) := by decide +kernel
theorem d_PG_link_51 : decode b_PG_link 51 = .ok (.iconst 0, 1) := by decide +kernel
theorem d_PG_link_52 : decode b_PG_link 52 = .ok (.istore_n 3, 1) := by decide +kernel
theorem d_PG_link_53 : decode b_PG_link 53 = .ok (.iload_n 3, 1) := by decide +kernel
theorem d_PG_link_54 : decode b_PG_link 54 = .ok (.iload_n 2, 1) := by decide +kernel
theorem d_PG_link_55 : decode b_PG_link 55 = .ok (.if_icmp .ge 24, 3) := by decide +kernel
theorem d_PG_link_58 : decode b_PG_link 58 = .ok (.aload_n 0, 1) := by decide +kernel
theorem d_PG_link_59 : decode b_PG_link 59 = .ok (.getfield 41, 3) := by decide +kernel
theorem d_PG_link_62 : decode b_PG_link 62 = .ok (.aload_n 0, 1) := by decide +kernel
theorem d_PG_link_63 : decode b_PG_link 63 = .ok (.getfield 38, 3) := by decide +kernel
theorem d_PG_link_66 : decode b_PG_link 66 = .ok (.iload_n 3, 1) := by decide +kernel
theorem d_PG_link_67 : decode b_PG_link 67 = .ok (.invokevirtual 115, 3) := by decide +kernel
theorem d_PG_link_70 : decode b_PG_link 70 = .ok (.invokevirtual 104, 3) := by decide +kernel
theorem d_PG_link_73 : decode b_PG_link 73 = .ok (.iinc 3 1, 3) := by decide +kernel
theorem d_PG_link_76 : decode b_PG_link 76 = .ok (.goto (-23), 3) := by decide +kernel
theorem d_PG_link_79 : decode b_PG_link 79 = .ok (.aload_n 0, 1) := by decide +kernel
theorem d_PG_link_80 : decode b_PG_link 80 = .ok (.getfield 38, 3) := by decide +kernel
theorem d_PG_link_83 : decode b_PG_link 83 = .ok (.iload_n 2, 1) := by decide +kernel
theorem d_PG_link_84 : decode b_PG_link 84 = .ok (.invokevirtual 131, 3) := by decide +kernel
theorem d_PG_link_87 : decode b_PG_link 87 = .ok (.iload_n 2, 1) := by decide +kernel
theorem d_PG_link_88 : decode b_PG_link 88 = .ok (.ireturn, 1) := by decide +kernel
theorem d_PG_take_0 : decode b_PG_take 0 = .ok (.aload_n 0, 1) := by decide +kernel
theorem d_PG_take_1 : decode b_PG_take 1 = .ok (.getfield 134, 3) := by decide +kernel
theorem d_PG_take_4 : decode b_PG_take 4 = .ok (.ifCond .ne 26, 3) := by decide +kernel
theorem d_PG_take_7 : decode b_PG_take 7 = .ok (.aload_n 0, 1) := by decide +kernel
theorem d_PG_take_8 : decode b_PG_take 8 = .ok (.getfield 72, 3) := by decide +kernel
theorem d_PG_take_11 : decode b_PG_take 11 = .ok (.ifCond .ne 19, 3) := by decide +kernel
theorem d_PG_take_14 : decode b_PG_take 14 = .ok (.aload_n 0, 1) := by decide +kernel
theorem d_PG_take_15 : decode b_PG_take 15 = .ok (.getfield 41, 3) := by decide +kernel
theorem d_PG_take_18 : decode b_PG_take 18 = .ok (.invokevirtual 95, 3) := by decide +kernel
theorem d_PG_take_21 : decode b_PG_take 21 = .ok (.bipush 16, 2) := by decide +kernel
theorem d_PG_take_23 : decode b_PG_take 23 = .ok (.if_icmp .lt 7, 3) := by decide +kernel
theorem d_PG_take_26 : decode b_PG_take 26 = .ok (.aload_n 0, 1) := by decide +kernel
theorem d_PG_take_27 : decode b_PG_take 27 = .ok (.invokevirtual 137, 3) := by decide +kernel
theorem d_PG_take_30 : decode b_PG_take 30 = .ok (.aload_n 0, 1) := by decide +kernel
theorem d_PG_take_31 : decode b_PG_take 31 = .ok (.getfield 134, 3) := by decide +kernel
theorem d_PG_take_34 : decode b_PG_take 34 = .ok (.ifCond .eq 9, 3) := by decide +kernel
theorem d_PG_take_37 : decode b_PG_take 37 = .ok (.aload_n 0, 1) := by decide +kernel
theorem d_PG_take_38 : decode b_PG_take 38 = .ok (.getfield 134, 3) := by decide +kernel
theorem d_PG_take_41 : decode b_PG_take 41 = .ok (.ineg, 1) := by decide +kernel
theorem d_PG_take_42 : decode b_PG_take 42 = .ok (.ireturn, 1) := by decide +kernel
theorem d_PG_take_43 : decode b_PG_take 43 = .ok (.iconst 4, 1) := by decide +kernel
theorem d_PG_take_44 : decode b_PG_take 44 = .ok (.aload_n 0, 1) := by decide +kernel
theorem d_PG_take_45 : decode b_PG_take 45 = .ok (.getfield 72, 3) := by decide +kernel
theorem d_PG_take_48 : decode b_PG_take 48 = .ok (.iadd, 1) := by decide +kernel
theorem d_PG_take_49 : decode b_PG_take 49 = .ok (.istore_n 1, 1) := by decide +kernel
theorem d_PG_take_50 : decode b_PG_take 50 = .ok (.aload_n 0, 1) := by decide +kernel
theorem d_PG_take_51 : decode b_PG_take 51 = .ok (.getfield 72, 3) := by decide +kernel
theorem d_PG_take_54 : decode b_PG_take 54 = .ok (.ifCond .eq 17, 3) := by decide +kernel
theorem d_PG_take_57 : decode b_PG_take 57 = .ok (.aload_n 0, 1) := by decide +kernel
theorem d_PG_take_58 : decode b_PG_take 58 = .ok (.getfield 41, 3) := by decide +kernel
theorem d_PG_take_61 : decode b_PG_take 61 = .ok (.invokevirtual 95, 3) := by decide +kernel
theorem d_PG_take_64 : decode b_PG_take 64 = .ok (.iload_n 1, 1) := by decide +kernel
theorem d_PG_take_65 : decode b_PG_take 65 = .ok (.bipush 32, 2) := by decide +kernel
theorem d_PG_take_67 : decode b_PG_take 67 = .ok (.iadd, 1) := by decide +kernel
theorem d_PG_take_68 : decode b_PG_take 68 = .ok (.if_icmp .ge 5, 3) := by decide +kernel
theorem d_PG_take_71 : decode b_PG_take 71 = .ok (.iconst (-1), 1) := by decide +kernel
theorem d_PG_take_72 : decode b_PG_take 72 = .ok (.ireturn, 1) := by decide +kernel
theorem d_PG_take_73 : decode b_PG_take 73 = .ok (.aload_n 0, 1) := by decide +kernel
theorem d_PG_take_74 : decode b_PG_take 74 = .ok (.iload_n 1, 1) := by decide +kernel
theorem d_PG_take_75 : decode b_PG_take 75 = .ok (.invokevirtual 140, 3) := by decide +kernel
theorem d_PG_take_78 : decode b_PG_take 78 = .ok (.aload_n 0, 1) := by decide +kernel
theorem d_PG_take_79 : decode b_PG_take 79 = .ok (.aload_n 0, 1) := by decide +kernel
theorem d_PG_take_80 : decode b_PG_take 80 = .ok (.iload_n 1, 1) := by decide +kernel
theorem d_PG_take_81 : decode b_PG_take 81 = .ok (.invokevirtual 143, 3) := by decide +kernel
theorem d_PG_take_84 : decode b_PG_take 84 = .ok (.putfield 134, 3) := by decide +kernel
theorem d_PG_take_87 : decode b_PG_take 87 = .ok (.aload_n 0, 1) := by decide +kernel
theorem d_PG_take_88 : decode b_PG_take 88 = .ok (.getfield 134, 3) := by decide +kernel
theorem d_PG_take_91 : decode b_PG_take 91 = .ok (.ifCond .eq 9, 3) := by decide +kernel
theorem d_PG_take_94 : decode b_PG_take 94 = .ok (.aload_n 0, 1) := by decide +kernel
theorem d_PG_take_95 : decode b_PG_take 95 = .ok (.getfield 134, 3) := by decide +kernel
theorem d_PG_take_98 : decode b_PG_take 98 = .ok (.ineg, 1) := by decide +kernel
theorem d_PG_take_99 : decode b_PG_take 99 = .ok (.ireturn, 1) := by decide +kernel
theorem d_PG_take_100 : decode b_PG_take 100 = .ok (.aload_n 0, 1) := by decide +kernel
theorem d_PG_take_101 : decode b_PG_take 101 = .ok (.iload_n 1, 1) := by decide +kernel
theorem d_PG_take_102 : decode b_PG_take 102 = .ok (.invokevirtual 146, 3) := by decide +kernel
theorem d_PG_take_105 : decode b_PG_take 105 = .ok (.aload_n 0, 1) := by decide +kernel
theorem d_PG_take_106 : decode b_PG_take 106 = .ok (.getfield 44, 3) := by decide +kernel
theorem d_PG_take_109 : decode b_PG_take 109 = .ok (.invokevirtual 95, 3) := by decide +kernel
theorem d_PG_take_112 : decode b_PG_take 112 = .ok (.ireturn, 1) := by decide +kernel
theorem d_PG_got_0 : decode b_PG_got 0 = .ok (.aload_n 0, 1) := by decide +kernel
theorem d_PG_got_1 : decode b_PG_got 1 = .ok (.getfield 44, 3) := by decide +kernel
theorem d_PG_got_4 : decode b_PG_got 4 = .ok (.iload_n 1, 1) := by decide +kernel
theorem d_PG_got_5 : decode b_PG_got 5 = .ok (.invokevirtual 115, 3) := by decide +kernel
theorem d_PG_got_8 : decode b_PG_got 8 = .ok (.ireturn, 1) := by decide +kernel
theorem d_PG_number_0 : decode b_PG_number 0 = .ok (.aload_n 0, 1) := by decide +kernel
theorem d_PG_number_1 : decode b_PG_number 1 = .ok (.iload_n 1, 1) := by decide +kernel
theorem d_PG_number_2 : decode b_PG_number 2 = .ok (.invokevirtual 68, 3) := by decide +kernel
theorem d_PG_number_5 : decode b_PG_number 5 = .ok (.invokevirtual 149, 3) := by decide +kernel
theorem d_PG_number_8 : decode b_PG_number 8 = .ok (.ireturn, 1) := by decide +kernel
theorem d_PG_begin_0 : decode b_PG_begin 0 = .ok (.aload_n 0, 1) := by decide +kernel
theorem d_PG_begin_1 : decode b_PG_begin 1 = .ok (.getfield 10, 3) := by decide +kernel
theorem d_PG_begin_4 : decode b_PG_begin 4 = .ok (.invokevirtual 152, 3) := by decide +kernel
theorem d_PG_begin_7 : decode b_PG_begin 7 = .ok (.aload_n 0, 1) := by decide +kernel
theorem d_PG_begin_8 : decode b_PG_begin 8 = .ok (.getfield 19, 3) := by decide +kernel
theorem d_PG_begin_11 : decode b_PG_begin 11 = .ok (.invokevirtual 155, 3) := by decide +kernel
theorem d_PG_begin_14 : decode b_PG_begin 14 = .ok (.aload_n 0, 1) := by decide +kernel
theorem d_PG_begin_15 : decode b_PG_begin 15 = .ok (.getfield 23, 3) := by decide +kernel
theorem d_PG_begin_18 : decode b_PG_begin 18 = .ok (.invokevirtual 155, 3) := by decide +kernel
theorem d_PG_begin_21 : decode b_PG_begin 21 = .ok (.aload_n 0, 1) := by decide +kernel
theorem d_PG_begin_22 : decode b_PG_begin 22 = .ok (.iconst 0, 1) := by decide +kernel
theorem d_PG_begin_23 : decode b_PG_begin 23 = .ok (.putfield 80, 3) := by decide +kernel
theorem d_PG_begin_26 : decode b_PG_begin 26 = .ok (.aload_n 0, 1) := by decide +kernel
theorem d_PG_begin_27 : decode b_PG_begin 27 = .ok (.getfield 34, 3) := by decide +kernel
theorem d_PG_begin_30 : decode b_PG_begin 30 = .ok (.invokevirtual 156, 3) := by decide +kernel
theorem d_PG_begin_33 : decode b_PG_begin 33 = .ok (.aload_n 0, 1) := by decide +kernel
theorem d_PG_begin_34 : decode b_PG_begin 34 = .ok (.getfield 38, 3) := by decide +kernel
theorem d_PG_begin_37 : decode b_PG_begin 37 = .ok (.invokevirtual 156, 3) := by decide +kernel
theorem d_PG_begin_40 : decode b_PG_begin 40 = .ok (.aload_n 0, 1) := by decide +kernel
theorem d_PG_begin_41 : decode b_PG_begin 41 = .ok (.getfield 41, 3) := by decide +kernel
theorem d_PG_begin_44 : decode b_PG_begin 44 = .ok (.invokevirtual 156, 3) := by decide +kernel
theorem d_PG_begin_47 : decode b_PG_begin 47 = .ok (.aload_n 0, 1) := by decide +kernel
theorem d_PG_begin_48 : decode b_PG_begin 48 = .ok (.getfield 44, 3) := by decide +kernel
theorem d_PG_begin_51 : decode b_PG_begin 51 = .ok (.invokevirtual 156, 3) := by decide +kernel
theorem d_PG_begin_54 : decode b_PG_begin 54 = .ok (.aload_n 0, 1) := by decide +kernel
theorem d_PG_begin_55 : decode b_PG_begin 55 = .ok (.iconst 0, 1) := by decide +kernel
theorem d_PG_begin_56 : decode b_PG_begin 56 = .ok (.putfield 72, 3) := by decide +kernel
theorem d_PG_begin_59 : decode b_PG_begin 59 = .ok (.aload_n 0, 1) := by decide +kernel
theorem d_PG_begin_60 : decode b_PG_begin 60 = .ok (.iconst 0, 1) := by decide +kernel
theorem d_PG_begin_61 : decode b_PG_begin 61 = .ok (.putfield 134, 3) := by decide +kernel
theorem d_PG_begin_64 : decode b_PG_begin 64 = .ok (.return_, 1) := by decide +kernel
theorem d_PG_sideOf_0 : decode b_PG_sideOf 0 = .ok (.iload_n 1, 1) := by decide +kernel
theorem d_PG_sideOf_1 : decode b_PG_sideOf 1 = .ok (.ifCond .eq 18, 3) := by decide +kernel
theorem d_PG_sideOf_4 : decode b_PG_sideOf 4 = .ok (.iload_n 1, 1) := by decide +kernel
theorem d_PG_sideOf_5 : decode b_PG_sideOf 5 = .ok (.iconst 1, 1) := by decide +kernel
theorem d_PG_sideOf_6 : decode b_PG_sideOf 6 = .ok (.if_icmp .eq 13, 3) := by decide +kernel
theorem d_PG_sideOf_9 : decode b_PG_sideOf 9 = .ok (.new 157, 3) := by decide +kernel
theorem d_PG_sideOf_12 : decode b_PG_sideOf 12 = .ok (.dup, 1) := by decide +kernel
theorem d_PG_sideOf_13 : decode b_PG_sideOf 13 = .ok (.ldc 159, 2) := by decide +kernel
theorem d_PG_sideOf_15 : decode b_PG_sideOf 15 = .ok (.invokespecial 161, 3) := by decide +kernel
theorem d_PG_sideOf_18 : decode b_PG_sideOf 18 = .ok (.athrow, 1) := by decide +kernel
theorem d_PG_sideOf_19 : decode b_PG_sideOf 19 = .ok (.iload_n 1, 1) := by decide +kernel
theorem d_PG_sideOf_20 : decode b_PG_sideOf 20 = .ok (.ifCond .ne 10, 3) := by decide +kernel
theorem d_PG_sideOf_23 : decode b_PG_sideOf 23 = .ok (.aload_n 0, 1) := by decide +kernel
theorem d_PG_sideOf_24 : decode b_PG_sideOf 24 = .ok (.getfield 19, 3) := by decide +kernel
theorem d_PG_sideOf_27 : decode b_PG_sideOf 27 = .ok (.goto 7, 3) := by decide +kernel
theorem d_PG_sideOf_30 : decode b_PG_sideOf 30 = .ok (.aload_n 0, 1) := by decide +kernel
theorem d_PG_sideOf_31 : decode b_PG_sideOf 31 = .ok (.getfield 23, 3) := by decide +kernel
theorem d_PG_sideOf_34 : decode b_PG_sideOf 34 = .ok (.areturn, 1) := by decide +kernel
theorem d_PG_paddingFor_0 : decode b_PG_paddingFor 0 = .ok (.iconst 5, 1) := by decide +kernel
theorem d_PG_paddingFor_1 : decode b_PG_paddingFor 1 = .ok (.iload_n 0, 1) := by decide +kernel
theorem d_PG_paddingFor_2 : decode b_PG_paddingFor 2 = .ok (.iadd, 1) := by decide +kernel
theorem d_PG_paddingFor_3 : decode b_PG_paddingFor 3 = .ok (.iconst 4, 1) := by decide +kernel
theorem d_PG_paddingFor_4 : decode b_PG_paddingFor 4 = .ok (.iadd, 1) := by decide +kernel
theorem d_PG_paddingFor_5 : decode b_PG_paddingFor 5 = .ok (.istore_n 1, 1) := by decide +kernel
theorem d_PG_paddingFor_6 : decode b_PG_paddingFor 6 = .ok (.iconst 4, 1) := by decide +kernel
theorem d_PG_paddingFor_7 : decode b_PG_paddingFor 7 = .ok (.iload_n 1, 1) := by decide +kernel
theorem d_PG_paddingFor_8 : decode b_PG_paddingFor 8 = .ok (.ineg, 1) := by decide +kernel
theorem d_PG_paddingFor_9 : decode b_PG_paddingFor 9 = .ok (.bipush 16, 2) := by decide +kernel
theorem d_PG_paddingFor_11 : decode b_PG_paddingFor 11 = .ok (.invokestatic 162, 3) := by decide +kernel
theorem d_PG_paddingFor_14 : decode b_PG_paddingFor 14 = .ok (.iadd, 1) := by decide +kernel
theorem d_PG_paddingFor_15 : decode b_PG_paddingFor 15 = .ok (.ireturn, 1) := by decide +kernel
theorem d_PG_ship_0 : decode b_PG_ship 0 = .ok (.aload_n 0, 1) := by decide +kernel
theorem d_PG_ship_1 : decode b_PG_ship 1 = .ok (.getfield 34, 3) := by decide +kernel
theorem d_PG_ship_4 : decode b_PG_ship 4 = .ok (.invokevirtual 95, 3) := by decide +kernel
theorem d_PG_ship_7 : decode b_PG_ship 7 = .ok (.invokestatic 107, 3) := by decide +kernel
theorem d_PG_ship_10 : decode b_PG_ship 10 = .ok (.istore 4, 2) := by decide +kernel
theorem d_PG_ship_12 : decode b_PG_ship 12 = .ok (.iconst 5, 1) := by decide +kernel
theorem d_PG_ship_13 : decode b_PG_ship 13 = .ok (.aload_n 0, 1) := by decide +kernel
theorem d_PG_ship_14 : decode b_PG_ship 14 = .ok (.getfield 34, 3) := by decide +kernel
theorem d_PG_ship_17 : decode b_PG_ship 17 = .ok (.invokevirtual 95, 3) := by decide +kernel
theorem d_PG_ship_20 : decode b_PG_ship 20 = .ok (.iadd, 1) := by decide +kernel
theorem d_PG_ship_21 : decode b_PG_ship 21 = .ok (.iload 4, 2) := by decide +kernel
theorem d_PG_ship_23 : decode b_PG_ship 23 = .ok (.iadd, 1) := by decide +kernel
theorem d_PG_ship_24 : decode b_PG_ship 24 = .ok (.bipush 32, 2) := by decide +kernel
theorem d_PG_ship_26 : decode b_PG_ship 26 = .ok (.iadd, 1) := by decide +kernel
theorem d_PG_ship_27 : decode b_PG_ship 27 = .ok (.istore 5, 2) := by decide +kernel
theorem d_PG_ship_29 : decode b_PG_ship 29 = .ok (.aload_n 0, 1) := by decide +kernel
theorem d_PG_ship_30 : decode b_PG_ship 30 = .ok (.getfield 38, 3) := by decide +kernel
theorem d_PG_ship_33 : decode b_PG_ship 33 = .ok (.invokevirtual 95, 3) := by decide +kernel
theorem d_PG_ship_36 : decode b_PG_ship 36 = .ok (.iload 5, 2) := by decide +kernel
theorem d_PG_ship_38 : decode b_PG_ship 38 = .ok (.iadd, 1) := by decide +kernel
theorem d_PG_ship_39 : decode b_PG_ship 39 = .ok (.sipush 6000, 3) := by decide +kernel
theorem d_PG_ship_42 : decode b_PG_ship 42 = .ok (.if_icmp .le 13, 3) := by decide +kernel
theorem d_PG_ship_45 : decode b_PG_ship 45 = .ok (.new 99, 3) := by decide +kernel
theorem d_PG_ship_48 : decode b_PG_ship 48 = .ok (.dup, 1) := by decide +kernel
theorem d_PG_ship_49 : decode b_PG_ship 49 = .ok (.ldc 165, 2) := by decide +kernel
theorem d_PG_ship_51 : decode b_PG_ship 51 = .ok (.invokespecial 103, 3) := by decide +kernel
theorem d_PG_ship_54 : decode b_PG_ship 54 = .ok (.athrow, 1) := by decide +kernel
theorem d_PG_ship_55 : decode b_PG_ship 55 = .ok (.aload_n 0, 1) := by decide +kernel
theorem d_PG_ship_56 : decode b_PG_ship 56 = .ok (.getfield 47, 3) := by decide +kernel
theorem d_PG_ship_59 : decode b_PG_ship 59 = .ok (.invokevirtual 156, 3) := by decide +kernel
theorem d_PG_ship_62 : decode b_PG_ship 62 = .ok (.aload_n 0, 1) := by decide +kernel
theorem d_PG_ship_63 : decode b_PG_ship 63 = .ok (.getfield 47, 3) := by decide +kernel
theorem d_PG_ship_66 : decode b_PG_ship 66 = .ok (.iload_n 1, 1) := by decide +kernel
theorem d_PG_ship_67 : decode b_PG_ship 67 = .ok (.invokevirtual 167, 3) := by decide +kernel
theorem d_PG_ship_70 : decode b_PG_ship 70 = .ok (.aload_n 0, 1) := by decide +kernel
theorem d_PG_ship_71 : decode b_PG_ship 71 = .ok (.getfield 47, 3) := by decide +kernel
theorem d_PG_ship_74 : decode b_PG_ship 74 = .ok (.iload_n 2, 1) := by decide +kernel
theorem d_PG_ship_75 : decode b_PG_ship 75 = .ok (.invokevirtual 104, 3) := by decide +kernel
theorem d_PG_ship_78 : decode b_PG_ship 78 = .ok (.aload_n 0, 1) := by decide +kernel
theorem d_PG_ship_79 : decode b_PG_ship 79 = .ok (.getfield 47, 3) := by decide +kernel
theorem d_PG_ship_82 : decode b_PG_ship 82 = .ok (.aload_n 0, 1) := by decide +kernel
theorem d_PG_ship_83 : decode b_PG_ship 83 = .ok (.getfield 34, 3) := by decide +kernel
theorem d_PG_ship_86 : decode b_PG_ship 86 = .ok (.iconst 0, 1) := by decide +kernel
theorem d_PG_ship_87 : decode b_PG_ship 87 = .ok (.aload_n 0, 1) := by decide +kernel
theorem d_PG_ship_88 : decode b_PG_ship 88 = .ok (.getfield 34, 3) := by decide +kernel
theorem d_PG_ship_91 : decode b_PG_ship 91 = .ok (.invokevirtual 95, 3) := by decide +kernel
theorem d_PG_ship_94 : decode b_PG_ship 94 = .ok (.invokevirtual 170, 3) := by decide +kernel
theorem d_PG_ship_97 : decode b_PG_ship 97 = .ok (.iconst 0, 1) := by decide +kernel
theorem d_PG_ship_98 : decode b_PG_ship 98 = .ok (.istore 6, 2) := by decide +kernel
theorem d_PG_ship_100 : decode b_PG_ship 100 = .ok (.iload 6, 2) := by decide +kernel
theorem d_PG_ship_102 : decode b_PG_ship 102 = .ok (.iload 4, 2) := by decide +kernel
theorem d_PG_ship_104 : decode b_PG_ship 104 = .ok (.if_icmp .ge 23, 3) := by decide +kernel
theorem d_PG_ship_107 : decode b_PG_ship 107 = .ok (.aload_n 0, 1) := by decide +kernel
theorem d_PG_ship_108 : decode b_PG_ship 108 = .ok (.getfield 47, 3) := by decide +kernel
theorem d_PG_ship_111 : decode b_PG_ship 111 = .ok (.iload_n 3, 1) := by decide +kernel
theorem d_PG_ship_112 : decode b_PG_ship 112 = .ok (.bipush 37, 2) := by decide +kernel
theorem d_PG_ship_114 : decode b_PG_ship 114 = .ok (.iload 6, 2) := by decide +kernel
theorem d_PG_ship_116 : decode b_PG_ship 116 = .ok (.imul, 1) := by decide +kernel
theorem d_PG_ship_117 : decode b_PG_ship 117 = .ok (.iadd, 1) := by decide +kernel
theorem d_PG_ship_118 : decode b_PG_ship 118 = .ok (.invokevirtual 104, 3) := by decide +kernel
theorem d_PG_ship_121 : decode b_PG_ship 121 = .ok (.iinc 6 1, 3) := by decide +kernel
theorem d_PG_ship_124 : decode b_PG_ship 124 = .ok (.goto (-24), 3) := by decide +kernel
theorem d_PG_ship_127 : decode b_PG_ship 127 = .ok (.aload_n 0, 1) := by decide +kernel
theorem d_PG_ship_128 : decode b_PG_ship 128 = .ok (.getfield 60, 3) := by decide +kernel
theorem d_PG_ship_131 : decode b_PG_ship 131 = .ok (.aload_n 0, 1) := by decide +kernel
theorem d_PG_ship_132 : decode b_PG_ship 132 = .ok (.getfield 19, 3) := by decide +kernel
theorem d_PG_ship_135 : decode b_PG_ship 135 = .ok (.invokevirtual 84, 3) := by decide +kernel
theorem d_PG_ship_138 : decode b_PG_ship 138 = .ok (.aload_n 0, 1) := by decide +kernel
theorem d_PG_ship_139 : decode b_PG_ship 139 = .ok (.getfield 19, 3) := by decide +kernel
theorem d_PG_ship_142 : decode b_PG_ship 142 = .ok (.invokevirtual 149, 3) := by decide +kernel
theorem d_PG_ship_145 : decode b_PG_ship 145 = .ok (.aload_n 0, 1) := by decide +kernel
theorem d_PG_ship_146 : decode b_PG_ship 146 = .ok (.getfield 47, 3) := by decide +kernel
theorem d_PG_ship_149 : decode b_PG_ship 149 = .ok (.invokevirtual 174, 3) := by decide +kernel
theorem d_PG_ship_152 : decode b_PG_ship 152 = .ok (.aload_n 0, 1) := by decide +kernel
theorem d_PG_ship_153 : decode b_PG_ship 153 = .ok (.getfield 53, 3) := by decide +kernel
theorem d_PG_ship_156 : decode b_PG_ship 156 = .ok (.aload_n 0, 1) := by decide +kernel
theorem d_PG_ship_157 : decode b_PG_ship 157 = .ok (.getfield 19, 3) := by decide +kernel
theorem d_PG_ship_160 : decode b_PG_ship 160 = .ok (.invokevirtual 84, 3) := by decide +kernel
theorem d_PG_ship_163 : decode b_PG_ship 163 = .ok (.aload_n 0, 1) := by decide +kernel
theorem d_PG_ship_164 : decode b_PG_ship 164 = .ok (.getfield 47, 3) := by decide +kernel
theorem d_PG_ship_167 : decode b_PG_ship 167 = .ok (.invokevirtual 178, 3) := by decide +kernel
theorem d_PG_ship_170 : decode b_PG_ship 170 = .ok (.aload_n 0, 1) := by decide +kernel
theorem d_PG_ship_171 : decode b_PG_ship 171 = .ok (.getfield 38, 3) := by decide +kernel
theorem d_PG_ship_174 : decode b_PG_ship 174 = .ok (.aload_n 0, 1) := by decide +kernel
theorem d_PG_ship_175 : decode b_PG_ship 175 = .ok (.getfield 47, 3) := by decide +kernel
theorem d_PG_ship_178 : decode b_PG_ship 178 = .ok (.iconst 0, 1) := by decide +kernel
theorem d_PG_ship_179 : decode b_PG_ship 179 = .ok (.aload_n 0, 1) := by decide +kernel
theorem d_PG_ship_180 : decode b_PG_ship 180 = .ok (.getfield 47, 3) := by decide +kernel
theorem d_PG_ship_183 : decode b_PG_ship 183 = .ok (.invokevirtual 95, 3) := by decide +kernel
theorem d_PG_ship_186 : decode b_PG_ship 186 = .ok (.invokevirtual 170, 3) := by decide +kernel
theorem d_PG_ship_189 : decode b_PG_ship 189 = .ok (.iconst 0, 1) := by decide +kernel
theorem d_PG_ship_190 : decode b_PG_ship 190 = .ok (.istore 6, 2) := by decide +kernel
theorem d_PG_ship_192 : decode b_PG_ship 192 = .ok (.iload 6, 2) := by decide +kernel
theorem d_PG_ship_194 : decode b_PG_ship 194 = .ok (.bipush 32, 2) := by decide +kernel
theorem d_PG_ship_196 : decode b_PG_ship 196 = .ok (.if_icmp .ge 25, 3) := by decide +kernel
theorem d_PG_ship_199 : decode b_PG_ship 199 = .ok (.aload_n 0, 1) := by decide +kernel
theorem d_PG_ship_200 : decode b_PG_ship 200 = .ok (.getfield 38, 3) := by decide +kernel
theorem d_PG_ship_203 : decode b_PG_ship 203 = .ok (.aload_n 0, 1) := by decide +kernel
theorem d_PG_ship_204 : decode b_PG_ship 204 = .ok (.getfield 60, 3) := by decide +kernel
theorem d_PG_ship_207 : decode b_PG_ship 207 = .ok (.iload 6, 2) := by decide +kernel
theorem d_PG_ship_209 : decode b_PG_ship 209 = .ok (.invokevirtual 182, 3) := by decide +kernel
theorem d_PG_ship_212 : decode b_PG_ship 212 = .ok (.invokevirtual 104, 3) := by decide +kernel
theorem d_PG_ship_215 : decode b_PG_ship 215 = .ok (.iinc 6 1, 3) := by decide +kernel
theorem d_PG_ship_218 : decode b_PG_ship 218 = .ok (.goto (-26), 3) := by decide +kernel
theorem d_PG_ship_221 : decode b_PG_ship 221 = .ok (.aload_n 0, 1) := by decide +kernel
theorem d_PG_ship_222 : decode b_PG_ship 222 = .ok (.getfield 19, 3) := by decide +kernel
theorem d_PG_ship_225 : decode b_PG_ship 225 = .ok (.invokevirtual 185, 3) := by decide +kernel
theorem d_PG_ship_228 : decode b_PG_ship 228 = .ok (.aload_n 0, 1) := by decide +kernel
theorem d_PG_ship_229 : decode b_PG_ship 229 = .ok (.getfield 34, 3) := by decide +kernel
theorem d_PG_ship_232 : decode b_PG_ship 232 = .ok (.invokevirtual 156, 3) := by decide +kernel
theorem d_PG_ship_235 : decode b_PG_ship 235 = .ok (.iload 5, 2) := by decide +kernel
theorem d_PG_ship_237 : decode b_PG_ship 237 = .ok (.ireturn, 1) := by decide +kernel
theorem d_PG_learnLength_0 : decode b_PG_learnLength 0 = .ok (.aload_n 0, 1) := by decide +kernel
theorem d_PG_learnLength_1 : decode b_PG_learnLength 1 = .ok (.getfield 53, 3) := by decide +kernel
theorem d_PG_learnLength_4 : decode b_PG_learnLength 4 = .ok (.aload_n 0, 1) := by decide +kernel
theorem d_PG_learnLength_5 : decode b_PG_learnLength 5 = .ok (.getfield 23, 3) := by decide +kernel
theorem d_PG_learnLength_8 : decode b_PG_learnLength 8 = .ok (.invokevirtual 84, 3) := by decide +kernel
theorem d_PG_learnLength_11 : decode b_PG_learnLength 11 = .ok (.invokevirtual 188, 3) := by decide +kernel
theorem d_PG_learnLength_14 : decode b_PG_learnLength 14 = .ok (.iconst 0, 1) := by decide +kernel
theorem d_PG_learnLength_15 : decode b_PG_learnLength 15 = .ok (.istore_n 1, 1) := by decide +kernel
theorem d_PG_learnLength_16 : decode b_PG_learnLength 16 = .ok (.iconst 0, 1) := by decide +kernel
theorem d_PG_learnLength_17 : decode b_PG_learnLength 17 = .ok (.istore_n 2, 1) := by decide +kernel
theorem d_PG_learnLength_18 : decode b_PG_learnLength 18 = .ok (.iload_n 2, 1) := by decide +kernel
theorem d_PG_learnLength_19 : decode b_PG_learnLength 19 = .ok (.iconst 4, 1) := by decide +kernel
theorem d_PG_learnLength_20 : decode b_PG_learnLength 20 = .ok (.if_icmp .ge 32, 3) := by decide +kernel
theorem d_PG_learnLength_23 : decode b_PG_learnLength 23 = .ok (.iload_n 1, 1) := by decide +kernel
theorem d_PG_learnLength_24 : decode b_PG_learnLength 24 = .ok (.bipush 8, 2) := by decide +kernel
theorem d_PG_learnLength_26 : decode b_PG_learnLength 26 = .ok (.ishl, 1) := by decide +kernel
theorem d_PG_learnLength_27 : decode b_PG_learnLength 27 = .ok (.aload_n 0, 1) := by decide +kernel
theorem d_PG_learnLength_28 : decode b_PG_learnLength 28 = .ok (.getfield 41, 3) := by decide +kernel
theorem d_PG_learnLength_31 : decode b_PG_learnLength 31 = .ok (.iload_n 2, 1) := by decide +kernel
theorem d_PG_learnLength_32 : decode b_PG_learnLength 32 = .ok (.invokevirtual 115, 3) := by decide +kernel
theorem d_PG_learnLength_35 : decode b_PG_learnLength 35 = .ok (.aload_n 0, 1) := by decide +kernel
theorem d_PG_learnLength_36 : decode b_PG_learnLength 36 = .ok (.getfield 53, 3) := by decide +kernel
theorem d_PG_learnLength_39 : decode b_PG_learnLength 39 = .ok (.iload_n 2, 1) := by decide +kernel
theorem d_PG_learnLength_40 : decode b_PG_learnLength 40 = .ok (.invokevirtual 191, 3) := by decide +kernel
theorem d_PG_learnLength_43 : decode b_PG_learnLength 43 = .ok (.ixor, 1) := by decide +kernel
theorem d_PG_learnLength_44 : decode b_PG_learnLength 44 = .ok (.ior, 1) := by decide +kernel
theorem d_PG_learnLength_45 : decode b_PG_learnLength 45 = .ok (.istore_n 1, 1) := by decide +kernel
theorem d_PG_learnLength_46 : decode b_PG_learnLength 46 = .ok (.iinc 2 1, 3) := by decide +kernel
theorem d_PG_learnLength_49 : decode b_PG_learnLength 49 = .ok (.goto (-31), 3) := by decide +kernel
theorem d_PG_learnLength_52 : decode b_PG_learnLength 52 = .ok (.iload_n 1, 1) := by decide +kernel
theorem d_PG_learnLength_53 : decode b_PG_learnLength 53 = .ok (.bipush 12, 2) := by decide +kernel
theorem d_PG_learnLength_55 : decode b_PG_learnLength 55 = .ok (.if_icmp .lt 19, 3) := by decide +kernel
theorem d_PG_learnLength_58 : decode b_PG_learnLength 58 = .ok (.iload_n 1, 1) := by decide +kernel
theorem d_PG_learnLength_59 : decode b_PG_learnLength 59 = .ok (.sipush 540, 3) := by decide +kernel
theorem d_PG_learnLength_62 : decode b_PG_learnLength 62 = .ok (.if_icmp .gt 12, 3) := by decide +kernel
theorem d_PG_learnLength_65 : decode b_PG_learnLength 65 = .ok (.iload_n 1, 1) := by decide +kernel
theorem d_PG_learnLength_66 : decode b_PG_learnLength 66 = .ok (.bipush 16, 2) := by decide +kernel
theorem d_PG_learnLength_68 : decode b_PG_learnLength 68 = .ok (.irem, 1) := by decide +kernel
theorem d_PG_learnLength_69 : decode b_PG_learnLength 69 = .ok (.bipush 12, 2) := by decide +kernel
theorem d_PG_learnLength_71 : decode b_PG_learnLength 71 = .ok (.if_icmp .eq 11, 3) := by decide +kernel
theorem d_PG_learnLength_74 : decode b_PG_learnLength 74 = .ok (.aload_n 0, 1) := by decide +kernel
theorem d_PG_learnLength_75 : decode b_PG_learnLength 75 = .ok (.iconst 2, 1) := by decide +kernel
theorem d_PG_learnLength_76 : decode b_PG_learnLength 76 = .ok (.putfield 134, 3) := by decide +kernel
theorem d_PG_learnLength_79 : decode b_PG_learnLength 79 = .ok (.goto 8, 3) := by decide +kernel
theorem d_PG_learnLength_82 : decode b_PG_learnLength 82 = .ok (.aload_n 0, 1) := by decide +kernel
theorem d_PG_learnLength_83 : decode b_PG_learnLength 83 = .ok (.iload_n 1, 1) := by decide +kernel
theorem d_PG_learnLength_84 : decode b_PG_learnLength 84 = .ok (.putfield 72, 3) := by decide +kernel
theorem d_PG_learnLength_87 : decode b_PG_learnLength 87 = .ok (.return_, 1) := by decide +kernel
theorem d_PG_decipherPacket_0 : decode b_PG_decipherPacket 0 = .ok (.aload_n 0, 1) := by decide +kernel
theorem d_PG_decipherPacket_1 : decode b_PG_decipherPacket 1 = .ok (.getfield 47, 3) := by decide +kernel
theorem d_PG_decipherPacket_4 : decode b_PG_decipherPacket 4 = .ok (.invokevirtual 156, 3) := by decide +kernel
theorem d_PG_decipherPacket_7 : decode b_PG_decipherPacket 7 = .ok (.aload_n 0, 1) := by decide +kernel
theorem d_PG_decipherPacket_8 : decode b_PG_decipherPacket 8 = .ok (.getfield 47, 3) := by decide +kernel
theorem d_PG_decipherPacket_11 : decode b_PG_decipherPacket 11 = .ok (.aload_n 0, 1) := by decide +kernel
theorem d_PG_decipherPacket_12 : decode b_PG_decipherPacket 12 = .ok (.getfield 41, 3) := by decide +kernel
theorem d_PG_decipherPacket_15 : decode b_PG_decipherPacket 15 = .ok (.iconst 0, 1) := by decide +kernel
theorem d_PG_decipherPacket_16 : decode b_PG_decipherPacket 16 = .ok (.iload_n 1, 1) := by decide +kernel
theorem d_PG_decipherPacket_17 : decode b_PG_decipherPacket 17 = .ok (.invokevirtual 170, 3) := by decide +kernel
theorem d_PG_decipherPacket_20 : decode b_PG_decipherPacket 20 = .ok (.aload_n 0, 1) := by decide +kernel
theorem d_PG_decipherPacket_21 : decode b_PG_decipherPacket 21 = .ok (.getfield 53, 3) := by decide +kernel
theorem d_PG_decipherPacket_24 : decode b_PG_decipherPacket 24 = .ok (.aload_n 0, 1) := by decide +kernel
theorem d_PG_decipherPacket_25 : decode b_PG_decipherPacket 25 = .ok (.getfield 23, 3) := by decide +kernel
theorem d_PG_decipherPacket_28 : decode b_PG_decipherPacket 28 = .ok (.invokevirtual 84, 3) := by decide +kernel
theorem d_PG_decipherPacket_31 : decode b_PG_decipherPacket 31 = .ok (.aload_n 0, 1) := by decide +kernel
theorem d_PG_decipherPacket_32 : decode b_PG_decipherPacket 32 = .ok (.getfield 47, 3) := by decide +kernel
theorem d_PG_decipherPacket_35 : decode b_PG_decipherPacket 35 = .ok (.invokevirtual 178, 3) := by decide +kernel
theorem d_PG_decipherPacket_38 : decode b_PG_decipherPacket 38 = .ok (.return_, 1) := by decide +kernel
theorem d_PG_faultOfPacket_0 : decode b_PG_faultOfPacket 0 = .ok (.aload_n 0, 1) := by decide +kernel
theorem d_PG_faultOfPacket_1 : decode b_PG_faultOfPacket 1 = .ok (.getfield 60, 3) := by decide +kernel
theorem d_PG_faultOfPacket_4 : decode b_PG_faultOfPacket 4 = .ok (.aload_n 0, 1) := by decide +kernel
theorem d_PG_faultOfPacket_5 : decode b_PG_faultOfPacket 5 = .ok (.getfield 23, 3) := by decide +kernel
theorem d_PG_faultOfPacket_8 : decode b_PG_faultOfPacket 8 = .ok (.invokevirtual 84, 3) := by decide +kernel
theorem d_PG_faultOfPacket_11 : decode b_PG_faultOfPacket 11 = .ok (.aload_n 0, 1) := by decide +kernel
theorem d_PG_faultOfPacket_12 : decode b_PG_faultOfPacket 12 = .ok (.getfield 23, 3) := by decide +kernel
theorem d_PG_faultOfPacket_15 : decode b_PG_faultOfPacket 15 = .ok (.invokevirtual 149, 3) := by decide +kernel
theorem d_PG_faultOfPacket_18 : decode b_PG_faultOfPacket 18 = .ok (.aload_n 0, 1) := by decide +kernel
theorem d_PG_faultOfPacket_19 : decode b_PG_faultOfPacket 19 = .ok (.getfield 47, 3) := by decide +kernel
theorem d_PG_faultOfPacket_22 : decode b_PG_faultOfPacket 22 = .ok (.invokevirtual 174, 3) := by decide +kernel
theorem d_PG_faultOfPacket_25 : decode b_PG_faultOfPacket 25 = .ok (.iconst 0, 1) := by decide +kernel
theorem d_PG_faultOfPacket_26 : decode b_PG_faultOfPacket 26 = .ok (.istore_n 2, 1) := by decide +kernel
theorem d_PG_faultOfPacket_27 : decode b_PG_faultOfPacket 27 = .ok (.iload_n 2, 1) := by decide +kernel
theorem d_PG_faultOfPacket_28 : decode b_PG_faultOfPacket 28 = .ok (.bipush 32, 2) := by decide +kernel
theorem d_PG_faultOfPacket_30 : decode b_PG_faultOfPacket 30 = .ok (.if_icmp .ge 32, 3) := by decide +kernel
theorem d_PG_faultOfPacket_33 : decode b_PG_faultOfPacket 33 = .ok (.aload_n 0, 1) := by decide +kernel
theorem d_PG_faultOfPacket_34 : decode b_PG_faultOfPacket 34 = .ok (.getfield 60, 3) := by decide +kernel
theorem d_PG_faultOfPacket_37 : decode b_PG_faultOfPacket 37 = .ok (.iload_n 2, 1) := by decide +kernel
theorem d_PG_faultOfPacket_38 : decode b_PG_faultOfPacket 38 = .ok (.invokevirtual 182, 3) := by decide +kernel
theorem d_PG_faultOfPacket_41 : decode b_PG_faultOfPacket 41 = .ok (.aload_n 0, 1) := by decide +kernel
theorem d_PG_faultOfPacket_42 : decode b_PG_faultOfPacket 42 = .ok (.getfield 41, 3) := by decide +kernel
theorem d_PG_faultOfPacket_45 : decode b_PG_faultOfPacket 45 = .ok (.iload_n 1, 1) := by decide +kernel
theorem d_PG_faultOfPacket_46 : decode b_PG_faultOfPacket 46 = .ok (.iload_n 2, 1) := by decide +kernel
theorem d_PG_faultOfPacket_47 : decode b_PG_faultOfPacket 47 = .ok (.iadd, 1) := by decide +kernel
theorem d_PG_faultOfPacket_48 : decode b_PG_faultOfPacket 48 = .ok (.invokevirtual 115, 3) := by decide +kernel
theorem d_PG_faultOfPacket_51 : decode b_PG_faultOfPacket 51 = .ok (.if_icmp .eq 5, 3) := by decide +kernel
theorem d_PG_faultOfPacket_54 : decode b_PG_faultOfPacket 54 = .ok (.iconst 3, 1) := by decide +kernel
theorem d_PG_faultOfPacket_55 : decode b_PG_faultOfPacket 55 = .ok (.ireturn, 1) := by decide +kernel
theorem d_PG_faultOfPacket_56 : decode b_PG_faultOfPacket 56 = .ok (.iinc 2 1, 3) := by decide +kernel
theorem d_PG_faultOfPacket_59 : decode b_PG_faultOfPacket 59 = .ok (.goto (-32), 3) := by decide +kernel
theorem d_PG_faultOfPacket_62 : decode b_PG_faultOfPacket 62 = .ok (.aload_n 0, 1) := by decide +kernel
theorem d_PG_faultOfPacket_63 : decode b_PG_faultOfPacket 63 = .ok (.getfield 47, 3) := by decide +kernel
theorem d_PG_faultOfPacket_66 : decode b_PG_faultOfPacket 66 = .ok (.iconst 4, 1) := by decide +kernel
theorem d_PG_faultOfPacket_67 : decode b_PG_faultOfPacket 67 = .ok (.invokevirtual 115, 3) := by decide +kernel
theorem d_PG_faultOfPacket_70 : decode b_PG_faultOfPacket 70 = .ok (.istore_n 2, 1) := by decide +kernel
theorem d_PG_faultOfPacket_71 : decode b_PG_faultOfPacket 71 = .ok (.iload_n 2, 1) := by decide +kernel
theorem d_PG_faultOfPacket_72 : decode b_PG_faultOfPacket 72 = .ok (.iconst 4, 1) := by decide +kernel
theorem d_PG_faultOfPacket_73 : decode b_PG_faultOfPacket 73 = .ok (.if_icmp .lt 13, 3) := by decide +kernel
theorem d_PG_faultOfPacket_76 : decode b_PG_faultOfPacket 76 = .ok (.iload_n 2, 1) := by decide +kernel
theorem d_PG_faultOfPacket_77 : decode b_PG_faultOfPacket 77 = .ok (.aload_n 0, 1) := by decide +kernel
theorem d_PG_faultOfPacket_78 : decode b_PG_faultOfPacket 78 = .ok (.getfield 72, 3) := by decide +kernel
theorem d_PG_faultOfPacket_81 : decode b_PG_faultOfPacket 81 = .ok (.iconst 1, 1) := by decide +kernel
theorem d_PG_faultOfPacket_82 : decode b_PG_faultOfPacket 82 = .ok (.isub, 1) := by decide +kernel
theorem d_PG_faultOfPacket_83 : decode b_PG_faultOfPacket 83 = .ok (.if_icmp .le 7, 3) := by decide +kernel
theorem d_PG_faultOfPacket_86 : decode b_PG_faultOfPacket 86 = .ok (.iconst 4, 1) := by decide +kernel
theorem d_PG_faultOfPacket_87 : decode b_PG_faultOfPacket 87 = .ok (.goto 4, 3) := by decide +kernel
theorem d_PG_faultOfPacket_90 : decode b_PG_faultOfPacket 90 = .ok (.iconst 0, 1) := by decide +kernel
theorem d_PG_faultOfPacket_91 : decode b_PG_faultOfPacket 91 = .ok (.ireturn, 1) := by decide +kernel
theorem d_PG_openPacket_0 : decode b_PG_openPacket 0 = .ok (.aload_n 0, 1) := by decide +kernel
theorem d_PG_openPacket_1 : decode b_PG_openPacket 1 = .ok (.getfield 44, 3) := by decide +kernel
theorem d_PG_openPacket_4 : decode b_PG_openPacket 4 = .ok (.invokevirtual 156, 3) := by decide +kernel
theorem d_PG_openPacket_7 : decode b_PG_openPacket 7 = .ok (.aload_n 0, 1) := by decide +kernel
theorem d_PG_openPacket_8 : decode b_PG_openPacket 8 = .ok (.getfield 44, 3) := by decide +kernel
theorem d_PG_openPacket_11 : decode b_PG_openPacket 11 = .ok (.aload_n 0, 1) := by decide +kernel
theorem d_PG_openPacket_12 : decode b_PG_openPacket 12 = .ok (.getfield 47, 3) := by decide +kernel
theorem d_PG_openPacket_15 : decode b_PG_openPacket 15 = .ok (.iconst 5, 1) := by decide +kernel
theorem d_PG_openPacket_16 : decode b_PG_openPacket 16 = .ok (.iload_n 1, 1) := by decide +kernel
theorem d_PG_openPacket_17 : decode b_PG_openPacket 17 = .ok (.aload_n 0, 1) := by decide +kernel
theorem d_PG_openPacket_18 : decode b_PG_openPacket 18 = .ok (.getfield 47, 3) := by decide +kernel
theorem d_PG_openPacket_21 : decode b_PG_openPacket 21 = .ok (.iconst 4, 1) := by decide +kernel
theorem d_PG_openPacket_22 : decode b_PG_openPacket 22 = .ok (.invokevirtual 115, 3) := by decide +kernel
theorem d_PG_openPacket_25 : decode b_PG_openPacket 25 = .ok (.isub, 1) := by decide +kernel
theorem d_PG_openPacket_26 : decode b_PG_openPacket 26 = .ok (.invokevirtual 170, 3) := by decide +kernel
theorem d_PG_openPacket_29 : decode b_PG_openPacket 29 = .ok (.aload_n 0, 1) := by decide +kernel
theorem d_PG_openPacket_30 : decode b_PG_openPacket 30 = .ok (.getfield 41, 3) := by decide +kernel
theorem d_PG_openPacket_33 : decode b_PG_openPacket 33 = .ok (.iload_n 1, 1) := by decide +kernel
theorem d_PG_openPacket_34 : decode b_PG_openPacket 34 = .ok (.bipush 32, 2) := by decide +kernel
theorem d_PG_openPacket_36 : decode b_PG_openPacket 36 = .ok (.iadd, 1) := by decide +kernel
theorem d_PG_openPacket_37 : decode b_PG_openPacket 37 = .ok (.invokevirtual 131, 3) := by decide +kernel
theorem d_PG_openPacket_40 : decode b_PG_openPacket 40 = .ok (.aload_n 0, 1) := by decide +kernel
theorem d_PG_openPacket_41 : decode b_PG_openPacket 41 = .ok (.getfield 23, 3) := by decide +kernel
theorem d_PG_openPacket_44 : decode b_PG_openPacket 44 = .ok (.invokevirtual 185, 3) := by decide +kernel
theorem d_PG_openPacket_47 : decode b_PG_openPacket 47 = .ok (.aload_n 0, 1) := by decide +kernel
theorem d_PG_openPacket_48 : decode b_PG_openPacket 48 = .ok (.iconst 0, 1) := by decide +kernel
theorem d_PG_openPacket_49 : decode b_PG_openPacket 49 = .ok (.putfield 72, 3) := by decide +kernel
theorem d_PG_openPacket_52 : decode b_PG_openPacket 52 = .ok (.aload_n 0, 1) := by decide +kernel
theorem d_PG_openPacket_53 : decode b_PG_openPacket 53 = .ok (.getfield 80, 3) := by decide +kernel
theorem d_PG_openPacket_56 : decode b_PG_openPacket 56 = .ok (.ifCond .eq 22, 3) := by decide +kernel
theorem d_PG_openPacket_59 : decode b_PG_openPacket 59 = .ok (.aload_n 0, 1) := by decide +kernel
theorem d_PG_openPacket_60 : decode b_PG_openPacket 60 = .ok (.getfield 23, 3) := by decide +kernel
theorem d_PG_openPacket_63 : decode b_PG_openPacket 63 = .ok (.invokevirtual 84, 3) := by decide +kernel
theorem d_PG_openPacket_66 : decode b_PG_openPacket 66 = .ok (.aload_n 0, 1) := by decide +kernel
theorem d_PG_openPacket_67 : decode b_PG_openPacket 67 = .ok (.getfield 26, 3) := by decide +kernel
theorem d_PG_openPacket_70 : decode b_PG_openPacket 70 = .ok (.invokevirtual 76, 3) := by decide +kernel
theorem d_PG_openPacket_73 : decode b_PG_openPacket 73 = .ok (.aload_n 0, 1) := by decide +kernel
theorem d_PG_openPacket_74 : decode b_PG_openPacket 74 = .ok (.iconst 0, 1) := by decide +kernel
theorem d_PG_openPacket_75 : decode b_PG_openPacket 75 = .ok (.putfield 80, 3) := by decide +kernel
theorem d_PG_openPacket_78 : decode b_PG_openPacket 78 = .ok (.return_, 1) := by decide +kernel
theorem d_MD_init_0 : decode b_MD_init 0 = .ok (.aload_n 0, 1) := by decide +kernel
theorem d_MD_init_1 : decode b_MD_init 1 = .ok (.invokespecial 1, 3) := by decide +kernel
theorem d_MD_init_4 : decode b_MD_init 4 = .ok (.aload_n 0, 1) := by decide +kernel
theorem d_MD_init_5 : decode b_MD_init 5 = .ok (.bipush 16, 2) := by decide +kernel
theorem d_MD_init_7 : decode b_MD_init 7 = .ok (.newarray .int, 2) := by decide +kernel
theorem d_MD_init_9 : decode b_MD_init 9 = .ok (.putfield 7, 3) := by decide +kernel
theorem d_MD_init_12 : decode b_MD_init 12 = .ok (.aload_n 0, 1) := by decide +kernel
theorem d_MD_init_13 : decode b_MD_init 13 = .ok (.bipush 48, 2) := by decide +kernel
theorem d_MD_init_15 : decode b_MD_init 15 = .ok (.newarray .int, 2) := by decide +kernel
theorem d_MD_init_17 : decode b_MD_init 17 = .ok (.putfield 13, 3) := by decide +kernel
theorem d_MD_init_20 : decode b_MD_init 20 = .ok (.aload_n 0, 1) := by decide +kernel
theorem d_MD_init_21 : decode b_MD_init 21 = .ok (.iconst 2, 1) := by decide +kernel
theorem d_MD_init_22 : decode b_MD_init 22 = .ok (.newarray .int, 2) := by decide +kernel
theorem d_MD_init_24 : decode b_MD_init 24 = .ok (.putfield 16, 3) := by decide +kernel
theorem d_MD_init_27 : decode b_MD_init 27 = .ok (.aload_n 0, 1) := by decide +kernel
theorem d_MD_init_28 : decode b_MD_init 28 = .ok (.sipush 500, 3) := by decide +kernel
theorem d_MD_init_31 : decode b_MD_init 31 = .ok (.newarray .byte, 2) := by decide +kernel
theorem d_MD_init_33 : decode b_MD_init 33 = .ok (.putfield 19, 3) := by decide +kernel
theorem d_MD_init_36 : decode b_MD_init 36 = .ok (.aload_n 0, 1) := by decide +kernel
theorem d_MD_init_37 : decode b_MD_init 37 = .ok (.sipush 6000, 3) := by decide +kernel
theorem d_MD_init_40 : decode b_MD_init 40 = .ok (.newarray .byte, 2) := by decide +kernel
theorem d_MD_init_42 : decode b_MD_init 42 = .ok (.putfield 23, 3) := by decide +kernel
theorem d_MD_init_45 : decode b_MD_init 45 = .ok (.aload_n 0, 1) := by decide +kernel
theorem d_MD_init_46 : decode b_MD_init 46 = .ok (.sipush 2000, 3) := by decide +kernel
theorem d_MD_init_49 : decode b_MD_init 49 = .ok (.newarray .byte, 2) := by decide +kernel
theorem d_MD_init_51 : decode b_MD_init 51 = .ok (.putfield 26, 3) := by decide +kernel
theorem d_MD_init_54 : decode b_MD_init 54 = .ok (.aload_n 0, 1) := by decide +kernel
theorem d_MD_init_55 : decode b_MD_init 55 = .ok (.sipush 600, 3) := by decide +kernel
theorem d_MD_init_58 : decode b_MD_init 58 = .ok (.newarray .byte, 2) := by decide +kernel
theorem d_MD_init_60 : decode b_MD_init 60 = .ok (.putfield 29, 3) := by decide +kernel
theorem d_MD_init_63 : decode b_MD_init 63 = .ok (.aload_n 0, 1) := by decide +kernel
theorem d_MD_init_64 : decode b_MD_init 64 = .ok (.sipush 256, 3) := by decide +kernel
theorem d_MD_init_67 : decode b_MD_init 67 = .ok (.newarray .int, 2) := by decide +kernel
theorem d_MD_init_69 : decode b_MD_init 69 = .ok (.putfield 32, 3) := by decide +kernel
theorem d_MD_init_72 : decode b_MD_init 72 = .ok (.aload_n 0, 1) := by decide +kernel
theorem d_MD_init_73 : decode b_MD_init 73 = .ok (.bipush 44, 2) := by decide +kernel
theorem d_MD_init_75 : decode b_MD_init 75 = .ok (.newarray .int, 2) := by decide +kernel
theorem d_MD_init_77 : decode b_MD_init 77 = .ok (.putfield 35, 3) := by decide +kernel
theorem d_MD_init_80 : decode b_MD_init 80 = .ok (.aload_n 0, 1) := by decide +kernel
theorem d_MD_init_81 : decode b_MD_init 81 = .ok (.bipush 16, 2) := by decide +kernel
theorem d_MD_init_83 : decode b_MD_init 83 = .ok (.newarray .int, 2) := by decide +kernel
theorem d_MD_init_85 : decode b_MD_init 85 = .ok (.putfield 38, 3) := by decide +kernel
theorem d_MD_init_88 : decode b_MD_init 88 = .ok (.aload_n 0, 1) := by decide +kernel
theorem d_MD_init_89 : decode b_MD_init 89 = .ok (.bipush 16, 2) := by decide +kernel
theorem d_MD_init_91 : decode b_MD_init 91 = .ok (.newarray .int, 2) := by decide +kernel
theorem d_MD_init_93 : decode b_MD_init 93 = .ok (.putfield 41, 3) := by decide +kernel
theorem d_MD_init_96 : decode b_MD_init 96 = .ok (.aload_n 0, 1) := by decide +kernel
theorem d_MD_init_97 : decode b_MD_init 97 = .ok (.sipush 600, 3) := by decide +kernel
theorem d_MD_init_100 : decode b_MD_init 100 = .ok (.newarray .byte, 2) := by decide +kernel
theorem d_MD_init_102 : decode b_MD_init 102 = .ok (.putfield 44, 3) := by decide +kernel
theorem d_MD_init_105 : decode b_MD_init 105 = .ok (.aload_n 0, 1) := by decide +kernel
theorem d_MD_init_106 : decode b_MD_init 106 = .ok (.sipush 800, 3) := by decide +kernel
theorem d_MD_init_109 : decode b_MD_init 109 = .ok (.newarray .byte, 2) := by decide +kernel
theorem d_MD_init_111 : decode b_MD_init 111 = .ok (.putfield 47, 3) := by decide +kernel
theorem d_MD_init_114 : decode b_MD_init 114 = .ok (.aload_n 0, 1) := by decide +kernel
theorem d_MD_init_115 : decode b_MD_init 115 = .ok (.bipush 32, 2) := by decide +kernel
theorem d_MD_init_117 : decode b_MD_init 117 = .ok (.newarray .byte, 2) := by decide +kernel
theorem d_MD_init_119 : decode b_MD_init 119 = .ok (.putfield 50, 3) := by decide +kernel
theorem d_MD_init_122 : decode b_MD_init 122 = .ok (.aload_n 0, 1) := by decide +kernel
theorem d_MD_init_123 : decode b_MD_init 123 = .ok (.bipush 64, 2) := by decide +kernel
theorem d_MD_init_125 : decode b_MD_init 125 = .ok (.newarray .int, 2) := by decide +kernel
theorem d_MD_init_127 : decode b_MD_init 127 = .ok (.putfield 53, 3) := by decide +kernel
theorem d_MD_init_130 : decode b_MD_init 130 = .ok (.aload_n 0, 1) := by decide +kernel
theorem d_MD_init_131 : decode b_MD_init 131 = .ok (.bipush 8, 2) := by decide +kernel
theorem d_MD_init_133 : decode b_MD_init 133 = .ok (.newarray .int, 2) := by decide +kernel
theorem d_MD_init_135 : decode b_MD_init 135 = .ok (.putfield 56, 3) := by decide +kernel
theorem d_MD_init_138 : decode b_MD_init 138 = .ok (.aload_n 0, 1) := by decide +kernel
theorem d_MD_init_139 : decode b_MD_init 139 = .ok (.bipush 8, 2) := by decide +kernel
theorem d_MD_init_141 : decode b_MD_init 141 = .ok (.newarray .int, 2) := by decide +kernel
theorem d_MD_init_143 : decode b_MD_init 143 = .ok (.putfield 59, 3) := by decide +kernel
theorem d_MD_init_146 : decode b_MD_init 146 = .ok (.aload_n 0, 1) := by decide +kernel
theorem d_MD_init_147 : decode b_MD_init 147 = .ok (.bipush 64, 2) := by decide +kernel
theorem d_MD_init_149 : decode b_MD_init 149 = .ok (.newarray .int, 2) := by decide +kernel
theorem d_MD_init_151 : decode b_MD_init 151 = .ok (.dup, 1) := by decide +kernel
theorem d_MD_init_152 : decode b_MD_init 152 = .ok (.iconst 0, 1) := by decide +kernel
theorem d_MD_init_153 : decode b_MD_init 153 = .ok (.ldc 62, 2) := by decide +kernel
theorem d_MD_init_155 : decode b_MD_init 155 = .ok (.iastore, 1) := by decide +kernel
theorem d_MD_init_156 : decode b_MD_init 156 = .ok (.dup, 1) := by decide +kernel
theorem d_MD_init_157 : decode b_MD_init 157 = .ok (.iconst 1, 1) := by decide +kernel
theorem d_MD_init_158 : decode b_MD_init 158 = .ok (.ldc 63, 2) := by decide +kernel
theorem d_MD_init_160 : decode b_MD_init 160 = .ok (.iastore, 1) := by decide +kernel
