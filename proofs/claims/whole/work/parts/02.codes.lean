theorem dX0_init_0 : decode cX0_init 0 = .ok (.aload_n 0, 1) := by decide +kernel
theorem dX0_init_1 : decode cX0_init 1 = .ok (.invokespecial 3, 3) := by decide +kernel
theorem dX0_init_4 : decode cX0_init 4 = .ok (.aload_n 0, 1) := by decide +kernel
theorem dX0_init_5 : decode cX0_init 5 = .ok (.bipush 13, 2) := by decide +kernel
theorem dX0_init_7 : decode cX0_init 7 = .ok (.newarray .int, 2) := by decide +kernel
theorem dX0_init_9 : decode cX0_init 9 = .ok (.putfield 9, 3) := by decide +kernel
theorem dX0_init_12 : decode cX0_init 12 = .ok (.aload_n 0, 1) := by decide +kernel
theorem dX0_init_13 : decode cX0_init 13 = .ok (.bipush 13, 2) := by decide +kernel
theorem dX0_init_15 : decode cX0_init 15 = .ok (.newarray .int, 2) := by decide +kernel
theorem dX0_init_17 : decode cX0_init 17 = .ok (.putfield 15, 3) := by decide +kernel
theorem dX0_init_20 : decode cX0_init 20 = .ok (.aload_n 0, 1) := by decide +kernel
theorem dX0_init_21 : decode cX0_init 21 = .ok (.bipush 13, 2) := by decide +kernel
theorem dX0_init_23 : decode cX0_init 23 = .ok (.newarray .int, 2) := by decide +kernel
theorem dX0_init_25 : decode cX0_init 25 = .ok (.putfield 18, 3) := by decide +kernel
theorem dX0_init_28 : decode cX0_init 28 = .ok (.aload_n 0, 1) := by decide +kernel
theorem dX0_init_29 : decode cX0_init 29 = .ok (.ldc2_w 21, 3) := by decide +kernel
theorem dX0_init_32 : decode cX0_init 32 = .ok (.putfield 23, 3) := by decide +kernel
theorem dX0_init_35 : decode cX0_init 35 = .ok (.return_, 1) := by decide +kernel
theorem dX0_make_0 : decode cX0_make 0 = .ok (.aload_n 0, 1) := by decide +kernel
theorem dX0_make_1 : decode cX0_make 1 = .ok (.iconst 0, 1) := by decide +kernel
theorem dX0_make_2 : decode cX0_make 2 = .ok (.putfield 27, 3) := by decide +kernel
theorem dX0_make_5 : decode cX0_make 5 = .ok (.aload_n 0, 1) := by decide +kernel
theorem dX0_make_6 : decode cX0_make 6 = .ok (.ldc2_w 21, 3) := by decide +kernel
theorem dX0_make_9 : decode cX0_make 9 = .ok (.putfield 23, 3) := by decide +kernel
theorem dX0_make_12 : decode cX0_make 12 = .ok (.aload_n 1, 1) := by decide +kernel
theorem dX0_make_13 : decode cX0_make 13 = .ok (.ifnull 18, 3) := by decide +kernel
theorem dX0_make_16 : decode cX0_make 16 = .ok (.aload_n 2, 1) := by decide +kernel
theorem dX0_make_17 : decode cX0_make 17 = .ok (.ifnull 14, 3) := by decide +kernel
theorem dX0_make_20 : decode cX0_make 20 = .ok (.aload_n 2, 1) := by decide +kernel
theorem dX0_make_21 : decode cX0_make 21 = .ok (.aload_n 1, 1) := by decide +kernel
theorem dX0_make_22 : decode cX0_make 22 = .ok (.iload_n 3, 1) := by decide +kernel
theorem dX0_make_23 : decode cX0_make 23 = .ok (.lload 4, 2) := by decide +kernel
theorem dX0_make_25 : decode cX0_make 25 = .ok (.invokevirtual 31, 3) := by decide +kernel
theorem dX0_make_28 : decode cX0_make 28 = .ok (.ifCond .ne 4, 3) := by decide +kernel
theorem dX0_make_31 : decode cX0_make 31 = .ok (.return_, 1) := by decide +kernel
theorem dX0_make_32 : decode cX0_make 32 = .ok (.aload_n 2, 1) := by decide +kernel
theorem dX0_make_33 : decode cX0_make 33 = .ok (.aload_n 2, 1) := by decide +kernel
theorem dX0_make_34 : decode cX0_make 34 = .ok (.aload_n 1, 1) := by decide +kernel
theorem dX0_make_35 : decode cX0_make 35 = .ok (.invokevirtual 37, 3) := by decide +kernel
theorem dX0_make_38 : decode cX0_make 38 = .ok (.invokevirtual 41, 3) := by decide +kernel
theorem dX0_make_41 : decode cX0_make 41 = .ok (.istore 6, 2) := by decide +kernel
theorem dX0_make_43 : decode cX0_make 43 = .ok (.iload 6, 2) := by decide +kernel
theorem dX0_make_45 : decode cX0_make 45 = .ok (.iconst (-1), 1) := by decide +kernel
theorem dX0_make_46 : decode cX0_make 46 = .ok (.if_icmp .ne 4, 3) := by decide +kernel
theorem dX0_make_49 : decode cX0_make 49 = .ok (.return_, 1) := by decide +kernel
theorem dX0_make_50 : decode cX0_make 50 = .ok (.aload_n 0, 1) := by decide +kernel
theorem dX0_make_51 : decode cX0_make 51 = .ok (.lconst 0, 1) := by decide +kernel
theorem dX0_make_52 : decode cX0_make 52 = .ok (.putfield 23, 3) := by decide +kernel
theorem dX0_make_55 : decode cX0_make 55 = .ok (.aload_n 0, 1) := by decide +kernel
theorem dX0_make_56 : decode cX0_make 56 = .ok (.aload_n 1, 1) := by decide +kernel
theorem dX0_make_57 : decode cX0_make 57 = .ok (.aload_n 2, 1) := by decide +kernel
theorem dX0_make_58 : decode cX0_make 58 = .ok (.iload 6, 2) := by decide +kernel
theorem dX0_make_60 : decode cX0_make 60 = .ok (.iload_n 3, 1) := by decide +kernel
theorem dX0_make_61 : decode cX0_make 61 = .ok (.invokevirtual 45, 3) := by decide +kernel
theorem dX0_make_64 : decode cX0_make 64 = .ok (.return_, 1) := by decide +kernel
theorem dX0_addParts_0 : decode cX0_addParts 0 = .ok (.aload_n 2, 1) := by decide +kernel
theorem dX0_addParts_1 : decode cX0_addParts 1 = .ok (.getfield 49, 3) := by decide +kernel
theorem dX0_addParts_4 : decode cX0_addParts 4 = .ok (.iload_n 3, 1) := by decide +kernel
theorem dX0_addParts_5 : decode cX0_addParts 5 = .ok (.invokestatic 52, 3) := by decide +kernel
theorem dX0_addParts_8 : decode cX0_addParts 8 = .ok (.i2l, 1) := by decide +kernel
theorem dX0_addParts_9 : decode cX0_addParts 9 = .ok (.lstore 5, 2) := by decide +kernel
theorem dX0_addParts_11 : decode cX0_addParts 11 = .ok (.aload_n 0, 1) := by decide +kernel
theorem dX0_addParts_12 : decode cX0_addParts 12 = .ok (.iconst 0, 1) := by decide +kernel
theorem dX0_addParts_13 : decode cX0_addParts 13 = .ok (.lload 5, 2) := by decide +kernel
theorem dX0_addParts_15 : decode cX0_addParts 15 = .ok (.iload_n 3, 1) := by decide +kernel
theorem dX0_addParts_16 : decode cX0_addParts 16 = .ok (.invokevirtual 56, 3) := by decide +kernel
theorem dX0_addParts_19 : decode cX0_addParts 19 = .ok (.aload_n 0, 1) := by decide +kernel
theorem dX0_addParts_20 : decode cX0_addParts 20 = .ok (.iconst 1, 1) := by decide +kernel
theorem dX0_addParts_21 : decode cX0_addParts 21 = .ok (.lload 5, 2) := by decide +kernel
theorem dX0_addParts_23 : decode cX0_addParts 23 = .ok (.aload_n 2, 1) := by decide +kernel
theorem dX0_addParts_24 : decode cX0_addParts 24 = .ok (.getfield 60, 3) := by decide +kernel
theorem dX0_addParts_27 : decode cX0_addParts 27 = .ok (.iload 4, 2) := by decide +kernel
theorem dX0_addParts_29 : decode cX0_addParts 29 = .ok (.invokestatic 52, 3) := by decide +kernel
theorem dX0_addParts_32 : decode cX0_addParts 32 = .ok (.i2l, 1) := by decide +kernel
theorem dX0_addParts_33 : decode cX0_addParts 33 = .ok (.lmul, 1) := by decide +kernel
theorem dX0_addParts_34 : decode cX0_addParts 34 = .ok (.ldc2_w 63, 3) := by decide +kernel
theorem dX0_addParts_37 : decode cX0_addParts 37 = .ok (.ldiv, 1) := by decide +kernel
theorem dX0_addParts_38 : decode cX0_addParts 38 = .ok (.iload 4, 2) := by decide +kernel
theorem dX0_addParts_40 : decode cX0_addParts 40 = .ok (.invokevirtual 56, 3) := by decide +kernel
theorem dX0_addParts_43 : decode cX0_addParts 43 = .ok (.iconst 0, 1) := by decide +kernel
theorem dX0_addParts_44 : decode cX0_addParts 44 = .ok (.istore 7, 2) := by decide +kernel
theorem dX0_addParts_46 : decode cX0_addParts 46 = .ok (.iload 7, 2) := by decide +kernel
theorem dX0_addParts_48 : decode cX0_addParts 48 = .ok (.bipush 10, 2) := by decide +kernel
theorem dX0_addParts_50 : decode cX0_addParts 50 = .ok (.if_icmp .ge 35, 3) := by decide +kernel
theorem dX0_addParts_53 : decode cX0_addParts 53 = .ok (.aload_n 1, 1) := by decide +kernel
theorem dX0_addParts_54 : decode cX0_addParts 54 = .ok (.iload 7, 2) := by decide +kernel
theorem dX0_addParts_56 : decode cX0_addParts 56 = .ok (.invokevirtual 65, 3) := by decide +kernel
theorem dX0_addParts_59 : decode cX0_addParts 59 = .ok (.ifCond .eq 20, 3) := by decide +kernel
theorem dX0_addParts_62 : decode cX0_addParts 62 = .ok (.aload_n 0, 1) := by decide +kernel
theorem dX0_addParts_63 : decode cX0_addParts 63 = .ok (.iconst 2, 1) := by decide +kernel
theorem dX0_addParts_64 : decode cX0_addParts 64 = .ok (.aload_n 2, 1) := by decide +kernel
theorem dX0_addParts_65 : decode cX0_addParts 65 = .ok (.getfield 71, 3) := by decide +kernel
theorem dX0_addParts_68 : decode cX0_addParts 68 = .ok (.iload 7, 2) := by decide +kernel
theorem dX0_addParts_70 : decode cX0_addParts 70 = .ok (.invokestatic 52, 3) := by decide +kernel
theorem dX0_addParts_73 : decode cX0_addParts 73 = .ok (.i2l, 1) := by decide +kernel
theorem dX0_addParts_74 : decode cX0_addParts 74 = .ok (.iload 7, 2) := by decide +kernel
theorem dX0_addParts_76 : decode cX0_addParts 76 = .ok (.invokevirtual 56, 3) := by decide +kernel
theorem dX0_addParts_79 : decode cX0_addParts 79 = .ok (.iinc 7 1, 3) := by decide +kernel
theorem dX0_addParts_82 : decode cX0_addParts 82 = .ok (.goto (-36), 3) := by decide +kernel
theorem dX0_addParts_85 : decode cX0_addParts 85 = .ok (.aload_n 2, 1) := by decide +kernel
theorem dX0_addParts_86 : decode cX0_addParts 86 = .ok (.getfield 74, 3) := by decide +kernel
theorem dX0_addParts_89 : decode cX0_addParts 89 = .ok (.ifCond .le 35, 3) := by decide +kernel
theorem dX0_addParts_92 : decode cX0_addParts 92 = .ok (.aload_n 0, 1) := by decide +kernel
theorem dX0_addParts_93 : decode cX0_addParts 93 = .ok (.iconst 3, 1) := by decide +kernel
theorem dX0_addParts_94 : decode cX0_addParts 94 = .ok (.aload_n 0, 1) := by decide +kernel
theorem dX0_addParts_95 : decode cX0_addParts 95 = .ok (.getfield 23, 3) := by decide +kernel
theorem dX0_addParts_98 : decode cX0_addParts 98 = .ok (.aload_n 2, 1) := by decide +kernel
theorem dX0_addParts_99 : decode cX0_addParts 99 = .ok (.getfield 74, 3) := by decide +kernel
theorem dX0_addParts_102 : decode cX0_addParts 102 = .ok (.i2l, 1) := by decide +kernel
theorem dX0_addParts_103 : decode cX0_addParts 103 = .ok (.invokestatic 77, 3) := by decide +kernel
theorem dX0_addParts_106 : decode cX0_addParts 106 = .ok (.aload_n 2, 1) := by decide +kernel
theorem dX0_addParts_107 : decode cX0_addParts 107 = .ok (.getfield 74, 3) := by decide +kernel
theorem dX0_addParts_110 : decode cX0_addParts 110 = .ok (.i2l, 1) := by decide +kernel
theorem dX0_addParts_111 : decode cX0_addParts 111 = .ok (.lmul, 1) := by decide +kernel
theorem dX0_addParts_112 : decode cX0_addParts 112 = .ok (.aload_n 0, 1) := by decide +kernel
theorem dX0_addParts_113 : decode cX0_addParts 113 = .ok (.getfield 23, 3) := by decide +kernel
theorem dX0_addParts_116 : decode cX0_addParts 116 = .ok (.lsub, 1) := by decide +kernel
theorem dX0_addParts_117 : decode cX0_addParts 117 = .ok (.aload_n 2, 1) := by decide +kernel
theorem dX0_addParts_118 : decode cX0_addParts 118 = .ok (.getfield 74, 3) := by decide +kernel
theorem dX0_addParts_121 : decode cX0_addParts 121 = .ok (.invokevirtual 56, 3) := by decide +kernel
theorem dX0_addParts_124 : decode cX0_addParts 124 = .ok (.return_, 1) := by decide +kernel
theorem dX0_add_0 : decode cX0_add 0 = .ok (.aload_n 0, 1) := by decide +kernel
theorem dX0_add_1 : decode cX0_add 1 = .ok (.getfield 9, 3) := by decide +kernel
theorem dX0_add_4 : decode cX0_add 4 = .ok (.aload_n 0, 1) := by decide +kernel
theorem dX0_add_5 : decode cX0_add 5 = .ok (.getfield 27, 3) := by decide +kernel
theorem dX0_add_8 : decode cX0_add 8 = .ok (.iload_n 1, 1) := by decide +kernel
theorem dX0_add_9 : decode cX0_add 9 = .ok (.invokestatic 81, 3) := by decide +kernel
theorem dX0_add_12 : decode cX0_add 12 = .ok (.aload_n 0, 1) := by decide +kernel
theorem dX0_add_13 : decode cX0_add 13 = .ok (.getfield 15, 3) := by decide +kernel
theorem dX0_add_16 : decode cX0_add 16 = .ok (.aload_n 0, 1) := by decide +kernel
theorem dX0_add_17 : decode cX0_add 17 = .ok (.getfield 27, 3) := by decide +kernel
theorem dX0_add_20 : decode cX0_add 20 = .ok (.lload_n 2, 1) := by decide +kernel
theorem dX0_add_21 : decode cX0_add 21 = .ok (.l2i, 1) := by decide +kernel
theorem dX0_add_22 : decode cX0_add 22 = .ok (.invokestatic 81, 3) := by decide +kernel
theorem dX0_add_25 : decode cX0_add 25 = .ok (.aload_n 0, 1) := by decide +kernel
theorem dX0_add_26 : decode cX0_add 26 = .ok (.getfield 18, 3) := by decide +kernel
theorem dX0_add_29 : decode cX0_add 29 = .ok (.aload_n 0, 1) := by decide +kernel
theorem dX0_add_30 : decode cX0_add 30 = .ok (.getfield 27, 3) := by decide +kernel
theorem dX0_add_33 : decode cX0_add 33 = .ok (.iload 4, 2) := by decide +kernel
theorem dX0_add_35 : decode cX0_add 35 = .ok (.invokestatic 81, 3) := by decide +kernel
theorem dX0_add_38 : decode cX0_add 38 = .ok (.aload_n 0, 1) := by decide +kernel
theorem dX0_add_39 : decode cX0_add 39 = .ok (.dup, 1) := by decide +kernel
theorem dX0_add_40 : decode cX0_add 40 = .ok (.getfield 27, 3) := by decide +kernel
theorem dX0_add_43 : decode cX0_add 43 = .ok (.iconst 1, 1) := by decide +kernel
theorem dX0_add_44 : decode cX0_add 44 = .ok (.iadd, 1) := by decide +kernel
theorem dX0_add_45 : decode cX0_add 45 = .ok (.putfield 27, 3) := by decide +kernel
theorem dX0_add_48 : decode cX0_add 48 = .ok (.aload_n 0, 1) := by decide +kernel
theorem dX0_add_49 : decode cX0_add 49 = .ok (.dup, 1) := by decide +kernel
theorem dX0_add_50 : decode cX0_add 50 = .ok (.getfield 23, 3) := by decide +kernel
theorem dX0_add_53 : decode cX0_add 53 = .ok (.lload_n 2, 1) := by decide +kernel
theorem dX0_add_54 : decode cX0_add 54 = .ok (.ladd, 1) := by decide +kernel
theorem dX0_add_55 : decode cX0_add 55 = .ok (.putfield 23, 3) := by decide +kernel
theorem dX0_add_58 : decode cX0_add 58 = .ok (.return_, 1) := by decide +kernel
theorem dX0_tell_0 : decode cX0_tell 0 = .ok (.iload_n 1, 1) := by decide +kernel
theorem dX0_tell_1 : decode cX0_tell 1 = .ok (.ifCond .lt 11, 3) := by decide +kernel
theorem dX0_tell_4 : decode cX0_tell 4 = .ok (.iload_n 1, 1) := by decide +kernel
theorem dX0_tell_5 : decode cX0_tell 5 = .ok (.aload_n 0, 1) := by decide +kernel
theorem dX0_tell_6 : decode cX0_tell 6 = .ok (.getfield 27, 3) := by decide +kernel
theorem dX0_tell_9 : decode cX0_tell 9 = .ok (.if_icmp .lt 5, 3) := by decide +kernel
theorem dX0_tell_12 : decode cX0_tell 12 = .ok (.iconst (-1), 1) := by decide +kernel
theorem dX0_tell_13 : decode cX0_tell 13 = .ok (.ireturn, 1) := by decide +kernel
theorem dX0_tell_14 : decode cX0_tell 14 = .ok (.iload_n 2, 1) := by decide +kernel
theorem dX0_tell_15 : decode cX0_tell 15 = .ok (.tableswitch 52 0 2 #[25, 34, 43], 25) := by decide +kernel
theorem dX0_tell_40 : decode cX0_tell 40 = .ok (.aload_n 0, 1) := by decide +kernel
theorem dX0_tell_41 : decode cX0_tell 41 = .ok (.getfield 9, 3) := by decide +kernel
theorem dX0_tell_44 : decode cX0_tell 44 = .ok (.iload_n 1, 1) := by decide +kernel
theorem dX0_tell_45 : decode cX0_tell 45 = .ok (.invokestatic 52, 3) := by decide +kernel
theorem dX0_tell_48 : decode cX0_tell 48 = .ok (.ireturn, 1) := by decide +kernel
theorem dX0_tell_49 : decode cX0_tell 49 = .ok (.aload_n 0, 1) := by decide +kernel
theorem dX0_tell_50 : decode cX0_tell 50 = .ok (.getfield 15, 3) := by decide +kernel
theorem dX0_tell_53 : decode cX0_tell 53 = .ok (.iload_n 1, 1) := by decide +kernel
theorem dX0_tell_54 : decode cX0_tell 54 = .ok (.invokestatic 52, 3) := by decide +kernel
theorem dX0_tell_57 : decode cX0_tell 57 = .ok (.ireturn, 1) := by decide +kernel
theorem dX0_tell_58 : decode cX0_tell 58 = .ok (.aload_n 0, 1) := by decide +kernel
theorem dX0_tell_59 : decode cX0_tell 59 = .ok (.getfield 18, 3) := by decide +kernel
theorem dX0_tell_62 : decode cX0_tell 62 = .ok (.iload_n 1, 1) := by decide +kernel
theorem dX0_tell_63 : decode cX0_tell 63 = .ok (.invokestatic 52, 3) := by decide +kernel
theorem dX0_tell_66 : decode cX0_tell 66 = .ok (.ireturn, 1) := by decide +kernel
theorem dX0_tell_67 : decode cX0_tell 67 = .ok (.iconst (-1), 1) := by decide +kernel
theorem dX0_tell_68 : decode cX0_tell 68 = .ok (.ireturn, 1) := by decide +kernel
theorem dX1_init_0 : decode cX1_init 0 = .ok (.aload_n 0, 1) := by decide +kernel
theorem dX1_init_1 : decode cX1_init 1 = .ok (.invokespecial 3, 3) := by decide +kernel
theorem dX1_init_4 : decode cX1_init 4 = .ok (.aload_n 0, 1) := by decide +kernel
theorem dX1_init_5 : decode cX1_init 5 = .ok (.bipush 10, 2) := by decide +kernel
theorem dX1_init_7 : decode cX1_init 7 = .ok (.anewarray 9, 3) := by decide +kernel
theorem dX1_init_10 : decode cX1_init 10 = .ok (.putfield 11, 3) := by decide +kernel
theorem dX1_init_13 : decode cX1_init 13 = .ok (.iconst 0, 1) := by decide +kernel
theorem dX1_init_14 : decode cX1_init 14 = .ok (.istore_n 1, 1) := by decide +kernel
theorem dX1_init_15 : decode cX1_init 15 = .ok (.iload_n 1, 1) := by decide +kernel
theorem dX1_init_16 : decode cX1_init 16 = .ok (.aload_n 0, 1) := by decide +kernel
theorem dX1_init_17 : decode cX1_init 17 = .ok (.getfield 11, 3) := by decide +kernel
theorem dX1_init_20 : decode cX1_init 20 = .ok (.arraylength, 1) := by decide +kernel
theorem dX1_init_21 : decode cX1_init 21 = .ok (.if_icmp .ge 22, 3) := by decide +kernel
theorem dX1_init_24 : decode cX1_init 24 = .ok (.aload_n 0, 1) := by decide +kernel
theorem dX1_init_25 : decode cX1_init 25 = .ok (.getfield 11, 3) := by decide +kernel
theorem dX1_init_28 : decode cX1_init 28 = .ok (.iload_n 1, 1) := by decide +kernel
theorem dX1_init_29 : decode cX1_init 29 = .ok (.new 9, 3) := by decide +kernel
theorem dX1_init_32 : decode cX1_init 32 = .ok (.dup, 1) := by decide +kernel
theorem dX1_init_33 : decode cX1_init 33 = .ok (.invokespecial 17, 3) := by decide +kernel
theorem dX1_init_36 : decode cX1_init 36 = .ok (.aastore, 1) := by decide +kernel
theorem dX1_init_37 : decode cX1_init 37 = .ok (.iinc 1 1, 3) := by decide +kernel
theorem dX1_init_40 : decode cX1_init 40 = .ok (.goto (-25), 3) := by decide +kernel
theorem dX1_init_43 : decode cX1_init 43 = .ok (.return_, 1) := by decide +kernel
theorem dX1_place_0 : decode cX1_place 0 = .ok (.iload_n 1, 1) := by decide +kernel
theorem dX1_place_1 : decode cX1_place 1 = .ok (.ifCond .lt 21, 3) := by decide +kernel
theorem dX1_place_4 : decode cX1_place 4 = .ok (.iload_n 1, 1) := by decide +kernel
theorem dX1_place_5 : decode cX1_place 5 = .ok (.aload_n 0, 1) := by decide +kernel
theorem dX1_place_6 : decode cX1_place 6 = .ok (.getfield 11, 3) := by decide +kernel
theorem dX1_place_9 : decode cX1_place 9 = .ok (.arraylength, 1) := by decide +kernel
theorem dX1_place_10 : decode cX1_place 10 = .ok (.if_icmp .ge 12, 3) := by decide +kernel
theorem dX1_place_13 : decode cX1_place 13 = .ok (.aload_n 0, 1) := by decide +kernel
theorem dX1_place_14 : decode cX1_place 14 = .ok (.getfield 11, 3) := by decide +kernel
theorem dX1_place_17 : decode cX1_place 17 = .ok (.iload_n 1, 1) := by decide +kernel
theorem dX1_place_18 : decode cX1_place 18 = .ok (.aaload, 1) := by decide +kernel
theorem dX1_place_19 : decode cX1_place 19 = .ok (.goto 4, 3) := by decide +kernel
theorem dX1_place_22 : decode cX1_place 22 = .ok (.aconst_null, 1) := by decide +kernel
theorem dX1_place_23 : decode cX1_place 23 = .ok (.areturn, 1) := by decide +kernel
theorem dX1_clear_0 : decode cX1_clear 0 = .ok (.iconst 0, 1) := by decide +kernel
theorem dX1_clear_1 : decode cX1_clear 1 = .ok (.istore_n 1, 1) := by decide +kernel
theorem dX1_clear_2 : decode cX1_clear 2 = .ok (.iload_n 1, 1) := by decide +kernel
theorem dX1_clear_3 : decode cX1_clear 3 = .ok (.aload_n 0, 1) := by decide +kernel
theorem dX1_clear_4 : decode cX1_clear 4 = .ok (.getfield 11, 3) := by decide +kernel
theorem dX1_clear_7 : decode cX1_clear 7 = .ok (.arraylength, 1) := by decide +kernel
theorem dX1_clear_8 : decode cX1_clear 8 = .ok (.if_icmp .ge 24, 3) := by decide +kernel
theorem dX1_clear_11 : decode cX1_clear 11 = .ok (.aload_n 0, 1) := by decide +kernel
theorem dX1_clear_12 : decode cX1_clear 12 = .ok (.getfield 11, 3) := by decide +kernel
theorem dX1_clear_15 : decode cX1_clear 15 = .ok (.iload_n 1, 1) := by decide +kernel
theorem dX1_clear_16 : decode cX1_clear 16 = .ok (.aaload, 1) := by decide +kernel
theorem dX1_clear_17 : decode cX1_clear 17 = .ok (.astore_n 2, 1) := by decide +kernel
theorem dX1_clear_18 : decode cX1_clear 18 = .ok (.aload_n 2, 1) := by decide +kernel
theorem dX1_clear_19 : decode cX1_clear 19 = .ok (.ifnull 7, 3) := by decide +kernel
theorem dX1_clear_22 : decode cX1_clear 22 = .ok (.aload_n 2, 1) := by decide +kernel
theorem dX1_clear_23 : decode cX1_clear 23 = .ok (.invokevirtual 18, 3) := by decide +kernel
theorem dX1_clear_26 : decode cX1_clear 26 = .ok (.iinc 1 1, 3) := by decide +kernel
theorem dX1_clear_29 : decode cX1_clear 29 = .ok (.goto (-27), 3) := by decide +kernel
theorem dX1_clear_32 : decode cX1_clear 32 = .ok (.return_, 1) := by decide +kernel
theorem dX2_init_0 : decode cX2_init 0 = .ok (.aload_n 0, 1) := by decide +kernel
theorem dX2_init_1 : decode cX2_init 1 = .ok (.invokespecial 1, 3) := by decide +kernel
theorem dX2_init_4 : decode cX2_init 4 = .ok (.aload_n 0, 1) := by decide +kernel
theorem dX2_init_5 : decode cX2_init 5 = .ok (.iload_n 1, 1) := by decide +kernel
theorem dX2_init_6 : decode cX2_init 6 = .ok (.putfield 7, 3) := by decide +kernel
theorem dX2_init_9 : decode cX2_init 9 = .ok (.aload_n 0, 1) := by decide +kernel
theorem dX2_init_10 : decode cX2_init 10 = .ok (.iload_n 2, 1) := by decide +kernel
theorem dX2_init_11 : decode cX2_init 11 = .ok (.putfield 13, 3) := by decide +kernel
theorem dX2_init_14 : decode cX2_init 14 = .ok (.aload_n 0, 1) := by decide +kernel
theorem dX2_init_15 : decode cX2_init 15 = .ok (.iload_n 3, 1) := by decide +kernel
theorem dX2_init_16 : decode cX2_init 16 = .ok (.putfield 16, 3) := by decide +kernel
theorem dX2_init_19 : decode cX2_init 19 = .ok (.aload_n 0, 1) := by decide +kernel
theorem dX2_init_20 : decode cX2_init 20 = .ok (.iload 4, 2) := by decide +kernel
theorem dX2_init_22 : decode cX2_init 22 = .ok (.putfield 19, 3) := by decide +kernel
theorem dX2_init_25 : decode cX2_init 25 = .ok (.aload_n 0, 1) := by decide +kernel
theorem dX2_init_26 : decode cX2_init 26 = .ok (.iload 5, 2) := by decide +kernel
theorem dX2_init_28 : decode cX2_init 28 = .ok (.putfield 22, 3) := by decide +kernel
theorem dX2_init_31 : decode cX2_init 31 = .ok (.return_, 1) := by decide +kernel
theorem dX2_has_0 : decode cX2_has 0 = .ok (.aload_n 0, 1) := by decide +kernel
theorem dX2_has_1 : decode cX2_has 1 = .ok (.getfield 25, 3) := by decide +kernel
theorem dX2_has_4 : decode cX2_has 4 = .ok (.iconst 1, 1) := by decide +kernel
theorem dX2_has_5 : decode cX2_has 5 = .ok (.iload_n 1, 1) := by decide +kernel
theorem dX2_has_6 : decode cX2_has 6 = .ok (.ishl, 1) := by decide +kernel
theorem dX2_has_7 : decode cX2_has 7 = .ok (.iand, 1) := by decide +kernel
theorem dX2_has_8 : decode cX2_has 8 = .ok (.ifCond .eq 7, 3) := by decide +kernel
theorem dX2_has_11 : decode cX2_has 11 = .ok (.iconst 1, 1) := by decide +kernel
theorem dX2_has_12 : decode cX2_has 12 = .ok (.goto 4, 3) := by decide +kernel
theorem dX2_has_15 : decode cX2_has 15 = .ok (.iconst 0, 1) := by decide +kernel
theorem dX2_has_16 : decode cX2_has 16 = .ok (.ireturn, 1) := by decide +kernel
theorem dX3_init_0 : decode cX3_init 0 = .ok (.aload_n 0, 1) := by decide +kernel
theorem dX3_init_1 : decode cX3_init 1 = .ok (.invokespecial 3, 3) := by decide +kernel
theorem dX3_init_4 : decode cX3_init 4 = .ok (.aload_n 0, 1) := by decide +kernel
theorem dX3_init_5 : decode cX3_init 5 = .ok (.bipush 10, 2) := by decide +kernel
theorem dX3_init_7 : decode cX3_init 7 = .ok (.newarray .int, 2) := by decide +kernel
theorem dX3_init_9 : decode cX3_init 9 = .ok (.putfield 9, 3) := by decide +kernel
theorem dX3_init_12 : decode cX3_init 12 = .ok (.aload_n 0, 1) := by decide +kernel
theorem dX3_init_13 : decode cX3_init 13 = .ok (.bipush 10, 2) := by decide +kernel
theorem dX3_init_15 : decode cX3_init 15 = .ok (.newarray .int, 2) := by decide +kernel
theorem dX3_init_17 : decode cX3_init 17 = .ok (.putfield 15, 3) := by decide +kernel
theorem dX3_init_20 : decode cX3_init 20 = .ok (.aload_n 0, 1) := by decide +kernel
theorem dX3_init_21 : decode cX3_init 21 = .ok (.bipush 10, 2) := by decide +kernel
theorem dX3_init_23 : decode cX3_init 23 = .ok (.newarray .int, 2) := by decide +kernel
theorem dX3_init_25 : decode cX3_init 25 = .ok (.putfield 18, 3) := by decide +kernel
theorem dX3_init_28 : decode cX3_init 28 = .ok (.aload_n 0, 1) := by decide +kernel
theorem dX3_init_29 : decode cX3_init 29 = .ok (.bipush 10, 2) := by decide +kernel
theorem dX3_init_31 : decode cX3_init 31 = .ok (.newarray .int, 2) := by decide +kernel
theorem dX3_init_33 : decode cX3_init 33 = .ok (.putfield 21, 3) := by decide +kernel
theorem dX3_init_36 : decode cX3_init 36 = .ok (.aload_n 0, 1) := by decide +kernel
theorem dX3_init_37 : decode cX3_init 37 = .ok (.bipush 10, 2) := by decide +kernel
theorem dX3_init_39 : decode cX3_init 39 = .ok (.newarray .int, 2) := by decide +kernel
theorem dX3_init_41 : decode cX3_init 41 = .ok (.putfield 24, 3) := by decide +kernel
theorem dX3_init_44 : decode cX3_init 44 = .ok (.return_, 1) := by decide +kernel
theorem dX3_clear_0 : decode cX3_clear 0 = .ok (.aload_n 0, 1) := by decide +kernel
theorem dX3_clear_1 : decode cX3_clear 1 = .ok (.iconst 0, 1) := by decide +kernel
theorem dX3_clear_2 : decode cX3_clear 2 = .ok (.putfield 27, 3) := by decide +kernel
theorem dX3_clear_5 : decode cX3_clear 5 = .ok (.aload_n 0, 1) := by decide +kernel
theorem dX3_clear_6 : decode cX3_clear 6 = .ok (.iconst 0, 1) := by decide +kernel
theorem dX3_clear_7 : decode cX3_clear 7 = .ok (.putfield 31, 3) := by decide +kernel
theorem dX3_clear_10 : decode cX3_clear 10 = .ok (.aload_n 0, 1) := by decide +kernel
theorem dX3_clear_11 : decode cX3_clear 11 = .ok (.getfield 18, 3) := by decide +kernel
theorem dX3_clear_14 : decode cX3_clear 14 = .ok (.iconst (-1), 1) := by decide +kernel
theorem dX3_clear_15 : decode cX3_clear 15 = .ok (.invokestatic 35, 3) := by decide +kernel
theorem dX3_clear_18 : decode cX3_clear 18 = .ok (.aload_n 0, 1) := by decide +kernel
theorem dX3_clear_19 : decode cX3_clear 19 = .ok (.getfield 21, 3) := by decide +kernel
theorem dX3_clear_22 : decode cX3_clear 22 = .ok (.iconst (-1), 1) := by decide +kernel
theorem dX3_clear_23 : decode cX3_clear 23 = .ok (.invokestatic 35, 3) := by decide +kernel
theorem dX3_clear_26 : decode cX3_clear 26 = .ok (.aload_n 0, 1) := by decide +kernel
theorem dX3_clear_27 : decode cX3_clear 27 = .ok (.getfield 24, 3) := by decide +kernel
theorem dX3_clear_30 : decode cX3_clear 30 = .ok (.iconst 0, 1) := by decide +kernel
theorem dX3_clear_31 : decode cX3_clear 31 = .ok (.invokestatic 35, 3) := by decide +kernel
theorem dX3_clear_34 : decode cX3_clear 34 = .ok (.aload_n 0, 1) := by decide +kernel
theorem dX3_clear_35 : decode cX3_clear 35 = .ok (.iconst 0, 1) := by decide +kernel
theorem dX3_clear_36 : decode cX3_clear 36 = .ok (.putfield 39, 3) := by decide +kernel
theorem dX3_clear_39 : decode cX3_clear 39 = .ok (.aload_n 0, 1) := by decide +kernel
theorem dX3_clear_40 : decode cX3_clear 40 = .ok (.iconst (-1), 1) := by decide +kernel
theorem dX3_clear_41 : decode cX3_clear 41 = .ok (.putfield 42, 3) := by decide +kernel
theorem dX3_clear_44 : decode cX3_clear 44 = .ok (.aload_n 0, 1) := by decide +kernel
theorem dX3_clear_45 : decode cX3_clear 45 = .ok (.iconst (-1), 1) := by decide +kernel
theorem dX3_clear_46 : decode cX3_clear 46 = .ok (.putfield 45, 3) := by decide +kernel
theorem dX3_clear_49 : decode cX3_clear 49 = .ok (.aload_n 0, 1) := by decide +kernel
theorem dX3_clear_50 : decode cX3_clear 50 = .ok (.iconst (-1), 1) := by decide +kernel
theorem dX3_clear_51 : decode cX3_clear 51 = .ok (.putfield 48, 3) := by decide +kernel
theorem dX3_clear_54 : decode cX3_clear 54 = .ok (.aload_n 0, 1) := by decide +kernel
theorem dX3_clear_55 : decode cX3_clear 55 = .ok (.iconst (-1), 1) := by decide +kernel
theorem dX3_clear_56 : decode cX3_clear 56 = .ok (.putfield 51, 3) := by decide +kernel
theorem dX3_clear_59 : decode cX3_clear 59 = .ok (.aload_n 0, 1) := by decide +kernel
theorem dX3_clear_60 : decode cX3_clear 60 = .ok (.iconst (-1), 1) := by decide +kernel
theorem dX3_clear_61 : decode cX3_clear 61 = .ok (.putfield 54, 3) := by decide +kernel
theorem dX3_clear_64 : decode cX3_clear 64 = .ok (.aload_n 0, 1) := by decide +kernel
theorem dX3_clear_65 : decode cX3_clear 65 = .ok (.iconst (-1), 1) := by decide +kernel
theorem dX3_clear_66 : decode cX3_clear 66 = .ok (.putfield 57, 3) := by decide +kernel
theorem dX3_clear_69 : decode cX3_clear 69 = .ok (.aload_n 0, 1) := by decide +kernel
theorem dX3_clear_70 : decode cX3_clear 70 = .ok (.iconst (-1), 1) := by decide +kernel
theorem dX3_clear_71 : decode cX3_clear 71 = .ok (.putfield 60, 3) := by decide +kernel
theorem dX3_clear_74 : decode cX3_clear 74 = .ok (.return_, 1) := by decide +kernel
theorem dX3_addStep_0 : decode cX3_addStep 0 = .ok (.aload_n 0, 1) := by decide +kernel
theorem dX3_addStep_1 : decode cX3_addStep 1 = .ok (.getfield 9, 3) := by decide +kernel
theorem dX3_addStep_4 : decode cX3_addStep 4 = .ok (.aload_n 0, 1) := by decide +kernel
theorem dX3_addStep_5 : decode cX3_addStep 5 = .ok (.getfield 31, 3) := by decide +kernel
theorem dX3_addStep_8 : decode cX3_addStep 8 = .ok (.iload_n 1, 1) := by decide +kernel
theorem dX3_addStep_9 : decode cX3_addStep 9 = .ok (.invokestatic 63, 3) := by decide +kernel
theorem dX3_addStep_12 : decode cX3_addStep 12 = .ok (.aload_n 0, 1) := by decide +kernel
theorem dX3_addStep_13 : decode cX3_addStep 13 = .ok (.getfield 15, 3) := by decide +kernel
theorem dX3_addStep_16 : decode cX3_addStep 16 = .ok (.aload_n 0, 1) := by decide +kernel
theorem dX3_addStep_17 : decode cX3_addStep 17 = .ok (.getfield 31, 3) := by decide +kernel
theorem dX3_addStep_20 : decode cX3_addStep 20 = .ok (.iload_n 2, 1) := by decide +kernel
theorem dX3_addStep_21 : decode cX3_addStep 21 = .ok (.invokestatic 63, 3) := by decide +kernel
theorem dX3_addStep_24 : decode cX3_addStep 24 = .ok (.aload_n 0, 1) := by decide +kernel
theorem dX3_addStep_25 : decode cX3_addStep 25 = .ok (.dup, 1) := by decide +kernel
theorem dX3_addStep_26 : decode cX3_addStep 26 = .ok (.getfield 31, 3) := by decide +kernel
theorem dX3_addStep_29 : decode cX3_addStep 29 = .ok (.iconst 1, 1) := by decide +kernel
theorem dX3_addStep_30 : decode cX3_addStep 30 = .ok (.iadd, 1) := by decide +kernel
theorem dX3_addStep_31 : decode cX3_addStep 31 = .ok (.putfield 31, 3) := by decide +kernel
theorem dX3_addStep_34 : decode cX3_addStep 34 = .ok (.return_, 1) := by decide +kernel
theorem dX3_exclude_0 : decode cX3_exclude 0 = .ok (.aload_n 0, 1) := by decide +kernel
theorem dX3_exclude_1 : decode cX3_exclude 1 = .ok (.getfield 24, 3) := by decide +kernel
theorem dX3_exclude_4 : decode cX3_exclude 4 = .ok (.iload_n 1, 1) := by decide +kernel
theorem dX3_exclude_5 : decode cX3_exclude 5 = .ok (.aload_n 0, 1) := by decide +kernel
theorem dX3_exclude_6 : decode cX3_exclude 6 = .ok (.getfield 24, 3) := by decide +kernel
theorem dX3_exclude_9 : decode cX3_exclude 9 = .ok (.iload_n 1, 1) := by decide +kernel
theorem dX3_exclude_10 : decode cX3_exclude 10 = .ok (.invokestatic 67, 3) := by decide +kernel
theorem dX3_exclude_13 : decode cX3_exclude 13 = .ok (.iconst 1, 1) := by decide +kernel
theorem dX3_exclude_14 : decode cX3_exclude 14 = .ok (.iload_n 2, 1) := by decide +kernel
theorem dX3_exclude_15 : decode cX3_exclude 15 = .ok (.ishl, 1) := by decide +kernel
theorem dX3_exclude_16 : decode cX3_exclude 16 = .ok (.ior, 1) := by decide +kernel
theorem dX3_exclude_17 : decode cX3_exclude 17 = .ok (.invokestatic 63, 3) := by decide +kernel
theorem dX3_exclude_20 : decode cX3_exclude 20 = .ok (.aload_n 0, 1) := by decide +kernel
theorem dX3_exclude_21 : decode cX3_exclude 21 = .ok (.getfield 24, 3) := by decide +kernel
theorem dX3_exclude_24 : decode cX3_exclude 24 = .ok (.iload_n 2, 1) := by decide +kernel
theorem dX3_exclude_25 : decode cX3_exclude 25 = .ok (.aload_n 0, 1) := by decide +kernel
theorem dX3_exclude_26 : decode cX3_exclude 26 = .ok (.getfield 24, 3) := by decide +kernel
theorem dX3_exclude_29 : decode cX3_exclude 29 = .ok (.iload_n 2, 1) := by decide +kernel
theorem dX3_exclude_30 : decode cX3_exclude 30 = .ok (.invokestatic 67, 3) := by decide +kernel
theorem dX3_exclude_33 : decode cX3_exclude 33 = .ok (.iconst 1, 1) := by decide +kernel
theorem dX3_exclude_34 : decode cX3_exclude 34 = .ok (.iload_n 1, 1) := by decide +kernel
theorem dX3_exclude_35 : decode cX3_exclude 35 = .ok (.ishl, 1) := by decide +kernel
theorem dX3_exclude_36 : decode cX3_exclude 36 = .ok (.ior, 1) := by decide +kernel
theorem dX3_exclude_37 : decode cX3_exclude 37 = .ok (.invokestatic 63, 3) := by decide +kernel
theorem dX3_exclude_40 : decode cX3_exclude 40 = .ok (.aload_n 0, 1) := by decide +kernel
theorem dX3_exclude_41 : decode cX3_exclude 41 = .ok (.dup, 1) := by decide +kernel
theorem dX3_exclude_42 : decode cX3_exclude 42 = .ok (.getfield 39, 3) := by decide +kernel
theorem dX3_exclude_45 : decode cX3_exclude 45 = .ok (.iconst 1, 1) := by decide +kernel
theorem dX3_exclude_46 : decode cX3_exclude 46 = .ok (.iadd, 1) := by decide +kernel
theorem dX3_exclude_47 : decode cX3_exclude 47 = .ok (.putfield 39, 3) := by decide +kernel
theorem dX3_exclude_50 : decode cX3_exclude 50 = .ok (.return_, 1) := by decide +kernel
theorem dX3_excludes_0 : decode cX3_excludes 0 = .ok (.aload_n 0, 1) := by decide +kernel
theorem dX3_excludes_1 : decode cX3_excludes 1 = .ok (.getfield 24, 3) := by decide +kernel
theorem dX3_excludes_4 : decode cX3_excludes 4 = .ok (.iload_n 1, 1) := by decide +kernel
theorem dX3_excludes_5 : decode cX3_excludes 5 = .ok (.invokestatic 67, 3) := by decide +kernel
theorem dX3_excludes_8 : decode cX3_excludes 8 = .ok (.iconst 1, 1) := by decide +kernel
theorem dX3_excludes_9 : decode cX3_excludes 9 = .ok (.iload_n 2, 1) := by decide +kernel
theorem dX3_excludes_10 : decode cX3_excludes 10 = .ok (.ishl, 1) := by decide +kernel
theorem dX3_excludes_11 : decode cX3_excludes 11 = .ok (.iand, 1) := by decide +kernel
theorem dX3_excludes_12 : decode cX3_excludes 12 = .ok (.ifCond .eq 7, 3) := by decide +kernel
theorem dX3_excludes_15 : decode cX3_excludes 15 = .ok (.iconst 1, 1) := by decide +kernel
theorem dX3_excludes_16 : decode cX3_excludes 16 = .ok (.goto 4, 3) := by decide +kernel
theorem dX3_excludes_19 : decode cX3_excludes 19 = .ok (.iconst 0, 1) := by decide +kernel
theorem dX3_excludes_20 : decode cX3_excludes 20 = .ok (.ireturn, 1) := by decide +kernel
theorem dX3_lastWeight_0 : decode cX3_lastWeight 0 = .ok (.aload_n 0, 1) := by decide +kernel
theorem dX3_lastWeight_1 : decode cX3_lastWeight 1 = .ok (.getfield 31, 3) := by decide +kernel
theorem dX3_lastWeight_4 : decode cX3_lastWeight 4 = .ok (.ifCond .le 19, 3) := by decide +kernel
theorem dX3_lastWeight_7 : decode cX3_lastWeight 7 = .ok (.aload_n 0, 1) := by decide +kernel
theorem dX3_lastWeight_8 : decode cX3_lastWeight 8 = .ok (.getfield 9, 3) := by decide +kernel
theorem dX3_lastWeight_11 : decode cX3_lastWeight 11 = .ok (.aload_n 0, 1) := by decide +kernel
theorem dX3_lastWeight_12 : decode cX3_lastWeight 12 = .ok (.getfield 31, 3) := by decide +kernel
theorem dX3_lastWeight_15 : decode cX3_lastWeight 15 = .ok (.iconst 1, 1) := by decide +kernel
theorem dX3_lastWeight_16 : decode cX3_lastWeight 16 = .ok (.isub, 1) := by decide +kernel
theorem dX3_lastWeight_17 : decode cX3_lastWeight 17 = .ok (.invokestatic 67, 3) := by decide +kernel
theorem dX3_lastWeight_20 : decode cX3_lastWeight 20 = .ok (.goto 4, 3) := by decide +kernel
theorem dX3_lastWeight_23 : decode cX3_lastWeight 23 = .ok (.iconst 0, 1) := by decide +kernel
theorem dX3_lastWeight_24 : decode cX3_lastWeight 24 = .ok (.ireturn, 1) := by decide +kernel
theorem dX3_takes_0 : decode cX3_takes 0 = .ok (.aload_n 0, 1) := by decide +kernel
theorem dX3_takes_1 : decode cX3_takes 1 = .ok (.getfield 54, 3) := by decide +kernel
theorem dX3_takes_4 : decode cX3_takes 4 = .ok (.iconst (-1), 1) := by decide +kernel
theorem dX3_takes_5 : decode cX3_takes 5 = .ok (.if_icmp .eq 23, 3) := by decide +kernel
theorem dX3_takes_8 : decode cX3_takes 8 = .ok (.lload_n 3, 1) := by decide +kernel
theorem dX3_takes_9 : decode cX3_takes 9 = .ok (.aload_n 0, 1) := by decide +kernel
theorem dX3_takes_10 : decode cX3_takes 10 = .ok (.getfield 54, 3) := by decide +kernel
theorem dX3_takes_13 : decode cX3_takes 13 = .ok (.i2l, 1) := by decide +kernel
theorem dX3_takes_14 : decode cX3_takes 14 = .ok (.lcmp, 1) := by decide +kernel
theorem dX3_takes_15 : decode cX3_takes 15 = .ok (.ifCond .lt 17, 3) := by decide +kernel
theorem dX3_takes_18 : decode cX3_takes 18 = .ok (.lload_n 3, 1) := by decide +kernel
theorem dX3_takes_19 : decode cX3_takes 19 = .ok (.aload_n 0, 1) := by decide +kernel
theorem dX3_takes_20 : decode cX3_takes 20 = .ok (.getfield 57, 3) := by decide +kernel
theorem dX3_takes_23 : decode cX3_takes 23 = .ok (.i2l, 1) := by decide +kernel
theorem dX3_takes_24 : decode cX3_takes 24 = .ok (.lcmp, 1) := by decide +kernel
theorem dX3_takes_25 : decode cX3_takes 25 = .ok (.ifCond .gt 7, 3) := by decide +kernel
theorem dX3_takes_28 : decode cX3_takes 28 = .ok (.iconst 1, 1) := by decide +kernel
theorem dX3_takes_29 : decode cX3_takes 29 = .ok (.goto 4, 3) := by decide +kernel
theorem dX3_takes_32 : decode cX3_takes 32 = .ok (.iconst 0, 1) := by decide +kernel
theorem dX3_takes_33 : decode cX3_takes 33 = .ok (.istore 5, 2) := by decide +kernel
theorem dX3_takes_35 : decode cX3_takes 35 = .ok (.aload_n 0, 1) := by decide +kernel
theorem dX3_takes_36 : decode cX3_takes 36 = .ok (.getfield 42, 3) := by decide +kernel
theorem dX3_takes_39 : decode cX3_takes 39 = .ok (.iconst (-1), 1) := by decide +kernel
theorem dX3_takes_40 : decode cX3_takes 40 = .ok (.if_icmp .eq 36, 3) := by decide +kernel
theorem dX3_takes_43 : decode cX3_takes 43 = .ok (.aload_n 1, 1) := by decide +kernel
theorem dX3_takes_44 : decode cX3_takes 44 = .ok (.getfield 71, 3) := by decide +kernel
theorem dX3_takes_47 : decode cX3_takes 47 = .ok (.aload_n 0, 1) := by decide +kernel
theorem dX3_takes_48 : decode cX3_takes 48 = .ok (.getfield 42, 3) := by decide +kernel
theorem dX3_takes_51 : decode cX3_takes 51 = .ok (.if_icmp .gt 29, 3) := by decide +kernel
theorem dX3_takes_54 : decode cX3_takes 54 = .ok (.aload_n 1, 1) := by decide +kernel
theorem dX3_takes_55 : decode cX3_takes 55 = .ok (.getfield 74, 3) := by decide +kernel
theorem dX3_takes_58 : decode cX3_takes 58 = .ok (.aload_n 0, 1) := by decide +kernel
theorem dX3_takes_59 : decode cX3_takes 59 = .ok (.getfield 45, 3) := by decide +kernel
theorem dX3_takes_62 : decode cX3_takes 62 = .ok (.if_icmp .gt 18, 3) := by decide +kernel
theorem dX3_takes_65 : decode cX3_takes 65 = .ok (.aload_n 1, 1) := by decide +kernel
theorem dX3_takes_66 : decode cX3_takes 66 = .ok (.getfield 75, 3) := by decide +kernel
theorem dX3_takes_69 : decode cX3_takes 69 = .ok (.aload_n 0, 1) := by decide +kernel
theorem dX3_takes_70 : decode cX3_takes 70 = .ok (.getfield 48, 3) := by decide +kernel
theorem dX3_takes_73 : decode cX3_takes 73 = .ok (.if_icmp .gt 7, 3) := by decide +kernel
theorem dX3_takes_76 : decode cX3_takes 76 = .ok (.iconst 1, 1) := by decide +kernel
theorem dX3_takes_77 : decode cX3_takes 77 = .ok (.goto 4, 3) := by decide +kernel
theorem dX3_takes_80 : decode cX3_takes 80 = .ok (.iconst 0, 1) := by decide +kernel
theorem dX3_takes_81 : decode cX3_takes 81 = .ok (.istore 6, 2) := by decide +kernel
theorem dX3_takes_83 : decode cX3_takes 83 = .ok (.iload 5, 2) := by decide +kernel
theorem dX3_takes_85 : decode cX3_takes 85 = .ok (.ifCond .eq 32, 3) := by decide +kernel
theorem dX3_takes_88 : decode cX3_takes 88 = .ok (.iload 6, 2) := by decide +kernel
theorem dX3_takes_90 : decode cX3_takes 90 = .ok (.ifCond .eq 27, 3) := by decide +kernel
theorem dX3_takes_93 : decode cX3_takes 93 = .ok (.aload_n 0, 1) := by decide +kernel
theorem dX3_takes_94 : decode cX3_takes 94 = .ok (.getfield 18, 3) := by decide +kernel
theorem dX3_takes_97 : decode cX3_takes 97 = .ok (.iload_n 2, 1) := by decide +kernel
theorem dX3_takes_98 : decode cX3_takes 98 = .ok (.invokestatic 67, 3) := by decide +kernel
theorem dX3_takes_101 : decode cX3_takes 101 = .ok (.iconst (-1), 1) := by decide +kernel
theorem dX3_takes_102 : decode cX3_takes 102 = .ok (.if_icmp .eq 15, 3) := by decide +kernel
theorem dX3_takes_105 : decode cX3_takes 105 = .ok (.aload_n 0, 1) := by decide +kernel
theorem dX3_takes_106 : decode cX3_takes 106 = .ok (.aload_n 1, 1) := by decide +kernel
theorem dX3_takes_107 : decode cX3_takes 107 = .ok (.invokevirtual 76, 3) := by decide +kernel
theorem dX3_takes_110 : decode cX3_takes 110 = .ok (.ifCond .eq 7, 3) := by decide +kernel
theorem dX3_takes_113 : decode cX3_takes 113 = .ok (.iconst 1, 1) := by decide +kernel
theorem dX3_takes_114 : decode cX3_takes 114 = .ok (.goto 4, 3) := by decide +kernel
theorem dX3_takes_117 : decode cX3_takes 117 = .ok (.iconst 0, 1) := by decide +kernel
theorem dX3_takes_118 : decode cX3_takes 118 = .ok (.ireturn, 1) := by decide +kernel
theorem dX3_takesServices_0 : decode cX3_takesServices 0 = .ok (.iconst 0, 1) := by decide +kernel
theorem dX3_takesServices_1 : decode cX3_takesServices 1 = .ok (.istore_n 2, 1) := by decide +kernel
theorem dX3_takesServices_2 : decode cX3_takesServices 2 = .ok (.iload_n 2, 1) := by decide +kernel
theorem dX3_takesServices_3 : decode cX3_takesServices 3 = .ok (.bipush 10, 2) := by decide +kernel
theorem dX3_takesServices_5 : decode cX3_takesServices 5 = .ok (.if_icmp .ge 47, 3) := by decide +kernel
theorem dX3_takesServices_8 : decode cX3_takesServices 8 = .ok (.aload_n 1, 1) := by decide +kernel
theorem dX3_takesServices_9 : decode cX3_takesServices 9 = .ok (.iload_n 2, 1) := by decide +kernel
theorem dX3_takesServices_10 : decode cX3_takesServices 10 = .ok (.invokevirtual 80, 3) := by decide +kernel
theorem dX3_takesServices_13 : decode cX3_takesServices 13 = .ok (.ifCond .eq 33, 3) := by decide +kernel
theorem dX3_takesServices_16 : decode cX3_takesServices 16 = .ok (.aload_n 0, 1) := by decide +kernel
theorem dX3_takesServices_17 : decode cX3_takesServices 17 = .ok (.getfield 21, 3) := by decide +kernel
theorem dX3_takesServices_20 : decode cX3_takesServices 20 = .ok (.iload_n 2, 1) := by decide +kernel
theorem dX3_takesServices_21 : decode cX3_takesServices 21 = .ok (.invokestatic 67, 3) := by decide +kernel
theorem dX3_takesServices_24 : decode cX3_takesServices 24 = .ok (.iconst (-1), 1) := by decide +kernel
theorem dX3_takesServices_25 : decode cX3_takesServices 25 = .ok (.if_icmp .eq 19, 3) := by decide +kernel
theorem dX3_takesServices_28 : decode cX3_takesServices 28 = .ok (.aload_n 0, 1) := by decide +kernel
theorem dX3_takesServices_29 : decode cX3_takesServices 29 = .ok (.getfield 24, 3) := by decide +kernel
theorem dX3_takesServices_32 : decode cX3_takesServices 32 = .ok (.iload_n 2, 1) := by decide +kernel
theorem dX3_takesServices_33 : decode cX3_takesServices 33 = .ok (.invokestatic 67, 3) := by decide +kernel
theorem dX3_takesServices_36 : decode cX3_takesServices 36 = .ok (.aload_n 1, 1) := by decide +kernel
theorem dX3_takesServices_37 : decode cX3_takesServices 37 = .ok (.getfield 84, 3) := by decide +kernel
theorem dX3_takesServices_40 : decode cX3_takesServices 40 = .ok (.iand, 1) := by decide +kernel
theorem dX3_takesServices_41 : decode cX3_takesServices 41 = .ok (.ifCond .eq 5, 3) := by decide +kernel
theorem dX3_takesServices_44 : decode cX3_takesServices 44 = .ok (.iconst 0, 1) := by decide +kernel
theorem dX3_takesServices_45 : decode cX3_takesServices 45 = .ok (.ireturn, 1) := by decide +kernel
theorem dX3_takesServices_46 : decode cX3_takesServices 46 = .ok (.iinc 2 1, 3) := by decide +kernel
theorem dX3_takesServices_49 : decode cX3_takesServices 49 = .ok (.goto (-47), 3) := by decide +kernel
theorem dX3_takesServices_52 : decode cX3_takesServices 52 = .ok (.iconst 1, 1) := by decide +kernel
theorem dX3_takesServices_53 : decode cX3_takesServices 53 = .ok (.ireturn, 1) := by decide +kernel
theorem dX3_weightOf_0 : decode cX3_weightOf 0 = .ok (.aload_n 0, 1) := by decide +kernel
theorem dX3_weightOf_1 : decode cX3_weightOf 1 = .ok (.getfield 51, 3) := by decide +kernel
theorem dX3_weightOf_4 : decode cX3_weightOf 4 = .ok (.iconst (-1), 1) := by decide +kernel
theorem dX3_weightOf_5 : decode cX3_weightOf 5 = .ok (.if_icmp .ne 9, 3) := by decide +kernel
theorem dX3_weightOf_8 : decode cX3_weightOf 8 = .ok (.aload_n 1, 1) := by decide +kernel
theorem dX3_weightOf_9 : decode cX3_weightOf 9 = .ok (.getfield 86, 3) := by decide +kernel
theorem dX3_weightOf_12 : decode cX3_weightOf 12 = .ok (.i2l, 1) := by decide +kernel
theorem dX3_weightOf_13 : decode cX3_weightOf 13 = .ok (.lreturn, 1) := by decide +kernel
theorem dX3_weightOf_14 : decode cX3_weightOf 14 = .ok (.aload_n 1, 1) := by decide +kernel
theorem dX3_weightOf_15 : decode cX3_weightOf 15 = .ok (.getfield 86, 3) := by decide +kernel
theorem dX3_weightOf_18 : decode cX3_weightOf 18 = .ok (.i2l, 1) := by decide +kernel
theorem dX3_weightOf_19 : decode cX3_weightOf 19 = .ok (.aload_n 1, 1) := by decide +kernel
theorem dX3_weightOf_20 : decode cX3_weightOf 20 = .ok (.getfield 71, 3) := by decide +kernel
theorem dX3_weightOf_23 : decode cX3_weightOf 23 = .ok (.i2l, 1) := by decide +kernel
theorem dX3_weightOf_24 : decode cX3_weightOf 24 = .ok (.aload_n 1, 1) := by decide +kernel
theorem dX3_weightOf_25 : decode cX3_weightOf 25 = .ok (.getfield 74, 3) := by decide +kernel
theorem dX3_weightOf_28 : decode cX3_weightOf 28 = .ok (.i2l, 1) := by decide +kernel
theorem dX3_weightOf_29 : decode cX3_weightOf 29 = .ok (.lmul, 1) := by decide +kernel
theorem dX3_weightOf_30 : decode cX3_weightOf 30 = .ok (.aload_n 1, 1) := by decide +kernel
theorem dX3_weightOf_31 : decode cX3_weightOf 31 = .ok (.getfield 75, 3) := by decide +kernel
theorem dX3_weightOf_34 : decode cX3_weightOf 34 = .ok (.i2l, 1) := by decide +kernel
theorem dX3_weightOf_35 : decode cX3_weightOf 35 = .ok (.lmul, 1) := by decide +kernel
theorem dX3_weightOf_36 : decode cX3_weightOf 36 = .ok (.aload_n 0, 1) := by decide +kernel
theorem dX3_weightOf_37 : decode cX3_weightOf 37 = .ok (.getfield 51, 3) := by decide +kernel
theorem dX3_weightOf_40 : decode cX3_weightOf 40 = .ok (.i2l, 1) := by decide +kernel
theorem dX3_weightOf_41 : decode cX3_weightOf 41 = .ok (.invokestatic 89, 3) := by decide +kernel
theorem dX3_weightOf_44 : decode cX3_weightOf 44 = .ok (.invokestatic 93, 3) := by decide +kernel
theorem dX3_weightOf_47 : decode cX3_weightOf 47 = .ok (.lreturn, 1) := by decide +kernel
theorem dX3_stepFor_0 : decode cX3_stepFor 0 = .ok (.iconst 0, 1) := by decide +kernel
theorem dX3_stepFor_1 : decode cX3_stepFor 1 = .ok (.istore_n 3, 1) := by decide +kernel
theorem dX3_stepFor_2 : decode cX3_stepFor 2 = .ok (.iload_n 3, 1) := by decide +kernel
theorem dX3_stepFor_3 : decode cX3_stepFor 3 = .ok (.aload_n 0, 1) := by decide +kernel
theorem dX3_stepFor_4 : decode cX3_stepFor 4 = .ok (.getfield 31, 3) := by decide +kernel
theorem dX3_stepFor_7 : decode cX3_stepFor 7 = .ok (.if_icmp .ge 25, 3) := by decide +kernel
theorem dX3_stepFor_10 : decode cX3_stepFor 10 = .ok (.aload_n 0, 1) := by decide +kernel
theorem dX3_stepFor_11 : decode cX3_stepFor 11 = .ok (.getfield 9, 3) := by decide +kernel
theorem dX3_stepFor_14 : decode cX3_stepFor 14 = .ok (.iload_n 3, 1) := by decide +kernel
theorem dX3_stepFor_15 : decode cX3_stepFor 15 = .ok (.invokestatic 67, 3) := by decide +kernel
theorem dX3_stepFor_18 : decode cX3_stepFor 18 = .ok (.i2l, 1) := by decide +kernel
theorem dX3_stepFor_19 : decode cX3_stepFor 19 = .ok (.lload_n 1, 1) := by decide +kernel
theorem dX3_stepFor_20 : decode cX3_stepFor 20 = .ok (.lcmp, 1) := by decide +kernel
theorem dX3_stepFor_21 : decode cX3_stepFor 21 = .ok (.ifCond .lt 5, 3) := by decide +kernel
theorem dX3_stepFor_24 : decode cX3_stepFor 24 = .ok (.iload_n 3, 1) := by decide +kernel
theorem dX3_stepFor_25 : decode cX3_stepFor 25 = .ok (.ireturn, 1) := by decide +kernel
theorem dX3_stepFor_26 : decode cX3_stepFor 26 = .ok (.iinc 3 1, 3) := by decide +kernel
theorem dX3_stepFor_29 : decode cX3_stepFor 29 = .ok (.goto (-27), 3) := by decide +kernel
theorem dX3_stepFor_32 : decode cX3_stepFor 32 = .ok (.iconst (-1), 1) := by decide +kernel
theorem dX3_stepFor_33 : decode cX3_stepFor 33 = .ok (.ireturn, 1) := by decide +kernel
theorem dX3_hasSameStepsAs_0 : decode cX3_hasSameStepsAs 0 = .ok (.aload_n 0, 1) := by decide +kernel
theorem dX3_hasSameStepsAs_1 : decode cX3_hasSameStepsAs 1 = .ok (.getfield 31, 3) := by decide +kernel
theorem dX3_hasSameStepsAs_4 : decode cX3_hasSameStepsAs 4 = .ok (.aload_n 1, 1) := by decide +kernel
theorem dX3_hasSameStepsAs_5 : decode cX3_hasSameStepsAs 5 = .ok (.getfield 31, 3) := by decide +kernel
theorem dX3_hasSameStepsAs_8 : decode cX3_hasSameStepsAs 8 = .ok (.if_icmp .eq 5, 3) := by decide +kernel
theorem dX3_hasSameStepsAs_11 : decode cX3_hasSameStepsAs 11 = .ok (.iconst 0, 1) := by decide +kernel
theorem dX3_hasSameStepsAs_12 : decode cX3_hasSameStepsAs 12 = .ok (.ireturn, 1) := by decide +kernel
theorem dX3_hasSameStepsAs_13 : decode cX3_hasSameStepsAs 13 = .ok (.iconst 0, 1) := by decide +kernel
theorem dX3_hasSameStepsAs_14 : decode cX3_hasSameStepsAs 14 = .ok (.istore_n 2, 1) := by decide +kernel
theorem dX3_hasSameStepsAs_15 : decode cX3_hasSameStepsAs 15 = .ok (.iload_n 2, 1) := by decide +kernel
theorem dX3_hasSameStepsAs_16 : decode cX3_hasSameStepsAs 16 = .ok (.aload_n 0, 1) := by decide +kernel
theorem dX3_hasSameStepsAs_17 : decode cX3_hasSameStepsAs 17 = .ok (.getfield 31, 3) := by decide +kernel
theorem dX3_hasSameStepsAs_20 : decode cX3_hasSameStepsAs 20 = .ok (.if_icmp .ge 49, 3) := by decide +kernel
theorem dX3_hasSameStepsAs_23 : decode cX3_hasSameStepsAs 23 = .ok (.aload_n 0, 1) := by decide +kernel
theorem dX3_hasSameStepsAs_24 : decode cX3_hasSameStepsAs 24 = .ok (.getfield 9, 3) := by decide +kernel
theorem dX3_hasSameStepsAs_27 : decode cX3_hasSameStepsAs 27 = .ok (.iload_n 2, 1) := by decide +kernel
theorem dX3_hasSameStepsAs_28 : decode cX3_hasSameStepsAs 28 = .ok (.invokestatic 67, 3) := by decide +kernel
theorem dX3_hasSameStepsAs_31 : decode cX3_hasSameStepsAs 31 = .ok (.aload_n 1, 1) := by decide +kernel
theorem dX3_hasSameStepsAs_32 : decode cX3_hasSameStepsAs 32 = .ok (.getfield 9, 3) := by decide +kernel
theorem dX3_hasSameStepsAs_35 : decode cX3_hasSameStepsAs 35 = .ok (.iload_n 2, 1) := by decide +kernel
theorem dX3_hasSameStepsAs_36 : decode cX3_hasSameStepsAs 36 = .ok (.invokestatic 67, 3) := by decide +kernel
theorem dX3_hasSameStepsAs_39 : decode cX3_hasSameStepsAs 39 = .ok (.if_icmp .ne 22, 3) := by decide +kernel
theorem dX3_hasSameStepsAs_42 : decode cX3_hasSameStepsAs 42 = .ok (.aload_n 0, 1) := by decide +kernel
theorem dX3_hasSameStepsAs_43 : decode cX3_hasSameStepsAs 43 = .ok (.getfield 15, 3) := by decide +kernel
theorem dX3_hasSameStepsAs_46 : decode cX3_hasSameStepsAs 46 = .ok (.iload_n 2, 1) := by decide +kernel
theorem dX3_hasSameStepsAs_47 : decode cX3_hasSameStepsAs 47 = .ok (.invokestatic 67, 3) := by decide +kernel
theorem dX3_hasSameStepsAs_50 : decode cX3_hasSameStepsAs 50 = .ok (.aload_n 1, 1) := by decide +kernel
theorem dX3_hasSameStepsAs_51 : decode cX3_hasSameStepsAs 51 = .ok (.getfield 15, 3) := by decide +kernel
theorem dX3_hasSameStepsAs_54 : decode cX3_hasSameStepsAs 54 = .ok (.iload_n 2, 1) := by decide +kernel
theorem dX3_hasSameStepsAs_55 : decode cX3_hasSameStepsAs 55 = .ok (.invokestatic 67, 3) := by decide +kernel
theorem dX3_hasSameStepsAs_58 : decode cX3_hasSameStepsAs 58 = .ok (.if_icmp .eq 5, 3) := by decide +kernel
theorem dX3_hasSameStepsAs_61 : decode cX3_hasSameStepsAs 61 = .ok (.iconst 0, 1) := by decide +kernel
theorem dX3_hasSameStepsAs_62 : decode cX3_hasSameStepsAs 62 = .ok (.ireturn, 1) := by decide +kernel
theorem dX3_hasSameStepsAs_63 : decode cX3_hasSameStepsAs 63 = .ok (.iinc 2 1, 3) := by decide +kernel
theorem dX3_hasSameStepsAs_66 : decode cX3_hasSameStepsAs 66 = .ok (.goto (-51), 3) := by decide +kernel
theorem dX3_hasSameStepsAs_69 : decode cX3_hasSameStepsAs 69 = .ok (.iconst 1, 1) := by decide +kernel
theorem dX3_hasSameStepsAs_70 : decode cX3_hasSameStepsAs 70 = .ok (.ireturn, 1) := by decide +kernel
theorem dX3_hasSameNamesAs_0 : decode cX3_hasSameNamesAs 0 = .ok (.iconst 0, 1) := by decide +kernel
theorem dX3_hasSameNamesAs_1 : decode cX3_hasSameNamesAs 1 = .ok (.istore_n 2, 1) := by decide +kernel
theorem dX3_hasSameNamesAs_2 : decode cX3_hasSameNamesAs 2 = .ok (.iload_n 2, 1) := by decide +kernel
theorem dX3_hasSameNamesAs_3 : decode cX3_hasSameNamesAs 3 = .ok (.bipush 10, 2) := by decide +kernel
theorem dX3_hasSameNamesAs_5 : decode cX3_hasSameNamesAs 5 = .ok (.if_icmp .ge 68, 3) := by decide +kernel
theorem dX3_hasSameNamesAs_8 : decode cX3_hasSameNamesAs 8 = .ok (.aload_n 0, 1) := by decide +kernel
theorem dX3_hasSameNamesAs_9 : decode cX3_hasSameNamesAs 9 = .ok (.getfield 18, 3) := by decide +kernel
theorem dX3_hasSameNamesAs_12 : decode cX3_hasSameNamesAs 12 = .ok (.iload_n 2, 1) := by decide +kernel
theorem dX3_hasSameNamesAs_13 : decode cX3_hasSameNamesAs 13 = .ok (.invokestatic 67, 3) := by decide +kernel
theorem dX3_hasSameNamesAs_16 : decode cX3_hasSameNamesAs 16 = .ok (.aload_n 1, 1) := by decide +kernel
theorem dX3_hasSameNamesAs_17 : decode cX3_hasSameNamesAs 17 = .ok (.getfield 18, 3) := by decide +kernel
theorem dX3_hasSameNamesAs_20 : decode cX3_hasSameNamesAs 20 = .ok (.iload_n 2, 1) := by decide +kernel
theorem dX3_hasSameNamesAs_21 : decode cX3_hasSameNamesAs 21 = .ok (.invokestatic 67, 3) := by decide +kernel
theorem dX3_hasSameNamesAs_24 : decode cX3_hasSameNamesAs 24 = .ok (.if_icmp .ne 41, 3) := by decide +kernel
theorem dX3_hasSameNamesAs_27 : decode cX3_hasSameNamesAs 27 = .ok (.aload_n 0, 1) := by decide +kernel
theorem dX3_hasSameNamesAs_28 : decode cX3_hasSameNamesAs 28 = .ok (.getfield 21, 3) := by decide +kernel
theorem dX3_hasSameNamesAs_31 : decode cX3_hasSameNamesAs 31 = .ok (.iload_n 2, 1) := by decide +kernel
theorem dX3_hasSameNamesAs_32 : decode cX3_hasSameNamesAs 32 = .ok (.invokestatic 67, 3) := by decide +kernel
theorem dX3_hasSameNamesAs_35 : decode cX3_hasSameNamesAs 35 = .ok (.aload_n 1, 1) := by decide +kernel
theorem dX3_hasSameNamesAs_36 : decode cX3_hasSameNamesAs 36 = .ok (.getfield 21, 3) := by decide +kernel
theorem dX3_hasSameNamesAs_39 : decode cX3_hasSameNamesAs 39 = .ok (.iload_n 2, 1) := by decide +kernel
theorem dX3_hasSameNamesAs_40 : decode cX3_hasSameNamesAs 40 = .ok (.invokestatic 67, 3) := by decide +kernel
theorem dX3_hasSameNamesAs_43 : decode cX3_hasSameNamesAs 43 = .ok (.if_icmp .ne 22, 3) := by decide +kernel
theorem dX3_hasSameNamesAs_46 : decode cX3_hasSameNamesAs 46 = .ok (.aload_n 0, 1) := by decide +kernel
theorem dX3_hasSameNamesAs_47 : decode cX3_hasSameNamesAs 47 = .ok (.getfield 24, 3) := by decide +kernel
theorem dX3_hasSameNamesAs_50 : decode cX3_hasSameNamesAs 50 = .ok (.iload_n 2, 1) := by decide +kernel
theorem dX3_hasSameNamesAs_51 : decode cX3_hasSameNamesAs 51 = .ok (.invokestatic 67, 3) := by decide +kernel
theorem dX3_hasSameNamesAs_54 : decode cX3_hasSameNamesAs 54 = .ok (.aload_n 1, 1) := by decide +kernel
theorem dX3_hasSameNamesAs_55 : decode cX3_hasSameNamesAs 55 = .ok (.getfield 24, 3) := by decide +kernel
theorem dX3_hasSameNamesAs_58 : decode cX3_hasSameNamesAs 58 = .ok (.iload_n 2, 1) := by decide +kernel
theorem dX3_hasSameNamesAs_59 : decode cX3_hasSameNamesAs 59 = .ok (.invokestatic 67, 3) := by decide +kernel
theorem dX3_hasSameNamesAs_62 : decode cX3_hasSameNamesAs 62 = .ok (.if_icmp .eq 5, 3) := by decide +kernel
theorem dX3_hasSameNamesAs_65 : decode cX3_hasSameNamesAs 65 = .ok (.iconst 0, 1) := by decide +kernel
theorem dX3_hasSameNamesAs_66 : decode cX3_hasSameNamesAs 66 = .ok (.ireturn, 1) := by decide +kernel
theorem dX3_hasSameNamesAs_67 : decode cX3_hasSameNamesAs 67 = .ok (.iinc 2 1, 3) := by decide +kernel
theorem dX3_hasSameNamesAs_70 : decode cX3_hasSameNamesAs 70 = .ok (.goto (-68), 3) := by decide +kernel
theorem dX3_hasSameNamesAs_73 : decode cX3_hasSameNamesAs 73 = .ok (.iconst 1, 1) := by decide +kernel
theorem dX3_hasSameNamesAs_74 : decode cX3_hasSameNamesAs 74 = .ok (.ireturn, 1) := by decide +kernel
theorem dX3_hasSameLimitsAs_0 : decode cX3_hasSameLimitsAs 0 = .ok (.aload_n 0, 1) := by decide +kernel
theorem dX3_hasSameLimitsAs_1 : decode cX3_hasSameLimitsAs 1 = .ok (.getfield 42, 3) := by decide +kernel
theorem dX3_hasSameLimitsAs_4 : decode cX3_hasSameLimitsAs 4 = .ok (.aload_n 1, 1) := by decide +kernel
theorem dX3_hasSameLimitsAs_5 : decode cX3_hasSameLimitsAs 5 = .ok (.getfield 42, 3) := by decide +kernel
theorem dX3_hasSameLimitsAs_8 : decode cX3_hasSameLimitsAs 8 = .ok (.if_icmp .ne 73, 3) := by decide +kernel
theorem dX3_hasSameLimitsAs_11 : decode cX3_hasSameLimitsAs 11 = .ok (.aload_n 0, 1) := by decide +kernel
theorem dX3_hasSameLimitsAs_12 : decode cX3_hasSameLimitsAs 12 = .ok (.getfield 45, 3) := by decide +kernel
theorem dX3_hasSameLimitsAs_15 : decode cX3_hasSameLimitsAs 15 = .ok (.aload_n 1, 1) := by decide +kernel
theorem dX3_hasSameLimitsAs_16 : decode cX3_hasSameLimitsAs 16 = .ok (.getfield 45, 3) := by decide +kernel
theorem dX3_hasSameLimitsAs_19 : decode cX3_hasSameLimitsAs 19 = .ok (.if_icmp .ne 62, 3) := by decide +kernel
theorem dX3_hasSameLimitsAs_22 : decode cX3_hasSameLimitsAs 22 = .ok (.aload_n 0, 1) := by decide +kernel
theorem dX3_hasSameLimitsAs_23 : decode cX3_hasSameLimitsAs 23 = .ok (.getfield 48, 3) := by decide +kernel
theorem dX3_hasSameLimitsAs_26 : decode cX3_hasSameLimitsAs 26 = .ok (.aload_n 1, 1) := by decide +kernel
theorem dX3_hasSameLimitsAs_27 : decode cX3_hasSameLimitsAs 27 = .ok (.getfield 48, 3) := by decide +kernel
theorem dX3_hasSameLimitsAs_30 : decode cX3_hasSameLimitsAs 30 = .ok (.if_icmp .ne 51, 3) := by decide +kernel
theorem dX3_hasSameLimitsAs_33 : decode cX3_hasSameLimitsAs 33 = .ok (.aload_n 0, 1) := by decide +kernel
theorem dX3_hasSameLimitsAs_34 : decode cX3_hasSameLimitsAs 34 = .ok (.getfield 51, 3) := by decide +kernel
theorem dX3_hasSameLimitsAs_37 : decode cX3_hasSameLimitsAs 37 = .ok (.aload_n 1, 1) := by decide +kernel
theorem dX3_hasSameLimitsAs_38 : decode cX3_hasSameLimitsAs 38 = .ok (.getfield 51, 3) := by decide +kernel
theorem dX3_hasSameLimitsAs_41 : decode cX3_hasSameLimitsAs 41 = .ok (.if_icmp .ne 40, 3) := by decide +kernel
theorem dX3_hasSameLimitsAs_44 : decode cX3_hasSameLimitsAs 44 = .ok (.aload_n 0, 1) := by decide +kernel
theorem dX3_hasSameLimitsAs_45 : decode cX3_hasSameLimitsAs 45 = .ok (.getfield 54, 3) := by decide +kernel
theorem dX3_hasSameLimitsAs_48 : decode cX3_hasSameLimitsAs 48 = .ok (.aload_n 1, 1) := by decide +kernel
theorem dX3_hasSameLimitsAs_49 : decode cX3_hasSameLimitsAs 49 = .ok (.getfield 54, 3) := by decide +kernel
theorem dX3_hasSameLimitsAs_52 : decode cX3_hasSameLimitsAs 52 = .ok (.if_icmp .ne 29, 3) := by decide +kernel
theorem dX3_hasSameLimitsAs_55 : decode cX3_hasSameLimitsAs 55 = .ok (.aload_n 0, 1) := by decide +kernel
theorem dX3_hasSameLimitsAs_56 : decode cX3_hasSameLimitsAs 56 = .ok (.getfield 57, 3) := by decide +kernel
theorem dX3_hasSameLimitsAs_59 : decode cX3_hasSameLimitsAs 59 = .ok (.aload_n 1, 1) := by decide +kernel
theorem dX3_hasSameLimitsAs_60 : decode cX3_hasSameLimitsAs 60 = .ok (.getfield 57, 3) := by decide +kernel
theorem dX3_hasSameLimitsAs_63 : decode cX3_hasSameLimitsAs 63 = .ok (.if_icmp .ne 18, 3) := by decide +kernel
theorem dX3_hasSameLimitsAs_66 : decode cX3_hasSameLimitsAs 66 = .ok (.aload_n 0, 1) := by decide +kernel
theorem dX3_hasSameLimitsAs_67 : decode cX3_hasSameLimitsAs 67 = .ok (.getfield 60, 3) := by decide +kernel
theorem dX3_hasSameLimitsAs_70 : decode cX3_hasSameLimitsAs 70 = .ok (.aload_n 1, 1) := by decide +kernel
theorem dX3_hasSameLimitsAs_71 : decode cX3_hasSameLimitsAs 71 = .ok (.getfield 60, 3) := by decide +kernel
theorem dX3_hasSameLimitsAs_74 : decode cX3_hasSameLimitsAs 74 = .ok (.if_icmp .ne 7, 3) := by decide +kernel
theorem dX3_hasSameLimitsAs_77 : decode cX3_hasSameLimitsAs 77 = .ok (.iconst 1, 1) := by decide +kernel
theorem dX3_hasSameLimitsAs_78 : decode cX3_hasSameLimitsAs 78 = .ok (.goto 4, 3) := by decide +kernel
theorem dX3_hasSameLimitsAs_81 : decode cX3_hasSameLimitsAs 81 = .ok (.iconst 0, 1) := by decide +kernel
theorem dX3_hasSameLimitsAs_82 : decode cX3_hasSameLimitsAs 82 = .ok (.ireturn, 1) := by decide +kernel
theorem dX4_init_0 : decode cX4_init 0 = .ok (.aload_n 0, 1) := by decide +kernel
theorem dX4_init_1 : decode cX4_init 1 = .ok (.invokespecial 3, 3) := by decide +kernel
theorem dX4_init_4 : decode cX4_init 4 = .ok (.aload_n 0, 1) := by decide +kernel
theorem dX4_init_5 : decode cX4_init 5 = .ok (.sipush 1500, 3) := by decide +kernel
theorem dX4_init_8 : decode cX4_init 8 = .ok (.newarray .int, 2) := by decide +kernel
theorem dX4_init_10 : decode cX4_init 10 = .ok (.putfield 9, 3) := by decide +kernel
theorem dX4_init_13 : decode cX4_init 13 = .ok (.return_, 1) := by decide +kernel
theorem dX4_start_0 : decode cX4_start 0 = .ok (.aload_n 0, 1) := by decide +kernel
theorem dX4_start_1 : decode cX4_start 1 = .ok (.iconst 0, 1) := by decide +kernel
theorem dX4_start_2 : decode cX4_start 2 = .ok (.putfield 15, 3) := by decide +kernel
theorem dX4_start_5 : decode cX4_start 5 = .ok (.return_, 1) := by decide +kernel
theorem dX4_addKind_0 : decode cX4_addKind 0 = .ok (.aload_n 2, 1) := by decide +kernel
theorem dX4_addKind_1 : decode cX4_addKind 1 = .ok (.ifnonnull 4, 3) := by decide +kernel
theorem dX4_addKind_4 : decode cX4_addKind 4 = .ok (.return_, 1) := by decide +kernel
theorem dX4_addKind_5 : decode cX4_addKind 5 = .ok (.aload_n 0, 1) := by decide +kernel
theorem dX4_addKind_6 : decode cX4_addKind 6 = .ok (.bipush 75, 2) := by decide +kernel
theorem dX4_addKind_8 : decode cX4_addKind 8 = .ok (.iload_n 1, 1) := by decide +kernel
theorem dX4_addKind_9 : decode cX4_addKind 9 = .ok (.iconst (-1), 1) := by decide +kernel
theorem dX4_addKind_10 : decode cX4_addKind 10 = .ok (.iconst (-1), 1) := by decide +kernel
theorem dX4_addKind_11 : decode cX4_addKind 11 = .ok (.invokevirtual 19, 3) := by decide +kernel
theorem dX4_addKind_14 : decode cX4_addKind 14 = .ok (.iconst 0, 1) := by decide +kernel
theorem dX4_addKind_15 : decode cX4_addKind 15 = .ok (.istore_n 3, 1) := by decide +kernel
theorem dX4_addKind_16 : decode cX4_addKind 16 = .ok (.iload_n 3, 1) := by decide +kernel
theorem dX4_addKind_17 : decode cX4_addKind 17 = .ok (.aload_n 2, 1) := by decide +kernel
theorem dX4_addKind_18 : decode cX4_addKind 18 = .ok (.getfield 23, 3) := by decide +kernel
theorem dX4_addKind_21 : decode cX4_addKind 21 = .ok (.if_icmp .ge 32, 3) := by decide +kernel
theorem dX4_addKind_24 : decode cX4_addKind 24 = .ok (.aload_n 0, 1) := by decide +kernel
theorem dX4_addKind_25 : decode cX4_addKind 25 = .ok (.bipush 83, 2) := by decide +kernel
theorem dX4_addKind_27 : decode cX4_addKind 27 = .ok (.aload_n 2, 1) := by decide +kernel
theorem dX4_addKind_28 : decode cX4_addKind 28 = .ok (.getfield 28, 3) := by decide +kernel
theorem dX4_addKind_31 : decode cX4_addKind 31 = .ok (.iload_n 3, 1) := by decide +kernel
theorem dX4_addKind_32 : decode cX4_addKind 32 = .ok (.invokestatic 31, 3) := by decide +kernel
theorem dX4_addKind_35 : decode cX4_addKind 35 = .ok (.aload_n 2, 1) := by decide +kernel
theorem dX4_addKind_36 : decode cX4_addKind 36 = .ok (.getfield 35, 3) := by decide +kernel
theorem dX4_addKind_39 : decode cX4_addKind 39 = .ok (.iload_n 3, 1) := by decide +kernel
theorem dX4_addKind_40 : decode cX4_addKind 40 = .ok (.invokestatic 31, 3) := by decide +kernel
theorem dX4_addKind_43 : decode cX4_addKind 43 = .ok (.iconst (-1), 1) := by decide +kernel
theorem dX4_addKind_44 : decode cX4_addKind 44 = .ok (.invokevirtual 19, 3) := by decide +kernel
theorem dX4_addKind_47 : decode cX4_addKind 47 = .ok (.iinc 3 1, 3) := by decide +kernel
theorem dX4_addKind_50 : decode cX4_addKind 50 = .ok (.goto (-34), 3) := by decide +kernel
theorem dX4_addKind_53 : decode cX4_addKind 53 = .ok (.aload_n 0, 1) := by decide +kernel
theorem dX4_addKind_54 : decode cX4_addKind 54 = .ok (.bipush 90, 2) := by decide +kernel
theorem dX4_addKind_56 : decode cX4_addKind 56 = .ok (.aload_n 2, 1) := by decide +kernel
theorem dX4_addKind_57 : decode cX4_addKind 57 = .ok (.getfield 38, 3) := by decide +kernel
theorem dX4_addKind_60 : decode cX4_addKind 60 = .ok (.invokevirtual 41, 3) := by decide +kernel
theorem dX4_addKind_63 : decode cX4_addKind 63 = .ok (.aload_n 0, 1) := by decide +kernel
theorem dX4_addKind_64 : decode cX4_addKind 64 = .ok (.bipush 88, 2) := by decide +kernel
theorem dX4_addKind_66 : decode cX4_addKind 66 = .ok (.aload_n 2, 1) := by decide +kernel
theorem dX4_addKind_67 : decode cX4_addKind 67 = .ok (.getfield 45, 3) := by decide +kernel
theorem dX4_addKind_70 : decode cX4_addKind 70 = .ok (.invokevirtual 41, 3) := by decide +kernel
theorem dX4_addKind_73 : decode cX4_addKind 73 = .ok (.aload_n 0, 1) := by decide +kernel
theorem dX4_addKind_74 : decode cX4_addKind 74 = .ok (.aload_n 2, 1) := by decide +kernel
theorem dX4_addKind_75 : decode cX4_addKind 75 = .ok (.invokevirtual 48, 3) := by decide +kernel
theorem dX4_addKind_78 : decode cX4_addKind 78 = .ok (.aload_n 0, 1) := by decide +kernel
theorem dX4_addKind_79 : decode cX4_addKind 79 = .ok (.aload_n 2, 1) := by decide +kernel
theorem dX4_addKind_80 : decode cX4_addKind 80 = .ok (.invokevirtual 52, 3) := by decide +kernel
theorem dX4_addKind_83 : decode cX4_addKind 83 = .ok (.return_, 1) := by decide +kernel
theorem dX4_addNamed_0 : decode cX4_addNamed 0 = .ok (.iconst 0, 1) := by decide +kernel
theorem dX4_addNamed_1 : decode cX4_addNamed 1 = .ok (.istore_n 3, 1) := by decide +kernel
theorem dX4_addNamed_2 : decode cX4_addNamed 2 = .ok (.iload_n 3, 1) := by decide +kernel
theorem dX4_addNamed_3 : decode cX4_addNamed 3 = .ok (.bipush 10, 2) := by decide +kernel
theorem dX4_addNamed_5 : decode cX4_addNamed 5 = .ok (.if_icmp .ge 31, 3) := by decide +kernel
theorem dX4_addNamed_8 : decode cX4_addNamed 8 = .ok (.aload_n 2, 1) := by decide +kernel
theorem dX4_addNamed_9 : decode cX4_addNamed 9 = .ok (.iload_n 3, 1) := by decide +kernel
theorem dX4_addNamed_10 : decode cX4_addNamed 10 = .ok (.invokestatic 31, 3) := by decide +kernel
theorem dX4_addNamed_13 : decode cX4_addNamed 13 = .ok (.istore 4, 2) := by decide +kernel
theorem dX4_addNamed_15 : decode cX4_addNamed 15 = .ok (.iload 4, 2) := by decide +kernel
theorem dX4_addNamed_17 : decode cX4_addNamed 17 = .ok (.iconst (-1), 1) := by decide +kernel
theorem dX4_addNamed_18 : decode cX4_addNamed 18 = .ok (.if_icmp .eq 12, 3) := by decide +kernel
theorem dX4_addNamed_21 : decode cX4_addNamed 21 = .ok (.aload_n 0, 1) := by decide +kernel
theorem dX4_addNamed_22 : decode cX4_addNamed 22 = .ok (.iload_n 1, 1) := by decide +kernel
theorem dX4_addNamed_23 : decode cX4_addNamed 23 = .ok (.iload_n 3, 1) := by decide +kernel
theorem dX4_addNamed_24 : decode cX4_addNamed 24 = .ok (.iload 4, 2) := by decide +kernel
theorem dX4_addNamed_26 : decode cX4_addNamed 26 = .ok (.iconst (-1), 1) := by decide +kernel
theorem dX4_addNamed_27 : decode cX4_addNamed 27 = .ok (.invokevirtual 19, 3) := by decide +kernel
theorem dX4_addNamed_30 : decode cX4_addNamed 30 = .ok (.iinc 3 1, 3) := by decide +kernel
theorem dX4_addNamed_33 : decode cX4_addNamed 33 = .ok (.goto (-31), 3) := by decide +kernel
theorem dX4_addNamed_36 : decode cX4_addNamed 36 = .ok (.return_, 1) := by decide +kernel
theorem dX4_addExclusions_0 : decode cX4_addExclusions 0 = .ok (.iconst 0, 1) := by decide +kernel
theorem dX4_addExclusions_1 : decode cX4_addExclusions 1 = .ok (.istore_n 2, 1) := by decide +kernel
theorem dX4_addExclusions_2 : decode cX4_addExclusions 2 = .ok (.iload_n 2, 1) := by decide +kernel
theorem dX4_addExclusions_3 : decode cX4_addExclusions 3 = .ok (.bipush 10, 2) := by decide +kernel
theorem dX4_addExclusions_5 : decode cX4_addExclusions 5 = .ok (.if_icmp .ge 43, 3) := by decide +kernel
theorem dX4_addExclusions_8 : decode cX4_addExclusions 8 = .ok (.iload_n 2, 1) := by decide +kernel
theorem dX4_addExclusions_9 : decode cX4_addExclusions 9 = .ok (.iconst 1, 1) := by decide +kernel
theorem dX4_addExclusions_10 : decode cX4_addExclusions 10 = .ok (.iadd, 1) := by decide +kernel
theorem dX4_addExclusions_11 : decode cX4_addExclusions 11 = .ok (.istore_n 3, 1) := by decide +kernel
theorem dX4_addExclusions_12 : decode cX4_addExclusions 12 = .ok (.iload_n 3, 1) := by decide +kernel
theorem dX4_addExclusions_13 : decode cX4_addExclusions 13 = .ok (.bipush 10, 2) := by decide +kernel
theorem dX4_addExclusions_15 : decode cX4_addExclusions 15 = .ok (.if_icmp .ge 27, 3) := by decide +kernel
theorem dX4_addExclusions_18 : decode cX4_addExclusions 18 = .ok (.aload_n 1, 1) := by decide +kernel
theorem dX4_addExclusions_19 : decode cX4_addExclusions 19 = .ok (.iload_n 2, 1) := by decide +kernel
theorem dX4_addExclusions_20 : decode cX4_addExclusions 20 = .ok (.iload_n 3, 1) := by decide +kernel
theorem dX4_addExclusions_21 : decode cX4_addExclusions 21 = .ok (.invokevirtual 55, 3) := by decide +kernel
theorem dX4_addExclusions_24 : decode cX4_addExclusions 24 = .ok (.ifCond .eq 12, 3) := by decide +kernel
theorem dX4_addExclusions_27 : decode cX4_addExclusions 27 = .ok (.aload_n 0, 1) := by decide +kernel
theorem dX4_addExclusions_28 : decode cX4_addExclusions 28 = .ok (.bipush 69, 2) := by decide +kernel
theorem dX4_addExclusions_30 : decode cX4_addExclusions 30 = .ok (.iload_n 2, 1) := by decide +kernel
theorem dX4_addExclusions_31 : decode cX4_addExclusions 31 = .ok (.iload_n 3, 1) := by decide +kernel
theorem dX4_addExclusions_32 : decode cX4_addExclusions 32 = .ok (.iconst (-1), 1) := by decide +kernel
theorem dX4_addExclusions_33 : decode cX4_addExclusions 33 = .ok (.invokevirtual 19, 3) := by decide +kernel
theorem dX4_addExclusions_36 : decode cX4_addExclusions 36 = .ok (.iinc 3 1, 3) := by decide +kernel
theorem dX4_addExclusions_39 : decode cX4_addExclusions 39 = .ok (.goto (-27), 3) := by decide +kernel
theorem dX4_addExclusions_42 : decode cX4_addExclusions 42 = .ok (.iinc 2 1, 3) := by decide +kernel
theorem dX4_addExclusions_45 : decode cX4_addExclusions 45 = .ok (.goto (-43), 3) := by decide +kernel
theorem dX4_addExclusions_48 : decode cX4_addExclusions 48 = .ok (.return_, 1) := by decide +kernel
theorem dX4_addLimits_0 : decode cX4_addLimits 0 = .ok (.aload_n 1, 1) := by decide +kernel
theorem dX4_addLimits_1 : decode cX4_addLimits 1 = .ok (.getfield 59, 3) := by decide +kernel
theorem dX4_addLimits_4 : decode cX4_addLimits 4 = .ok (.iconst (-1), 1) := by decide +kernel
theorem dX4_addLimits_5 : decode cX4_addLimits 5 = .ok (.if_icmp .eq 21, 3) := by decide +kernel
theorem dX4_addLimits_8 : decode cX4_addLimits 8 = .ok (.aload_n 0, 1) := by decide +kernel
theorem dX4_addLimits_9 : decode cX4_addLimits 9 = .ok (.bipush 68, 2) := by decide +kernel
theorem dX4_addLimits_11 : decode cX4_addLimits 11 = .ok (.aload_n 1, 1) := by decide +kernel
theorem dX4_addLimits_12 : decode cX4_addLimits 12 = .ok (.getfield 59, 3) := by decide +kernel
theorem dX4_addLimits_15 : decode cX4_addLimits 15 = .ok (.aload_n 1, 1) := by decide +kernel
theorem dX4_addLimits_16 : decode cX4_addLimits 16 = .ok (.getfield 62, 3) := by decide +kernel
theorem dX4_addLimits_19 : decode cX4_addLimits 19 = .ok (.aload_n 1, 1) := by decide +kernel
theorem dX4_addLimits_20 : decode cX4_addLimits 20 = .ok (.getfield 65, 3) := by decide +kernel
theorem dX4_addLimits_23 : decode cX4_addLimits 23 = .ok (.invokevirtual 19, 3) := by decide +kernel
theorem dX4_addLimits_26 : decode cX4_addLimits 26 = .ok (.aload_n 1, 1) := by decide +kernel
theorem dX4_addLimits_27 : decode cX4_addLimits 27 = .ok (.getfield 68, 3) := by decide +kernel
theorem dX4_addLimits_30 : decode cX4_addLimits 30 = .ok (.iconst (-1), 1) := by decide +kernel
theorem dX4_addLimits_31 : decode cX4_addLimits 31 = .ok (.if_icmp .eq 15, 3) := by decide +kernel
theorem dX4_addLimits_34 : decode cX4_addLimits 34 = .ok (.aload_n 0, 1) := by decide +kernel
theorem dX4_addLimits_35 : decode cX4_addLimits 35 = .ok (.bipush 77, 2) := by decide +kernel
theorem dX4_addLimits_37 : decode cX4_addLimits 37 = .ok (.aload_n 1, 1) := by decide +kernel
theorem dX4_addLimits_38 : decode cX4_addLimits 38 = .ok (.getfield 68, 3) := by decide +kernel
theorem dX4_addLimits_41 : decode cX4_addLimits 41 = .ok (.iconst (-1), 1) := by decide +kernel
theorem dX4_addLimits_42 : decode cX4_addLimits 42 = .ok (.iconst (-1), 1) := by decide +kernel
theorem dX4_addLimits_43 : decode cX4_addLimits 43 = .ok (.invokevirtual 19, 3) := by decide +kernel
theorem dX4_addLimits_46 : decode cX4_addLimits 46 = .ok (.aload_n 1, 1) := by decide +kernel
theorem dX4_addLimits_47 : decode cX4_addLimits 47 = .ok (.getfield 71, 3) := by decide +kernel
theorem dX4_addLimits_50 : decode cX4_addLimits 50 = .ok (.iconst (-1), 1) := by decide +kernel
theorem dX4_addLimits_51 : decode cX4_addLimits 51 = .ok (.if_icmp .eq 18, 3) := by decide +kernel
theorem dX4_addLimits_54 : decode cX4_addLimits 54 = .ok (.aload_n 0, 1) := by decide +kernel
theorem dX4_addLimits_55 : decode cX4_addLimits 55 = .ok (.bipush 70, 2) := by decide +kernel
theorem dX4_addLimits_57 : decode cX4_addLimits 57 = .ok (.aload_n 1, 1) := by decide +kernel
theorem dX4_addLimits_58 : decode cX4_addLimits 58 = .ok (.getfield 71, 3) := by decide +kernel
theorem dX4_addLimits_61 : decode cX4_addLimits 61 = .ok (.aload_n 1, 1) := by decide +kernel
theorem dX4_addLimits_62 : decode cX4_addLimits 62 = .ok (.getfield 74, 3) := by decide +kernel
theorem dX4_addLimits_65 : decode cX4_addLimits 65 = .ok (.iconst (-1), 1) := by decide +kernel
theorem dX4_addLimits_66 : decode cX4_addLimits 66 = .ok (.invokevirtual 19, 3) := by decide +kernel
theorem dX4_addLimits_69 : decode cX4_addLimits 69 = .ok (.aload_n 1, 1) := by decide +kernel
theorem dX4_addLimits_70 : decode cX4_addLimits 70 = .ok (.getfield 77, 3) := by decide +kernel
theorem dX4_addLimits_73 : decode cX4_addLimits 73 = .ok (.iconst (-1), 1) := by decide +kernel
theorem dX4_addLimits_74 : decode cX4_addLimits 74 = .ok (.if_icmp .eq 15, 3) := by decide +kernel
theorem dX4_addLimits_77 : decode cX4_addLimits 77 = .ok (.aload_n 0, 1) := by decide +kernel
theorem dX4_addLimits_78 : decode cX4_addLimits 78 = .ok (.bipush 82, 2) := by decide +kernel
theorem dX4_addLimits_80 : decode cX4_addLimits 80 = .ok (.aload_n 1, 1) := by decide +kernel
theorem dX4_addLimits_81 : decode cX4_addLimits 81 = .ok (.getfield 77, 3) := by decide +kernel
theorem dX4_addLimits_84 : decode cX4_addLimits 84 = .ok (.iconst (-1), 1) := by decide +kernel
theorem dX4_addLimits_85 : decode cX4_addLimits 85 = .ok (.iconst (-1), 1) := by decide +kernel
theorem dX4_addLimits_86 : decode cX4_addLimits 86 = .ok (.invokevirtual 19, 3) := by decide +kernel
theorem dX4_addLimits_89 : decode cX4_addLimits 89 = .ok (.return_, 1) := by decide +kernel
theorem dX4_addRow_0 : decode cX4_addRow 0 = .ok (.aload_n 0, 1) := by decide +kernel
theorem dX4_addRow_1 : decode cX4_addRow 1 = .ok (.getfield 15, 3) := by decide +kernel
theorem dX4_addRow_4 : decode cX4_addRow 4 = .ok (.ifCond .le 9, 3) := by decide +kernel
theorem dX4_addRow_7 : decode cX4_addRow 7 = .ok (.aload_n 0, 1) := by decide +kernel
theorem dX4_addRow_8 : decode cX4_addRow 8 = .ok (.bipush 59, 2) := by decide +kernel
theorem dX4_addRow_10 : decode cX4_addRow 10 = .ok (.invokevirtual 80, 3) := by decide +kernel
theorem dX4_addRow_13 : decode cX4_addRow 13 = .ok (.aload_n 0, 1) := by decide +kernel
theorem dX4_addRow_14 : decode cX4_addRow 14 = .ok (.iload_n 1, 1) := by decide +kernel
theorem dX4_addRow_15 : decode cX4_addRow 15 = .ok (.invokevirtual 80, 3) := by decide +kernel
theorem dX4_addRow_18 : decode cX4_addRow 18 = .ok (.aload_n 0, 1) := by decide +kernel
theorem dX4_addRow_19 : decode cX4_addRow 19 = .ok (.iload_n 2, 1) := by decide +kernel
theorem dX4_addRow_20 : decode cX4_addRow 20 = .ok (.invokevirtual 84, 3) := by decide +kernel
theorem dX4_addRow_23 : decode cX4_addRow 23 = .ok (.iload_n 3, 1) := by decide +kernel
theorem dX4_addRow_24 : decode cX4_addRow 24 = .ok (.iconst (-1), 1) := by decide +kernel
theorem dX4_addRow_25 : decode cX4_addRow 25 = .ok (.if_icmp .eq 14, 3) := by decide +kernel
theorem dX4_addRow_28 : decode cX4_addRow 28 = .ok (.aload_n 0, 1) := by decide +kernel
theorem dX4_addRow_29 : decode cX4_addRow 29 = .ok (.bipush 32, 2) := by decide +kernel
theorem dX4_addRow_31 : decode cX4_addRow 31 = .ok (.invokevirtual 80, 3) := by decide +kernel
theorem dX4_addRow_34 : decode cX4_addRow 34 = .ok (.aload_n 0, 1) := by decide +kernel
theorem dX4_addRow_35 : decode cX4_addRow 35 = .ok (.iload_n 3, 1) := by decide +kernel
theorem dX4_addRow_36 : decode cX4_addRow 36 = .ok (.invokevirtual 84, 3) := by decide +kernel
theorem dX4_addRow_39 : decode cX4_addRow 39 = .ok (.iload 4, 2) := by decide +kernel
theorem dX4_addRow_41 : decode cX4_addRow 41 = .ok (.iconst (-1), 1) := by decide +kernel
theorem dX4_addRow_42 : decode cX4_addRow 42 = .ok (.if_icmp .eq 15, 3) := by decide +kernel
theorem dX4_addRow_45 : decode cX4_addRow 45 = .ok (.aload_n 0, 1) := by decide +kernel
theorem dX4_addRow_46 : decode cX4_addRow 46 = .ok (.bipush 32, 2) := by decide +kernel
theorem dX4_addRow_48 : decode cX4_addRow 48 = .ok (.invokevirtual 80, 3) := by decide +kernel
theorem dX4_addRow_51 : decode cX4_addRow 51 = .ok (.aload_n 0, 1) := by decide +kernel
theorem dX4_addRow_52 : decode cX4_addRow 52 = .ok (.iload 4, 2) := by decide +kernel
theorem dX4_addRow_54 : decode cX4_addRow 54 = .ok (.invokevirtual 84, 3) := by decide +kernel
theorem dX4_addRow_57 : decode cX4_addRow 57 = .ok (.return_, 1) := by decide +kernel
theorem dX4_addNumber_0 : decode cX4_addNumber 0 = .ok (.iconst 1, 1) := by decide +kernel
theorem dX4_addNumber_1 : decode cX4_addNumber 1 = .ok (.istore_n 2, 1) := by decide +kernel
theorem dX4_addNumber_2 : decode cX4_addNumber 2 = .ok (.iconst 1, 1) := by decide +kernel
theorem dX4_addNumber_3 : decode cX4_addNumber 3 = .ok (.istore_n 3, 1) := by decide +kernel
theorem dX4_addNumber_4 : decode cX4_addNumber 4 = .ok (.iload_n 3, 1) := by decide +kernel
theorem dX4_addNumber_5 : decode cX4_addNumber 5 = .ok (.bipush 7, 2) := by decide +kernel
theorem dX4_addNumber_7 : decode cX4_addNumber 7 = .ok (.if_icmp .ge 22, 3) := by decide +kernel
theorem dX4_addNumber_10 : decode cX4_addNumber 10 = .ok (.iload_n 1, 1) := by decide +kernel
theorem dX4_addNumber_11 : decode cX4_addNumber 11 = .ok (.iload_n 2, 1) := by decide +kernel
theorem dX4_addNumber_12 : decode cX4_addNumber 12 = .ok (.bipush 10, 2) := by decide +kernel
theorem dX4_addNumber_14 : decode cX4_addNumber 14 = .ok (.imul, 1) := by decide +kernel
theorem dX4_addNumber_15 : decode cX4_addNumber 15 = .ok (.if_icmp .lt 14, 3) := by decide +kernel
theorem dX4_addNumber_18 : decode cX4_addNumber 18 = .ok (.iload_n 2, 1) := by decide +kernel
theorem dX4_addNumber_19 : decode cX4_addNumber 19 = .ok (.bipush 10, 2) := by decide +kernel
theorem dX4_addNumber_21 : decode cX4_addNumber 21 = .ok (.imul, 1) := by decide +kernel
theorem dX4_addNumber_22 : decode cX4_addNumber 22 = .ok (.istore_n 2, 1) := by decide +kernel
theorem dX4_addNumber_23 : decode cX4_addNumber 23 = .ok (.iinc 3 1, 3) := by decide +kernel
theorem dX4_addNumber_26 : decode cX4_addNumber 26 = .ok (.goto (-22), 3) := by decide +kernel
theorem dX4_addNumber_29 : decode cX4_addNumber 29 = .ok (.iload_n 2, 1) := by decide +kernel
theorem dX4_addNumber_30 : decode cX4_addNumber 30 = .ok (.ifCond .le 24, 3) := by decide +kernel
theorem dX4_addNumber_33 : decode cX4_addNumber 33 = .ok (.aload_n 0, 1) := by decide +kernel
theorem dX4_addNumber_34 : decode cX4_addNumber 34 = .ok (.bipush 48, 2) := by decide +kernel
theorem dX4_addNumber_36 : decode cX4_addNumber 36 = .ok (.iload_n 1, 1) := by decide +kernel
theorem dX4_addNumber_37 : decode cX4_addNumber 37 = .ok (.iload_n 2, 1) := by decide +kernel
theorem dX4_addNumber_38 : decode cX4_addNumber 38 = .ok (.idiv, 1) := by decide +kernel
theorem dX4_addNumber_39 : decode cX4_addNumber 39 = .ok (.bipush 10, 2) := by decide +kernel
theorem dX4_addNumber_41 : decode cX4_addNumber 41 = .ok (.irem, 1) := by decide +kernel
theorem dX4_addNumber_42 : decode cX4_addNumber 42 = .ok (.iadd, 1) := by decide +kernel
theorem dX4_addNumber_43 : decode cX4_addNumber 43 = .ok (.invokevirtual 80, 3) := by decide +kernel
theorem dX4_addNumber_46 : decode cX4_addNumber 46 = .ok (.iload_n 2, 1) := by decide +kernel
theorem dX4_addNumber_47 : decode cX4_addNumber 47 = .ok (.bipush 10, 2) := by decide +kernel
theorem dX4_addNumber_49 : decode cX4_addNumber 49 = .ok (.idiv, 1) := by decide +kernel
theorem dX4_addNumber_50 : decode cX4_addNumber 50 = .ok (.istore_n 2, 1) := by decide +kernel
theorem dX4_addNumber_51 : decode cX4_addNumber 51 = .ok (.goto (-22), 3) := by decide +kernel
theorem dX4_addNumber_54 : decode cX4_addNumber 54 = .ok (.return_, 1) := by decide +kernel
theorem dX4_addSign_0 : decode cX4_addSign 0 = .ok (.aload_n 0, 1) := by decide +kernel
theorem dX4_addSign_1 : decode cX4_addSign 1 = .ok (.getfield 15, 3) := by decide +kernel
theorem dX4_addSign_4 : decode cX4_addSign 4 = .ok (.sipush 1500, 3) := by decide +kernel
theorem dX4_addSign_7 : decode cX4_addSign 7 = .ok (.if_icmp .ge 25, 3) := by decide +kernel
theorem dX4_addSign_10 : decode cX4_addSign 10 = .ok (.aload_n 0, 1) := by decide +kernel
theorem dX4_addSign_11 : decode cX4_addSign 11 = .ok (.getfield 9, 3) := by decide +kernel
theorem dX4_addSign_14 : decode cX4_addSign 14 = .ok (.aload_n 0, 1) := by decide +kernel
theorem dX4_addSign_15 : decode cX4_addSign 15 = .ok (.getfield 15, 3) := by decide +kernel
theorem dX4_addSign_18 : decode cX4_addSign 18 = .ok (.iload_n 1, 1) := by decide +kernel
theorem dX4_addSign_19 : decode cX4_addSign 19 = .ok (.invokestatic 87, 3) := by decide +kernel
theorem dX4_addSign_22 : decode cX4_addSign 22 = .ok (.aload_n 0, 1) := by decide +kernel
theorem dX4_addSign_23 : decode cX4_addSign 23 = .ok (.dup, 1) := by decide +kernel
theorem dX4_addSign_24 : decode cX4_addSign 24 = .ok (.getfield 15, 3) := by decide +kernel
theorem dX4_addSign_27 : decode cX4_addSign 27 = .ok (.iconst 1, 1) := by decide +kernel
theorem dX4_addSign_28 : decode cX4_addSign 28 = .ok (.iadd, 1) := by decide +kernel
theorem dX4_addSign_29 : decode cX4_addSign 29 = .ok (.putfield 15, 3) := by decide +kernel
theorem dX4_addSign_32 : decode cX4_addSign 32 = .ok (.return_, 1) := by decide +kernel
theorem dX5_init_0 : decode cX5_init 0 = .ok (.aload_n 0, 1) := by decide +kernel
theorem dX5_init_1 : decode cX5_init 1 = .ok (.invokespecial 3, 3) := by decide +kernel
theorem dX5_init_4 : decode cX5_init 4 = .ok (.aload_n 0, 1) := by decide +kernel
theorem dX5_init_5 : decode cX5_init 5 = .ok (.sipush 1500, 3) := by decide +kernel
theorem dX5_init_8 : decode cX5_init 8 = .ok (.newarray .int, 2) := by decide +kernel
theorem dX5_init_10 : decode cX5_init 10 = .ok (.putfield 9, 3) := by decide +kernel
theorem dX5_init_13 : decode cX5_init 13 = .ok (.aload_n 0, 1) := by decide +kernel
theorem dX5_init_14 : decode cX5_init 14 = .ok (.iconst 3, 1) := by decide +kernel
theorem dX5_init_15 : decode cX5_init 15 = .ok (.newarray .int, 2) := by decide +kernel
theorem dX5_init_17 : decode cX5_init 17 = .ok (.putfield 15, 3) := by decide +kernel
theorem dX5_init_20 : decode cX5_init 20 = .ok (.return_, 1) := by decide +kernel
theorem dX5_append_0 : decode cX5_append 0 = .ok (.aload_n 0, 1) := by decide +kernel
theorem dX5_append_1 : decode cX5_append 1 = .ok (.getfield 18, 3) := by decide +kernel
theorem dX5_append_4 : decode cX5_append 4 = .ok (.sipush 1500, 3) := by decide +kernel
theorem dX5_append_7 : decode cX5_append 7 = .ok (.if_icmp .ge 25, 3) := by decide +kernel
theorem dX5_append_10 : decode cX5_append 10 = .ok (.aload_n 0, 1) := by decide +kernel
theorem dX5_append_11 : decode cX5_append 11 = .ok (.getfield 9, 3) := by decide +kernel
theorem dX5_append_14 : decode cX5_append 14 = .ok (.aload_n 0, 1) := by decide +kernel
theorem dX5_append_15 : decode cX5_append 15 = .ok (.getfield 18, 3) := by decide +kernel
theorem dX5_append_18 : decode cX5_append 18 = .ok (.iload_n 1, 1) := by decide +kernel
theorem dX5_append_19 : decode cX5_append 19 = .ok (.invokestatic 22, 3) := by decide +kernel
theorem dX5_append_22 : decode cX5_append 22 = .ok (.aload_n 0, 1) := by decide +kernel
theorem dX5_append_23 : decode cX5_append 23 = .ok (.dup, 1) := by decide +kernel
theorem dX5_append_24 : decode cX5_append 24 = .ok (.getfield 18, 3) := by decide +kernel
theorem dX5_append_27 : decode cX5_append 27 = .ok (.iconst 1, 1) := by decide +kernel
theorem dX5_append_28 : decode cX5_append 28 = .ok (.iadd, 1) := by decide +kernel
theorem dX5_append_29 : decode cX5_append 29 = .ok (.putfield 18, 3) := by decide +kernel
theorem dX5_append_32 : decode cX5_append 32 = .ok (.return_, 1) := by decide +kernel
theorem dX5_empty_0 : decode cX5_empty 0 = .ok (.aload_n 0, 1) := by decide +kernel
theorem dX5_empty_1 : decode cX5_empty 1 = .ok (.iconst 0, 1) := by decide +kernel
theorem dX5_empty_2 : decode cX5_empty 2 = .ok (.putfield 18, 3) := by decide +kernel
theorem dX5_empty_5 : decode cX5_empty 5 = .ok (.return_, 1) := by decide +kernel
theorem dX5_readInto_0 : decode cX5_readInto 0 = .ok (.aload_n 1, 1) := by decide +kernel
theorem dX5_readInto_1 : decode cX5_readInto 1 = .ok (.invokevirtual 26, 3) := by decide +kernel
theorem dX5_readInto_4 : decode cX5_readInto 4 = .ok (.aload_n 0, 1) := by decide +kernel
theorem dX5_readInto_5 : decode cX5_readInto 5 = .ok (.aload_n 1, 1) := by decide +kernel
theorem dX5_readInto_6 : decode cX5_readInto 6 = .ok (.putfield 31, 3) := by decide +kernel
theorem dX5_readInto_9 : decode cX5_readInto 9 = .ok (.aload_n 0, 1) := by decide +kernel
theorem dX5_readInto_10 : decode cX5_readInto 10 = .ok (.aconst_null, 1) := by decide +kernel
theorem dX5_readInto_11 : decode cX5_readInto 11 = .ok (.putfield 35, 3) := by decide +kernel
theorem dX5_readInto_14 : decode cX5_readInto 14 = .ok (.aload_n 0, 1) := by decide +kernel
theorem dX5_readInto_15 : decode cX5_readInto 15 = .ok (.iconst 0, 1) := by decide +kernel
theorem dX5_readInto_16 : decode cX5_readInto 16 = .ok (.putfield 39, 3) := by decide +kernel
theorem dX5_readInto_19 : decode cX5_readInto 19 = .ok (.aload_n 0, 1) := by decide +kernel
theorem dX5_readInto_20 : decode cX5_readInto 20 = .ok (.iconst (-1), 1) := by decide +kernel
theorem dX5_readInto_21 : decode cX5_readInto 21 = .ok (.putfield 42, 3) := by decide +kernel
theorem dX5_readInto_24 : decode cX5_readInto 24 = .ok (.iconst 0, 1) := by decide +kernel
theorem dX5_readInto_25 : decode cX5_readInto 25 = .ok (.istore_n 2, 1) := by decide +kernel
theorem dX5_readInto_26 : decode cX5_readInto 26 = .ok (.aload_n 0, 1) := by decide +kernel
theorem dX5_readInto_27 : decode cX5_readInto 27 = .ok (.getfield 18, 3) := by decide +kernel
theorem dX5_readInto_30 : decode cX5_readInto 30 = .ok (.ifCond .le 7, 3) := by decide +kernel
theorem dX5_readInto_33 : decode cX5_readInto 33 = .ok (.iconst 1, 1) := by decide +kernel
theorem dX5_readInto_34 : decode cX5_readInto 34 = .ok (.goto 4, 3) := by decide +kernel
theorem dX5_readInto_37 : decode cX5_readInto 37 = .ok (.iconst 0, 1) := by decide +kernel
theorem dX5_readInto_38 : decode cX5_readInto 38 = .ok (.istore_n 3, 1) := by decide +kernel
theorem dX5_readInto_39 : decode cX5_readInto 39 = .ok (.iload_n 3, 1) := by decide +kernel
theorem dX5_readInto_40 : decode cX5_readInto 40 = .ok (.ifCond .eq 55, 3) := by decide +kernel
theorem dX5_readInto_43 : decode cX5_readInto 43 = .ok (.aload_n 0, 1) := by decide +kernel
theorem dX5_readInto_44 : decode cX5_readInto 44 = .ok (.getfield 42, 3) := by decide +kernel
theorem dX5_readInto_47 : decode cX5_readInto 47 = .ok (.iconst (-1), 1) := by decide +kernel
theorem dX5_readInto_48 : decode cX5_readInto 48 = .ok (.if_icmp .ne 47, 3) := by decide +kernel
theorem dX5_readInto_51 : decode cX5_readInto 51 = .ok (.iload_n 2, 1) := by decide +kernel
theorem dX5_readInto_52 : decode cX5_readInto 52 = .ok (.sipush 1500, 3) := by decide +kernel
theorem dX5_readInto_55 : decode cX5_readInto 55 = .ok (.if_icmp .ge 40, 3) := by decide +kernel
theorem dX5_readInto_58 : decode cX5_readInto 58 = .ok (.aload_n 0, 1) := by decide +kernel
theorem dX5_readInto_59 : decode cX5_readInto 59 = .ok (.invokevirtual 45, 3) := by decide +kernel
theorem dX5_readInto_62 : decode cX5_readInto 62 = .ok (.iinc 2 1, 3) := by decide +kernel
theorem dX5_readInto_65 : decode cX5_readInto 65 = .ok (.aload_n 0, 1) := by decide +kernel
theorem dX5_readInto_66 : decode cX5_readInto 66 = .ok (.getfield 39, 3) := by decide +kernel
theorem dX5_readInto_69 : decode cX5_readInto 69 = .ok (.aload_n 0, 1) := by decide +kernel
theorem dX5_readInto_70 : decode cX5_readInto 70 = .ok (.getfield 18, 3) := by decide +kernel
theorem dX5_readInto_73 : decode cX5_readInto 73 = .ok (.if_icmp .ge 7, 3) := by decide +kernel
theorem dX5_readInto_76 : decode cX5_readInto 76 = .ok (.iconst 1, 1) := by decide +kernel
theorem dX5_readInto_77 : decode cX5_readInto 77 = .ok (.goto 4, 3) := by decide +kernel
theorem dX5_readInto_80 : decode cX5_readInto 80 = .ok (.iconst 0, 1) := by decide +kernel
theorem dX5_readInto_81 : decode cX5_readInto 81 = .ok (.istore_n 3, 1) := by decide +kernel
theorem dX5_readInto_82 : decode cX5_readInto 82 = .ok (.iload_n 3, 1) := by decide +kernel
theorem dX5_readInto_83 : decode cX5_readInto 83 = .ok (.ifCond .eq (-44), 3) := by decide +kernel
theorem dX5_readInto_86 : decode cX5_readInto 86 = .ok (.aload_n 0, 1) := by decide +kernel
theorem dX5_readInto_87 : decode cX5_readInto 87 = .ok (.bipush 59, 2) := by decide +kernel
theorem dX5_readInto_89 : decode cX5_readInto 89 = .ok (.invokevirtual 48, 3) := by decide +kernel
theorem dX5_readInto_92 : decode cX5_readInto 92 = .ok (.goto (-53), 3) := by decide +kernel
theorem dX5_readInto_95 : decode cX5_readInto 95 = .ok (.aload_n 0, 1) := by decide +kernel
theorem dX5_readInto_96 : decode cX5_readInto 96 = .ok (.getfield 42, 3) := by decide +kernel
theorem dX5_readInto_99 : decode cX5_readInto 99 = .ok (.iconst (-1), 1) := by decide +kernel
theorem dX5_readInto_100 : decode cX5_readInto 100 = .ok (.if_icmp .ne 28, 3) := by decide +kernel
theorem dX5_readInto_103 : decode cX5_readInto 103 = .ok (.aload_n 0, 1) := by decide +kernel
theorem dX5_readInto_104 : decode cX5_readInto 104 = .ok (.getfield 35, 3) := by decide +kernel
theorem dX5_readInto_107 : decode cX5_readInto 107 = .ok (.ifnull 21, 3) := by decide +kernel
theorem dX5_readInto_110 : decode cX5_readInto 110 = .ok (.aload_n 0, 1) := by decide +kernel
theorem dX5_readInto_111 : decode cX5_readInto 111 = .ok (.getfield 35, 3) := by decide +kernel
theorem dX5_readInto_114 : decode cX5_readInto 114 = .ok (.getfield 52, 3) := by decide +kernel
theorem dX5_readInto_117 : decode cX5_readInto 117 = .ok (.ifCond .ne 11, 3) := by decide +kernel
theorem dX5_readInto_120 : decode cX5_readInto 120 = .ok (.aload_n 0, 1) := by decide +kernel
theorem dX5_readInto_121 : decode cX5_readInto 121 = .ok (.aload_n 0, 1) := by decide +kernel
theorem dX5_readInto_122 : decode cX5_readInto 122 = .ok (.getfield 18, 3) := by decide +kernel
theorem dX5_readInto_125 : decode cX5_readInto 125 = .ok (.putfield 42, 3) := by decide +kernel
theorem dX5_readInto_128 : decode cX5_readInto 128 = .ok (.aload_n 0, 1) := by decide +kernel
theorem dX5_readInto_129 : decode cX5_readInto 129 = .ok (.getfield 42, 3) := by decide +kernel
theorem dX5_readInto_132 : decode cX5_readInto 132 = .ok (.iconst (-1), 1) := by decide +kernel
theorem dX5_readInto_133 : decode cX5_readInto 133 = .ok (.if_icmp .ne 7, 3) := by decide +kernel
theorem dX5_readInto_136 : decode cX5_readInto 136 = .ok (.iload_n 2, 1) := by decide +kernel
theorem dX5_readInto_137 : decode cX5_readInto 137 = .ok (.goto 9, 3) := by decide +kernel
theorem dX5_readInto_140 : decode cX5_readInto 140 = .ok (.iconst (-1), 1) := by decide +kernel
theorem dX5_readInto_141 : decode cX5_readInto 141 = .ok (.aload_n 0, 1) := by decide +kernel
theorem dX5_readInto_142 : decode cX5_readInto 142 = .ok (.getfield 42, 3) := by decide +kernel
theorem dX5_readInto_145 : decode cX5_readInto 145 = .ok (.isub, 1) := by decide +kernel
theorem dX5_readInto_146 : decode cX5_readInto 146 = .ok (.ireturn, 1) := by decide +kernel
theorem dX5_readRow_0 : decode cX5_readRow 0 = .ok (.aload_n 0, 1) := by decide +kernel
theorem dX5_readRow_1 : decode cX5_readRow 1 = .ok (.invokevirtual 57, 3) := by decide +kernel
theorem dX5_readRow_4 : decode cX5_readRow 4 = .ok (.istore_n 1, 1) := by decide +kernel
theorem dX5_readRow_5 : decode cX5_readRow 5 = .ok (.aload_n 0, 1) := by decide +kernel
theorem dX5_readRow_6 : decode cX5_readRow 6 = .ok (.iload_n 1, 1) := by decide +kernel
theorem dX5_readRow_7 : decode cX5_readRow 7 = .ok (.invokevirtual 61, 3) := by decide +kernel
theorem dX5_readRow_10 : decode cX5_readRow 10 = .ok (.ifCond .ne 12, 3) := by decide +kernel
theorem dX5_readRow_13 : decode cX5_readRow 13 = .ok (.aload_n 0, 1) := by decide +kernel
theorem dX5_readRow_14 : decode cX5_readRow 14 = .ok (.aload_n 0, 1) := by decide +kernel
theorem dX5_readRow_15 : decode cX5_readRow 15 = .ok (.getfield 39, 3) := by decide +kernel
theorem dX5_readRow_18 : decode cX5_readRow 18 = .ok (.putfield 42, 3) := by decide +kernel
theorem dX5_readRow_21 : decode cX5_readRow 21 = .ok (.return_, 1) := by decide +kernel
theorem dX5_readRow_22 : decode cX5_readRow 22 = .ok (.aload_n 0, 1) := by decide +kernel
theorem dX5_readRow_23 : decode cX5_readRow 23 = .ok (.dup, 1) := by decide +kernel
theorem dX5_readRow_24 : decode cX5_readRow 24 = .ok (.getfield 39, 3) := by decide +kernel
theorem dX5_readRow_27 : decode cX5_readRow 27 = .ok (.iconst 1, 1) := by decide +kernel
theorem dX5_readRow_28 : decode cX5_readRow 28 = .ok (.iadd, 1) := by decide +kernel
theorem dX5_readRow_29 : decode cX5_readRow 29 = .ok (.putfield 39, 3) := by decide +kernel
theorem dX5_readRow_32 : decode cX5_readRow 32 = .ok (.iload_n 1, 1) := by decide +kernel
theorem dX5_readRow_33 : decode cX5_readRow 33 = .ok (.invokestatic 65, 3) := by decide +kernel
theorem dX5_readRow_36 : decode cX5_readRow 36 = .ok (.istore_n 2, 1) := by decide +kernel
theorem dX5_readRow_37 : decode cX5_readRow 37 = .ok (.iconst 0, 1) := by decide +kernel
theorem dX5_readRow_38 : decode cX5_readRow 38 = .ok (.istore_n 3, 1) := by decide +kernel
theorem dX5_readRow_39 : decode cX5_readRow 39 = .ok (.iload_n 3, 1) := by decide +kernel
theorem dX5_readRow_40 : decode cX5_readRow 40 = .ok (.iload_n 2, 1) := by decide +kernel
theorem dX5_readRow_41 : decode cX5_readRow 41 = .ok (.if_icmp .ge 33, 3) := by decide +kernel
theorem dX5_readRow_44 : decode cX5_readRow 44 = .ok (.aload_n 0, 1) := by decide +kernel
theorem dX5_readRow_45 : decode cX5_readRow 45 = .ok (.getfield 42, 3) := by decide +kernel
theorem dX5_readRow_48 : decode cX5_readRow 48 = .ok (.iconst (-1), 1) := by decide +kernel
theorem dX5_readRow_49 : decode cX5_readRow 49 = .ok (.if_icmp .ne 25, 3) := by decide +kernel
theorem dX5_readRow_52 : decode cX5_readRow 52 = .ok (.iload_n 3, 1) := by decide +kernel
theorem dX5_readRow_53 : decode cX5_readRow 53 = .ok (.ifCond .le 9, 3) := by decide +kernel
theorem dX5_readRow_56 : decode cX5_readRow 56 = .ok (.aload_n 0, 1) := by decide +kernel
theorem dX5_readRow_57 : decode cX5_readRow 57 = .ok (.bipush 32, 2) := by decide +kernel
theorem dX5_readRow_59 : decode cX5_readRow 59 = .ok (.invokevirtual 48, 3) := by decide +kernel
theorem dX5_readRow_62 : decode cX5_readRow 62 = .ok (.aload_n 0, 1) := by decide +kernel
theorem dX5_readRow_63 : decode cX5_readRow 63 = .ok (.iload_n 1, 1) := by decide +kernel
theorem dX5_readRow_64 : decode cX5_readRow 64 = .ok (.iload_n 3, 1) := by decide +kernel
theorem dX5_readRow_65 : decode cX5_readRow 65 = .ok (.invokevirtual 69, 3) := by decide +kernel
theorem dX5_readRow_68 : decode cX5_readRow 68 = .ok (.iinc 3 1, 3) := by decide +kernel
theorem dX5_readRow_71 : decode cX5_readRow 71 = .ok (.goto (-32), 3) := by decide +kernel
theorem dX5_readRow_74 : decode cX5_readRow 74 = .ok (.aload_n 0, 1) := by decide +kernel
theorem dX5_readRow_75 : decode cX5_readRow 75 = .ok (.getfield 42, 3) := by decide +kernel
theorem dX5_readRow_78 : decode cX5_readRow 78 = .ok (.iconst (-1), 1) := by decide +kernel
theorem dX5_readRow_79 : decode cX5_readRow 79 = .ok (.if_icmp .ne 8, 3) := by decide +kernel
theorem dX5_readRow_82 : decode cX5_readRow 82 = .ok (.aload_n 0, 1) := by decide +kernel
theorem dX5_readRow_83 : decode cX5_readRow 83 = .ok (.iload_n 1, 1) := by decide +kernel
theorem dX5_readRow_84 : decode cX5_readRow 84 = .ok (.invokevirtual 73, 3) := by decide +kernel
theorem dX5_readRow_87 : decode cX5_readRow 87 = .ok (.return_, 1) := by decide +kernel
theorem dX5_signHere_0 : decode cX5_signHere 0 = .ok (.aload_n 0, 1) := by decide +kernel
theorem dX5_signHere_1 : decode cX5_signHere 1 = .ok (.getfield 39, 3) := by decide +kernel
theorem dX5_signHere_4 : decode cX5_signHere 4 = .ok (.aload_n 0, 1) := by decide +kernel
theorem dX5_signHere_5 : decode cX5_signHere 5 = .ok (.getfield 18, 3) := by decide +kernel
theorem dX5_signHere_8 : decode cX5_signHere 8 = .ok (.if_icmp .ge 17, 3) := by decide +kernel
theorem dX5_signHere_11 : decode cX5_signHere 11 = .ok (.aload_n 0, 1) := by decide +kernel
theorem dX5_signHere_12 : decode cX5_signHere 12 = .ok (.getfield 9, 3) := by decide +kernel
theorem dX5_signHere_15 : decode cX5_signHere 15 = .ok (.aload_n 0, 1) := by decide +kernel
theorem dX5_signHere_16 : decode cX5_signHere 16 = .ok (.getfield 39, 3) := by decide +kernel
theorem dX5_signHere_19 : decode cX5_signHere 19 = .ok (.invokestatic 76, 3) := by decide +kernel
theorem dX5_signHere_22 : decode cX5_signHere 22 = .ok (.goto 4, 3) := by decide +kernel
theorem dX5_signHere_25 : decode cX5_signHere 25 = .ok (.iconst (-1), 1) := by decide +kernel
theorem dX5_signHere_26 : decode cX5_signHere 26 = .ok (.ireturn, 1) := by decide +kernel
theorem dX5_expect_0 : decode cX5_expect 0 = .ok (.aload_n 0, 1) := by decide +kernel
theorem dX5_expect_1 : decode cX5_expect 1 = .ok (.getfield 42, 3) := by decide +kernel
theorem dX5_expect_4 : decode cX5_expect 4 = .ok (.iconst (-1), 1) := by decide +kernel
theorem dX5_expect_5 : decode cX5_expect 5 = .ok (.if_icmp .eq 4, 3) := by decide +kernel
theorem dX5_expect_8 : decode cX5_expect 8 = .ok (.return_, 1) := by decide +kernel
theorem dX5_expect_9 : decode cX5_expect 9 = .ok (.aload_n 0, 1) := by decide +kernel
theorem dX5_expect_10 : decode cX5_expect 10 = .ok (.invokevirtual 57, 3) := by decide +kernel
theorem dX5_expect_13 : decode cX5_expect 13 = .ok (.iload_n 1, 1) := by decide +kernel
theorem dX5_expect_14 : decode cX5_expect 14 = .ok (.if_icmp .ne 16, 3) := by decide +kernel
theorem dX5_expect_17 : decode cX5_expect 17 = .ok (.aload_n 0, 1) := by decide +kernel
theorem dX5_expect_18 : decode cX5_expect 18 = .ok (.dup, 1) := by decide +kernel
theorem dX5_expect_19 : decode cX5_expect 19 = .ok (.getfield 39, 3) := by decide +kernel
theorem dX5_expect_22 : decode cX5_expect 22 = .ok (.iconst 1, 1) := by decide +kernel
theorem dX5_expect_23 : decode cX5_expect 23 = .ok (.iadd, 1) := by decide +kernel
theorem dX5_expect_24 : decode cX5_expect 24 = .ok (.putfield 39, 3) := by decide +kernel
theorem dX5_expect_27 : decode cX5_expect 27 = .ok (.goto 11, 3) := by decide +kernel
theorem dX5_expect_30 : decode cX5_expect 30 = .ok (.aload_n 0, 1) := by decide +kernel
theorem dX5_expect_31 : decode cX5_expect 31 = .ok (.aload_n 0, 1) := by decide +kernel
theorem dX5_expect_32 : decode cX5_expect 32 = .ok (.getfield 39, 3) := by decide +kernel
theorem dX5_expect_35 : decode cX5_expect 35 = .ok (.putfield 42, 3) := by decide +kernel
theorem dX5_expect_38 : decode cX5_expect 38 = .ok (.return_, 1) := by decide +kernel
theorem dX5_readNumber_0 : decode cX5_readNumber 0 = .ok (.aload_n 0, 1) := by decide +kernel
theorem dX5_readNumber_1 : decode cX5_readNumber 1 = .ok (.getfield 42, 3) := by decide +kernel
theorem dX5_readNumber_4 : decode cX5_readNumber 4 = .ok (.iconst (-1), 1) := by decide +kernel
theorem dX5_readNumber_5 : decode cX5_readNumber 5 = .ok (.if_icmp .eq 4, 3) := by decide +kernel
theorem dX5_readNumber_8 : decode cX5_readNumber 8 = .ok (.return_, 1) := by decide +kernel
theorem dX5_readNumber_9 : decode cX5_readNumber 9 = .ok (.aload_n 0, 1) := by decide +kernel
theorem dX5_readNumber_10 : decode cX5_readNumber 10 = .ok (.getfield 39, 3) := by decide +kernel
theorem dX5_readNumber_13 : decode cX5_readNumber 13 = .ok (.istore_n 3, 1) := by decide +kernel
theorem dX5_readNumber_14 : decode cX5_readNumber 14 = .ok (.iconst 0, 1) := by decide +kernel
theorem dX5_readNumber_15 : decode cX5_readNumber 15 = .ok (.istore 4, 2) := by decide +kernel
theorem dX5_readNumber_17 : decode cX5_readNumber 17 = .ok (.aload_n 0, 1) := by decide +kernel
theorem dX5_readNumber_18 : decode cX5_readNumber 18 = .ok (.getfield 39, 3) := by decide +kernel
theorem dX5_readNumber_21 : decode cX5_readNumber 21 = .ok (.iload_n 3, 1) := by decide +kernel
theorem dX5_readNumber_22 : decode cX5_readNumber 22 = .ok (.bipush 7, 2) := by decide +kernel
theorem dX5_readNumber_24 : decode cX5_readNumber 24 = .ok (.iadd, 1) := by decide +kernel
theorem dX5_readNumber_25 : decode cX5_readNumber 25 = .ok (.if_icmp .ge 45, 3) := by decide +kernel
theorem dX5_readNumber_28 : decode cX5_readNumber 28 = .ok (.aload_n 0, 1) := by decide +kernel
theorem dX5_readNumber_29 : decode cX5_readNumber 29 = .ok (.invokevirtual 57, 3) := by decide +kernel
theorem dX5_readNumber_32 : decode cX5_readNumber 32 = .ok (.bipush 48, 2) := by decide +kernel
theorem dX5_readNumber_34 : decode cX5_readNumber 34 = .ok (.bipush 57, 2) := by decide +kernel
theorem dX5_readNumber_36 : decode cX5_readNumber 36 = .ok (.invokestatic 80, 3) := by decide +kernel
theorem dX5_readNumber_39 : decode cX5_readNumber 39 = .ok (.ifCond .eq 31, 3) := by decide +kernel
theorem dX5_readNumber_42 : decode cX5_readNumber 42 = .ok (.iload 4, 2) := by decide +kernel
theorem dX5_readNumber_44 : decode cX5_readNumber 44 = .ok (.bipush 10, 2) := by decide +kernel
theorem dX5_readNumber_46 : decode cX5_readNumber 46 = .ok (.imul, 1) := by decide +kernel
theorem dX5_readNumber_47 : decode cX5_readNumber 47 = .ok (.aload_n 0, 1) := by decide +kernel
theorem dX5_readNumber_48 : decode cX5_readNumber 48 = .ok (.invokevirtual 57, 3) := by decide +kernel
theorem dX5_readNumber_51 : decode cX5_readNumber 51 = .ok (.iadd, 1) := by decide +kernel
theorem dX5_readNumber_52 : decode cX5_readNumber 52 = .ok (.bipush 48, 2) := by decide +kernel
theorem dX5_readNumber_54 : decode cX5_readNumber 54 = .ok (.isub, 1) := by decide +kernel
theorem dX5_readNumber_55 : decode cX5_readNumber 55 = .ok (.istore 4, 2) := by decide +kernel
theorem dX5_readNumber_57 : decode cX5_readNumber 57 = .ok (.aload_n 0, 1) := by decide +kernel
theorem dX5_readNumber_58 : decode cX5_readNumber 58 = .ok (.dup, 1) := by decide +kernel
theorem dX5_readNumber_59 : decode cX5_readNumber 59 = .ok (.getfield 39, 3) := by decide +kernel
theorem dX5_readNumber_62 : decode cX5_readNumber 62 = .ok (.iconst 1, 1) := by decide +kernel
theorem dX5_readNumber_63 : decode cX5_readNumber 63 = .ok (.iadd, 1) := by decide +kernel
theorem dX5_readNumber_64 : decode cX5_readNumber 64 = .ok (.putfield 39, 3) := by decide +kernel
theorem dX5_readNumber_67 : decode cX5_readNumber 67 = .ok (.goto (-50), 3) := by decide +kernel
theorem dX5_readNumber_70 : decode cX5_readNumber 70 = .ok (.aload_n 0, 1) := by decide +kernel
theorem dX5_readNumber_71 : decode cX5_readNumber 71 = .ok (.getfield 39, 3) := by decide +kernel
theorem dX5_readNumber_74 : decode cX5_readNumber 74 = .ok (.iload_n 3, 1) := by decide +kernel
theorem dX5_readNumber_75 : decode cX5_readNumber 75 = .ok (.if_icmp .eq 14, 3) := by decide +kernel
theorem dX5_readNumber_78 : decode cX5_readNumber 78 = .ok (.aload_n 0, 1) := by decide +kernel
theorem dX5_readNumber_79 : decode cX5_readNumber 79 = .ok (.iload_n 1, 1) := by decide +kernel
theorem dX5_readNumber_80 : decode cX5_readNumber 80 = .ok (.iload_n 2, 1) := by decide +kernel
theorem dX5_readNumber_81 : decode cX5_readNumber 81 = .ok (.iload 4, 2) := by decide +kernel
theorem dX5_readNumber_83 : decode cX5_readNumber 83 = .ok (.invokevirtual 84, 3) := by decide +kernel
theorem dX5_readNumber_86 : decode cX5_readNumber 86 = .ok (.ifCond .ne 11, 3) := by decide +kernel
theorem dX5_readNumber_89 : decode cX5_readNumber 89 = .ok (.aload_n 0, 1) := by decide +kernel
theorem dX5_readNumber_90 : decode cX5_readNumber 90 = .ok (.iload_n 3, 1) := by decide +kernel
theorem dX5_readNumber_91 : decode cX5_readNumber 91 = .ok (.putfield 42, 3) := by decide +kernel
theorem dX5_readNumber_94 : decode cX5_readNumber 94 = .ok (.goto 13, 3) := by decide +kernel
theorem dX5_readNumber_97 : decode cX5_readNumber 97 = .ok (.aload_n 0, 1) := by decide +kernel
theorem dX5_readNumber_98 : decode cX5_readNumber 98 = .ok (.getfield 15, 3) := by decide +kernel
theorem dX5_readNumber_101 : decode cX5_readNumber 101 = .ok (.iload_n 2, 1) := by decide +kernel
theorem dX5_readNumber_102 : decode cX5_readNumber 102 = .ok (.iload 4, 2) := by decide +kernel
theorem dX5_readNumber_104 : decode cX5_readNumber 104 = .ok (.invokestatic 22, 3) := by decide +kernel
theorem dX5_readNumber_107 : decode cX5_readNumber 107 = .ok (.return_, 1) := by decide +kernel
theorem dX5_numbersOf_0 : decode cX5_numbersOf 0 = .ok (.iload_n 0, 1) := by decide +kernel
theorem dX5_numbersOf_1 : decode cX5_numbersOf 1 = .ok (.lookupswitch 47 #[(68, 45), (75, 43), (77, 43), (82, 43)], 43) := by decide +kernel
theorem dX5_numbersOf_44 : decode cX5_numbersOf 44 = .ok (.iconst 1, 1) := by decide +kernel
theorem dX5_numbersOf_45 : decode cX5_numbersOf 45 = .ok (.ireturn, 1) := by decide +kernel
theorem dX5_numbersOf_46 : decode cX5_numbersOf 46 = .ok (.iconst 3, 1) := by decide +kernel
theorem dX5_numbersOf_47 : decode cX5_numbersOf 47 = .ok (.ireturn, 1) := by decide +kernel
theorem dX5_numbersOf_48 : decode cX5_numbersOf 48 = .ok (.iconst 2, 1) := by decide +kernel
theorem dX5_numbersOf_49 : decode cX5_numbersOf 49 = .ok (.ireturn, 1) := by decide +kernel
theorem dX5_mayBegin_0 : decode cX5_mayBegin 0 = .ok (.aload_n 0, 1) := by decide +kernel
theorem dX5_mayBegin_1 : decode cX5_mayBegin 1 = .ok (.getfield 35, 3) := by decide +kernel
theorem dX5_mayBegin_4 : decode cX5_mayBegin 4 = .ok (.ifnonnull 15, 3) := by decide +kernel
theorem dX5_mayBegin_7 : decode cX5_mayBegin 7 = .ok (.iload_n 1, 1) := by decide +kernel
theorem dX5_mayBegin_8 : decode cX5_mayBegin 8 = .ok (.bipush 75, 2) := by decide +kernel
theorem dX5_mayBegin_10 : decode cX5_mayBegin 10 = .ok (.if_icmp .ne 7, 3) := by decide +kernel
theorem dX5_mayBegin_13 : decode cX5_mayBegin 13 = .ok (.iconst 1, 1) := by decide +kernel
theorem dX5_mayBegin_14 : decode cX5_mayBegin 14 = .ok (.goto 4, 3) := by decide +kernel
theorem dX5_mayBegin_17 : decode cX5_mayBegin 17 = .ok (.iconst 0, 1) := by decide +kernel
theorem dX5_mayBegin_18 : decode cX5_mayBegin 18 = .ok (.ireturn, 1) := by decide +kernel
theorem dX5_mayBegin_19 : decode cX5_mayBegin 19 = .ok (.iload_n 1, 1) := by decide +kernel
theorem dX5_mayBegin_20 : decode cX5_mayBegin 20 = .ok (.tableswitch 230 68 90 #[162, 144, 196, 230, 230, 230, 230, 108, 230, 179, 230, 230, 230, 230, 213, 124, 230, 230, 230, 230, 142, 230, 142], 108) := by decide +kernel
theorem dX5_mayBegin_128 : decode cX5_mayBegin 128 = .ok (.aload_n 0, 1) := by decide +kernel
theorem dX5_mayBegin_129 : decode cX5_mayBegin 129 = .ok (.getfield 35, 3) := by decide +kernel
theorem dX5_mayBegin_132 : decode cX5_mayBegin 132 = .ok (.getfield 52, 3) := by decide +kernel
theorem dX5_mayBegin_135 : decode cX5_mayBegin 135 = .ok (.ifCond .le 7, 3) := by decide +kernel
theorem dX5_mayBegin_138 : decode cX5_mayBegin 138 = .ok (.iconst 1, 1) := by decide +kernel
theorem dX5_mayBegin_139 : decode cX5_mayBegin 139 = .ok (.goto 4, 3) := by decide +kernel
theorem dX5_mayBegin_142 : decode cX5_mayBegin 142 = .ok (.iconst 0, 1) := by decide +kernel
theorem dX5_mayBegin_143 : decode cX5_mayBegin 143 = .ok (.ireturn, 1) := by decide +kernel
theorem dX5_mayBegin_144 : decode cX5_mayBegin 144 = .ok (.aload_n 0, 1) := by decide +kernel
theorem dX5_mayBegin_145 : decode cX5_mayBegin 145 = .ok (.getfield 35, 3) := by decide +kernel
theorem dX5_mayBegin_148 : decode cX5_mayBegin 148 = .ok (.getfield 52, 3) := by decide +kernel
theorem dX5_mayBegin_151 : decode cX5_mayBegin 151 = .ok (.bipush 10, 2) := by decide +kernel
theorem dX5_mayBegin_153 : decode cX5_mayBegin 153 = .ok (.if_icmp .ge 7, 3) := by decide +kernel
theorem dX5_mayBegin_156 : decode cX5_mayBegin 156 = .ok (.iconst 1, 1) := by decide +kernel
theorem dX5_mayBegin_157 : decode cX5_mayBegin 157 = .ok (.goto 4, 3) := by decide +kernel
theorem dX5_mayBegin_160 : decode cX5_mayBegin 160 = .ok (.iconst 0, 1) := by decide +kernel
theorem dX5_mayBegin_161 : decode cX5_mayBegin 161 = .ok (.ireturn, 1) := by decide +kernel
theorem dX5_mayBegin_162 : decode cX5_mayBegin 162 = .ok (.iconst 1, 1) := by decide +kernel
theorem dX5_mayBegin_163 : decode cX5_mayBegin 163 = .ok (.ireturn, 1) := by decide +kernel
theorem dX5_mayBegin_164 : decode cX5_mayBegin 164 = .ok (.aload_n 0, 1) := by decide +kernel
theorem dX5_mayBegin_165 : decode cX5_mayBegin 165 = .ok (.getfield 35, 3) := by decide +kernel
theorem dX5_mayBegin_168 : decode cX5_mayBegin 168 = .ok (.getfield 87, 3) := by decide +kernel
theorem dX5_mayBegin_171 : decode cX5_mayBegin 171 = .ok (.bipush 10, 2) := by decide +kernel
theorem dX5_mayBegin_173 : decode cX5_mayBegin 173 = .ok (.if_icmp .ge 7, 3) := by decide +kernel
theorem dX5_mayBegin_176 : decode cX5_mayBegin 176 = .ok (.iconst 1, 1) := by decide +kernel
theorem dX5_mayBegin_177 : decode cX5_mayBegin 177 = .ok (.goto 4, 3) := by decide +kernel
theorem dX5_mayBegin_180 : decode cX5_mayBegin 180 = .ok (.iconst 0, 1) := by decide +kernel
theorem dX5_mayBegin_181 : decode cX5_mayBegin 181 = .ok (.ireturn, 1) := by decide +kernel
theorem dX5_mayBegin_182 : decode cX5_mayBegin 182 = .ok (.aload_n 0, 1) := by decide +kernel
theorem dX5_mayBegin_183 : decode cX5_mayBegin 183 = .ok (.getfield 35, 3) := by decide +kernel
theorem dX5_mayBegin_186 : decode cX5_mayBegin 186 = .ok (.getfield 90, 3) := by decide +kernel
theorem dX5_mayBegin_189 : decode cX5_mayBegin 189 = .ok (.iconst (-1), 1) := by decide +kernel
theorem dX5_mayBegin_190 : decode cX5_mayBegin 190 = .ok (.if_icmp .ne 7, 3) := by decide +kernel
theorem dX5_mayBegin_193 : decode cX5_mayBegin 193 = .ok (.iconst 1, 1) := by decide +kernel
theorem dX5_mayBegin_194 : decode cX5_mayBegin 194 = .ok (.goto 4, 3) := by decide +kernel
theorem dX5_mayBegin_197 : decode cX5_mayBegin 197 = .ok (.iconst 0, 1) := by decide +kernel
theorem dX5_mayBegin_198 : decode cX5_mayBegin 198 = .ok (.ireturn, 1) := by decide +kernel
theorem dX5_mayBegin_199 : decode cX5_mayBegin 199 = .ok (.aload_n 0, 1) := by decide +kernel
theorem dX5_mayBegin_200 : decode cX5_mayBegin 200 = .ok (.getfield 35, 3) := by decide +kernel
theorem dX5_mayBegin_203 : decode cX5_mayBegin 203 = .ok (.getfield 93, 3) := by decide +kernel
theorem dX5_mayBegin_206 : decode cX5_mayBegin 206 = .ok (.iconst (-1), 1) := by decide +kernel
theorem dX5_mayBegin_207 : decode cX5_mayBegin 207 = .ok (.if_icmp .ne 7, 3) := by decide +kernel
theorem dX5_mayBegin_210 : decode cX5_mayBegin 210 = .ok (.iconst 1, 1) := by decide +kernel
theorem dX5_mayBegin_211 : decode cX5_mayBegin 211 = .ok (.goto 4, 3) := by decide +kernel
theorem dX5_mayBegin_214 : decode cX5_mayBegin 214 = .ok (.iconst 0, 1) := by decide +kernel
theorem dX5_mayBegin_215 : decode cX5_mayBegin 215 = .ok (.ireturn, 1) := by decide +kernel
theorem dX5_mayBegin_216 : decode cX5_mayBegin 216 = .ok (.aload_n 0, 1) := by decide +kernel
theorem dX5_mayBegin_217 : decode cX5_mayBegin 217 = .ok (.getfield 35, 3) := by decide +kernel
theorem dX5_mayBegin_220 : decode cX5_mayBegin 220 = .ok (.getfield 96, 3) := by decide +kernel
theorem dX5_mayBegin_223 : decode cX5_mayBegin 223 = .ok (.iconst (-1), 1) := by decide +kernel
theorem dX5_mayBegin_224 : decode cX5_mayBegin 224 = .ok (.if_icmp .ne 7, 3) := by decide +kernel
theorem dX5_mayBegin_227 : decode cX5_mayBegin 227 = .ok (.iconst 1, 1) := by decide +kernel
theorem dX5_mayBegin_228 : decode cX5_mayBegin 228 = .ok (.goto 4, 3) := by decide +kernel
theorem dX5_mayBegin_231 : decode cX5_mayBegin 231 = .ok (.iconst 0, 1) := by decide +kernel
theorem dX5_mayBegin_232 : decode cX5_mayBegin 232 = .ok (.ireturn, 1) := by decide +kernel
theorem dX5_mayBegin_233 : decode cX5_mayBegin 233 = .ok (.aload_n 0, 1) := by decide +kernel
theorem dX5_mayBegin_234 : decode cX5_mayBegin 234 = .ok (.getfield 35, 3) := by decide +kernel
theorem dX5_mayBegin_237 : decode cX5_mayBegin 237 = .ok (.getfield 99, 3) := by decide +kernel
theorem dX5_mayBegin_240 : decode cX5_mayBegin 240 = .ok (.iconst (-1), 1) := by decide +kernel
theorem dX5_mayBegin_241 : decode cX5_mayBegin 241 = .ok (.if_icmp .ne 7, 3) := by decide +kernel
theorem dX5_mayBegin_244 : decode cX5_mayBegin 244 = .ok (.iconst 1, 1) := by decide +kernel
theorem dX5_mayBegin_245 : decode cX5_mayBegin 245 = .ok (.goto 4, 3) := by decide +kernel
theorem dX5_mayBegin_248 : decode cX5_mayBegin 248 = .ok (.iconst 0, 1) := by decide +kernel
theorem dX5_mayBegin_249 : decode cX5_mayBegin 249 = .ok (.ireturn, 1) := by decide +kernel
theorem dX5_mayBegin_250 : decode cX5_mayBegin 250 = .ok (.iconst 0, 1) := by decide +kernel
theorem dX5_mayBegin_251 : decode cX5_mayBegin 251 = .ok (.ireturn, 1) := by decide +kernel
theorem dX5_isAsSaid_0 : decode cX5_isAsSaid 0 = .ok (.iload_n 1, 1) := by decide +kernel
theorem dX5_isAsSaid_1 : decode cX5_isAsSaid 1 = .ok (.bipush 75, 2) := by decide +kernel
theorem dX5_isAsSaid_3 : decode cX5_isAsSaid 3 = .ok (.if_icmp .ne 27, 3) := by decide +kernel
theorem dX5_isAsSaid_6 : decode cX5_isAsSaid 6 = .ok (.iload_n 3, 1) := by decide +kernel
theorem dX5_isAsSaid_7 : decode cX5_isAsSaid 7 = .ok (.invokestatic 102, 3) := by decide +kernel
theorem dX5_isAsSaid_10 : decode cX5_isAsSaid 10 = .ok (.ifCond .eq 18, 3) := by decide +kernel
theorem dX5_isAsSaid_13 : decode cX5_isAsSaid 13 = .ok (.aload_n 0, 1) := by decide +kernel
theorem dX5_isAsSaid_14 : decode cX5_isAsSaid 14 = .ok (.getfield 31, 3) := by decide +kernel
theorem dX5_isAsSaid_17 : decode cX5_isAsSaid 17 = .ok (.iload_n 3, 1) := by decide +kernel
theorem dX5_isAsSaid_18 : decode cX5_isAsSaid 18 = .ok (.invokestatic 105, 3) := by decide +kernel
theorem dX5_isAsSaid_21 : decode cX5_isAsSaid 21 = .ok (.ifnonnull 7, 3) := by decide +kernel
theorem dX5_isAsSaid_24 : decode cX5_isAsSaid 24 = .ok (.iconst 1, 1) := by decide +kernel
theorem dX5_isAsSaid_25 : decode cX5_isAsSaid 25 = .ok (.goto 4, 3) := by decide +kernel
theorem dX5_isAsSaid_28 : decode cX5_isAsSaid 28 = .ok (.iconst 0, 1) := by decide +kernel
theorem dX5_isAsSaid_29 : decode cX5_isAsSaid 29 = .ok (.ireturn, 1) := by decide +kernel
theorem dX5_isAsSaid_30 : decode cX5_isAsSaid 30 = .ok (.aload_n 0, 1) := by decide +kernel
theorem dX5_isAsSaid_31 : decode cX5_isAsSaid 31 = .ok (.getfield 35, 3) := by decide +kernel
theorem dX5_isAsSaid_34 : decode cX5_isAsSaid 34 = .ok (.ifnonnull 5, 3) := by decide +kernel
theorem dX5_isAsSaid_37 : decode cX5_isAsSaid 37 = .ok (.iconst 0, 1) := by decide +kernel
theorem dX5_isAsSaid_38 : decode cX5_isAsSaid 38 = .ok (.ireturn, 1) := by decide +kernel
theorem dX5_isAsSaid_39 : decode cX5_isAsSaid 39 = .ok (.iload_n 1, 1) := by decide +kernel
theorem dX5_isAsSaid_40 : decode cX5_isAsSaid 40 = .ok (.lookupswitch 198 #[(69, 160), (70, 167), (82, 189), (83, 60), (88, 128), (90, 81)], 60) := by decide +kernel
theorem dX5_isAsSaid_100 : decode cX5_isAsSaid 100 = .ok (.iload_n 2, 1) := by decide +kernel
theorem dX5_isAsSaid_101 : decode cX5_isAsSaid 101 = .ok (.ifCond .gt 14, 3) := by decide +kernel
theorem dX5_isAsSaid_104 : decode cX5_isAsSaid 104 = .ok (.iload_n 3, 1) := by decide +kernel
theorem dX5_isAsSaid_105 : decode cX5_isAsSaid 105 = .ok (.aload_n 0, 1) := by decide +kernel
theorem dX5_isAsSaid_106 : decode cX5_isAsSaid 106 = .ok (.getfield 35, 3) := by decide +kernel
theorem dX5_isAsSaid_109 : decode cX5_isAsSaid 109 = .ok (.invokevirtual 109, 3) := by decide +kernel
theorem dX5_isAsSaid_112 : decode cX5_isAsSaid 112 = .ok (.if_icmp .le 7, 3) := by decide +kernel
theorem dX5_isAsSaid_115 : decode cX5_isAsSaid 115 = .ok (.iconst 1, 1) := by decide +kernel
theorem dX5_isAsSaid_116 : decode cX5_isAsSaid 116 = .ok (.goto 4, 3) := by decide +kernel
theorem dX5_isAsSaid_119 : decode cX5_isAsSaid 119 = .ok (.iconst 0, 1) := by decide +kernel
theorem dX5_isAsSaid_120 : decode cX5_isAsSaid 120 = .ok (.ireturn, 1) := by decide +kernel
theorem dX5_isAsSaid_121 : decode cX5_isAsSaid 121 = .ok (.iload_n 2, 1) := by decide +kernel
theorem dX5_isAsSaid_122 : decode cX5_isAsSaid 122 = .ok (.ifCond .le 18, 3) := by decide +kernel
theorem dX5_isAsSaid_125 : decode cX5_isAsSaid 125 = .ok (.iload_n 3, 1) := by decide +kernel
theorem dX5_isAsSaid_126 : decode cX5_isAsSaid 126 = .ok (.sipush 1000, 3) := by decide +kernel
theorem dX5_isAsSaid_129 : decode cX5_isAsSaid 129 = .ok (.if_icmp .gt 7, 3) := by decide +kernel
theorem dX5_isAsSaid_132 : decode cX5_isAsSaid 132 = .ok (.iconst 1, 1) := by decide +kernel
theorem dX5_isAsSaid_133 : decode cX5_isAsSaid 133 = .ok (.goto 34, 3) := by decide +kernel
theorem dX5_isAsSaid_136 : decode cX5_isAsSaid 136 = .ok (.iconst 0, 1) := by decide +kernel
theorem dX5_isAsSaid_137 : decode cX5_isAsSaid 137 = .ok (.goto 30, 3) := by decide +kernel
theorem dX5_isAsSaid_140 : decode cX5_isAsSaid 140 = .ok (.iload_n 3, 1) := by decide +kernel
theorem dX5_isAsSaid_141 : decode cX5_isAsSaid 141 = .ok (.invokestatic 102, 3) := by decide +kernel
theorem dX5_isAsSaid_144 : decode cX5_isAsSaid 144 = .ok (.ifCond .eq 22, 3) := by decide +kernel
theorem dX5_isAsSaid_147 : decode cX5_isAsSaid 147 = .ok (.aload_n 0, 1) := by decide +kernel
theorem dX5_isAsSaid_148 : decode cX5_isAsSaid 148 = .ok (.getfield 35, 3) := by decide +kernel
theorem dX5_isAsSaid_151 : decode cX5_isAsSaid 151 = .ok (.getfield 112, 3) := by decide +kernel
theorem dX5_isAsSaid_154 : decode cX5_isAsSaid 154 = .ok (.iload_n 3, 1) := by decide +kernel
theorem dX5_isAsSaid_155 : decode cX5_isAsSaid 155 = .ok (.invokestatic 76, 3) := by decide +kernel
theorem dX5_isAsSaid_158 : decode cX5_isAsSaid 158 = .ok (.iconst (-1), 1) := by decide +kernel
theorem dX5_isAsSaid_159 : decode cX5_isAsSaid 159 = .ok (.if_icmp .ne 7, 3) := by decide +kernel
theorem dX5_isAsSaid_162 : decode cX5_isAsSaid 162 = .ok (.iconst 1, 1) := by decide +kernel
theorem dX5_isAsSaid_163 : decode cX5_isAsSaid 163 = .ok (.goto 4, 3) := by decide +kernel
theorem dX5_isAsSaid_166 : decode cX5_isAsSaid 166 = .ok (.iconst 0, 1) := by decide +kernel
theorem dX5_isAsSaid_167 : decode cX5_isAsSaid 167 = .ok (.ireturn, 1) := by decide +kernel
theorem dX5_isAsSaid_168 : decode cX5_isAsSaid 168 = .ok (.iload_n 2, 1) := by decide +kernel
theorem dX5_isAsSaid_169 : decode cX5_isAsSaid 169 = .ok (.ifCond .gt 25, 3) := by decide +kernel
theorem dX5_isAsSaid_172 : decode cX5_isAsSaid 172 = .ok (.iload_n 3, 1) := by decide +kernel
theorem dX5_isAsSaid_173 : decode cX5_isAsSaid 173 = .ok (.invokestatic 102, 3) := by decide +kernel
theorem dX5_isAsSaid_176 : decode cX5_isAsSaid 176 = .ok (.ifCond .eq 22, 3) := by decide +kernel
theorem dX5_isAsSaid_179 : decode cX5_isAsSaid 179 = .ok (.aload_n 0, 1) := by decide +kernel
theorem dX5_isAsSaid_180 : decode cX5_isAsSaid 180 = .ok (.getfield 35, 3) := by decide +kernel
theorem dX5_isAsSaid_183 : decode cX5_isAsSaid 183 = .ok (.getfield 115, 3) := by decide +kernel
theorem dX5_isAsSaid_186 : decode cX5_isAsSaid 186 = .ok (.iload_n 3, 1) := by decide +kernel
theorem dX5_isAsSaid_187 : decode cX5_isAsSaid 187 = .ok (.invokestatic 76, 3) := by decide +kernel
theorem dX5_isAsSaid_190 : decode cX5_isAsSaid 190 = .ok (.iconst (-1), 1) := by decide +kernel
theorem dX5_isAsSaid_191 : decode cX5_isAsSaid 191 = .ok (.if_icmp .ne 7, 3) := by decide +kernel
theorem dX5_isAsSaid_194 : decode cX5_isAsSaid 194 = .ok (.iconst 1, 1) := by decide +kernel
theorem dX5_isAsSaid_195 : decode cX5_isAsSaid 195 = .ok (.goto 4, 3) := by decide +kernel
theorem dX5_isAsSaid_198 : decode cX5_isAsSaid 198 = .ok (.iconst 0, 1) := by decide +kernel
theorem dX5_isAsSaid_199 : decode cX5_isAsSaid 199 = .ok (.ireturn, 1) := by decide +kernel
theorem dX5_isAsSaid_200 : decode cX5_isAsSaid 200 = .ok (.aload_n 0, 1) := by decide +kernel
theorem dX5_isAsSaid_201 : decode cX5_isAsSaid 201 = .ok (.iload_n 2, 1) := by decide +kernel
theorem dX5_isAsSaid_202 : decode cX5_isAsSaid 202 = .ok (.iload_n 3, 1) := by decide +kernel
theorem dX5_isAsSaid_203 : decode cX5_isAsSaid 203 = .ok (.invokevirtual 118, 3) := by decide +kernel
theorem dX5_isAsSaid_206 : decode cX5_isAsSaid 206 = .ok (.ireturn, 1) := by decide +kernel
theorem dX5_isAsSaid_207 : decode cX5_isAsSaid 207 = .ok (.iload_n 2, 1) := by decide +kernel
theorem dX5_isAsSaid_208 : decode cX5_isAsSaid 208 = .ok (.ifCond .eq 15, 3) := by decide +kernel
theorem dX5_isAsSaid_211 : decode cX5_isAsSaid 211 = .ok (.iload_n 3, 1) := by decide +kernel
theorem dX5_isAsSaid_212 : decode cX5_isAsSaid 212 = .ok (.aload_n 0, 1) := by decide +kernel
theorem dX5_isAsSaid_213 : decode cX5_isAsSaid 213 = .ok (.getfield 15, 3) := by decide +kernel
theorem dX5_isAsSaid_216 : decode cX5_isAsSaid 216 = .ok (.iconst 0, 1) := by decide +kernel
theorem dX5_isAsSaid_217 : decode cX5_isAsSaid 217 = .ok (.invokestatic 76, 3) := by decide +kernel
theorem dX5_isAsSaid_220 : decode cX5_isAsSaid 220 = .ok (.if_icmp .lt 7, 3) := by decide +kernel
theorem dX5_isAsSaid_223 : decode cX5_isAsSaid 223 = .ok (.iconst 1, 1) := by decide +kernel
theorem dX5_isAsSaid_224 : decode cX5_isAsSaid 224 = .ok (.goto 4, 3) := by decide +kernel
theorem dX5_isAsSaid_227 : decode cX5_isAsSaid 227 = .ok (.iconst 0, 1) := by decide +kernel
theorem dX5_isAsSaid_228 : decode cX5_isAsSaid 228 = .ok (.ireturn, 1) := by decide +kernel
theorem dX5_isAsSaid_229 : decode cX5_isAsSaid 229 = .ok (.iload_n 3, 1) := by decide +kernel
theorem dX5_isAsSaid_230 : decode cX5_isAsSaid 230 = .ok (.iconst 1, 1) := by decide +kernel
theorem dX5_isAsSaid_231 : decode cX5_isAsSaid 231 = .ok (.sipush 1000, 3) := by decide +kernel
theorem dX5_isAsSaid_234 : decode cX5_isAsSaid 234 = .ok (.invokestatic 80, 3) := by decide +kernel
theorem dX5_isAsSaid_237 : decode cX5_isAsSaid 237 = .ok (.ireturn, 1) := by decide +kernel
theorem dX5_isAsSaid_238 : decode cX5_isAsSaid 238 = .ok (.iload_n 3, 1) := by decide +kernel
theorem dX5_isAsSaid_239 : decode cX5_isAsSaid 239 = .ok (.iconst 1, 1) := by decide +kernel
theorem dX5_isAsSaid_240 : decode cX5_isAsSaid 240 = .ok (.if_icmp .lt 7, 3) := by decide +kernel
theorem dX5_isAsSaid_243 : decode cX5_isAsSaid 243 = .ok (.iconst 1, 1) := by decide +kernel
theorem dX5_isAsSaid_244 : decode cX5_isAsSaid 244 = .ok (.goto 4, 3) := by decide +kernel
theorem dX5_isAsSaid_247 : decode cX5_isAsSaid 247 = .ok (.iconst 0, 1) := by decide +kernel
theorem dX5_isAsSaid_248 : decode cX5_isAsSaid 248 = .ok (.ireturn, 1) := by decide +kernel
theorem dX5_isExcludable_0 : decode cX5_isExcludable 0 = .ok (.aload_n 0, 1) := by decide +kernel
theorem dX5_isExcludable_1 : decode cX5_isExcludable 1 = .ok (.getfield 35, 3) := by decide +kernel
theorem dX5_isExcludable_4 : decode cX5_isExcludable 4 = .ok (.ifnull 25, 3) := by decide +kernel
theorem dX5_isExcludable_7 : decode cX5_isExcludable 7 = .ok (.iload_n 2, 1) := by decide +kernel
theorem dX5_isExcludable_8 : decode cX5_isExcludable 8 = .ok (.invokestatic 102, 3) := by decide +kernel
theorem dX5_isExcludable_11 : decode cX5_isExcludable 11 = .ok (.ifCond .eq 18, 3) := by decide +kernel
theorem dX5_isExcludable_14 : decode cX5_isExcludable 14 = .ok (.aload_n 0, 1) := by decide +kernel
theorem dX5_isExcludable_15 : decode cX5_isExcludable 15 = .ok (.getfield 35, 3) := by decide +kernel
theorem dX5_isExcludable_18 : decode cX5_isExcludable 18 = .ok (.getfield 115, 3) := by decide +kernel
theorem dX5_isExcludable_21 : decode cX5_isExcludable 21 = .ok (.iload_n 2, 1) := by decide +kernel
theorem dX5_isExcludable_22 : decode cX5_isExcludable 22 = .ok (.invokestatic 76, 3) := by decide +kernel
theorem dX5_isExcludable_25 : decode cX5_isExcludable 25 = .ok (.iconst (-1), 1) := by decide +kernel
theorem dX5_isExcludable_26 : decode cX5_isExcludable 26 = .ok (.if_icmp .ne 5, 3) := by decide +kernel
theorem dX5_isExcludable_29 : decode cX5_isExcludable 29 = .ok (.iconst 0, 1) := by decide +kernel
theorem dX5_isExcludable_30 : decode cX5_isExcludable 30 = .ok (.ireturn, 1) := by decide +kernel
theorem dX5_isExcludable_31 : decode cX5_isExcludable 31 = .ok (.aload_n 0, 1) := by decide +kernel
theorem dX5_isExcludable_32 : decode cX5_isExcludable 32 = .ok (.getfield 15, 3) := by decide +kernel
theorem dX5_isExcludable_35 : decode cX5_isExcludable 35 = .ok (.iconst 0, 1) := by decide +kernel
theorem dX5_isExcludable_36 : decode cX5_isExcludable 36 = .ok (.invokestatic 76, 3) := by decide +kernel
theorem dX5_isExcludable_39 : decode cX5_isExcludable 39 = .ok (.istore_n 3, 1) := by decide +kernel
theorem dX5_isExcludable_40 : decode cX5_isExcludable 40 = .ok (.iload_n 1, 1) := by decide +kernel
theorem dX5_isExcludable_41 : decode cX5_isExcludable 41 = .ok (.ifCond .eq 20, 3) := by decide +kernel
theorem dX5_isExcludable_44 : decode cX5_isExcludable 44 = .ok (.iload_n 2, 1) := by decide +kernel
theorem dX5_isExcludable_45 : decode cX5_isExcludable 45 = .ok (.iload_n 3, 1) := by decide +kernel
theorem dX5_isExcludable_46 : decode cX5_isExcludable 46 = .ok (.if_icmp .eq 19, 3) := by decide +kernel
theorem dX5_isExcludable_49 : decode cX5_isExcludable 49 = .ok (.aload_n 0, 1) := by decide +kernel
theorem dX5_isExcludable_50 : decode cX5_isExcludable 50 = .ok (.getfield 35, 3) := by decide +kernel
theorem dX5_isExcludable_53 : decode cX5_isExcludable 53 = .ok (.iload_n 3, 1) := by decide +kernel
theorem dX5_isExcludable_54 : decode cX5_isExcludable 54 = .ok (.iload_n 2, 1) := by decide +kernel
theorem dX5_isExcludable_55 : decode cX5_isExcludable 55 = .ok (.invokevirtual 122, 3) := by decide +kernel
theorem dX5_isExcludable_58 : decode cX5_isExcludable 58 = .ok (.ifCond .ne 7, 3) := by decide +kernel
theorem dX5_isExcludable_61 : decode cX5_isExcludable 61 = .ok (.iconst 1, 1) := by decide +kernel
theorem dX5_isExcludable_62 : decode cX5_isExcludable 62 = .ok (.goto 4, 3) := by decide +kernel
theorem dX5_isExcludable_65 : decode cX5_isExcludable 65 = .ok (.iconst 0, 1) := by decide +kernel
theorem dX5_isExcludable_66 : decode cX5_isExcludable 66 = .ok (.ireturn, 1) := by decide +kernel
theorem dX5_take_0 : decode cX5_take 0 = .ok (.aload_n 0, 1) := by decide +kernel
theorem dX5_take_1 : decode cX5_take 1 = .ok (.getfield 15, 3) := by decide +kernel
theorem dX5_take_4 : decode cX5_take 4 = .ok (.iconst 0, 1) := by decide +kernel
theorem dX5_take_5 : decode cX5_take 5 = .ok (.invokestatic 76, 3) := by decide +kernel
theorem dX5_take_8 : decode cX5_take 8 = .ok (.istore_n 2, 1) := by decide +kernel
theorem dX5_take_9 : decode cX5_take 9 = .ok (.aload_n 0, 1) := by decide +kernel
theorem dX5_take_10 : decode cX5_take 10 = .ok (.getfield 15, 3) := by decide +kernel
theorem dX5_take_13 : decode cX5_take 13 = .ok (.iconst 1, 1) := by decide +kernel
theorem dX5_take_14 : decode cX5_take 14 = .ok (.invokestatic 76, 3) := by decide +kernel
theorem dX5_take_17 : decode cX5_take 17 = .ok (.istore_n 3, 1) := by decide +kernel
theorem dX5_take_18 : decode cX5_take 18 = .ok (.iload_n 1, 1) := by decide +kernel
theorem dX5_take_19 : decode cX5_take 19 = .ok (.bipush 75, 2) := by decide +kernel
theorem dX5_take_21 : decode cX5_take 21 = .ok (.if_icmp .ne 11, 3) := by decide +kernel
theorem dX5_take_24 : decode cX5_take 24 = .ok (.aload_n 0, 1) := by decide +kernel
theorem dX5_take_25 : decode cX5_take 25 = .ok (.iload_n 2, 1) := by decide +kernel
theorem dX5_take_26 : decode cX5_take 26 = .ok (.invokevirtual 125, 3) := by decide +kernel
theorem dX5_take_29 : decode cX5_take 29 = .ok (.goto 21, 3) := by decide +kernel
theorem dX5_take_32 : decode cX5_take 32 = .ok (.aload_n 0, 1) := by decide +kernel
theorem dX5_take_33 : decode cX5_take 33 = .ok (.getfield 35, 3) := by decide +kernel
theorem dX5_take_36 : decode cX5_take 36 = .ok (.ifnull 14, 3) := by decide +kernel
theorem dX5_take_39 : decode cX5_take 39 = .ok (.aload_n 0, 1) := by decide +kernel
theorem dX5_take_40 : decode cX5_take 40 = .ok (.aload_n 0, 1) := by decide +kernel
theorem dX5_take_41 : decode cX5_take 41 = .ok (.getfield 35, 3) := by decide +kernel
theorem dX5_take_44 : decode cX5_take 44 = .ok (.iload_n 1, 1) := by decide +kernel
theorem dX5_take_45 : decode cX5_take 45 = .ok (.iload_n 2, 1) := by decide +kernel
theorem dX5_take_46 : decode cX5_take 46 = .ok (.iload_n 3, 1) := by decide +kernel
theorem dX5_take_47 : decode cX5_take 47 = .ok (.invokevirtual 128, 3) := by decide +kernel
theorem dX5_take_50 : decode cX5_take 50 = .ok (.return_, 1) := by decide +kernel
theorem dX5_begin_0 : decode cX5_begin 0 = .ok (.aload_n 0, 1) := by decide +kernel
theorem dX5_begin_1 : decode cX5_begin 1 = .ok (.aload_n 0, 1) := by decide +kernel
theorem dX5_begin_2 : decode cX5_begin 2 = .ok (.getfield 31, 3) := by decide +kernel
theorem dX5_begin_5 : decode cX5_begin 5 = .ok (.ifnonnull 7, 3) := by decide +kernel
theorem dX5_begin_8 : decode cX5_begin 8 = .ok (.aconst_null, 1) := by decide +kernel
theorem dX5_begin_9 : decode cX5_begin 9 = .ok (.goto 11, 3) := by decide +kernel
theorem dX5_begin_12 : decode cX5_begin 12 = .ok (.aload_n 0, 1) := by decide +kernel
theorem dX5_begin_13 : decode cX5_begin 13 = .ok (.getfield 31, 3) := by decide +kernel
theorem dX5_begin_16 : decode cX5_begin 16 = .ok (.iload_n 1, 1) := by decide +kernel
theorem dX5_begin_17 : decode cX5_begin 17 = .ok (.invokevirtual 132, 3) := by decide +kernel
theorem dX5_begin_20 : decode cX5_begin 20 = .ok (.putfield 35, 3) := by decide +kernel
theorem dX5_begin_23 : decode cX5_begin 23 = .ok (.aload_n 0, 1) := by decide +kernel
theorem dX5_begin_24 : decode cX5_begin 24 = .ok (.getfield 35, 3) := by decide +kernel
theorem dX5_begin_27 : decode cX5_begin 27 = .ok (.ifnull 11, 3) := by decide +kernel
theorem dX5_begin_30 : decode cX5_begin 30 = .ok (.aload_n 0, 1) := by decide +kernel
theorem dX5_begin_31 : decode cX5_begin 31 = .ok (.getfield 35, 3) := by decide +kernel
theorem dX5_begin_34 : decode cX5_begin 34 = .ok (.iconst 1, 1) := by decide +kernel
theorem dX5_begin_35 : decode cX5_begin 35 = .ok (.putfield 136, 3) := by decide +kernel
theorem dX5_begin_38 : decode cX5_begin 38 = .ok (.return_, 1) := by decide +kernel
theorem dX5_takeOf_0 : decode cX5_takeOf 0 = .ok (.iload_n 2, 1) := by decide +kernel
theorem dX5_takeOf_1 : decode cX5_takeOf 1 = .ok (.tableswitch 209 68 90 #[153, 143, 187, 209, 209, 209, 209, 209, 209, 179, 209, 209, 209, 209, 201, 107, 209, 209, 209, 209, 130, 209, 117], 107) := by decide +kernel
theorem dX5_takeOf_108 : decode cX5_takeOf 108 = .ok (.aload_n 1, 1) := by decide +kernel
theorem dX5_takeOf_109 : decode cX5_takeOf 109 = .ok (.iload_n 3, 1) := by decide +kernel
theorem dX5_takeOf_110 : decode cX5_takeOf 110 = .ok (.iload 4, 2) := by decide +kernel
theorem dX5_takeOf_112 : decode cX5_takeOf 112 = .ok (.invokevirtual 140, 3) := by decide +kernel
theorem dX5_takeOf_115 : decode cX5_takeOf 115 = .ok (.goto 95, 3) := by decide +kernel
theorem dX5_takeOf_118 : decode cX5_takeOf 118 = .ok (.aload_n 1, 1) := by decide +kernel
theorem dX5_takeOf_119 : decode cX5_takeOf 119 = .ok (.getfield 112, 3) := by decide +kernel
theorem dX5_takeOf_122 : decode cX5_takeOf 122 = .ok (.iload_n 3, 1) := by decide +kernel
theorem dX5_takeOf_123 : decode cX5_takeOf 123 = .ok (.iload 4, 2) := by decide +kernel
theorem dX5_takeOf_125 : decode cX5_takeOf 125 = .ok (.invokestatic 22, 3) := by decide +kernel
theorem dX5_takeOf_128 : decode cX5_takeOf 128 = .ok (.goto 82, 3) := by decide +kernel
theorem dX5_takeOf_131 : decode cX5_takeOf 131 = .ok (.aload_n 1, 1) := by decide +kernel
theorem dX5_takeOf_132 : decode cX5_takeOf 132 = .ok (.getfield 115, 3) := by decide +kernel
theorem dX5_takeOf_135 : decode cX5_takeOf 135 = .ok (.iload_n 3, 1) := by decide +kernel
theorem dX5_takeOf_136 : decode cX5_takeOf 136 = .ok (.iload 4, 2) := by decide +kernel
theorem dX5_takeOf_138 : decode cX5_takeOf 138 = .ok (.invokestatic 22, 3) := by decide +kernel
theorem dX5_takeOf_141 : decode cX5_takeOf 141 = .ok (.goto 69, 3) := by decide +kernel
theorem dX5_takeOf_144 : decode cX5_takeOf 144 = .ok (.aload_n 1, 1) := by decide +kernel
theorem dX5_takeOf_145 : decode cX5_takeOf 145 = .ok (.iload_n 3, 1) := by decide +kernel
theorem dX5_takeOf_146 : decode cX5_takeOf 146 = .ok (.iload 4, 2) := by decide +kernel
theorem dX5_takeOf_148 : decode cX5_takeOf 148 = .ok (.invokevirtual 143, 3) := by decide +kernel
theorem dX5_takeOf_151 : decode cX5_takeOf 151 = .ok (.goto 59, 3) := by decide +kernel
theorem dX5_takeOf_154 : decode cX5_takeOf 154 = .ok (.aload_n 1, 1) := by decide +kernel
theorem dX5_takeOf_155 : decode cX5_takeOf 155 = .ok (.iload_n 3, 1) := by decide +kernel
theorem dX5_takeOf_156 : decode cX5_takeOf 156 = .ok (.putfield 90, 3) := by decide +kernel
theorem dX5_takeOf_159 : decode cX5_takeOf 159 = .ok (.aload_n 1, 1) := by decide +kernel
theorem dX5_takeOf_160 : decode cX5_takeOf 160 = .ok (.iload 4, 2) := by decide +kernel
theorem dX5_takeOf_162 : decode cX5_takeOf 162 = .ok (.putfield 146, 3) := by decide +kernel
theorem dX5_takeOf_165 : decode cX5_takeOf 165 = .ok (.aload_n 1, 1) := by decide +kernel
theorem dX5_takeOf_166 : decode cX5_takeOf 166 = .ok (.aload_n 0, 1) := by decide +kernel
theorem dX5_takeOf_167 : decode cX5_takeOf 167 = .ok (.getfield 15, 3) := by decide +kernel
theorem dX5_takeOf_170 : decode cX5_takeOf 170 = .ok (.iconst 2, 1) := by decide +kernel
theorem dX5_takeOf_171 : decode cX5_takeOf 171 = .ok (.invokestatic 76, 3) := by decide +kernel
theorem dX5_takeOf_174 : decode cX5_takeOf 174 = .ok (.putfield 149, 3) := by decide +kernel
theorem dX5_takeOf_177 : decode cX5_takeOf 177 = .ok (.goto 33, 3) := by decide +kernel
theorem dX5_takeOf_180 : decode cX5_takeOf 180 = .ok (.aload_n 1, 1) := by decide +kernel
theorem dX5_takeOf_181 : decode cX5_takeOf 181 = .ok (.iload_n 3, 1) := by decide +kernel
theorem dX5_takeOf_182 : decode cX5_takeOf 182 = .ok (.putfield 93, 3) := by decide +kernel
theorem dX5_takeOf_185 : decode cX5_takeOf 185 = .ok (.goto 25, 3) := by decide +kernel
theorem dX5_takeOf_188 : decode cX5_takeOf 188 = .ok (.aload_n 1, 1) := by decide +kernel
theorem dX5_takeOf_189 : decode cX5_takeOf 189 = .ok (.iload_n 3, 1) := by decide +kernel
theorem dX5_takeOf_190 : decode cX5_takeOf 190 = .ok (.putfield 96, 3) := by decide +kernel
theorem dX5_takeOf_193 : decode cX5_takeOf 193 = .ok (.aload_n 1, 1) := by decide +kernel
theorem dX5_takeOf_194 : decode cX5_takeOf 194 = .ok (.iload 4, 2) := by decide +kernel
theorem dX5_takeOf_196 : decode cX5_takeOf 196 = .ok (.putfield 152, 3) := by decide +kernel
theorem dX5_takeOf_199 : decode cX5_takeOf 199 = .ok (.goto 11, 3) := by decide +kernel
theorem dX5_takeOf_202 : decode cX5_takeOf 202 = .ok (.aload_n 1, 1) := by decide +kernel
theorem dX5_takeOf_203 : decode cX5_takeOf 203 = .ok (.iload_n 3, 1) := by decide +kernel
theorem dX5_takeOf_204 : decode cX5_takeOf 204 = .ok (.putfield 99, 3) := by decide +kernel
theorem dX5_takeOf_207 : decode cX5_takeOf 207 = .ok (.goto 3, 3) := by decide +kernel
theorem dX5_takeOf_210 : decode cX5_takeOf 210 = .ok (.return_, 1) := by decide +kernel
theorem dX6_init_0 : decode cX6_init 0 = .ok (.aload_n 0, 1) := by decide +kernel
theorem dX6_init_1 : decode cX6_init 1 = .ok (.invokespecial 3, 3) := by decide +kernel
theorem dX6_init_4 : decode cX6_init 4 = .ok (.aload_n 0, 1) := by decide +kernel
theorem dX6_init_5 : decode cX6_init 5 = .ok (.new 9, 3) := by decide +kernel
theorem dX6_init_8 : decode cX6_init 8 = .ok (.dup, 1) := by decide +kernel
theorem dX6_init_9 : decode cX6_init 9 = .ok (.invokespecial 11, 3) := by decide +kernel
theorem dX6_init_12 : decode cX6_init 12 = .ok (.putfield 12, 3) := by decide +kernel
theorem dX6_init_15 : decode cX6_init 15 = .ok (.aload_n 0, 1) := by decide +kernel
theorem dX6_init_16 : decode cX6_init 16 = .ok (.new 16, 3) := by decide +kernel
theorem dX6_init_19 : decode cX6_init 19 = .ok (.dup, 1) := by decide +kernel
theorem dX6_init_20 : decode cX6_init 20 = .ok (.invokespecial 18, 3) := by decide +kernel
theorem dX6_init_23 : decode cX6_init 23 = .ok (.putfield 19, 3) := by decide +kernel
theorem dX6_init_26 : decode cX6_init 26 = .ok (.aload_n 0, 1) := by decide +kernel
theorem dX6_init_27 : decode cX6_init 27 = .ok (.new 23, 3) := by decide +kernel
theorem dX6_init_30 : decode cX6_init 30 = .ok (.dup, 1) := by decide +kernel
theorem dX6_init_31 : decode cX6_init 31 = .ok (.invokespecial 25, 3) := by decide +kernel
theorem dX6_init_34 : decode cX6_init 34 = .ok (.putfield 26, 3) := by decide +kernel
theorem dX6_init_37 : decode cX6_init 37 = .ok (.aload_n 0, 1) := by decide +kernel
theorem dX6_init_38 : decode cX6_init 38 = .ok (.new 23, 3) := by decide +kernel
theorem dX6_init_41 : decode cX6_init 41 = .ok (.dup, 1) := by decide +kernel
theorem dX6_init_42 : decode cX6_init 42 = .ok (.invokespecial 25, 3) := by decide +kernel
theorem dX6_init_45 : decode cX6_init 45 = .ok (.putfield 30, 3) := by decide +kernel
theorem dX6_init_48 : decode cX6_init 48 = .ok (.aload_n 0, 1) := by decide +kernel
theorem dX6_init_49 : decode cX6_init 49 = .ok (.bipush 100, 2) := by decide +kernel
theorem dX6_init_51 : decode cX6_init 51 = .ok (.anewarray 33, 3) := by decide +kernel
theorem dX6_init_54 : decode cX6_init 54 = .ok (.putfield 35, 3) := by decide +kernel
theorem dX6_init_57 : decode cX6_init 57 = .ok (.aload_n 0, 1) := by decide +kernel
theorem dX6_init_58 : decode cX6_init 58 = .ok (.bipush 6, 2) := by decide +kernel
theorem dX6_init_60 : decode cX6_init 60 = .ok (.anewarray 39, 3) := by decide +kernel
theorem dX6_init_63 : decode cX6_init 63 = .ok (.putfield 41, 3) := by decide +kernel
theorem dX6_init_66 : decode cX6_init 66 = .ok (.iconst 0, 1) := by decide +kernel
theorem dX6_init_67 : decode cX6_init 67 = .ok (.istore_n 1, 1) := by decide +kernel
theorem dX6_init_68 : decode cX6_init 68 = .ok (.iload_n 1, 1) := by decide +kernel
theorem dX6_init_69 : decode cX6_init 69 = .ok (.aload_n 0, 1) := by decide +kernel
theorem dX6_init_70 : decode cX6_init 70 = .ok (.getfield 41, 3) := by decide +kernel
theorem dX6_init_73 : decode cX6_init 73 = .ok (.arraylength, 1) := by decide +kernel
theorem dX6_init_74 : decode cX6_init 74 = .ok (.if_icmp .ge 22, 3) := by decide +kernel
theorem dX6_init_77 : decode cX6_init 77 = .ok (.aload_n 0, 1) := by decide +kernel
theorem dX6_init_78 : decode cX6_init 78 = .ok (.getfield 41, 3) := by decide +kernel
theorem dX6_init_81 : decode cX6_init 81 = .ok (.iload_n 1, 1) := by decide +kernel
theorem dX6_init_82 : decode cX6_init 82 = .ok (.new 39, 3) := by decide +kernel
theorem dX6_init_85 : decode cX6_init 85 = .ok (.dup, 1) := by decide +kernel
theorem dX6_init_86 : decode cX6_init 86 = .ok (.invokespecial 45, 3) := by decide +kernel
theorem dX6_init_89 : decode cX6_init 89 = .ok (.aastore, 1) := by decide +kernel
theorem dX6_init_90 : decode cX6_init 90 = .ok (.iinc 1 1, 3) := by decide +kernel
theorem dX6_init_93 : decode cX6_init 93 = .ok (.goto (-25), 3) := by decide +kernel
theorem dX6_init_96 : decode cX6_init 96 = .ok (.return_, 1) := by decide +kernel
theorem dX6_sign_0 : decode cX6_sign 0 = .ok (.iload_n 1, 1) := by decide +kernel
theorem dX6_sign_1 : decode cX6_sign 1 = .ok (.iconst 0, 1) := by decide +kernel
theorem dX6_sign_2 : decode cX6_sign 2 = .ok (.bipush 126, 2) := by decide +kernel
theorem dX6_sign_4 : decode cX6_sign 4 = .ok (.invokestatic 46, 3) := by decide +kernel
theorem dX6_sign_7 : decode cX6_sign 7 = .ok (.ifCond .eq 11, 3) := by decide +kernel
theorem dX6_sign_10 : decode cX6_sign 10 = .ok (.aload_n 0, 1) := by decide +kernel
theorem dX6_sign_11 : decode cX6_sign 11 = .ok (.getfield 12, 3) := by decide +kernel
theorem dX6_sign_14 : decode cX6_sign 14 = .ok (.iload_n 1, 1) := by decide +kernel
theorem dX6_sign_15 : decode cX6_sign 15 = .ok (.invokevirtual 50, 3) := by decide +kernel
theorem dX6_sign_18 : decode cX6_sign 18 = .ok (.return_, 1) := by decide +kernel
theorem dX6_read_0 : decode cX6_read 0 = .ok (.aload_n 0, 1) := by decide +kernel
theorem dX6_read_1 : decode cX6_read 1 = .ok (.aload_n 0, 1) := by decide +kernel
theorem dX6_read_2 : decode cX6_read 2 = .ok (.getfield 54, 3) := by decide +kernel
theorem dX6_read_5 : decode cX6_read 5 = .ok (.invokevirtual 58, 3) := by decide +kernel
theorem dX6_read_8 : decode cX6_read 8 = .ok (.astore_n 1, 1) := by decide +kernel
theorem dX6_read_9 : decode cX6_read 9 = .ok (.aload_n 1, 1) := by decide +kernel
theorem dX6_read_10 : decode cX6_read 10 = .ok (.ifnonnull 6, 3) := by decide +kernel
theorem dX6_read_13 : decode cX6_read 13 = .ok (.ldc 62, 2) := by decide +kernel
theorem dX6_read_15 : decode cX6_read 15 = .ok (.ireturn, 1) := by decide +kernel
theorem dX6_read_16 : decode cX6_read 16 = .ok (.aload_n 0, 1) := by decide +kernel
theorem dX6_read_17 : decode cX6_read 17 = .ok (.getfield 12, 3) := by decide +kernel
theorem dX6_read_20 : decode cX6_read 20 = .ok (.aload_n 1, 1) := by decide +kernel
theorem dX6_read_21 : decode cX6_read 21 = .ok (.invokevirtual 63, 3) := by decide +kernel
theorem dX6_read_24 : decode cX6_read 24 = .ok (.istore_n 2, 1) := by decide +kernel
theorem dX6_read_25 : decode cX6_read 25 = .ok (.aload_n 0, 1) := by decide +kernel
theorem dX6_read_26 : decode cX6_read 26 = .ok (.getfield 12, 3) := by decide +kernel
theorem dX6_read_29 : decode cX6_read 29 = .ok (.invokevirtual 67, 3) := by decide +kernel
theorem dX6_read_32 : decode cX6_read 32 = .ok (.iload_n 2, 1) := by decide +kernel
theorem dX6_read_33 : decode cX6_read 33 = .ok (.ifCond .ge 5, 3) := by decide +kernel
theorem dX6_read_36 : decode cX6_read 36 = .ok (.iload_n 2, 1) := by decide +kernel
theorem dX6_read_37 : decode cX6_read 37 = .ok (.ireturn, 1) := by decide +kernel
theorem dX6_read_38 : decode cX6_read 38 = .ok (.aload_n 0, 1) := by decide +kernel
theorem dX6_read_39 : decode cX6_read 39 = .ok (.getfield 54, 3) := by decide +kernel
theorem dX6_read_42 : decode cX6_read 42 = .ok (.iconst 5, 1) := by decide +kernel
theorem dX6_read_43 : decode cX6_read 43 = .ok (.if_icmp .lt 6, 3) := by decide +kernel
theorem dX6_read_46 : decode cX6_read 46 = .ok (.ldc 62, 2) := by decide +kernel
theorem dX6_read_48 : decode cX6_read 48 = .ok (.ireturn, 1) := by decide +kernel
theorem dX6_read_49 : decode cX6_read 49 = .ok (.aload_n 0, 1) := by decide +kernel
theorem dX6_read_50 : decode cX6_read 50 = .ok (.dup, 1) := by decide +kernel
theorem dX6_read_51 : decode cX6_read 51 = .ok (.getfield 54, 3) := by decide +kernel
theorem dX6_read_54 : decode cX6_read 54 = .ok (.iconst 1, 1) := by decide +kernel
theorem dX6_read_55 : decode cX6_read 55 = .ok (.iadd, 1) := by decide +kernel
theorem dX6_read_56 : decode cX6_read 56 = .ok (.putfield 54, 3) := by decide +kernel
theorem dX6_read_59 : decode cX6_read 59 = .ok (.iload_n 2, 1) := by decide +kernel
theorem dX6_read_60 : decode cX6_read 60 = .ok (.ireturn, 1) := by decide +kernel
theorem dX6_item_0 : decode cX6_item 0 = .ok (.iload_n 1, 1) := by decide +kernel
theorem dX6_item_1 : decode cX6_item 1 = .ok (.invokestatic 70, 3) := by decide +kernel
theorem dX6_item_4 : decode cX6_item 4 = .ok (.ifCond .eq 33, 3) := by decide +kernel
theorem dX6_item_7 : decode cX6_item 7 = .ok (.iload_n 2, 1) := by decide +kernel
theorem dX6_item_8 : decode cX6_item 8 = .ok (.invokestatic 74, 3) := by decide +kernel
theorem dX6_item_11 : decode cX6_item 11 = .ok (.ifCond .eq 26, 3) := by decide +kernel
theorem dX6_item_14 : decode cX6_item 14 = .ok (.iload_n 3, 1) := by decide +kernel
theorem dX6_item_15 : decode cX6_item 15 = .ok (.invokestatic 74, 3) := by decide +kernel
theorem dX6_item_18 : decode cX6_item 18 = .ok (.ifCond .eq 19, 3) := by decide +kernel
theorem dX6_item_21 : decode cX6_item 21 = .ok (.iload 4, 2) := by decide +kernel
theorem dX6_item_23 : decode cX6_item 23 = .ok (.invokestatic 74, 3) := by decide +kernel
theorem dX6_item_26 : decode cX6_item 26 = .ok (.ifCond .eq 11, 3) := by decide +kernel
theorem dX6_item_29 : decode cX6_item 29 = .ok (.iload 5, 2) := by decide +kernel
theorem dX6_item_31 : decode cX6_item 31 = .ok (.invokestatic 74, 3) := by decide +kernel
theorem dX6_item_34 : decode cX6_item 34 = .ok (.ifCond .ne 6, 3) := by decide +kernel
theorem dX6_item_37 : decode cX6_item 37 = .ok (.ldc 77, 2) := by decide +kernel
theorem dX6_item_39 : decode cX6_item 39 = .ok (.ireturn, 1) := by decide +kernel
theorem dX6_item_40 : decode cX6_item 40 = .ok (.aload_n 0, 1) := by decide +kernel
theorem dX6_item_41 : decode cX6_item 41 = .ok (.getfield 78, 3) := by decide +kernel
theorem dX6_item_44 : decode cX6_item 44 = .ok (.ifCond .lt 15, 3) := by decide +kernel
theorem dX6_item_47 : decode cX6_item 47 = .ok (.aload_n 0, 1) := by decide +kernel
theorem dX6_item_48 : decode cX6_item 48 = .ok (.getfield 78, 3) := by decide +kernel
theorem dX6_item_51 : decode cX6_item 51 = .ok (.aload_n 0, 1) := by decide +kernel
theorem dX6_item_52 : decode cX6_item 52 = .ok (.getfield 35, 3) := by decide +kernel
theorem dX6_item_55 : decode cX6_item 55 = .ok (.arraylength, 1) := by decide +kernel
theorem dX6_item_56 : decode cX6_item 56 = .ok (.if_icmp .lt 6, 3) := by decide +kernel
theorem dX6_item_59 : decode cX6_item 59 = .ok (.ldc 62, 2) := by decide +kernel
theorem dX6_item_61 : decode cX6_item 61 = .ok (.ireturn, 1) := by decide +kernel
theorem dX6_item_62 : decode cX6_item 62 = .ok (.aload_n 0, 1) := by decide +kernel
theorem dX6_item_63 : decode cX6_item 63 = .ok (.getfield 35, 3) := by decide +kernel
theorem dX6_item_66 : decode cX6_item 66 = .ok (.aload_n 0, 1) := by decide +kernel
theorem dX6_item_67 : decode cX6_item 67 = .ok (.getfield 78, 3) := by decide +kernel
theorem dX6_item_70 : decode cX6_item 70 = .ok (.new 33, 3) := by decide +kernel
theorem dX6_item_73 : decode cX6_item 73 = .ok (.dup, 1) := by decide +kernel
theorem dX6_item_74 : decode cX6_item 74 = .ok (.iload_n 1, 1) := by decide +kernel
theorem dX6_item_75 : decode cX6_item 75 = .ok (.iload_n 2, 1) := by decide +kernel
theorem dX6_item_76 : decode cX6_item 76 = .ok (.iload_n 3, 1) := by decide +kernel
theorem dX6_item_77 : decode cX6_item 77 = .ok (.iload 4, 2) := by decide +kernel
theorem dX6_item_79 : decode cX6_item 79 = .ok (.iload 5, 2) := by decide +kernel
theorem dX6_item_81 : decode cX6_item 81 = .ok (.invokespecial 81, 3) := by decide +kernel
theorem dX6_item_84 : decode cX6_item 84 = .ok (.aastore, 1) := by decide +kernel
theorem dX6_item_85 : decode cX6_item 85 = .ok (.aload_n 0, 1) := by decide +kernel
theorem dX6_item_86 : decode cX6_item 86 = .ok (.dup, 1) := by decide +kernel
theorem dX6_item_87 : decode cX6_item 87 = .ok (.getfield 78, 3) := by decide +kernel
theorem dX6_item_90 : decode cX6_item 90 = .ok (.iconst 1, 1) := by decide +kernel
theorem dX6_item_91 : decode cX6_item 91 = .ok (.iadd, 1) := by decide +kernel
theorem dX6_item_92 : decode cX6_item 92 = .ok (.putfield 78, 3) := by decide +kernel
theorem dX6_item_95 : decode cX6_item 95 = .ok (.aload_n 0, 1) := by decide +kernel
theorem dX6_item_96 : decode cX6_item 96 = .ok (.getfield 78, 3) := by decide +kernel
theorem dX6_item_99 : decode cX6_item 99 = .ok (.iconst 1, 1) := by decide +kernel
theorem dX6_item_100 : decode cX6_item 100 = .ok (.isub, 1) := by decide +kernel
theorem dX6_item_101 : decode cX6_item 101 = .ok (.ireturn, 1) := by decide +kernel
theorem dX6_service_0 : decode cX6_service 0 = .ok (.aload_n 0, 1) := by decide +kernel
theorem dX6_service_1 : decode cX6_service 1 = .ok (.iload_n 1, 1) := by decide +kernel
theorem dX6_service_2 : decode cX6_service 2 = .ok (.invokevirtual 84, 3) := by decide +kernel
theorem dX6_service_5 : decode cX6_service 5 = .ok (.astore_n 3, 1) := by decide +kernel
theorem dX6_service_6 : decode cX6_service 6 = .ok (.aload_n 3, 1) := by decide +kernel
theorem dX6_service_7 : decode cX6_service 7 = .ok (.ifnonnull 6, 3) := by decide +kernel
theorem dX6_service_10 : decode cX6_service 10 = .ok (.ldc 88, 2) := by decide +kernel
theorem dX6_service_12 : decode cX6_service 12 = .ok (.ireturn, 1) := by decide +kernel
theorem dX6_service_13 : decode cX6_service 13 = .ok (.iload_n 2, 1) := by decide +kernel
theorem dX6_service_14 : decode cX6_service 14 = .ok (.invokestatic 70, 3) := by decide +kernel
theorem dX6_service_17 : decode cX6_service 17 = .ok (.ifCond .ne 6, 3) := by decide +kernel
theorem dX6_service_20 : decode cX6_service 20 = .ok (.ldc 77, 2) := by decide +kernel
theorem dX6_service_22 : decode cX6_service 22 = .ok (.ireturn, 1) := by decide +kernel
theorem dX6_service_23 : decode cX6_service 23 = .ok (.aload_n 3, 1) := by decide +kernel
theorem dX6_service_24 : decode cX6_service 24 = .ok (.dup, 1) := by decide +kernel
theorem dX6_service_25 : decode cX6_service 25 = .ok (.getfield 89, 3) := by decide +kernel
theorem dX6_service_28 : decode cX6_service 28 = .ok (.iconst 1, 1) := by decide +kernel
theorem dX6_service_29 : decode cX6_service 29 = .ok (.iload_n 2, 1) := by decide +kernel
theorem dX6_service_30 : decode cX6_service 30 = .ok (.ishl, 1) := by decide +kernel
theorem dX6_service_31 : decode cX6_service 31 = .ok (.ior, 1) := by decide +kernel
theorem dX6_service_32 : decode cX6_service 32 = .ok (.putfield 89, 3) := by decide +kernel
theorem dX6_service_35 : decode cX6_service 35 = .ok (.aload_n 3, 1) := by decide +kernel
theorem dX6_service_36 : decode cX6_service 36 = .ok (.getfield 89, 3) := by decide +kernel
theorem dX6_service_39 : decode cX6_service 39 = .ok (.invokestatic 92, 3) := by decide +kernel
theorem dX6_service_42 : decode cX6_service 42 = .ok (.ireturn, 1) := by decide +kernel
theorem dX6_price_0 : decode cX6_price 0 = .ok (.aload_n 0, 1) := by decide +kernel
theorem dX6_price_1 : decode cX6_price 1 = .ok (.iload_n 1, 1) := by decide +kernel
theorem dX6_price_2 : decode cX6_price 2 = .ok (.invokevirtual 84, 3) := by decide +kernel
theorem dX6_price_5 : decode cX6_price 5 = .ok (.astore 5, 2) := by decide +kernel
theorem dX6_price_7 : decode cX6_price 7 = .ok (.aload 5, 2) := by decide +kernel
theorem dX6_price_9 : decode cX6_price 9 = .ok (.ifnonnull 7, 3) := by decide +kernel
theorem dX6_price_12 : decode cX6_price 12 = .ok (.ldc2_w 98, 3) := by decide +kernel
theorem dX6_price_15 : decode cX6_price 15 = .ok (.lreturn, 1) := by decide +kernel
theorem dX6_price_16 : decode cX6_price 16 = .ok (.aload_n 0, 1) := by decide +kernel
theorem dX6_price_17 : decode cX6_price 17 = .ok (.iload_n 2, 1) := by decide +kernel
theorem dX6_price_18 : decode cX6_price 18 = .ok (.lload_n 3, 1) := by decide +kernel
theorem dX6_price_19 : decode cX6_price 19 = .ok (.invokevirtual 100, 3) := by decide +kernel
theorem dX6_price_22 : decode cX6_price 22 = .ok (.istore 6, 2) := by decide +kernel
theorem dX6_price_24 : decode cX6_price 24 = .ok (.iload 6, 2) := by decide +kernel
theorem dX6_price_26 : decode cX6_price 26 = .ok (.ifCond .eq 7, 3) := by decide +kernel
theorem dX6_price_29 : decode cX6_price 29 = .ok (.iload 6, 2) := by decide +kernel
theorem dX6_price_31 : decode cX6_price 31 = .ok (.i2l, 1) := by decide +kernel
theorem dX6_price_32 : decode cX6_price 32 = .ok (.lreturn, 1) := by decide +kernel
theorem dX6_price_33 : decode cX6_price 33 = .ok (.aload_n 0, 1) := by decide +kernel
theorem dX6_price_34 : decode cX6_price 34 = .ok (.getfield 26, 3) := by decide +kernel
theorem dX6_price_37 : decode cX6_price 37 = .ok (.aload 5, 2) := by decide +kernel
theorem dX6_price_39 : decode cX6_price 39 = .ok (.aload_n 0, 1) := by decide +kernel
theorem dX6_price_40 : decode cX6_price 40 = .ok (.invokevirtual 104, 3) := by decide +kernel
theorem dX6_price_43 : decode cX6_price 43 = .ok (.aload 5, 2) := by decide +kernel
theorem dX6_price_45 : decode cX6_price 45 = .ok (.getfield 108, 3) := by decide +kernel
theorem dX6_price_48 : decode cX6_price 48 = .ok (.invokestatic 111, 3) := by decide +kernel
theorem dX6_price_51 : decode cX6_price 51 = .ok (.iload_n 2, 1) := by decide +kernel
theorem dX6_price_52 : decode cX6_price 52 = .ok (.lload_n 3, 1) := by decide +kernel
theorem dX6_price_53 : decode cX6_price 53 = .ok (.invokevirtual 115, 3) := by decide +kernel
theorem dX6_price_56 : decode cX6_price 56 = .ok (.aload_n 0, 1) := by decide +kernel
theorem dX6_price_57 : decode cX6_price 57 = .ok (.getfield 26, 3) := by decide +kernel
theorem dX6_price_60 : decode cX6_price 60 = .ok (.getfield 119, 3) := by decide +kernel
theorem dX6_price_63 : decode cX6_price 63 = .ok (.lreturn, 1) := by decide +kernel
theorem dX6_least_0 : decode cX6_least 0 = .ok (.aload_n 0, 1) := by decide +kernel
theorem dX6_least_1 : decode cX6_least 1 = .ok (.iload_n 1, 1) := by decide +kernel
theorem dX6_least_2 : decode cX6_least 2 = .ok (.invokevirtual 84, 3) := by decide +kernel
theorem dX6_least_5 : decode cX6_least 5 = .ok (.astore 5, 2) := by decide +kernel
theorem dX6_least_7 : decode cX6_least 7 = .ok (.aload 5, 2) := by decide +kernel
theorem dX6_least_9 : decode cX6_least 9 = .ok (.ifnonnull 6, 3) := by decide +kernel
theorem dX6_least_12 : decode cX6_least 12 = .ok (.ldc 88, 2) := by decide +kernel
theorem dX6_least_14 : decode cX6_least 14 = .ok (.ireturn, 1) := by decide +kernel
theorem dX6_least_15 : decode cX6_least 15 = .ok (.aload_n 0, 1) := by decide +kernel
theorem dX6_least_16 : decode cX6_least 16 = .ok (.iload_n 2, 1) := by decide +kernel
theorem dX6_least_17 : decode cX6_least 17 = .ok (.lload_n 3, 1) := by decide +kernel
theorem dX6_least_18 : decode cX6_least 18 = .ok (.invokevirtual 100, 3) := by decide +kernel
theorem dX6_least_21 : decode cX6_least 21 = .ok (.istore 6, 2) := by decide +kernel
theorem dX6_least_23 : decode cX6_least 23 = .ok (.iload 6, 2) := by decide +kernel
theorem dX6_least_25 : decode cX6_least 25 = .ok (.ifCond .eq 6, 3) := by decide +kernel
theorem dX6_least_28 : decode cX6_least 28 = .ok (.iload 6, 2) := by decide +kernel
theorem dX6_least_30 : decode cX6_least 30 = .ok (.ireturn, 1) := by decide +kernel
theorem dX6_least_31 : decode cX6_least 31 = .ok (.aload_n 0, 1) := by decide +kernel
theorem dX6_least_32 : decode cX6_least 32 = .ok (.invokevirtual 104, 3) := by decide +kernel
theorem dX6_least_35 : decode cX6_least 35 = .ok (.astore 7, 2) := by decide +kernel
theorem dX6_least_37 : decode cX6_least 37 = .ok (.iconst (-1), 1) := by decide +kernel
theorem dX6_least_38 : decode cX6_least 38 = .ok (.istore 8, 2) := by decide +kernel
theorem dX6_least_40 : decode cX6_least 40 = .ok (.ldc2_w 123, 3) := by decide +kernel
theorem dX6_least_43 : decode cX6_least 43 = .ok (.lstore 9, 2) := by decide +kernel
theorem dX6_least_45 : decode cX6_least 45 = .ok (.iconst 0, 1) := by decide +kernel
theorem dX6_least_46 : decode cX6_least 46 = .ok (.istore 11, 2) := by decide +kernel
theorem dX6_least_48 : decode cX6_least 48 = .ok (.iload 11, 2) := by decide +kernel
theorem dX6_least_50 : decode cX6_least 50 = .ok (.bipush 10, 2) := by decide +kernel
theorem dX6_least_52 : decode cX6_least 52 = .ok (.if_icmp .ge 73, 3) := by decide +kernel
theorem dX6_least_55 : decode cX6_least 55 = .ok (.aload_n 0, 1) := by decide +kernel
theorem dX6_least_56 : decode cX6_least 56 = .ok (.getfield 30, 3) := by decide +kernel
theorem dX6_least_59 : decode cX6_least 59 = .ok (.aload 5, 2) := by decide +kernel
theorem dX6_least_61 : decode cX6_least 61 = .ok (.aload 7, 2) := by decide +kernel
theorem dX6_least_63 : decode cX6_least 63 = .ok (.iload 11, 2) := by decide +kernel
theorem dX6_least_65 : decode cX6_least 65 = .ok (.invokestatic 111, 3) := by decide +kernel
theorem dX6_least_68 : decode cX6_least 68 = .ok (.iload_n 2, 1) := by decide +kernel
theorem dX6_least_69 : decode cX6_least 69 = .ok (.lload_n 3, 1) := by decide +kernel
theorem dX6_least_70 : decode cX6_least 70 = .ok (.invokevirtual 115, 3) := by decide +kernel
theorem dX6_least_73 : decode cX6_least 73 = .ok (.aload_n 0, 1) := by decide +kernel
theorem dX6_least_74 : decode cX6_least 74 = .ok (.getfield 30, 3) := by decide +kernel
theorem dX6_least_77 : decode cX6_least 77 = .ok (.getfield 119, 3) := by decide +kernel
theorem dX6_least_80 : decode cX6_least 80 = .ok (.ldc2_w 123, 3) := by decide +kernel
theorem dX6_least_83 : decode cX6_least 83 = .ok (.lcmp, 1) := by decide +kernel
theorem dX6_least_84 : decode cX6_least 84 = .ok (.ifCond .eq 35, 3) := by decide +kernel
theorem dX6_least_87 : decode cX6_least 87 = .ok (.iload 8, 2) := by decide +kernel
theorem dX6_least_89 : decode cX6_least 89 = .ok (.iconst (-1), 1) := by decide +kernel
theorem dX6_least_90 : decode cX6_least 90 = .ok (.if_icmp .eq 16, 3) := by decide +kernel
theorem dX6_least_93 : decode cX6_least 93 = .ok (.aload_n 0, 1) := by decide +kernel
theorem dX6_least_94 : decode cX6_least 94 = .ok (.getfield 30, 3) := by decide +kernel
theorem dX6_least_97 : decode cX6_least 97 = .ok (.getfield 119, 3) := by decide +kernel
theorem dX6_least_100 : decode cX6_least 100 = .ok (.lload 9, 2) := by decide +kernel
theorem dX6_least_102 : decode cX6_least 102 = .ok (.lcmp, 1) := by decide +kernel
theorem dX6_least_103 : decode cX6_least 103 = .ok (.ifCond .ge 16, 3) := by decide +kernel
theorem dX6_least_106 : decode cX6_least 106 = .ok (.iload 11, 2) := by decide +kernel
theorem dX6_least_108 : decode cX6_least 108 = .ok (.istore 8, 2) := by decide +kernel
theorem dX6_least_110 : decode cX6_least 110 = .ok (.aload_n 0, 1) := by decide +kernel
theorem dX6_least_111 : decode cX6_least 111 = .ok (.getfield 30, 3) := by decide +kernel
theorem dX6_least_114 : decode cX6_least 114 = .ok (.getfield 119, 3) := by decide +kernel
theorem dX6_least_117 : decode cX6_least 117 = .ok (.lstore 9, 2) := by decide +kernel
theorem dX6_least_119 : decode cX6_least 119 = .ok (.iinc 11 1, 3) := by decide +kernel
theorem dX6_least_122 : decode cX6_least 122 = .ok (.goto (-74), 3) := by decide +kernel
theorem dX6_least_125 : decode cX6_least 125 = .ok (.iload 8, 2) := by decide +kernel
theorem dX6_least_127 : decode cX6_least 127 = .ok (.ireturn, 1) := by decide +kernel
theorem dX6_explain_0 : decode cX6_explain 0 = .ok (.aload_n 0, 1) := by decide +kernel
theorem dX6_explain_1 : decode cX6_explain 1 = .ok (.getfield 26, 3) := by decide +kernel
theorem dX6_explain_4 : decode cX6_explain 4 = .ok (.iload_n 1, 1) := by decide +kernel
theorem dX6_explain_5 : decode cX6_explain 5 = .ok (.iload_n 2, 1) := by decide +kernel
theorem dX6_explain_6 : decode cX6_explain 6 = .ok (.invokevirtual 125, 3) := by decide +kernel
theorem dX6_explain_9 : decode cX6_explain 9 = .ok (.ireturn, 1) := by decide +kernel
theorem dX6_dimensional_0 : decode cX6_dimensional 0 = .ok (.lload_n 1, 1) := by decide +kernel
theorem dX6_dimensional_1 : decode cX6_dimensional 1 = .ok (.lconst 0, 1) := by decide +kernel
theorem dX6_dimensional_2 : decode cX6_dimensional 2 = .ok (.lcmp, 1) := by decide +kernel
theorem dX6_dimensional_3 : decode cX6_dimensional 3 = .ok (.ifCond .lt 25, 3) := by decide +kernel
theorem dX6_dimensional_6 : decode cX6_dimensional 6 = .ok (.lload_n 1, 1) := by decide +kernel
theorem dX6_dimensional_7 : decode cX6_dimensional 7 = .ok (.ldc2_w 129, 3) := by decide +kernel
theorem dX6_dimensional_10 : decode cX6_dimensional 10 = .ok (.lcmp, 1) := by decide +kernel
theorem dX6_dimensional_11 : decode cX6_dimensional 11 = .ok (.ifCond .gt 17, 3) := by decide +kernel
theorem dX6_dimensional_14 : decode cX6_dimensional 14 = .ok (.lload_n 3, 1) := by decide +kernel
theorem dX6_dimensional_15 : decode cX6_dimensional 15 = .ok (.lconst 0, 1) := by decide +kernel
theorem dX6_dimensional_16 : decode cX6_dimensional 16 = .ok (.lcmp, 1) := by decide +kernel
theorem dX6_dimensional_17 : decode cX6_dimensional 17 = .ok (.ifCond .lt 11, 3) := by decide +kernel
theorem dX6_dimensional_20 : decode cX6_dimensional 20 = .ok (.lload_n 3, 1) := by decide +kernel
theorem dX6_dimensional_21 : decode cX6_dimensional 21 = .ok (.ldc2_w 129, 3) := by decide +kernel
theorem dX6_dimensional_24 : decode cX6_dimensional 24 = .ok (.lcmp, 1) := by decide +kernel
theorem dX6_dimensional_25 : decode cX6_dimensional 25 = .ok (.ifCond .le 7, 3) := by decide +kernel
theorem dX6_dimensional_28 : decode cX6_dimensional 28 = .ok (.ldc2_w 131, 3) := by decide +kernel
theorem dX6_dimensional_31 : decode cX6_dimensional 31 = .ok (.lreturn, 1) := by decide +kernel
theorem dX6_dimensional_32 : decode cX6_dimensional 32 = .ok (.lload_n 3, 1) := by decide +kernel
theorem dX6_dimensional_33 : decode cX6_dimensional 33 = .ok (.lconst 0, 1) := by decide +kernel
theorem dX6_dimensional_34 : decode cX6_dimensional 34 = .ok (.lcmp, 1) := by decide +kernel
theorem dX6_dimensional_35 : decode cX6_dimensional 35 = .ok (.ifCond .ne 13, 3) := by decide +kernel
theorem dX6_dimensional_38 : decode cX6_dimensional 38 = .ok (.new 133, 3) := by decide +kernel
theorem dX6_dimensional_41 : decode cX6_dimensional 41 = .ok (.dup, 1) := by decide +kernel
theorem dX6_dimensional_42 : decode cX6_dimensional 42 = .ok (.ldc 135, 2) := by decide +kernel
theorem dX6_dimensional_44 : decode cX6_dimensional 44 = .ok (.invokespecial 137, 3) := by decide +kernel
theorem dX6_dimensional_47 : decode cX6_dimensional 47 = .ok (.athrow, 1) := by decide +kernel
theorem dX6_dimensional_48 : decode cX6_dimensional 48 = .ok (.lload_n 1, 1) := by decide +kernel
theorem dX6_dimensional_49 : decode cX6_dimensional 49 = .ok (.lload_n 3, 1) := by decide +kernel
theorem dX6_dimensional_50 : decode cX6_dimensional 50 = .ok (.invokestatic 140, 3) := by decide +kernel
theorem dX6_dimensional_53 : decode cX6_dimensional 53 = .ok (.lreturn, 1) := by decide +kernel
theorem dX6_compare_0 : decode cX6_compare 0 = .ok (.iload_n 1, 1) := by decide +kernel
theorem dX6_compare_1 : decode cX6_compare 1 = .ok (.ifCond .lt 11, 3) := by decide +kernel
theorem dX6_compare_4 : decode cX6_compare 4 = .ok (.iload_n 1, 1) := by decide +kernel
theorem dX6_compare_5 : decode cX6_compare 5 = .ok (.aload_n 0, 1) := by decide +kernel
theorem dX6_compare_6 : decode cX6_compare 6 = .ok (.getfield 54, 3) := by decide +kernel
theorem dX6_compare_9 : decode cX6_compare 9 = .ok (.if_icmp .lt 6, 3) := by decide +kernel
theorem dX6_compare_12 : decode cX6_compare 12 = .ok (.ldc 88, 2) := by decide +kernel
theorem dX6_compare_14 : decode cX6_compare 14 = .ok (.ireturn, 1) := by decide +kernel
theorem dX6_compare_15 : decode cX6_compare 15 = .ok (.aload_n 0, 1) := by decide +kernel
theorem dX6_compare_16 : decode cX6_compare 16 = .ok (.iload_n 1, 1) := by decide +kernel
theorem dX6_compare_17 : decode cX6_compare 17 = .ok (.invokevirtual 58, 3) := by decide +kernel
theorem dX6_compare_20 : decode cX6_compare 20 = .ok (.astore_n 2, 1) := by decide +kernel
theorem dX6_compare_21 : decode cX6_compare 21 = .ok (.aload_n 0, 1) := by decide +kernel
theorem dX6_compare_22 : decode cX6_compare 22 = .ok (.invokevirtual 104, 3) := by decide +kernel
theorem dX6_compare_25 : decode cX6_compare 25 = .ok (.astore_n 3, 1) := by decide +kernel
theorem dX6_compare_26 : decode cX6_compare 26 = .ok (.iconst 0, 1) := by decide +kernel
theorem dX6_compare_27 : decode cX6_compare 27 = .ok (.istore 4, 2) := by decide +kernel
theorem dX6_compare_29 : decode cX6_compare 29 = .ok (.iconst 0, 1) := by decide +kernel
theorem dX6_compare_30 : decode cX6_compare 30 = .ok (.istore 5, 2) := by decide +kernel
theorem dX6_compare_32 : decode cX6_compare 32 = .ok (.iload 5, 2) := by decide +kernel
theorem dX6_compare_34 : decode cX6_compare 34 = .ok (.bipush 10, 2) := by decide +kernel
theorem dX6_compare_36 : decode cX6_compare 36 = .ok (.if_icmp .ge 30, 3) := by decide +kernel
theorem dX6_compare_39 : decode cX6_compare 39 = .ok (.aload_n 2, 1) := by decide +kernel
theorem dX6_compare_40 : decode cX6_compare 40 = .ok (.iload 5, 2) := by decide +kernel
theorem dX6_compare_42 : decode cX6_compare 42 = .ok (.invokestatic 111, 3) := by decide +kernel
theorem dX6_compare_45 : decode cX6_compare 45 = .ok (.aload_n 3, 1) := by decide +kernel
theorem dX6_compare_46 : decode cX6_compare 46 = .ok (.iload 5, 2) := by decide +kernel
theorem dX6_compare_48 : decode cX6_compare 48 = .ok (.invokestatic 111, 3) := by decide +kernel
theorem dX6_compare_51 : decode cX6_compare 51 = .ok (.invokestatic 144, 3) := by decide +kernel
theorem dX6_compare_54 : decode cX6_compare 54 = .ok (.ifCond .ne 6, 3) := by decide +kernel
theorem dX6_compare_57 : decode cX6_compare 57 = .ok (.iinc 4 1, 3) := by decide +kernel
theorem dX6_compare_60 : decode cX6_compare 60 = .ok (.iinc 5 1, 3) := by decide +kernel
theorem dX6_compare_63 : decode cX6_compare 63 = .ok (.goto (-31), 3) := by decide +kernel
theorem dX6_compare_66 : decode cX6_compare 66 = .ok (.iload 4, 2) := by decide +kernel
theorem dX6_compare_68 : decode cX6_compare 68 = .ok (.ireturn, 1) := by decide +kernel
theorem dX6_print_0 : decode cX6_print 0 = .ok (.aload_n 0, 1) := by decide +kernel
theorem dX6_print_1 : decode cX6_print 1 = .ok (.invokevirtual 104, 3) := by decide +kernel
theorem dX6_print_4 : decode cX6_print 4 = .ok (.astore_n 1, 1) := by decide +kernel
theorem dX6_print_5 : decode cX6_print 5 = .ok (.aload_n 1, 1) := by decide +kernel
theorem dX6_print_6 : decode cX6_print 6 = .ok (.ifnonnull 6, 3) := by decide +kernel
theorem dX6_print_9 : decode cX6_print 9 = .ok (.ldc 148, 2) := by decide +kernel
theorem dX6_print_11 : decode cX6_print 11 = .ok (.ireturn, 1) := by decide +kernel
theorem dX6_print_12 : decode cX6_print 12 = .ok (.aload_n 0, 1) := by decide +kernel
theorem dX6_print_13 : decode cX6_print 13 = .ok (.getfield 19, 3) := by decide +kernel
theorem dX6_print_16 : decode cX6_print 16 = .ok (.invokevirtual 149, 3) := by decide +kernel
theorem dX6_print_19 : decode cX6_print 19 = .ok (.iconst 0, 1) := by decide +kernel
theorem dX6_print_20 : decode cX6_print 20 = .ok (.istore_n 2, 1) := by decide +kernel
theorem dX6_print_21 : decode cX6_print 21 = .ok (.iload_n 2, 1) := by decide +kernel
theorem dX6_print_22 : decode cX6_print 22 = .ok (.bipush 10, 2) := by decide +kernel
theorem dX6_print_24 : decode cX6_print 24 = .ok (.if_icmp .ge 22, 3) := by decide +kernel
theorem dX6_print_27 : decode cX6_print 27 = .ok (.aload_n 0, 1) := by decide +kernel
theorem dX6_print_28 : decode cX6_print 28 = .ok (.getfield 19, 3) := by decide +kernel
theorem dX6_print_31 : decode cX6_print 31 = .ok (.iload_n 2, 1) := by decide +kernel
theorem dX6_print_32 : decode cX6_print 32 = .ok (.aload_n 1, 1) := by decide +kernel
theorem dX6_print_33 : decode cX6_print 33 = .ok (.iload_n 2, 1) := by decide +kernel
theorem dX6_print_34 : decode cX6_print 34 = .ok (.invokestatic 111, 3) := by decide +kernel
theorem dX6_print_37 : decode cX6_print 37 = .ok (.invokevirtual 152, 3) := by decide +kernel
theorem dX6_print_40 : decode cX6_print 40 = .ok (.iinc 2 1, 3) := by decide +kernel
theorem dX6_print_43 : decode cX6_print 43 = .ok (.goto (-22), 3) := by decide +kernel
theorem dX6_print_46 : decode cX6_print 46 = .ok (.aload_n 0, 1) := by decide +kernel
theorem dX6_print_47 : decode cX6_print 47 = .ok (.getfield 19, 3) := by decide +kernel
theorem dX6_print_50 : decode cX6_print 50 = .ok (.getfield 156, 3) := by decide +kernel
theorem dX6_print_53 : decode cX6_print 53 = .ok (.ireturn, 1) := by decide +kernel
theorem dX6_at_0 : decode cX6_at 0 = .ok (.iload_n 1, 1) := by decide +kernel
theorem dX6_at_1 : decode cX6_at 1 = .ok (.aload_n 0, 1) := by decide +kernel
theorem dX6_at_2 : decode cX6_at 2 = .ok (.getfield 19, 3) := by decide +kernel
theorem dX6_at_5 : decode cX6_at 5 = .ok (.getfield 156, 3) := by decide +kernel
theorem dX6_at_8 : decode cX6_at 8 = .ok (.if_icmp .ge 17, 3) := by decide +kernel
theorem dX6_at_11 : decode cX6_at 11 = .ok (.aload_n 0, 1) := by decide +kernel
theorem dX6_at_12 : decode cX6_at 12 = .ok (.getfield 19, 3) := by decide +kernel
theorem dX6_at_15 : decode cX6_at 15 = .ok (.getfield 159, 3) := by decide +kernel
theorem dX6_at_18 : decode cX6_at 18 = .ok (.iload_n 1, 1) := by decide +kernel
theorem dX6_at_19 : decode cX6_at 19 = .ok (.invokestatic 163, 3) := by decide +kernel
theorem dX6_at_22 : decode cX6_at 22 = .ok (.goto 4, 3) := by decide +kernel
theorem dX6_at_25 : decode cX6_at 25 = .ok (.iconst (-1), 1) := by decide +kernel
theorem dX6_at_26 : decode cX6_at 26 = .ok (.ireturn, 1) := by decide +kernel
theorem dX6_pricingRefusal_0 : decode cX6_pricingRefusal 0 = .ok (.iload_n 1, 1) := by decide +kernel
theorem dX6_pricingRefusal_1 : decode cX6_pricingRefusal 1 = .ok (.invokestatic 70, 3) := by decide +kernel
theorem dX6_pricingRefusal_4 : decode cX6_pricingRefusal 4 = .ok (.ifCond .eq 17, 3) := by decide +kernel
theorem dX6_pricingRefusal_7 : decode cX6_pricingRefusal 7 = .ok (.lload_n 2, 1) := by decide +kernel
theorem dX6_pricingRefusal_8 : decode cX6_pricingRefusal 8 = .ok (.lconst 0, 1) := by decide +kernel
theorem dX6_pricingRefusal_9 : decode cX6_pricingRefusal 9 = .ok (.lcmp, 1) := by decide +kernel
theorem dX6_pricingRefusal_10 : decode cX6_pricingRefusal 10 = .ok (.ifCond .lt 11, 3) := by decide +kernel
theorem dX6_pricingRefusal_13 : decode cX6_pricingRefusal 13 = .ok (.lload_n 2, 1) := by decide +kernel
theorem dX6_pricingRefusal_14 : decode cX6_pricingRefusal 14 = .ok (.ldc2_w 167, 3) := by decide +kernel
theorem dX6_pricingRefusal_17 : decode cX6_pricingRefusal 17 = .ok (.lcmp, 1) := by decide +kernel
theorem dX6_pricingRefusal_18 : decode cX6_pricingRefusal 18 = .ok (.ifCond .le 6, 3) := by decide +kernel
theorem dX6_pricingRefusal_21 : decode cX6_pricingRefusal 21 = .ok (.ldc 77, 2) := by decide +kernel
theorem dX6_pricingRefusal_23 : decode cX6_pricingRefusal 23 = .ok (.ireturn, 1) := by decide +kernel
theorem dX6_pricingRefusal_24 : decode cX6_pricingRefusal 24 = .ok (.aload_n 0, 1) := by decide +kernel
theorem dX6_pricingRefusal_25 : decode cX6_pricingRefusal 25 = .ok (.invokevirtual 104, 3) := by decide +kernel
theorem dX6_pricingRefusal_28 : decode cX6_pricingRefusal 28 = .ok (.ifnonnull 8, 3) := by decide +kernel
theorem dX6_pricingRefusal_31 : decode cX6_pricingRefusal 31 = .ok (.ldc 148, 2) := by decide +kernel
theorem dX6_pricingRefusal_33 : decode cX6_pricingRefusal 33 = .ok (.goto 4, 3) := by decide +kernel
theorem dX6_pricingRefusal_36 : decode cX6_pricingRefusal 36 = .ok (.iconst 0, 1) := by decide +kernel
theorem dX6_pricingRefusal_37 : decode cX6_pricingRefusal 37 = .ok (.ireturn, 1) := by decide +kernel
theorem dX6_itemOf_0 : decode cX6_itemOf 0 = .ok (.iload_n 1, 1) := by decide +kernel
theorem dX6_itemOf_1 : decode cX6_itemOf 1 = .ok (.ifCond .lt 29, 3) := by decide +kernel
theorem dX6_itemOf_4 : decode cX6_itemOf 4 = .ok (.iload_n 1, 1) := by decide +kernel
theorem dX6_itemOf_5 : decode cX6_itemOf 5 = .ok (.aload_n 0, 1) := by decide +kernel
theorem dX6_itemOf_6 : decode cX6_itemOf 6 = .ok (.getfield 78, 3) := by decide +kernel
theorem dX6_itemOf_9 : decode cX6_itemOf 9 = .ok (.if_icmp .ge 21, 3) := by decide +kernel
theorem dX6_itemOf_12 : decode cX6_itemOf 12 = .ok (.iload_n 1, 1) := by decide +kernel
theorem dX6_itemOf_13 : decode cX6_itemOf 13 = .ok (.aload_n 0, 1) := by decide +kernel
theorem dX6_itemOf_14 : decode cX6_itemOf 14 = .ok (.getfield 35, 3) := by decide +kernel
theorem dX6_itemOf_17 : decode cX6_itemOf 17 = .ok (.arraylength, 1) := by decide +kernel
theorem dX6_itemOf_18 : decode cX6_itemOf 18 = .ok (.if_icmp .ge 12, 3) := by decide +kernel
theorem dX6_itemOf_21 : decode cX6_itemOf 21 = .ok (.aload_n 0, 1) := by decide +kernel
theorem dX6_itemOf_22 : decode cX6_itemOf 22 = .ok (.getfield 35, 3) := by decide +kernel
theorem dX6_itemOf_25 : decode cX6_itemOf 25 = .ok (.iload_n 1, 1) := by decide +kernel
theorem dX6_itemOf_26 : decode cX6_itemOf 26 = .ok (.aaload, 1) := by decide +kernel
theorem dX6_itemOf_27 : decode cX6_itemOf 27 = .ok (.goto 4, 3) := by decide +kernel
theorem dX6_itemOf_30 : decode cX6_itemOf 30 = .ok (.aconst_null, 1) := by decide +kernel
theorem dX6_itemOf_31 : decode cX6_itemOf 31 = .ok (.areturn, 1) := by decide +kernel
theorem dX6_slot_0 : decode cX6_slot 0 = .ok (.iload_n 1, 1) := by decide +kernel
theorem dX6_slot_1 : decode cX6_slot 1 = .ok (.ifCond .lt 21, 3) := by decide +kernel
theorem dX6_slot_4 : decode cX6_slot 4 = .ok (.iload_n 1, 1) := by decide +kernel
theorem dX6_slot_5 : decode cX6_slot 5 = .ok (.aload_n 0, 1) := by decide +kernel
theorem dX6_slot_6 : decode cX6_slot 6 = .ok (.getfield 41, 3) := by decide +kernel
theorem dX6_slot_9 : decode cX6_slot 9 = .ok (.arraylength, 1) := by decide +kernel
theorem dX6_slot_10 : decode cX6_slot 10 = .ok (.if_icmp .ge 12, 3) := by decide +kernel
theorem dX6_slot_13 : decode cX6_slot 13 = .ok (.aload_n 0, 1) := by decide +kernel
theorem dX6_slot_14 : decode cX6_slot 14 = .ok (.getfield 41, 3) := by decide +kernel
theorem dX6_slot_17 : decode cX6_slot 17 = .ok (.iload_n 1, 1) := by decide +kernel
theorem dX6_slot_18 : decode cX6_slot 18 = .ok (.aaload, 1) := by decide +kernel
theorem dX6_slot_19 : decode cX6_slot 19 = .ok (.goto 4, 3) := by decide +kernel
theorem dX6_slot_22 : decode cX6_slot 22 = .ok (.aconst_null, 1) := by decide +kernel
theorem dX6_slot_23 : decode cX6_slot 23 = .ok (.areturn, 1) := by decide +kernel
theorem dX6_latest_0 : decode cX6_latest 0 = .ok (.aload_n 0, 1) := by decide +kernel
theorem dX6_latest_1 : decode cX6_latest 1 = .ok (.aload_n 0, 1) := by decide +kernel
theorem dX6_latest_2 : decode cX6_latest 2 = .ok (.getfield 54, 3) := by decide +kernel
theorem dX6_latest_5 : decode cX6_latest 5 = .ok (.iconst 1, 1) := by decide +kernel
theorem dX6_latest_6 : decode cX6_latest 6 = .ok (.isub, 1) := by decide +kernel
theorem dX6_latest_7 : decode cX6_latest 7 = .ok (.invokevirtual 58, 3) := by decide +kernel
theorem dX6_latest_10 : decode cX6_latest 10 = .ok (.areturn, 1) := by decide +kernel
theorem dX6_isWithin_0 : decode cX6_isWithin 0 = .ok (.iload_n 0, 1) := by decide +kernel
theorem dX6_isWithin_1 : decode cX6_isWithin 1 = .ok (.iload_n 1, 1) := by decide +kernel
theorem dX6_isWithin_2 : decode cX6_isWithin 2 = .ok (.if_icmp .lt 12, 3) := by decide +kernel
theorem dX6_isWithin_5 : decode cX6_isWithin 5 = .ok (.iload_n 0, 1) := by decide +kernel
theorem dX6_isWithin_6 : decode cX6_isWithin 6 = .ok (.iload_n 2, 1) := by decide +kernel
theorem dX6_isWithin_7 : decode cX6_isWithin 7 = .ok (.if_icmp .gt 7, 3) := by decide +kernel
theorem dX6_isWithin_10 : decode cX6_isWithin 10 = .ok (.iconst 1, 1) := by decide +kernel
theorem dX6_isWithin_11 : decode cX6_isWithin 11 = .ok (.goto 4, 3) := by decide +kernel
theorem dX6_isWithin_14 : decode cX6_isWithin 14 = .ok (.iconst 0, 1) := by decide +kernel
theorem dX6_isWithin_15 : decode cX6_isWithin 15 = .ok (.ireturn, 1) := by decide +kernel
theorem dX6_isName_0 : decode cX6_isName 0 = .ok (.iload_n 0, 1) := by decide +kernel
theorem dX6_isName_1 : decode cX6_isName 1 = .ok (.iconst 0, 1) := by decide +kernel
theorem dX6_isName_2 : decode cX6_isName 2 = .ok (.bipush 9, 2) := by decide +kernel
theorem dX6_isName_4 : decode cX6_isName 4 = .ok (.invokestatic 46, 3) := by decide +kernel
theorem dX6_isName_7 : decode cX6_isName 7 = .ok (.ireturn, 1) := by decide +kernel
theorem dX6_isMeasure_0 : decode cX6_isMeasure 0 = .ok (.iload_n 0, 1) := by decide +kernel
theorem dX6_isMeasure_1 : decode cX6_isMeasure 1 = .ok (.iconst 1, 1) := by decide +kernel
theorem dX6_isMeasure_2 : decode cX6_isMeasure 2 = .ok (.ldc 169, 2) := by decide +kernel
theorem dX6_isMeasure_4 : decode cX6_isMeasure 4 = .ok (.invokestatic 46, 3) := by decide +kernel
theorem dX6_isMeasure_7 : decode cX6_isMeasure 7 = .ok (.ireturn, 1) := by decide +kernel
theorem dX6_cell_0 : decode cX6_cell 0 = .ok (.aload_n 0, 1) := by decide +kernel
theorem dX6_cell_1 : decode cX6_cell 1 = .ok (.ifnull 19, 3) := by decide +kernel
theorem dX6_cell_4 : decode cX6_cell 4 = .ok (.iload_n 1, 1) := by decide +kernel
theorem dX6_cell_5 : decode cX6_cell 5 = .ok (.ifCond .lt 15, 3) := by decide +kernel
theorem dX6_cell_8 : decode cX6_cell 8 = .ok (.iload_n 1, 1) := by decide +kernel
theorem dX6_cell_9 : decode cX6_cell 9 = .ok (.aload_n 0, 1) := by decide +kernel
theorem dX6_cell_10 : decode cX6_cell 10 = .ok (.arraylength, 1) := by decide +kernel
theorem dX6_cell_11 : decode cX6_cell 11 = .ok (.if_icmp .ge 9, 3) := by decide +kernel
theorem dX6_cell_14 : decode cX6_cell 14 = .ok (.aload_n 0, 1) := by decide +kernel
theorem dX6_cell_15 : decode cX6_cell 15 = .ok (.iload_n 1, 1) := by decide +kernel
theorem dX6_cell_16 : decode cX6_cell 16 = .ok (.iaload, 1) := by decide +kernel
theorem dX6_cell_17 : decode cX6_cell 17 = .ok (.goto 4, 3) := by decide +kernel
theorem dX6_cell_20 : decode cX6_cell 20 = .ok (.iconst (-1), 1) := by decide +kernel
theorem dX6_cell_21 : decode cX6_cell 21 = .ok (.ireturn, 1) := by decide +kernel
theorem dX6_put_0 : decode cX6_put 0 = .ok (.aload_n 0, 1) := by decide +kernel
theorem dX6_put_1 : decode cX6_put 1 = .ok (.ifnull 17, 3) := by decide +kernel
theorem dX6_put_4 : decode cX6_put 4 = .ok (.iload_n 1, 1) := by decide +kernel
theorem dX6_put_5 : decode cX6_put 5 = .ok (.ifCond .lt 13, 3) := by decide +kernel
theorem dX6_put_8 : decode cX6_put 8 = .ok (.iload_n 1, 1) := by decide +kernel
theorem dX6_put_9 : decode cX6_put 9 = .ok (.aload_n 0, 1) := by decide +kernel
theorem dX6_put_10 : decode cX6_put 10 = .ok (.arraylength, 1) := by decide +kernel
theorem dX6_put_11 : decode cX6_put 11 = .ok (.if_icmp .ge 7, 3) := by decide +kernel
theorem dX6_put_14 : decode cX6_put 14 = .ok (.aload_n 0, 1) := by decide +kernel
theorem dX6_put_15 : decode cX6_put 15 = .ok (.iload_n 1, 1) := by decide +kernel
theorem dX6_put_16 : decode cX6_put 16 = .ok (.iload_n 2, 1) := by decide +kernel
theorem dX6_put_17 : decode cX6_put 17 = .ok (.iastore, 1) := by decide +kernel
theorem dX6_put_18 : decode cX6_put 18 = .ok (.return_, 1) := by decide +kernel
theorem dX6_fill_0 : decode cX6_fill 0 = .ok (.iconst 0, 1) := by decide +kernel
theorem dX6_fill_1 : decode cX6_fill 1 = .ok (.istore_n 2, 1) := by decide +kernel
theorem dX6_fill_2 : decode cX6_fill 2 = .ok (.aload_n 0, 1) := by decide +kernel
theorem dX6_fill_3 : decode cX6_fill 3 = .ok (.ifnull 19, 3) := by decide +kernel
theorem dX6_fill_6 : decode cX6_fill 6 = .ok (.iload_n 2, 1) := by decide +kernel
theorem dX6_fill_7 : decode cX6_fill 7 = .ok (.aload_n 0, 1) := by decide +kernel
theorem dX6_fill_8 : decode cX6_fill 8 = .ok (.arraylength, 1) := by decide +kernel
theorem dX6_fill_9 : decode cX6_fill 9 = .ok (.if_icmp .ge 13, 3) := by decide +kernel
theorem dX6_fill_12 : decode cX6_fill 12 = .ok (.aload_n 0, 1) := by decide +kernel
theorem dX6_fill_13 : decode cX6_fill 13 = .ok (.iload_n 2, 1) := by decide +kernel
theorem dX6_fill_14 : decode cX6_fill 14 = .ok (.iload_n 1, 1) := by decide +kernel
theorem dX6_fill_15 : decode cX6_fill 15 = .ok (.iastore, 1) := by decide +kernel
theorem dX6_fill_16 : decode cX6_fill 16 = .ok (.iinc 2 1, 3) := by decide +kernel
theorem dX6_fill_19 : decode cX6_fill 19 = .ok (.goto (-17), 3) := by decide +kernel
theorem dX6_fill_22 : decode cX6_fill 22 = .ok (.return_, 1) := by decide +kernel
theorem dX6_dividedUp_0 : decode cX6_dividedUp 0 = .ok (.lload_n 2, 1) := by decide +kernel
theorem dX6_dividedUp_1 : decode cX6_dividedUp 1 = .ok (.lconst 0, 1) := by decide +kernel
theorem dX6_dividedUp_2 : decode cX6_dividedUp 2 = .ok (.lcmp, 1) := by decide +kernel
theorem dX6_dividedUp_3 : decode cX6_dividedUp 3 = .ok (.ifCond .le 13, 3) := by decide +kernel
theorem dX6_dividedUp_6 : decode cX6_dividedUp 6 = .ok (.lload_n 0, 1) := by decide +kernel
theorem dX6_dividedUp_7 : decode cX6_dividedUp 7 = .ok (.lload_n 2, 1) := by decide +kernel
theorem dX6_dividedUp_8 : decode cX6_dividedUp 8 = .ok (.ladd, 1) := by decide +kernel
theorem dX6_dividedUp_9 : decode cX6_dividedUp 9 = .ok (.lconst 1, 1) := by decide +kernel
theorem dX6_dividedUp_10 : decode cX6_dividedUp 10 = .ok (.lsub, 1) := by decide +kernel
theorem dX6_dividedUp_11 : decode cX6_dividedUp 11 = .ok (.lload_n 2, 1) := by decide +kernel
theorem dX6_dividedUp_12 : decode cX6_dividedUp 12 = .ok (.ldiv, 1) := by decide +kernel
theorem dX6_dividedUp_13 : decode cX6_dividedUp 13 = .ok (.goto 4, 3) := by decide +kernel
theorem dX6_dividedUp_16 : decode cX6_dividedUp 16 = .ok (.lconst 0, 1) := by decide +kernel
theorem dX6_dividedUp_17 : decode cX6_dividedUp 17 = .ok (.lreturn, 1) := by decide +kernel
theorem dX6_kindOf_0 : decode cX6_kindOf 0 = .ok (.aload_n 0, 1) := by decide +kernel
theorem dX6_kindOf_1 : decode cX6_kindOf 1 = .ok (.ifnonnull 7, 3) := by decide +kernel
theorem dX6_kindOf_4 : decode cX6_kindOf 4 = .ok (.aconst_null, 1) := by decide +kernel
theorem dX6_kindOf_5 : decode cX6_kindOf 5 = .ok (.goto 8, 3) := by decide +kernel
theorem dX6_kindOf_8 : decode cX6_kindOf 8 = .ok (.aload_n 0, 1) := by decide +kernel
theorem dX6_kindOf_9 : decode cX6_kindOf 9 = .ok (.iload_n 1, 1) := by decide +kernel
theorem dX6_kindOf_10 : decode cX6_kindOf 10 = .ok (.invokevirtual 170, 3) := by decide +kernel
theorem dX6_kindOf_13 : decode cX6_kindOf 13 = .ok (.astore_n 2, 1) := by decide +kernel
theorem dX6_kindOf_14 : decode cX6_kindOf 14 = .ok (.aload_n 2, 1) := by decide +kernel
theorem dX6_kindOf_15 : decode cX6_kindOf 15 = .ok (.ifnull 14, 3) := by decide +kernel
theorem dX6_kindOf_18 : decode cX6_kindOf 18 = .ok (.aload_n 2, 1) := by decide +kernel
theorem dX6_kindOf_19 : decode cX6_kindOf 19 = .ok (.getfield 174, 3) := by decide +kernel
theorem dX6_kindOf_22 : decode cX6_kindOf 22 = .ok (.ifCond .eq 7, 3) := by decide +kernel
theorem dX6_kindOf_25 : decode cX6_kindOf 25 = .ok (.aload_n 2, 1) := by decide +kernel
theorem dX6_kindOf_26 : decode cX6_kindOf 26 = .ok (.goto 4, 3) := by decide +kernel
theorem dX6_kindOf_29 : decode cX6_kindOf 29 = .ok (.aconst_null, 1) := by decide +kernel
theorem dX6_kindOf_30 : decode cX6_kindOf 30 = .ok (.areturn, 1) := by decide +kernel
theorem dX6_arePrintedAlike_0 : decode cX6_arePrintedAlike 0 = .ok (.aload_n 0, 1) := by decide +kernel
theorem dX6_arePrintedAlike_1 : decode cX6_arePrintedAlike 1 = .ok (.ifnull 7, 3) := by decide +kernel
theorem dX6_arePrintedAlike_4 : decode cX6_arePrintedAlike 4 = .ok (.aload_n 1, 1) := by decide +kernel
theorem dX6_arePrintedAlike_5 : decode cX6_arePrintedAlike 5 = .ok (.ifnonnull 14, 3) := by decide +kernel
theorem dX6_arePrintedAlike_8 : decode cX6_arePrintedAlike 8 = .ok (.aload_n 0, 1) := by decide +kernel
theorem dX6_arePrintedAlike_9 : decode cX6_arePrintedAlike 9 = .ok (.aload_n 1, 1) := by decide +kernel
theorem dX6_arePrintedAlike_10 : decode cX6_arePrintedAlike 10 = .ok (.if_acmp .ne 7, 3) := by decide +kernel
theorem dX6_arePrintedAlike_13 : decode cX6_arePrintedAlike 13 = .ok (.iconst 1, 1) := by decide +kernel
theorem dX6_arePrintedAlike_14 : decode cX6_arePrintedAlike 14 = .ok (.goto 4, 3) := by decide +kernel
theorem dX6_arePrintedAlike_17 : decode cX6_arePrintedAlike 17 = .ok (.iconst 0, 1) := by decide +kernel
theorem dX6_arePrintedAlike_18 : decode cX6_arePrintedAlike 18 = .ok (.ireturn, 1) := by decide +kernel
theorem dX6_arePrintedAlike_19 : decode cX6_arePrintedAlike 19 = .ok (.aload_n 0, 1) := by decide +kernel
theorem dX6_arePrintedAlike_20 : decode cX6_arePrintedAlike 20 = .ok (.aload_n 1, 1) := by decide +kernel
theorem dX6_arePrintedAlike_21 : decode cX6_arePrintedAlike 21 = .ok (.invokevirtual 180, 3) := by decide +kernel
theorem dX6_arePrintedAlike_24 : decode cX6_arePrintedAlike 24 = .ok (.ifCond .eq 23, 3) := by decide +kernel
theorem dX6_arePrintedAlike_27 : decode cX6_arePrintedAlike 27 = .ok (.aload_n 0, 1) := by decide +kernel
theorem dX6_arePrintedAlike_28 : decode cX6_arePrintedAlike 28 = .ok (.aload_n 1, 1) := by decide +kernel
theorem dX6_arePrintedAlike_29 : decode cX6_arePrintedAlike 29 = .ok (.invokevirtual 184, 3) := by decide +kernel
theorem dX6_arePrintedAlike_32 : decode cX6_arePrintedAlike 32 = .ok (.ifCond .eq 15, 3) := by decide +kernel
theorem dX6_arePrintedAlike_35 : decode cX6_arePrintedAlike 35 = .ok (.aload_n 0, 1) := by decide +kernel
theorem dX6_arePrintedAlike_36 : decode cX6_arePrintedAlike 36 = .ok (.aload_n 1, 1) := by decide +kernel
theorem dX6_arePrintedAlike_37 : decode cX6_arePrintedAlike 37 = .ok (.invokevirtual 187, 3) := by decide +kernel
theorem dX6_arePrintedAlike_40 : decode cX6_arePrintedAlike 40 = .ok (.ifCond .eq 7, 3) := by decide +kernel
theorem dX6_arePrintedAlike_43 : decode cX6_arePrintedAlike 43 = .ok (.iconst 1, 1) := by decide +kernel
theorem dX6_arePrintedAlike_44 : decode cX6_arePrintedAlike 44 = .ok (.goto 4, 3) := by decide +kernel
theorem dX6_arePrintedAlike_47 : decode cX6_arePrintedAlike 47 = .ok (.iconst 0, 1) := by decide +kernel
theorem dX6_arePrintedAlike_48 : decode cX6_arePrintedAlike 48 = .ok (.ireturn, 1) := by decide +kernel
theorem dX7_init_0 : decode cX7_init 0 = .ok (.aload_n 0, 1) := by decide +kernel
theorem dX7_init_1 : decode cX7_init 1 = .ok (.invokespecial 1, 3) := by decide +kernel
theorem dX7_init_4 : decode cX7_init 4 = .ok (.aload_n 0, 1) := by decide +kernel
theorem dX7_init_5 : decode cX7_init 5 = .ok (.sipush 1500, 3) := by decide +kernel
theorem dX7_init_8 : decode cX7_init 8 = .ok (.newarray .int, 2) := by decide +kernel
theorem dX7_init_10 : decode cX7_init 10 = .ok (.putfield 7, 3) := by decide +kernel
theorem dX7_init_13 : decode cX7_init 13 = .ok (.aload_n 0, 1) := by decide +kernel
theorem dX7_init_14 : decode cX7_init 14 = .ok (.sipush 3120, 3) := by decide +kernel
theorem dX7_init_17 : decode cX7_init 17 = .ok (.newarray .int, 2) := by decide +kernel
theorem dX7_init_19 : decode cX7_init 19 = .ok (.putfield 13, 3) := by decide +kernel
theorem dX7_init_22 : decode cX7_init 22 = .ok (.aload_n 0, 1) := by decide +kernel
theorem dX7_init_23 : decode cX7_init 23 = .ok (.sipush 3120, 3) := by decide +kernel
theorem dX7_init_26 : decode cX7_init 26 = .ok (.newarray .int, 2) := by decide +kernel
theorem dX7_init_28 : decode cX7_init 28 = .ok (.putfield 16, 3) := by decide +kernel
theorem dX7_init_31 : decode cX7_init 31 = .ok (.aload_n 0, 1) := by decide +kernel
theorem dX7_init_32 : decode cX7_init 32 = .ok (.sipush 3120, 3) := by decide +kernel
theorem dX7_init_35 : decode cX7_init 35 = .ok (.newarray .int, 2) := by decide +kernel
theorem dX7_init_37 : decode cX7_init 37 = .ok (.putfield 19, 3) := by decide +kernel
theorem dX7_init_40 : decode cX7_init 40 = .ok (.aload_n 0, 1) := by decide +kernel
theorem dX7_init_41 : decode cX7_init 41 = .ok (.sipush 3120, 3) := by decide +kernel
theorem dX7_init_44 : decode cX7_init 44 = .ok (.newarray .int, 2) := by decide +kernel
theorem dX7_init_46 : decode cX7_init 46 = .ok (.putfield 22, 3) := by decide +kernel
theorem dX7_init_49 : decode cX7_init 49 = .ok (.aload_n 0, 1) := by decide +kernel
theorem dX7_init_50 : decode cX7_init 50 = .ok (.bipush 6, 2) := by decide +kernel
theorem dX7_init_52 : decode cX7_init 52 = .ok (.newarray .int, 2) := by decide +kernel
theorem dX7_init_54 : decode cX7_init 54 = .ok (.putfield 25, 3) := by decide +kernel
theorem dX7_init_57 : decode cX7_init 57 = .ok (.aload_n 0, 1) := by decide +kernel
theorem dX7_init_58 : decode cX7_init 58 = .ok (.bipush 100, 2) := by decide +kernel
theorem dX7_init_60 : decode cX7_init 60 = .ok (.newarray .int, 2) := by decide +kernel
theorem dX7_init_62 : decode cX7_init 62 = .ok (.putfield 28, 3) := by decide +kernel
theorem dX7_init_65 : decode cX7_init 65 = .ok (.aload_n 0, 1) := by decide +kernel
theorem dX7_init_66 : decode cX7_init 66 = .ok (.bipush 100, 2) := by decide +kernel
theorem dX7_init_68 : decode cX7_init 68 = .ok (.newarray .int, 2) := by decide +kernel
theorem dX7_init_70 : decode cX7_init 70 = .ok (.putfield 31, 3) := by decide +kernel
theorem dX7_init_73 : decode cX7_init 73 = .ok (.aload_n 0, 1) := by decide +kernel
theorem dX7_init_74 : decode cX7_init 74 = .ok (.bipush 100, 2) := by decide +kernel
theorem dX7_init_76 : decode cX7_init 76 = .ok (.newarray .int, 2) := by decide +kernel
theorem dX7_init_78 : decode cX7_init 78 = .ok (.putfield 34, 3) := by decide +kernel
theorem dX7_init_81 : decode cX7_init 81 = .ok (.aload_n 0, 1) := by decide +kernel
theorem dX7_init_82 : decode cX7_init 82 = .ok (.bipush 100, 2) := by decide +kernel
theorem dX7_init_84 : decode cX7_init 84 = .ok (.newarray .int, 2) := by decide +kernel
theorem dX7_init_86 : decode cX7_init 86 = .ok (.putfield 37, 3) := by decide +kernel
theorem dX7_init_89 : decode cX7_init 89 = .ok (.aload_n 0, 1) := by decide +kernel
theorem dX7_init_90 : decode cX7_init 90 = .ok (.bipush 100, 2) := by decide +kernel
theorem dX7_init_92 : decode cX7_init 92 = .ok (.newarray .int, 2) := by decide +kernel
theorem dX7_init_94 : decode cX7_init 94 = .ok (.putfield 40, 3) := by decide +kernel
theorem dX7_init_97 : decode cX7_init 97 = .ok (.aload_n 0, 1) := by decide +kernel
theorem dX7_init_98 : decode cX7_init 98 = .ok (.sipush 1000, 3) := by decide +kernel
theorem dX7_init_101 : decode cX7_init 101 = .ok (.newarray .boolean, 2) := by decide +kernel
theorem dX7_init_103 : decode cX7_init 103 = .ok (.putfield 43, 3) := by decide +kernel
theorem dX7_init_106 : decode cX7_init 106 = .ok (.aload_n 0, 1) := by decide +kernel
theorem dX7_init_107 : decode cX7_init 107 = .ok (.bipush 16, 2) := by decide +kernel
theorem dX7_init_109 : decode cX7_init 109 = .ok (.newarray .int, 2) := by decide +kernel
theorem dX7_init_111 : decode cX7_init 111 = .ok (.putfield 47, 3) := by decide +kernel
theorem dX7_init_114 : decode cX7_init 114 = .ok (.aload_n 0, 1) := by decide +kernel
theorem dX7_init_115 : decode cX7_init 115 = .ok (.bipush 16, 2) := by decide +kernel
theorem dX7_init_117 : decode cX7_init 117 = .ok (.newarray .long, 2) := by decide +kernel
theorem dX7_init_119 : decode cX7_init 119 = .ok (.putfield 50, 3) := by decide +kernel
theorem dX7_init_122 : decode cX7_init 122 = .ok (.aload_n 0, 1) := by decide +kernel
theorem dX7_init_123 : decode cX7_init 123 = .ok (.bipush 16, 2) := by decide +kernel
theorem dX7_init_125 : decode cX7_init 125 = .ok (.newarray .int, 2) := by decide +kernel
theorem dX7_init_127 : decode cX7_init 127 = .ok (.putfield 54, 3) := by decide +kernel
theorem dX7_init_130 : decode cX7_init 130 = .ok (.aload_n 0, 1) := by decide +kernel
theorem dX7_init_131 : decode cX7_init 131 = .ok (.sipush 2000, 3) := by decide +kernel
theorem dX7_init_134 : decode cX7_init 134 = .ok (.newarray .int, 2) := by decide +kernel
theorem dX7_init_136 : decode cX7_init 136 = .ok (.putfield 57, 3) := by decide +kernel
theorem dX7_init_139 : decode cX7_init 139 = .ok (.aload_n 0, 1) := by decide +kernel
theorem dX7_init_140 : decode cX7_init 140 = .ok (.sipush 2000, 3) := by decide +kernel
theorem dX7_init_143 : decode cX7_init 143 = .ok (.newarray .int, 2) := by decide +kernel
theorem dX7_init_145 : decode cX7_init 145 = .ok (.putfield 60, 3) := by decide +kernel
theorem dX7_init_148 : decode cX7_init 148 = .ok (.aload_n 0, 1) := by decide +kernel
theorem dX7_init_149 : decode cX7_init 149 = .ok (.sipush 2000, 3) := by decide +kernel
theorem dX7_init_152 : decode cX7_init 152 = .ok (.newarray .int, 2) := by decide +kernel
theorem dX7_init_154 : decode cX7_init 154 = .ok (.putfield 63, 3) := by decide +kernel
theorem dX7_init_157 : decode cX7_init 157 = .ok (.aload_n 0, 1) := by decide +kernel
theorem dX7_init_158 : decode cX7_init 158 = .ok (.bipush 16, 2) := by decide +kernel
theorem dX7_init_160 : decode cX7_init 160 = .ok (.newarray .int, 2) := by decide +kernel
theorem dX7_init_162 : decode cX7_init 162 = .ok (.putfield 66, 3) := by decide +kernel
theorem dX7_init_165 : decode cX7_init 165 = .ok (.aload_n 0, 1) := by decide +kernel
theorem dX7_init_166 : decode cX7_init 166 = .ok (.bipush 16, 2) := by decide +kernel
theorem dX7_init_168 : decode cX7_init 168 = .ok (.newarray .long, 2) := by decide +kernel
theorem dX7_init_170 : decode cX7_init 170 = .ok (.putfield 69, 3) := by decide +kernel
theorem dX7_init_173 : decode cX7_init 173 = .ok (.aload_n 0, 1) := by decide +kernel
theorem dX7_init_174 : decode cX7_init 174 = .ok (.bipush 16, 2) := by decide +kernel
theorem dX7_init_176 : decode cX7_init 176 = .ok (.newarray .int, 2) := by decide +kernel
theorem dX7_init_178 : decode cX7_init 178 = .ok (.putfield 72, 3) := by decide +kernel
theorem dX7_init_181 : decode cX7_init 181 = .ok (.return_, 1) := by decide +kernel
theorem dX7_thrown_0 : decode cX7_thrown 0 = .ok (.aload_n 0, 1) := by decide +kernel
theorem dX7_thrown_1 : decode cX7_thrown 1 = .ok (.getfield 75, 3) := by decide +kernel
theorem dX7_thrown_4 : decode cX7_thrown 4 = .ok (.ireturn, 1) := by decide +kernel
theorem dX7_sign_0 : decode cX7_sign 0 = .ok (.aload_n 0, 1) := by decide +kernel
theorem dX7_sign_1 : decode cX7_sign 1 = .ok (.iconst 0, 1) := by decide +kernel
theorem dX7_sign_2 : decode cX7_sign 2 = .ok (.putfield 75, 3) := by decide +kernel
theorem dX7_sign_5 : decode cX7_sign 5 = .ok (.aload_n 0, 1) := by decide +kernel
theorem dX7_sign_6 : decode cX7_sign 6 = .ok (.getfield 79, 3) := by decide +kernel
theorem dX7_sign_9 : decode cX7_sign 9 = .ok (.sipush 1500, 3) := by decide +kernel
theorem dX7_sign_12 : decode cX7_sign 12 = .ok (.if_icmp .ge 33, 3) := by decide +kernel
theorem dX7_sign_15 : decode cX7_sign 15 = .ok (.iload_n 1, 1) := by decide +kernel
theorem dX7_sign_16 : decode cX7_sign 16 = .ok (.ifCond .lt 29, 3) := by decide +kernel
theorem dX7_sign_19 : decode cX7_sign 19 = .ok (.iload_n 1, 1) := by decide +kernel
theorem dX7_sign_20 : decode cX7_sign 20 = .ok (.bipush 127, 2) := by decide +kernel
theorem dX7_sign_22 : decode cX7_sign 22 = .ok (.if_icmp .ge 23, 3) := by decide +kernel
theorem dX7_sign_25 : decode cX7_sign 25 = .ok (.aload_n 0, 1) := by decide +kernel
theorem dX7_sign_26 : decode cX7_sign 26 = .ok (.getfield 7, 3) := by decide +kernel
theorem dX7_sign_29 : decode cX7_sign 29 = .ok (.aload_n 0, 1) := by decide +kernel
theorem dX7_sign_30 : decode cX7_sign 30 = .ok (.getfield 79, 3) := by decide +kernel
theorem dX7_sign_33 : decode cX7_sign 33 = .ok (.iload_n 1, 1) := by decide +kernel
theorem dX7_sign_34 : decode cX7_sign 34 = .ok (.iastore, 1) := by decide +kernel
theorem dX7_sign_35 : decode cX7_sign 35 = .ok (.aload_n 0, 1) := by decide +kernel
theorem dX7_sign_36 : decode cX7_sign 36 = .ok (.dup, 1) := by decide +kernel
theorem dX7_sign_37 : decode cX7_sign 37 = .ok (.getfield 79, 3) := by decide +kernel
theorem dX7_sign_40 : decode cX7_sign 40 = .ok (.iconst 1, 1) := by decide +kernel
theorem dX7_sign_41 : decode cX7_sign 41 = .ok (.iadd, 1) := by decide +kernel
theorem dX7_sign_42 : decode cX7_sign 42 = .ok (.putfield 79, 3) := by decide +kernel
theorem dX7_sign_45 : decode cX7_sign 45 = .ok (.return_, 1) := by decide +kernel
theorem dX7_look_0 : decode cX7_look 0 = .ok (.aload_n 0, 1) := by decide +kernel
theorem dX7_look_1 : decode cX7_look 1 = .ok (.getfield 82, 3) := by decide +kernel
theorem dX7_look_4 : decode cX7_look 4 = .ok (.aload_n 0, 1) := by decide +kernel
theorem dX7_look_5 : decode cX7_look 5 = .ok (.getfield 79, 3) := by decide +kernel
theorem dX7_look_8 : decode cX7_look 8 = .ok (.if_icmp .ge 15, 3) := by decide +kernel
theorem dX7_look_11 : decode cX7_look 11 = .ok (.aload_n 0, 1) := by decide +kernel
theorem dX7_look_12 : decode cX7_look 12 = .ok (.getfield 7, 3) := by decide +kernel
theorem dX7_look_15 : decode cX7_look 15 = .ok (.aload_n 0, 1) := by decide +kernel
theorem dX7_look_16 : decode cX7_look 16 = .ok (.getfield 82, 3) := by decide +kernel
theorem dX7_look_19 : decode cX7_look 19 = .ok (.iaload, 1) := by decide +kernel
theorem dX7_look_20 : decode cX7_look 20 = .ok (.goto 4, 3) := by decide +kernel
theorem dX7_look_23 : decode cX7_look 23 = .ok (.iconst (-1), 1) := by decide +kernel
theorem dX7_look_24 : decode cX7_look 24 = .ok (.ireturn, 1) := by decide +kernel
theorem dX7_must_0 : decode cX7_must 0 = .ok (.iload_n 1, 1) := by decide +kernel
theorem dX7_must_1 : decode cX7_must 1 = .ok (.ifCond .ne 16, 3) := by decide +kernel
theorem dX7_must_4 : decode cX7_must 4 = .ok (.aload_n 0, 1) := by decide +kernel
theorem dX7_must_5 : decode cX7_must 5 = .ok (.getfield 85, 3) := by decide +kernel
theorem dX7_must_8 : decode cX7_must 8 = .ok (.iconst (-1), 1) := by decide +kernel
theorem dX7_must_9 : decode cX7_must 9 = .ok (.if_icmp .ne 8, 3) := by decide +kernel
theorem dX7_must_12 : decode cX7_must 12 = .ok (.aload_n 0, 1) := by decide +kernel
theorem dX7_must_13 : decode cX7_must 13 = .ok (.iload_n 2, 1) := by decide +kernel
theorem dX7_must_14 : decode cX7_must 14 = .ok (.putfield 85, 3) := by decide +kernel
theorem dX7_must_17 : decode cX7_must 17 = .ok (.aload_n 0, 1) := by decide +kernel
theorem dX7_must_18 : decode cX7_must 18 = .ok (.getfield 85, 3) := by decide +kernel
theorem dX7_must_21 : decode cX7_must 21 = .ok (.iconst (-1), 1) := by decide +kernel
theorem dX7_must_22 : decode cX7_must 22 = .ok (.if_icmp .ne 7, 3) := by decide +kernel
theorem dX7_must_25 : decode cX7_must 25 = .ok (.iconst 1, 1) := by decide +kernel
theorem dX7_must_26 : decode cX7_must 26 = .ok (.goto 4, 3) := by decide +kernel
theorem dX7_must_29 : decode cX7_must 29 = .ok (.iconst 0, 1) := by decide +kernel
theorem dX7_must_30 : decode cX7_must 30 = .ok (.ireturn, 1) := by decide +kernel
theorem dX7_isDigit_0 : decode cX7_isDigit 0 = .ok (.aload_n 0, 1) := by decide +kernel
theorem dX7_isDigit_1 : decode cX7_isDigit 1 = .ok (.invokevirtual 88, 3) := by decide +kernel
theorem dX7_isDigit_4 : decode cX7_isDigit 4 = .ok (.bipush 48, 2) := by decide +kernel
theorem dX7_isDigit_6 : decode cX7_isDigit 6 = .ok (.if_icmp .lt 16, 3) := by decide +kernel
theorem dX7_isDigit_9 : decode cX7_isDigit 9 = .ok (.aload_n 0, 1) := by decide +kernel
theorem dX7_isDigit_10 : decode cX7_isDigit 10 = .ok (.invokevirtual 88, 3) := by decide +kernel
theorem dX7_isDigit_13 : decode cX7_isDigit 13 = .ok (.bipush 57, 2) := by decide +kernel
theorem dX7_isDigit_15 : decode cX7_isDigit 15 = .ok (.if_icmp .gt 7, 3) := by decide +kernel
theorem dX7_isDigit_18 : decode cX7_isDigit 18 = .ok (.iconst 1, 1) := by decide +kernel
theorem dX7_isDigit_19 : decode cX7_isDigit 19 = .ok (.goto 4, 3) := by decide +kernel
theorem dX7_isDigit_22 : decode cX7_isDigit 22 = .ok (.iconst 0, 1) := by decide +kernel
theorem dX7_isDigit_23 : decode cX7_isDigit 23 = .ok (.ireturn, 1) := by decide +kernel
theorem dX7_number_0 : decode cX7_number 0 = .ok (.aload_n 0, 1) := by decide +kernel
theorem dX7_number_1 : decode cX7_number 1 = .ok (.getfield 82, 3) := by decide +kernel
theorem dX7_number_4 : decode cX7_number 4 = .ok (.istore_n 3, 1) := by decide +kernel
theorem dX7_number_5 : decode cX7_number 5 = .ok (.iconst 0, 1) := by decide +kernel
theorem dX7_number_6 : decode cX7_number 6 = .ok (.istore 4, 2) := by decide +kernel
theorem dX7_number_8 : decode cX7_number 8 = .ok (.aload_n 0, 1) := by decide +kernel
theorem dX7_number_9 : decode cX7_number 9 = .ok (.invokevirtual 92, 3) := by decide +kernel
theorem dX7_number_12 : decode cX7_number 12 = .ok (.ifCond .eq 42, 3) := by decide +kernel
theorem dX7_number_15 : decode cX7_number 15 = .ok (.aload_n 0, 1) := by decide +kernel
theorem dX7_number_16 : decode cX7_number 16 = .ok (.getfield 82, 3) := by decide +kernel
theorem dX7_number_19 : decode cX7_number 19 = .ok (.iload_n 3, 1) := by decide +kernel
theorem dX7_number_20 : decode cX7_number 20 = .ok (.isub, 1) := by decide +kernel
theorem dX7_number_21 : decode cX7_number 21 = .ok (.bipush 7, 2) := by decide +kernel
theorem dX7_number_23 : decode cX7_number 23 = .ok (.if_icmp .ge 31, 3) := by decide +kernel
theorem dX7_number_26 : decode cX7_number 26 = .ok (.bipush 10, 2) := by decide +kernel
theorem dX7_number_28 : decode cX7_number 28 = .ok (.iload 4, 2) := by decide +kernel
theorem dX7_number_30 : decode cX7_number 30 = .ok (.imul, 1) := by decide +kernel
theorem dX7_number_31 : decode cX7_number 31 = .ok (.aload_n 0, 1) := by decide +kernel
theorem dX7_number_32 : decode cX7_number 32 = .ok (.invokevirtual 88, 3) := by decide +kernel
theorem dX7_number_35 : decode cX7_number 35 = .ok (.iadd, 1) := by decide +kernel
theorem dX7_number_36 : decode cX7_number 36 = .ok (.bipush 48, 2) := by decide +kernel
theorem dX7_number_38 : decode cX7_number 38 = .ok (.isub, 1) := by decide +kernel
theorem dX7_number_39 : decode cX7_number 39 = .ok (.istore 4, 2) := by decide +kernel
theorem dX7_number_41 : decode cX7_number 41 = .ok (.aload_n 0, 1) := by decide +kernel
theorem dX7_number_42 : decode cX7_number 42 = .ok (.dup, 1) := by decide +kernel
theorem dX7_number_43 : decode cX7_number 43 = .ok (.getfield 82, 3) := by decide +kernel
theorem dX7_number_46 : decode cX7_number 46 = .ok (.iconst 1, 1) := by decide +kernel
theorem dX7_number_47 : decode cX7_number 47 = .ok (.iadd, 1) := by decide +kernel
theorem dX7_number_48 : decode cX7_number 48 = .ok (.putfield 82, 3) := by decide +kernel
theorem dX7_number_51 : decode cX7_number 51 = .ok (.goto (-43), 3) := by decide +kernel
theorem dX7_number_54 : decode cX7_number 54 = .ok (.aload_n 0, 1) := by decide +kernel
theorem dX7_number_55 : decode cX7_number 55 = .ok (.aload_n 0, 1) := by decide +kernel
theorem dX7_number_56 : decode cX7_number 56 = .ok (.getfield 82, 3) := by decide +kernel
theorem dX7_number_59 : decode cX7_number 59 = .ok (.iload_n 3, 1) := by decide +kernel
theorem dX7_number_60 : decode cX7_number 60 = .ok (.if_icmp .le 19, 3) := by decide +kernel
theorem dX7_number_63 : decode cX7_number 63 = .ok (.iload 4, 2) := by decide +kernel
theorem dX7_number_65 : decode cX7_number 65 = .ok (.iload_n 1, 1) := by decide +kernel
theorem dX7_number_66 : decode cX7_number 66 = .ok (.if_icmp .lt 13, 3) := by decide +kernel
theorem dX7_number_69 : decode cX7_number 69 = .ok (.iload 4, 2) := by decide +kernel
theorem dX7_number_71 : decode cX7_number 71 = .ok (.iload_n 2, 1) := by decide +kernel
theorem dX7_number_72 : decode cX7_number 72 = .ok (.if_icmp .gt 7, 3) := by decide +kernel
theorem dX7_number_75 : decode cX7_number 75 = .ok (.iconst 1, 1) := by decide +kernel
theorem dX7_number_76 : decode cX7_number 76 = .ok (.goto 4, 3) := by decide +kernel
theorem dX7_number_79 : decode cX7_number 79 = .ok (.iconst 0, 1) := by decide +kernel
theorem dX7_number_80 : decode cX7_number 80 = .ok (.iload_n 3, 1) := by decide +kernel
theorem dX7_number_81 : decode cX7_number 81 = .ok (.invokevirtual 96, 3) := by decide +kernel
theorem dX7_number_84 : decode cX7_number 84 = .ok (.istore 5, 2) := by decide +kernel
theorem dX7_number_86 : decode cX7_number 86 = .ok (.iload 4, 2) := by decide +kernel
theorem dX7_number_88 : decode cX7_number 88 = .ok (.ireturn, 1) := by decide +kernel
theorem dX7_next_0 : decode cX7_next 0 = .ok (.aload_n 0, 1) := by decide +kernel
theorem dX7_next_1 : decode cX7_next 1 = .ok (.aload_n 0, 1) := by decide +kernel
theorem dX7_next_2 : decode cX7_next 2 = .ok (.invokevirtual 88, 3) := by decide +kernel
theorem dX7_next_5 : decode cX7_next 5 = .ok (.bipush 32, 2) := by decide +kernel
theorem dX7_next_7 : decode cX7_next 7 = .ok (.if_icmp .ne 7, 3) := by decide +kernel
theorem dX7_next_10 : decode cX7_next 10 = .ok (.iconst 1, 1) := by decide +kernel
theorem dX7_next_11 : decode cX7_next 11 = .ok (.goto 4, 3) := by decide +kernel
theorem dX7_next_14 : decode cX7_next 14 = .ok (.iconst 0, 1) := by decide +kernel
theorem dX7_next_15 : decode cX7_next 15 = .ok (.aload_n 0, 1) := by decide +kernel
theorem dX7_next_16 : decode cX7_next 16 = .ok (.getfield 82, 3) := by decide +kernel
theorem dX7_next_19 : decode cX7_next 19 = .ok (.invokevirtual 96, 3) := by decide +kernel
theorem dX7_next_22 : decode cX7_next 22 = .ok (.ifCond .ne 5, 3) := by decide +kernel
theorem dX7_next_25 : decode cX7_next 25 = .ok (.iconst 0, 1) := by decide +kernel
theorem dX7_next_26 : decode cX7_next 26 = .ok (.ireturn, 1) := by decide +kernel
theorem dX7_next_27 : decode cX7_next 27 = .ok (.aload_n 0, 1) := by decide +kernel
theorem dX7_next_28 : decode cX7_next 28 = .ok (.dup, 1) := by decide +kernel
theorem dX7_next_29 : decode cX7_next 29 = .ok (.getfield 82, 3) := by decide +kernel
theorem dX7_next_32 : decode cX7_next 32 = .ok (.iconst 1, 1) := by decide +kernel
theorem dX7_next_33 : decode cX7_next 33 = .ok (.iadd, 1) := by decide +kernel
theorem dX7_next_34 : decode cX7_next 34 = .ok (.putfield 82, 3) := by decide +kernel
theorem dX7_next_37 : decode cX7_next 37 = .ok (.aload_n 0, 1) := by decide +kernel
theorem dX7_next_38 : decode cX7_next 38 = .ok (.iload_n 1, 1) := by decide +kernel
theorem dX7_next_39 : decode cX7_next 39 = .ok (.iload_n 2, 1) := by decide +kernel
theorem dX7_next_40 : decode cX7_next 40 = .ok (.invokevirtual 100, 3) := by decide +kernel
theorem dX7_next_43 : decode cX7_next 43 = .ok (.ireturn, 1) := by decide +kernel
theorem dX7_base_0 : decode cX7_base 0 = .ok (.sipush 2600, 3) := by decide +kernel
theorem dX7_base_3 : decode cX7_base 3 = .ok (.ireturn, 1) := by decide +kernel
theorem dX7_lastRow_0 : decode cX7_lastRow 0 = .ok (.aload_n 0, 1) := by decide +kernel
theorem dX7_lastRow_1 : decode cX7_lastRow 1 = .ok (.invokevirtual 104, 3) := by decide +kernel
theorem dX7_lastRow_4 : decode cX7_lastRow 4 = .ok (.aload_n 0, 1) := by decide +kernel
theorem dX7_lastRow_5 : decode cX7_lastRow 5 = .ok (.getfield 25, 3) := by decide +kernel
theorem dX7_lastRow_8 : decode cX7_lastRow 8 = .ok (.iconst 5, 1) := by decide +kernel
theorem dX7_lastRow_9 : decode cX7_lastRow 9 = .ok (.iaload, 1) := by decide +kernel
theorem dX7_lastRow_10 : decode cX7_lastRow 10 = .ok (.iadd, 1) := by decide +kernel
theorem dX7_lastRow_11 : decode cX7_lastRow 11 = .ok (.ireturn, 1) := by decide +kernel
theorem dX7_count_0 : decode cX7_count 0 = .ok (.iconst 0, 1) := by decide +kernel
theorem dX7_count_1 : decode cX7_count 1 = .ok (.istore_n 2, 1) := by decide +kernel
theorem dX7_count_2 : decode cX7_count 2 = .ok (.aload_n 0, 1) := by decide +kernel
theorem dX7_count_3 : decode cX7_count 3 = .ok (.getfield 107, 3) := by decide +kernel
theorem dX7_count_6 : decode cX7_count 6 = .ok (.istore_n 3, 1) := by decide +kernel
theorem dX7_count_7 : decode cX7_count 7 = .ok (.iload_n 3, 1) := by decide +kernel
theorem dX7_count_8 : decode cX7_count 8 = .ok (.aload_n 0, 1) := by decide +kernel
theorem dX7_count_9 : decode cX7_count 9 = .ok (.invokevirtual 110, 3) := by decide +kernel
theorem dX7_count_12 : decode cX7_count 12 = .ok (.if_icmp .ge 27, 3) := by decide +kernel
theorem dX7_count_15 : decode cX7_count 15 = .ok (.aload_n 0, 1) := by decide +kernel
theorem dX7_count_16 : decode cX7_count 16 = .ok (.getfield 13, 3) := by decide +kernel
theorem dX7_count_19 : decode cX7_count 19 = .ok (.iload_n 3, 1) := by decide +kernel
theorem dX7_count_20 : decode cX7_count 20 = .ok (.iaload, 1) := by decide +kernel
theorem dX7_count_21 : decode cX7_count 21 = .ok (.iload_n 1, 1) := by decide +kernel
theorem dX7_count_22 : decode cX7_count 22 = .ok (.if_icmp .ne 9, 3) := by decide +kernel
theorem dX7_count_25 : decode cX7_count 25 = .ok (.iload_n 2, 1) := by decide +kernel
theorem dX7_count_26 : decode cX7_count 26 = .ok (.iconst 1, 1) := by decide +kernel
theorem dX7_count_27 : decode cX7_count 27 = .ok (.iadd, 1) := by decide +kernel
theorem dX7_count_28 : decode cX7_count 28 = .ok (.goto 4, 3) := by decide +kernel
theorem dX7_count_31 : decode cX7_count 31 = .ok (.iload_n 2, 1) := by decide +kernel
theorem dX7_count_32 : decode cX7_count 32 = .ok (.istore_n 2, 1) := by decide +kernel
theorem dX7_count_33 : decode cX7_count 33 = .ok (.iinc 3 1, 3) := by decide +kernel
theorem dX7_count_36 : decode cX7_count 36 = .ok (.goto (-29), 3) := by decide +kernel
theorem dX7_count_39 : decode cX7_count 39 = .ok (.iload_n 2, 1) := by decide +kernel
theorem dX7_count_40 : decode cX7_count 40 = .ok (.ireturn, 1) := by decide +kernel
theorem dX7_isThere_0 : decode cX7_isThere 0 = .ok (.iconst 0, 1) := by decide +kernel
theorem dX7_isThere_1 : decode cX7_isThere 1 = .ok (.istore_n 3, 1) := by decide +kernel
theorem dX7_isThere_2 : decode cX7_isThere 2 = .ok (.aload_n 0, 1) := by decide +kernel
theorem dX7_isThere_3 : decode cX7_isThere 3 = .ok (.getfield 107, 3) := by decide +kernel
theorem dX7_isThere_6 : decode cX7_isThere 6 = .ok (.istore 4, 2) := by decide +kernel
theorem dX7_isThere_8 : decode cX7_isThere 8 = .ok (.iload 4, 2) := by decide +kernel
theorem dX7_isThere_10 : decode cX7_isThere 10 = .ok (.aload_n 0, 1) := by decide +kernel
theorem dX7_isThere_11 : decode cX7_isThere 11 = .ok (.invokevirtual 110, 3) := by decide +kernel
theorem dX7_isThere_14 : decode cX7_isThere 14 = .ok (.if_icmp .ge 41, 3) := by decide +kernel
theorem dX7_isThere_17 : decode cX7_isThere 17 = .ok (.iload_n 3, 1) := by decide +kernel
theorem dX7_isThere_18 : decode cX7_isThere 18 = .ok (.ifCond .ne 25, 3) := by decide +kernel
theorem dX7_isThere_21 : decode cX7_isThere 21 = .ok (.aload_n 0, 1) := by decide +kernel
theorem dX7_isThere_22 : decode cX7_isThere 22 = .ok (.getfield 13, 3) := by decide +kernel
theorem dX7_isThere_25 : decode cX7_isThere 25 = .ok (.iload 4, 2) := by decide +kernel
theorem dX7_isThere_27 : decode cX7_isThere 27 = .ok (.iaload, 1) := by decide +kernel
theorem dX7_isThere_28 : decode cX7_isThere 28 = .ok (.iload_n 1, 1) := by decide +kernel
theorem dX7_isThere_29 : decode cX7_isThere 29 = .ok (.if_icmp .ne 18, 3) := by decide +kernel
theorem dX7_isThere_32 : decode cX7_isThere 32 = .ok (.aload_n 0, 1) := by decide +kernel
theorem dX7_isThere_33 : decode cX7_isThere 33 = .ok (.getfield 16, 3) := by decide +kernel
theorem dX7_isThere_36 : decode cX7_isThere 36 = .ok (.iload 4, 2) := by decide +kernel
theorem dX7_isThere_38 : decode cX7_isThere 38 = .ok (.iaload, 1) := by decide +kernel
theorem dX7_isThere_39 : decode cX7_isThere 39 = .ok (.iload_n 2, 1) := by decide +kernel
theorem dX7_isThere_40 : decode cX7_isThere 40 = .ok (.if_icmp .ne 7, 3) := by decide +kernel
theorem dX7_isThere_43 : decode cX7_isThere 43 = .ok (.iconst 1, 1) := by decide +kernel
theorem dX7_isThere_44 : decode cX7_isThere 44 = .ok (.goto 4, 3) := by decide +kernel
theorem dX7_isThere_47 : decode cX7_isThere 47 = .ok (.iconst 0, 1) := by decide +kernel
theorem dX7_isThere_48 : decode cX7_isThere 48 = .ok (.istore_n 3, 1) := by decide +kernel
theorem dX7_isThere_49 : decode cX7_isThere 49 = .ok (.iinc 4 1, 3) := by decide +kernel
theorem dX7_isThere_52 : decode cX7_isThere 52 = .ok (.goto (-44), 3) := by decide +kernel
theorem dX7_isThere_55 : decode cX7_isThere 55 = .ok (.iload_n 3, 1) := by decide +kernel
theorem dX7_isThere_56 : decode cX7_isThere 56 = .ok (.ireturn, 1) := by decide +kernel
theorem dX7_lastWeight_0 : decode cX7_lastWeight 0 = .ok (.iconst 0, 1) := by decide +kernel
theorem dX7_lastWeight_1 : decode cX7_lastWeight 1 = .ok (.istore_n 1, 1) := by decide +kernel
theorem dX7_lastWeight_2 : decode cX7_lastWeight 2 = .ok (.aload_n 0, 1) := by decide +kernel
theorem dX7_lastWeight_3 : decode cX7_lastWeight 3 = .ok (.getfield 107, 3) := by decide +kernel
theorem dX7_lastWeight_6 : decode cX7_lastWeight 6 = .ok (.istore_n 2, 1) := by decide +kernel
theorem dX7_lastWeight_7 : decode cX7_lastWeight 7 = .ok (.iload_n 2, 1) := by decide +kernel
theorem dX7_lastWeight_8 : decode cX7_lastWeight 8 = .ok (.aload_n 0, 1) := by decide +kernel
theorem dX7_lastWeight_9 : decode cX7_lastWeight 9 = .ok (.invokevirtual 110, 3) := by decide +kernel
theorem dX7_lastWeight_12 : decode cX7_lastWeight 12 = .ok (.if_icmp .ge 31, 3) := by decide +kernel
theorem dX7_lastWeight_15 : decode cX7_lastWeight 15 = .ok (.aload_n 0, 1) := by decide +kernel
theorem dX7_lastWeight_16 : decode cX7_lastWeight 16 = .ok (.getfield 13, 3) := by decide +kernel
theorem dX7_lastWeight_19 : decode cX7_lastWeight 19 = .ok (.iload_n 2, 1) := by decide +kernel
theorem dX7_lastWeight_20 : decode cX7_lastWeight 20 = .ok (.iaload, 1) := by decide +kernel
theorem dX7_lastWeight_21 : decode cX7_lastWeight 21 = .ok (.bipush 83, 2) := by decide +kernel
theorem dX7_lastWeight_23 : decode cX7_lastWeight 23 = .ok (.if_icmp .ne 12, 3) := by decide +kernel
theorem dX7_lastWeight_26 : decode cX7_lastWeight 26 = .ok (.aload_n 0, 1) := by decide +kernel
theorem dX7_lastWeight_27 : decode cX7_lastWeight 27 = .ok (.getfield 16, 3) := by decide +kernel
theorem dX7_lastWeight_30 : decode cX7_lastWeight 30 = .ok (.iload_n 2, 1) := by decide +kernel
theorem dX7_lastWeight_31 : decode cX7_lastWeight 31 = .ok (.iaload, 1) := by decide +kernel
theorem dX7_lastWeight_32 : decode cX7_lastWeight 32 = .ok (.goto 4, 3) := by decide +kernel
theorem dX7_lastWeight_35 : decode cX7_lastWeight 35 = .ok (.iload_n 1, 1) := by decide +kernel
theorem dX7_lastWeight_36 : decode cX7_lastWeight 36 = .ok (.istore_n 1, 1) := by decide +kernel
theorem dX7_lastWeight_37 : decode cX7_lastWeight 37 = .ok (.iinc 2 1, 3) := by decide +kernel
theorem dX7_lastWeight_40 : decode cX7_lastWeight 40 = .ok (.goto (-33), 3) := by decide +kernel
theorem dX7_lastWeight_43 : decode cX7_lastWeight 43 = .ok (.iload_n 1, 1) := by decide +kernel
theorem dX7_lastWeight_44 : decode cX7_lastWeight 44 = .ok (.ireturn, 1) := by decide +kernel
theorem dX7_areApart_0 : decode cX7_areApart 0 = .ok (.iconst 0, 1) := by decide +kernel
theorem dX7_areApart_1 : decode cX7_areApart 1 = .ok (.istore_n 3, 1) := by decide +kernel
theorem dX7_areApart_2 : decode cX7_areApart 2 = .ok (.aload_n 0, 1) := by decide +kernel
theorem dX7_areApart_3 : decode cX7_areApart 3 = .ok (.getfield 107, 3) := by decide +kernel
theorem dX7_areApart_6 : decode cX7_areApart 6 = .ok (.istore 4, 2) := by decide +kernel
theorem dX7_areApart_8 : decode cX7_areApart 8 = .ok (.iload 4, 2) := by decide +kernel
theorem dX7_areApart_10 : decode cX7_areApart 10 = .ok (.aload_n 0, 1) := by decide +kernel
theorem dX7_areApart_11 : decode cX7_areApart 11 = .ok (.invokevirtual 110, 3) := by decide +kernel
theorem dX7_areApart_14 : decode cX7_areApart 14 = .ok (.if_icmp .ge 75, 3) := by decide +kernel
theorem dX7_areApart_17 : decode cX7_areApart 17 = .ok (.iload_n 3, 1) := by decide +kernel
theorem dX7_areApart_18 : decode cX7_areApart 18 = .ok (.ifCond .ne 59, 3) := by decide +kernel
theorem dX7_areApart_21 : decode cX7_areApart 21 = .ok (.aload_n 0, 1) := by decide +kernel
theorem dX7_areApart_22 : decode cX7_areApart 22 = .ok (.getfield 13, 3) := by decide +kernel
theorem dX7_areApart_25 : decode cX7_areApart 25 = .ok (.iload 4, 2) := by decide +kernel
theorem dX7_areApart_27 : decode cX7_areApart 27 = .ok (.iaload, 1) := by decide +kernel
theorem dX7_areApart_28 : decode cX7_areApart 28 = .ok (.bipush 69, 2) := by decide +kernel
theorem dX7_areApart_30 : decode cX7_areApart 30 = .ok (.if_icmp .ne 51, 3) := by decide +kernel
theorem dX7_areApart_33 : decode cX7_areApart 33 = .ok (.aload_n 0, 1) := by decide +kernel
theorem dX7_areApart_34 : decode cX7_areApart 34 = .ok (.getfield 16, 3) := by decide +kernel
theorem dX7_areApart_37 : decode cX7_areApart 37 = .ok (.iload 4, 2) := by decide +kernel
theorem dX7_areApart_39 : decode cX7_areApart 39 = .ok (.iaload, 1) := by decide +kernel
theorem dX7_areApart_40 : decode cX7_areApart 40 = .ok (.iload_n 1, 1) := by decide +kernel
theorem dX7_areApart_41 : decode cX7_areApart 41 = .ok (.if_icmp .ne 14, 3) := by decide +kernel
theorem dX7_areApart_44 : decode cX7_areApart 44 = .ok (.aload_n 0, 1) := by decide +kernel
theorem dX7_areApart_45 : decode cX7_areApart 45 = .ok (.getfield 19, 3) := by decide +kernel
theorem dX7_areApart_48 : decode cX7_areApart 48 = .ok (.iload 4, 2) := by decide +kernel
theorem dX7_areApart_50 : decode cX7_areApart 50 = .ok (.iaload, 1) := by decide +kernel
theorem dX7_areApart_51 : decode cX7_areApart 51 = .ok (.iload_n 2, 1) := by decide +kernel
theorem dX7_areApart_52 : decode cX7_areApart 52 = .ok (.if_icmp .eq 25, 3) := by decide +kernel
theorem dX7_areApart_55 : decode cX7_areApart 55 = .ok (.aload_n 0, 1) := by decide +kernel
theorem dX7_areApart_56 : decode cX7_areApart 56 = .ok (.getfield 16, 3) := by decide +kernel
theorem dX7_areApart_59 : decode cX7_areApart 59 = .ok (.iload 4, 2) := by decide +kernel
theorem dX7_areApart_61 : decode cX7_areApart 61 = .ok (.iaload, 1) := by decide +kernel
theorem dX7_areApart_62 : decode cX7_areApart 62 = .ok (.iload_n 2, 1) := by decide +kernel
theorem dX7_areApart_63 : decode cX7_areApart 63 = .ok (.if_icmp .ne 18, 3) := by decide +kernel
theorem dX7_areApart_66 : decode cX7_areApart 66 = .ok (.aload_n 0, 1) := by decide +kernel
theorem dX7_areApart_67 : decode cX7_areApart 67 = .ok (.getfield 19, 3) := by decide +kernel
theorem dX7_areApart_70 : decode cX7_areApart 70 = .ok (.iload 4, 2) := by decide +kernel
theorem dX7_areApart_72 : decode cX7_areApart 72 = .ok (.iaload, 1) := by decide +kernel
theorem dX7_areApart_73 : decode cX7_areApart 73 = .ok (.iload_n 1, 1) := by decide +kernel
theorem dX7_areApart_74 : decode cX7_areApart 74 = .ok (.if_icmp .ne 7, 3) := by decide +kernel
theorem dX7_areApart_77 : decode cX7_areApart 77 = .ok (.iconst 1, 1) := by decide +kernel
theorem dX7_areApart_78 : decode cX7_areApart 78 = .ok (.goto 4, 3) := by decide +kernel
theorem dX7_areApart_81 : decode cX7_areApart 81 = .ok (.iconst 0, 1) := by decide +kernel
theorem dX7_areApart_82 : decode cX7_areApart 82 = .ok (.istore_n 3, 1) := by decide +kernel
theorem dX7_areApart_83 : decode cX7_areApart 83 = .ok (.iinc 4 1, 3) := by decide +kernel
theorem dX7_areApart_86 : decode cX7_areApart 86 = .ok (.goto (-78), 3) := by decide +kernel
theorem dX7_areApart_89 : decode cX7_areApart 89 = .ok (.iload_n 3, 1) := by decide +kernel
theorem dX7_areApart_90 : decode cX7_areApart 90 = .ok (.ireturn, 1) := by decide +kernel
theorem dX7_add_0 : decode cX7_add 0 = .ok (.aload_n 0, 1) := by decide +kernel
theorem dX7_add_1 : decode cX7_add 1 = .ok (.getfield 85, 3) := by decide +kernel
theorem dX7_add_4 : decode cX7_add 4 = .ok (.iconst (-1), 1) := by decide +kernel
theorem dX7_add_5 : decode cX7_add 5 = .ok (.if_icmp .eq 4, 3) := by decide +kernel
theorem dX7_add_8 : decode cX7_add 8 = .ok (.return_, 1) := by decide +kernel
theorem dX7_add_9 : decode cX7_add 9 = .ok (.aload_n 0, 1) := by decide +kernel
theorem dX7_add_10 : decode cX7_add 10 = .ok (.invokevirtual 110, 3) := by decide +kernel
theorem dX7_add_13 : decode cX7_add 13 = .ok (.istore 5, 2) := by decide +kernel
theorem dX7_add_15 : decode cX7_add 15 = .ok (.aload_n 0, 1) := by decide +kernel
theorem dX7_add_16 : decode cX7_add 16 = .ok (.getfield 13, 3) := by decide +kernel
theorem dX7_add_19 : decode cX7_add 19 = .ok (.iload 5, 2) := by decide +kernel
theorem dX7_add_21 : decode cX7_add 21 = .ok (.iload_n 1, 1) := by decide +kernel
theorem dX7_add_22 : decode cX7_add 22 = .ok (.iastore, 1) := by decide +kernel
theorem dX7_add_23 : decode cX7_add 23 = .ok (.aload_n 0, 1) := by decide +kernel
theorem dX7_add_24 : decode cX7_add 24 = .ok (.getfield 16, 3) := by decide +kernel
theorem dX7_add_27 : decode cX7_add 27 = .ok (.iload 5, 2) := by decide +kernel
theorem dX7_add_29 : decode cX7_add 29 = .ok (.iload_n 2, 1) := by decide +kernel
theorem dX7_add_30 : decode cX7_add 30 = .ok (.iastore, 1) := by decide +kernel
theorem dX7_add_31 : decode cX7_add 31 = .ok (.aload_n 0, 1) := by decide +kernel
theorem dX7_add_32 : decode cX7_add 32 = .ok (.getfield 19, 3) := by decide +kernel
theorem dX7_add_35 : decode cX7_add 35 = .ok (.iload 5, 2) := by decide +kernel
theorem dX7_add_37 : decode cX7_add 37 = .ok (.iload_n 3, 1) := by decide +kernel
theorem dX7_add_38 : decode cX7_add 38 = .ok (.iastore, 1) := by decide +kernel
theorem dX7_add_39 : decode cX7_add 39 = .ok (.aload_n 0, 1) := by decide +kernel
theorem dX7_add_40 : decode cX7_add 40 = .ok (.getfield 22, 3) := by decide +kernel
theorem dX7_add_43 : decode cX7_add 43 = .ok (.iload 5, 2) := by decide +kernel
theorem dX7_add_45 : decode cX7_add 45 = .ok (.iload 4, 2) := by decide +kernel
theorem dX7_add_47 : decode cX7_add 47 = .ok (.iastore, 1) := by decide +kernel
theorem dX7_add_48 : decode cX7_add 48 = .ok (.aload_n 0, 1) := by decide +kernel
theorem dX7_add_49 : decode cX7_add 49 = .ok (.getfield 25, 3) := by decide +kernel
theorem dX7_add_52 : decode cX7_add 52 = .ok (.iconst 5, 1) := by decide +kernel
theorem dX7_add_53 : decode cX7_add 53 = .ok (.dup2, 1) := by decide +kernel
theorem dX7_add_54 : decode cX7_add 54 = .ok (.iaload, 1) := by decide +kernel
theorem dX7_add_55 : decode cX7_add 55 = .ok (.iconst 1, 1) := by decide +kernel
theorem dX7_add_56 : decode cX7_add 56 = .ok (.iadd, 1) := by decide +kernel
theorem dX7_add_57 : decode cX7_add 57 = .ok (.iastore, 1) := by decide +kernel
theorem dX7_add_58 : decode cX7_add 58 = .ok (.return_, 1) := by decide +kernel
theorem dX7_readKind_0 : decode cX7_readKind 0 = .ok (.aload_n 0, 1) := by decide +kernel
theorem dX7_readKind_1 : decode cX7_readKind 1 = .ok (.getfield 107, 3) := by decide +kernel
theorem dX7_readKind_4 : decode cX7_readKind 4 = .ok (.iconst (-1), 1) := by decide +kernel
theorem dX7_readKind_5 : decode cX7_readKind 5 = .ok (.if_icmp .eq 26, 3) := by decide +kernel
theorem dX7_readKind_8 : decode cX7_readKind 8 = .ok (.aload_n 0, 1) := by decide +kernel
theorem dX7_readKind_9 : decode cX7_readKind 9 = .ok (.aload_n 0, 1) := by decide +kernel
theorem dX7_readKind_10 : decode cX7_readKind 10 = .ok (.bipush 83, 2) := by decide +kernel
theorem dX7_readKind_12 : decode cX7_readKind 12 = .ok (.invokevirtual 113, 3) := by decide +kernel
theorem dX7_readKind_15 : decode cX7_readKind 15 = .ok (.ifCond .le 7, 3) := by decide +kernel
theorem dX7_readKind_18 : decode cX7_readKind 18 = .ok (.iconst 1, 1) := by decide +kernel
theorem dX7_readKind_19 : decode cX7_readKind 19 = .ok (.goto 4, 3) := by decide +kernel
theorem dX7_readKind_22 : decode cX7_readKind 22 = .ok (.iconst 0, 1) := by decide +kernel
theorem dX7_readKind_23 : decode cX7_readKind 23 = .ok (.iload_n 1, 1) := by decide +kernel
theorem dX7_readKind_24 : decode cX7_readKind 24 = .ok (.invokevirtual 96, 3) := by decide +kernel
theorem dX7_readKind_27 : decode cX7_readKind 27 = .ok (.ifCond .ne 4, 3) := by decide +kernel
theorem dX7_readKind_30 : decode cX7_readKind 30 = .ok (.return_, 1) := by decide +kernel
theorem dX7_readKind_31 : decode cX7_readKind 31 = .ok (.aload_n 0, 1) := by decide +kernel
theorem dX7_readKind_32 : decode cX7_readKind 32 = .ok (.getfield 82, 3) := by decide +kernel
theorem dX7_readKind_35 : decode cX7_readKind 35 = .ok (.istore_n 2, 1) := by decide +kernel
theorem dX7_readKind_36 : decode cX7_readKind 36 = .ok (.aload_n 0, 1) := by decide +kernel
theorem dX7_readKind_37 : decode cX7_readKind 37 = .ok (.iconst 0, 1) := by decide +kernel
theorem dX7_readKind_38 : decode cX7_readKind 38 = .ok (.bipush 9, 2) := by decide +kernel
theorem dX7_readKind_40 : decode cX7_readKind 40 = .ok (.invokevirtual 100, 3) := by decide +kernel
theorem dX7_readKind_43 : decode cX7_readKind 43 = .ok (.istore_n 3, 1) := by decide +kernel
theorem dX7_readKind_44 : decode cX7_readKind 44 = .ok (.iconst 0, 1) := by decide +kernel
theorem dX7_readKind_45 : decode cX7_readKind 45 = .ok (.istore 4, 2) := by decide +kernel
theorem dX7_readKind_47 : decode cX7_readKind 47 = .ok (.aload_n 0, 1) := by decide +kernel
theorem dX7_readKind_48 : decode cX7_readKind 48 = .ok (.invokevirtual 104, 3) := by decide +kernel
theorem dX7_readKind_51 : decode cX7_readKind 51 = .ok (.istore 5, 2) := by decide +kernel
theorem dX7_readKind_53 : decode cX7_readKind 53 = .ok (.iload 5, 2) := by decide +kernel
theorem dX7_readKind_55 : decode cX7_readKind 55 = .ok (.aload_n 0, 1) := by decide +kernel
theorem dX7_readKind_56 : decode cX7_readKind 56 = .ok (.invokevirtual 110, 3) := by decide +kernel
theorem dX7_readKind_59 : decode cX7_readKind 59 = .ok (.if_icmp .ge 44, 3) := by decide +kernel
theorem dX7_readKind_62 : decode cX7_readKind 62 = .ok (.iload 4, 2) := by decide +kernel
theorem dX7_readKind_64 : decode cX7_readKind 64 = .ok (.ifCond .ne 26, 3) := by decide +kernel
theorem dX7_readKind_67 : decode cX7_readKind 67 = .ok (.aload_n 0, 1) := by decide +kernel
theorem dX7_readKind_68 : decode cX7_readKind 68 = .ok (.getfield 13, 3) := by decide +kernel
theorem dX7_readKind_71 : decode cX7_readKind 71 = .ok (.iload 5, 2) := by decide +kernel
theorem dX7_readKind_73 : decode cX7_readKind 73 = .ok (.iaload, 1) := by decide +kernel
theorem dX7_readKind_74 : decode cX7_readKind 74 = .ok (.bipush 75, 2) := by decide +kernel
theorem dX7_readKind_76 : decode cX7_readKind 76 = .ok (.if_icmp .ne 18, 3) := by decide +kernel
theorem dX7_readKind_79 : decode cX7_readKind 79 = .ok (.aload_n 0, 1) := by decide +kernel
theorem dX7_readKind_80 : decode cX7_readKind 80 = .ok (.getfield 16, 3) := by decide +kernel
theorem dX7_readKind_83 : decode cX7_readKind 83 = .ok (.iload 5, 2) := by decide +kernel
theorem dX7_readKind_85 : decode cX7_readKind 85 = .ok (.iaload, 1) := by decide +kernel
theorem dX7_readKind_86 : decode cX7_readKind 86 = .ok (.iload_n 3, 1) := by decide +kernel
theorem dX7_readKind_87 : decode cX7_readKind 87 = .ok (.if_icmp .ne 7, 3) := by decide +kernel
theorem dX7_readKind_90 : decode cX7_readKind 90 = .ok (.iconst 1, 1) := by decide +kernel
theorem dX7_readKind_91 : decode cX7_readKind 91 = .ok (.goto 4, 3) := by decide +kernel
theorem dX7_readKind_94 : decode cX7_readKind 94 = .ok (.iconst 0, 1) := by decide +kernel
theorem dX7_readKind_95 : decode cX7_readKind 95 = .ok (.istore 4, 2) := by decide +kernel
theorem dX7_readKind_97 : decode cX7_readKind 97 = .ok (.iinc 5 1, 3) := by decide +kernel
theorem dX7_readKind_100 : decode cX7_readKind 100 = .ok (.goto (-47), 3) := by decide +kernel
theorem dX7_readKind_103 : decode cX7_readKind 103 = .ok (.aload_n 0, 1) := by decide +kernel
theorem dX7_readKind_104 : decode cX7_readKind 104 = .ok (.iload 4, 2) := by decide +kernel
theorem dX7_readKind_106 : decode cX7_readKind 106 = .ok (.ifCond .ne 7, 3) := by decide +kernel
theorem dX7_readKind_109 : decode cX7_readKind 109 = .ok (.iconst 1, 1) := by decide +kernel
theorem dX7_readKind_110 : decode cX7_readKind 110 = .ok (.goto 4, 3) := by decide +kernel
theorem dX7_readKind_113 : decode cX7_readKind 113 = .ok (.iconst 0, 1) := by decide +kernel
theorem dX7_readKind_114 : decode cX7_readKind 114 = .ok (.iload_n 2, 1) := by decide +kernel
theorem dX7_readKind_115 : decode cX7_readKind 115 = .ok (.invokevirtual 96, 3) := by decide +kernel
theorem dX7_readKind_118 : decode cX7_readKind 118 = .ok (.pop, 1) := by decide +kernel
theorem dX7_readKind_119 : decode cX7_readKind 119 = .ok (.aload_n 0, 1) := by decide +kernel
theorem dX7_readKind_120 : decode cX7_readKind 120 = .ok (.aload_n 0, 1) := by decide +kernel
theorem dX7_readKind_121 : decode cX7_readKind 121 = .ok (.invokevirtual 110, 3) := by decide +kernel
theorem dX7_readKind_124 : decode cX7_readKind 124 = .ok (.putfield 107, 3) := by decide +kernel
theorem dX7_readKind_127 : decode cX7_readKind 127 = .ok (.aload_n 0, 1) := by decide +kernel
theorem dX7_readKind_128 : decode cX7_readKind 128 = .ok (.bipush 75, 2) := by decide +kernel
theorem dX7_readKind_130 : decode cX7_readKind 130 = .ok (.iload_n 3, 1) := by decide +kernel
theorem dX7_readKind_131 : decode cX7_readKind 131 = .ok (.iconst 0, 1) := by decide +kernel
theorem dX7_readKind_132 : decode cX7_readKind 132 = .ok (.iconst 0, 1) := by decide +kernel
theorem dX7_readKind_133 : decode cX7_readKind 133 = .ok (.invokevirtual 117, 3) := by decide +kernel
theorem dX7_readKind_136 : decode cX7_readKind 136 = .ok (.return_, 1) := by decide +kernel
theorem dX7_readStep_0 : decode cX7_readStep 0 = .ok (.aload_n 0, 1) := by decide +kernel
theorem dX7_readStep_1 : decode cX7_readStep 1 = .ok (.aload_n 0, 1) := by decide +kernel
theorem dX7_readStep_2 : decode cX7_readStep 2 = .ok (.bipush 83, 2) := by decide +kernel
theorem dX7_readStep_4 : decode cX7_readStep 4 = .ok (.invokevirtual 113, 3) := by decide +kernel
theorem dX7_readStep_7 : decode cX7_readStep 7 = .ok (.bipush 10, 2) := by decide +kernel
theorem dX7_readStep_9 : decode cX7_readStep 9 = .ok (.if_icmp .ge 7, 3) := by decide +kernel
theorem dX7_readStep_12 : decode cX7_readStep 12 = .ok (.iconst 1, 1) := by decide +kernel
theorem dX7_readStep_13 : decode cX7_readStep 13 = .ok (.goto 4, 3) := by decide +kernel
theorem dX7_readStep_16 : decode cX7_readStep 16 = .ok (.iconst 0, 1) := by decide +kernel
theorem dX7_readStep_17 : decode cX7_readStep 17 = .ok (.iload_n 1, 1) := by decide +kernel
theorem dX7_readStep_18 : decode cX7_readStep 18 = .ok (.invokevirtual 96, 3) := by decide +kernel
theorem dX7_readStep_21 : decode cX7_readStep 21 = .ok (.ifCond .ne 4, 3) := by decide +kernel
theorem dX7_readStep_24 : decode cX7_readStep 24 = .ok (.return_, 1) := by decide +kernel
theorem dX7_readStep_25 : decode cX7_readStep 25 = .ok (.aload_n 0, 1) := by decide +kernel
theorem dX7_readStep_26 : decode cX7_readStep 26 = .ok (.aload_n 0, 1) := by decide +kernel
theorem dX7_readStep_27 : decode cX7_readStep 27 = .ok (.invokevirtual 121, 3) := by decide +kernel
theorem dX7_readStep_30 : decode cX7_readStep 30 = .ok (.iconst 1, 1) := by decide +kernel
theorem dX7_readStep_31 : decode cX7_readStep 31 = .ok (.iadd, 1) := by decide +kernel
theorem dX7_readStep_32 : decode cX7_readStep 32 = .ok (.ldc 124, 2) := by decide +kernel
theorem dX7_readStep_34 : decode cX7_readStep 34 = .ok (.invokevirtual 100, 3) := by decide +kernel
theorem dX7_readStep_37 : decode cX7_readStep 37 = .ok (.istore_n 2, 1) := by decide +kernel
theorem dX7_readStep_38 : decode cX7_readStep 38 = .ok (.aload_n 0, 1) := by decide +kernel
theorem dX7_readStep_39 : decode cX7_readStep 39 = .ok (.getfield 85, 3) := by decide +kernel
theorem dX7_readStep_42 : decode cX7_readStep 42 = .ok (.iconst (-1), 1) := by decide +kernel
theorem dX7_readStep_43 : decode cX7_readStep 43 = .ok (.if_icmp .ne 13, 3) := by decide +kernel
theorem dX7_readStep_46 : decode cX7_readStep 46 = .ok (.aload_n 0, 1) := by decide +kernel
theorem dX7_readStep_47 : decode cX7_readStep 47 = .ok (.iconst 0, 1) := by decide +kernel
theorem dX7_readStep_48 : decode cX7_readStep 48 = .ok (.ldc 124, 2) := by decide +kernel
theorem dX7_readStep_50 : decode cX7_readStep 50 = .ok (.invokevirtual 125, 3) := by decide +kernel
theorem dX7_readStep_53 : decode cX7_readStep 53 = .ok (.goto 4, 3) := by decide +kernel
theorem dX7_readStep_56 : decode cX7_readStep 56 = .ok (.iconst 0, 1) := by decide +kernel
theorem dX7_readStep_57 : decode cX7_readStep 57 = .ok (.istore_n 3, 1) := by decide +kernel
theorem dX7_readStep_58 : decode cX7_readStep 58 = .ok (.aload_n 0, 1) := by decide +kernel
theorem dX7_readStep_59 : decode cX7_readStep 59 = .ok (.bipush 83, 2) := by decide +kernel
theorem dX7_readStep_61 : decode cX7_readStep 61 = .ok (.iload_n 2, 1) := by decide +kernel
theorem dX7_readStep_62 : decode cX7_readStep 62 = .ok (.iload_n 3, 1) := by decide +kernel
theorem dX7_readStep_63 : decode cX7_readStep 63 = .ok (.iconst 0, 1) := by decide +kernel
theorem dX7_readStep_64 : decode cX7_readStep 64 = .ok (.invokevirtual 117, 3) := by decide +kernel
theorem dX7_readStep_67 : decode cX7_readStep 67 = .ok (.return_, 1) := by decide +kernel
theorem dX7_readOnceEach_0 : decode cX7_readOnceEach 0 = .ok (.aload_n 0, 1) := by decide +kernel
theorem dX7_readOnceEach_1 : decode cX7_readOnceEach 1 = .ok (.getfield 82, 3) := by decide +kernel
theorem dX7_readOnceEach_4 : decode cX7_readOnceEach 4 = .ok (.istore_n 3, 1) := by decide +kernel
theorem dX7_readOnceEach_5 : decode cX7_readOnceEach 5 = .ok (.aload_n 0, 1) := by decide +kernel
theorem dX7_readOnceEach_6 : decode cX7_readOnceEach 6 = .ok (.iconst 0, 1) := by decide +kernel
theorem dX7_readOnceEach_7 : decode cX7_readOnceEach 7 = .ok (.bipush 9, 2) := by decide +kernel
theorem dX7_readOnceEach_9 : decode cX7_readOnceEach 9 = .ok (.invokevirtual 100, 3) := by decide +kernel
theorem dX7_readOnceEach_12 : decode cX7_readOnceEach 12 = .ok (.istore 4, 2) := by decide +kernel
theorem dX7_readOnceEach_14 : decode cX7_readOnceEach 14 = .ok (.aload_n 0, 1) := by decide +kernel
theorem dX7_readOnceEach_15 : decode cX7_readOnceEach 15 = .ok (.getfield 85, 3) := by decide +kernel
theorem dX7_readOnceEach_18 : decode cX7_readOnceEach 18 = .ok (.iconst (-1), 1) := by decide +kernel
theorem dX7_readOnceEach_19 : decode cX7_readOnceEach 19 = .ok (.if_icmp .ne 24, 3) := by decide +kernel
theorem dX7_readOnceEach_22 : decode cX7_readOnceEach 22 = .ok (.aload_n 0, 1) := by decide +kernel
theorem dX7_readOnceEach_23 : decode cX7_readOnceEach 23 = .ok (.aload_n 0, 1) := by decide +kernel
theorem dX7_readOnceEach_24 : decode cX7_readOnceEach 24 = .ok (.iload_n 1, 1) := by decide +kernel
theorem dX7_readOnceEach_25 : decode cX7_readOnceEach 25 = .ok (.iload 4, 2) := by decide +kernel
theorem dX7_readOnceEach_27 : decode cX7_readOnceEach 27 = .ok (.invokevirtual 128, 3) := by decide +kernel
theorem dX7_readOnceEach_30 : decode cX7_readOnceEach 30 = .ok (.ifCond .ne 7, 3) := by decide +kernel
theorem dX7_readOnceEach_33 : decode cX7_readOnceEach 33 = .ok (.iconst 1, 1) := by decide +kernel
theorem dX7_readOnceEach_34 : decode cX7_readOnceEach 34 = .ok (.goto 4, 3) := by decide +kernel
theorem dX7_readOnceEach_37 : decode cX7_readOnceEach 37 = .ok (.iconst 0, 1) := by decide +kernel
theorem dX7_readOnceEach_38 : decode cX7_readOnceEach 38 = .ok (.iload_n 3, 1) := by decide +kernel
theorem dX7_readOnceEach_39 : decode cX7_readOnceEach 39 = .ok (.invokevirtual 96, 3) := by decide +kernel
theorem dX7_readOnceEach_42 : decode cX7_readOnceEach 42 = .ok (.pop, 1) := by decide +kernel
theorem dX7_readOnceEach_43 : decode cX7_readOnceEach 43 = .ok (.aload_n 0, 1) := by decide +kernel
theorem dX7_readOnceEach_44 : decode cX7_readOnceEach 44 = .ok (.getfield 85, 3) := by decide +kernel
theorem dX7_readOnceEach_47 : decode cX7_readOnceEach 47 = .ok (.iconst (-1), 1) := by decide +kernel
theorem dX7_readOnceEach_48 : decode cX7_readOnceEach 48 = .ok (.if_icmp .ne 12, 3) := by decide +kernel
theorem dX7_readOnceEach_51 : decode cX7_readOnceEach 51 = .ok (.aload_n 0, 1) := by decide +kernel
theorem dX7_readOnceEach_52 : decode cX7_readOnceEach 52 = .ok (.iconst 0, 1) := by decide +kernel
theorem dX7_readOnceEach_53 : decode cX7_readOnceEach 53 = .ok (.iload_n 2, 1) := by decide +kernel
theorem dX7_readOnceEach_54 : decode cX7_readOnceEach 54 = .ok (.invokevirtual 125, 3) := by decide +kernel
theorem dX7_readOnceEach_57 : decode cX7_readOnceEach 57 = .ok (.goto 4, 3) := by decide +kernel
theorem dX7_readOnceEach_60 : decode cX7_readOnceEach 60 = .ok (.iconst 0, 1) := by decide +kernel
theorem dX7_readOnceEach_61 : decode cX7_readOnceEach 61 = .ok (.istore 5, 2) := by decide +kernel
theorem dX7_readOnceEach_63 : decode cX7_readOnceEach 63 = .ok (.aload_n 0, 1) := by decide +kernel
theorem dX7_readOnceEach_64 : decode cX7_readOnceEach 64 = .ok (.iload_n 1, 1) := by decide +kernel
theorem dX7_readOnceEach_65 : decode cX7_readOnceEach 65 = .ok (.iload 4, 2) := by decide +kernel
theorem dX7_readOnceEach_67 : decode cX7_readOnceEach 67 = .ok (.iload 5, 2) := by decide +kernel
theorem dX7_readOnceEach_69 : decode cX7_readOnceEach 69 = .ok (.iconst 0, 1) := by decide +kernel
theorem dX7_readOnceEach_70 : decode cX7_readOnceEach 70 = .ok (.invokevirtual 117, 3) := by decide +kernel
theorem dX7_readOnceEach_73 : decode cX7_readOnceEach 73 = .ok (.return_, 1) := by decide +kernel
theorem dX7_readApart_0 : decode cX7_readApart 0 = .ok (.aload_n 0, 1) := by decide +kernel
theorem dX7_readApart_1 : decode cX7_readApart 1 = .ok (.aload_n 0, 1) := by decide +kernel
theorem dX7_readApart_2 : decode cX7_readApart 2 = .ok (.bipush 69, 2) := by decide +kernel
theorem dX7_readApart_4 : decode cX7_readApart 4 = .ok (.invokevirtual 113, 3) := by decide +kernel
theorem dX7_readApart_7 : decode cX7_readApart 7 = .ok (.bipush 10, 2) := by decide +kernel
theorem dX7_readApart_9 : decode cX7_readApart 9 = .ok (.if_icmp .ge 7, 3) := by decide +kernel
theorem dX7_readApart_12 : decode cX7_readApart 12 = .ok (.iconst 1, 1) := by decide +kernel
theorem dX7_readApart_13 : decode cX7_readApart 13 = .ok (.goto 4, 3) := by decide +kernel
theorem dX7_readApart_16 : decode cX7_readApart 16 = .ok (.iconst 0, 1) := by decide +kernel
theorem dX7_readApart_17 : decode cX7_readApart 17 = .ok (.iload_n 1, 1) := by decide +kernel
theorem dX7_readApart_18 : decode cX7_readApart 18 = .ok (.invokevirtual 96, 3) := by decide +kernel
theorem dX7_readApart_21 : decode cX7_readApart 21 = .ok (.ifCond .ne 4, 3) := by decide +kernel
theorem dX7_readApart_24 : decode cX7_readApart 24 = .ok (.return_, 1) := by decide +kernel
theorem dX7_readApart_25 : decode cX7_readApart 25 = .ok (.aload_n 0, 1) := by decide +kernel
theorem dX7_readApart_26 : decode cX7_readApart 26 = .ok (.getfield 82, 3) := by decide +kernel
theorem dX7_readApart_29 : decode cX7_readApart 29 = .ok (.istore_n 2, 1) := by decide +kernel
theorem dX7_readApart_30 : decode cX7_readApart 30 = .ok (.aload_n 0, 1) := by decide +kernel
theorem dX7_readApart_31 : decode cX7_readApart 31 = .ok (.iconst 0, 1) := by decide +kernel
theorem dX7_readApart_32 : decode cX7_readApart 32 = .ok (.bipush 9, 2) := by decide +kernel
theorem dX7_readApart_34 : decode cX7_readApart 34 = .ok (.invokevirtual 100, 3) := by decide +kernel
theorem dX7_readApart_37 : decode cX7_readApart 37 = .ok (.istore_n 3, 1) := by decide +kernel
theorem dX7_readApart_38 : decode cX7_readApart 38 = .ok (.aload_n 0, 1) := by decide +kernel
theorem dX7_readApart_39 : decode cX7_readApart 39 = .ok (.getfield 85, 3) := by decide +kernel
theorem dX7_readApart_42 : decode cX7_readApart 42 = .ok (.iconst (-1), 1) := by decide +kernel
theorem dX7_readApart_43 : decode cX7_readApart 43 = .ok (.if_icmp .ne 16, 3) := by decide +kernel
theorem dX7_readApart_46 : decode cX7_readApart 46 = .ok (.aload_n 0, 1) := by decide +kernel
theorem dX7_readApart_47 : decode cX7_readApart 47 = .ok (.aload_n 0, 1) := by decide +kernel
theorem dX7_readApart_48 : decode cX7_readApart 48 = .ok (.bipush 88, 2) := by decide +kernel
theorem dX7_readApart_50 : decode cX7_readApart 50 = .ok (.iload_n 3, 1) := by decide +kernel
theorem dX7_readApart_51 : decode cX7_readApart 51 = .ok (.invokevirtual 128, 3) := by decide +kernel
theorem dX7_readApart_54 : decode cX7_readApart 54 = .ok (.iload_n 2, 1) := by decide +kernel
theorem dX7_readApart_55 : decode cX7_readApart 55 = .ok (.invokevirtual 96, 3) := by decide +kernel
theorem dX7_readApart_58 : decode cX7_readApart 58 = .ok (.pop, 1) := by decide +kernel
theorem dX7_readApart_59 : decode cX7_readApart 59 = .ok (.aload_n 0, 1) := by decide +kernel
theorem dX7_readApart_60 : decode cX7_readApart 60 = .ok (.getfield 82, 3) := by decide +kernel
theorem dX7_readApart_63 : decode cX7_readApart 63 = .ok (.iconst 1, 1) := by decide +kernel
theorem dX7_readApart_64 : decode cX7_readApart 64 = .ok (.iadd, 1) := by decide +kernel
theorem dX7_readApart_65 : decode cX7_readApart 65 = .ok (.istore 4, 2) := by decide +kernel
theorem dX7_readApart_67 : decode cX7_readApart 67 = .ok (.aload_n 0, 1) := by decide +kernel
theorem dX7_readApart_68 : decode cX7_readApart 68 = .ok (.getfield 85, 3) := by decide +kernel
theorem dX7_readApart_71 : decode cX7_readApart 71 = .ok (.iconst (-1), 1) := by decide +kernel
theorem dX7_readApart_72 : decode cX7_readApart 72 = .ok (.if_icmp .ne 13, 3) := by decide +kernel
theorem dX7_readApart_75 : decode cX7_readApart 75 = .ok (.aload_n 0, 1) := by decide +kernel
theorem dX7_readApart_76 : decode cX7_readApart 76 = .ok (.iconst 0, 1) := by decide +kernel
theorem dX7_readApart_77 : decode cX7_readApart 77 = .ok (.bipush 9, 2) := by decide +kernel
theorem dX7_readApart_79 : decode cX7_readApart 79 = .ok (.invokevirtual 125, 3) := by decide +kernel
theorem dX7_readApart_82 : decode cX7_readApart 82 = .ok (.goto 4, 3) := by decide +kernel
theorem dX7_readApart_85 : decode cX7_readApart 85 = .ok (.iconst 0, 1) := by decide +kernel
theorem dX7_readApart_86 : decode cX7_readApart 86 = .ok (.istore 5, 2) := by decide +kernel
theorem dX7_readApart_88 : decode cX7_readApart 88 = .ok (.aload_n 0, 1) := by decide +kernel
theorem dX7_readApart_89 : decode cX7_readApart 89 = .ok (.getfield 85, 3) := by decide +kernel
theorem dX7_readApart_92 : decode cX7_readApart 92 = .ok (.iconst (-1), 1) := by decide +kernel
theorem dX7_readApart_93 : decode cX7_readApart 93 = .ok (.if_icmp .ne 42, 3) := by decide +kernel
theorem dX7_readApart_96 : decode cX7_readApart 96 = .ok (.aload_n 0, 1) := by decide +kernel
theorem dX7_readApart_97 : decode cX7_readApart 97 = .ok (.aload_n 0, 1) := by decide +kernel
theorem dX7_readApart_98 : decode cX7_readApart 98 = .ok (.bipush 88, 2) := by decide +kernel
theorem dX7_readApart_100 : decode cX7_readApart 100 = .ok (.iload 5, 2) := by decide +kernel
theorem dX7_readApart_102 : decode cX7_readApart 102 = .ok (.invokevirtual 128, 3) := by decide +kernel
theorem dX7_readApart_105 : decode cX7_readApart 105 = .ok (.ifCond .eq 23, 3) := by decide +kernel
theorem dX7_readApart_108 : decode cX7_readApart 108 = .ok (.iload 5, 2) := by decide +kernel
theorem dX7_readApart_110 : decode cX7_readApart 110 = .ok (.iload_n 3, 1) := by decide +kernel
theorem dX7_readApart_111 : decode cX7_readApart 111 = .ok (.if_icmp .eq 17, 3) := by decide +kernel
theorem dX7_readApart_114 : decode cX7_readApart 114 = .ok (.aload_n 0, 1) := by decide +kernel
theorem dX7_readApart_115 : decode cX7_readApart 115 = .ok (.iload_n 3, 1) := by decide +kernel
theorem dX7_readApart_116 : decode cX7_readApart 116 = .ok (.iload 5, 2) := by decide +kernel
theorem dX7_readApart_118 : decode cX7_readApart 118 = .ok (.invokevirtual 132, 3) := by decide +kernel
theorem dX7_readApart_121 : decode cX7_readApart 121 = .ok (.ifCond .ne 7, 3) := by decide +kernel
theorem dX7_readApart_124 : decode cX7_readApart 124 = .ok (.iconst 1, 1) := by decide +kernel
theorem dX7_readApart_125 : decode cX7_readApart 125 = .ok (.goto 4, 3) := by decide +kernel
theorem dX7_readApart_128 : decode cX7_readApart 128 = .ok (.iconst 0, 1) := by decide +kernel
theorem dX7_readApart_129 : decode cX7_readApart 129 = .ok (.iload 4, 2) := by decide +kernel
theorem dX7_readApart_131 : decode cX7_readApart 131 = .ok (.invokevirtual 96, 3) := by decide +kernel
theorem dX7_readApart_134 : decode cX7_readApart 134 = .ok (.pop, 1) := by decide +kernel
theorem dX7_readApart_135 : decode cX7_readApart 135 = .ok (.aload_n 0, 1) := by decide +kernel
theorem dX7_readApart_136 : decode cX7_readApart 136 = .ok (.bipush 69, 2) := by decide +kernel
theorem dX7_readApart_138 : decode cX7_readApart 138 = .ok (.iload_n 3, 1) := by decide +kernel
theorem dX7_readApart_139 : decode cX7_readApart 139 = .ok (.iload 5, 2) := by decide +kernel
theorem dX7_readApart_141 : decode cX7_readApart 141 = .ok (.iconst 0, 1) := by decide +kernel
theorem dX7_readApart_142 : decode cX7_readApart 142 = .ok (.invokevirtual 117, 3) := by decide +kernel
theorem dX7_readApart_145 : decode cX7_readApart 145 = .ok (.return_, 1) := by decide +kernel
theorem dX7_readOnce_0 : decode cX7_readOnce 0 = .ok (.iload_n 1, 1) := by decide +kernel
theorem dX7_readOnce_1 : decode cX7_readOnce 1 = .ok (.bipush 68, 2) := by decide +kernel
theorem dX7_readOnce_3 : decode cX7_readOnce 3 = .ok (.if_icmp .eq 21, 3) := by decide +kernel
theorem dX7_readOnce_6 : decode cX7_readOnce 6 = .ok (.iload_n 1, 1) := by decide +kernel
theorem dX7_readOnce_7 : decode cX7_readOnce 7 = .ok (.bipush 77, 2) := by decide +kernel
theorem dX7_readOnce_9 : decode cX7_readOnce 9 = .ok (.if_icmp .eq 15, 3) := by decide +kernel
theorem dX7_readOnce_12 : decode cX7_readOnce 12 = .ok (.iload_n 1, 1) := by decide +kernel
theorem dX7_readOnce_13 : decode cX7_readOnce 13 = .ok (.bipush 70, 2) := by decide +kernel
theorem dX7_readOnce_15 : decode cX7_readOnce 15 = .ok (.if_icmp .eq 9, 3) := by decide +kernel
theorem dX7_readOnce_18 : decode cX7_readOnce 18 = .ok (.iload_n 1, 1) := by decide +kernel
theorem dX7_readOnce_19 : decode cX7_readOnce 19 = .ok (.bipush 82, 2) := by decide +kernel
theorem dX7_readOnce_21 : decode cX7_readOnce 21 = .ok (.if_icmp .ne 7, 3) := by decide +kernel
theorem dX7_readOnce_24 : decode cX7_readOnce 24 = .ok (.iconst 1, 1) := by decide +kernel
theorem dX7_readOnce_25 : decode cX7_readOnce 25 = .ok (.goto 4, 3) := by decide +kernel
theorem dX7_readOnce_28 : decode cX7_readOnce 28 = .ok (.iconst 0, 1) := by decide +kernel
theorem dX7_readOnce_29 : decode cX7_readOnce 29 = .ok (.istore_n 3, 1) := by decide +kernel
theorem dX7_readOnce_30 : decode cX7_readOnce 30 = .ok (.aload_n 0, 1) := by decide +kernel
theorem dX7_readOnce_31 : decode cX7_readOnce 31 = .ok (.iload_n 3, 1) := by decide +kernel
theorem dX7_readOnce_32 : decode cX7_readOnce 32 = .ok (.iload_n 2, 1) := by decide +kernel
theorem dX7_readOnce_33 : decode cX7_readOnce 33 = .ok (.invokevirtual 96, 3) := by decide +kernel
theorem dX7_readOnce_36 : decode cX7_readOnce 36 = .ok (.ifCond .eq 24, 3) := by decide +kernel
theorem dX7_readOnce_39 : decode cX7_readOnce 39 = .ok (.aload_n 0, 1) := by decide +kernel
theorem dX7_readOnce_40 : decode cX7_readOnce 40 = .ok (.aload_n 0, 1) := by decide +kernel
theorem dX7_readOnce_41 : decode cX7_readOnce 41 = .ok (.iload_n 1, 1) := by decide +kernel
theorem dX7_readOnce_42 : decode cX7_readOnce 42 = .ok (.invokevirtual 113, 3) := by decide +kernel
theorem dX7_readOnce_45 : decode cX7_readOnce 45 = .ok (.ifCond .ne 7, 3) := by decide +kernel
theorem dX7_readOnce_48 : decode cX7_readOnce 48 = .ok (.iconst 1, 1) := by decide +kernel
theorem dX7_readOnce_49 : decode cX7_readOnce 49 = .ok (.goto 4, 3) := by decide +kernel
theorem dX7_readOnce_52 : decode cX7_readOnce 52 = .ok (.iconst 0, 1) := by decide +kernel
theorem dX7_readOnce_53 : decode cX7_readOnce 53 = .ok (.iload_n 2, 1) := by decide +kernel
theorem dX7_readOnce_54 : decode cX7_readOnce 54 = .ok (.invokevirtual 96, 3) := by decide +kernel
theorem dX7_readOnce_57 : decode cX7_readOnce 57 = .ok (.ifCond .ne 4, 3) := by decide +kernel
theorem dX7_readOnce_60 : decode cX7_readOnce 60 = .ok (.return_, 1) := by decide +kernel
theorem dX7_readOnce_61 : decode cX7_readOnce 61 = .ok (.iload_n 1, 1) := by decide +kernel
theorem dX7_readOnce_62 : decode cX7_readOnce 62 = .ok (.bipush 77, 2) := by decide +kernel
theorem dX7_readOnce_64 : decode cX7_readOnce 64 = .ok (.if_icmp .eq 9, 3) := by decide +kernel
theorem dX7_readOnce_67 : decode cX7_readOnce 67 = .ok (.iload_n 1, 1) := by decide +kernel
theorem dX7_readOnce_68 : decode cX7_readOnce 68 = .ok (.bipush 82, 2) := by decide +kernel
theorem dX7_readOnce_70 : decode cX7_readOnce 70 = .ok (.if_icmp .ne 30, 3) := by decide +kernel
theorem dX7_readOnce_73 : decode cX7_readOnce 73 = .ok (.aload_n 0, 1) := by decide +kernel
theorem dX7_readOnce_74 : decode cX7_readOnce 74 = .ok (.iload_n 1, 1) := by decide +kernel
theorem dX7_readOnce_75 : decode cX7_readOnce 75 = .ok (.aload_n 0, 1) := by decide +kernel
theorem dX7_readOnce_76 : decode cX7_readOnce 76 = .ok (.iconst 1, 1) := by decide +kernel
theorem dX7_readOnce_77 : decode cX7_readOnce 77 = .ok (.iload_n 1, 1) := by decide +kernel
theorem dX7_readOnce_78 : decode cX7_readOnce 78 = .ok (.bipush 77, 2) := by decide +kernel
theorem dX7_readOnce_80 : decode cX7_readOnce 80 = .ok (.if_icmp .ne 8, 3) := by decide +kernel
theorem dX7_readOnce_83 : decode cX7_readOnce 83 = .ok (.ldc 124, 2) := by decide +kernel
theorem dX7_readOnce_85 : decode cX7_readOnce 85 = .ok (.goto 6, 3) := by decide +kernel
theorem dX7_readOnce_88 : decode cX7_readOnce 88 = .ok (.sipush 1000, 3) := by decide +kernel
theorem dX7_readOnce_91 : decode cX7_readOnce 91 = .ok (.invokevirtual 100, 3) := by decide +kernel
theorem dX7_readOnce_94 : decode cX7_readOnce 94 = .ok (.iconst 0, 1) := by decide +kernel
theorem dX7_readOnce_95 : decode cX7_readOnce 95 = .ok (.iconst 0, 1) := by decide +kernel
theorem dX7_readOnce_96 : decode cX7_readOnce 96 = .ok (.invokevirtual 117, 3) := by decide +kernel
theorem dX7_readOnce_99 : decode cX7_readOnce 99 = .ok (.return_, 1) := by decide +kernel
theorem dX7_readOnce_100 : decode cX7_readOnce 100 = .ok (.aload_n 0, 1) := by decide +kernel
theorem dX7_readOnce_101 : decode cX7_readOnce 101 = .ok (.iload_n 1, 1) := by decide +kernel
theorem dX7_readOnce_102 : decode cX7_readOnce 102 = .ok (.bipush 68, 2) := by decide +kernel
theorem dX7_readOnce_104 : decode cX7_readOnce 104 = .ok (.if_icmp .ne 7, 3) := by decide +kernel
theorem dX7_readOnce_107 : decode cX7_readOnce 107 = .ok (.iconst 1, 1) := by decide +kernel
theorem dX7_readOnce_108 : decode cX7_readOnce 108 = .ok (.goto 4, 3) := by decide +kernel
theorem dX7_readOnce_111 : decode cX7_readOnce 111 = .ok (.iconst 0, 1) := by decide +kernel
theorem dX7_readOnce_112 : decode cX7_readOnce 112 = .ok (.ldc 124, 2) := by decide +kernel
theorem dX7_readOnce_114 : decode cX7_readOnce 114 = .ok (.invokevirtual 100, 3) := by decide +kernel
theorem dX7_readOnce_117 : decode cX7_readOnce 117 = .ok (.istore 4, 2) := by decide +kernel
theorem dX7_readOnce_119 : decode cX7_readOnce 119 = .ok (.aload_n 0, 1) := by decide +kernel
theorem dX7_readOnce_120 : decode cX7_readOnce 120 = .ok (.getfield 85, 3) := by decide +kernel
theorem dX7_readOnce_123 : decode cX7_readOnce 123 = .ok (.iconst (-1), 1) := by decide +kernel
theorem dX7_readOnce_124 : decode cX7_readOnce 124 = .ok (.if_icmp .ne 24, 3) := by decide +kernel
theorem dX7_readOnce_127 : decode cX7_readOnce 127 = .ok (.aload_n 0, 1) := by decide +kernel
theorem dX7_readOnce_128 : decode cX7_readOnce 128 = .ok (.iload_n 1, 1) := by decide +kernel
theorem dX7_readOnce_129 : decode cX7_readOnce 129 = .ok (.bipush 68, 2) := by decide +kernel
theorem dX7_readOnce_131 : decode cX7_readOnce 131 = .ok (.if_icmp .ne 7, 3) := by decide +kernel
theorem dX7_readOnce_134 : decode cX7_readOnce 134 = .ok (.iconst 1, 1) := by decide +kernel
theorem dX7_readOnce_135 : decode cX7_readOnce 135 = .ok (.goto 5, 3) := by decide +kernel
theorem dX7_readOnce_138 : decode cX7_readOnce 138 = .ok (.iload 4, 2) := by decide +kernel
theorem dX7_readOnce_140 : decode cX7_readOnce 140 = .ok (.ldc 124, 2) := by decide +kernel
theorem dX7_readOnce_142 : decode cX7_readOnce 142 = .ok (.invokevirtual 125, 3) := by decide +kernel
theorem dX7_readOnce_145 : decode cX7_readOnce 145 = .ok (.goto 4, 3) := by decide +kernel
theorem dX7_readOnce_148 : decode cX7_readOnce 148 = .ok (.iconst 0, 1) := by decide +kernel
theorem dX7_readOnce_149 : decode cX7_readOnce 149 = .ok (.istore 5, 2) := by decide +kernel
theorem dX7_readOnce_151 : decode cX7_readOnce 151 = .ok (.aload_n 0, 1) := by decide +kernel
theorem dX7_readOnce_152 : decode cX7_readOnce 152 = .ok (.getfield 85, 3) := by decide +kernel
theorem dX7_readOnce_155 : decode cX7_readOnce 155 = .ok (.iconst (-1), 1) := by decide +kernel
theorem dX7_readOnce_156 : decode cX7_readOnce 156 = .ok (.if_icmp .ne 19, 3) := by decide +kernel
theorem dX7_readOnce_159 : decode cX7_readOnce 159 = .ok (.iload_n 1, 1) := by decide +kernel
theorem dX7_readOnce_160 : decode cX7_readOnce 160 = .ok (.bipush 68, 2) := by decide +kernel
theorem dX7_readOnce_162 : decode cX7_readOnce 162 = .ok (.if_icmp .ne 13, 3) := by decide +kernel
theorem dX7_readOnce_165 : decode cX7_readOnce 165 = .ok (.aload_n 0, 1) := by decide +kernel
theorem dX7_readOnce_166 : decode cX7_readOnce 166 = .ok (.iconst 1, 1) := by decide +kernel
theorem dX7_readOnce_167 : decode cX7_readOnce 167 = .ok (.ldc 124, 2) := by decide +kernel
theorem dX7_readOnce_169 : decode cX7_readOnce 169 = .ok (.invokevirtual 125, 3) := by decide +kernel
theorem dX7_readOnce_172 : decode cX7_readOnce 172 = .ok (.goto 4, 3) := by decide +kernel
theorem dX7_readOnce_175 : decode cX7_readOnce 175 = .ok (.iconst 0, 1) := by decide +kernel
theorem dX7_readOnce_176 : decode cX7_readOnce 176 = .ok (.istore 6, 2) := by decide +kernel
theorem dX7_readOnce_178 : decode cX7_readOnce 178 = .ok (.aload_n 0, 1) := by decide +kernel
theorem dX7_readOnce_179 : decode cX7_readOnce 179 = .ok (.iload_n 1, 1) := by decide +kernel
theorem dX7_readOnce_180 : decode cX7_readOnce 180 = .ok (.iload 4, 2) := by decide +kernel
theorem dX7_readOnce_182 : decode cX7_readOnce 182 = .ok (.iload 5, 2) := by decide +kernel
theorem dX7_readOnce_184 : decode cX7_readOnce 184 = .ok (.iload 6, 2) := by decide +kernel
theorem dX7_readOnce_186 : decode cX7_readOnce 186 = .ok (.invokevirtual 117, 3) := by decide +kernel
theorem dX7_readOnce_189 : decode cX7_readOnce 189 = .ok (.return_, 1) := by decide +kernel
theorem dX7_readRow_0 : decode cX7_readRow 0 = .ok (.aload_n 0, 1) := by decide +kernel
theorem dX7_readRow_1 : decode cX7_readRow 1 = .ok (.getfield 82, 3) := by decide +kernel
theorem dX7_readRow_4 : decode cX7_readRow 4 = .ok (.istore_n 1, 1) := by decide +kernel
theorem dX7_readRow_5 : decode cX7_readRow 5 = .ok (.aload_n 0, 1) := by decide +kernel
theorem dX7_readRow_6 : decode cX7_readRow 6 = .ok (.invokevirtual 88, 3) := by decide +kernel
theorem dX7_readRow_9 : decode cX7_readRow 9 = .ok (.istore_n 2, 1) := by decide +kernel
theorem dX7_readRow_10 : decode cX7_readRow 10 = .ok (.aload_n 0, 1) := by decide +kernel
theorem dX7_readRow_11 : decode cX7_readRow 11 = .ok (.iload_n 2, 1) := by decide +kernel
theorem dX7_readRow_12 : decode cX7_readRow 12 = .ok (.bipush 75, 2) := by decide +kernel
theorem dX7_readRow_14 : decode cX7_readRow 14 = .ok (.if_icmp .eq 11, 3) := by decide +kernel
theorem dX7_readRow_17 : decode cX7_readRow 17 = .ok (.aload_n 0, 1) := by decide +kernel
theorem dX7_readRow_18 : decode cX7_readRow 18 = .ok (.getfield 107, 3) := by decide +kernel
theorem dX7_readRow_21 : decode cX7_readRow 21 = .ok (.iconst (-1), 1) := by decide +kernel
theorem dX7_readRow_22 : decode cX7_readRow 22 = .ok (.if_icmp .eq 7, 3) := by decide +kernel
theorem dX7_readRow_25 : decode cX7_readRow 25 = .ok (.iconst 1, 1) := by decide +kernel
theorem dX7_readRow_26 : decode cX7_readRow 26 = .ok (.goto 4, 3) := by decide +kernel
theorem dX7_readRow_29 : decode cX7_readRow 29 = .ok (.iconst 0, 1) := by decide +kernel
theorem dX7_readRow_30 : decode cX7_readRow 30 = .ok (.iload_n 1, 1) := by decide +kernel
theorem dX7_readRow_31 : decode cX7_readRow 31 = .ok (.invokevirtual 96, 3) := by decide +kernel
theorem dX7_readRow_34 : decode cX7_readRow 34 = .ok (.ifCond .ne 4, 3) := by decide +kernel
theorem dX7_readRow_37 : decode cX7_readRow 37 = .ok (.return_, 1) := by decide +kernel
theorem dX7_readRow_38 : decode cX7_readRow 38 = .ok (.aload_n 0, 1) := by decide +kernel
theorem dX7_readRow_39 : decode cX7_readRow 39 = .ok (.dup, 1) := by decide +kernel
theorem dX7_readRow_40 : decode cX7_readRow 40 = .ok (.getfield 82, 3) := by decide +kernel
theorem dX7_readRow_43 : decode cX7_readRow 43 = .ok (.iconst 1, 1) := by decide +kernel
theorem dX7_readRow_44 : decode cX7_readRow 44 = .ok (.iadd, 1) := by decide +kernel
theorem dX7_readRow_45 : decode cX7_readRow 45 = .ok (.putfield 82, 3) := by decide +kernel
theorem dX7_readRow_48 : decode cX7_readRow 48 = .ok (.iload_n 2, 1) := by decide +kernel
theorem dX7_readRow_49 : decode cX7_readRow 49 = .ok (.bipush 75, 2) := by decide +kernel
theorem dX7_readRow_51 : decode cX7_readRow 51 = .ok (.if_icmp .ne 11, 3) := by decide +kernel
theorem dX7_readRow_54 : decode cX7_readRow 54 = .ok (.aload_n 0, 1) := by decide +kernel
theorem dX7_readRow_55 : decode cX7_readRow 55 = .ok (.iload_n 1, 1) := by decide +kernel
theorem dX7_readRow_56 : decode cX7_readRow 56 = .ok (.invokevirtual 135, 3) := by decide +kernel
theorem dX7_readRow_59 : decode cX7_readRow 59 = .ok (.goto 71, 3) := by decide +kernel
theorem dX7_readRow_62 : decode cX7_readRow 62 = .ok (.iload_n 2, 1) := by decide +kernel
theorem dX7_readRow_63 : decode cX7_readRow 63 = .ok (.bipush 83, 2) := by decide +kernel
theorem dX7_readRow_65 : decode cX7_readRow 65 = .ok (.if_icmp .ne 11, 3) := by decide +kernel
theorem dX7_readRow_68 : decode cX7_readRow 68 = .ok (.aload_n 0, 1) := by decide +kernel
theorem dX7_readRow_69 : decode cX7_readRow 69 = .ok (.iload_n 1, 1) := by decide +kernel
theorem dX7_readRow_70 : decode cX7_readRow 70 = .ok (.invokevirtual 139, 3) := by decide +kernel
theorem dX7_readRow_73 : decode cX7_readRow 73 = .ok (.goto 57, 3) := by decide +kernel
theorem dX7_readRow_76 : decode cX7_readRow 76 = .ok (.iload_n 2, 1) := by decide +kernel
theorem dX7_readRow_77 : decode cX7_readRow 77 = .ok (.bipush 90, 2) := by decide +kernel
theorem dX7_readRow_79 : decode cX7_readRow 79 = .ok (.if_icmp .eq 9, 3) := by decide +kernel
theorem dX7_readRow_82 : decode cX7_readRow 82 = .ok (.iload_n 2, 1) := by decide +kernel
theorem dX7_readRow_83 : decode cX7_readRow 83 = .ok (.bipush 88, 2) := by decide +kernel
theorem dX7_readRow_85 : decode cX7_readRow 85 = .ok (.if_icmp .ne 25, 3) := by decide +kernel
theorem dX7_readRow_88 : decode cX7_readRow 88 = .ok (.aload_n 0, 1) := by decide +kernel
theorem dX7_readRow_89 : decode cX7_readRow 89 = .ok (.iload_n 2, 1) := by decide +kernel
theorem dX7_readRow_90 : decode cX7_readRow 90 = .ok (.iload_n 2, 1) := by decide +kernel
theorem dX7_readRow_91 : decode cX7_readRow 91 = .ok (.bipush 90, 2) := by decide +kernel
theorem dX7_readRow_93 : decode cX7_readRow 93 = .ok (.if_icmp .ne 9, 3) := by decide +kernel
theorem dX7_readRow_96 : decode cX7_readRow 96 = .ok (.sipush 1000, 3) := by decide +kernel
theorem dX7_readRow_99 : decode cX7_readRow 99 = .ok (.goto 5, 3) := by decide +kernel
theorem dX7_readRow_102 : decode cX7_readRow 102 = .ok (.ldc 124, 2) := by decide +kernel
theorem dX7_readRow_104 : decode cX7_readRow 104 = .ok (.invokevirtual 142, 3) := by decide +kernel
theorem dX7_readRow_107 : decode cX7_readRow 107 = .ok (.goto 23, 3) := by decide +kernel
theorem dX7_readRow_110 : decode cX7_readRow 110 = .ok (.iload_n 2, 1) := by decide +kernel
theorem dX7_readRow_111 : decode cX7_readRow 111 = .ok (.bipush 69, 2) := by decide +kernel
theorem dX7_readRow_113 : decode cX7_readRow 113 = .ok (.if_icmp .ne 11, 3) := by decide +kernel
theorem dX7_readRow_116 : decode cX7_readRow 116 = .ok (.aload_n 0, 1) := by decide +kernel
theorem dX7_readRow_117 : decode cX7_readRow 117 = .ok (.iload_n 1, 1) := by decide +kernel
theorem dX7_readRow_118 : decode cX7_readRow 118 = .ok (.invokevirtual 146, 3) := by decide +kernel
theorem dX7_readRow_121 : decode cX7_readRow 121 = .ok (.goto 9, 3) := by decide +kernel
theorem dX7_readRow_124 : decode cX7_readRow 124 = .ok (.aload_n 0, 1) := by decide +kernel
theorem dX7_readRow_125 : decode cX7_readRow 125 = .ok (.iload_n 2, 1) := by decide +kernel
theorem dX7_readRow_126 : decode cX7_readRow 126 = .ok (.iload_n 1, 1) := by decide +kernel
theorem dX7_readRow_127 : decode cX7_readRow 127 = .ok (.invokevirtual 149, 3) := by decide +kernel
theorem dX7_readRow_130 : decode cX7_readRow 130 = .ok (.return_, 1) := by decide +kernel
theorem dX7_read_0 : decode cX7_read 0 = .ok (.aload_n 0, 1) := by decide +kernel
theorem dX7_read_1 : decode cX7_read 1 = .ok (.iconst 0, 1) := by decide +kernel
theorem dX7_read_2 : decode cX7_read 2 = .ok (.putfield 75, 3) := by decide +kernel
theorem dX7_read_5 : decode cX7_read 5 = .ok (.aload_n 0, 1) := by decide +kernel
theorem dX7_read_6 : decode cX7_read 6 = .ok (.iconst 0, 1) := by decide +kernel
theorem dX7_read_7 : decode cX7_read 7 = .ok (.putfield 82, 3) := by decide +kernel
theorem dX7_read_10 : decode cX7_read 10 = .ok (.aload_n 0, 1) := by decide +kernel
theorem dX7_read_11 : decode cX7_read 11 = .ok (.iconst (-1), 1) := by decide +kernel
theorem dX7_read_12 : decode cX7_read 12 = .ok (.putfield 85, 3) := by decide +kernel
theorem dX7_read_15 : decode cX7_read 15 = .ok (.aload_n 0, 1) := by decide +kernel
theorem dX7_read_16 : decode cX7_read 16 = .ok (.iconst (-1), 1) := by decide +kernel
theorem dX7_read_17 : decode cX7_read 17 = .ok (.putfield 107, 3) := by decide +kernel
theorem dX7_read_20 : decode cX7_read 20 = .ok (.aload_n 0, 1) := by decide +kernel
theorem dX7_read_21 : decode cX7_read 21 = .ok (.getfield 25, 3) := by decide +kernel
theorem dX7_read_24 : decode cX7_read 24 = .ok (.iconst 5, 1) := by decide +kernel
theorem dX7_read_25 : decode cX7_read 25 = .ok (.iconst 0, 1) := by decide +kernel
theorem dX7_read_26 : decode cX7_read 26 = .ok (.iastore, 1) := by decide +kernel
theorem dX7_read_27 : decode cX7_read 27 = .ok (.aload_n 0, 1) := by decide +kernel
theorem dX7_read_28 : decode cX7_read 28 = .ok (.getfield 85, 3) := by decide +kernel
theorem dX7_read_31 : decode cX7_read 31 = .ok (.iconst (-1), 1) := by decide +kernel
theorem dX7_read_32 : decode cX7_read 32 = .ok (.if_icmp .ne 100, 3) := by decide +kernel
theorem dX7_read_35 : decode cX7_read 35 = .ok (.aload_n 0, 1) := by decide +kernel
theorem dX7_read_36 : decode cX7_read 36 = .ok (.getfield 82, 3) := by decide +kernel
theorem dX7_read_39 : decode cX7_read 39 = .ok (.aload_n 0, 1) := by decide +kernel
theorem dX7_read_40 : decode cX7_read 40 = .ok (.getfield 79, 3) := by decide +kernel
theorem dX7_read_43 : decode cX7_read 43 = .ok (.if_icmp .ge 89, 3) := by decide +kernel
theorem dX7_read_46 : decode cX7_read 46 = .ok (.aload_n 0, 1) := by decide +kernel
theorem dX7_read_47 : decode cX7_read 47 = .ok (.invokevirtual 152, 3) := by decide +kernel
theorem dX7_read_50 : decode cX7_read 50 = .ok (.aload_n 0, 1) := by decide +kernel
theorem dX7_read_51 : decode cX7_read 51 = .ok (.getfield 85, 3) := by decide +kernel
theorem dX7_read_54 : decode cX7_read 54 = .ok (.iconst (-1), 1) := by decide +kernel
theorem dX7_read_55 : decode cX7_read 55 = .ok (.if_icmp .ne (-28), 3) := by decide +kernel
theorem dX7_read_58 : decode cX7_read 58 = .ok (.aload_n 0, 1) := by decide +kernel
theorem dX7_read_59 : decode cX7_read 59 = .ok (.getfield 82, 3) := by decide +kernel
theorem dX7_read_62 : decode cX7_read 62 = .ok (.aload_n 0, 1) := by decide +kernel
theorem dX7_read_63 : decode cX7_read 63 = .ok (.getfield 79, 3) := by decide +kernel
theorem dX7_read_66 : decode cX7_read 66 = .ok (.if_icmp .ge (-39), 3) := by decide +kernel
theorem dX7_read_69 : decode cX7_read 69 = .ok (.aload_n 0, 1) := by decide +kernel
theorem dX7_read_70 : decode cX7_read 70 = .ok (.aload_n 0, 1) := by decide +kernel
theorem dX7_read_71 : decode cX7_read 71 = .ok (.invokevirtual 88, 3) := by decide +kernel
theorem dX7_read_74 : decode cX7_read 74 = .ok (.bipush 59, 2) := by decide +kernel
theorem dX7_read_76 : decode cX7_read 76 = .ok (.if_icmp .ne 7, 3) := by decide +kernel
theorem dX7_read_79 : decode cX7_read 79 = .ok (.iconst 1, 1) := by decide +kernel
theorem dX7_read_80 : decode cX7_read 80 = .ok (.goto 4, 3) := by decide +kernel
theorem dX7_read_83 : decode cX7_read 83 = .ok (.iconst 0, 1) := by decide +kernel
theorem dX7_read_84 : decode cX7_read 84 = .ok (.aload_n 0, 1) := by decide +kernel
theorem dX7_read_85 : decode cX7_read 85 = .ok (.getfield 82, 3) := by decide +kernel
theorem dX7_read_88 : decode cX7_read 88 = .ok (.invokevirtual 96, 3) := by decide +kernel
theorem dX7_read_91 : decode cX7_read 91 = .ok (.ifCond .eq (-64), 3) := by decide +kernel
theorem dX7_read_94 : decode cX7_read 94 = .ok (.aload_n 0, 1) := by decide +kernel
theorem dX7_read_95 : decode cX7_read 95 = .ok (.dup, 1) := by decide +kernel
theorem dX7_read_96 : decode cX7_read 96 = .ok (.getfield 82, 3) := by decide +kernel
theorem dX7_read_99 : decode cX7_read 99 = .ok (.iconst 1, 1) := by decide +kernel
theorem dX7_read_100 : decode cX7_read 100 = .ok (.iadd, 1) := by decide +kernel
theorem dX7_read_101 : decode cX7_read 101 = .ok (.putfield 82, 3) := by decide +kernel
theorem dX7_read_104 : decode cX7_read 104 = .ok (.aload_n 0, 1) := by decide +kernel
theorem dX7_read_105 : decode cX7_read 105 = .ok (.aload_n 0, 1) := by decide +kernel
theorem dX7_read_106 : decode cX7_read 106 = .ok (.getfield 82, 3) := by decide +kernel
theorem dX7_read_109 : decode cX7_read 109 = .ok (.aload_n 0, 1) := by decide +kernel
theorem dX7_read_110 : decode cX7_read 110 = .ok (.getfield 79, 3) := by decide +kernel
theorem dX7_read_113 : decode cX7_read 113 = .ok (.if_icmp .ge 7, 3) := by decide +kernel
theorem dX7_read_116 : decode cX7_read 116 = .ok (.iconst 1, 1) := by decide +kernel
theorem dX7_read_117 : decode cX7_read 117 = .ok (.goto 4, 3) := by decide +kernel
theorem dX7_read_120 : decode cX7_read 120 = .ok (.iconst 0, 1) := by decide +kernel
theorem dX7_read_121 : decode cX7_read 121 = .ok (.aload_n 0, 1) := by decide +kernel
theorem dX7_read_122 : decode cX7_read 122 = .ok (.getfield 82, 3) := by decide +kernel
theorem dX7_read_125 : decode cX7_read 125 = .ok (.invokevirtual 96, 3) := by decide +kernel
theorem dX7_read_128 : decode cX7_read 128 = .ok (.pop, 1) := by decide +kernel
theorem dX7_read_129 : decode cX7_read 129 = .ok (.goto (-102), 3) := by decide +kernel
theorem dX7_read_132 : decode cX7_read 132 = .ok (.aload_n 0, 1) := by decide +kernel
theorem dX7_read_133 : decode cX7_read 133 = .ok (.getfield 85, 3) := by decide +kernel
theorem dX7_read_136 : decode cX7_read 136 = .ok (.iconst (-1), 1) := by decide +kernel
theorem dX7_read_137 : decode cX7_read 137 = .ok (.if_icmp .ne 34, 3) := by decide +kernel
theorem dX7_read_140 : decode cX7_read 140 = .ok (.aload_n 0, 1) := by decide +kernel
theorem dX7_read_141 : decode cX7_read 141 = .ok (.getfield 107, 3) := by decide +kernel
theorem dX7_read_144 : decode cX7_read 144 = .ok (.iconst (-1), 1) := by decide +kernel
theorem dX7_read_145 : decode cX7_read 145 = .ok (.if_icmp .eq 26, 3) := by decide +kernel
theorem dX7_read_148 : decode cX7_read 148 = .ok (.aload_n 0, 1) := by decide +kernel
theorem dX7_read_149 : decode cX7_read 149 = .ok (.aload_n 0, 1) := by decide +kernel
theorem dX7_read_150 : decode cX7_read 150 = .ok (.bipush 83, 2) := by decide +kernel
theorem dX7_read_152 : decode cX7_read 152 = .ok (.invokevirtual 113, 3) := by decide +kernel
theorem dX7_read_155 : decode cX7_read 155 = .ok (.ifCond .le 7, 3) := by decide +kernel
theorem dX7_read_158 : decode cX7_read 158 = .ok (.iconst 1, 1) := by decide +kernel
theorem dX7_read_159 : decode cX7_read 159 = .ok (.goto 4, 3) := by decide +kernel
theorem dX7_read_162 : decode cX7_read 162 = .ok (.iconst 0, 1) := by decide +kernel
theorem dX7_read_163 : decode cX7_read 163 = .ok (.aload_n 0, 1) := by decide +kernel
theorem dX7_read_164 : decode cX7_read 164 = .ok (.getfield 79, 3) := by decide +kernel
theorem dX7_read_167 : decode cX7_read 167 = .ok (.invokevirtual 96, 3) := by decide +kernel
theorem dX7_read_170 : decode cX7_read 170 = .ok (.pop, 1) := by decide +kernel
theorem dX7_read_171 : decode cX7_read 171 = .ok (.aload_n 0, 1) := by decide +kernel
theorem dX7_read_172 : decode cX7_read 172 = .ok (.iconst 0, 1) := by decide +kernel
theorem dX7_read_173 : decode cX7_read 173 = .ok (.putfield 79, 3) := by decide +kernel
theorem dX7_read_176 : decode cX7_read 176 = .ok (.aload_n 0, 1) := by decide +kernel
theorem dX7_read_177 : decode cX7_read 177 = .ok (.getfield 85, 3) := by decide +kernel
theorem dX7_read_180 : decode cX7_read 180 = .ok (.iconst (-1), 1) := by decide +kernel
theorem dX7_read_181 : decode cX7_read 181 = .ok (.if_icmp .eq 10, 3) := by decide +kernel
theorem dX7_read_184 : decode cX7_read 184 = .ok (.iconst (-1), 1) := by decide +kernel
theorem dX7_read_185 : decode cX7_read 185 = .ok (.aload_n 0, 1) := by decide +kernel
theorem dX7_read_186 : decode cX7_read 186 = .ok (.getfield 85, 3) := by decide +kernel
theorem dX7_read_189 : decode cX7_read 189 = .ok (.isub, 1) := by decide +kernel
theorem dX7_read_190 : decode cX7_read 190 = .ok (.ireturn, 1) := by decide +kernel
theorem dX7_read_191 : decode cX7_read 191 = .ok (.aload_n 0, 1) := by decide +kernel
theorem dX7_read_192 : decode cX7_read 192 = .ok (.getfield 155, 3) := by decide +kernel
theorem dX7_read_195 : decode cX7_read 195 = .ok (.iconst 5, 1) := by decide +kernel
theorem dX7_read_196 : decode cX7_read 196 = .ok (.if_icmp .ne 6, 3) := by decide +kernel
theorem dX7_read_199 : decode cX7_read 199 = .ok (.ldc 158, 2) := by decide +kernel
theorem dX7_read_201 : decode cX7_read 201 = .ok (.ireturn, 1) := by decide +kernel
theorem dX7_read_202 : decode cX7_read 202 = .ok (.iconst 0, 1) := by decide +kernel
theorem dX7_read_203 : decode cX7_read 203 = .ok (.istore_n 1, 1) := by decide +kernel
theorem dX7_read_204 : decode cX7_read 204 = .ok (.iload_n 1, 1) := by decide +kernel
theorem dX7_read_205 : decode cX7_read 205 = .ok (.aload_n 0, 1) := by decide +kernel
theorem dX7_read_206 : decode cX7_read 206 = .ok (.getfield 25, 3) := by decide +kernel
theorem dX7_read_209 : decode cX7_read 209 = .ok (.iconst 5, 1) := by decide +kernel
theorem dX7_read_210 : decode cX7_read 210 = .ok (.iaload, 1) := by decide +kernel
theorem dX7_read_211 : decode cX7_read 211 = .ok (.if_icmp .ge 75, 3) := by decide +kernel
theorem dX7_read_214 : decode cX7_read 214 = .ok (.aload_n 0, 1) := by decide +kernel
theorem dX7_read_215 : decode cX7_read 215 = .ok (.invokevirtual 104, 3) := by decide +kernel
theorem dX7_read_218 : decode cX7_read 218 = .ok (.iload_n 1, 1) := by decide +kernel
theorem dX7_read_219 : decode cX7_read 219 = .ok (.iadd, 1) := by decide +kernel
theorem dX7_read_220 : decode cX7_read 220 = .ok (.istore_n 2, 1) := by decide +kernel
theorem dX7_read_221 : decode cX7_read 221 = .ok (.sipush 520, 3) := by decide +kernel
theorem dX7_read_224 : decode cX7_read 224 = .ok (.aload_n 0, 1) := by decide +kernel
theorem dX7_read_225 : decode cX7_read 225 = .ok (.getfield 155, 3) := by decide +kernel
theorem dX7_read_228 : decode cX7_read 228 = .ok (.imul, 1) := by decide +kernel
theorem dX7_read_229 : decode cX7_read 229 = .ok (.iload_n 1, 1) := by decide +kernel
theorem dX7_read_230 : decode cX7_read 230 = .ok (.iadd, 1) := by decide +kernel
theorem dX7_read_231 : decode cX7_read 231 = .ok (.istore_n 3, 1) := by decide +kernel
theorem dX7_read_232 : decode cX7_read 232 = .ok (.aload_n 0, 1) := by decide +kernel
theorem dX7_read_233 : decode cX7_read 233 = .ok (.getfield 13, 3) := by decide +kernel
theorem dX7_read_236 : decode cX7_read 236 = .ok (.iload_n 3, 1) := by decide +kernel
theorem dX7_read_237 : decode cX7_read 237 = .ok (.aload_n 0, 1) := by decide +kernel
theorem dX7_read_238 : decode cX7_read 238 = .ok (.getfield 13, 3) := by decide +kernel
theorem dX7_read_241 : decode cX7_read 241 = .ok (.iload_n 2, 1) := by decide +kernel
theorem dX7_read_242 : decode cX7_read 242 = .ok (.iaload, 1) := by decide +kernel
theorem dX7_read_243 : decode cX7_read 243 = .ok (.iastore, 1) := by decide +kernel
theorem dX7_read_244 : decode cX7_read 244 = .ok (.aload_n 0, 1) := by decide +kernel
theorem dX7_read_245 : decode cX7_read 245 = .ok (.getfield 16, 3) := by decide +kernel
theorem dX7_read_248 : decode cX7_read 248 = .ok (.iload_n 3, 1) := by decide +kernel
theorem dX7_read_249 : decode cX7_read 249 = .ok (.aload_n 0, 1) := by decide +kernel
theorem dX7_read_250 : decode cX7_read 250 = .ok (.getfield 16, 3) := by decide +kernel
theorem dX7_read_253 : decode cX7_read 253 = .ok (.iload_n 2, 1) := by decide +kernel
theorem dX7_read_254 : decode cX7_read 254 = .ok (.iaload, 1) := by decide +kernel
theorem dX7_read_255 : decode cX7_read 255 = .ok (.iastore, 1) := by decide +kernel
theorem dX7_read_256 : decode cX7_read 256 = .ok (.aload_n 0, 1) := by decide +kernel
theorem dX7_read_257 : decode cX7_read 257 = .ok (.getfield 19, 3) := by decide +kernel
theorem dX7_read_260 : decode cX7_read 260 = .ok (.iload_n 3, 1) := by decide +kernel
theorem dX7_read_261 : decode cX7_read 261 = .ok (.aload_n 0, 1) := by decide +kernel
theorem dX7_read_262 : decode cX7_read 262 = .ok (.getfield 19, 3) := by decide +kernel
theorem dX7_read_265 : decode cX7_read 265 = .ok (.iload_n 2, 1) := by decide +kernel
theorem dX7_read_266 : decode cX7_read 266 = .ok (.iaload, 1) := by decide +kernel
theorem dX7_read_267 : decode cX7_read 267 = .ok (.iastore, 1) := by decide +kernel
theorem dX7_read_268 : decode cX7_read 268 = .ok (.aload_n 0, 1) := by decide +kernel
theorem dX7_read_269 : decode cX7_read 269 = .ok (.getfield 22, 3) := by decide +kernel
theorem dX7_read_272 : decode cX7_read 272 = .ok (.iload_n 3, 1) := by decide +kernel
theorem dX7_read_273 : decode cX7_read 273 = .ok (.aload_n 0, 1) := by decide +kernel
theorem dX7_read_274 : decode cX7_read 274 = .ok (.getfield 22, 3) := by decide +kernel
theorem dX7_read_277 : decode cX7_read 277 = .ok (.iload_n 2, 1) := by decide +kernel
theorem dX7_read_278 : decode cX7_read 278 = .ok (.iaload, 1) := by decide +kernel
theorem dX7_read_279 : decode cX7_read 279 = .ok (.iastore, 1) := by decide +kernel
theorem dX7_read_280 : decode cX7_read 280 = .ok (.iinc 1 1, 3) := by decide +kernel
theorem dX7_read_283 : decode cX7_read 283 = .ok (.goto (-79), 3) := by decide +kernel
theorem dX7_read_286 : decode cX7_read 286 = .ok (.aload_n 0, 1) := by decide +kernel
theorem dX7_read_287 : decode cX7_read 287 = .ok (.getfield 25, 3) := by decide +kernel
theorem dX7_read_290 : decode cX7_read 290 = .ok (.aload_n 0, 1) := by decide +kernel
theorem dX7_read_291 : decode cX7_read 291 = .ok (.getfield 155, 3) := by decide +kernel
theorem dX7_read_294 : decode cX7_read 294 = .ok (.aload_n 0, 1) := by decide +kernel
theorem dX7_read_295 : decode cX7_read 295 = .ok (.getfield 25, 3) := by decide +kernel
theorem dX7_read_298 : decode cX7_read 298 = .ok (.iconst 5, 1) := by decide +kernel
theorem dX7_read_299 : decode cX7_read 299 = .ok (.iaload, 1) := by decide +kernel
theorem dX7_read_300 : decode cX7_read 300 = .ok (.iastore, 1) := by decide +kernel
theorem dX7_read_301 : decode cX7_read 301 = .ok (.aload_n 0, 1) := by decide +kernel
theorem dX7_read_302 : decode cX7_read 302 = .ok (.dup, 1) := by decide +kernel
theorem dX7_read_303 : decode cX7_read 303 = .ok (.getfield 155, 3) := by decide +kernel
theorem dX7_read_306 : decode cX7_read 306 = .ok (.iconst 1, 1) := by decide +kernel
theorem dX7_read_307 : decode cX7_read 307 = .ok (.iadd, 1) := by decide +kernel
theorem dX7_read_308 : decode cX7_read 308 = .ok (.putfield 155, 3) := by decide +kernel
theorem dX7_read_311 : decode cX7_read 311 = .ok (.aload_n 0, 1) := by decide +kernel
theorem dX7_read_312 : decode cX7_read 312 = .ok (.getfield 25, 3) := by decide +kernel
theorem dX7_read_315 : decode cX7_read 315 = .ok (.iconst 5, 1) := by decide +kernel
theorem dX7_read_316 : decode cX7_read 316 = .ok (.iaload, 1) := by decide +kernel
theorem dX7_read_317 : decode cX7_read 317 = .ok (.ireturn, 1) := by decide +kernel
theorem dX7_kindRow_0 : decode cX7_kindRow 0 = .ok (.iconst (-1), 1) := by decide +kernel
theorem dX7_kindRow_1 : decode cX7_kindRow 1 = .ok (.istore_n 3, 1) := by decide +kernel
theorem dX7_kindRow_2 : decode cX7_kindRow 2 = .ok (.sipush 520, 3) := by decide +kernel
theorem dX7_kindRow_5 : decode cX7_kindRow 5 = .ok (.iload_n 1, 1) := by decide +kernel
theorem dX7_kindRow_6 : decode cX7_kindRow 6 = .ok (.imul, 1) := by decide +kernel
theorem dX7_kindRow_7 : decode cX7_kindRow 7 = .ok (.istore 4, 2) := by decide +kernel
theorem dX7_kindRow_9 : decode cX7_kindRow 9 = .ok (.iload 4, 2) := by decide +kernel
theorem dX7_kindRow_11 : decode cX7_kindRow 11 = .ok (.sipush 520, 3) := by decide +kernel
theorem dX7_kindRow_14 : decode cX7_kindRow 14 = .ok (.iload_n 1, 1) := by decide +kernel
theorem dX7_kindRow_15 : decode cX7_kindRow 15 = .ok (.imul, 1) := by decide +kernel
theorem dX7_kindRow_16 : decode cX7_kindRow 16 = .ok (.aload_n 0, 1) := by decide +kernel
theorem dX7_kindRow_17 : decode cX7_kindRow 17 = .ok (.getfield 25, 3) := by decide +kernel
theorem dX7_kindRow_20 : decode cX7_kindRow 20 = .ok (.iload_n 1, 1) := by decide +kernel
theorem dX7_kindRow_21 : decode cX7_kindRow 21 = .ok (.iaload, 1) := by decide +kernel
theorem dX7_kindRow_22 : decode cX7_kindRow 22 = .ok (.iadd, 1) := by decide +kernel
theorem dX7_kindRow_23 : decode cX7_kindRow 23 = .ok (.if_icmp .ge 39, 3) := by decide +kernel
theorem dX7_kindRow_26 : decode cX7_kindRow 26 = .ok (.aload_n 0, 1) := by decide +kernel
theorem dX7_kindRow_27 : decode cX7_kindRow 27 = .ok (.getfield 13, 3) := by decide +kernel
theorem dX7_kindRow_30 : decode cX7_kindRow 30 = .ok (.iload 4, 2) := by decide +kernel
theorem dX7_kindRow_32 : decode cX7_kindRow 32 = .ok (.iaload, 1) := by decide +kernel
theorem dX7_kindRow_33 : decode cX7_kindRow 33 = .ok (.bipush 75, 2) := by decide +kernel
theorem dX7_kindRow_35 : decode cX7_kindRow 35 = .ok (.if_icmp .ne 19, 3) := by decide +kernel
theorem dX7_kindRow_38 : decode cX7_kindRow 38 = .ok (.aload_n 0, 1) := by decide +kernel
theorem dX7_kindRow_39 : decode cX7_kindRow 39 = .ok (.getfield 16, 3) := by decide +kernel
theorem dX7_kindRow_42 : decode cX7_kindRow 42 = .ok (.iload 4, 2) := by decide +kernel
theorem dX7_kindRow_44 : decode cX7_kindRow 44 = .ok (.iaload, 1) := by decide +kernel
theorem dX7_kindRow_45 : decode cX7_kindRow 45 = .ok (.iload_n 2, 1) := by decide +kernel
theorem dX7_kindRow_46 : decode cX7_kindRow 46 = .ok (.if_icmp .ne 8, 3) := by decide +kernel
theorem dX7_kindRow_49 : decode cX7_kindRow 49 = .ok (.iload 4, 2) := by decide +kernel
theorem dX7_kindRow_51 : decode cX7_kindRow 51 = .ok (.goto 4, 3) := by decide +kernel
theorem dX7_kindRow_54 : decode cX7_kindRow 54 = .ok (.iload_n 3, 1) := by decide +kernel
theorem dX7_kindRow_55 : decode cX7_kindRow 55 = .ok (.istore_n 3, 1) := by decide +kernel
theorem dX7_kindRow_56 : decode cX7_kindRow 56 = .ok (.iinc 4 1, 3) := by decide +kernel
theorem dX7_kindRow_59 : decode cX7_kindRow 59 = .ok (.goto (-50), 3) := by decide +kernel
theorem dX7_kindRow_62 : decode cX7_kindRow 62 = .ok (.iload_n 3, 1) := by decide +kernel
theorem dX7_kindRow_63 : decode cX7_kindRow 63 = .ok (.ireturn, 1) := by decide +kernel
theorem dX7_kindEnd_0 : decode cX7_kindEnd 0 = .ok (.iload_n 2, 1) := by decide +kernel
theorem dX7_kindEnd_1 : decode cX7_kindEnd 1 = .ok (.iconst 1, 1) := by decide +kernel
theorem dX7_kindEnd_2 : decode cX7_kindEnd 2 = .ok (.iadd, 1) := by decide +kernel
theorem dX7_kindEnd_3 : decode cX7_kindEnd 3 = .ok (.istore_n 3, 1) := by decide +kernel
theorem dX7_kindEnd_4 : decode cX7_kindEnd 4 = .ok (.iload_n 3, 1) := by decide +kernel
theorem dX7_kindEnd_5 : decode cX7_kindEnd 5 = .ok (.sipush 520, 3) := by decide +kernel
theorem dX7_kindEnd_8 : decode cX7_kindEnd 8 = .ok (.iload_n 1, 1) := by decide +kernel
theorem dX7_kindEnd_9 : decode cX7_kindEnd 9 = .ok (.imul, 1) := by decide +kernel
theorem dX7_kindEnd_10 : decode cX7_kindEnd 10 = .ok (.aload_n 0, 1) := by decide +kernel
theorem dX7_kindEnd_11 : decode cX7_kindEnd 11 = .ok (.getfield 25, 3) := by decide +kernel
theorem dX7_kindEnd_14 : decode cX7_kindEnd 14 = .ok (.iload_n 1, 1) := by decide +kernel
theorem dX7_kindEnd_15 : decode cX7_kindEnd 15 = .ok (.iaload, 1) := by decide +kernel
theorem dX7_kindEnd_16 : decode cX7_kindEnd 16 = .ok (.iadd, 1) := by decide +kernel
theorem dX7_kindEnd_17 : decode cX7_kindEnd 17 = .ok (.if_icmp .ge 20, 3) := by decide +kernel
theorem dX7_kindEnd_20 : decode cX7_kindEnd 20 = .ok (.aload_n 0, 1) := by decide +kernel
theorem dX7_kindEnd_21 : decode cX7_kindEnd 21 = .ok (.getfield 13, 3) := by decide +kernel
theorem dX7_kindEnd_24 : decode cX7_kindEnd 24 = .ok (.iload_n 3, 1) := by decide +kernel
theorem dX7_kindEnd_25 : decode cX7_kindEnd 25 = .ok (.iaload, 1) := by decide +kernel
theorem dX7_kindEnd_26 : decode cX7_kindEnd 26 = .ok (.bipush 75, 2) := by decide +kernel
theorem dX7_kindEnd_28 : decode cX7_kindEnd 28 = .ok (.if_icmp .eq 9, 3) := by decide +kernel
theorem dX7_kindEnd_31 : decode cX7_kindEnd 31 = .ok (.iinc 3 1, 3) := by decide +kernel
theorem dX7_kindEnd_34 : decode cX7_kindEnd 34 = .ok (.goto (-30), 3) := by decide +kernel
theorem dX7_kindEnd_37 : decode cX7_kindEnd 37 = .ok (.iload_n 3, 1) := by decide +kernel
theorem dX7_kindEnd_38 : decode cX7_kindEnd 38 = .ok (.ireturn, 1) := by decide +kernel
theorem dX7_rowOf_0 : decode cX7_rowOf 0 = .ok (.iconst (-1), 1) := by decide +kernel
theorem dX7_rowOf_1 : decode cX7_rowOf 1 = .ok (.istore 5, 2) := by decide +kernel
theorem dX7_rowOf_3 : decode cX7_rowOf 3 = .ok (.iload_n 1, 1) := by decide +kernel
theorem dX7_rowOf_4 : decode cX7_rowOf 4 = .ok (.istore 6, 2) := by decide +kernel
theorem dX7_rowOf_6 : decode cX7_rowOf 6 = .ok (.iload 6, 2) := by decide +kernel
theorem dX7_rowOf_8 : decode cX7_rowOf 8 = .ok (.iload_n 2, 1) := by decide +kernel
theorem dX7_rowOf_9 : decode cX7_rowOf 9 = .ok (.if_icmp .ge 41, 3) := by decide +kernel
theorem dX7_rowOf_12 : decode cX7_rowOf 12 = .ok (.aload_n 0, 1) := by decide +kernel
theorem dX7_rowOf_13 : decode cX7_rowOf 13 = .ok (.getfield 13, 3) := by decide +kernel
theorem dX7_rowOf_16 : decode cX7_rowOf 16 = .ok (.iload 6, 2) := by decide +kernel
theorem dX7_rowOf_18 : decode cX7_rowOf 18 = .ok (.iaload, 1) := by decide +kernel
theorem dX7_rowOf_19 : decode cX7_rowOf 19 = .ok (.iload_n 3, 1) := by decide +kernel
theorem dX7_rowOf_20 : decode cX7_rowOf 20 = .ok (.if_icmp .ne 20, 3) := by decide +kernel
theorem dX7_rowOf_23 : decode cX7_rowOf 23 = .ok (.aload_n 0, 1) := by decide +kernel
theorem dX7_rowOf_24 : decode cX7_rowOf 24 = .ok (.getfield 16, 3) := by decide +kernel
theorem dX7_rowOf_27 : decode cX7_rowOf 27 = .ok (.iload 6, 2) := by decide +kernel
theorem dX7_rowOf_29 : decode cX7_rowOf 29 = .ok (.iaload, 1) := by decide +kernel
theorem dX7_rowOf_30 : decode cX7_rowOf 30 = .ok (.iload 4, 2) := by decide +kernel
theorem dX7_rowOf_32 : decode cX7_rowOf 32 = .ok (.if_icmp .ne 8, 3) := by decide +kernel
theorem dX7_rowOf_35 : decode cX7_rowOf 35 = .ok (.iload 6, 2) := by decide +kernel
theorem dX7_rowOf_37 : decode cX7_rowOf 37 = .ok (.goto 5, 3) := by decide +kernel
theorem dX7_rowOf_40 : decode cX7_rowOf 40 = .ok (.iload 5, 2) := by decide +kernel
theorem dX7_rowOf_42 : decode cX7_rowOf 42 = .ok (.istore 5, 2) := by decide +kernel
theorem dX7_rowOf_44 : decode cX7_rowOf 44 = .ok (.iinc 6 1, 3) := by decide +kernel
theorem dX7_rowOf_47 : decode cX7_rowOf 47 = .ok (.goto (-41), 3) := by decide +kernel
theorem dX7_rowOf_50 : decode cX7_rowOf 50 = .ok (.iload 5, 2) := by decide +kernel
theorem dX7_rowOf_52 : decode cX7_rowOf 52 = .ok (.ireturn, 1) := by decide +kernel
theorem dX7_onlyRow_0 : decode cX7_onlyRow 0 = .ok (.iconst (-1), 1) := by decide +kernel
theorem dX7_onlyRow_1 : decode cX7_onlyRow 1 = .ok (.istore 4, 2) := by decide +kernel
theorem dX7_onlyRow_3 : decode cX7_onlyRow 3 = .ok (.iload_n 1, 1) := by decide +kernel
theorem dX7_onlyRow_4 : decode cX7_onlyRow 4 = .ok (.istore 5, 2) := by decide +kernel
theorem dX7_onlyRow_6 : decode cX7_onlyRow 6 = .ok (.iload 5, 2) := by decide +kernel
theorem dX7_onlyRow_8 : decode cX7_onlyRow 8 = .ok (.iload_n 2, 1) := by decide +kernel
theorem dX7_onlyRow_9 : decode cX7_onlyRow 9 = .ok (.if_icmp .ge 29, 3) := by decide +kernel
theorem dX7_onlyRow_12 : decode cX7_onlyRow 12 = .ok (.aload_n 0, 1) := by decide +kernel
theorem dX7_onlyRow_13 : decode cX7_onlyRow 13 = .ok (.getfield 13, 3) := by decide +kernel
theorem dX7_onlyRow_16 : decode cX7_onlyRow 16 = .ok (.iload 5, 2) := by decide +kernel
theorem dX7_onlyRow_18 : decode cX7_onlyRow 18 = .ok (.iaload, 1) := by decide +kernel
theorem dX7_onlyRow_19 : decode cX7_onlyRow 19 = .ok (.iload_n 3, 1) := by decide +kernel
theorem dX7_onlyRow_20 : decode cX7_onlyRow 20 = .ok (.if_icmp .ne 8, 3) := by decide +kernel
theorem dX7_onlyRow_23 : decode cX7_onlyRow 23 = .ok (.iload 5, 2) := by decide +kernel
theorem dX7_onlyRow_25 : decode cX7_onlyRow 25 = .ok (.goto 5, 3) := by decide +kernel
theorem dX7_onlyRow_28 : decode cX7_onlyRow 28 = .ok (.iload 4, 2) := by decide +kernel
theorem dX7_onlyRow_30 : decode cX7_onlyRow 30 = .ok (.istore 4, 2) := by decide +kernel
theorem dX7_onlyRow_32 : decode cX7_onlyRow 32 = .ok (.iinc 5 1, 3) := by decide +kernel
theorem dX7_onlyRow_35 : decode cX7_onlyRow 35 = .ok (.goto (-29), 3) := by decide +kernel
theorem dX7_onlyRow_38 : decode cX7_onlyRow 38 = .ok (.iload 4, 2) := by decide +kernel
theorem dX7_onlyRow_40 : decode cX7_onlyRow 40 = .ok (.ireturn, 1) := by decide +kernel
theorem dX7_in_0 : decode cX7_in 0 = .ok (.lload_n 0, 1) := by decide +kernel
theorem dX7_in_1 : decode cX7_in 1 = .ok (.lload_n 2, 1) := by decide +kernel
theorem dX7_in_2 : decode cX7_in 2 = .ok (.lcmp, 1) := by decide +kernel
theorem dX7_in_3 : decode cX7_in 3 = .ok (.ifCond .lt 14, 3) := by decide +kernel
theorem dX7_in_6 : decode cX7_in 6 = .ok (.lload_n 0, 1) := by decide +kernel
theorem dX7_in_7 : decode cX7_in 7 = .ok (.lload 4, 2) := by decide +kernel
theorem dX7_in_9 : decode cX7_in 9 = .ok (.lcmp, 1) := by decide +kernel
theorem dX7_in_10 : decode cX7_in 10 = .ok (.ifCond .gt 7, 3) := by decide +kernel
theorem dX7_in_13 : decode cX7_in 13 = .ok (.iconst 1, 1) := by decide +kernel
theorem dX7_in_14 : decode cX7_in 14 = .ok (.goto 4, 3) := by decide +kernel
theorem dX7_in_17 : decode cX7_in 17 = .ok (.iconst 0, 1) := by decide +kernel
theorem dX7_in_18 : decode cX7_in 18 = .ok (.ireturn, 1) := by decide +kernel
theorem dX7_item_0 : decode cX7_item 0 = .ok (.aload_n 0, 1) := by decide +kernel
theorem dX7_item_1 : decode cX7_item 1 = .ok (.iconst 0, 1) := by decide +kernel
theorem dX7_item_2 : decode cX7_item 2 = .ok (.putfield 75, 3) := by decide +kernel
theorem dX7_item_5 : decode cX7_item 5 = .ok (.iload_n 1, 1) := by decide +kernel
theorem dX7_item_6 : decode cX7_item 6 = .ok (.i2l, 1) := by decide +kernel
theorem dX7_item_7 : decode cX7_item 7 = .ok (.lconst 0, 1) := by decide +kernel
theorem dX7_item_8 : decode cX7_item 8 = .ok (.ldc2_w 159, 3) := by decide +kernel
theorem dX7_item_11 : decode cX7_item 11 = .ok (.invokestatic 161, 3) := by decide +kernel
theorem dX7_item_14 : decode cX7_item 14 = .ok (.ifCond .eq 53, 3) := by decide +kernel
theorem dX7_item_17 : decode cX7_item 17 = .ok (.iload_n 2, 1) := by decide +kernel
theorem dX7_item_18 : decode cX7_item 18 = .ok (.i2l, 1) := by decide +kernel
theorem dX7_item_19 : decode cX7_item 19 = .ok (.lconst 1, 1) := by decide +kernel
theorem dX7_item_20 : decode cX7_item 20 = .ok (.ldc2_w 165, 3) := by decide +kernel
theorem dX7_item_23 : decode cX7_item 23 = .ok (.invokestatic 161, 3) := by decide +kernel
theorem dX7_item_26 : decode cX7_item 26 = .ok (.ifCond .eq 41, 3) := by decide +kernel
theorem dX7_item_29 : decode cX7_item 29 = .ok (.iload_n 3, 1) := by decide +kernel
theorem dX7_item_30 : decode cX7_item 30 = .ok (.i2l, 1) := by decide +kernel
theorem dX7_item_31 : decode cX7_item 31 = .ok (.lconst 1, 1) := by decide +kernel
theorem dX7_item_32 : decode cX7_item 32 = .ok (.ldc2_w 165, 3) := by decide +kernel
theorem dX7_item_35 : decode cX7_item 35 = .ok (.invokestatic 161, 3) := by decide +kernel
theorem dX7_item_38 : decode cX7_item 38 = .ok (.ifCond .eq 29, 3) := by decide +kernel
theorem dX7_item_41 : decode cX7_item 41 = .ok (.iload 4, 2) := by decide +kernel
theorem dX7_item_43 : decode cX7_item 43 = .ok (.i2l, 1) := by decide +kernel
theorem dX7_item_44 : decode cX7_item 44 = .ok (.lconst 1, 1) := by decide +kernel
theorem dX7_item_45 : decode cX7_item 45 = .ok (.ldc2_w 165, 3) := by decide +kernel
theorem dX7_item_48 : decode cX7_item 48 = .ok (.invokestatic 161, 3) := by decide +kernel
theorem dX7_item_51 : decode cX7_item 51 = .ok (.ifCond .eq 16, 3) := by decide +kernel
theorem dX7_item_54 : decode cX7_item 54 = .ok (.iload 5, 2) := by decide +kernel
theorem dX7_item_56 : decode cX7_item 56 = .ok (.i2l, 1) := by decide +kernel
theorem dX7_item_57 : decode cX7_item 57 = .ok (.lconst 1, 1) := by decide +kernel
theorem dX7_item_58 : decode cX7_item 58 = .ok (.ldc2_w 165, 3) := by decide +kernel
theorem dX7_item_61 : decode cX7_item 61 = .ok (.invokestatic 161, 3) := by decide +kernel
theorem dX7_item_64 : decode cX7_item 64 = .ok (.ifCond .ne 6, 3) := by decide +kernel
theorem dX7_item_67 : decode cX7_item 67 = .ok (.ldc 167, 2) := by decide +kernel
theorem dX7_item_69 : decode cX7_item 69 = .ok (.ireturn, 1) := by decide +kernel
theorem dX7_item_70 : decode cX7_item 70 = .ok (.aload_n 0, 1) := by decide +kernel
theorem dX7_item_71 : decode cX7_item 71 = .ok (.getfield 168, 3) := by decide +kernel
theorem dX7_item_74 : decode cX7_item 74 = .ok (.bipush 100, 2) := by decide +kernel
theorem dX7_item_76 : decode cX7_item 76 = .ok (.if_icmp .ne 6, 3) := by decide +kernel
theorem dX7_item_79 : decode cX7_item 79 = .ok (.ldc 158, 2) := by decide +kernel
theorem dX7_item_81 : decode cX7_item 81 = .ok (.ireturn, 1) := by decide +kernel
theorem dX7_item_82 : decode cX7_item 82 = .ok (.aload_n 0, 1) := by decide +kernel
theorem dX7_item_83 : decode cX7_item 83 = .ok (.getfield 28, 3) := by decide +kernel
theorem dX7_item_86 : decode cX7_item 86 = .ok (.aload_n 0, 1) := by decide +kernel
theorem dX7_item_87 : decode cX7_item 87 = .ok (.getfield 168, 3) := by decide +kernel
theorem dX7_item_90 : decode cX7_item 90 = .ok (.iload_n 1, 1) := by decide +kernel
theorem dX7_item_91 : decode cX7_item 91 = .ok (.iastore, 1) := by decide +kernel
theorem dX7_item_92 : decode cX7_item 92 = .ok (.aload_n 0, 1) := by decide +kernel
theorem dX7_item_93 : decode cX7_item 93 = .ok (.getfield 31, 3) := by decide +kernel
theorem dX7_item_96 : decode cX7_item 96 = .ok (.aload_n 0, 1) := by decide +kernel
theorem dX7_item_97 : decode cX7_item 97 = .ok (.getfield 168, 3) := by decide +kernel
theorem dX7_item_100 : decode cX7_item 100 = .ok (.iload_n 2, 1) := by decide +kernel
theorem dX7_item_101 : decode cX7_item 101 = .ok (.iastore, 1) := by decide +kernel
theorem dX7_item_102 : decode cX7_item 102 = .ok (.aload_n 0, 1) := by decide +kernel
theorem dX7_item_103 : decode cX7_item 103 = .ok (.getfield 34, 3) := by decide +kernel
theorem dX7_item_106 : decode cX7_item 106 = .ok (.aload_n 0, 1) := by decide +kernel
theorem dX7_item_107 : decode cX7_item 107 = .ok (.getfield 168, 3) := by decide +kernel
theorem dX7_item_110 : decode cX7_item 110 = .ok (.iload_n 3, 1) := by decide +kernel
theorem dX7_item_111 : decode cX7_item 111 = .ok (.iastore, 1) := by decide +kernel
theorem dX7_item_112 : decode cX7_item 112 = .ok (.aload_n 0, 1) := by decide +kernel
theorem dX7_item_113 : decode cX7_item 113 = .ok (.getfield 37, 3) := by decide +kernel
theorem dX7_item_116 : decode cX7_item 116 = .ok (.aload_n 0, 1) := by decide +kernel
theorem dX7_item_117 : decode cX7_item 117 = .ok (.getfield 168, 3) := by decide +kernel
theorem dX7_item_120 : decode cX7_item 120 = .ok (.iload 4, 2) := by decide +kernel
theorem dX7_item_122 : decode cX7_item 122 = .ok (.iastore, 1) := by decide +kernel
theorem dX7_item_123 : decode cX7_item 123 = .ok (.aload_n 0, 1) := by decide +kernel
theorem dX7_item_124 : decode cX7_item 124 = .ok (.getfield 40, 3) := by decide +kernel
theorem dX7_item_127 : decode cX7_item 127 = .ok (.aload_n 0, 1) := by decide +kernel
theorem dX7_item_128 : decode cX7_item 128 = .ok (.getfield 168, 3) := by decide +kernel
theorem dX7_item_131 : decode cX7_item 131 = .ok (.iload 5, 2) := by decide +kernel
theorem dX7_item_133 : decode cX7_item 133 = .ok (.iastore, 1) := by decide +kernel
theorem dX7_item_134 : decode cX7_item 134 = .ok (.aload_n 0, 1) := by decide +kernel
theorem dX7_item_135 : decode cX7_item 135 = .ok (.dup, 1) := by decide +kernel
theorem dX7_item_136 : decode cX7_item 136 = .ok (.getfield 168, 3) := by decide +kernel
theorem dX7_item_139 : decode cX7_item 139 = .ok (.iconst 1, 1) := by decide +kernel
theorem dX7_item_140 : decode cX7_item 140 = .ok (.iadd, 1) := by decide +kernel
theorem dX7_item_141 : decode cX7_item 141 = .ok (.putfield 168, 3) := by decide +kernel
theorem dX7_item_144 : decode cX7_item 144 = .ok (.aload_n 0, 1) := by decide +kernel
theorem dX7_item_145 : decode cX7_item 145 = .ok (.getfield 168, 3) := by decide +kernel
theorem dX7_item_148 : decode cX7_item 148 = .ok (.iconst 1, 1) := by decide +kernel
theorem dX7_item_149 : decode cX7_item 149 = .ok (.isub, 1) := by decide +kernel
theorem dX7_item_150 : decode cX7_item 150 = .ok (.ireturn, 1) := by decide +kernel
theorem dX7_service_0 : decode cX7_service 0 = .ok (.aload_n 0, 1) := by decide +kernel
theorem dX7_service_1 : decode cX7_service 1 = .ok (.iconst 0, 1) := by decide +kernel
theorem dX7_service_2 : decode cX7_service 2 = .ok (.putfield 75, 3) := by decide +kernel
theorem dX7_service_5 : decode cX7_service 5 = .ok (.iload_n 1, 1) := by decide +kernel
theorem dX7_service_6 : decode cX7_service 6 = .ok (.ifCond .lt 11, 3) := by decide +kernel
theorem dX7_service_9 : decode cX7_service 9 = .ok (.iload_n 1, 1) := by decide +kernel
theorem dX7_service_10 : decode cX7_service 10 = .ok (.aload_n 0, 1) := by decide +kernel
theorem dX7_service_11 : decode cX7_service 11 = .ok (.getfield 168, 3) := by decide +kernel
theorem dX7_service_14 : decode cX7_service 14 = .ok (.if_icmp .lt 6, 3) := by decide +kernel
theorem dX7_service_17 : decode cX7_service 17 = .ok (.ldc 171, 2) := by decide +kernel
theorem dX7_service_19 : decode cX7_service 19 = .ok (.ireturn, 1) := by decide +kernel
theorem dX7_service_20 : decode cX7_service 20 = .ok (.iload_n 2, 1) := by decide +kernel
theorem dX7_service_21 : decode cX7_service 21 = .ok (.i2l, 1) := by decide +kernel
theorem dX7_service_22 : decode cX7_service 22 = .ok (.lconst 0, 1) := by decide +kernel
theorem dX7_service_23 : decode cX7_service 23 = .ok (.ldc2_w 159, 3) := by decide +kernel
theorem dX7_service_26 : decode cX7_service 26 = .ok (.invokestatic 161, 3) := by decide +kernel
theorem dX7_service_29 : decode cX7_service 29 = .ok (.ifCond .ne 6, 3) := by decide +kernel
theorem dX7_service_32 : decode cX7_service 32 = .ok (.ldc 167, 2) := by decide +kernel
theorem dX7_service_34 : decode cX7_service 34 = .ok (.ireturn, 1) := by decide +kernel
theorem dX7_service_35 : decode cX7_service 35 = .ok (.aload_n 0, 1) := by decide +kernel
theorem dX7_service_36 : decode cX7_service 36 = .ok (.getfield 43, 3) := by decide +kernel
theorem dX7_service_39 : decode cX7_service 39 = .ok (.bipush 10, 2) := by decide +kernel
theorem dX7_service_41 : decode cX7_service 41 = .ok (.iload_n 1, 1) := by decide +kernel
theorem dX7_service_42 : decode cX7_service 42 = .ok (.imul, 1) := by decide +kernel
theorem dX7_service_43 : decode cX7_service 43 = .ok (.iload_n 2, 1) := by decide +kernel
theorem dX7_service_44 : decode cX7_service 44 = .ok (.iadd, 1) := by decide +kernel
theorem dX7_service_45 : decode cX7_service 45 = .ok (.iconst 1, 1) := by decide +kernel
theorem dX7_service_46 : decode cX7_service 46 = .ok (.bastore, 1) := by decide +kernel
theorem dX7_service_47 : decode cX7_service 47 = .ok (.iconst 0, 1) := by decide +kernel
theorem dX7_service_48 : decode cX7_service 48 = .ok (.istore_n 3, 1) := by decide +kernel
theorem dX7_service_49 : decode cX7_service 49 = .ok (.iconst 0, 1) := by decide +kernel
theorem dX7_service_50 : decode cX7_service 50 = .ok (.istore 4, 2) := by decide +kernel
theorem dX7_service_52 : decode cX7_service 52 = .ok (.iload 4, 2) := by decide +kernel
theorem dX7_service_54 : decode cX7_service 54 = .ok (.bipush 10, 2) := by decide +kernel
theorem dX7_service_56 : decode cX7_service 56 = .ok (.if_icmp .ge 32, 3) := by decide +kernel
theorem dX7_service_59 : decode cX7_service 59 = .ok (.aload_n 0, 1) := by decide +kernel
theorem dX7_service_60 : decode cX7_service 60 = .ok (.getfield 43, 3) := by decide +kernel
theorem dX7_service_63 : decode cX7_service 63 = .ok (.bipush 10, 2) := by decide +kernel
theorem dX7_service_65 : decode cX7_service 65 = .ok (.iload_n 1, 1) := by decide +kernel
theorem dX7_service_66 : decode cX7_service 66 = .ok (.imul, 1) := by decide +kernel
theorem dX7_service_67 : decode cX7_service 67 = .ok (.iload 4, 2) := by decide +kernel
theorem dX7_service_69 : decode cX7_service 69 = .ok (.iadd, 1) := by decide +kernel
theorem dX7_service_70 : decode cX7_service 70 = .ok (.baload, 1) := by decide +kernel
theorem dX7_service_71 : decode cX7_service 71 = .ok (.ifCond .eq 9, 3) := by decide +kernel
theorem dX7_service_74 : decode cX7_service 74 = .ok (.iload_n 3, 1) := by decide +kernel
theorem dX7_service_75 : decode cX7_service 75 = .ok (.iconst 1, 1) := by decide +kernel
theorem dX7_service_76 : decode cX7_service 76 = .ok (.iadd, 1) := by decide +kernel
theorem dX7_service_77 : decode cX7_service 77 = .ok (.goto 4, 3) := by decide +kernel
theorem dX7_service_80 : decode cX7_service 80 = .ok (.iload_n 3, 1) := by decide +kernel
theorem dX7_service_81 : decode cX7_service 81 = .ok (.istore_n 3, 1) := by decide +kernel
theorem dX7_service_82 : decode cX7_service 82 = .ok (.iinc 4 1, 3) := by decide +kernel
theorem dX7_service_85 : decode cX7_service 85 = .ok (.goto (-33), 3) := by decide +kernel
theorem dX7_service_88 : decode cX7_service 88 = .ok (.iload_n 3, 1) := by decide +kernel
theorem dX7_service_89 : decode cX7_service 89 = .ok (.ireturn, 1) := by decide +kernel
theorem dX7_part_0 : decode cX7_part 0 = .ok (.aload_n 0, 1) := by decide +kernel
theorem dX7_part_1 : decode cX7_part 1 = .ok (.getfield 47, 3) := by decide +kernel
theorem dX7_part_4 : decode cX7_part 4 = .ok (.aload_n 0, 1) := by decide +kernel
theorem dX7_part_5 : decode cX7_part 5 = .ok (.getfield 172, 3) := by decide +kernel
theorem dX7_part_8 : decode cX7_part 8 = .ok (.iload_n 1, 1) := by decide +kernel
theorem dX7_part_9 : decode cX7_part 9 = .ok (.iastore, 1) := by decide +kernel
theorem dX7_part_10 : decode cX7_part 10 = .ok (.aload_n 0, 1) := by decide +kernel
theorem dX7_part_11 : decode cX7_part 11 = .ok (.getfield 50, 3) := by decide +kernel
theorem dX7_part_14 : decode cX7_part 14 = .ok (.aload_n 0, 1) := by decide +kernel
theorem dX7_part_15 : decode cX7_part 15 = .ok (.getfield 172, 3) := by decide +kernel
theorem dX7_part_18 : decode cX7_part 18 = .ok (.lload_n 2, 1) := by decide +kernel
theorem dX7_part_19 : decode cX7_part 19 = .ok (.lastore, 1) := by decide +kernel
theorem dX7_part_20 : decode cX7_part 20 = .ok (.aload_n 0, 1) := by decide +kernel
theorem dX7_part_21 : decode cX7_part 21 = .ok (.getfield 54, 3) := by decide +kernel
theorem dX7_part_24 : decode cX7_part 24 = .ok (.aload_n 0, 1) := by decide +kernel
theorem dX7_part_25 : decode cX7_part 25 = .ok (.getfield 172, 3) := by decide +kernel
theorem dX7_part_28 : decode cX7_part 28 = .ok (.iload 4, 2) := by decide +kernel
theorem dX7_part_30 : decode cX7_part 30 = .ok (.iastore, 1) := by decide +kernel
theorem dX7_part_31 : decode cX7_part 31 = .ok (.aload_n 0, 1) := by decide +kernel
theorem dX7_part_32 : decode cX7_part 32 = .ok (.dup, 1) := by decide +kernel
theorem dX7_part_33 : decode cX7_part 33 = .ok (.getfield 172, 3) := by decide +kernel
theorem dX7_part_36 : decode cX7_part 36 = .ok (.iconst 1, 1) := by decide +kernel
theorem dX7_part_37 : decode cX7_part 37 = .ok (.iadd, 1) := by decide +kernel
theorem dX7_part_38 : decode cX7_part 38 = .ok (.putfield 172, 3) := by decide +kernel
theorem dX7_part_41 : decode cX7_part 41 = .ok (.return_, 1) := by decide +kernel
theorem dX7_mayServe_0 : decode cX7_mayServe 0 = .ok (.iconst 1, 1) := by decide +kernel
theorem dX7_mayServe_1 : decode cX7_mayServe 1 = .ok (.istore 4, 2) := by decide +kernel
theorem dX7_mayServe_3 : decode cX7_mayServe 3 = .ok (.iconst 0, 1) := by decide +kernel
theorem dX7_mayServe_4 : decode cX7_mayServe 4 = .ok (.istore 5, 2) := by decide +kernel
theorem dX7_mayServe_6 : decode cX7_mayServe 6 = .ok (.iload 5, 2) := by decide +kernel
theorem dX7_mayServe_8 : decode cX7_mayServe 8 = .ok (.bipush 10, 2) := by decide +kernel
theorem dX7_mayServe_10 : decode cX7_mayServe 10 = .ok (.if_icmp .ge 50, 3) := by decide +kernel
theorem dX7_mayServe_13 : decode cX7_mayServe 13 = .ok (.iload 4, 2) := by decide +kernel
theorem dX7_mayServe_15 : decode cX7_mayServe 15 = .ok (.ifCond .eq 36, 3) := by decide +kernel
theorem dX7_mayServe_18 : decode cX7_mayServe 18 = .ok (.aload_n 0, 1) := by decide +kernel
theorem dX7_mayServe_19 : decode cX7_mayServe 19 = .ok (.getfield 43, 3) := by decide +kernel
theorem dX7_mayServe_22 : decode cX7_mayServe 22 = .ok (.bipush 10, 2) := by decide +kernel
theorem dX7_mayServe_24 : decode cX7_mayServe 24 = .ok (.iload_n 1, 1) := by decide +kernel
theorem dX7_mayServe_25 : decode cX7_mayServe 25 = .ok (.imul, 1) := by decide +kernel
theorem dX7_mayServe_26 : decode cX7_mayServe 26 = .ok (.iload 5, 2) := by decide +kernel
theorem dX7_mayServe_28 : decode cX7_mayServe 28 = .ok (.iadd, 1) := by decide +kernel
theorem dX7_mayServe_29 : decode cX7_mayServe 29 = .ok (.baload, 1) := by decide +kernel
theorem dX7_mayServe_30 : decode cX7_mayServe 30 = .ok (.ifCond .eq 17, 3) := by decide +kernel
theorem dX7_mayServe_33 : decode cX7_mayServe 33 = .ok (.aload_n 0, 1) := by decide +kernel
theorem dX7_mayServe_34 : decode cX7_mayServe 34 = .ok (.iload_n 2, 1) := by decide +kernel
theorem dX7_mayServe_35 : decode cX7_mayServe 35 = .ok (.iload_n 3, 1) := by decide +kernel
theorem dX7_mayServe_36 : decode cX7_mayServe 36 = .ok (.bipush 88, 2) := by decide +kernel
theorem dX7_mayServe_38 : decode cX7_mayServe 38 = .ok (.iload 5, 2) := by decide +kernel
theorem dX7_mayServe_40 : decode cX7_mayServe 40 = .ok (.invokevirtual 175, 3) := by decide +kernel
theorem dX7_mayServe_43 : decode cX7_mayServe 43 = .ok (.iconst (-1), 1) := by decide +kernel
theorem dX7_mayServe_44 : decode cX7_mayServe 44 = .ok (.if_icmp .eq 7, 3) := by decide +kernel
theorem dX7_mayServe_47 : decode cX7_mayServe 47 = .ok (.iconst 1, 1) := by decide +kernel
theorem dX7_mayServe_48 : decode cX7_mayServe 48 = .ok (.goto 4, 3) := by decide +kernel
theorem dX7_mayServe_51 : decode cX7_mayServe 51 = .ok (.iconst 0, 1) := by decide +kernel
theorem dX7_mayServe_52 : decode cX7_mayServe 52 = .ok (.istore 4, 2) := by decide +kernel
theorem dX7_mayServe_54 : decode cX7_mayServe 54 = .ok (.iinc 5 1, 3) := by decide +kernel
theorem dX7_mayServe_57 : decode cX7_mayServe 57 = .ok (.goto (-51), 3) := by decide +kernel
theorem dX7_mayServe_60 : decode cX7_mayServe 60 = .ok (.iload_n 2, 1) := by decide +kernel
theorem dX7_mayServe_61 : decode cX7_mayServe 61 = .ok (.istore 5, 2) := by decide +kernel
theorem dX7_mayServe_63 : decode cX7_mayServe 63 = .ok (.iload 5, 2) := by decide +kernel
theorem dX7_mayServe_65 : decode cX7_mayServe 65 = .ok (.iload_n 3, 1) := by decide +kernel
theorem dX7_mayServe_66 : decode cX7_mayServe 66 = .ok (.if_icmp .ge 73, 3) := by decide +kernel
theorem dX7_mayServe_69 : decode cX7_mayServe 69 = .ok (.iload 4, 2) := by decide +kernel
theorem dX7_mayServe_71 : decode cX7_mayServe 71 = .ok (.ifCond .eq 59, 3) := by decide +kernel
theorem dX7_mayServe_74 : decode cX7_mayServe 74 = .ok (.aload_n 0, 1) := by decide +kernel
theorem dX7_mayServe_75 : decode cX7_mayServe 75 = .ok (.getfield 13, 3) := by decide +kernel
theorem dX7_mayServe_78 : decode cX7_mayServe 78 = .ok (.iload 5, 2) := by decide +kernel
theorem dX7_mayServe_80 : decode cX7_mayServe 80 = .ok (.iaload, 1) := by decide +kernel
theorem dX7_mayServe_81 : decode cX7_mayServe 81 = .ok (.bipush 69, 2) := by decide +kernel
theorem dX7_mayServe_83 : decode cX7_mayServe 83 = .ok (.if_icmp .ne 43, 3) := by decide +kernel
theorem dX7_mayServe_86 : decode cX7_mayServe 86 = .ok (.aload_n 0, 1) := by decide +kernel
theorem dX7_mayServe_87 : decode cX7_mayServe 87 = .ok (.getfield 43, 3) := by decide +kernel
theorem dX7_mayServe_90 : decode cX7_mayServe 90 = .ok (.bipush 10, 2) := by decide +kernel
theorem dX7_mayServe_92 : decode cX7_mayServe 92 = .ok (.iload_n 1, 1) := by decide +kernel
theorem dX7_mayServe_93 : decode cX7_mayServe 93 = .ok (.imul, 1) := by decide +kernel
theorem dX7_mayServe_94 : decode cX7_mayServe 94 = .ok (.aload_n 0, 1) := by decide +kernel
theorem dX7_mayServe_95 : decode cX7_mayServe 95 = .ok (.getfield 16, 3) := by decide +kernel
theorem dX7_mayServe_98 : decode cX7_mayServe 98 = .ok (.iload 5, 2) := by decide +kernel
theorem dX7_mayServe_100 : decode cX7_mayServe 100 = .ok (.iaload, 1) := by decide +kernel
theorem dX7_mayServe_101 : decode cX7_mayServe 101 = .ok (.iadd, 1) := by decide +kernel
theorem dX7_mayServe_102 : decode cX7_mayServe 102 = .ok (.baload, 1) := by decide +kernel
theorem dX7_mayServe_103 : decode cX7_mayServe 103 = .ok (.ifCond .eq 23, 3) := by decide +kernel
theorem dX7_mayServe_106 : decode cX7_mayServe 106 = .ok (.aload_n 0, 1) := by decide +kernel
theorem dX7_mayServe_107 : decode cX7_mayServe 107 = .ok (.getfield 43, 3) := by decide +kernel
theorem dX7_mayServe_110 : decode cX7_mayServe 110 = .ok (.bipush 10, 2) := by decide +kernel
theorem dX7_mayServe_112 : decode cX7_mayServe 112 = .ok (.iload_n 1, 1) := by decide +kernel
theorem dX7_mayServe_113 : decode cX7_mayServe 113 = .ok (.imul, 1) := by decide +kernel
theorem dX7_mayServe_114 : decode cX7_mayServe 114 = .ok (.aload_n 0, 1) := by decide +kernel
theorem dX7_mayServe_115 : decode cX7_mayServe 115 = .ok (.getfield 19, 3) := by decide +kernel
theorem dX7_mayServe_118 : decode cX7_mayServe 118 = .ok (.iload 5, 2) := by decide +kernel
theorem dX7_mayServe_120 : decode cX7_mayServe 120 = .ok (.iaload, 1) := by decide +kernel
theorem dX7_mayServe_121 : decode cX7_mayServe 121 = .ok (.iadd, 1) := by decide +kernel
theorem dX7_mayServe_122 : decode cX7_mayServe 122 = .ok (.baload, 1) := by decide +kernel
theorem dX7_mayServe_123 : decode cX7_mayServe 123 = .ok (.ifCond .ne 7, 3) := by decide +kernel
theorem dX7_mayServe_126 : decode cX7_mayServe 126 = .ok (.iconst 1, 1) := by decide +kernel
theorem dX7_mayServe_127 : decode cX7_mayServe 127 = .ok (.goto 4, 3) := by decide +kernel
theorem dX7_mayServe_130 : decode cX7_mayServe 130 = .ok (.iconst 0, 1) := by decide +kernel
theorem dX7_mayServe_131 : decode cX7_mayServe 131 = .ok (.istore 4, 2) := by decide +kernel
theorem dX7_mayServe_133 : decode cX7_mayServe 133 = .ok (.iinc 5 1, 3) := by decide +kernel
theorem dX7_mayServe_136 : decode cX7_mayServe 136 = .ok (.goto (-73), 3) := by decide +kernel
theorem dX7_mayServe_139 : decode cX7_mayServe 139 = .ok (.iload 4, 2) := by decide +kernel
theorem dX7_mayServe_141 : decode cX7_mayServe 141 = .ok (.ireturn, 1) := by decide +kernel
theorem dX7_mayGo_0 : decode cX7_mayGo 0 = .ok (.aload_n 0, 1) := by decide +kernel
theorem dX7_mayGo_1 : decode cX7_mayGo 1 = .ok (.iload_n 2, 1) := by decide +kernel
theorem dX7_mayGo_2 : decode cX7_mayGo 2 = .ok (.iload_n 3, 1) := by decide +kernel
theorem dX7_mayGo_3 : decode cX7_mayGo 3 = .ok (.bipush 70, 2) := by decide +kernel
theorem dX7_mayGo_5 : decode cX7_mayGo 5 = .ok (.invokevirtual 179, 3) := by decide +kernel
theorem dX7_mayGo_8 : decode cX7_mayGo 8 = .ok (.istore 7, 2) := by decide +kernel
theorem dX7_mayGo_10 : decode cX7_mayGo 10 = .ok (.aload_n 0, 1) := by decide +kernel
theorem dX7_mayGo_11 : decode cX7_mayGo 11 = .ok (.iload_n 2, 1) := by decide +kernel
theorem dX7_mayGo_12 : decode cX7_mayGo 12 = .ok (.iload_n 3, 1) := by decide +kernel
theorem dX7_mayGo_13 : decode cX7_mayGo 13 = .ok (.bipush 68, 2) := by decide +kernel
theorem dX7_mayGo_15 : decode cX7_mayGo 15 = .ok (.invokevirtual 179, 3) := by decide +kernel
theorem dX7_mayGo_18 : decode cX7_mayGo 18 = .ok (.istore 8, 2) := by decide +kernel
theorem dX7_mayGo_20 : decode cX7_mayGo 20 = .ok (.iload 7, 2) := by decide +kernel
theorem dX7_mayGo_22 : decode cX7_mayGo 22 = .ok (.iconst (-1), 1) := by decide +kernel
theorem dX7_mayGo_23 : decode cX7_mayGo 23 = .ok (.if_icmp .eq 31, 3) := by decide +kernel
theorem dX7_mayGo_26 : decode cX7_mayGo 26 = .ok (.lload 5, 2) := by decide +kernel
theorem dX7_mayGo_28 : decode cX7_mayGo 28 = .ok (.aload_n 0, 1) := by decide +kernel
theorem dX7_mayGo_29 : decode cX7_mayGo 29 = .ok (.getfield 16, 3) := by decide +kernel
theorem dX7_mayGo_32 : decode cX7_mayGo 32 = .ok (.iload 7, 2) := by decide +kernel
theorem dX7_mayGo_34 : decode cX7_mayGo 34 = .ok (.iaload, 1) := by decide +kernel
theorem dX7_mayGo_35 : decode cX7_mayGo 35 = .ok (.i2l, 1) := by decide +kernel
theorem dX7_mayGo_36 : decode cX7_mayGo 36 = .ok (.lcmp, 1) := by decide +kernel
theorem dX7_mayGo_37 : decode cX7_mayGo 37 = .ok (.ifCond .lt 21, 3) := by decide +kernel
theorem dX7_mayGo_40 : decode cX7_mayGo 40 = .ok (.lload 5, 2) := by decide +kernel
theorem dX7_mayGo_42 : decode cX7_mayGo 42 = .ok (.aload_n 0, 1) := by decide +kernel
theorem dX7_mayGo_43 : decode cX7_mayGo 43 = .ok (.getfield 19, 3) := by decide +kernel
theorem dX7_mayGo_46 : decode cX7_mayGo 46 = .ok (.iload 7, 2) := by decide +kernel
theorem dX7_mayGo_48 : decode cX7_mayGo 48 = .ok (.iaload, 1) := by decide +kernel
theorem dX7_mayGo_49 : decode cX7_mayGo 49 = .ok (.i2l, 1) := by decide +kernel
theorem dX7_mayGo_50 : decode cX7_mayGo 50 = .ok (.lcmp, 1) := by decide +kernel
theorem dX7_mayGo_51 : decode cX7_mayGo 51 = .ok (.ifCond .gt 7, 3) := by decide +kernel
theorem dX7_mayGo_54 : decode cX7_mayGo 54 = .ok (.iconst 1, 1) := by decide +kernel
theorem dX7_mayGo_55 : decode cX7_mayGo 55 = .ok (.goto 4, 3) := by decide +kernel
theorem dX7_mayGo_58 : decode cX7_mayGo 58 = .ok (.iconst 0, 1) := by decide +kernel
theorem dX7_mayGo_59 : decode cX7_mayGo 59 = .ok (.istore 9, 2) := by decide +kernel
theorem dX7_mayGo_61 : decode cX7_mayGo 61 = .ok (.iload 8, 2) := by decide +kernel
theorem dX7_mayGo_63 : decode cX7_mayGo 63 = .ok (.iconst (-1), 1) := by decide +kernel
theorem dX7_mayGo_64 : decode cX7_mayGo 64 = .ok (.if_icmp .eq 51, 3) := by decide +kernel
theorem dX7_mayGo_67 : decode cX7_mayGo 67 = .ok (.aload_n 0, 1) := by decide +kernel
theorem dX7_mayGo_68 : decode cX7_mayGo 68 = .ok (.getfield 34, 3) := by decide +kernel
theorem dX7_mayGo_71 : decode cX7_mayGo 71 = .ok (.iload_n 1, 1) := by decide +kernel
theorem dX7_mayGo_72 : decode cX7_mayGo 72 = .ok (.iaload, 1) := by decide +kernel
theorem dX7_mayGo_73 : decode cX7_mayGo 73 = .ok (.aload_n 0, 1) := by decide +kernel
theorem dX7_mayGo_74 : decode cX7_mayGo 74 = .ok (.getfield 16, 3) := by decide +kernel
theorem dX7_mayGo_77 : decode cX7_mayGo 77 = .ok (.iload 8, 2) := by decide +kernel
theorem dX7_mayGo_79 : decode cX7_mayGo 79 = .ok (.iaload, 1) := by decide +kernel
theorem dX7_mayGo_80 : decode cX7_mayGo 80 = .ok (.if_icmp .gt 39, 3) := by decide +kernel
theorem dX7_mayGo_83 : decode cX7_mayGo 83 = .ok (.aload_n 0, 1) := by decide +kernel
theorem dX7_mayGo_84 : decode cX7_mayGo 84 = .ok (.getfield 37, 3) := by decide +kernel
theorem dX7_mayGo_87 : decode cX7_mayGo 87 = .ok (.iload_n 1, 1) := by decide +kernel
theorem dX7_mayGo_88 : decode cX7_mayGo 88 = .ok (.iaload, 1) := by decide +kernel
theorem dX7_mayGo_89 : decode cX7_mayGo 89 = .ok (.aload_n 0, 1) := by decide +kernel
theorem dX7_mayGo_90 : decode cX7_mayGo 90 = .ok (.getfield 19, 3) := by decide +kernel
theorem dX7_mayGo_93 : decode cX7_mayGo 93 = .ok (.iload 8, 2) := by decide +kernel
theorem dX7_mayGo_95 : decode cX7_mayGo 95 = .ok (.iaload, 1) := by decide +kernel
theorem dX7_mayGo_96 : decode cX7_mayGo 96 = .ok (.if_icmp .gt 23, 3) := by decide +kernel
theorem dX7_mayGo_99 : decode cX7_mayGo 99 = .ok (.aload_n 0, 1) := by decide +kernel
theorem dX7_mayGo_100 : decode cX7_mayGo 100 = .ok (.getfield 40, 3) := by decide +kernel
theorem dX7_mayGo_103 : decode cX7_mayGo 103 = .ok (.iload_n 1, 1) := by decide +kernel
theorem dX7_mayGo_104 : decode cX7_mayGo 104 = .ok (.iaload, 1) := by decide +kernel
theorem dX7_mayGo_105 : decode cX7_mayGo 105 = .ok (.aload_n 0, 1) := by decide +kernel
theorem dX7_mayGo_106 : decode cX7_mayGo 106 = .ok (.getfield 22, 3) := by decide +kernel
theorem dX7_mayGo_109 : decode cX7_mayGo 109 = .ok (.iload 8, 2) := by decide +kernel
theorem dX7_mayGo_111 : decode cX7_mayGo 111 = .ok (.iaload, 1) := by decide +kernel
theorem dX7_mayGo_112 : decode cX7_mayGo 112 = .ok (.if_icmp .gt 7, 3) := by decide +kernel
theorem dX7_mayGo_115 : decode cX7_mayGo 115 = .ok (.iconst 1, 1) := by decide +kernel
theorem dX7_mayGo_116 : decode cX7_mayGo 116 = .ok (.goto 4, 3) := by decide +kernel
theorem dX7_mayGo_119 : decode cX7_mayGo 119 = .ok (.iconst 0, 1) := by decide +kernel
theorem dX7_mayGo_120 : decode cX7_mayGo 120 = .ok (.istore 10, 2) := by decide +kernel
theorem dX7_mayGo_122 : decode cX7_mayGo 122 = .ok (.iload 9, 2) := by decide +kernel
theorem dX7_mayGo_124 : decode cX7_mayGo 124 = .ok (.ifCond .eq 36, 3) := by decide +kernel
theorem dX7_mayGo_127 : decode cX7_mayGo 127 = .ok (.iload 10, 2) := by decide +kernel
theorem dX7_mayGo_129 : decode cX7_mayGo 129 = .ok (.ifCond .eq 31, 3) := by decide +kernel
theorem dX7_mayGo_132 : decode cX7_mayGo 132 = .ok (.aload_n 0, 1) := by decide +kernel
theorem dX7_mayGo_133 : decode cX7_mayGo 133 = .ok (.iload_n 2, 1) := by decide +kernel
theorem dX7_mayGo_134 : decode cX7_mayGo 134 = .ok (.iload_n 3, 1) := by decide +kernel
theorem dX7_mayGo_135 : decode cX7_mayGo 135 = .ok (.bipush 90, 2) := by decide +kernel
theorem dX7_mayGo_137 : decode cX7_mayGo 137 = .ok (.iload 4, 2) := by decide +kernel
theorem dX7_mayGo_139 : decode cX7_mayGo 139 = .ok (.invokevirtual 175, 3) := by decide +kernel
theorem dX7_mayGo_142 : decode cX7_mayGo 142 = .ok (.iconst (-1), 1) := by decide +kernel
theorem dX7_mayGo_143 : decode cX7_mayGo 143 = .ok (.if_icmp .eq 17, 3) := by decide +kernel
theorem dX7_mayGo_146 : decode cX7_mayGo 146 = .ok (.aload_n 0, 1) := by decide +kernel
theorem dX7_mayGo_147 : decode cX7_mayGo 147 = .ok (.iload_n 1, 1) := by decide +kernel
theorem dX7_mayGo_148 : decode cX7_mayGo 148 = .ok (.iload_n 2, 1) := by decide +kernel
theorem dX7_mayGo_149 : decode cX7_mayGo 149 = .ok (.iload_n 3, 1) := by decide +kernel
theorem dX7_mayGo_150 : decode cX7_mayGo 150 = .ok (.invokevirtual 183, 3) := by decide +kernel
theorem dX7_mayGo_153 : decode cX7_mayGo 153 = .ok (.ifCond .eq 7, 3) := by decide +kernel
theorem dX7_mayGo_156 : decode cX7_mayGo 156 = .ok (.iconst 1, 1) := by decide +kernel
theorem dX7_mayGo_157 : decode cX7_mayGo 157 = .ok (.goto 4, 3) := by decide +kernel
theorem dX7_mayGo_160 : decode cX7_mayGo 160 = .ok (.iconst 0, 1) := by decide +kernel
theorem dX7_mayGo_161 : decode cX7_mayGo 161 = .ok (.ireturn, 1) := by decide +kernel
theorem dX7_reckon_0 : decode cX7_reckon 0 = .ok (.aload_n 0, 1) := by decide +kernel
theorem dX7_reckon_1 : decode cX7_reckon 1 = .ok (.iconst 0, 1) := by decide +kernel
theorem dX7_reckon_2 : decode cX7_reckon 2 = .ok (.putfield 172, 3) := by decide +kernel
theorem dX7_reckon_5 : decode cX7_reckon 5 = .ok (.aload_n 0, 1) := by decide +kernel
theorem dX7_reckon_6 : decode cX7_reckon 6 = .ok (.getfield 155, 3) := by decide +kernel
theorem dX7_reckon_9 : decode cX7_reckon 9 = .ok (.iconst 1, 1) := by decide +kernel
theorem dX7_reckon_10 : decode cX7_reckon 10 = .ok (.isub, 1) := by decide +kernel
theorem dX7_reckon_11 : decode cX7_reckon 11 = .ok (.istore 6, 2) := by decide +kernel
theorem dX7_reckon_13 : decode cX7_reckon 13 = .ok (.aload_n 0, 1) := by decide +kernel
theorem dX7_reckon_14 : decode cX7_reckon 14 = .ok (.iload 6, 2) := by decide +kernel
theorem dX7_reckon_16 : decode cX7_reckon 16 = .ok (.iload_n 2, 1) := by decide +kernel
theorem dX7_reckon_17 : decode cX7_reckon 17 = .ok (.invokevirtual 187, 3) := by decide +kernel
theorem dX7_reckon_20 : decode cX7_reckon 20 = .ok (.istore 7, 2) := by decide +kernel
theorem dX7_reckon_22 : decode cX7_reckon 22 = .ok (.iload 7, 2) := by decide +kernel
theorem dX7_reckon_24 : decode cX7_reckon 24 = .ok (.iconst (-1), 1) := by decide +kernel
theorem dX7_reckon_25 : decode cX7_reckon 25 = .ok (.if_icmp .ne 7, 3) := by decide +kernel
theorem dX7_reckon_28 : decode cX7_reckon 28 = .ok (.ldc2_w 190, 3) := by decide +kernel
theorem dX7_reckon_31 : decode cX7_reckon 31 = .ok (.lreturn, 1) := by decide +kernel
theorem dX7_reckon_32 : decode cX7_reckon 32 = .ok (.aload_n 0, 1) := by decide +kernel
theorem dX7_reckon_33 : decode cX7_reckon 33 = .ok (.iload 6, 2) := by decide +kernel
theorem dX7_reckon_35 : decode cX7_reckon 35 = .ok (.iload 7, 2) := by decide +kernel
theorem dX7_reckon_37 : decode cX7_reckon 37 = .ok (.invokevirtual 192, 3) := by decide +kernel
theorem dX7_reckon_40 : decode cX7_reckon 40 = .ok (.istore 8, 2) := by decide +kernel
theorem dX7_reckon_42 : decode cX7_reckon 42 = .ok (.aload_n 0, 1) := by decide +kernel
theorem dX7_reckon_43 : decode cX7_reckon 43 = .ok (.iload_n 1, 1) := by decide +kernel
theorem dX7_reckon_44 : decode cX7_reckon 44 = .ok (.iload 7, 2) := by decide +kernel
theorem dX7_reckon_46 : decode cX7_reckon 46 = .ok (.iload 8, 2) := by decide +kernel
theorem dX7_reckon_48 : decode cX7_reckon 48 = .ok (.iload_n 3, 1) := by decide +kernel
theorem dX7_reckon_49 : decode cX7_reckon 49 = .ok (.lload 4, 2) := by decide +kernel
theorem dX7_reckon_51 : decode cX7_reckon 51 = .ok (.invokevirtual 195, 3) := by decide +kernel
theorem dX7_reckon_54 : decode cX7_reckon 54 = .ok (.ifCond .ne 7, 3) := by decide +kernel
theorem dX7_reckon_57 : decode cX7_reckon 57 = .ok (.ldc2_w 190, 3) := by decide +kernel
theorem dX7_reckon_60 : decode cX7_reckon 60 = .ok (.lreturn, 1) := by decide +kernel
theorem dX7_reckon_61 : decode cX7_reckon 61 = .ok (.aload_n 0, 1) := by decide +kernel
theorem dX7_reckon_62 : decode cX7_reckon 62 = .ok (.getfield 31, 3) := by decide +kernel
theorem dX7_reckon_65 : decode cX7_reckon 65 = .ok (.iload_n 1, 1) := by decide +kernel
theorem dX7_reckon_66 : decode cX7_reckon 66 = .ok (.iaload, 1) := by decide +kernel
theorem dX7_reckon_67 : decode cX7_reckon 67 = .ok (.i2l, 1) := by decide +kernel
theorem dX7_reckon_68 : decode cX7_reckon 68 = .ok (.lstore 9, 2) := by decide +kernel
theorem dX7_reckon_70 : decode cX7_reckon 70 = .ok (.aload_n 0, 1) := by decide +kernel
theorem dX7_reckon_71 : decode cX7_reckon 71 = .ok (.iload 7, 2) := by decide +kernel
theorem dX7_reckon_73 : decode cX7_reckon 73 = .ok (.iload 8, 2) := by decide +kernel
theorem dX7_reckon_75 : decode cX7_reckon 75 = .ok (.bipush 77, 2) := by decide +kernel
theorem dX7_reckon_77 : decode cX7_reckon 77 = .ok (.invokevirtual 179, 3) := by decide +kernel
theorem dX7_reckon_80 : decode cX7_reckon 80 = .ok (.istore 11, 2) := by decide +kernel
theorem dX7_reckon_82 : decode cX7_reckon 82 = .ok (.iload 11, 2) := by decide +kernel
theorem dX7_reckon_84 : decode cX7_reckon 84 = .ok (.iconst (-1), 1) := by decide +kernel
theorem dX7_reckon_85 : decode cX7_reckon 85 = .ok (.if_icmp .eq 86, 3) := by decide +kernel
theorem dX7_reckon_88 : decode cX7_reckon 88 = .ok (.aload_n 0, 1) := by decide +kernel
theorem dX7_reckon_89 : decode cX7_reckon 89 = .ok (.getfield 34, 3) := by decide +kernel
theorem dX7_reckon_92 : decode cX7_reckon 92 = .ok (.iload_n 1, 1) := by decide +kernel
theorem dX7_reckon_93 : decode cX7_reckon 93 = .ok (.iaload, 1) := by decide +kernel
theorem dX7_reckon_94 : decode cX7_reckon 94 = .ok (.i2l, 1) := by decide +kernel
theorem dX7_reckon_95 : decode cX7_reckon 95 = .ok (.aload_n 0, 1) := by decide +kernel
theorem dX7_reckon_96 : decode cX7_reckon 96 = .ok (.getfield 37, 3) := by decide +kernel
theorem dX7_reckon_99 : decode cX7_reckon 99 = .ok (.iload_n 1, 1) := by decide +kernel
theorem dX7_reckon_100 : decode cX7_reckon 100 = .ok (.iaload, 1) := by decide +kernel
theorem dX7_reckon_101 : decode cX7_reckon 101 = .ok (.i2l, 1) := by decide +kernel
theorem dX7_reckon_102 : decode cX7_reckon 102 = .ok (.lmul, 1) := by decide +kernel
theorem dX7_reckon_103 : decode cX7_reckon 103 = .ok (.aload_n 0, 1) := by decide +kernel
theorem dX7_reckon_104 : decode cX7_reckon 104 = .ok (.getfield 40, 3) := by decide +kernel
theorem dX7_reckon_107 : decode cX7_reckon 107 = .ok (.iload_n 1, 1) := by decide +kernel
theorem dX7_reckon_108 : decode cX7_reckon 108 = .ok (.iaload, 1) := by decide +kernel
theorem dX7_reckon_109 : decode cX7_reckon 109 = .ok (.i2l, 1) := by decide +kernel
theorem dX7_reckon_110 : decode cX7_reckon 110 = .ok (.lmul, 1) := by decide +kernel
theorem dX7_reckon_111 : decode cX7_reckon 111 = .ok (.lstore 12, 2) := by decide +kernel
theorem dX7_reckon_113 : decode cX7_reckon 113 = .ok (.lload 12, 2) := by decide +kernel
theorem dX7_reckon_115 : decode cX7_reckon 115 = .ok (.aload_n 0, 1) := by decide +kernel
theorem dX7_reckon_116 : decode cX7_reckon 116 = .ok (.getfield 16, 3) := by decide +kernel
theorem dX7_reckon_119 : decode cX7_reckon 119 = .ok (.iload 11, 2) := by decide +kernel
theorem dX7_reckon_121 : decode cX7_reckon 121 = .ok (.iaload, 1) := by decide +kernel
theorem dX7_reckon_122 : decode cX7_reckon 122 = .ok (.i2l, 1) := by decide +kernel
theorem dX7_reckon_123 : decode cX7_reckon 123 = .ok (.ldiv, 1) := by decide +kernel
theorem dX7_reckon_124 : decode cX7_reckon 124 = .ok (.lstore 14, 2) := by decide +kernel
theorem dX7_reckon_126 : decode cX7_reckon 126 = .ok (.lload 14, 2) := by decide +kernel
theorem dX7_reckon_128 : decode cX7_reckon 128 = .ok (.aload_n 0, 1) := by decide +kernel
theorem dX7_reckon_129 : decode cX7_reckon 129 = .ok (.getfield 16, 3) := by decide +kernel
theorem dX7_reckon_132 : decode cX7_reckon 132 = .ok (.iload 11, 2) := by decide +kernel
theorem dX7_reckon_134 : decode cX7_reckon 134 = .ok (.iaload, 1) := by decide +kernel
theorem dX7_reckon_135 : decode cX7_reckon 135 = .ok (.i2l, 1) := by decide +kernel
theorem dX7_reckon_136 : decode cX7_reckon 136 = .ok (.lmul, 1) := by decide +kernel
theorem dX7_reckon_137 : decode cX7_reckon 137 = .ok (.lload 12, 2) := by decide +kernel
theorem dX7_reckon_139 : decode cX7_reckon 139 = .ok (.lcmp, 1) := by decide +kernel
theorem dX7_reckon_140 : decode cX7_reckon 140 = .ok (.ifCond .ge 10, 3) := by decide +kernel
theorem dX7_reckon_143 : decode cX7_reckon 143 = .ok (.lload 14, 2) := by decide +kernel
theorem dX7_reckon_145 : decode cX7_reckon 145 = .ok (.lconst 1, 1) := by decide +kernel
theorem dX7_reckon_146 : decode cX7_reckon 146 = .ok (.ladd, 1) := by decide +kernel
theorem dX7_reckon_147 : decode cX7_reckon 147 = .ok (.goto 5, 3) := by decide +kernel
theorem dX7_reckon_150 : decode cX7_reckon 150 = .ok (.lload 14, 2) := by decide +kernel
theorem dX7_reckon_152 : decode cX7_reckon 152 = .ok (.lstore 14, 2) := by decide +kernel
theorem dX7_reckon_154 : decode cX7_reckon 154 = .ok (.lload 14, 2) := by decide +kernel
theorem dX7_reckon_156 : decode cX7_reckon 156 = .ok (.lload 9, 2) := by decide +kernel
theorem dX7_reckon_158 : decode cX7_reckon 158 = .ok (.lcmp, 1) := by decide +kernel
theorem dX7_reckon_159 : decode cX7_reckon 159 = .ok (.ifCond .le 8, 3) := by decide +kernel
theorem dX7_reckon_162 : decode cX7_reckon 162 = .ok (.lload 14, 2) := by decide +kernel
theorem dX7_reckon_164 : decode cX7_reckon 164 = .ok (.goto 5, 3) := by decide +kernel
theorem dX7_reckon_167 : decode cX7_reckon 167 = .ok (.lload 9, 2) := by decide +kernel
theorem dX7_reckon_169 : decode cX7_reckon 169 = .ok (.lstore 9, 2) := by decide +kernel
theorem dX7_reckon_171 : decode cX7_reckon 171 = .ok (.iconst 0, 1) := by decide +kernel
theorem dX7_reckon_172 : decode cX7_reckon 172 = .ok (.istore 12, 2) := by decide +kernel
theorem dX7_reckon_174 : decode cX7_reckon 174 = .ok (.iconst (-1), 1) := by decide +kernel
theorem dX7_reckon_175 : decode cX7_reckon 175 = .ok (.istore 13, 2) := by decide +kernel
theorem dX7_reckon_177 : decode cX7_reckon 177 = .ok (.iload 7, 2) := by decide +kernel
theorem dX7_reckon_179 : decode cX7_reckon 179 = .ok (.istore 14, 2) := by decide +kernel
theorem dX7_reckon_181 : decode cX7_reckon 181 = .ok (.iload 14, 2) := by decide +kernel
theorem dX7_reckon_183 : decode cX7_reckon 183 = .ok (.iload 8, 2) := by decide +kernel
theorem dX7_reckon_185 : decode cX7_reckon 185 = .ok (.if_icmp .ge 66, 3) := by decide +kernel
theorem dX7_reckon_188 : decode cX7_reckon 188 = .ok (.iload 13, 2) := by decide +kernel
theorem dX7_reckon_190 : decode cX7_reckon 190 = .ok (.iconst (-1), 1) := by decide +kernel
theorem dX7_reckon_191 : decode cX7_reckon 191 = .ok (.if_icmp .ne 60, 3) := by decide +kernel
theorem dX7_reckon_194 : decode cX7_reckon 194 = .ok (.aload_n 0, 1) := by decide +kernel
theorem dX7_reckon_195 : decode cX7_reckon 195 = .ok (.getfield 13, 3) := by decide +kernel
theorem dX7_reckon_198 : decode cX7_reckon 198 = .ok (.iload 14, 2) := by decide +kernel
theorem dX7_reckon_200 : decode cX7_reckon 200 = .ok (.iaload, 1) := by decide +kernel
theorem dX7_reckon_201 : decode cX7_reckon 201 = .ok (.bipush 83, 2) := by decide +kernel
theorem dX7_reckon_203 : decode cX7_reckon 203 = .ok (.if_icmp .ne 42, 3) := by decide +kernel
theorem dX7_reckon_206 : decode cX7_reckon 206 = .ok (.aload_n 0, 1) := by decide +kernel
theorem dX7_reckon_207 : decode cX7_reckon 207 = .ok (.getfield 16, 3) := by decide +kernel
theorem dX7_reckon_210 : decode cX7_reckon 210 = .ok (.iload 14, 2) := by decide +kernel
theorem dX7_reckon_212 : decode cX7_reckon 212 = .ok (.iaload, 1) := by decide +kernel
theorem dX7_reckon_213 : decode cX7_reckon 213 = .ok (.i2l, 1) := by decide +kernel
theorem dX7_reckon_214 : decode cX7_reckon 214 = .ok (.lload 9, 2) := by decide +kernel
theorem dX7_reckon_216 : decode cX7_reckon 216 = .ok (.lcmp, 1) := by decide +kernel
theorem dX7_reckon_217 : decode cX7_reckon 217 = .ok (.ifCond .lt 8, 3) := by decide +kernel
theorem dX7_reckon_220 : decode cX7_reckon 220 = .ok (.iload 14, 2) := by decide +kernel
theorem dX7_reckon_222 : decode cX7_reckon 222 = .ok (.goto 4, 3) := by decide +kernel
theorem dX7_reckon_225 : decode cX7_reckon 225 = .ok (.iconst (-1), 1) := by decide +kernel
theorem dX7_reckon_226 : decode cX7_reckon 226 = .ok (.istore 13, 2) := by decide +kernel
theorem dX7_reckon_228 : decode cX7_reckon 228 = .ok (.iload 13, 2) := by decide +kernel
theorem dX7_reckon_230 : decode cX7_reckon 230 = .ok (.iconst (-1), 1) := by decide +kernel
theorem dX7_reckon_231 : decode cX7_reckon 231 = .ok (.if_icmp .ne 10, 3) := by decide +kernel
theorem dX7_reckon_234 : decode cX7_reckon 234 = .ok (.iload 12, 2) := by decide +kernel
theorem dX7_reckon_236 : decode cX7_reckon 236 = .ok (.iconst 1, 1) := by decide +kernel
theorem dX7_reckon_237 : decode cX7_reckon 237 = .ok (.iadd, 1) := by decide +kernel
theorem dX7_reckon_238 : decode cX7_reckon 238 = .ok (.goto 5, 3) := by decide +kernel
theorem dX7_reckon_241 : decode cX7_reckon 241 = .ok (.iload 12, 2) := by decide +kernel
theorem dX7_reckon_243 : decode cX7_reckon 243 = .ok (.istore 12, 2) := by decide +kernel
theorem dX7_reckon_245 : decode cX7_reckon 245 = .ok (.iinc 14 1, 3) := by decide +kernel
theorem dX7_reckon_248 : decode cX7_reckon 248 = .ok (.goto (-67), 3) := by decide +kernel
theorem dX7_reckon_251 : decode cX7_reckon 251 = .ok (.iload 13, 2) := by decide +kernel
theorem dX7_reckon_253 : decode cX7_reckon 253 = .ok (.iconst (-1), 1) := by decide +kernel
theorem dX7_reckon_254 : decode cX7_reckon 254 = .ok (.if_icmp .ne 7, 3) := by decide +kernel
theorem dX7_reckon_257 : decode cX7_reckon 257 = .ok (.ldc2_w 190, 3) := by decide +kernel
theorem dX7_reckon_260 : decode cX7_reckon 260 = .ok (.lreturn, 1) := by decide +kernel
theorem dX7_reckon_261 : decode cX7_reckon 261 = .ok (.aload_n 0, 1) := by decide +kernel
theorem dX7_reckon_262 : decode cX7_reckon 262 = .ok (.getfield 19, 3) := by decide +kernel
theorem dX7_reckon_265 : decode cX7_reckon 265 = .ok (.iload 13, 2) := by decide +kernel
theorem dX7_reckon_267 : decode cX7_reckon 267 = .ok (.iaload, 1) := by decide +kernel
theorem dX7_reckon_268 : decode cX7_reckon 268 = .ok (.i2l, 1) := by decide +kernel
theorem dX7_reckon_269 : decode cX7_reckon 269 = .ok (.lstore 14, 2) := by decide +kernel
theorem dX7_reckon_271 : decode cX7_reckon 271 = .ok (.aload_n 0, 1) := by decide +kernel
theorem dX7_reckon_272 : decode cX7_reckon 272 = .ok (.iconst 0, 1) := by decide +kernel
theorem dX7_reckon_273 : decode cX7_reckon 273 = .ok (.lload 14, 2) := by decide +kernel
theorem dX7_reckon_275 : decode cX7_reckon 275 = .ok (.iload 12, 2) := by decide +kernel
theorem dX7_reckon_277 : decode cX7_reckon 277 = .ok (.invokevirtual 199, 3) := by decide +kernel
theorem dX7_reckon_280 : decode cX7_reckon 280 = .ok (.lload 14, 2) := by decide +kernel
theorem dX7_reckon_282 : decode cX7_reckon 282 = .ok (.aload_n 0, 1) := by decide +kernel
theorem dX7_reckon_283 : decode cX7_reckon 283 = .ok (.getfield 19, 3) := by decide +kernel
theorem dX7_reckon_286 : decode cX7_reckon 286 = .ok (.aload_n 0, 1) := by decide +kernel
theorem dX7_reckon_287 : decode cX7_reckon 287 = .ok (.iload 7, 2) := by decide +kernel
theorem dX7_reckon_289 : decode cX7_reckon 289 = .ok (.iload 8, 2) := by decide +kernel
theorem dX7_reckon_291 : decode cX7_reckon 291 = .ok (.bipush 90, 2) := by decide +kernel
theorem dX7_reckon_293 : decode cX7_reckon 293 = .ok (.iload_n 3, 1) := by decide +kernel
theorem dX7_reckon_294 : decode cX7_reckon 294 = .ok (.invokevirtual 175, 3) := by decide +kernel
theorem dX7_reckon_297 : decode cX7_reckon 297 = .ok (.iaload, 1) := by decide +kernel
theorem dX7_reckon_298 : decode cX7_reckon 298 = .ok (.i2l, 1) := by decide +kernel
theorem dX7_reckon_299 : decode cX7_reckon 299 = .ok (.lmul, 1) := by decide +kernel
theorem dX7_reckon_300 : decode cX7_reckon 300 = .ok (.ldc2_w 203, 3) := by decide +kernel
theorem dX7_reckon_303 : decode cX7_reckon 303 = .ok (.ldiv, 1) := by decide +kernel
theorem dX7_reckon_304 : decode cX7_reckon 304 = .ok (.lstore 16, 2) := by decide +kernel
theorem dX7_reckon_306 : decode cX7_reckon 306 = .ok (.aload_n 0, 1) := by decide +kernel
theorem dX7_reckon_307 : decode cX7_reckon 307 = .ok (.iconst 1, 1) := by decide +kernel
theorem dX7_reckon_308 : decode cX7_reckon 308 = .ok (.lload 16, 2) := by decide +kernel
theorem dX7_reckon_310 : decode cX7_reckon 310 = .ok (.iload_n 3, 1) := by decide +kernel
theorem dX7_reckon_311 : decode cX7_reckon 311 = .ok (.invokevirtual 199, 3) := by decide +kernel
theorem dX7_reckon_314 : decode cX7_reckon 314 = .ok (.lload 14, 2) := by decide +kernel
theorem dX7_reckon_316 : decode cX7_reckon 316 = .ok (.lload 16, 2) := by decide +kernel
theorem dX7_reckon_318 : decode cX7_reckon 318 = .ok (.ladd, 1) := by decide +kernel
theorem dX7_reckon_319 : decode cX7_reckon 319 = .ok (.lstore 14, 2) := by decide +kernel
theorem dX7_reckon_321 : decode cX7_reckon 321 = .ok (.iconst 0, 1) := by decide +kernel
theorem dX7_reckon_322 : decode cX7_reckon 322 = .ok (.istore 18, 2) := by decide +kernel
theorem dX7_reckon_324 : decode cX7_reckon 324 = .ok (.iload 18, 2) := by decide +kernel
theorem dX7_reckon_326 : decode cX7_reckon 326 = .ok (.bipush 10, 2) := by decide +kernel
theorem dX7_reckon_328 : decode cX7_reckon 328 = .ok (.if_icmp .ge 66, 3) := by decide +kernel
theorem dX7_reckon_331 : decode cX7_reckon 331 = .ok (.aload_n 0, 1) := by decide +kernel
theorem dX7_reckon_332 : decode cX7_reckon 332 = .ok (.getfield 43, 3) := by decide +kernel
theorem dX7_reckon_335 : decode cX7_reckon 335 = .ok (.bipush 10, 2) := by decide +kernel
theorem dX7_reckon_337 : decode cX7_reckon 337 = .ok (.iload_n 1, 1) := by decide +kernel
theorem dX7_reckon_338 : decode cX7_reckon 338 = .ok (.imul, 1) := by decide +kernel
theorem dX7_reckon_339 : decode cX7_reckon 339 = .ok (.iload 18, 2) := by decide +kernel
theorem dX7_reckon_341 : decode cX7_reckon 341 = .ok (.iadd, 1) := by decide +kernel
theorem dX7_reckon_342 : decode cX7_reckon 342 = .ok (.baload, 1) := by decide +kernel
theorem dX7_reckon_343 : decode cX7_reckon 343 = .ok (.ifCond .eq 45, 3) := by decide +kernel
theorem dX7_reckon_346 : decode cX7_reckon 346 = .ok (.aload_n 0, 1) := by decide +kernel
theorem dX7_reckon_347 : decode cX7_reckon 347 = .ok (.iload 7, 2) := by decide +kernel
theorem dX7_reckon_349 : decode cX7_reckon 349 = .ok (.iload 8, 2) := by decide +kernel
theorem dX7_reckon_351 : decode cX7_reckon 351 = .ok (.bipush 88, 2) := by decide +kernel
theorem dX7_reckon_353 : decode cX7_reckon 353 = .ok (.iload 18, 2) := by decide +kernel
theorem dX7_reckon_355 : decode cX7_reckon 355 = .ok (.invokevirtual 175, 3) := by decide +kernel
theorem dX7_reckon_358 : decode cX7_reckon 358 = .ok (.istore 19, 2) := by decide +kernel
theorem dX7_reckon_360 : decode cX7_reckon 360 = .ok (.aload_n 0, 1) := by decide +kernel
theorem dX7_reckon_361 : decode cX7_reckon 361 = .ok (.iconst 2, 1) := by decide +kernel
theorem dX7_reckon_362 : decode cX7_reckon 362 = .ok (.aload_n 0, 1) := by decide +kernel
theorem dX7_reckon_363 : decode cX7_reckon 363 = .ok (.getfield 19, 3) := by decide +kernel
theorem dX7_reckon_366 : decode cX7_reckon 366 = .ok (.iload 19, 2) := by decide +kernel
theorem dX7_reckon_368 : decode cX7_reckon 368 = .ok (.iaload, 1) := by decide +kernel
theorem dX7_reckon_369 : decode cX7_reckon 369 = .ok (.i2l, 1) := by decide +kernel
theorem dX7_reckon_370 : decode cX7_reckon 370 = .ok (.iload 18, 2) := by decide +kernel
theorem dX7_reckon_372 : decode cX7_reckon 372 = .ok (.invokevirtual 199, 3) := by decide +kernel
theorem dX7_reckon_375 : decode cX7_reckon 375 = .ok (.lload 14, 2) := by decide +kernel
theorem dX7_reckon_377 : decode cX7_reckon 377 = .ok (.aload_n 0, 1) := by decide +kernel
theorem dX7_reckon_378 : decode cX7_reckon 378 = .ok (.getfield 19, 3) := by decide +kernel
theorem dX7_reckon_381 : decode cX7_reckon 381 = .ok (.iload 19, 2) := by decide +kernel
theorem dX7_reckon_383 : decode cX7_reckon 383 = .ok (.iaload, 1) := by decide +kernel
theorem dX7_reckon_384 : decode cX7_reckon 384 = .ok (.i2l, 1) := by decide +kernel
theorem dX7_reckon_385 : decode cX7_reckon 385 = .ok (.ladd, 1) := by decide +kernel
theorem dX7_reckon_386 : decode cX7_reckon 386 = .ok (.lstore 14, 2) := by decide +kernel
theorem dX7_reckon_388 : decode cX7_reckon 388 = .ok (.iinc 18 1, 3) := by decide +kernel
theorem dX7_reckon_391 : decode cX7_reckon 391 = .ok (.goto (-67), 3) := by decide +kernel
theorem dX7_reckon_394 : decode cX7_reckon 394 = .ok (.aload_n 0, 1) := by decide +kernel
theorem dX7_reckon_395 : decode cX7_reckon 395 = .ok (.iload 7, 2) := by decide +kernel
theorem dX7_reckon_397 : decode cX7_reckon 397 = .ok (.iload 8, 2) := by decide +kernel
theorem dX7_reckon_399 : decode cX7_reckon 399 = .ok (.bipush 82, 2) := by decide +kernel
theorem dX7_reckon_401 : decode cX7_reckon 401 = .ok (.invokevirtual 179, 3) := by decide +kernel
theorem dX7_reckon_404 : decode cX7_reckon 404 = .ok (.istore 18, 2) := by decide +kernel
theorem dX7_reckon_406 : decode cX7_reckon 406 = .ok (.iload 18, 2) := by decide +kernel
theorem dX7_reckon_408 : decode cX7_reckon 408 = .ok (.iconst (-1), 1) := by decide +kernel
theorem dX7_reckon_409 : decode cX7_reckon 409 = .ok (.if_icmp .eq 53, 3) := by decide +kernel
theorem dX7_reckon_412 : decode cX7_reckon 412 = .ok (.lload 14, 2) := by decide +kernel
theorem dX7_reckon_414 : decode cX7_reckon 414 = .ok (.lstore 19, 2) := by decide +kernel
theorem dX7_reckon_416 : decode cX7_reckon 416 = .ok (.lload 19, 2) := by decide +kernel
theorem dX7_reckon_418 : decode cX7_reckon 418 = .ok (.aload_n 0, 1) := by decide +kernel
theorem dX7_reckon_419 : decode cX7_reckon 419 = .ok (.getfield 16, 3) := by decide +kernel
theorem dX7_reckon_422 : decode cX7_reckon 422 = .ok (.iload 18, 2) := by decide +kernel
theorem dX7_reckon_424 : decode cX7_reckon 424 = .ok (.iaload, 1) := by decide +kernel
theorem dX7_reckon_425 : decode cX7_reckon 425 = .ok (.i2l, 1) := by decide +kernel
theorem dX7_reckon_426 : decode cX7_reckon 426 = .ok (.lrem, 1) := by decide +kernel
theorem dX7_reckon_427 : decode cX7_reckon 427 = .ok (.lconst 0, 1) := by decide +kernel
theorem dX7_reckon_428 : decode cX7_reckon 428 = .ok (.lcmp, 1) := by decide +kernel
theorem dX7_reckon_429 : decode cX7_reckon 429 = .ok (.ifCond .eq 12, 3) := by decide +kernel
theorem dX7_reckon_432 : decode cX7_reckon 432 = .ok (.lload 19, 2) := by decide +kernel
theorem dX7_reckon_434 : decode cX7_reckon 434 = .ok (.lconst 1, 1) := by decide +kernel
theorem dX7_reckon_435 : decode cX7_reckon 435 = .ok (.ladd, 1) := by decide +kernel
theorem dX7_reckon_436 : decode cX7_reckon 436 = .ok (.lstore 19, 2) := by decide +kernel
theorem dX7_reckon_438 : decode cX7_reckon 438 = .ok (.goto (-22), 3) := by decide +kernel
theorem dX7_reckon_441 : decode cX7_reckon 441 = .ok (.aload_n 0, 1) := by decide +kernel
theorem dX7_reckon_442 : decode cX7_reckon 442 = .ok (.iconst 3, 1) := by decide +kernel
theorem dX7_reckon_443 : decode cX7_reckon 443 = .ok (.lload 19, 2) := by decide +kernel
theorem dX7_reckon_445 : decode cX7_reckon 445 = .ok (.lload 14, 2) := by decide +kernel
theorem dX7_reckon_447 : decode cX7_reckon 447 = .ok (.lsub, 1) := by decide +kernel
theorem dX7_reckon_448 : decode cX7_reckon 448 = .ok (.aload_n 0, 1) := by decide +kernel
theorem dX7_reckon_449 : decode cX7_reckon 449 = .ok (.getfield 16, 3) := by decide +kernel
theorem dX7_reckon_452 : decode cX7_reckon 452 = .ok (.iload 18, 2) := by decide +kernel
theorem dX7_reckon_454 : decode cX7_reckon 454 = .ok (.iaload, 1) := by decide +kernel
theorem dX7_reckon_455 : decode cX7_reckon 455 = .ok (.invokevirtual 199, 3) := by decide +kernel
theorem dX7_reckon_458 : decode cX7_reckon 458 = .ok (.lload 19, 2) := by decide +kernel
theorem dX7_reckon_460 : decode cX7_reckon 460 = .ok (.lstore 14, 2) := by decide +kernel
theorem dX7_reckon_462 : decode cX7_reckon 462 = .ok (.lload 14, 2) := by decide +kernel
theorem dX7_reckon_464 : decode cX7_reckon 464 = .ok (.lreturn, 1) := by decide +kernel
theorem dX7_refusal_0 : decode cX7_refusal 0 = .ok (.iload_n 1, 1) := by decide +kernel
theorem dX7_refusal_1 : decode cX7_refusal 1 = .ok (.ifCond .lt 11, 3) := by decide +kernel
theorem dX7_refusal_4 : decode cX7_refusal 4 = .ok (.iload_n 1, 1) := by decide +kernel
theorem dX7_refusal_5 : decode cX7_refusal 5 = .ok (.aload_n 0, 1) := by decide +kernel
theorem dX7_refusal_6 : decode cX7_refusal 6 = .ok (.getfield 168, 3) := by decide +kernel
theorem dX7_refusal_9 : decode cX7_refusal 9 = .ok (.if_icmp .lt 6, 3) := by decide +kernel
theorem dX7_refusal_12 : decode cX7_refusal 12 = .ok (.ldc 171, 2) := by decide +kernel
theorem dX7_refusal_14 : decode cX7_refusal 14 = .ok (.ireturn, 1) := by decide +kernel
theorem dX7_refusal_15 : decode cX7_refusal 15 = .ok (.iload_n 2, 1) := by decide +kernel
theorem dX7_refusal_16 : decode cX7_refusal 16 = .ok (.i2l, 1) := by decide +kernel
theorem dX7_refusal_17 : decode cX7_refusal 17 = .ok (.lconst 0, 1) := by decide +kernel
theorem dX7_refusal_18 : decode cX7_refusal 18 = .ok (.ldc2_w 159, 3) := by decide +kernel
theorem dX7_refusal_21 : decode cX7_refusal 21 = .ok (.invokestatic 161, 3) := by decide +kernel
theorem dX7_refusal_24 : decode cX7_refusal 24 = .ok (.ifCond .eq 14, 3) := by decide +kernel
theorem dX7_refusal_27 : decode cX7_refusal 27 = .ok (.lload_n 3, 1) := by decide +kernel
theorem dX7_refusal_28 : decode cX7_refusal 28 = .ok (.lconst 0, 1) := by decide +kernel
theorem dX7_refusal_29 : decode cX7_refusal 29 = .ok (.ldc2_w 205, 3) := by decide +kernel
theorem dX7_refusal_32 : decode cX7_refusal 32 = .ok (.invokestatic 161, 3) := by decide +kernel
theorem dX7_refusal_35 : decode cX7_refusal 35 = .ok (.ifCond .ne 6, 3) := by decide +kernel
theorem dX7_refusal_38 : decode cX7_refusal 38 = .ok (.ldc 167, 2) := by decide +kernel
theorem dX7_refusal_40 : decode cX7_refusal 40 = .ok (.ireturn, 1) := by decide +kernel
theorem dX7_refusal_41 : decode cX7_refusal 41 = .ok (.aload_n 0, 1) := by decide +kernel
theorem dX7_refusal_42 : decode cX7_refusal 42 = .ok (.getfield 155, 3) := by decide +kernel
theorem dX7_refusal_45 : decode cX7_refusal 45 = .ok (.ifCond .ne 8, 3) := by decide +kernel
theorem dX7_refusal_48 : decode cX7_refusal 48 = .ok (.ldc 207, 2) := by decide +kernel
theorem dX7_refusal_50 : decode cX7_refusal 50 = .ok (.goto 4, 3) := by decide +kernel
theorem dX7_refusal_53 : decode cX7_refusal 53 = .ok (.iconst 0, 1) := by decide +kernel
theorem dX7_refusal_54 : decode cX7_refusal 54 = .ok (.ireturn, 1) := by decide +kernel
theorem dX7_price_0 : decode cX7_price 0 = .ok (.aload_n 0, 1) := by decide +kernel
theorem dX7_price_1 : decode cX7_price 1 = .ok (.iconst 0, 1) := by decide +kernel
theorem dX7_price_2 : decode cX7_price 2 = .ok (.putfield 75, 3) := by decide +kernel
theorem dX7_price_5 : decode cX7_price 5 = .ok (.aload_n 0, 1) := by decide +kernel
theorem dX7_price_6 : decode cX7_price 6 = .ok (.iload_n 1, 1) := by decide +kernel
theorem dX7_price_7 : decode cX7_price 7 = .ok (.iload_n 2, 1) := by decide +kernel
theorem dX7_price_8 : decode cX7_price 8 = .ok (.lload_n 3, 1) := by decide +kernel
theorem dX7_price_9 : decode cX7_price 9 = .ok (.invokevirtual 208, 3) := by decide +kernel
theorem dX7_price_12 : decode cX7_price 12 = .ok (.istore 5, 2) := by decide +kernel
theorem dX7_price_14 : decode cX7_price 14 = .ok (.iload 5, 2) := by decide +kernel
theorem dX7_price_16 : decode cX7_price 16 = .ok (.ifCond .eq 9, 3) := by decide +kernel
theorem dX7_price_19 : decode cX7_price 19 = .ok (.iload 5, 2) := by decide +kernel
theorem dX7_price_21 : decode cX7_price 21 = .ok (.i2l, 1) := by decide +kernel
theorem dX7_price_22 : decode cX7_price 22 = .ok (.goto 16, 3) := by decide +kernel
theorem dX7_price_25 : decode cX7_price 25 = .ok (.aload_n 0, 1) := by decide +kernel
theorem dX7_price_26 : decode cX7_price 26 = .ok (.iload_n 1, 1) := by decide +kernel
theorem dX7_price_27 : decode cX7_price 27 = .ok (.aload_n 0, 1) := by decide +kernel
theorem dX7_price_28 : decode cX7_price 28 = .ok (.getfield 28, 3) := by decide +kernel
theorem dX7_price_31 : decode cX7_price 31 = .ok (.iload_n 1, 1) := by decide +kernel
theorem dX7_price_32 : decode cX7_price 32 = .ok (.iaload, 1) := by decide +kernel
theorem dX7_price_33 : decode cX7_price 33 = .ok (.iload_n 2, 1) := by decide +kernel
theorem dX7_price_34 : decode cX7_price 34 = .ok (.lload_n 3, 1) := by decide +kernel
theorem dX7_price_35 : decode cX7_price 35 = .ok (.invokevirtual 212, 3) := by decide +kernel
theorem dX7_price_38 : decode cX7_price 38 = .ok (.lreturn, 1) := by decide +kernel
theorem dX7_least_0 : decode cX7_least 0 = .ok (.aload_n 0, 1) := by decide +kernel
theorem dX7_least_1 : decode cX7_least 1 = .ok (.iconst 0, 1) := by decide +kernel
theorem dX7_least_2 : decode cX7_least 2 = .ok (.putfield 75, 3) := by decide +kernel
theorem dX7_least_5 : decode cX7_least 5 = .ok (.aload_n 0, 1) := by decide +kernel
theorem dX7_least_6 : decode cX7_least 6 = .ok (.iload_n 1, 1) := by decide +kernel
theorem dX7_least_7 : decode cX7_least 7 = .ok (.iload_n 2, 1) := by decide +kernel
theorem dX7_least_8 : decode cX7_least 8 = .ok (.lload_n 3, 1) := by decide +kernel
theorem dX7_least_9 : decode cX7_least 9 = .ok (.invokevirtual 208, 3) := by decide +kernel
theorem dX7_least_12 : decode cX7_least 12 = .ok (.istore 5, 2) := by decide +kernel
theorem dX7_least_14 : decode cX7_least 14 = .ok (.iload 5, 2) := by decide +kernel
theorem dX7_least_16 : decode cX7_least 16 = .ok (.ifCond .eq 6, 3) := by decide +kernel
theorem dX7_least_19 : decode cX7_least 19 = .ok (.iload 5, 2) := by decide +kernel
theorem dX7_least_21 : decode cX7_least 21 = .ok (.ireturn, 1) := by decide +kernel
theorem dX7_least_22 : decode cX7_least 22 = .ok (.aload_n 0, 1) := by decide +kernel
theorem dX7_least_23 : decode cX7_least 23 = .ok (.getfield 172, 3) := by decide +kernel
theorem dX7_least_26 : decode cX7_least 26 = .ok (.istore 6, 2) := by decide +kernel
theorem dX7_least_28 : decode cX7_least 28 = .ok (.iconst 0, 1) := by decide +kernel
theorem dX7_least_29 : decode cX7_least 29 = .ok (.istore 7, 2) := by decide +kernel
theorem dX7_least_31 : decode cX7_least 31 = .ok (.iload 7, 2) := by decide +kernel
theorem dX7_least_33 : decode cX7_least 33 = .ok (.bipush 16, 2) := by decide +kernel
theorem dX7_least_35 : decode cX7_least 35 = .ok (.if_icmp .ge 51, 3) := by decide +kernel
theorem dX7_least_38 : decode cX7_least 38 = .ok (.aload_n 0, 1) := by decide +kernel
theorem dX7_least_39 : decode cX7_least 39 = .ok (.getfield 66, 3) := by decide +kernel
theorem dX7_least_42 : decode cX7_least 42 = .ok (.iload 7, 2) := by decide +kernel
theorem dX7_least_44 : decode cX7_least 44 = .ok (.aload_n 0, 1) := by decide +kernel
theorem dX7_least_45 : decode cX7_least 45 = .ok (.getfield 47, 3) := by decide +kernel
theorem dX7_least_48 : decode cX7_least 48 = .ok (.iload 7, 2) := by decide +kernel
theorem dX7_least_50 : decode cX7_least 50 = .ok (.iaload, 1) := by decide +kernel
theorem dX7_least_51 : decode cX7_least 51 = .ok (.iastore, 1) := by decide +kernel
theorem dX7_least_52 : decode cX7_least 52 = .ok (.aload_n 0, 1) := by decide +kernel
theorem dX7_least_53 : decode cX7_least 53 = .ok (.getfield 69, 3) := by decide +kernel
theorem dX7_least_56 : decode cX7_least 56 = .ok (.iload 7, 2) := by decide +kernel
theorem dX7_least_58 : decode cX7_least 58 = .ok (.aload_n 0, 1) := by decide +kernel
theorem dX7_least_59 : decode cX7_least 59 = .ok (.getfield 50, 3) := by decide +kernel
theorem dX7_least_62 : decode cX7_least 62 = .ok (.iload 7, 2) := by decide +kernel
theorem dX7_least_64 : decode cX7_least 64 = .ok (.laload, 1) := by decide +kernel
theorem dX7_least_65 : decode cX7_least 65 = .ok (.lastore, 1) := by decide +kernel
theorem dX7_least_66 : decode cX7_least 66 = .ok (.aload_n 0, 1) := by decide +kernel
theorem dX7_least_67 : decode cX7_least 67 = .ok (.getfield 72, 3) := by decide +kernel
theorem dX7_least_70 : decode cX7_least 70 = .ok (.iload 7, 2) := by decide +kernel
theorem dX7_least_72 : decode cX7_least 72 = .ok (.aload_n 0, 1) := by decide +kernel
theorem dX7_least_73 : decode cX7_least 73 = .ok (.getfield 54, 3) := by decide +kernel
theorem dX7_least_76 : decode cX7_least 76 = .ok (.iload 7, 2) := by decide +kernel
theorem dX7_least_78 : decode cX7_least 78 = .ok (.iaload, 1) := by decide +kernel
theorem dX7_least_79 : decode cX7_least 79 = .ok (.iastore, 1) := by decide +kernel
theorem dX7_least_80 : decode cX7_least 80 = .ok (.iinc 7 1, 3) := by decide +kernel
theorem dX7_least_83 : decode cX7_least 83 = .ok (.goto (-52), 3) := by decide +kernel
theorem dX7_least_86 : decode cX7_least 86 = .ok (.iconst (-1), 1) := by decide +kernel
theorem dX7_least_87 : decode cX7_least 87 = .ok (.istore 7, 2) := by decide +kernel
theorem dX7_least_89 : decode cX7_least 89 = .ok (.lconst 0, 1) := by decide +kernel
theorem dX7_least_90 : decode cX7_least 90 = .ok (.lstore 8, 2) := by decide +kernel
theorem dX7_least_92 : decode cX7_least 92 = .ok (.iconst 0, 1) := by decide +kernel
theorem dX7_least_93 : decode cX7_least 93 = .ok (.istore 10, 2) := by decide +kernel
theorem dX7_least_95 : decode cX7_least 95 = .ok (.iload 10, 2) := by decide +kernel
theorem dX7_least_97 : decode cX7_least 97 = .ok (.bipush 10, 2) := by decide +kernel
theorem dX7_least_99 : decode cX7_least 99 = .ok (.if_icmp .ge 49, 3) := by decide +kernel
theorem dX7_least_102 : decode cX7_least 102 = .ok (.aload_n 0, 1) := by decide +kernel
theorem dX7_least_103 : decode cX7_least 103 = .ok (.iload_n 1, 1) := by decide +kernel
theorem dX7_least_104 : decode cX7_least 104 = .ok (.iload 10, 2) := by decide +kernel
theorem dX7_least_106 : decode cX7_least 106 = .ok (.iload_n 2, 1) := by decide +kernel
theorem dX7_least_107 : decode cX7_least 107 = .ok (.lload_n 3, 1) := by decide +kernel
theorem dX7_least_108 : decode cX7_least 108 = .ok (.invokevirtual 212, 3) := by decide +kernel
theorem dX7_least_111 : decode cX7_least 111 = .ok (.lstore 11, 2) := by decide +kernel
theorem dX7_least_113 : decode cX7_least 113 = .ok (.lload 11, 2) := by decide +kernel
theorem dX7_least_115 : decode cX7_least 115 = .ok (.lconst 0, 1) := by decide +kernel
theorem dX7_least_116 : decode cX7_least 116 = .ok (.lcmp, 1) := by decide +kernel
theorem dX7_least_117 : decode cX7_least 117 = .ok (.ifCond .lt 25, 3) := by decide +kernel
theorem dX7_least_120 : decode cX7_least 120 = .ok (.iload 7, 2) := by decide +kernel
theorem dX7_least_122 : decode cX7_least 122 = .ok (.iconst (-1), 1) := by decide +kernel
theorem dX7_least_123 : decode cX7_least 123 = .ok (.if_icmp .eq 11, 3) := by decide +kernel
theorem dX7_least_126 : decode cX7_least 126 = .ok (.lload 11, 2) := by decide +kernel
theorem dX7_least_128 : decode cX7_least 128 = .ok (.lload 8, 2) := by decide +kernel
theorem dX7_least_130 : decode cX7_least 130 = .ok (.lcmp, 1) := by decide +kernel
theorem dX7_least_131 : decode cX7_least 131 = .ok (.ifCond .ge 11, 3) := by decide +kernel
theorem dX7_least_134 : decode cX7_least 134 = .ok (.iload 10, 2) := by decide +kernel
theorem dX7_least_136 : decode cX7_least 136 = .ok (.istore 7, 2) := by decide +kernel
theorem dX7_least_138 : decode cX7_least 138 = .ok (.lload 11, 2) := by decide +kernel
theorem dX7_least_140 : decode cX7_least 140 = .ok (.lstore 8, 2) := by decide +kernel
theorem dX7_least_142 : decode cX7_least 142 = .ok (.iinc 10 1, 3) := by decide +kernel
theorem dX7_least_145 : decode cX7_least 145 = .ok (.goto (-50), 3) := by decide +kernel
theorem dX7_least_148 : decode cX7_least 148 = .ok (.aload_n 0, 1) := by decide +kernel
theorem dX7_least_149 : decode cX7_least 149 = .ok (.iload 6, 2) := by decide +kernel
theorem dX7_least_151 : decode cX7_least 151 = .ok (.putfield 172, 3) := by decide +kernel
theorem dX7_least_154 : decode cX7_least 154 = .ok (.iconst 0, 1) := by decide +kernel
theorem dX7_least_155 : decode cX7_least 155 = .ok (.istore 10, 2) := by decide +kernel
theorem dX7_least_157 : decode cX7_least 157 = .ok (.iload 10, 2) := by decide +kernel
theorem dX7_least_159 : decode cX7_least 159 = .ok (.bipush 16, 2) := by decide +kernel
theorem dX7_least_161 : decode cX7_least 161 = .ok (.if_icmp .ge 51, 3) := by decide +kernel
theorem dX7_least_164 : decode cX7_least 164 = .ok (.aload_n 0, 1) := by decide +kernel
theorem dX7_least_165 : decode cX7_least 165 = .ok (.getfield 47, 3) := by decide +kernel
theorem dX7_least_168 : decode cX7_least 168 = .ok (.iload 10, 2) := by decide +kernel
theorem dX7_least_170 : decode cX7_least 170 = .ok (.aload_n 0, 1) := by decide +kernel
theorem dX7_least_171 : decode cX7_least 171 = .ok (.getfield 66, 3) := by decide +kernel
theorem dX7_least_174 : decode cX7_least 174 = .ok (.iload 10, 2) := by decide +kernel
theorem dX7_least_176 : decode cX7_least 176 = .ok (.iaload, 1) := by decide +kernel
theorem dX7_least_177 : decode cX7_least 177 = .ok (.iastore, 1) := by decide +kernel
theorem dX7_least_178 : decode cX7_least 178 = .ok (.aload_n 0, 1) := by decide +kernel
theorem dX7_least_179 : decode cX7_least 179 = .ok (.getfield 50, 3) := by decide +kernel
theorem dX7_least_182 : decode cX7_least 182 = .ok (.iload 10, 2) := by decide +kernel
theorem dX7_least_184 : decode cX7_least 184 = .ok (.aload_n 0, 1) := by decide +kernel
theorem dX7_least_185 : decode cX7_least 185 = .ok (.getfield 69, 3) := by decide +kernel
theorem dX7_least_188 : decode cX7_least 188 = .ok (.iload 10, 2) := by decide +kernel
theorem dX7_least_190 : decode cX7_least 190 = .ok (.laload, 1) := by decide +kernel
theorem dX7_least_191 : decode cX7_least 191 = .ok (.lastore, 1) := by decide +kernel
theorem dX7_least_192 : decode cX7_least 192 = .ok (.aload_n 0, 1) := by decide +kernel
theorem dX7_least_193 : decode cX7_least 193 = .ok (.getfield 54, 3) := by decide +kernel
theorem dX7_least_196 : decode cX7_least 196 = .ok (.iload 10, 2) := by decide +kernel
theorem dX7_least_198 : decode cX7_least 198 = .ok (.aload_n 0, 1) := by decide +kernel
theorem dX7_least_199 : decode cX7_least 199 = .ok (.getfield 72, 3) := by decide +kernel
theorem dX7_least_202 : decode cX7_least 202 = .ok (.iload 10, 2) := by decide +kernel
theorem dX7_least_204 : decode cX7_least 204 = .ok (.iaload, 1) := by decide +kernel
theorem dX7_least_205 : decode cX7_least 205 = .ok (.iastore, 1) := by decide +kernel
theorem dX7_least_206 : decode cX7_least 206 = .ok (.iinc 10 1, 3) := by decide +kernel
theorem dX7_least_209 : decode cX7_least 209 = .ok (.goto (-52), 3) := by decide +kernel
theorem dX7_least_212 : decode cX7_least 212 = .ok (.iload 7, 2) := by decide +kernel
theorem dX7_least_214 : decode cX7_least 214 = .ok (.ireturn, 1) := by decide +kernel
theorem dX7_explain_0 : decode cX7_explain 0 = .ok (.aload_n 0, 1) := by decide +kernel
theorem dX7_explain_1 : decode cX7_explain 1 = .ok (.iconst 0, 1) := by decide +kernel
theorem dX7_explain_2 : decode cX7_explain 2 = .ok (.putfield 75, 3) := by decide +kernel
theorem dX7_explain_5 : decode cX7_explain 5 = .ok (.iload_n 1, 1) := by decide +kernel
theorem dX7_explain_6 : decode cX7_explain 6 = .ok (.ifCond .lt 20, 3) := by decide +kernel
theorem dX7_explain_9 : decode cX7_explain 9 = .ok (.iload_n 1, 1) := by decide +kernel
theorem dX7_explain_10 : decode cX7_explain 10 = .ok (.aload_n 0, 1) := by decide +kernel
theorem dX7_explain_11 : decode cX7_explain 11 = .ok (.getfield 172, 3) := by decide +kernel
theorem dX7_explain_14 : decode cX7_explain 14 = .ok (.if_icmp .ge 12, 3) := by decide +kernel
theorem dX7_explain_17 : decode cX7_explain 17 = .ok (.iload_n 2, 1) := by decide +kernel
theorem dX7_explain_18 : decode cX7_explain 18 = .ok (.ifCond .lt 8, 3) := by decide +kernel
theorem dX7_explain_21 : decode cX7_explain 21 = .ok (.iload_n 2, 1) := by decide +kernel
theorem dX7_explain_22 : decode cX7_explain 22 = .ok (.iconst 2, 1) := by decide +kernel
theorem dX7_explain_23 : decode cX7_explain 23 = .ok (.if_icmp .le 5, 3) := by decide +kernel
theorem dX7_explain_26 : decode cX7_explain 26 = .ok (.iconst (-1), 1) := by decide +kernel
theorem dX7_explain_27 : decode cX7_explain 27 = .ok (.ireturn, 1) := by decide +kernel
theorem dX7_explain_28 : decode cX7_explain 28 = .ok (.iload_n 2, 1) := by decide +kernel
theorem dX7_explain_29 : decode cX7_explain 29 = .ok (.ifCond .ne 12, 3) := by decide +kernel
theorem dX7_explain_32 : decode cX7_explain 32 = .ok (.aload_n 0, 1) := by decide +kernel
theorem dX7_explain_33 : decode cX7_explain 33 = .ok (.getfield 47, 3) := by decide +kernel
theorem dX7_explain_36 : decode cX7_explain 36 = .ok (.iload_n 1, 1) := by decide +kernel
theorem dX7_explain_37 : decode cX7_explain 37 = .ok (.iaload, 1) := by decide +kernel
theorem dX7_explain_38 : decode cX7_explain 38 = .ok (.goto 24, 3) := by decide +kernel
theorem dX7_explain_41 : decode cX7_explain 41 = .ok (.iload_n 2, 1) := by decide +kernel
theorem dX7_explain_42 : decode cX7_explain 42 = .ok (.iconst 1, 1) := by decide +kernel
theorem dX7_explain_43 : decode cX7_explain 43 = .ok (.if_icmp .ne 13, 3) := by decide +kernel
theorem dX7_explain_46 : decode cX7_explain 46 = .ok (.aload_n 0, 1) := by decide +kernel
theorem dX7_explain_47 : decode cX7_explain 47 = .ok (.getfield 50, 3) := by decide +kernel
theorem dX7_explain_50 : decode cX7_explain 50 = .ok (.iload_n 1, 1) := by decide +kernel
theorem dX7_explain_51 : decode cX7_explain 51 = .ok (.laload, 1) := by decide +kernel
theorem dX7_explain_52 : decode cX7_explain 52 = .ok (.l2i, 1) := by decide +kernel
theorem dX7_explain_53 : decode cX7_explain 53 = .ok (.goto 9, 3) := by decide +kernel
theorem dX7_explain_56 : decode cX7_explain 56 = .ok (.aload_n 0, 1) := by decide +kernel
theorem dX7_explain_57 : decode cX7_explain 57 = .ok (.getfield 54, 3) := by decide +kernel
theorem dX7_explain_60 : decode cX7_explain 60 = .ok (.iload_n 1, 1) := by decide +kernel
theorem dX7_explain_61 : decode cX7_explain 61 = .ok (.iaload, 1) := by decide +kernel
theorem dX7_explain_62 : decode cX7_explain 62 = .ok (.ireturn, 1) := by decide +kernel
theorem dX7_dimensional_0 : decode cX7_dimensional 0 = .ok (.aload_n 0, 1) := by decide +kernel
theorem dX7_dimensional_1 : decode cX7_dimensional 1 = .ok (.iconst 0, 1) := by decide +kernel
theorem dX7_dimensional_2 : decode cX7_dimensional 2 = .ok (.putfield 75, 3) := by decide +kernel
theorem dX7_dimensional_5 : decode cX7_dimensional 5 = .ok (.lload_n 1, 1) := by decide +kernel
theorem dX7_dimensional_6 : decode cX7_dimensional 6 = .ok (.lconst 0, 1) := by decide +kernel
theorem dX7_dimensional_7 : decode cX7_dimensional 7 = .ok (.ldc2_w 216, 3) := by decide +kernel
theorem dX7_dimensional_10 : decode cX7_dimensional 10 = .ok (.invokestatic 161, 3) := by decide +kernel
theorem dX7_dimensional_13 : decode cX7_dimensional 13 = .ok (.ifCond .eq 14, 3) := by decide +kernel
theorem dX7_dimensional_16 : decode cX7_dimensional 16 = .ok (.lload_n 3, 1) := by decide +kernel
theorem dX7_dimensional_17 : decode cX7_dimensional 17 = .ok (.lconst 0, 1) := by decide +kernel
theorem dX7_dimensional_18 : decode cX7_dimensional 18 = .ok (.ldc2_w 216, 3) := by decide +kernel
theorem dX7_dimensional_21 : decode cX7_dimensional 21 = .ok (.invokestatic 161, 3) := by decide +kernel
theorem dX7_dimensional_24 : decode cX7_dimensional 24 = .ok (.ifCond .ne 7, 3) := by decide +kernel
theorem dX7_dimensional_27 : decode cX7_dimensional 27 = .ok (.ldc2_w 218, 3) := by decide +kernel
theorem dX7_dimensional_30 : decode cX7_dimensional 30 = .ok (.lreturn, 1) := by decide +kernel
theorem dX7_dimensional_31 : decode cX7_dimensional 31 = .ok (.aload_n 0, 1) := by decide +kernel
theorem dX7_dimensional_32 : decode cX7_dimensional 32 = .ok (.lload_n 3, 1) := by decide +kernel
theorem dX7_dimensional_33 : decode cX7_dimensional 33 = .ok (.lconst 0, 1) := by decide +kernel
theorem dX7_dimensional_34 : decode cX7_dimensional 34 = .ok (.lcmp, 1) := by decide +kernel
theorem dX7_dimensional_35 : decode cX7_dimensional 35 = .ok (.ifCond .ne 7, 3) := by decide +kernel
theorem dX7_dimensional_38 : decode cX7_dimensional 38 = .ok (.iconst 1, 1) := by decide +kernel
theorem dX7_dimensional_39 : decode cX7_dimensional 39 = .ok (.goto 4, 3) := by decide +kernel
theorem dX7_dimensional_42 : decode cX7_dimensional 42 = .ok (.iconst 0, 1) := by decide +kernel
theorem dX7_dimensional_43 : decode cX7_dimensional 43 = .ok (.putfield 75, 3) := by decide +kernel
theorem dX7_dimensional_46 : decode cX7_dimensional 46 = .ok (.aload_n 0, 1) := by decide +kernel
theorem dX7_dimensional_47 : decode cX7_dimensional 47 = .ok (.getfield 75, 3) := by decide +kernel
theorem dX7_dimensional_50 : decode cX7_dimensional 50 = .ok (.ifCond .le 5, 3) := by decide +kernel
theorem dX7_dimensional_53 : decode cX7_dimensional 53 = .ok (.lconst 0, 1) := by decide +kernel
theorem dX7_dimensional_54 : decode cX7_dimensional 54 = .ok (.lreturn, 1) := by decide +kernel
theorem dX7_dimensional_55 : decode cX7_dimensional 55 = .ok (.lload_n 1, 1) := by decide +kernel
theorem dX7_dimensional_56 : decode cX7_dimensional 56 = .ok (.lload_n 3, 1) := by decide +kernel
theorem dX7_dimensional_57 : decode cX7_dimensional 57 = .ok (.ldiv, 1) := by decide +kernel
theorem dX7_dimensional_58 : decode cX7_dimensional 58 = .ok (.lstore 5, 2) := by decide +kernel
theorem dX7_dimensional_60 : decode cX7_dimensional 60 = .ok (.lload 5, 2) := by decide +kernel
theorem dX7_dimensional_62 : decode cX7_dimensional 62 = .ok (.lload_n 3, 1) := by decide +kernel
theorem dX7_dimensional_63 : decode cX7_dimensional 63 = .ok (.lmul, 1) := by decide +kernel
theorem dX7_dimensional_64 : decode cX7_dimensional 64 = .ok (.lload_n 1, 1) := by decide +kernel
theorem dX7_dimensional_65 : decode cX7_dimensional 65 = .ok (.lcmp, 1) := by decide +kernel
theorem dX7_dimensional_66 : decode cX7_dimensional 66 = .ok (.ifCond .ge 10, 3) := by decide +kernel
theorem dX7_dimensional_69 : decode cX7_dimensional 69 = .ok (.lload 5, 2) := by decide +kernel
theorem dX7_dimensional_71 : decode cX7_dimensional 71 = .ok (.lconst 1, 1) := by decide +kernel
theorem dX7_dimensional_72 : decode cX7_dimensional 72 = .ok (.ladd, 1) := by decide +kernel
theorem dX7_dimensional_73 : decode cX7_dimensional 73 = .ok (.goto 5, 3) := by decide +kernel
theorem dX7_dimensional_76 : decode cX7_dimensional 76 = .ok (.lload 5, 2) := by decide +kernel
theorem dX7_dimensional_78 : decode cX7_dimensional 78 = .ok (.lreturn, 1) := by decide +kernel
theorem dX7_put_0 : decode cX7_put 0 = .ok (.aload_n 0, 1) := by decide +kernel
theorem dX7_put_1 : decode cX7_put 1 = .ok (.getfield 60, 3) := by decide +kernel
theorem dX7_put_4 : decode cX7_put 4 = .ok (.aload_n 0, 1) := by decide +kernel
theorem dX7_put_5 : decode cX7_put 5 = .ok (.getfield 220, 3) := by decide +kernel
theorem dX7_put_8 : decode cX7_put 8 = .ok (.iload_n 1, 1) := by decide +kernel
theorem dX7_put_9 : decode cX7_put 9 = .ok (.iastore, 1) := by decide +kernel
theorem dX7_put_10 : decode cX7_put 10 = .ok (.aload_n 0, 1) := by decide +kernel
theorem dX7_put_11 : decode cX7_put 11 = .ok (.dup, 1) := by decide +kernel
theorem dX7_put_12 : decode cX7_put 12 = .ok (.getfield 220, 3) := by decide +kernel
theorem dX7_put_15 : decode cX7_put 15 = .ok (.iconst 1, 1) := by decide +kernel
theorem dX7_put_16 : decode cX7_put 16 = .ok (.iadd, 1) := by decide +kernel
theorem dX7_put_17 : decode cX7_put 17 = .ok (.putfield 220, 3) := by decide +kernel
theorem dX7_put_20 : decode cX7_put 20 = .ok (.return_, 1) := by decide +kernel
theorem dX7_putNumber_0 : decode cX7_putNumber 0 = .ok (.iconst 1, 1) := by decide +kernel
theorem dX7_putNumber_1 : decode cX7_putNumber 1 = .ok (.istore_n 2, 1) := by decide +kernel
theorem dX7_putNumber_2 : decode cX7_putNumber 2 = .ok (.iload_n 1, 1) := by decide +kernel
theorem dX7_putNumber_3 : decode cX7_putNumber 3 = .ok (.iload_n 2, 1) := by decide +kernel
theorem dX7_putNumber_4 : decode cX7_putNumber 4 = .ok (.idiv, 1) := by decide +kernel
theorem dX7_putNumber_5 : decode cX7_putNumber 5 = .ok (.bipush 9, 2) := by decide +kernel
theorem dX7_putNumber_7 : decode cX7_putNumber 7 = .ok (.if_icmp .le 11, 3) := by decide +kernel
theorem dX7_putNumber_10 : decode cX7_putNumber 10 = .ok (.bipush 10, 2) := by decide +kernel
theorem dX7_putNumber_12 : decode cX7_putNumber 12 = .ok (.iload_n 2, 1) := by decide +kernel
theorem dX7_putNumber_13 : decode cX7_putNumber 13 = .ok (.imul, 1) := by decide +kernel
theorem dX7_putNumber_14 : decode cX7_putNumber 14 = .ok (.istore_n 2, 1) := by decide +kernel
theorem dX7_putNumber_15 : decode cX7_putNumber 15 = .ok (.goto (-13), 3) := by decide +kernel
theorem dX7_putNumber_18 : decode cX7_putNumber 18 = .ok (.iload_n 2, 1) := by decide +kernel
theorem dX7_putNumber_19 : decode cX7_putNumber 19 = .ok (.ifCond .le 24, 3) := by decide +kernel
theorem dX7_putNumber_22 : decode cX7_putNumber 22 = .ok (.aload_n 0, 1) := by decide +kernel
theorem dX7_putNumber_23 : decode cX7_putNumber 23 = .ok (.bipush 48, 2) := by decide +kernel
theorem dX7_putNumber_25 : decode cX7_putNumber 25 = .ok (.iload_n 1, 1) := by decide +kernel
theorem dX7_putNumber_26 : decode cX7_putNumber 26 = .ok (.iload_n 2, 1) := by decide +kernel
theorem dX7_putNumber_27 : decode cX7_putNumber 27 = .ok (.idiv, 1) := by decide +kernel
theorem dX7_putNumber_28 : decode cX7_putNumber 28 = .ok (.bipush 10, 2) := by decide +kernel
theorem dX7_putNumber_30 : decode cX7_putNumber 30 = .ok (.irem, 1) := by decide +kernel
theorem dX7_putNumber_31 : decode cX7_putNumber 31 = .ok (.iadd, 1) := by decide +kernel
theorem dX7_putNumber_32 : decode cX7_putNumber 32 = .ok (.invokevirtual 223, 3) := by decide +kernel
theorem dX7_putNumber_35 : decode cX7_putNumber 35 = .ok (.iload_n 2, 1) := by decide +kernel
theorem dX7_putNumber_36 : decode cX7_putNumber 36 = .ok (.bipush 10, 2) := by decide +kernel
theorem dX7_putNumber_38 : decode cX7_putNumber 38 = .ok (.idiv, 1) := by decide +kernel
theorem dX7_putNumber_39 : decode cX7_putNumber 39 = .ok (.istore_n 2, 1) := by decide +kernel
theorem dX7_putNumber_40 : decode cX7_putNumber 40 = .ok (.goto (-22), 3) := by decide +kernel
theorem dX7_putNumber_43 : decode cX7_putNumber 43 = .ok (.return_, 1) := by decide +kernel
theorem dX7_putRow_0 : decode cX7_putRow 0 = .ok (.aload_n 0, 1) := by decide +kernel
theorem dX7_putRow_1 : decode cX7_putRow 1 = .ok (.bipush 59, 2) := by decide +kernel
theorem dX7_putRow_3 : decode cX7_putRow 3 = .ok (.invokevirtual 223, 3) := by decide +kernel
theorem dX7_putRow_6 : decode cX7_putRow 6 = .ok (.aload_n 0, 1) := by decide +kernel
theorem dX7_putRow_7 : decode cX7_putRow 7 = .ok (.iload_n 1, 1) := by decide +kernel
theorem dX7_putRow_8 : decode cX7_putRow 8 = .ok (.invokevirtual 223, 3) := by decide +kernel
theorem dX7_putRow_11 : decode cX7_putRow 11 = .ok (.aload_n 0, 1) := by decide +kernel
theorem dX7_putRow_12 : decode cX7_putRow 12 = .ok (.iload_n 3, 1) := by decide +kernel
theorem dX7_putRow_13 : decode cX7_putRow 13 = .ok (.invokevirtual 226, 3) := by decide +kernel
theorem dX7_putRow_16 : decode cX7_putRow 16 = .ok (.iload_n 2, 1) := by decide +kernel
theorem dX7_putRow_17 : decode cX7_putRow 17 = .ok (.iconst 1, 1) := by decide +kernel
theorem dX7_putRow_18 : decode cX7_putRow 18 = .ok (.if_icmp .le 15, 3) := by decide +kernel
theorem dX7_putRow_21 : decode cX7_putRow 21 = .ok (.aload_n 0, 1) := by decide +kernel
theorem dX7_putRow_22 : decode cX7_putRow 22 = .ok (.bipush 32, 2) := by decide +kernel
theorem dX7_putRow_24 : decode cX7_putRow 24 = .ok (.invokevirtual 223, 3) := by decide +kernel
theorem dX7_putRow_27 : decode cX7_putRow 27 = .ok (.aload_n 0, 1) := by decide +kernel
theorem dX7_putRow_28 : decode cX7_putRow 28 = .ok (.iload 4, 2) := by decide +kernel
theorem dX7_putRow_30 : decode cX7_putRow 30 = .ok (.invokevirtual 226, 3) := by decide +kernel
theorem dX7_putRow_33 : decode cX7_putRow 33 = .ok (.iload_n 2, 1) := by decide +kernel
theorem dX7_putRow_34 : decode cX7_putRow 34 = .ok (.iconst 2, 1) := by decide +kernel
theorem dX7_putRow_35 : decode cX7_putRow 35 = .ok (.if_icmp .le 15, 3) := by decide +kernel
theorem dX7_putRow_38 : decode cX7_putRow 38 = .ok (.aload_n 0, 1) := by decide +kernel
theorem dX7_putRow_39 : decode cX7_putRow 39 = .ok (.bipush 32, 2) := by decide +kernel
theorem dX7_putRow_41 : decode cX7_putRow 41 = .ok (.invokevirtual 223, 3) := by decide +kernel
theorem dX7_putRow_44 : decode cX7_putRow 44 = .ok (.aload_n 0, 1) := by decide +kernel
theorem dX7_putRow_45 : decode cX7_putRow 45 = .ok (.iload 5, 2) := by decide +kernel
theorem dX7_putRow_47 : decode cX7_putRow 47 = .ok (.invokevirtual 226, 3) := by decide +kernel
theorem dX7_putRow_50 : decode cX7_putRow 50 = .ok (.return_, 1) := by decide +kernel
theorem dX7_putEach_0 : decode cX7_putEach 0 = .ok (.iconst 0, 1) := by decide +kernel
theorem dX7_putEach_1 : decode cX7_putEach 1 = .ok (.istore 4, 2) := by decide +kernel
theorem dX7_putEach_3 : decode cX7_putEach 3 = .ok (.iload 4, 2) := by decide +kernel
theorem dX7_putEach_5 : decode cX7_putEach 5 = .ok (.bipush 10, 2) := by decide +kernel
theorem dX7_putEach_7 : decode cX7_putEach 7 = .ok (.if_icmp .ge 42, 3) := by decide +kernel
theorem dX7_putEach_10 : decode cX7_putEach 10 = .ok (.aload_n 0, 1) := by decide +kernel
theorem dX7_putEach_11 : decode cX7_putEach 11 = .ok (.iload_n 1, 1) := by decide +kernel
theorem dX7_putEach_12 : decode cX7_putEach 12 = .ok (.iload_n 2, 1) := by decide +kernel
theorem dX7_putEach_13 : decode cX7_putEach 13 = .ok (.iload_n 3, 1) := by decide +kernel
theorem dX7_putEach_14 : decode cX7_putEach 14 = .ok (.iload 4, 2) := by decide +kernel
theorem dX7_putEach_16 : decode cX7_putEach 16 = .ok (.invokevirtual 175, 3) := by decide +kernel
theorem dX7_putEach_19 : decode cX7_putEach 19 = .ok (.istore 5, 2) := by decide +kernel
theorem dX7_putEach_21 : decode cX7_putEach 21 = .ok (.iload 5, 2) := by decide +kernel
theorem dX7_putEach_23 : decode cX7_putEach 23 = .ok (.iconst (-1), 1) := by decide +kernel
theorem dX7_putEach_24 : decode cX7_putEach 24 = .ok (.if_icmp .eq 19, 3) := by decide +kernel
theorem dX7_putEach_27 : decode cX7_putEach 27 = .ok (.aload_n 0, 1) := by decide +kernel
theorem dX7_putEach_28 : decode cX7_putEach 28 = .ok (.iload_n 3, 1) := by decide +kernel
theorem dX7_putEach_29 : decode cX7_putEach 29 = .ok (.iconst 2, 1) := by decide +kernel
theorem dX7_putEach_30 : decode cX7_putEach 30 = .ok (.iload 4, 2) := by decide +kernel
theorem dX7_putEach_32 : decode cX7_putEach 32 = .ok (.aload_n 0, 1) := by decide +kernel
theorem dX7_putEach_33 : decode cX7_putEach 33 = .ok (.getfield 19, 3) := by decide +kernel
theorem dX7_putEach_36 : decode cX7_putEach 36 = .ok (.iload 5, 2) := by decide +kernel
theorem dX7_putEach_38 : decode cX7_putEach 38 = .ok (.iaload, 1) := by decide +kernel
theorem dX7_putEach_39 : decode cX7_putEach 39 = .ok (.iconst 0, 1) := by decide +kernel
theorem dX7_putEach_40 : decode cX7_putEach 40 = .ok (.invokevirtual 229, 3) := by decide +kernel
theorem dX7_putEach_43 : decode cX7_putEach 43 = .ok (.iinc 4 1, 3) := by decide +kernel
theorem dX7_putEach_46 : decode cX7_putEach 46 = .ok (.goto (-43), 3) := by decide +kernel
theorem dX7_putEach_49 : decode cX7_putEach 49 = .ok (.return_, 1) := by decide +kernel
theorem dX7_putOnly_0 : decode cX7_putOnly 0 = .ok (.aload_n 0, 1) := by decide +kernel
theorem dX7_putOnly_1 : decode cX7_putOnly 1 = .ok (.iload_n 1, 1) := by decide +kernel
theorem dX7_putOnly_2 : decode cX7_putOnly 2 = .ok (.iload_n 2, 1) := by decide +kernel
theorem dX7_putOnly_3 : decode cX7_putOnly 3 = .ok (.iload_n 3, 1) := by decide +kernel
theorem dX7_putOnly_4 : decode cX7_putOnly 4 = .ok (.invokevirtual 179, 3) := by decide +kernel
theorem dX7_putOnly_7 : decode cX7_putOnly 7 = .ok (.istore 5, 2) := by decide +kernel
theorem dX7_putOnly_9 : decode cX7_putOnly 9 = .ok (.iload 5, 2) := by decide +kernel
theorem dX7_putOnly_11 : decode cX7_putOnly 11 = .ok (.iconst (-1), 1) := by decide +kernel
theorem dX7_putOnly_12 : decode cX7_putOnly 12 = .ok (.if_icmp .eq 31, 3) := by decide +kernel
theorem dX7_putOnly_15 : decode cX7_putOnly 15 = .ok (.aload_n 0, 1) := by decide +kernel
theorem dX7_putOnly_16 : decode cX7_putOnly 16 = .ok (.iload_n 3, 1) := by decide +kernel
theorem dX7_putOnly_17 : decode cX7_putOnly 17 = .ok (.iload 4, 2) := by decide +kernel
theorem dX7_putOnly_19 : decode cX7_putOnly 19 = .ok (.aload_n 0, 1) := by decide +kernel
theorem dX7_putOnly_20 : decode cX7_putOnly 20 = .ok (.getfield 16, 3) := by decide +kernel
theorem dX7_putOnly_23 : decode cX7_putOnly 23 = .ok (.iload 5, 2) := by decide +kernel
theorem dX7_putOnly_25 : decode cX7_putOnly 25 = .ok (.iaload, 1) := by decide +kernel
theorem dX7_putOnly_26 : decode cX7_putOnly 26 = .ok (.aload_n 0, 1) := by decide +kernel
theorem dX7_putOnly_27 : decode cX7_putOnly 27 = .ok (.getfield 19, 3) := by decide +kernel
theorem dX7_putOnly_30 : decode cX7_putOnly 30 = .ok (.iload 5, 2) := by decide +kernel
theorem dX7_putOnly_32 : decode cX7_putOnly 32 = .ok (.iaload, 1) := by decide +kernel
theorem dX7_putOnly_33 : decode cX7_putOnly 33 = .ok (.aload_n 0, 1) := by decide +kernel
theorem dX7_putOnly_34 : decode cX7_putOnly 34 = .ok (.getfield 22, 3) := by decide +kernel
theorem dX7_putOnly_37 : decode cX7_putOnly 37 = .ok (.iload 5, 2) := by decide +kernel
theorem dX7_putOnly_39 : decode cX7_putOnly 39 = .ok (.iaload, 1) := by decide +kernel
theorem dX7_putOnly_40 : decode cX7_putOnly 40 = .ok (.invokevirtual 229, 3) := by decide +kernel
theorem dX7_putOnly_43 : decode cX7_putOnly 43 = .ok (.return_, 1) := by decide +kernel
theorem dX7_putKind_0 : decode cX7_putKind 0 = .ok (.aload_n 0, 1) := by decide +kernel
theorem dX7_putKind_1 : decode cX7_putKind 1 = .ok (.iload_n 1, 1) := by decide +kernel
theorem dX7_putKind_2 : decode cX7_putKind 2 = .ok (.iload_n 2, 1) := by decide +kernel
theorem dX7_putKind_3 : decode cX7_putKind 3 = .ok (.invokevirtual 187, 3) := by decide +kernel
theorem dX7_putKind_6 : decode cX7_putKind 6 = .ok (.istore_n 3, 1) := by decide +kernel
theorem dX7_putKind_7 : decode cX7_putKind 7 = .ok (.iload_n 3, 1) := by decide +kernel
theorem dX7_putKind_8 : decode cX7_putKind 8 = .ok (.iconst (-1), 1) := by decide +kernel
theorem dX7_putKind_9 : decode cX7_putKind 9 = .ok (.if_icmp .ne 5, 3) := by decide +kernel
theorem dX7_putKind_12 : decode cX7_putKind 12 = .ok (.iconst 0, 1) := by decide +kernel
theorem dX7_putKind_13 : decode cX7_putKind 13 = .ok (.ireturn, 1) := by decide +kernel
theorem dX7_putKind_14 : decode cX7_putKind 14 = .ok (.aload_n 0, 1) := by decide +kernel
theorem dX7_putKind_15 : decode cX7_putKind 15 = .ok (.iload_n 1, 1) := by decide +kernel
theorem dX7_putKind_16 : decode cX7_putKind 16 = .ok (.iload_n 3, 1) := by decide +kernel
theorem dX7_putKind_17 : decode cX7_putKind 17 = .ok (.invokevirtual 192, 3) := by decide +kernel
theorem dX7_putKind_20 : decode cX7_putKind 20 = .ok (.istore 4, 2) := by decide +kernel
theorem dX7_putKind_22 : decode cX7_putKind 22 = .ok (.aload_n 0, 1) := by decide +kernel
theorem dX7_putKind_23 : decode cX7_putKind 23 = .ok (.bipush 75, 2) := by decide +kernel
theorem dX7_putKind_25 : decode cX7_putKind 25 = .ok (.invokevirtual 223, 3) := by decide +kernel
theorem dX7_putKind_28 : decode cX7_putKind 28 = .ok (.aload_n 0, 1) := by decide +kernel
theorem dX7_putKind_29 : decode cX7_putKind 29 = .ok (.iload_n 2, 1) := by decide +kernel
theorem dX7_putKind_30 : decode cX7_putKind 30 = .ok (.invokevirtual 226, 3) := by decide +kernel
theorem dX7_putKind_33 : decode cX7_putKind 33 = .ok (.iload_n 3, 1) := by decide +kernel
theorem dX7_putKind_34 : decode cX7_putKind 34 = .ok (.istore 5, 2) := by decide +kernel
theorem dX7_putKind_36 : decode cX7_putKind 36 = .ok (.iload 5, 2) := by decide +kernel
theorem dX7_putKind_38 : decode cX7_putKind 38 = .ok (.iload 4, 2) := by decide +kernel
theorem dX7_putKind_40 : decode cX7_putKind 40 = .ok (.if_icmp .ge 43, 3) := by decide +kernel
theorem dX7_putKind_43 : decode cX7_putKind 43 = .ok (.aload_n 0, 1) := by decide +kernel
theorem dX7_putKind_44 : decode cX7_putKind 44 = .ok (.getfield 13, 3) := by decide +kernel
theorem dX7_putKind_47 : decode cX7_putKind 47 = .ok (.iload 5, 2) := by decide +kernel
theorem dX7_putKind_49 : decode cX7_putKind 49 = .ok (.iaload, 1) := by decide +kernel
theorem dX7_putKind_50 : decode cX7_putKind 50 = .ok (.bipush 83, 2) := by decide +kernel
theorem dX7_putKind_52 : decode cX7_putKind 52 = .ok (.if_icmp .ne 25, 3) := by decide +kernel
theorem dX7_putKind_55 : decode cX7_putKind 55 = .ok (.aload_n 0, 1) := by decide +kernel
theorem dX7_putKind_56 : decode cX7_putKind 56 = .ok (.bipush 83, 2) := by decide +kernel
theorem dX7_putKind_58 : decode cX7_putKind 58 = .ok (.iconst 2, 1) := by decide +kernel
theorem dX7_putKind_59 : decode cX7_putKind 59 = .ok (.aload_n 0, 1) := by decide +kernel
theorem dX7_putKind_60 : decode cX7_putKind 60 = .ok (.getfield 16, 3) := by decide +kernel
theorem dX7_putKind_63 : decode cX7_putKind 63 = .ok (.iload 5, 2) := by decide +kernel
theorem dX7_putKind_65 : decode cX7_putKind 65 = .ok (.iaload, 1) := by decide +kernel
theorem dX7_putKind_66 : decode cX7_putKind 66 = .ok (.aload_n 0, 1) := by decide +kernel
theorem dX7_putKind_67 : decode cX7_putKind 67 = .ok (.getfield 19, 3) := by decide +kernel
theorem dX7_putKind_70 : decode cX7_putKind 70 = .ok (.iload 5, 2) := by decide +kernel
theorem dX7_putKind_72 : decode cX7_putKind 72 = .ok (.iaload, 1) := by decide +kernel
theorem dX7_putKind_73 : decode cX7_putKind 73 = .ok (.iconst 0, 1) := by decide +kernel
theorem dX7_putKind_74 : decode cX7_putKind 74 = .ok (.invokevirtual 229, 3) := by decide +kernel
theorem dX7_putKind_77 : decode cX7_putKind 77 = .ok (.iinc 5 1, 3) := by decide +kernel
theorem dX7_putKind_80 : decode cX7_putKind 80 = .ok (.goto (-44), 3) := by decide +kernel
theorem dX7_putKind_83 : decode cX7_putKind 83 = .ok (.aload_n 0, 1) := by decide +kernel
theorem dX7_putKind_84 : decode cX7_putKind 84 = .ok (.iload_n 3, 1) := by decide +kernel
theorem dX7_putKind_85 : decode cX7_putKind 85 = .ok (.iload 4, 2) := by decide +kernel
theorem dX7_putKind_87 : decode cX7_putKind 87 = .ok (.bipush 90, 2) := by decide +kernel
theorem dX7_putKind_89 : decode cX7_putKind 89 = .ok (.invokevirtual 233, 3) := by decide +kernel
theorem dX7_putKind_92 : decode cX7_putKind 92 = .ok (.aload_n 0, 1) := by decide +kernel
theorem dX7_putKind_93 : decode cX7_putKind 93 = .ok (.iload_n 3, 1) := by decide +kernel
theorem dX7_putKind_94 : decode cX7_putKind 94 = .ok (.iload 4, 2) := by decide +kernel
theorem dX7_putKind_96 : decode cX7_putKind 96 = .ok (.bipush 88, 2) := by decide +kernel
theorem dX7_putKind_98 : decode cX7_putKind 98 = .ok (.invokevirtual 233, 3) := by decide +kernel
theorem dX7_putKind_101 : decode cX7_putKind 101 = .ok (.iconst 0, 1) := by decide +kernel
theorem dX7_putKind_102 : decode cX7_putKind 102 = .ok (.istore 5, 2) := by decide +kernel
theorem dX7_putKind_104 : decode cX7_putKind 104 = .ok (.iload 5, 2) := by decide +kernel
theorem dX7_putKind_106 : decode cX7_putKind 106 = .ok (.bipush 10, 2) := by decide +kernel
theorem dX7_putKind_108 : decode cX7_putKind 108 = .ok (.if_icmp .ge 116, 3) := by decide +kernel
theorem dX7_putKind_111 : decode cX7_putKind 111 = .ok (.iload 5, 2) := by decide +kernel
theorem dX7_putKind_113 : decode cX7_putKind 113 = .ok (.iconst 1, 1) := by decide +kernel
theorem dX7_putKind_114 : decode cX7_putKind 114 = .ok (.iadd, 1) := by decide +kernel
theorem dX7_putKind_115 : decode cX7_putKind 115 = .ok (.istore 6, 2) := by decide +kernel
theorem dX7_putKind_117 : decode cX7_putKind 117 = .ok (.iload 6, 2) := by decide +kernel
theorem dX7_putKind_119 : decode cX7_putKind 119 = .ok (.bipush 10, 2) := by decide +kernel
theorem dX7_putKind_121 : decode cX7_putKind 121 = .ok (.if_icmp .ge 97, 3) := by decide +kernel
theorem dX7_putKind_124 : decode cX7_putKind 124 = .ok (.iload_n 3, 1) := by decide +kernel
theorem dX7_putKind_125 : decode cX7_putKind 125 = .ok (.istore 7, 2) := by decide +kernel
theorem dX7_putKind_127 : decode cX7_putKind 127 = .ok (.iload 7, 2) := by decide +kernel
theorem dX7_putKind_129 : decode cX7_putKind 129 = .ok (.iload 4, 2) := by decide +kernel
theorem dX7_putKind_131 : decode cX7_putKind 131 = .ok (.if_icmp .ge 81, 3) := by decide +kernel
theorem dX7_putKind_134 : decode cX7_putKind 134 = .ok (.aload_n 0, 1) := by decide +kernel
theorem dX7_putKind_135 : decode cX7_putKind 135 = .ok (.getfield 13, 3) := by decide +kernel
theorem dX7_putKind_138 : decode cX7_putKind 138 = .ok (.iload 7, 2) := by decide +kernel
theorem dX7_putKind_140 : decode cX7_putKind 140 = .ok (.iaload, 1) := by decide +kernel
theorem dX7_putKind_141 : decode cX7_putKind 141 = .ok (.bipush 69, 2) := by decide +kernel
theorem dX7_putKind_143 : decode cX7_putKind 143 = .ok (.if_icmp .ne 63, 3) := by decide +kernel
theorem dX7_putKind_146 : decode cX7_putKind 146 = .ok (.aload_n 0, 1) := by decide +kernel
theorem dX7_putKind_147 : decode cX7_putKind 147 = .ok (.getfield 16, 3) := by decide +kernel
theorem dX7_putKind_150 : decode cX7_putKind 150 = .ok (.iload 7, 2) := by decide +kernel
theorem dX7_putKind_152 : decode cX7_putKind 152 = .ok (.iaload, 1) := by decide +kernel
theorem dX7_putKind_153 : decode cX7_putKind 153 = .ok (.iload 5, 2) := by decide +kernel
theorem dX7_putKind_155 : decode cX7_putKind 155 = .ok (.if_icmp .ne 15, 3) := by decide +kernel
theorem dX7_putKind_158 : decode cX7_putKind 158 = .ok (.aload_n 0, 1) := by decide +kernel
theorem dX7_putKind_159 : decode cX7_putKind 159 = .ok (.getfield 19, 3) := by decide +kernel
theorem dX7_putKind_162 : decode cX7_putKind 162 = .ok (.iload 7, 2) := by decide +kernel
theorem dX7_putKind_164 : decode cX7_putKind 164 = .ok (.iaload, 1) := by decide +kernel
theorem dX7_putKind_165 : decode cX7_putKind 165 = .ok (.iload 6, 2) := by decide +kernel
theorem dX7_putKind_167 : decode cX7_putKind 167 = .ok (.if_icmp .eq 27, 3) := by decide +kernel
theorem dX7_putKind_170 : decode cX7_putKind 170 = .ok (.aload_n 0, 1) := by decide +kernel
theorem dX7_putKind_171 : decode cX7_putKind 171 = .ok (.getfield 16, 3) := by decide +kernel
theorem dX7_putKind_174 : decode cX7_putKind 174 = .ok (.iload 7, 2) := by decide +kernel
theorem dX7_putKind_176 : decode cX7_putKind 176 = .ok (.iaload, 1) := by decide +kernel
theorem dX7_putKind_177 : decode cX7_putKind 177 = .ok (.iload 6, 2) := by decide +kernel
theorem dX7_putKind_179 : decode cX7_putKind 179 = .ok (.if_icmp .ne 27, 3) := by decide +kernel
theorem dX7_putKind_182 : decode cX7_putKind 182 = .ok (.aload_n 0, 1) := by decide +kernel
theorem dX7_putKind_183 : decode cX7_putKind 183 = .ok (.getfield 19, 3) := by decide +kernel
theorem dX7_putKind_186 : decode cX7_putKind 186 = .ok (.iload 7, 2) := by decide +kernel
theorem dX7_putKind_188 : decode cX7_putKind 188 = .ok (.iaload, 1) := by decide +kernel
theorem dX7_putKind_189 : decode cX7_putKind 189 = .ok (.iload 5, 2) := by decide +kernel
theorem dX7_putKind_191 : decode cX7_putKind 191 = .ok (.if_icmp .ne 15, 3) := by decide +kernel
theorem dX7_putKind_194 : decode cX7_putKind 194 = .ok (.aload_n 0, 1) := by decide +kernel
theorem dX7_putKind_195 : decode cX7_putKind 195 = .ok (.bipush 69, 2) := by decide +kernel
theorem dX7_putKind_197 : decode cX7_putKind 197 = .ok (.iconst 2, 1) := by decide +kernel
theorem dX7_putKind_198 : decode cX7_putKind 198 = .ok (.iload 5, 2) := by decide +kernel
theorem dX7_putKind_200 : decode cX7_putKind 200 = .ok (.iload 6, 2) := by decide +kernel
theorem dX7_putKind_202 : decode cX7_putKind 202 = .ok (.iconst 0, 1) := by decide +kernel
theorem dX7_putKind_203 : decode cX7_putKind 203 = .ok (.invokevirtual 229, 3) := by decide +kernel
theorem dX7_putKind_206 : decode cX7_putKind 206 = .ok (.iinc 7 1, 3) := by decide +kernel
theorem dX7_putKind_209 : decode cX7_putKind 209 = .ok (.goto (-82), 3) := by decide +kernel
theorem dX7_putKind_212 : decode cX7_putKind 212 = .ok (.iinc 6 1, 3) := by decide +kernel
theorem dX7_putKind_215 : decode cX7_putKind 215 = .ok (.goto (-98), 3) := by decide +kernel
theorem dX7_putKind_218 : decode cX7_putKind 218 = .ok (.iinc 5 1, 3) := by decide +kernel
theorem dX7_putKind_221 : decode cX7_putKind 221 = .ok (.goto (-117), 3) := by decide +kernel
theorem dX7_putKind_224 : decode cX7_putKind 224 = .ok (.aload_n 0, 1) := by decide +kernel
theorem dX7_putKind_225 : decode cX7_putKind 225 = .ok (.iload_n 3, 1) := by decide +kernel
theorem dX7_putKind_226 : decode cX7_putKind 226 = .ok (.iload 4, 2) := by decide +kernel
theorem dX7_putKind_228 : decode cX7_putKind 228 = .ok (.bipush 68, 2) := by decide +kernel
theorem dX7_putKind_230 : decode cX7_putKind 230 = .ok (.iconst 3, 1) := by decide +kernel
theorem dX7_putKind_231 : decode cX7_putKind 231 = .ok (.invokevirtual 237, 3) := by decide +kernel
theorem dX7_putKind_234 : decode cX7_putKind 234 = .ok (.aload_n 0, 1) := by decide +kernel
theorem dX7_putKind_235 : decode cX7_putKind 235 = .ok (.iload_n 3, 1) := by decide +kernel
theorem dX7_putKind_236 : decode cX7_putKind 236 = .ok (.iload 4, 2) := by decide +kernel
theorem dX7_putKind_238 : decode cX7_putKind 238 = .ok (.bipush 77, 2) := by decide +kernel
theorem dX7_putKind_240 : decode cX7_putKind 240 = .ok (.iconst 1, 1) := by decide +kernel
theorem dX7_putKind_241 : decode cX7_putKind 241 = .ok (.invokevirtual 237, 3) := by decide +kernel
theorem dX7_putKind_244 : decode cX7_putKind 244 = .ok (.aload_n 0, 1) := by decide +kernel
theorem dX7_putKind_245 : decode cX7_putKind 245 = .ok (.iload_n 3, 1) := by decide +kernel
theorem dX7_putKind_246 : decode cX7_putKind 246 = .ok (.iload 4, 2) := by decide +kernel
theorem dX7_putKind_248 : decode cX7_putKind 248 = .ok (.bipush 70, 2) := by decide +kernel
theorem dX7_putKind_250 : decode cX7_putKind 250 = .ok (.iconst 2, 1) := by decide +kernel
theorem dX7_putKind_251 : decode cX7_putKind 251 = .ok (.invokevirtual 237, 3) := by decide +kernel
theorem dX7_putKind_254 : decode cX7_putKind 254 = .ok (.aload_n 0, 1) := by decide +kernel
theorem dX7_putKind_255 : decode cX7_putKind 255 = .ok (.iload_n 3, 1) := by decide +kernel
theorem dX7_putKind_256 : decode cX7_putKind 256 = .ok (.iload 4, 2) := by decide +kernel
theorem dX7_putKind_258 : decode cX7_putKind 258 = .ok (.bipush 82, 2) := by decide +kernel
theorem dX7_putKind_260 : decode cX7_putKind 260 = .ok (.iconst 1, 1) := by decide +kernel
theorem dX7_putKind_261 : decode cX7_putKind 261 = .ok (.invokevirtual 237, 3) := by decide +kernel
theorem dX7_putKind_264 : decode cX7_putKind 264 = .ok (.iconst 1, 1) := by decide +kernel
theorem dX7_putKind_265 : decode cX7_putKind 265 = .ok (.ireturn, 1) := by decide +kernel
theorem dX7_compare_0 : decode cX7_compare 0 = .ok (.aload_n 0, 1) := by decide +kernel
theorem dX7_compare_1 : decode cX7_compare 1 = .ok (.iconst 0, 1) := by decide +kernel
theorem dX7_compare_2 : decode cX7_compare 2 = .ok (.putfield 75, 3) := by decide +kernel
theorem dX7_compare_5 : decode cX7_compare 5 = .ok (.iload_n 1, 1) := by decide +kernel
theorem dX7_compare_6 : decode cX7_compare 6 = .ok (.ifCond .lt 11, 3) := by decide +kernel
theorem dX7_compare_9 : decode cX7_compare 9 = .ok (.iload_n 1, 1) := by decide +kernel
theorem dX7_compare_10 : decode cX7_compare 10 = .ok (.aload_n 0, 1) := by decide +kernel
theorem dX7_compare_11 : decode cX7_compare 11 = .ok (.getfield 155, 3) := by decide +kernel
theorem dX7_compare_14 : decode cX7_compare 14 = .ok (.if_icmp .lt 6, 3) := by decide +kernel
theorem dX7_compare_17 : decode cX7_compare 17 = .ok (.ldc 171, 2) := by decide +kernel
theorem dX7_compare_19 : decode cX7_compare 19 = .ok (.ireturn, 1) := by decide +kernel
theorem dX7_compare_20 : decode cX7_compare 20 = .ok (.iconst 0, 1) := by decide +kernel
theorem dX7_compare_21 : decode cX7_compare 21 = .ok (.istore_n 2, 1) := by decide +kernel
theorem dX7_compare_22 : decode cX7_compare 22 = .ok (.iconst 0, 1) := by decide +kernel
theorem dX7_compare_23 : decode cX7_compare 23 = .ok (.istore_n 3, 1) := by decide +kernel
theorem dX7_compare_24 : decode cX7_compare 24 = .ok (.iload_n 3, 1) := by decide +kernel
theorem dX7_compare_25 : decode cX7_compare 25 = .ok (.bipush 10, 2) := by decide +kernel
theorem dX7_compare_27 : decode cX7_compare 27 = .ok (.if_icmp .ge 150, 3) := by decide +kernel
theorem dX7_compare_30 : decode cX7_compare 30 = .ok (.aload_n 0, 1) := by decide +kernel
theorem dX7_compare_31 : decode cX7_compare 31 = .ok (.iconst 0, 1) := by decide +kernel
theorem dX7_compare_32 : decode cX7_compare 32 = .ok (.putfield 220, 3) := by decide +kernel
theorem dX7_compare_35 : decode cX7_compare 35 = .ok (.aload_n 0, 1) := by decide +kernel
theorem dX7_compare_36 : decode cX7_compare 36 = .ok (.iload_n 1, 1) := by decide +kernel
theorem dX7_compare_37 : decode cX7_compare 37 = .ok (.iload_n 3, 1) := by decide +kernel
theorem dX7_compare_38 : decode cX7_compare 38 = .ok (.invokevirtual 240, 3) := by decide +kernel
theorem dX7_compare_41 : decode cX7_compare 41 = .ok (.istore 4, 2) := by decide +kernel
theorem dX7_compare_43 : decode cX7_compare 43 = .ok (.aload_n 0, 1) := by decide +kernel
theorem dX7_compare_44 : decode cX7_compare 44 = .ok (.getfield 220, 3) := by decide +kernel
theorem dX7_compare_47 : decode cX7_compare 47 = .ok (.istore 5, 2) := by decide +kernel
theorem dX7_compare_49 : decode cX7_compare 49 = .ok (.iconst 0, 1) := by decide +kernel
theorem dX7_compare_50 : decode cX7_compare 50 = .ok (.istore 6, 2) := by decide +kernel
theorem dX7_compare_52 : decode cX7_compare 52 = .ok (.iload 6, 2) := by decide +kernel
theorem dX7_compare_54 : decode cX7_compare 54 = .ok (.iload 5, 2) := by decide +kernel
theorem dX7_compare_56 : decode cX7_compare 56 = .ok (.if_icmp .ge 23, 3) := by decide +kernel
theorem dX7_compare_59 : decode cX7_compare 59 = .ok (.aload_n 0, 1) := by decide +kernel
theorem dX7_compare_60 : decode cX7_compare 60 = .ok (.getfield 63, 3) := by decide +kernel
theorem dX7_compare_63 : decode cX7_compare 63 = .ok (.iload 6, 2) := by decide +kernel
theorem dX7_compare_65 : decode cX7_compare 65 = .ok (.aload_n 0, 1) := by decide +kernel
theorem dX7_compare_66 : decode cX7_compare 66 = .ok (.getfield 60, 3) := by decide +kernel
theorem dX7_compare_69 : decode cX7_compare 69 = .ok (.iload 6, 2) := by decide +kernel
theorem dX7_compare_71 : decode cX7_compare 71 = .ok (.iaload, 1) := by decide +kernel
theorem dX7_compare_72 : decode cX7_compare 72 = .ok (.iastore, 1) := by decide +kernel
theorem dX7_compare_73 : decode cX7_compare 73 = .ok (.iinc 6 1, 3) := by decide +kernel
theorem dX7_compare_76 : decode cX7_compare 76 = .ok (.goto (-24), 3) := by decide +kernel
theorem dX7_compare_79 : decode cX7_compare 79 = .ok (.aload_n 0, 1) := by decide +kernel
theorem dX7_compare_80 : decode cX7_compare 80 = .ok (.iconst 0, 1) := by decide +kernel
theorem dX7_compare_81 : decode cX7_compare 81 = .ok (.putfield 220, 3) := by decide +kernel
theorem dX7_compare_84 : decode cX7_compare 84 = .ok (.aload_n 0, 1) := by decide +kernel
theorem dX7_compare_85 : decode cX7_compare 85 = .ok (.aload_n 0, 1) := by decide +kernel
theorem dX7_compare_86 : decode cX7_compare 86 = .ok (.getfield 155, 3) := by decide +kernel
theorem dX7_compare_89 : decode cX7_compare 89 = .ok (.iconst 1, 1) := by decide +kernel
theorem dX7_compare_90 : decode cX7_compare 90 = .ok (.isub, 1) := by decide +kernel
theorem dX7_compare_91 : decode cX7_compare 91 = .ok (.iload_n 3, 1) := by decide +kernel
theorem dX7_compare_92 : decode cX7_compare 92 = .ok (.invokevirtual 240, 3) := by decide +kernel
theorem dX7_compare_95 : decode cX7_compare 95 = .ok (.istore 6, 2) := by decide +kernel
theorem dX7_compare_97 : decode cX7_compare 97 = .ok (.iload 5, 2) := by decide +kernel
theorem dX7_compare_99 : decode cX7_compare 99 = .ok (.aload_n 0, 1) := by decide +kernel
theorem dX7_compare_100 : decode cX7_compare 100 = .ok (.getfield 220, 3) := by decide +kernel
theorem dX7_compare_103 : decode cX7_compare 103 = .ok (.if_icmp .ne 7, 3) := by decide +kernel
theorem dX7_compare_106 : decode cX7_compare 106 = .ok (.iconst 1, 1) := by decide +kernel
theorem dX7_compare_107 : decode cX7_compare 107 = .ok (.goto 4, 3) := by decide +kernel
theorem dX7_compare_110 : decode cX7_compare 110 = .ok (.iconst 0, 1) := by decide +kernel
theorem dX7_compare_111 : decode cX7_compare 111 = .ok (.istore 7, 2) := by decide +kernel
theorem dX7_compare_113 : decode cX7_compare 113 = .ok (.iconst 0, 1) := by decide +kernel
theorem dX7_compare_114 : decode cX7_compare 114 = .ok (.istore 8, 2) := by decide +kernel
theorem dX7_compare_116 : decode cX7_compare 116 = .ok (.iload 8, 2) := by decide +kernel
theorem dX7_compare_118 : decode cX7_compare 118 = .ok (.iload 5, 2) := by decide +kernel
theorem dX7_compare_120 : decode cX7_compare 120 = .ok (.if_icmp .ge 38, 3) := by decide +kernel
theorem dX7_compare_123 : decode cX7_compare 123 = .ok (.iload 7, 2) := by decide +kernel
theorem dX7_compare_125 : decode cX7_compare 125 = .ok (.ifCond .eq 33, 3) := by decide +kernel
theorem dX7_compare_128 : decode cX7_compare 128 = .ok (.aload_n 0, 1) := by decide +kernel
theorem dX7_compare_129 : decode cX7_compare 129 = .ok (.getfield 63, 3) := by decide +kernel
theorem dX7_compare_132 : decode cX7_compare 132 = .ok (.iload 8, 2) := by decide +kernel
theorem dX7_compare_134 : decode cX7_compare 134 = .ok (.iaload, 1) := by decide +kernel
theorem dX7_compare_135 : decode cX7_compare 135 = .ok (.aload_n 0, 1) := by decide +kernel
theorem dX7_compare_136 : decode cX7_compare 136 = .ok (.getfield 60, 3) := by decide +kernel
theorem dX7_compare_139 : decode cX7_compare 139 = .ok (.iload 8, 2) := by decide +kernel
theorem dX7_compare_141 : decode cX7_compare 141 = .ok (.iaload, 1) := by decide +kernel
theorem dX7_compare_142 : decode cX7_compare 142 = .ok (.if_icmp .ne 7, 3) := by decide +kernel
theorem dX7_compare_145 : decode cX7_compare 145 = .ok (.iconst 1, 1) := by decide +kernel
theorem dX7_compare_146 : decode cX7_compare 146 = .ok (.goto 4, 3) := by decide +kernel
theorem dX7_compare_149 : decode cX7_compare 149 = .ok (.iconst 0, 1) := by decide +kernel
theorem dX7_compare_150 : decode cX7_compare 150 = .ok (.istore 7, 2) := by decide +kernel
theorem dX7_compare_152 : decode cX7_compare 152 = .ok (.iinc 8 1, 3) := by decide +kernel
theorem dX7_compare_155 : decode cX7_compare 155 = .ok (.goto (-39), 3) := by decide +kernel
theorem dX7_compare_158 : decode cX7_compare 158 = .ok (.iload 7, 2) := by decide +kernel
theorem dX7_compare_160 : decode cX7_compare 160 = .ok (.ifCond .eq 7, 3) := by decide +kernel
theorem dX7_compare_163 : decode cX7_compare 163 = .ok (.iload_n 2, 1) := by decide +kernel
theorem dX7_compare_164 : decode cX7_compare 164 = .ok (.goto 6, 3) := by decide +kernel
theorem dX7_compare_167 : decode cX7_compare 167 = .ok (.iload_n 2, 1) := by decide +kernel
theorem dX7_compare_168 : decode cX7_compare 168 = .ok (.iconst 1, 1) := by decide +kernel
theorem dX7_compare_169 : decode cX7_compare 169 = .ok (.iadd, 1) := by decide +kernel
theorem dX7_compare_170 : decode cX7_compare 170 = .ok (.istore_n 2, 1) := by decide +kernel
theorem dX7_compare_171 : decode cX7_compare 171 = .ok (.iinc 3 1, 3) := by decide +kernel
theorem dX7_compare_174 : decode cX7_compare 174 = .ok (.goto (-150), 3) := by decide +kernel
theorem dX7_compare_177 : decode cX7_compare 177 = .ok (.iload_n 2, 1) := by decide +kernel
theorem dX7_compare_178 : decode cX7_compare 178 = .ok (.ireturn, 1) := by decide +kernel
theorem dX7_print_0 : decode cX7_print 0 = .ok (.aload_n 0, 1) := by decide +kernel
theorem dX7_print_1 : decode cX7_print 1 = .ok (.iconst 0, 1) := by decide +kernel
theorem dX7_print_2 : decode cX7_print 2 = .ok (.putfield 75, 3) := by decide +kernel
theorem dX7_print_5 : decode cX7_print 5 = .ok (.aload_n 0, 1) := by decide +kernel
theorem dX7_print_6 : decode cX7_print 6 = .ok (.getfield 155, 3) := by decide +kernel
theorem dX7_print_9 : decode cX7_print 9 = .ok (.ifCond .ne 6, 3) := by decide +kernel
theorem dX7_print_12 : decode cX7_print 12 = .ok (.ldc 207, 2) := by decide +kernel
theorem dX7_print_14 : decode cX7_print 14 = .ok (.ireturn, 1) := by decide +kernel
theorem dX7_print_15 : decode cX7_print 15 = .ok (.aload_n 0, 1) := by decide +kernel
theorem dX7_print_16 : decode cX7_print 16 = .ok (.iconst 0, 1) := by decide +kernel
theorem dX7_print_17 : decode cX7_print 17 = .ok (.putfield 220, 3) := by decide +kernel
theorem dX7_print_20 : decode cX7_print 20 = .ok (.iconst 0, 1) := by decide +kernel
theorem dX7_print_21 : decode cX7_print 21 = .ok (.istore_n 1, 1) := by decide +kernel
theorem dX7_print_22 : decode cX7_print 22 = .ok (.iload_n 1, 1) := by decide +kernel
theorem dX7_print_23 : decode cX7_print 23 = .ok (.bipush 10, 2) := by decide +kernel
theorem dX7_print_25 : decode cX7_print 25 = .ok (.if_icmp .ge 49, 3) := by decide +kernel
theorem dX7_print_28 : decode cX7_print 28 = .ok (.aload_n 0, 1) := by decide +kernel
theorem dX7_print_29 : decode cX7_print 29 = .ok (.aload_n 0, 1) := by decide +kernel
theorem dX7_print_30 : decode cX7_print 30 = .ok (.getfield 155, 3) := by decide +kernel
theorem dX7_print_33 : decode cX7_print 33 = .ok (.iconst 1, 1) := by decide +kernel
theorem dX7_print_34 : decode cX7_print 34 = .ok (.isub, 1) := by decide +kernel
theorem dX7_print_35 : decode cX7_print 35 = .ok (.iload_n 1, 1) := by decide +kernel
theorem dX7_print_36 : decode cX7_print 36 = .ok (.invokevirtual 187, 3) := by decide +kernel
theorem dX7_print_39 : decode cX7_print 39 = .ok (.iconst (-1), 1) := by decide +kernel
theorem dX7_print_40 : decode cX7_print 40 = .ok (.if_icmp .eq 28, 3) := by decide +kernel
theorem dX7_print_43 : decode cX7_print 43 = .ok (.aload_n 0, 1) := by decide +kernel
theorem dX7_print_44 : decode cX7_print 44 = .ok (.getfield 220, 3) := by decide +kernel
theorem dX7_print_47 : decode cX7_print 47 = .ok (.ifCond .le 9, 3) := by decide +kernel
theorem dX7_print_50 : decode cX7_print 50 = .ok (.aload_n 0, 1) := by decide +kernel
theorem dX7_print_51 : decode cX7_print 51 = .ok (.bipush 59, 2) := by decide +kernel
theorem dX7_print_53 : decode cX7_print 53 = .ok (.invokevirtual 223, 3) := by decide +kernel
theorem dX7_print_56 : decode cX7_print 56 = .ok (.aload_n 0, 1) := by decide +kernel
theorem dX7_print_57 : decode cX7_print 57 = .ok (.aload_n 0, 1) := by decide +kernel
theorem dX7_print_58 : decode cX7_print 58 = .ok (.getfield 155, 3) := by decide +kernel
theorem dX7_print_61 : decode cX7_print 61 = .ok (.iconst 1, 1) := by decide +kernel
theorem dX7_print_62 : decode cX7_print 62 = .ok (.isub, 1) := by decide +kernel
theorem dX7_print_63 : decode cX7_print 63 = .ok (.iload_n 1, 1) := by decide +kernel
theorem dX7_print_64 : decode cX7_print 64 = .ok (.invokevirtual 240, 3) := by decide +kernel
theorem dX7_print_67 : decode cX7_print 67 = .ok (.istore_n 2, 1) := by decide +kernel
theorem dX7_print_68 : decode cX7_print 68 = .ok (.iinc 1 1, 3) := by decide +kernel
theorem dX7_print_71 : decode cX7_print 71 = .ok (.goto (-49), 3) := by decide +kernel
theorem dX7_print_74 : decode cX7_print 74 = .ok (.aload_n 0, 1) := by decide +kernel
theorem dX7_print_75 : decode cX7_print 75 = .ok (.aload_n 0, 1) := by decide +kernel
theorem dX7_print_76 : decode cX7_print 76 = .ok (.getfield 220, 3) := by decide +kernel
theorem dX7_print_79 : decode cX7_print 79 = .ok (.putfield 243, 3) := by decide +kernel
theorem dX7_print_82 : decode cX7_print 82 = .ok (.iconst 0, 1) := by decide +kernel
theorem dX7_print_83 : decode cX7_print 83 = .ok (.istore_n 1, 1) := by decide +kernel
theorem dX7_print_84 : decode cX7_print 84 = .ok (.iload_n 1, 1) := by decide +kernel
theorem dX7_print_85 : decode cX7_print 85 = .ok (.aload_n 0, 1) := by decide +kernel
theorem dX7_print_86 : decode cX7_print 86 = .ok (.getfield 220, 3) := by decide +kernel
theorem dX7_print_89 : decode cX7_print 89 = .ok (.if_icmp .ge 21, 3) := by decide +kernel
theorem dX7_print_92 : decode cX7_print 92 = .ok (.aload_n 0, 1) := by decide +kernel
theorem dX7_print_93 : decode cX7_print 93 = .ok (.getfield 57, 3) := by decide +kernel
theorem dX7_print_96 : decode cX7_print 96 = .ok (.iload_n 1, 1) := by decide +kernel
theorem dX7_print_97 : decode cX7_print 97 = .ok (.aload_n 0, 1) := by decide +kernel
theorem dX7_print_98 : decode cX7_print 98 = .ok (.getfield 60, 3) := by decide +kernel
theorem dX7_print_101 : decode cX7_print 101 = .ok (.iload_n 1, 1) := by decide +kernel
theorem dX7_print_102 : decode cX7_print 102 = .ok (.iaload, 1) := by decide +kernel
theorem dX7_print_103 : decode cX7_print 103 = .ok (.iastore, 1) := by decide +kernel
theorem dX7_print_104 : decode cX7_print 104 = .ok (.iinc 1 1, 3) := by decide +kernel
theorem dX7_print_107 : decode cX7_print 107 = .ok (.goto (-23), 3) := by decide +kernel
theorem dX7_print_110 : decode cX7_print 110 = .ok (.aload_n 0, 1) := by decide +kernel
theorem dX7_print_111 : decode cX7_print 111 = .ok (.getfield 243, 3) := by decide +kernel
theorem dX7_print_114 : decode cX7_print 114 = .ok (.ireturn, 1) := by decide +kernel
theorem dX7_at_0 : decode cX7_at 0 = .ok (.aload_n 0, 1) := by decide +kernel
theorem dX7_at_1 : decode cX7_at 1 = .ok (.iconst 0, 1) := by decide +kernel
theorem dX7_at_2 : decode cX7_at 2 = .ok (.putfield 75, 3) := by decide +kernel
theorem dX7_at_5 : decode cX7_at 5 = .ok (.iload_n 1, 1) := by decide +kernel
theorem dX7_at_6 : decode cX7_at 6 = .ok (.ifCond .lt 20, 3) := by decide +kernel
theorem dX7_at_9 : decode cX7_at 9 = .ok (.iload_n 1, 1) := by decide +kernel
theorem dX7_at_10 : decode cX7_at 10 = .ok (.aload_n 0, 1) := by decide +kernel
theorem dX7_at_11 : decode cX7_at 11 = .ok (.getfield 243, 3) := by decide +kernel
theorem dX7_at_14 : decode cX7_at 14 = .ok (.if_icmp .ge 12, 3) := by decide +kernel
theorem dX7_at_17 : decode cX7_at 17 = .ok (.aload_n 0, 1) := by decide +kernel
theorem dX7_at_18 : decode cX7_at 18 = .ok (.getfield 57, 3) := by decide +kernel
theorem dX7_at_21 : decode cX7_at 21 = .ok (.iload_n 1, 1) := by decide +kernel
theorem dX7_at_22 : decode cX7_at 22 = .ok (.iaload, 1) := by decide +kernel
theorem dX7_at_23 : decode cX7_at 23 = .ok (.goto 4, 3) := by decide +kernel
theorem dX7_at_26 : decode cX7_at 26 = .ok (.iconst (-1), 1) := by decide +kernel
theorem dX7_at_27 : decode cX7_at 27 = .ok (.ireturn, 1) := by decide +kernel
theorem dJ6_bitCount_0f7a4_0 : decode cJ6_bitCount_0f7a4 0 = .ok (.iload_n 0, 1) := by decide +kernel
theorem dJ6_bitCount_0f7a4_1 : decode cJ6_bitCount_0f7a4 1 = .ok (.iload_n 0, 1) := by decide +kernel
theorem dJ6_bitCount_0f7a4_2 : decode cJ6_bitCount_0f7a4 2 = .ok (.iconst 1, 1) := by decide +kernel
theorem dJ6_bitCount_0f7a4_3 : decode cJ6_bitCount_0f7a4 3 = .ok (.iushr, 1) := by decide +kernel
theorem dJ6_bitCount_0f7a4_4 : decode cJ6_bitCount_0f7a4 4 = .ok (.ldc_w 265, 3) := by decide +kernel
theorem dJ6_bitCount_0f7a4_7 : decode cJ6_bitCount_0f7a4 7 = .ok (.iand, 1) := by decide +kernel
theorem dJ6_bitCount_0f7a4_8 : decode cJ6_bitCount_0f7a4 8 = .ok (.isub, 1) := by decide +kernel
theorem dJ6_bitCount_0f7a4_9 : decode cJ6_bitCount_0f7a4 9 = .ok (.istore_n 0, 1) := by decide +kernel
theorem dJ6_bitCount_0f7a4_10 : decode cJ6_bitCount_0f7a4 10 = .ok (.iload_n 0, 1) := by decide +kernel
theorem dJ6_bitCount_0f7a4_11 : decode cJ6_bitCount_0f7a4 11 = .ok (.ldc_w 266, 3) := by decide +kernel
theorem dJ6_bitCount_0f7a4_14 : decode cJ6_bitCount_0f7a4 14 = .ok (.iand, 1) := by decide +kernel
theorem dJ6_bitCount_0f7a4_15 : decode cJ6_bitCount_0f7a4 15 = .ok (.iload_n 0, 1) := by decide +kernel
theorem dJ6_bitCount_0f7a4_16 : decode cJ6_bitCount_0f7a4 16 = .ok (.iconst 2, 1) := by decide +kernel
theorem dJ6_bitCount_0f7a4_17 : decode cJ6_bitCount_0f7a4 17 = .ok (.iushr, 1) := by decide +kernel
theorem dJ6_bitCount_0f7a4_18 : decode cJ6_bitCount_0f7a4 18 = .ok (.ldc_w 266, 3) := by decide +kernel
theorem dJ6_bitCount_0f7a4_21 : decode cJ6_bitCount_0f7a4 21 = .ok (.iand, 1) := by decide +kernel
theorem dJ6_bitCount_0f7a4_22 : decode cJ6_bitCount_0f7a4 22 = .ok (.iadd, 1) := by decide +kernel
theorem dJ6_bitCount_0f7a4_23 : decode cJ6_bitCount_0f7a4 23 = .ok (.istore_n 0, 1) := by decide +kernel
theorem dJ6_bitCount_0f7a4_24 : decode cJ6_bitCount_0f7a4 24 = .ok (.iload_n 0, 1) := by decide +kernel
theorem dJ6_bitCount_0f7a4_25 : decode cJ6_bitCount_0f7a4 25 = .ok (.iload_n 0, 1) := by decide +kernel
theorem dJ6_bitCount_0f7a4_26 : decode cJ6_bitCount_0f7a4 26 = .ok (.iconst 4, 1) := by decide +kernel
theorem dJ6_bitCount_0f7a4_27 : decode cJ6_bitCount_0f7a4 27 = .ok (.iushr, 1) := by decide +kernel
theorem dJ6_bitCount_0f7a4_28 : decode cJ6_bitCount_0f7a4 28 = .ok (.iadd, 1) := by decide +kernel
theorem dJ6_bitCount_0f7a4_29 : decode cJ6_bitCount_0f7a4 29 = .ok (.ldc_w 267, 3) := by decide +kernel
theorem dJ6_bitCount_0f7a4_32 : decode cJ6_bitCount_0f7a4 32 = .ok (.iand, 1) := by decide +kernel
theorem dJ6_bitCount_0f7a4_33 : decode cJ6_bitCount_0f7a4 33 = .ok (.istore_n 0, 1) := by decide +kernel
theorem dJ6_bitCount_0f7a4_34 : decode cJ6_bitCount_0f7a4 34 = .ok (.iload_n 0, 1) := by decide +kernel
theorem dJ6_bitCount_0f7a4_35 : decode cJ6_bitCount_0f7a4 35 = .ok (.iload_n 0, 1) := by decide +kernel
theorem dJ6_bitCount_0f7a4_36 : decode cJ6_bitCount_0f7a4 36 = .ok (.bipush 8, 2) := by decide +kernel
theorem dJ6_bitCount_0f7a4_38 : decode cJ6_bitCount_0f7a4 38 = .ok (.iushr, 1) := by decide +kernel
theorem dJ6_bitCount_0f7a4_39 : decode cJ6_bitCount_0f7a4 39 = .ok (.iadd, 1) := by decide +kernel
theorem dJ6_bitCount_0f7a4_40 : decode cJ6_bitCount_0f7a4 40 = .ok (.istore_n 0, 1) := by decide +kernel
theorem dJ6_bitCount_0f7a4_41 : decode cJ6_bitCount_0f7a4 41 = .ok (.iload_n 0, 1) := by decide +kernel
theorem dJ6_bitCount_0f7a4_42 : decode cJ6_bitCount_0f7a4 42 = .ok (.iload_n 0, 1) := by decide +kernel
theorem dJ6_bitCount_0f7a4_43 : decode cJ6_bitCount_0f7a4 43 = .ok (.bipush 16, 2) := by decide +kernel
theorem dJ6_bitCount_0f7a4_45 : decode cJ6_bitCount_0f7a4 45 = .ok (.iushr, 1) := by decide +kernel
theorem dJ6_bitCount_0f7a4_46 : decode cJ6_bitCount_0f7a4 46 = .ok (.iadd, 1) := by decide +kernel
theorem dJ6_bitCount_0f7a4_47 : decode cJ6_bitCount_0f7a4 47 = .ok (.istore_n 0, 1) := by decide +kernel
theorem dJ6_bitCount_0f7a4_48 : decode cJ6_bitCount_0f7a4 48 = .ok (.iload_n 0, 1) := by decide +kernel
theorem dJ6_bitCount_0f7a4_49 : decode cJ6_bitCount_0f7a4 49 = .ok (.bipush 63, 2) := by decide +kernel
theorem dJ6_bitCount_0f7a4_51 : decode cJ6_bitCount_0f7a4 51 = .ok (.iand, 1) := by decide +kernel
theorem dJ6_bitCount_0f7a4_52 : decode cJ6_bitCount_0f7a4 52 = .ok (.ireturn, 1) := by decide +kernel
theorem dJ9_max_f86c9_0 : decode cJ9_max_f86c9 0 = .ok (.lload_n 0, 1) := by decide +kernel
theorem dJ9_max_f86c9_1 : decode cJ9_max_f86c9 1 = .ok (.lload_n 2, 1) := by decide +kernel
theorem dJ9_max_f86c9_2 : decode cJ9_max_f86c9 2 = .ok (.lcmp, 1) := by decide +kernel
theorem dJ9_max_f86c9_3 : decode cJ9_max_f86c9 3 = .ok (.ifCond .lt 7, 3) := by decide +kernel
theorem dJ9_max_f86c9_6 : decode cJ9_max_f86c9 6 = .ok (.lload_n 0, 1) := by decide +kernel
theorem dJ9_max_f86c9_7 : decode cJ9_max_f86c9 7 = .ok (.goto 4, 3) := by decide +kernel
theorem dJ9_max_f86c9_10 : decode cJ9_max_f86c9 10 = .ok (.lload_n 2, 1) := by decide +kernel
theorem dJ9_max_f86c9_11 : decode cJ9_max_f86c9 11 = .ok (.lreturn, 1) := by decide +kernel
theorem dL_dimensional_0 : decode cL_dimensional 0 = .ok (.aload 5, 2) := by decide +kernel
theorem dL_dimensional_2 : decode cL_dimensional 2 = .ok (.iconst 0, 1) := by decide +kernel
theorem dL_dimensional_3 : decode cL_dimensional 3 = .ok (.aload_n 0, 1) := by decide +kernel
theorem dL_dimensional_4 : decode cL_dimensional 4 = .ok (.lload_n 1, 1) := by decide +kernel
theorem dL_dimensional_5 : decode cL_dimensional 5 = .ok (.lload_n 3, 1) := by decide +kernel
theorem dL_dimensional_6 : decode cL_dimensional 6 = .ok (.invokevirtual 7, 3) := by decide +kernel
theorem dL_dimensional_9 : decode cL_dimensional 9 = .ok (.lastore, 1) := by decide +kernel
theorem dL_dimensional_10 : decode cL_dimensional 10 = .ok (.goto 7, 3) := by decide +kernel
theorem dL_dimensional_13 : decode cL_dimensional 13 = .ok (.astore 6, 2) := by decide +kernel
theorem dL_dimensional_15 : decode cL_dimensional 15 = .ok (.iconst 1, 1) := by decide +kernel
theorem dL_dimensional_16 : decode cL_dimensional 16 = .ok (.ireturn, 1) := by decide +kernel
theorem dL_dimensional_17 : decode cL_dimensional 17 = .ok (.iconst 0, 1) := by decide +kernel
theorem dL_dimensional_18 : decode cL_dimensional 18 = .ok (.ireturn, 1) := by decide +kernel
theorem dL_law_0 : decode cL_law 0 = .ok (.new 8, 3) := by decide +kernel
theorem dL_law_3 : decode cL_law 3 = .ok (.dup, 1) := by decide +kernel
theorem dL_law_4 : decode cL_law 4 = .ok (.invokespecial 15, 3) := by decide +kernel
theorem dL_law_7 : decode cL_law 7 = .ok (.astore_n 1, 1) := by decide +kernel
theorem dL_law_8 : decode cL_law 8 = .ok (.new 16, 3) := by decide +kernel
theorem dL_law_11 : decode cL_law 11 = .ok (.dup, 1) := by decide +kernel
theorem dL_law_12 : decode cL_law 12 = .ok (.invokespecial 18, 3) := by decide +kernel
theorem dL_law_15 : decode cL_law 15 = .ok (.astore_n 2, 1) := by decide +kernel
theorem dL_law_16 : decode cL_law 16 = .ok (.iconst 1, 1) := by decide +kernel
theorem dL_law_17 : decode cL_law 17 = .ok (.newarray .long, 2) := by decide +kernel
theorem dL_law_19 : decode cL_law 19 = .ok (.astore_n 3, 1) := by decide +kernel
theorem dL_law_20 : decode cL_law 20 = .ok (.iconst 0, 1) := by decide +kernel
theorem dL_law_21 : decode cL_law 21 = .ok (.istore 4, 2) := by decide +kernel
theorem dL_law_23 : decode cL_law 23 = .ok (.iload 4, 2) := by decide +kernel
theorem dL_law_25 : decode cL_law 25 = .ok (.aload_n 0, 1) := by decide +kernel
theorem dL_law_26 : decode cL_law 26 = .ok (.arraylength, 1) := by decide +kernel
theorem dL_law_27 : decode cL_law 27 = .ok (.bipush 6, 2) := by decide +kernel
theorem dL_law_29 : decode cL_law 29 = .ok (.isub, 1) := by decide +kernel
theorem dL_law_30 : decode cL_law 30 = .ok (.if_icmp .gt 616, 3) := by decide +kernel
theorem dL_law_33 : decode cL_law 33 = .ok (.aload_n 0, 1) := by decide +kernel
theorem dL_law_34 : decode cL_law 34 = .ok (.iload 4, 2) := by decide +kernel
theorem dL_law_36 : decode cL_law 36 = .ok (.iaload, 1) := by decide +kernel
theorem dL_law_37 : decode cL_law 37 = .ok (.bipush 15, 2) := by decide +kernel
theorem dL_law_39 : decode cL_law 39 = .ok (.iand, 1) := by decide +kernel
theorem dL_law_40 : decode cL_law 40 = .ok (.tableswitch 600 0 10 #[60, 83, 96, 169, 206, 288, 369, 406, 537, 562, 575], 60) := by decide +kernel
theorem dL_law_100 : decode cL_law 100 = .ok (.aload_n 1, 1) := by decide +kernel
theorem dL_law_101 : decode cL_law 101 = .ok (.aload_n 0, 1) := by decide +kernel
theorem dL_law_102 : decode cL_law 102 = .ok (.iload 4, 2) := by decide +kernel
theorem dL_law_104 : decode cL_law 104 = .ok (.iconst 1, 1) := by decide +kernel
theorem dL_law_105 : decode cL_law 105 = .ok (.iadd, 1) := by decide +kernel
theorem dL_law_106 : decode cL_law 106 = .ok (.iaload, 1) := by decide +kernel
theorem dL_law_107 : decode cL_law 107 = .ok (.invokevirtual 19, 3) := by decide +kernel
theorem dL_law_110 : decode cL_law 110 = .ok (.aload_n 2, 1) := by decide +kernel
theorem dL_law_111 : decode cL_law 111 = .ok (.aload_n 0, 1) := by decide +kernel
theorem dL_law_112 : decode cL_law 112 = .ok (.iload 4, 2) := by decide +kernel
theorem dL_law_114 : decode cL_law 114 = .ok (.iconst 1, 1) := by decide +kernel
theorem dL_law_115 : decode cL_law 115 = .ok (.iadd, 1) := by decide +kernel
theorem dL_law_116 : decode cL_law 116 = .ok (.iaload, 1) := by decide +kernel
theorem dL_law_117 : decode cL_law 117 = .ok (.invokevirtual 23, 3) := by decide +kernel
theorem dL_law_120 : decode cL_law 120 = .ok (.goto 520, 3) := by decide +kernel
theorem dL_law_123 : decode cL_law 123 = .ok (.aload_n 1, 1) := by decide +kernel
theorem dL_law_124 : decode cL_law 124 = .ok (.invokevirtual 24, 3) := by decide +kernel
theorem dL_law_127 : decode cL_law 127 = .ok (.aload_n 2, 1) := by decide +kernel
theorem dL_law_128 : decode cL_law 128 = .ok (.invokevirtual 28, 3) := by decide +kernel
theorem dL_law_131 : decode cL_law 131 = .ok (.if_icmp .eq 509, 3) := by decide +kernel
theorem dL_law_134 : decode cL_law 134 = .ok (.iconst 0, 1) := by decide +kernel
theorem dL_law_135 : decode cL_law 135 = .ok (.ireturn, 1) := by decide +kernel
theorem dL_law_136 : decode cL_law 136 = .ok (.aload_n 1, 1) := by decide +kernel
theorem dL_law_137 : decode cL_law 137 = .ok (.aload_n 0, 1) := by decide +kernel
theorem dL_law_138 : decode cL_law 138 = .ok (.iload 4, 2) := by decide +kernel
theorem dL_law_140 : decode cL_law 140 = .ok (.iconst 1, 1) := by decide +kernel
theorem dL_law_141 : decode cL_law 141 = .ok (.iadd, 1) := by decide +kernel
theorem dL_law_142 : decode cL_law 142 = .ok (.iaload, 1) := by decide +kernel
theorem dL_law_143 : decode cL_law 143 = .ok (.aload_n 0, 1) := by decide +kernel
theorem dL_law_144 : decode cL_law 144 = .ok (.iload 4, 2) := by decide +kernel
theorem dL_law_146 : decode cL_law 146 = .ok (.iconst 2, 1) := by decide +kernel
theorem dL_law_147 : decode cL_law 147 = .ok (.iadd, 1) := by decide +kernel
theorem dL_law_148 : decode cL_law 148 = .ok (.iaload, 1) := by decide +kernel
theorem dL_law_149 : decode cL_law 149 = .ok (.aload_n 0, 1) := by decide +kernel
theorem dL_law_150 : decode cL_law 150 = .ok (.iload 4, 2) := by decide +kernel
theorem dL_law_152 : decode cL_law 152 = .ok (.iconst 3, 1) := by decide +kernel
theorem dL_law_153 : decode cL_law 153 = .ok (.iadd, 1) := by decide +kernel
theorem dL_law_154 : decode cL_law 154 = .ok (.iaload, 1) := by decide +kernel
theorem dL_law_155 : decode cL_law 155 = .ok (.aload_n 0, 1) := by decide +kernel
theorem dL_law_156 : decode cL_law 156 = .ok (.iload 4, 2) := by decide +kernel
theorem dL_law_158 : decode cL_law 158 = .ok (.iconst 4, 1) := by decide +kernel
theorem dL_law_159 : decode cL_law 159 = .ok (.iadd, 1) := by decide +kernel
theorem dL_law_160 : decode cL_law 160 = .ok (.iaload, 1) := by decide +kernel
theorem dL_law_161 : decode cL_law 161 = .ok (.aload_n 0, 1) := by decide +kernel
theorem dL_law_162 : decode cL_law 162 = .ok (.iload 4, 2) := by decide +kernel
theorem dL_law_164 : decode cL_law 164 = .ok (.iconst 5, 1) := by decide +kernel
theorem dL_law_165 : decode cL_law 165 = .ok (.iadd, 1) := by decide +kernel
theorem dL_law_166 : decode cL_law 166 = .ok (.iaload, 1) := by decide +kernel
theorem dL_law_167 : decode cL_law 167 = .ok (.invokevirtual 29, 3) := by decide +kernel
theorem dL_law_170 : decode cL_law 170 = .ok (.aload_n 2, 1) := by decide +kernel
theorem dL_law_171 : decode cL_law 171 = .ok (.aload_n 0, 1) := by decide +kernel
theorem dL_law_172 : decode cL_law 172 = .ok (.iload 4, 2) := by decide +kernel
theorem dL_law_174 : decode cL_law 174 = .ok (.iconst 1, 1) := by decide +kernel
theorem dL_law_175 : decode cL_law 175 = .ok (.iadd, 1) := by decide +kernel
theorem dL_law_176 : decode cL_law 176 = .ok (.iaload, 1) := by decide +kernel
theorem dL_law_177 : decode cL_law 177 = .ok (.aload_n 0, 1) := by decide +kernel
theorem dL_law_178 : decode cL_law 178 = .ok (.iload 4, 2) := by decide +kernel
theorem dL_law_180 : decode cL_law 180 = .ok (.iconst 2, 1) := by decide +kernel
theorem dL_law_181 : decode cL_law 181 = .ok (.iadd, 1) := by decide +kernel
theorem dL_law_182 : decode cL_law 182 = .ok (.iaload, 1) := by decide +kernel
theorem dL_law_183 : decode cL_law 183 = .ok (.aload_n 0, 1) := by decide +kernel
theorem dL_law_184 : decode cL_law 184 = .ok (.iload 4, 2) := by decide +kernel
theorem dL_law_186 : decode cL_law 186 = .ok (.iconst 3, 1) := by decide +kernel
theorem dL_law_187 : decode cL_law 187 = .ok (.iadd, 1) := by decide +kernel
theorem dL_law_188 : decode cL_law 188 = .ok (.iaload, 1) := by decide +kernel
theorem dL_law_189 : decode cL_law 189 = .ok (.aload_n 0, 1) := by decide +kernel
theorem dL_law_190 : decode cL_law 190 = .ok (.iload 4, 2) := by decide +kernel
theorem dL_law_192 : decode cL_law 192 = .ok (.iconst 4, 1) := by decide +kernel
theorem dL_law_193 : decode cL_law 193 = .ok (.iadd, 1) := by decide +kernel
theorem dL_law_194 : decode cL_law 194 = .ok (.iaload, 1) := by decide +kernel
theorem dL_law_195 : decode cL_law 195 = .ok (.aload_n 0, 1) := by decide +kernel
theorem dL_law_196 : decode cL_law 196 = .ok (.iload 4, 2) := by decide +kernel
theorem dL_law_198 : decode cL_law 198 = .ok (.iconst 5, 1) := by decide +kernel
theorem dL_law_199 : decode cL_law 199 = .ok (.iadd, 1) := by decide +kernel
theorem dL_law_200 : decode cL_law 200 = .ok (.iaload, 1) := by decide +kernel
theorem dL_law_201 : decode cL_law 201 = .ok (.invokevirtual 33, 3) := by decide +kernel
theorem dL_law_204 : decode cL_law 204 = .ok (.if_icmp .eq 436, 3) := by decide +kernel
theorem dL_law_207 : decode cL_law 207 = .ok (.iconst 0, 1) := by decide +kernel
theorem dL_law_208 : decode cL_law 208 = .ok (.ireturn, 1) := by decide +kernel
theorem dL_law_209 : decode cL_law 209 = .ok (.aload_n 1, 1) := by decide +kernel
theorem dL_law_210 : decode cL_law 210 = .ok (.aload_n 0, 1) := by decide +kernel
theorem dL_law_211 : decode cL_law 211 = .ok (.iload 4, 2) := by decide +kernel
theorem dL_law_213 : decode cL_law 213 = .ok (.iconst 1, 1) := by decide +kernel
theorem dL_law_214 : decode cL_law 214 = .ok (.iadd, 1) := by decide +kernel
theorem dL_law_215 : decode cL_law 215 = .ok (.iaload, 1) := by decide +kernel
theorem dL_law_216 : decode cL_law 216 = .ok (.aload_n 0, 1) := by decide +kernel
theorem dL_law_217 : decode cL_law 217 = .ok (.iload 4, 2) := by decide +kernel
theorem dL_law_219 : decode cL_law 219 = .ok (.iconst 2, 1) := by decide +kernel
theorem dL_law_220 : decode cL_law 220 = .ok (.iadd, 1) := by decide +kernel
theorem dL_law_221 : decode cL_law 221 = .ok (.iaload, 1) := by decide +kernel
theorem dL_law_222 : decode cL_law 222 = .ok (.invokevirtual 34, 3) := by decide +kernel
theorem dL_law_225 : decode cL_law 225 = .ok (.aload_n 2, 1) := by decide +kernel
theorem dL_law_226 : decode cL_law 226 = .ok (.aload_n 0, 1) := by decide +kernel
theorem dL_law_227 : decode cL_law 227 = .ok (.iload 4, 2) := by decide +kernel
theorem dL_law_229 : decode cL_law 229 = .ok (.iconst 1, 1) := by decide +kernel
theorem dL_law_230 : decode cL_law 230 = .ok (.iadd, 1) := by decide +kernel
theorem dL_law_231 : decode cL_law 231 = .ok (.iaload, 1) := by decide +kernel
theorem dL_law_232 : decode cL_law 232 = .ok (.aload_n 0, 1) := by decide +kernel
theorem dL_law_233 : decode cL_law 233 = .ok (.iload 4, 2) := by decide +kernel
theorem dL_law_235 : decode cL_law 235 = .ok (.iconst 2, 1) := by decide +kernel
theorem dL_law_236 : decode cL_law 236 = .ok (.iadd, 1) := by decide +kernel
theorem dL_law_237 : decode cL_law 237 = .ok (.iaload, 1) := by decide +kernel
theorem dL_law_238 : decode cL_law 238 = .ok (.invokevirtual 38, 3) := by decide +kernel
theorem dL_law_241 : decode cL_law 241 = .ok (.if_icmp .eq 399, 3) := by decide +kernel
theorem dL_law_244 : decode cL_law 244 = .ok (.iconst 0, 1) := by decide +kernel
theorem dL_law_245 : decode cL_law 245 = .ok (.ireturn, 1) := by decide +kernel
theorem dL_law_246 : decode cL_law 246 = .ok (.aload_n 1, 1) := by decide +kernel
theorem dL_law_247 : decode cL_law 247 = .ok (.aload_n 0, 1) := by decide +kernel
theorem dL_law_248 : decode cL_law 248 = .ok (.iload 4, 2) := by decide +kernel
theorem dL_law_250 : decode cL_law 250 = .ok (.iconst 1, 1) := by decide +kernel
theorem dL_law_251 : decode cL_law 251 = .ok (.iadd, 1) := by decide +kernel
theorem dL_law_252 : decode cL_law 252 = .ok (.iaload, 1) := by decide +kernel
theorem dL_law_253 : decode cL_law 253 = .ok (.aload_n 0, 1) := by decide +kernel
theorem dL_law_254 : decode cL_law 254 = .ok (.iload 4, 2) := by decide +kernel
theorem dL_law_256 : decode cL_law 256 = .ok (.iconst 2, 1) := by decide +kernel
theorem dL_law_257 : decode cL_law 257 = .ok (.iadd, 1) := by decide +kernel
theorem dL_law_258 : decode cL_law 258 = .ok (.iaload, 1) := by decide +kernel
theorem dL_law_259 : decode cL_law 259 = .ok (.aload_n 0, 1) := by decide +kernel
theorem dL_law_260 : decode cL_law 260 = .ok (.iload 4, 2) := by decide +kernel
theorem dL_law_262 : decode cL_law 262 = .ok (.iconst 3, 1) := by decide +kernel
theorem dL_law_263 : decode cL_law 263 = .ok (.iadd, 1) := by decide +kernel
theorem dL_law_264 : decode cL_law 264 = .ok (.iaload, 1) := by decide +kernel
theorem dL_law_265 : decode cL_law 265 = .ok (.i2l, 1) := by decide +kernel
theorem dL_law_266 : decode cL_law 266 = .ok (.bipush 32, 2) := by decide +kernel
theorem dL_law_268 : decode cL_law 268 = .ok (.lshl, 1) := by decide +kernel
theorem dL_law_269 : decode cL_law 269 = .ok (.aload_n 0, 1) := by decide +kernel
theorem dL_law_270 : decode cL_law 270 = .ok (.iload 4, 2) := by decide +kernel
theorem dL_law_272 : decode cL_law 272 = .ok (.iconst 4, 1) := by decide +kernel
theorem dL_law_273 : decode cL_law 273 = .ok (.iadd, 1) := by decide +kernel
theorem dL_law_274 : decode cL_law 274 = .ok (.iaload, 1) := by decide +kernel
theorem dL_law_275 : decode cL_law 275 = .ok (.i2l, 1) := by decide +kernel
theorem dL_law_276 : decode cL_law 276 = .ok (.ldc2_w 39, 3) := by decide +kernel
theorem dL_law_279 : decode cL_law 279 = .ok (.land, 1) := by decide +kernel
theorem dL_law_280 : decode cL_law 280 = .ok (.lor, 1) := by decide +kernel
theorem dL_law_281 : decode cL_law 281 = .ok (.invokevirtual 41, 3) := by decide +kernel
theorem dL_law_284 : decode cL_law 284 = .ok (.aload_n 2, 1) := by decide +kernel
theorem dL_law_285 : decode cL_law 285 = .ok (.aload_n 0, 1) := by decide +kernel
theorem dL_law_286 : decode cL_law 286 = .ok (.iload 4, 2) := by decide +kernel
theorem dL_law_288 : decode cL_law 288 = .ok (.iconst 1, 1) := by decide +kernel
theorem dL_law_289 : decode cL_law 289 = .ok (.iadd, 1) := by decide +kernel
theorem dL_law_290 : decode cL_law 290 = .ok (.iaload, 1) := by decide +kernel
theorem dL_law_291 : decode cL_law 291 = .ok (.aload_n 0, 1) := by decide +kernel
theorem dL_law_292 : decode cL_law 292 = .ok (.iload 4, 2) := by decide +kernel
theorem dL_law_294 : decode cL_law 294 = .ok (.iconst 2, 1) := by decide +kernel
theorem dL_law_295 : decode cL_law 295 = .ok (.iadd, 1) := by decide +kernel
theorem dL_law_296 : decode cL_law 296 = .ok (.iaload, 1) := by decide +kernel
theorem dL_law_297 : decode cL_law 297 = .ok (.aload_n 0, 1) := by decide +kernel
theorem dL_law_298 : decode cL_law 298 = .ok (.iload 4, 2) := by decide +kernel
theorem dL_law_300 : decode cL_law 300 = .ok (.iconst 3, 1) := by decide +kernel
theorem dL_law_301 : decode cL_law 301 = .ok (.iadd, 1) := by decide +kernel
theorem dL_law_302 : decode cL_law 302 = .ok (.iaload, 1) := by decide +kernel
theorem dL_law_303 : decode cL_law 303 = .ok (.i2l, 1) := by decide +kernel
theorem dL_law_304 : decode cL_law 304 = .ok (.bipush 32, 2) := by decide +kernel
theorem dL_law_306 : decode cL_law 306 = .ok (.lshl, 1) := by decide +kernel
theorem dL_law_307 : decode cL_law 307 = .ok (.aload_n 0, 1) := by decide +kernel
theorem dL_law_308 : decode cL_law 308 = .ok (.iload 4, 2) := by decide +kernel
theorem dL_law_310 : decode cL_law 310 = .ok (.iconst 4, 1) := by decide +kernel
theorem dL_law_311 : decode cL_law 311 = .ok (.iadd, 1) := by decide +kernel
theorem dL_law_312 : decode cL_law 312 = .ok (.iaload, 1) := by decide +kernel
theorem dL_law_313 : decode cL_law 313 = .ok (.i2l, 1) := by decide +kernel
theorem dL_law_314 : decode cL_law 314 = .ok (.ldc2_w 39, 3) := by decide +kernel
theorem dL_law_317 : decode cL_law 317 = .ok (.land, 1) := by decide +kernel
theorem dL_law_318 : decode cL_law 318 = .ok (.lor, 1) := by decide +kernel
theorem dL_law_319 : decode cL_law 319 = .ok (.invokevirtual 45, 3) := by decide +kernel
theorem dL_law_322 : decode cL_law 322 = .ok (.lcmp, 1) := by decide +kernel
theorem dL_law_323 : decode cL_law 323 = .ok (.ifCond .eq 317, 3) := by decide +kernel
theorem dL_law_326 : decode cL_law 326 = .ok (.iconst 0, 1) := by decide +kernel
theorem dL_law_327 : decode cL_law 327 = .ok (.ireturn, 1) := by decide +kernel
theorem dL_law_328 : decode cL_law 328 = .ok (.aload_n 1, 1) := by decide +kernel
theorem dL_law_329 : decode cL_law 329 = .ok (.aload_n 0, 1) := by decide +kernel
theorem dL_law_330 : decode cL_law 330 = .ok (.iload 4, 2) := by decide +kernel
theorem dL_law_332 : decode cL_law 332 = .ok (.iconst 1, 1) := by decide +kernel
theorem dL_law_333 : decode cL_law 333 = .ok (.iadd, 1) := by decide +kernel
theorem dL_law_334 : decode cL_law 334 = .ok (.iaload, 1) := by decide +kernel
theorem dL_law_335 : decode cL_law 335 = .ok (.aload_n 0, 1) := by decide +kernel
theorem dL_law_336 : decode cL_law 336 = .ok (.iload 4, 2) := by decide +kernel
theorem dL_law_338 : decode cL_law 338 = .ok (.iconst 2, 1) := by decide +kernel
theorem dL_law_339 : decode cL_law 339 = .ok (.iadd, 1) := by decide +kernel
theorem dL_law_340 : decode cL_law 340 = .ok (.iaload, 1) := by decide +kernel
theorem dL_law_341 : decode cL_law 341 = .ok (.aload_n 0, 1) := by decide +kernel
theorem dL_law_342 : decode cL_law 342 = .ok (.iload 4, 2) := by decide +kernel
theorem dL_law_344 : decode cL_law 344 = .ok (.iconst 3, 1) := by decide +kernel
theorem dL_law_345 : decode cL_law 345 = .ok (.iadd, 1) := by decide +kernel
theorem dL_law_346 : decode cL_law 346 = .ok (.iaload, 1) := by decide +kernel
theorem dL_law_347 : decode cL_law 347 = .ok (.i2l, 1) := by decide +kernel
theorem dL_law_348 : decode cL_law 348 = .ok (.bipush 32, 2) := by decide +kernel
theorem dL_law_350 : decode cL_law 350 = .ok (.lshl, 1) := by decide +kernel
theorem dL_law_351 : decode cL_law 351 = .ok (.aload_n 0, 1) := by decide +kernel
theorem dL_law_352 : decode cL_law 352 = .ok (.iload 4, 2) := by decide +kernel
theorem dL_law_354 : decode cL_law 354 = .ok (.iconst 4, 1) := by decide +kernel
theorem dL_law_355 : decode cL_law 355 = .ok (.iadd, 1) := by decide +kernel
theorem dL_law_356 : decode cL_law 356 = .ok (.iaload, 1) := by decide +kernel
theorem dL_law_357 : decode cL_law 357 = .ok (.i2l, 1) := by decide +kernel
theorem dL_law_358 : decode cL_law 358 = .ok (.ldc2_w 39, 3) := by decide +kernel
theorem dL_law_361 : decode cL_law 361 = .ok (.land, 1) := by decide +kernel
theorem dL_law_362 : decode cL_law 362 = .ok (.lor, 1) := by decide +kernel
theorem dL_law_363 : decode cL_law 363 = .ok (.invokevirtual 46, 3) := by decide +kernel
theorem dL_law_366 : decode cL_law 366 = .ok (.aload_n 2, 1) := by decide +kernel
theorem dL_law_367 : decode cL_law 367 = .ok (.aload_n 0, 1) := by decide +kernel
theorem dL_law_368 : decode cL_law 368 = .ok (.iload 4, 2) := by decide +kernel
theorem dL_law_370 : decode cL_law 370 = .ok (.iconst 1, 1) := by decide +kernel
theorem dL_law_371 : decode cL_law 371 = .ok (.iadd, 1) := by decide +kernel
theorem dL_law_372 : decode cL_law 372 = .ok (.iaload, 1) := by decide +kernel
theorem dL_law_373 : decode cL_law 373 = .ok (.aload_n 0, 1) := by decide +kernel
theorem dL_law_374 : decode cL_law 374 = .ok (.iload 4, 2) := by decide +kernel
theorem dL_law_376 : decode cL_law 376 = .ok (.iconst 2, 1) := by decide +kernel
theorem dL_law_377 : decode cL_law 377 = .ok (.iadd, 1) := by decide +kernel
theorem dL_law_378 : decode cL_law 378 = .ok (.iaload, 1) := by decide +kernel
theorem dL_law_379 : decode cL_law 379 = .ok (.aload_n 0, 1) := by decide +kernel
theorem dL_law_380 : decode cL_law 380 = .ok (.iload 4, 2) := by decide +kernel
theorem dL_law_382 : decode cL_law 382 = .ok (.iconst 3, 1) := by decide +kernel
theorem dL_law_383 : decode cL_law 383 = .ok (.iadd, 1) := by decide +kernel
theorem dL_law_384 : decode cL_law 384 = .ok (.iaload, 1) := by decide +kernel
theorem dL_law_385 : decode cL_law 385 = .ok (.i2l, 1) := by decide +kernel
theorem dL_law_386 : decode cL_law 386 = .ok (.bipush 32, 2) := by decide +kernel
theorem dL_law_388 : decode cL_law 388 = .ok (.lshl, 1) := by decide +kernel
theorem dL_law_389 : decode cL_law 389 = .ok (.aload_n 0, 1) := by decide +kernel
theorem dL_law_390 : decode cL_law 390 = .ok (.iload 4, 2) := by decide +kernel
theorem dL_law_392 : decode cL_law 392 = .ok (.iconst 4, 1) := by decide +kernel
theorem dL_law_393 : decode cL_law 393 = .ok (.iadd, 1) := by decide +kernel
theorem dL_law_394 : decode cL_law 394 = .ok (.iaload, 1) := by decide +kernel
theorem dL_law_395 : decode cL_law 395 = .ok (.i2l, 1) := by decide +kernel
theorem dL_law_396 : decode cL_law 396 = .ok (.ldc2_w 39, 3) := by decide +kernel
theorem dL_law_399 : decode cL_law 399 = .ok (.land, 1) := by decide +kernel
theorem dL_law_400 : decode cL_law 400 = .ok (.lor, 1) := by decide +kernel
theorem dL_law_401 : decode cL_law 401 = .ok (.invokevirtual 50, 3) := by decide +kernel
theorem dL_law_404 : decode cL_law 404 = .ok (.if_icmp .eq 236, 3) := by decide +kernel
theorem dL_law_407 : decode cL_law 407 = .ok (.iconst 0, 1) := by decide +kernel
theorem dL_law_408 : decode cL_law 408 = .ok (.ireturn, 1) := by decide +kernel
theorem dL_law_409 : decode cL_law 409 = .ok (.aload_n 1, 1) := by decide +kernel
theorem dL_law_410 : decode cL_law 410 = .ok (.aload_n 0, 1) := by decide +kernel
theorem dL_law_411 : decode cL_law 411 = .ok (.iload 4, 2) := by decide +kernel
theorem dL_law_413 : decode cL_law 413 = .ok (.iconst 1, 1) := by decide +kernel
theorem dL_law_414 : decode cL_law 414 = .ok (.iadd, 1) := by decide +kernel
theorem dL_law_415 : decode cL_law 415 = .ok (.iaload, 1) := by decide +kernel
theorem dL_law_416 : decode cL_law 416 = .ok (.aload_n 0, 1) := by decide +kernel
theorem dL_law_417 : decode cL_law 417 = .ok (.iload 4, 2) := by decide +kernel
theorem dL_law_419 : decode cL_law 419 = .ok (.iconst 2, 1) := by decide +kernel
theorem dL_law_420 : decode cL_law 420 = .ok (.iadd, 1) := by decide +kernel
theorem dL_law_421 : decode cL_law 421 = .ok (.iaload, 1) := by decide +kernel
theorem dL_law_422 : decode cL_law 422 = .ok (.invokevirtual 51, 3) := by decide +kernel
theorem dL_law_425 : decode cL_law 425 = .ok (.aload_n 2, 1) := by decide +kernel
theorem dL_law_426 : decode cL_law 426 = .ok (.aload_n 0, 1) := by decide +kernel
theorem dL_law_427 : decode cL_law 427 = .ok (.iload 4, 2) := by decide +kernel
theorem dL_law_429 : decode cL_law 429 = .ok (.iconst 1, 1) := by decide +kernel
theorem dL_law_430 : decode cL_law 430 = .ok (.iadd, 1) := by decide +kernel
theorem dL_law_431 : decode cL_law 431 = .ok (.iaload, 1) := by decide +kernel
theorem dL_law_432 : decode cL_law 432 = .ok (.aload_n 0, 1) := by decide +kernel
theorem dL_law_433 : decode cL_law 433 = .ok (.iload 4, 2) := by decide +kernel
theorem dL_law_435 : decode cL_law 435 = .ok (.iconst 2, 1) := by decide +kernel
theorem dL_law_436 : decode cL_law 436 = .ok (.iadd, 1) := by decide +kernel
theorem dL_law_437 : decode cL_law 437 = .ok (.iaload, 1) := by decide +kernel
theorem dL_law_438 : decode cL_law 438 = .ok (.invokevirtual 54, 3) := by decide +kernel
theorem dL_law_441 : decode cL_law 441 = .ok (.if_icmp .eq 199, 3) := by decide +kernel
theorem dL_law_444 : decode cL_law 444 = .ok (.iconst 0, 1) := by decide +kernel
theorem dL_law_445 : decode cL_law 445 = .ok (.ireturn, 1) := by decide +kernel
theorem dL_law_446 : decode cL_law 446 = .ok (.aload_n 1, 1) := by decide +kernel
theorem dL_law_447 : decode cL_law 447 = .ok (.aload_n 0, 1) := by decide +kernel
theorem dL_law_448 : decode cL_law 448 = .ok (.iload 4, 2) := by decide +kernel
theorem dL_law_450 : decode cL_law 450 = .ok (.iconst 1, 1) := by decide +kernel
theorem dL_law_451 : decode cL_law 451 = .ok (.iadd, 1) := by decide +kernel
theorem dL_law_452 : decode cL_law 452 = .ok (.iaload, 1) := by decide +kernel
theorem dL_law_453 : decode cL_law 453 = .ok (.i2l, 1) := by decide +kernel
theorem dL_law_454 : decode cL_law 454 = .ok (.bipush 32, 2) := by decide +kernel
theorem dL_law_456 : decode cL_law 456 = .ok (.lshl, 1) := by decide +kernel
theorem dL_law_457 : decode cL_law 457 = .ok (.aload_n 0, 1) := by decide +kernel
theorem dL_law_458 : decode cL_law 458 = .ok (.iload 4, 2) := by decide +kernel
theorem dL_law_460 : decode cL_law 460 = .ok (.iconst 2, 1) := by decide +kernel
theorem dL_law_461 : decode cL_law 461 = .ok (.iadd, 1) := by decide +kernel
theorem dL_law_462 : decode cL_law 462 = .ok (.iaload, 1) := by decide +kernel
theorem dL_law_463 : decode cL_law 463 = .ok (.i2l, 1) := by decide +kernel
theorem dL_law_464 : decode cL_law 464 = .ok (.ldc2_w 39, 3) := by decide +kernel
theorem dL_law_467 : decode cL_law 467 = .ok (.land, 1) := by decide +kernel
theorem dL_law_468 : decode cL_law 468 = .ok (.lor, 1) := by decide +kernel
theorem dL_law_469 : decode cL_law 469 = .ok (.aload_n 0, 1) := by decide +kernel
theorem dL_law_470 : decode cL_law 470 = .ok (.iload 4, 2) := by decide +kernel
theorem dL_law_472 : decode cL_law 472 = .ok (.iconst 3, 1) := by decide +kernel
theorem dL_law_473 : decode cL_law 473 = .ok (.iadd, 1) := by decide +kernel
theorem dL_law_474 : decode cL_law 474 = .ok (.iaload, 1) := by decide +kernel
theorem dL_law_475 : decode cL_law 475 = .ok (.i2l, 1) := by decide +kernel
theorem dL_law_476 : decode cL_law 476 = .ok (.bipush 32, 2) := by decide +kernel
theorem dL_law_478 : decode cL_law 478 = .ok (.lshl, 1) := by decide +kernel
theorem dL_law_479 : decode cL_law 479 = .ok (.aload_n 0, 1) := by decide +kernel
theorem dL_law_480 : decode cL_law 480 = .ok (.iload 4, 2) := by decide +kernel
theorem dL_law_482 : decode cL_law 482 = .ok (.iconst 4, 1) := by decide +kernel
theorem dL_law_483 : decode cL_law 483 = .ok (.iadd, 1) := by decide +kernel
theorem dL_law_484 : decode cL_law 484 = .ok (.iaload, 1) := by decide +kernel
theorem dL_law_485 : decode cL_law 485 = .ok (.i2l, 1) := by decide +kernel
theorem dL_law_486 : decode cL_law 486 = .ok (.ldc2_w 39, 3) := by decide +kernel
theorem dL_law_489 : decode cL_law 489 = .ok (.land, 1) := by decide +kernel
theorem dL_law_490 : decode cL_law 490 = .ok (.lor, 1) := by decide +kernel
theorem dL_law_491 : decode cL_law 491 = .ok (.aload_n 3, 1) := by decide +kernel
theorem dL_law_492 : decode cL_law 492 = .ok (.invokestatic 55, 3) := by decide +kernel
theorem dL_law_495 : decode cL_law 495 = .ok (.istore 5, 2) := by decide +kernel
theorem dL_law_497 : decode cL_law 497 = .ok (.aload_n 2, 1) := by decide +kernel
theorem dL_law_498 : decode cL_law 498 = .ok (.aload_n 0, 1) := by decide +kernel
theorem dL_law_499 : decode cL_law 499 = .ok (.iload 4, 2) := by decide +kernel
theorem dL_law_501 : decode cL_law 501 = .ok (.iconst 1, 1) := by decide +kernel
theorem dL_law_502 : decode cL_law 502 = .ok (.iadd, 1) := by decide +kernel
theorem dL_law_503 : decode cL_law 503 = .ok (.iaload, 1) := by decide +kernel
theorem dL_law_504 : decode cL_law 504 = .ok (.i2l, 1) := by decide +kernel
theorem dL_law_505 : decode cL_law 505 = .ok (.bipush 32, 2) := by decide +kernel
theorem dL_law_507 : decode cL_law 507 = .ok (.lshl, 1) := by decide +kernel
theorem dL_law_508 : decode cL_law 508 = .ok (.aload_n 0, 1) := by decide +kernel
theorem dL_law_509 : decode cL_law 509 = .ok (.iload 4, 2) := by decide +kernel
theorem dL_law_511 : decode cL_law 511 = .ok (.iconst 2, 1) := by decide +kernel
theorem dL_law_512 : decode cL_law 512 = .ok (.iadd, 1) := by decide +kernel
theorem dL_law_513 : decode cL_law 513 = .ok (.iaload, 1) := by decide +kernel
theorem dL_law_514 : decode cL_law 514 = .ok (.i2l, 1) := by decide +kernel
theorem dL_law_515 : decode cL_law 515 = .ok (.ldc2_w 39, 3) := by decide +kernel
theorem dL_law_518 : decode cL_law 518 = .ok (.land, 1) := by decide +kernel
theorem dL_law_519 : decode cL_law 519 = .ok (.lor, 1) := by decide +kernel
theorem dL_law_520 : decode cL_law 520 = .ok (.aload_n 0, 1) := by decide +kernel
theorem dL_law_521 : decode cL_law 521 = .ok (.iload 4, 2) := by decide +kernel
theorem dL_law_523 : decode cL_law 523 = .ok (.iconst 3, 1) := by decide +kernel
theorem dL_law_524 : decode cL_law 524 = .ok (.iadd, 1) := by decide +kernel
theorem dL_law_525 : decode cL_law 525 = .ok (.iaload, 1) := by decide +kernel
theorem dL_law_526 : decode cL_law 526 = .ok (.i2l, 1) := by decide +kernel
theorem dL_law_527 : decode cL_law 527 = .ok (.bipush 32, 2) := by decide +kernel
theorem dL_law_529 : decode cL_law 529 = .ok (.lshl, 1) := by decide +kernel
theorem dL_law_530 : decode cL_law 530 = .ok (.aload_n 0, 1) := by decide +kernel
theorem dL_law_531 : decode cL_law 531 = .ok (.iload 4, 2) := by decide +kernel
theorem dL_law_533 : decode cL_law 533 = .ok (.iconst 4, 1) := by decide +kernel
theorem dL_law_534 : decode cL_law 534 = .ok (.iadd, 1) := by decide +kernel
theorem dL_law_535 : decode cL_law 535 = .ok (.iaload, 1) := by decide +kernel
theorem dL_law_536 : decode cL_law 536 = .ok (.i2l, 1) := by decide +kernel
theorem dL_law_537 : decode cL_law 537 = .ok (.ldc2_w 39, 3) := by decide +kernel
theorem dL_law_540 : decode cL_law 540 = .ok (.land, 1) := by decide +kernel
theorem dL_law_541 : decode cL_law 541 = .ok (.lor, 1) := by decide +kernel
theorem dL_law_542 : decode cL_law 542 = .ok (.invokevirtual 60, 3) := by decide +kernel
theorem dL_law_545 : decode cL_law 545 = .ok (.lstore 6, 2) := by decide +kernel
theorem dL_law_547 : decode cL_law 547 = .ok (.aload_n 2, 1) := by decide +kernel
theorem dL_law_548 : decode cL_law 548 = .ok (.invokevirtual 61, 3) := by decide +kernel
theorem dL_law_551 : decode cL_law 551 = .ok (.iload 5, 2) := by decide +kernel
theorem dL_law_553 : decode cL_law 553 = .ok (.if_icmp .eq 5, 3) := by decide +kernel
theorem dL_law_556 : decode cL_law 556 = .ok (.iconst 0, 1) := by decide +kernel
theorem dL_law_557 : decode cL_law 557 = .ok (.ireturn, 1) := by decide +kernel
theorem dL_law_558 : decode cL_law 558 = .ok (.iload 5, 2) := by decide +kernel
theorem dL_law_560 : decode cL_law 560 = .ok (.ifCond .ne 14, 3) := by decide +kernel
theorem dL_law_563 : decode cL_law 563 = .ok (.aload_n 3, 1) := by decide +kernel
theorem dL_law_564 : decode cL_law 564 = .ok (.iconst 0, 1) := by decide +kernel
theorem dL_law_565 : decode cL_law 565 = .ok (.laload, 1) := by decide +kernel
theorem dL_law_566 : decode cL_law 566 = .ok (.lload 6, 2) := by decide +kernel
theorem dL_law_568 : decode cL_law 568 = .ok (.lcmp, 1) := by decide +kernel
theorem dL_law_569 : decode cL_law 569 = .ok (.ifCond .eq 5, 3) := by decide +kernel
theorem dL_law_572 : decode cL_law 572 = .ok (.iconst 0, 1) := by decide +kernel
theorem dL_law_573 : decode cL_law 573 = .ok (.ireturn, 1) := by decide +kernel
theorem dL_law_574 : decode cL_law 574 = .ok (.goto 66, 3) := by decide +kernel
theorem dL_law_577 : decode cL_law 577 = .ok (.aload_n 1, 1) := by decide +kernel
theorem dL_law_578 : decode cL_law 578 = .ok (.aload_n 0, 1) := by decide +kernel
theorem dL_law_579 : decode cL_law 579 = .ok (.iload 4, 2) := by decide +kernel
theorem dL_law_581 : decode cL_law 581 = .ok (.iconst 1, 1) := by decide +kernel
theorem dL_law_582 : decode cL_law 582 = .ok (.iadd, 1) := by decide +kernel
theorem dL_law_583 : decode cL_law 583 = .ok (.iaload, 1) := by decide +kernel
theorem dL_law_584 : decode cL_law 584 = .ok (.invokevirtual 64, 3) := by decide +kernel
theorem dL_law_587 : decode cL_law 587 = .ok (.aload_n 2, 1) := by decide +kernel
theorem dL_law_588 : decode cL_law 588 = .ok (.aload_n 0, 1) := by decide +kernel
theorem dL_law_589 : decode cL_law 589 = .ok (.iload 4, 2) := by decide +kernel
theorem dL_law_591 : decode cL_law 591 = .ok (.iconst 1, 1) := by decide +kernel
theorem dL_law_592 : decode cL_law 592 = .ok (.iadd, 1) := by decide +kernel
theorem dL_law_593 : decode cL_law 593 = .ok (.iaload, 1) := by decide +kernel
theorem dL_law_594 : decode cL_law 594 = .ok (.invokevirtual 68, 3) := by decide +kernel
theorem dL_law_597 : decode cL_law 597 = .ok (.if_icmp .eq 43, 3) := by decide +kernel
theorem dL_law_600 : decode cL_law 600 = .ok (.iconst 0, 1) := by decide +kernel
theorem dL_law_601 : decode cL_law 601 = .ok (.ireturn, 1) := by decide +kernel
theorem dL_law_602 : decode cL_law 602 = .ok (.aload_n 1, 1) := by decide +kernel
theorem dL_law_603 : decode cL_law 603 = .ok (.invokevirtual 69, 3) := by decide +kernel
theorem dL_law_606 : decode cL_law 606 = .ok (.aload_n 2, 1) := by decide +kernel
theorem dL_law_607 : decode cL_law 607 = .ok (.invokevirtual 72, 3) := by decide +kernel
theorem dL_law_610 : decode cL_law 610 = .ok (.if_icmp .eq 30, 3) := by decide +kernel
theorem dL_law_613 : decode cL_law 613 = .ok (.iconst 0, 1) := by decide +kernel
theorem dL_law_614 : decode cL_law 614 = .ok (.ireturn, 1) := by decide +kernel
theorem dL_law_615 : decode cL_law 615 = .ok (.aload_n 1, 1) := by decide +kernel
theorem dL_law_616 : decode cL_law 616 = .ok (.aload_n 0, 1) := by decide +kernel
theorem dL_law_617 : decode cL_law 617 = .ok (.iload 4, 2) := by decide +kernel
theorem dL_law_619 : decode cL_law 619 = .ok (.iconst 1, 1) := by decide +kernel
theorem dL_law_620 : decode cL_law 620 = .ok (.iadd, 1) := by decide +kernel
theorem dL_law_621 : decode cL_law 621 = .ok (.iaload, 1) := by decide +kernel
theorem dL_law_622 : decode cL_law 622 = .ok (.invokevirtual 73, 3) := by decide +kernel
theorem dL_law_625 : decode cL_law 625 = .ok (.aload_n 2, 1) := by decide +kernel
theorem dL_law_626 : decode cL_law 626 = .ok (.aload_n 0, 1) := by decide +kernel
theorem dL_law_627 : decode cL_law 627 = .ok (.iload 4, 2) := by decide +kernel
theorem dL_law_629 : decode cL_law 629 = .ok (.iconst 1, 1) := by decide +kernel
theorem dL_law_630 : decode cL_law 630 = .ok (.iadd, 1) := by decide +kernel
theorem dL_law_631 : decode cL_law 631 = .ok (.iaload, 1) := by decide +kernel
theorem dL_law_632 : decode cL_law 632 = .ok (.invokevirtual 76, 3) := by decide +kernel
theorem dL_law_635 : decode cL_law 635 = .ok (.if_icmp .eq 5, 3) := by decide +kernel
theorem dL_law_638 : decode cL_law 638 = .ok (.iconst 0, 1) := by decide +kernel
theorem dL_law_639 : decode cL_law 639 = .ok (.ireturn, 1) := by decide +kernel
theorem dL_law_640 : decode cL_law 640 = .ok (.iinc 4 6, 3) := by decide +kernel
theorem dL_law_643 : decode cL_law 643 = .ok (.goto (-620), 3) := by decide +kernel
theorem dL_law_646 : decode cL_law 646 = .ok (.iconst 1, 1) := by decide +kernel
theorem dL_law_647 : decode cL_law 647 = .ok (.ireturn, 1) := by decide +kernel
