theorem dX2_init_0 : decode cX2_init 0 = .ok (.aload_n 0, 1) := by decide +kernel
theorem dX2_init_1 : decode cX2_init 1 = .ok (.invokespecial 1, 3) := by decide +kernel
theorem dX2_init_4 : decode cX2_init 4 = .ok (.aload_n 0, 1) := by decide +kernel
theorem dX2_init_5 : decode cX2_init 5 = .ok (.sipush 640, 3) := by decide +kernel
theorem dX2_init_8 : decode cX2_init 8 = .ok (.newarray .int, 2) := by decide +kernel
theorem dX2_init_10 : decode cX2_init 10 = .ok (.putfield 9, 3) := by decide +kernel
theorem dX2_init_13 : decode cX2_init 13 = .ok (.aload_n 0, 1) := by decide +kernel
theorem dX2_init_14 : decode cX2_init 14 = .ok (.sipush 640, 3) := by decide +kernel
theorem dX2_init_17 : decode cX2_init 17 = .ok (.newarray .int, 2) := by decide +kernel
theorem dX2_init_19 : decode cX2_init 19 = .ok (.putfield 13, 3) := by decide +kernel
theorem dX2_init_22 : decode cX2_init 22 = .ok (.aload_n 0, 1) := by decide +kernel
theorem dX2_init_23 : decode cX2_init 23 = .ok (.sipush 640, 3) := by decide +kernel
theorem dX2_init_26 : decode cX2_init 26 = .ok (.newarray .int, 2) := by decide +kernel
theorem dX2_init_28 : decode cX2_init 28 = .ok (.putfield 16, 3) := by decide +kernel
theorem dX2_init_31 : decode cX2_init 31 = .ok (.aload_n 0, 1) := by decide +kernel
theorem dX2_init_32 : decode cX2_init 32 = .ok (.sipush 640, 3) := by decide +kernel
theorem dX2_init_35 : decode cX2_init 35 = .ok (.newarray .int, 2) := by decide +kernel
theorem dX2_init_37 : decode cX2_init 37 = .ok (.putfield 19, 3) := by decide +kernel
theorem dX2_init_40 : decode cX2_init 40 = .ok (.aload_n 0, 1) := by decide +kernel
theorem dX2_init_41 : decode cX2_init 41 = .ok (.sipush 5120, 3) := by decide +kernel
theorem dX2_init_44 : decode cX2_init 44 = .ok (.newarray .int, 2) := by decide +kernel
theorem dX2_init_46 : decode cX2_init 46 = .ok (.putfield 22, 3) := by decide +kernel
theorem dX2_init_49 : decode cX2_init 49 = .ok (.aload_n 0, 1) := by decide +kernel
theorem dX2_init_50 : decode cX2_init 50 = .ok (.sipush 640, 3) := by decide +kernel
theorem dX2_init_53 : decode cX2_init 53 = .ok (.newarray .boolean, 2) := by decide +kernel
theorem dX2_init_55 : decode cX2_init 55 = .ok (.putfield 25, 3) := by decide +kernel
theorem dX2_init_58 : decode cX2_init 58 = .ok (.aload_n 0, 1) := by decide +kernel
theorem dX2_init_59 : decode cX2_init 59 = .ok (.sipush 640, 3) := by decide +kernel
theorem dX2_init_62 : decode cX2_init 62 = .ok (.newarray .boolean, 2) := by decide +kernel
theorem dX2_init_64 : decode cX2_init 64 = .ok (.putfield 29, 3) := by decide +kernel
theorem dX2_init_67 : decode cX2_init 67 = .ok (.aload_n 0, 1) := by decide +kernel
theorem dX2_init_68 : decode cX2_init 68 = .ok (.bipush 8, 2) := by decide +kernel
theorem dX2_init_70 : decode cX2_init 70 = .ok (.newarray .int, 2) := by decide +kernel
theorem dX2_init_72 : decode cX2_init 72 = .ok (.putfield 32, 3) := by decide +kernel
theorem dX2_init_75 : decode cX2_init 75 = .ok (.aload_n 0, 1) := by decide +kernel
theorem dX2_init_76 : decode cX2_init 76 = .ok (.bipush 64, 2) := by decide +kernel
theorem dX2_init_78 : decode cX2_init 78 = .ok (.newarray .int, 2) := by decide +kernel
theorem dX2_init_80 : decode cX2_init 80 = .ok (.putfield 35, 3) := by decide +kernel
theorem dX2_init_83 : decode cX2_init 83 = .ok (.return_, 1) := by decide +kernel
theorem dX2_isLike_0 : decode cX2_isLike 0 = .ok (.aload_n 0, 1) := by decide +kernel
theorem dX2_isLike_1 : decode cX2_isLike 1 = .ok (.getfield 9, 3) := by decide +kernel
theorem dX2_isLike_4 : decode cX2_isLike 4 = .ok (.iload_n 1, 1) := by decide +kernel
theorem dX2_isLike_5 : decode cX2_isLike 5 = .ok (.iaload, 1) := by decide +kernel
theorem dX2_isLike_6 : decode cX2_isLike 6 = .ok (.iload_n 2, 1) := by decide +kernel
theorem dX2_isLike_7 : decode cX2_isLike 7 = .ok (.if_icmp .ne 39, 3) := by decide +kernel
theorem dX2_isLike_10 : decode cX2_isLike 10 = .ok (.aload_n 0, 1) := by decide +kernel
theorem dX2_isLike_11 : decode cX2_isLike 11 = .ok (.getfield 13, 3) := by decide +kernel
theorem dX2_isLike_14 : decode cX2_isLike 14 = .ok (.iload_n 1, 1) := by decide +kernel
theorem dX2_isLike_15 : decode cX2_isLike 15 = .ok (.iaload, 1) := by decide +kernel
theorem dX2_isLike_16 : decode cX2_isLike 16 = .ok (.iload_n 3, 1) := by decide +kernel
theorem dX2_isLike_17 : decode cX2_isLike 17 = .ok (.if_icmp .ne 29, 3) := by decide +kernel
theorem dX2_isLike_20 : decode cX2_isLike 20 = .ok (.aload_n 0, 1) := by decide +kernel
theorem dX2_isLike_21 : decode cX2_isLike 21 = .ok (.getfield 16, 3) := by decide +kernel
theorem dX2_isLike_24 : decode cX2_isLike 24 = .ok (.iload_n 1, 1) := by decide +kernel
theorem dX2_isLike_25 : decode cX2_isLike 25 = .ok (.iaload, 1) := by decide +kernel
theorem dX2_isLike_26 : decode cX2_isLike 26 = .ok (.iload 4, 2) := by decide +kernel
theorem dX2_isLike_28 : decode cX2_isLike 28 = .ok (.if_icmp .ne 18, 3) := by decide +kernel
theorem dX2_isLike_31 : decode cX2_isLike 31 = .ok (.aload_n 0, 1) := by decide +kernel
theorem dX2_isLike_32 : decode cX2_isLike 32 = .ok (.getfield 19, 3) := by decide +kernel
theorem dX2_isLike_35 : decode cX2_isLike 35 = .ok (.iload_n 1, 1) := by decide +kernel
theorem dX2_isLike_36 : decode cX2_isLike 36 = .ok (.iaload, 1) := by decide +kernel
theorem dX2_isLike_37 : decode cX2_isLike 37 = .ok (.iload 5, 2) := by decide +kernel
theorem dX2_isLike_39 : decode cX2_isLike 39 = .ok (.if_icmp .ne 7, 3) := by decide +kernel
theorem dX2_isLike_42 : decode cX2_isLike 42 = .ok (.iconst 1, 1) := by decide +kernel
theorem dX2_isLike_43 : decode cX2_isLike 43 = .ok (.goto 4, 3) := by decide +kernel
theorem dX2_isLike_46 : decode cX2_isLike 46 = .ok (.iconst 0, 1) := by decide +kernel
theorem dX2_isLike_47 : decode cX2_isLike 47 = .ok (.istore 6, 2) := by decide +kernel
theorem dX2_isLike_49 : decode cX2_isLike 49 = .ok (.iconst 0, 1) := by decide +kernel
theorem dX2_isLike_50 : decode cX2_isLike 50 = .ok (.istore 7, 2) := by decide +kernel
theorem dX2_isLike_52 : decode cX2_isLike 52 = .ok (.iload 7, 2) := by decide +kernel
theorem dX2_isLike_54 : decode cX2_isLike 54 = .ok (.bipush 8, 2) := by decide +kernel
theorem dX2_isLike_56 : decode cX2_isLike 56 = .ok (.if_icmp .ge 49, 3) := by decide +kernel
theorem dX2_isLike_59 : decode cX2_isLike 59 = .ok (.iload 6, 2) := by decide +kernel
theorem dX2_isLike_61 : decode cX2_isLike 61 = .ok (.ifCond .eq 44, 3) := by decide +kernel
theorem dX2_isLike_64 : decode cX2_isLike 64 = .ok (.iload_n 2, 1) := by decide +kernel
theorem dX2_isLike_65 : decode cX2_isLike 65 = .ok (.bipush 7, 2) := by decide +kernel
theorem dX2_isLike_67 : decode cX2_isLike 67 = .ok (.if_icmp .ne 25, 3) := by decide +kernel
theorem dX2_isLike_70 : decode cX2_isLike 70 = .ok (.aload_n 0, 1) := by decide +kernel
theorem dX2_isLike_71 : decode cX2_isLike 71 = .ok (.getfield 22, 3) := by decide +kernel
theorem dX2_isLike_74 : decode cX2_isLike 74 = .ok (.bipush 8, 2) := by decide +kernel
theorem dX2_isLike_76 : decode cX2_isLike 76 = .ok (.iload_n 1, 1) := by decide +kernel
theorem dX2_isLike_77 : decode cX2_isLike 77 = .ok (.imul, 1) := by decide +kernel
theorem dX2_isLike_78 : decode cX2_isLike 78 = .ok (.iload 7, 2) := by decide +kernel
theorem dX2_isLike_80 : decode cX2_isLike 80 = .ok (.iadd, 1) := by decide +kernel
theorem dX2_isLike_81 : decode cX2_isLike 81 = .ok (.iaload, 1) := by decide +kernel
theorem dX2_isLike_82 : decode cX2_isLike 82 = .ok (.aload_n 0, 1) := by decide +kernel
theorem dX2_isLike_83 : decode cX2_isLike 83 = .ok (.getfield 32, 3) := by decide +kernel
theorem dX2_isLike_86 : decode cX2_isLike 86 = .ok (.iload 7, 2) := by decide +kernel
theorem dX2_isLike_88 : decode cX2_isLike 88 = .ok (.iaload, 1) := by decide +kernel
theorem dX2_isLike_89 : decode cX2_isLike 89 = .ok (.if_icmp .ne 7, 3) := by decide +kernel
theorem dX2_isLike_92 : decode cX2_isLike 92 = .ok (.iconst 1, 1) := by decide +kernel
theorem dX2_isLike_93 : decode cX2_isLike 93 = .ok (.goto 4, 3) := by decide +kernel
theorem dX2_isLike_96 : decode cX2_isLike 96 = .ok (.iconst 0, 1) := by decide +kernel
theorem dX2_isLike_97 : decode cX2_isLike 97 = .ok (.istore 6, 2) := by decide +kernel
theorem dX2_isLike_99 : decode cX2_isLike 99 = .ok (.iinc 7 1, 3) := by decide +kernel
theorem dX2_isLike_102 : decode cX2_isLike 102 = .ok (.goto (-50), 3) := by decide +kernel
theorem dX2_isLike_105 : decode cX2_isLike 105 = .ok (.iload 6, 2) := by decide +kernel
theorem dX2_isLike_107 : decode cX2_isLike 107 = .ok (.ireturn, 1) := by decide +kernel
theorem dX2_put_0 : decode cX2_put 0 = .ok (.iconst 0, 1) := by decide +kernel
theorem dX2_put_1 : decode cX2_put 1 = .ok (.istore 6, 2) := by decide +kernel
theorem dX2_put_3 : decode cX2_put 3 = .ok (.iload 6, 2) := by decide +kernel
theorem dX2_put_5 : decode cX2_put 5 = .ok (.aload_n 0, 1) := by decide +kernel
theorem dX2_put_6 : decode cX2_put 6 = .ok (.getfield 38, 3) := by decide +kernel
theorem dX2_put_9 : decode cX2_put 9 = .ok (.if_icmp .ge 24, 3) := by decide +kernel
theorem dX2_put_12 : decode cX2_put 12 = .ok (.aload_n 0, 1) := by decide +kernel
theorem dX2_put_13 : decode cX2_put 13 = .ok (.iload 6, 2) := by decide +kernel
theorem dX2_put_15 : decode cX2_put 15 = .ok (.iload_n 2, 1) := by decide +kernel
theorem dX2_put_16 : decode cX2_put 16 = .ok (.iload_n 3, 1) := by decide +kernel
theorem dX2_put_17 : decode cX2_put 17 = .ok (.iload 4, 2) := by decide +kernel
theorem dX2_put_19 : decode cX2_put 19 = .ok (.iload 5, 2) := by decide +kernel
theorem dX2_put_21 : decode cX2_put 21 = .ok (.invokevirtual 42, 3) := by decide +kernel
theorem dX2_put_24 : decode cX2_put 24 = .ok (.ifCond .ne 9, 3) := by decide +kernel
theorem dX2_put_27 : decode cX2_put 27 = .ok (.iinc 6 1, 3) := by decide +kernel
theorem dX2_put_30 : decode cX2_put 30 = .ok (.goto (-27), 3) := by decide +kernel
theorem dX2_put_33 : decode cX2_put 33 = .ok (.iload 6, 2) := by decide +kernel
theorem dX2_put_35 : decode cX2_put 35 = .ok (.aload_n 0, 1) := by decide +kernel
theorem dX2_put_36 : decode cX2_put 36 = .ok (.getfield 38, 3) := by decide +kernel
theorem dX2_put_39 : decode cX2_put 39 = .ok (.if_icmp .ne 93, 3) := by decide +kernel
theorem dX2_put_42 : decode cX2_put 42 = .ok (.aload_n 0, 1) := by decide +kernel
theorem dX2_put_43 : decode cX2_put 43 = .ok (.getfield 9, 3) := by decide +kernel
theorem dX2_put_46 : decode cX2_put 46 = .ok (.iload 6, 2) := by decide +kernel
theorem dX2_put_48 : decode cX2_put 48 = .ok (.iload_n 2, 1) := by decide +kernel
theorem dX2_put_49 : decode cX2_put 49 = .ok (.iastore, 1) := by decide +kernel
theorem dX2_put_50 : decode cX2_put 50 = .ok (.aload_n 0, 1) := by decide +kernel
theorem dX2_put_51 : decode cX2_put 51 = .ok (.getfield 13, 3) := by decide +kernel
theorem dX2_put_54 : decode cX2_put 54 = .ok (.iload 6, 2) := by decide +kernel
theorem dX2_put_56 : decode cX2_put 56 = .ok (.iload_n 3, 1) := by decide +kernel
theorem dX2_put_57 : decode cX2_put 57 = .ok (.iastore, 1) := by decide +kernel
theorem dX2_put_58 : decode cX2_put 58 = .ok (.aload_n 0, 1) := by decide +kernel
theorem dX2_put_59 : decode cX2_put 59 = .ok (.getfield 16, 3) := by decide +kernel
theorem dX2_put_62 : decode cX2_put 62 = .ok (.iload 6, 2) := by decide +kernel
theorem dX2_put_64 : decode cX2_put 64 = .ok (.iload 4, 2) := by decide +kernel
theorem dX2_put_66 : decode cX2_put 66 = .ok (.iastore, 1) := by decide +kernel
theorem dX2_put_67 : decode cX2_put 67 = .ok (.aload_n 0, 1) := by decide +kernel
theorem dX2_put_68 : decode cX2_put 68 = .ok (.getfield 19, 3) := by decide +kernel
theorem dX2_put_71 : decode cX2_put 71 = .ok (.iload 6, 2) := by decide +kernel
theorem dX2_put_73 : decode cX2_put 73 = .ok (.iload 5, 2) := by decide +kernel
theorem dX2_put_75 : decode cX2_put 75 = .ok (.iastore, 1) := by decide +kernel
theorem dX2_put_76 : decode cX2_put 76 = .ok (.iconst 0, 1) := by decide +kernel
theorem dX2_put_77 : decode cX2_put 77 = .ok (.istore 7, 2) := by decide +kernel
theorem dX2_put_79 : decode cX2_put 79 = .ok (.iload 7, 2) := by decide +kernel
theorem dX2_put_81 : decode cX2_put 81 = .ok (.bipush 8, 2) := by decide +kernel
theorem dX2_put_83 : decode cX2_put 83 = .ok (.if_icmp .ge 39, 3) := by decide +kernel
theorem dX2_put_86 : decode cX2_put 86 = .ok (.aload_n 0, 1) := by decide +kernel
theorem dX2_put_87 : decode cX2_put 87 = .ok (.getfield 22, 3) := by decide +kernel
theorem dX2_put_90 : decode cX2_put 90 = .ok (.bipush 8, 2) := by decide +kernel
theorem dX2_put_92 : decode cX2_put 92 = .ok (.iload 6, 2) := by decide +kernel
theorem dX2_put_94 : decode cX2_put 94 = .ok (.imul, 1) := by decide +kernel
theorem dX2_put_95 : decode cX2_put 95 = .ok (.iload 7, 2) := by decide +kernel
theorem dX2_put_97 : decode cX2_put 97 = .ok (.iadd, 1) := by decide +kernel
theorem dX2_put_98 : decode cX2_put 98 = .ok (.iload_n 2, 1) := by decide +kernel
theorem dX2_put_99 : decode cX2_put 99 = .ok (.bipush 7, 2) := by decide +kernel
theorem dX2_put_101 : decode cX2_put 101 = .ok (.if_icmp .ne 13, 3) := by decide +kernel
theorem dX2_put_104 : decode cX2_put 104 = .ok (.aload_n 0, 1) := by decide +kernel
theorem dX2_put_105 : decode cX2_put 105 = .ok (.getfield 32, 3) := by decide +kernel
theorem dX2_put_108 : decode cX2_put 108 = .ok (.iload 7, 2) := by decide +kernel
theorem dX2_put_110 : decode cX2_put 110 = .ok (.iaload, 1) := by decide +kernel
theorem dX2_put_111 : decode cX2_put 111 = .ok (.goto 4, 3) := by decide +kernel
theorem dX2_put_114 : decode cX2_put 114 = .ok (.iconst 0, 1) := by decide +kernel
theorem dX2_put_115 : decode cX2_put 115 = .ok (.iastore, 1) := by decide +kernel
theorem dX2_put_116 : decode cX2_put 116 = .ok (.iinc 7 1, 3) := by decide +kernel
theorem dX2_put_119 : decode cX2_put 119 = .ok (.goto (-40), 3) := by decide +kernel
theorem dX2_put_122 : decode cX2_put 122 = .ok (.aload_n 0, 1) := by decide +kernel
theorem dX2_put_123 : decode cX2_put 123 = .ok (.dup, 1) := by decide +kernel
theorem dX2_put_124 : decode cX2_put 124 = .ok (.getfield 38, 3) := by decide +kernel
theorem dX2_put_127 : decode cX2_put 127 = .ok (.iconst 1, 1) := by decide +kernel
theorem dX2_put_128 : decode cX2_put 128 = .ok (.iadd, 1) := by decide +kernel
theorem dX2_put_129 : decode cX2_put 129 = .ok (.putfield 38, 3) := by decide +kernel
theorem dX2_put_132 : decode cX2_put 132 = .ok (.aload_n 0, 1) := by decide +kernel
theorem dX2_put_133 : decode cX2_put 133 = .ok (.getfield 35, 3) := by decide +kernel
theorem dX2_put_136 : decode cX2_put 136 = .ok (.iload_n 1, 1) := by decide +kernel
theorem dX2_put_137 : decode cX2_put 137 = .ok (.iload 6, 2) := by decide +kernel
theorem dX2_put_139 : decode cX2_put 139 = .ok (.iconst 1, 1) := by decide +kernel
theorem dX2_put_140 : decode cX2_put 140 = .ok (.iadd, 1) := by decide +kernel
theorem dX2_put_141 : decode cX2_put 141 = .ok (.iastore, 1) := by decide +kernel
theorem dX2_put_142 : decode cX2_put 142 = .ok (.iconst 1, 1) := by decide +kernel
theorem dX2_put_143 : decode cX2_put 143 = .ok (.ireturn, 1) := by decide +kernel
theorem dX2_isRegister_0 : decode cX2_isRegister 0 = .ok (.iload_n 0, 1) := by decide +kernel
theorem dX2_isRegister_1 : decode cX2_isRegister 1 = .ok (.ifCond .lt 13, 3) := by decide +kernel
theorem dX2_isRegister_4 : decode cX2_isRegister 4 = .ok (.iload_n 0, 1) := by decide +kernel
theorem dX2_isRegister_5 : decode cX2_isRegister 5 = .ok (.bipush 64, 2) := by decide +kernel
theorem dX2_isRegister_7 : decode cX2_isRegister 7 = .ok (.if_icmp .ge 7, 3) := by decide +kernel
theorem dX2_isRegister_10 : decode cX2_isRegister 10 = .ok (.iconst 1, 1) := by decide +kernel
theorem dX2_isRegister_11 : decode cX2_isRegister 11 = .ok (.goto 4, 3) := by decide +kernel
theorem dX2_isRegister_14 : decode cX2_isRegister 14 = .ok (.iconst 0, 1) := by decide +kernel
theorem dX2_isRegister_15 : decode cX2_isRegister 15 = .ok (.ireturn, 1) := by decide +kernel
theorem dX2_holds_0 : decode cX2_holds 0 = .ok (.iload_n 1, 1) := by decide +kernel
theorem dX2_holds_1 : decode cX2_holds 1 = .ok (.invokestatic 46, 3) := by decide +kernel
theorem dX2_holds_4 : decode cX2_holds 4 = .ok (.ifCond .eq 16, 3) := by decide +kernel
theorem dX2_holds_7 : decode cX2_holds 7 = .ok (.aload_n 0, 1) := by decide +kernel
theorem dX2_holds_8 : decode cX2_holds 8 = .ok (.getfield 35, 3) := by decide +kernel
theorem dX2_holds_11 : decode cX2_holds 11 = .ok (.iload_n 1, 1) := by decide +kernel
theorem dX2_holds_12 : decode cX2_holds 12 = .ok (.iaload, 1) := by decide +kernel
theorem dX2_holds_13 : decode cX2_holds 13 = .ok (.ifCond .le 7, 3) := by decide +kernel
theorem dX2_holds_16 : decode cX2_holds 16 = .ok (.iconst 1, 1) := by decide +kernel
theorem dX2_holds_17 : decode cX2_holds 17 = .ok (.goto 4, 3) := by decide +kernel
theorem dX2_holds_20 : decode cX2_holds 20 = .ok (.iconst 0, 1) := by decide +kernel
theorem dX2_holds_21 : decode cX2_holds 21 = .ok (.ireturn, 1) := by decide +kernel
theorem dX2_has_0 : decode cX2_has 0 = .ok (.aload_n 0, 1) := by decide +kernel
theorem dX2_has_1 : decode cX2_has 1 = .ok (.iload_n 1, 1) := by decide +kernel
theorem dX2_has_2 : decode cX2_has 2 = .ok (.invokevirtual 50, 3) := by decide +kernel
theorem dX2_has_5 : decode cX2_has 5 = .ok (.ifCond .eq 24, 3) := by decide +kernel
theorem dX2_has_8 : decode cX2_has 8 = .ok (.aload_n 0, 1) := by decide +kernel
theorem dX2_has_9 : decode cX2_has 9 = .ok (.getfield 9, 3) := by decide +kernel
theorem dX2_has_12 : decode cX2_has 12 = .ok (.aload_n 0, 1) := by decide +kernel
theorem dX2_has_13 : decode cX2_has 13 = .ok (.getfield 35, 3) := by decide +kernel
theorem dX2_has_16 : decode cX2_has 16 = .ok (.iload_n 1, 1) := by decide +kernel
theorem dX2_has_17 : decode cX2_has 17 = .ok (.iaload, 1) := by decide +kernel
theorem dX2_has_18 : decode cX2_has 18 = .ok (.iconst 1, 1) := by decide +kernel
theorem dX2_has_19 : decode cX2_has 19 = .ok (.isub, 1) := by decide +kernel
theorem dX2_has_20 : decode cX2_has 20 = .ok (.iaload, 1) := by decide +kernel
theorem dX2_has_21 : decode cX2_has 21 = .ok (.iload_n 2, 1) := by decide +kernel
theorem dX2_has_22 : decode cX2_has 22 = .ok (.if_icmp .ne 7, 3) := by decide +kernel
theorem dX2_has_25 : decode cX2_has 25 = .ok (.iconst 1, 1) := by decide +kernel
theorem dX2_has_26 : decode cX2_has 26 = .ok (.goto 4, 3) := by decide +kernel
theorem dX2_has_29 : decode cX2_has 29 = .ok (.iconst 0, 1) := by decide +kernel
theorem dX2_has_30 : decode cX2_has 30 = .ok (.ireturn, 1) := by decide +kernel
theorem dX2_secret_0 : decode cX2_secret 0 = .ok (.iload_n 1, 1) := by decide +kernel
theorem dX2_secret_1 : decode cX2_secret 1 = .ok (.invokestatic 46, 3) := by decide +kernel
theorem dX2_secret_4 : decode cX2_secret 4 = .ok (.ifCond .ne 5, 3) := by decide +kernel
theorem dX2_secret_7 : decode cX2_secret 7 = .ok (.iconst (-1), 1) := by decide +kernel
theorem dX2_secret_8 : decode cX2_secret 8 = .ok (.ireturn, 1) := by decide +kernel
theorem dX2_secret_9 : decode cX2_secret 9 = .ok (.aload_n 0, 1) := by decide +kernel
theorem dX2_secret_10 : decode cX2_secret 10 = .ok (.dup, 1) := by decide +kernel
theorem dX2_secret_11 : decode cX2_secret 11 = .ok (.getfield 53, 3) := by decide +kernel
theorem dX2_secret_14 : decode cX2_secret 14 = .ok (.iconst 1, 1) := by decide +kernel
theorem dX2_secret_15 : decode cX2_secret 15 = .ok (.iadd, 1) := by decide +kernel
theorem dX2_secret_16 : decode cX2_secret 16 = .ok (.putfield 53, 3) := by decide +kernel
theorem dX2_secret_19 : decode cX2_secret 19 = .ok (.aload_n 0, 1) := by decide +kernel
theorem dX2_secret_20 : decode cX2_secret 20 = .ok (.iload_n 1, 1) := by decide +kernel
theorem dX2_secret_21 : decode cX2_secret 21 = .ok (.iconst 1, 1) := by decide +kernel
theorem dX2_secret_22 : decode cX2_secret 22 = .ok (.aload_n 0, 1) := by decide +kernel
theorem dX2_secret_23 : decode cX2_secret 23 = .ok (.getfield 53, 3) := by decide +kernel
theorem dX2_secret_26 : decode cX2_secret 26 = .ok (.iconst 0, 1) := by decide +kernel
theorem dX2_secret_27 : decode cX2_secret 27 = .ok (.iconst 0, 1) := by decide +kernel
theorem dX2_secret_28 : decode cX2_secret 28 = .ok (.invokevirtual 56, 3) := by decide +kernel
theorem dX2_secret_31 : decode cX2_secret 31 = .ok (.ireturn, 1) := by decide +kernel
theorem dX2_face_0 : decode cX2_face 0 = .ok (.iload_n 1, 1) := by decide +kernel
theorem dX2_face_1 : decode cX2_face 1 = .ok (.invokestatic 46, 3) := by decide +kernel
theorem dX2_face_4 : decode cX2_face 4 = .ok (.ifCond .eq 29, 3) := by decide +kernel
theorem dX2_face_7 : decode cX2_face 7 = .ok (.aload_n 0, 1) := by decide +kernel
theorem dX2_face_8 : decode cX2_face 8 = .ok (.iload_n 2, 1) := by decide +kernel
theorem dX2_face_9 : decode cX2_face 9 = .ok (.iconst 1, 1) := by decide +kernel
theorem dX2_face_10 : decode cX2_face 10 = .ok (.invokevirtual 60, 3) := by decide +kernel
theorem dX2_face_13 : decode cX2_face 13 = .ok (.ifCond .eq 20, 3) := by decide +kernel
theorem dX2_face_16 : decode cX2_face 16 = .ok (.aload_n 0, 1) := by decide +kernel
theorem dX2_face_17 : decode cX2_face 17 = .ok (.iload_n 1, 1) := by decide +kernel
theorem dX2_face_18 : decode cX2_face 18 = .ok (.iconst 2, 1) := by decide +kernel
theorem dX2_face_19 : decode cX2_face 19 = .ok (.aload_n 0, 1) := by decide +kernel
theorem dX2_face_20 : decode cX2_face 20 = .ok (.getfield 35, 3) := by decide +kernel
theorem dX2_face_23 : decode cX2_face 23 = .ok (.iload_n 2, 1) := by decide +kernel
theorem dX2_face_24 : decode cX2_face 24 = .ok (.iaload, 1) := by decide +kernel
theorem dX2_face_25 : decode cX2_face 25 = .ok (.iconst 0, 1) := by decide +kernel
theorem dX2_face_26 : decode cX2_face 26 = .ok (.iconst 0, 1) := by decide +kernel
theorem dX2_face_27 : decode cX2_face 27 = .ok (.invokevirtual 56, 3) := by decide +kernel
theorem dX2_face_30 : decode cX2_face 30 = .ok (.goto 4, 3) := by decide +kernel
theorem dX2_face_33 : decode cX2_face 33 = .ok (.iconst (-1), 1) := by decide +kernel
theorem dX2_face_34 : decode cX2_face 34 = .ok (.ireturn, 1) := by decide +kernel
theorem dX2_share_0 : decode cX2_share 0 = .ok (.iload_n 2, 1) := by decide +kernel
theorem dX2_share_1 : decode cX2_share 1 = .ok (.iload_n 3, 1) := by decide +kernel
theorem dX2_share_2 : decode cX2_share 2 = .ok (.if_icmp .ge 15, 3) := by decide +kernel
theorem dX2_share_5 : decode cX2_share 5 = .ok (.aload_n 0, 1) := by decide +kernel
theorem dX2_share_6 : decode cX2_share 6 = .ok (.iload_n 1, 1) := by decide +kernel
theorem dX2_share_7 : decode cX2_share 7 = .ok (.iconst 3, 1) := by decide +kernel
theorem dX2_share_8 : decode cX2_share 8 = .ok (.iload_n 2, 1) := by decide +kernel
theorem dX2_share_9 : decode cX2_share 9 = .ok (.iload_n 3, 1) := by decide +kernel
theorem dX2_share_10 : decode cX2_share 10 = .ok (.iconst 0, 1) := by decide +kernel
theorem dX2_share_11 : decode cX2_share 11 = .ok (.invokevirtual 56, 3) := by decide +kernel
theorem dX2_share_14 : decode cX2_share 14 = .ok (.goto 12, 3) := by decide +kernel
theorem dX2_share_17 : decode cX2_share 17 = .ok (.aload_n 0, 1) := by decide +kernel
theorem dX2_share_18 : decode cX2_share 18 = .ok (.iload_n 1, 1) := by decide +kernel
theorem dX2_share_19 : decode cX2_share 19 = .ok (.iconst 3, 1) := by decide +kernel
theorem dX2_share_20 : decode cX2_share 20 = .ok (.iload_n 3, 1) := by decide +kernel
theorem dX2_share_21 : decode cX2_share 21 = .ok (.iload_n 2, 1) := by decide +kernel
theorem dX2_share_22 : decode cX2_share 22 = .ok (.iconst 0, 1) := by decide +kernel
theorem dX2_share_23 : decode cX2_share 23 = .ok (.invokevirtual 56, 3) := by decide +kernel
theorem dX2_share_26 : decode cX2_share 26 = .ok (.ireturn, 1) := by decide +kernel
theorem dX2_shared_0 : decode cX2_shared 0 = .ok (.iload_n 1, 1) := by decide +kernel
theorem dX2_shared_1 : decode cX2_shared 1 = .ok (.invokestatic 46, 3) := by decide +kernel
theorem dX2_shared_4 : decode cX2_shared 4 = .ok (.ifCond .eq 41, 3) := by decide +kernel
theorem dX2_shared_7 : decode cX2_shared 7 = .ok (.aload_n 0, 1) := by decide +kernel
theorem dX2_shared_8 : decode cX2_shared 8 = .ok (.iload_n 2, 1) := by decide +kernel
theorem dX2_shared_9 : decode cX2_shared 9 = .ok (.iconst 1, 1) := by decide +kernel
theorem dX2_shared_10 : decode cX2_shared 10 = .ok (.invokevirtual 60, 3) := by decide +kernel
theorem dX2_shared_13 : decode cX2_shared 13 = .ok (.ifCond .eq 32, 3) := by decide +kernel
theorem dX2_shared_16 : decode cX2_shared 16 = .ok (.aload_n 0, 1) := by decide +kernel
theorem dX2_shared_17 : decode cX2_shared 17 = .ok (.iload_n 3, 1) := by decide +kernel
theorem dX2_shared_18 : decode cX2_shared 18 = .ok (.iconst 1, 1) := by decide +kernel
theorem dX2_shared_19 : decode cX2_shared 19 = .ok (.invokevirtual 60, 3) := by decide +kernel
theorem dX2_shared_22 : decode cX2_shared 22 = .ok (.ifCond .eq 23, 3) := by decide +kernel
theorem dX2_shared_25 : decode cX2_shared 25 = .ok (.aload_n 0, 1) := by decide +kernel
theorem dX2_shared_26 : decode cX2_shared 26 = .ok (.iload_n 1, 1) := by decide +kernel
theorem dX2_shared_27 : decode cX2_shared 27 = .ok (.aload_n 0, 1) := by decide +kernel
theorem dX2_shared_28 : decode cX2_shared 28 = .ok (.getfield 35, 3) := by decide +kernel
theorem dX2_shared_31 : decode cX2_shared 31 = .ok (.iload_n 2, 1) := by decide +kernel
theorem dX2_shared_32 : decode cX2_shared 32 = .ok (.iaload, 1) := by decide +kernel
theorem dX2_shared_33 : decode cX2_shared 33 = .ok (.aload_n 0, 1) := by decide +kernel
theorem dX2_shared_34 : decode cX2_shared 34 = .ok (.getfield 35, 3) := by decide +kernel
theorem dX2_shared_37 : decode cX2_shared 37 = .ok (.iload_n 3, 1) := by decide +kernel
theorem dX2_shared_38 : decode cX2_shared 38 = .ok (.iaload, 1) := by decide +kernel
theorem dX2_shared_39 : decode cX2_shared 39 = .ok (.invokevirtual 64, 3) := by decide +kernel
theorem dX2_shared_42 : decode cX2_shared 42 = .ok (.goto 4, 3) := by decide +kernel
theorem dX2_shared_45 : decode cX2_shared 45 = .ok (.iconst (-1), 1) := by decide +kernel
theorem dX2_shared_46 : decode cX2_shared 46 = .ok (.ireturn, 1) := by decide +kernel
theorem dX2_agreed_0 : decode cX2_agreed 0 = .ok (.iload_n 1, 1) := by decide +kernel
theorem dX2_agreed_1 : decode cX2_agreed 1 = .ok (.invokestatic 46, 3) := by decide +kernel
theorem dX2_agreed_4 : decode cX2_agreed 4 = .ok (.ifCond .eq 48, 3) := by decide +kernel
theorem dX2_agreed_7 : decode cX2_agreed 7 = .ok (.aload_n 0, 1) := by decide +kernel
theorem dX2_agreed_8 : decode cX2_agreed 8 = .ok (.iload_n 2, 1) := by decide +kernel
theorem dX2_agreed_9 : decode cX2_agreed 9 = .ok (.iconst 1, 1) := by decide +kernel
theorem dX2_agreed_10 : decode cX2_agreed 10 = .ok (.invokevirtual 60, 3) := by decide +kernel
theorem dX2_agreed_13 : decode cX2_agreed 13 = .ok (.ifCond .eq 39, 3) := by decide +kernel
theorem dX2_agreed_16 : decode cX2_agreed 16 = .ok (.aload_n 0, 1) := by decide +kernel
theorem dX2_agreed_17 : decode cX2_agreed 17 = .ok (.iload_n 3, 1) := by decide +kernel
theorem dX2_agreed_18 : decode cX2_agreed 18 = .ok (.iconst 2, 1) := by decide +kernel
theorem dX2_agreed_19 : decode cX2_agreed 19 = .ok (.invokevirtual 60, 3) := by decide +kernel
theorem dX2_agreed_22 : decode cX2_agreed 22 = .ok (.ifCond .eq 30, 3) := by decide +kernel
theorem dX2_agreed_25 : decode cX2_agreed 25 = .ok (.aload_n 0, 1) := by decide +kernel
theorem dX2_agreed_26 : decode cX2_agreed 26 = .ok (.iload_n 1, 1) := by decide +kernel
theorem dX2_agreed_27 : decode cX2_agreed 27 = .ok (.aload_n 0, 1) := by decide +kernel
theorem dX2_agreed_28 : decode cX2_agreed 28 = .ok (.getfield 35, 3) := by decide +kernel
theorem dX2_agreed_31 : decode cX2_agreed 31 = .ok (.iload_n 2, 1) := by decide +kernel
theorem dX2_agreed_32 : decode cX2_agreed 32 = .ok (.iaload, 1) := by decide +kernel
theorem dX2_agreed_33 : decode cX2_agreed 33 = .ok (.aload_n 0, 1) := by decide +kernel
theorem dX2_agreed_34 : decode cX2_agreed 34 = .ok (.getfield 13, 3) := by decide +kernel
theorem dX2_agreed_37 : decode cX2_agreed 37 = .ok (.aload_n 0, 1) := by decide +kernel
theorem dX2_agreed_38 : decode cX2_agreed 38 = .ok (.getfield 35, 3) := by decide +kernel
theorem dX2_agreed_41 : decode cX2_agreed 41 = .ok (.iload_n 3, 1) := by decide +kernel
theorem dX2_agreed_42 : decode cX2_agreed 42 = .ok (.iaload, 1) := by decide +kernel
theorem dX2_agreed_43 : decode cX2_agreed 43 = .ok (.iconst 1, 1) := by decide +kernel
theorem dX2_agreed_44 : decode cX2_agreed 44 = .ok (.isub, 1) := by decide +kernel
theorem dX2_agreed_45 : decode cX2_agreed 45 = .ok (.iaload, 1) := by decide +kernel
theorem dX2_agreed_46 : decode cX2_agreed 46 = .ok (.invokevirtual 64, 3) := by decide +kernel
theorem dX2_agreed_49 : decode cX2_agreed 49 = .ok (.goto 4, 3) := by decide +kernel
theorem dX2_agreed_52 : decode cX2_agreed 52 = .ok (.iconst (-1), 1) := by decide +kernel
theorem dX2_agreed_53 : decode cX2_agreed 53 = .ok (.ireturn, 1) := by decide +kernel
theorem dX2_mix_0 : decode cX2_mix 0 = .ok (.iload_n 1, 1) := by decide +kernel
theorem dX2_mix_1 : decode cX2_mix 1 = .ok (.invokestatic 46, 3) := by decide +kernel
theorem dX2_mix_4 : decode cX2_mix 4 = .ok (.ifCond .eq 36, 3) := by decide +kernel
theorem dX2_mix_7 : decode cX2_mix 7 = .ok (.iload_n 2, 1) := by decide +kernel
theorem dX2_mix_8 : decode cX2_mix 8 = .ok (.ifCond .lt 32, 3) := by decide +kernel
theorem dX2_mix_11 : decode cX2_mix 11 = .ok (.iload_n 2, 1) := by decide +kernel
theorem dX2_mix_12 : decode cX2_mix 12 = .ok (.bipush 9, 2) := by decide +kernel
theorem dX2_mix_14 : decode cX2_mix 14 = .ok (.if_icmp .gt 26, 3) := by decide +kernel
theorem dX2_mix_17 : decode cX2_mix 17 = .ok (.aload_n 0, 1) := by decide +kernel
theorem dX2_mix_18 : decode cX2_mix 18 = .ok (.iload_n 3, 1) := by decide +kernel
theorem dX2_mix_19 : decode cX2_mix 19 = .ok (.invokevirtual 50, 3) := by decide +kernel
theorem dX2_mix_22 : decode cX2_mix 22 = .ok (.ifCond .eq 18, 3) := by decide +kernel
theorem dX2_mix_25 : decode cX2_mix 25 = .ok (.iload 4, 2) := by decide +kernel
theorem dX2_mix_27 : decode cX2_mix 27 = .ok (.iconst (-1), 1) := by decide +kernel
theorem dX2_mix_28 : decode cX2_mix 28 = .ok (.if_icmp .eq 14, 3) := by decide +kernel
theorem dX2_mix_31 : decode cX2_mix 31 = .ok (.aload_n 0, 1) := by decide +kernel
theorem dX2_mix_32 : decode cX2_mix 32 = .ok (.iload 4, 2) := by decide +kernel
theorem dX2_mix_34 : decode cX2_mix 34 = .ok (.invokevirtual 50, 3) := by decide +kernel
theorem dX2_mix_37 : decode cX2_mix 37 = .ok (.ifCond .ne 5, 3) := by decide +kernel
theorem dX2_mix_40 : decode cX2_mix 40 = .ok (.iconst (-1), 1) := by decide +kernel
theorem dX2_mix_41 : decode cX2_mix 41 = .ok (.ireturn, 1) := by decide +kernel
theorem dX2_mix_42 : decode cX2_mix 42 = .ok (.aload_n 0, 1) := by decide +kernel
theorem dX2_mix_43 : decode cX2_mix 43 = .ok (.iload_n 1, 1) := by decide +kernel
theorem dX2_mix_44 : decode cX2_mix 44 = .ok (.iconst 4, 1) := by decide +kernel
theorem dX2_mix_45 : decode cX2_mix 45 = .ok (.iload_n 2, 1) := by decide +kernel
theorem dX2_mix_46 : decode cX2_mix 46 = .ok (.aload_n 0, 1) := by decide +kernel
theorem dX2_mix_47 : decode cX2_mix 47 = .ok (.getfield 35, 3) := by decide +kernel
theorem dX2_mix_50 : decode cX2_mix 50 = .ok (.iload_n 3, 1) := by decide +kernel
theorem dX2_mix_51 : decode cX2_mix 51 = .ok (.iaload, 1) := by decide +kernel
theorem dX2_mix_52 : decode cX2_mix 52 = .ok (.iload 4, 2) := by decide +kernel
theorem dX2_mix_54 : decode cX2_mix 54 = .ok (.iconst (-1), 1) := by decide +kernel
theorem dX2_mix_55 : decode cX2_mix 55 = .ok (.if_icmp .ne 7, 3) := by decide +kernel
theorem dX2_mix_58 : decode cX2_mix 58 = .ok (.iconst 0, 1) := by decide +kernel
theorem dX2_mix_59 : decode cX2_mix 59 = .ok (.goto 10, 3) := by decide +kernel
theorem dX2_mix_62 : decode cX2_mix 62 = .ok (.aload_n 0, 1) := by decide +kernel
theorem dX2_mix_63 : decode cX2_mix 63 = .ok (.getfield 35, 3) := by decide +kernel
theorem dX2_mix_66 : decode cX2_mix 66 = .ok (.iload 4, 2) := by decide +kernel
theorem dX2_mix_68 : decode cX2_mix 68 = .ok (.iaload, 1) := by decide +kernel
theorem dX2_mix_69 : decode cX2_mix 69 = .ok (.invokevirtual 56, 3) := by decide +kernel
theorem dX2_mix_72 : decode cX2_mix 72 = .ok (.ireturn, 1) := by decide +kernel
theorem dX2_sealed_0 : decode cX2_sealed 0 = .ok (.iload_n 1, 1) := by decide +kernel
theorem dX2_sealed_1 : decode cX2_sealed 1 = .ok (.invokestatic 46, 3) := by decide +kernel
theorem dX2_sealed_4 : decode cX2_sealed 4 = .ok (.ifCond .eq 56, 3) := by decide +kernel
theorem dX2_sealed_7 : decode cX2_sealed 7 = .ok (.aload_n 0, 1) := by decide +kernel
theorem dX2_sealed_8 : decode cX2_sealed 8 = .ok (.iload_n 2, 1) := by decide +kernel
theorem dX2_sealed_9 : decode cX2_sealed 9 = .ok (.invokevirtual 50, 3) := by decide +kernel
theorem dX2_sealed_12 : decode cX2_sealed 12 = .ok (.ifCond .eq 48, 3) := by decide +kernel
theorem dX2_sealed_15 : decode cX2_sealed 15 = .ok (.aload_n 0, 1) := by decide +kernel
theorem dX2_sealed_16 : decode cX2_sealed 16 = .ok (.iload_n 3, 1) := by decide +kernel
theorem dX2_sealed_17 : decode cX2_sealed 17 = .ok (.invokevirtual 50, 3) := by decide +kernel
theorem dX2_sealed_20 : decode cX2_sealed 20 = .ok (.ifCond .eq 40, 3) := by decide +kernel
theorem dX2_sealed_23 : decode cX2_sealed 23 = .ok (.aload_n 0, 1) := by decide +kernel
theorem dX2_sealed_24 : decode cX2_sealed 24 = .ok (.iload 4, 2) := by decide +kernel
theorem dX2_sealed_26 : decode cX2_sealed 26 = .ok (.invokevirtual 50, 3) := by decide +kernel
theorem dX2_sealed_29 : decode cX2_sealed 29 = .ok (.ifCond .eq 31, 3) := by decide +kernel
theorem dX2_sealed_32 : decode cX2_sealed 32 = .ok (.aload_n 0, 1) := by decide +kernel
theorem dX2_sealed_33 : decode cX2_sealed 33 = .ok (.iload_n 1, 1) := by decide +kernel
theorem dX2_sealed_34 : decode cX2_sealed 34 = .ok (.iconst 5, 1) := by decide +kernel
theorem dX2_sealed_35 : decode cX2_sealed 35 = .ok (.aload_n 0, 1) := by decide +kernel
theorem dX2_sealed_36 : decode cX2_sealed 36 = .ok (.getfield 35, 3) := by decide +kernel
theorem dX2_sealed_39 : decode cX2_sealed 39 = .ok (.iload_n 2, 1) := by decide +kernel
theorem dX2_sealed_40 : decode cX2_sealed 40 = .ok (.iaload, 1) := by decide +kernel
theorem dX2_sealed_41 : decode cX2_sealed 41 = .ok (.aload_n 0, 1) := by decide +kernel
theorem dX2_sealed_42 : decode cX2_sealed 42 = .ok (.getfield 35, 3) := by decide +kernel
theorem dX2_sealed_45 : decode cX2_sealed 45 = .ok (.iload_n 3, 1) := by decide +kernel
theorem dX2_sealed_46 : decode cX2_sealed 46 = .ok (.iaload, 1) := by decide +kernel
theorem dX2_sealed_47 : decode cX2_sealed 47 = .ok (.aload_n 0, 1) := by decide +kernel
theorem dX2_sealed_48 : decode cX2_sealed 48 = .ok (.getfield 35, 3) := by decide +kernel
theorem dX2_sealed_51 : decode cX2_sealed 51 = .ok (.iload 4, 2) := by decide +kernel
theorem dX2_sealed_53 : decode cX2_sealed 53 = .ok (.iaload, 1) := by decide +kernel
theorem dX2_sealed_54 : decode cX2_sealed 54 = .ok (.invokevirtual 56, 3) := by decide +kernel
theorem dX2_sealed_57 : decode cX2_sealed 57 = .ok (.goto 4, 3) := by decide +kernel
theorem dX2_sealed_60 : decode cX2_sealed 60 = .ok (.iconst (-1), 1) := by decide +kernel
theorem dX2_sealed_61 : decode cX2_sealed 61 = .ok (.ireturn, 1) := by decide +kernel
theorem dX2_signed_0 : decode cX2_signed 0 = .ok (.iload_n 1, 1) := by decide +kernel
theorem dX2_signed_1 : decode cX2_signed 1 = .ok (.invokestatic 46, 3) := by decide +kernel
theorem dX2_signed_4 : decode cX2_signed 4 = .ok (.ifCond .eq 43, 3) := by decide +kernel
theorem dX2_signed_7 : decode cX2_signed 7 = .ok (.aload_n 0, 1) := by decide +kernel
theorem dX2_signed_8 : decode cX2_signed 8 = .ok (.iload_n 2, 1) := by decide +kernel
theorem dX2_signed_9 : decode cX2_signed 9 = .ok (.iconst 1, 1) := by decide +kernel
theorem dX2_signed_10 : decode cX2_signed 10 = .ok (.invokevirtual 60, 3) := by decide +kernel
theorem dX2_signed_13 : decode cX2_signed 13 = .ok (.ifCond .eq 34, 3) := by decide +kernel
theorem dX2_signed_16 : decode cX2_signed 16 = .ok (.aload_n 0, 1) := by decide +kernel
theorem dX2_signed_17 : decode cX2_signed 17 = .ok (.iload_n 3, 1) := by decide +kernel
theorem dX2_signed_18 : decode cX2_signed 18 = .ok (.invokevirtual 50, 3) := by decide +kernel
theorem dX2_signed_21 : decode cX2_signed 21 = .ok (.ifCond .eq 26, 3) := by decide +kernel
theorem dX2_signed_24 : decode cX2_signed 24 = .ok (.aload_n 0, 1) := by decide +kernel
theorem dX2_signed_25 : decode cX2_signed 25 = .ok (.iload_n 1, 1) := by decide +kernel
theorem dX2_signed_26 : decode cX2_signed 26 = .ok (.bipush 6, 2) := by decide +kernel
theorem dX2_signed_28 : decode cX2_signed 28 = .ok (.aload_n 0, 1) := by decide +kernel
theorem dX2_signed_29 : decode cX2_signed 29 = .ok (.getfield 35, 3) := by decide +kernel
theorem dX2_signed_32 : decode cX2_signed 32 = .ok (.iload_n 2, 1) := by decide +kernel
theorem dX2_signed_33 : decode cX2_signed 33 = .ok (.iaload, 1) := by decide +kernel
theorem dX2_signed_34 : decode cX2_signed 34 = .ok (.aload_n 0, 1) := by decide +kernel
theorem dX2_signed_35 : decode cX2_signed 35 = .ok (.getfield 35, 3) := by decide +kernel
theorem dX2_signed_38 : decode cX2_signed 38 = .ok (.iload_n 3, 1) := by decide +kernel
theorem dX2_signed_39 : decode cX2_signed 39 = .ok (.iaload, 1) := by decide +kernel
theorem dX2_signed_40 : decode cX2_signed 40 = .ok (.iconst 0, 1) := by decide +kernel
theorem dX2_signed_41 : decode cX2_signed 41 = .ok (.invokevirtual 56, 3) := by decide +kernel
theorem dX2_signed_44 : decode cX2_signed 44 = .ok (.goto 4, 3) := by decide +kernel
theorem dX2_signed_47 : decode cX2_signed 47 = .ok (.iconst (-1), 1) := by decide +kernel
theorem dX2_signed_48 : decode cX2_signed 48 = .ok (.ireturn, 1) := by decide +kernel
theorem dX2_row_0 : decode cX2_row 0 = .ok (.iload_n 1, 1) := by decide +kernel
theorem dX2_row_1 : decode cX2_row 1 = .ok (.invokestatic 46, 3) := by decide +kernel
theorem dX2_row_4 : decode cX2_row 4 = .ok (.ifCond .eq 14, 3) := by decide +kernel
theorem dX2_row_7 : decode cX2_row 7 = .ok (.iload_n 2, 1) := by decide +kernel
theorem dX2_row_8 : decode cX2_row 8 = .ok (.iconst 1, 1) := by decide +kernel
theorem dX2_row_9 : decode cX2_row 9 = .ok (.if_icmp .lt 9, 3) := by decide +kernel
theorem dX2_row_12 : decode cX2_row 12 = .ok (.iload_n 2, 1) := by decide +kernel
theorem dX2_row_13 : decode cX2_row 13 = .ok (.bipush 7, 2) := by decide +kernel
theorem dX2_row_15 : decode cX2_row 15 = .ok (.if_icmp .le 5, 3) := by decide +kernel
theorem dX2_row_18 : decode cX2_row 18 = .ok (.iconst (-1), 1) := by decide +kernel
theorem dX2_row_19 : decode cX2_row 19 = .ok (.ireturn, 1) := by decide +kernel
theorem dX2_row_20 : decode cX2_row 20 = .ok (.iconst 0, 1) := by decide +kernel
theorem dX2_row_21 : decode cX2_row 21 = .ok (.istore_n 3, 1) := by decide +kernel
theorem dX2_row_22 : decode cX2_row 22 = .ok (.iload_n 3, 1) := by decide +kernel
theorem dX2_row_23 : decode cX2_row 23 = .ok (.bipush 8, 2) := by decide +kernel
theorem dX2_row_25 : decode cX2_row 25 = .ok (.if_icmp .ge 16, 3) := by decide +kernel
theorem dX2_row_28 : decode cX2_row 28 = .ok (.aload_n 0, 1) := by decide +kernel
theorem dX2_row_29 : decode cX2_row 29 = .ok (.getfield 32, 3) := by decide +kernel
theorem dX2_row_32 : decode cX2_row 32 = .ok (.iload_n 3, 1) := by decide +kernel
theorem dX2_row_33 : decode cX2_row 33 = .ok (.iconst 0, 1) := by decide +kernel
theorem dX2_row_34 : decode cX2_row 34 = .ok (.iastore, 1) := by decide +kernel
theorem dX2_row_35 : decode cX2_row 35 = .ok (.iinc 3 1, 3) := by decide +kernel
theorem dX2_row_38 : decode cX2_row 38 = .ok (.goto (-16), 3) := by decide +kernel
theorem dX2_row_41 : decode cX2_row 41 = .ok (.aload_n 0, 1) := by decide +kernel
theorem dX2_row_42 : decode cX2_row 42 = .ok (.iload_n 1, 1) := by decide +kernel
theorem dX2_row_43 : decode cX2_row 43 = .ok (.bipush 7, 2) := by decide +kernel
theorem dX2_row_45 : decode cX2_row 45 = .ok (.iload_n 2, 1) := by decide +kernel
theorem dX2_row_46 : decode cX2_row 46 = .ok (.iconst 0, 1) := by decide +kernel
theorem dX2_row_47 : decode cX2_row 47 = .ok (.iconst 0, 1) := by decide +kernel
theorem dX2_row_48 : decode cX2_row 48 = .ok (.invokevirtual 56, 3) := by decide +kernel
theorem dX2_row_51 : decode cX2_row 51 = .ok (.ireturn, 1) := by decide +kernel
theorem dX2_copy_0 : decode cX2_copy 0 = .ok (.iconst 0, 1) := by decide +kernel
theorem dX2_copy_1 : decode cX2_copy 1 = .ok (.istore_n 2, 1) := by decide +kernel
theorem dX2_copy_2 : decode cX2_copy 2 = .ok (.iload_n 2, 1) := by decide +kernel
theorem dX2_copy_3 : decode cX2_copy 3 = .ok (.bipush 8, 2) := by decide +kernel
theorem dX2_copy_5 : decode cX2_copy 5 = .ok (.if_icmp .ge 33, 3) := by decide +kernel
theorem dX2_copy_8 : decode cX2_copy 8 = .ok (.aload_n 0, 1) := by decide +kernel
theorem dX2_copy_9 : decode cX2_copy 9 = .ok (.getfield 32, 3) := by decide +kernel
theorem dX2_copy_12 : decode cX2_copy 12 = .ok (.iload_n 2, 1) := by decide +kernel
theorem dX2_copy_13 : decode cX2_copy 13 = .ok (.aload_n 0, 1) := by decide +kernel
theorem dX2_copy_14 : decode cX2_copy 14 = .ok (.getfield 22, 3) := by decide +kernel
theorem dX2_copy_17 : decode cX2_copy 17 = .ok (.bipush 8, 2) := by decide +kernel
theorem dX2_copy_19 : decode cX2_copy 19 = .ok (.aload_n 0, 1) := by decide +kernel
theorem dX2_copy_20 : decode cX2_copy 20 = .ok (.getfield 35, 3) := by decide +kernel
theorem dX2_copy_23 : decode cX2_copy 23 = .ok (.iload_n 1, 1) := by decide +kernel
theorem dX2_copy_24 : decode cX2_copy 24 = .ok (.iaload, 1) := by decide +kernel
theorem dX2_copy_25 : decode cX2_copy 25 = .ok (.iconst 1, 1) := by decide +kernel
theorem dX2_copy_26 : decode cX2_copy 26 = .ok (.isub, 1) := by decide +kernel
theorem dX2_copy_27 : decode cX2_copy 27 = .ok (.imul, 1) := by decide +kernel
theorem dX2_copy_28 : decode cX2_copy 28 = .ok (.iload_n 2, 1) := by decide +kernel
theorem dX2_copy_29 : decode cX2_copy 29 = .ok (.iadd, 1) := by decide +kernel
theorem dX2_copy_30 : decode cX2_copy 30 = .ok (.iaload, 1) := by decide +kernel
theorem dX2_copy_31 : decode cX2_copy 31 = .ok (.iastore, 1) := by decide +kernel
theorem dX2_copy_32 : decode cX2_copy 32 = .ok (.iinc 2 1, 3) := by decide +kernel
theorem dX2_copy_35 : decode cX2_copy 35 = .ok (.goto (-33), 3) := by decide +kernel
theorem dX2_copy_38 : decode cX2_copy 38 = .ok (.return_, 1) := by decide +kernel
theorem dX2_alter_0 : decode cX2_alter 0 = .ok (.iload_n 1, 1) := by decide +kernel
theorem dX2_alter_1 : decode cX2_alter 1 = .ok (.invokestatic 46, 3) := by decide +kernel
theorem dX2_alter_4 : decode cX2_alter 4 = .ok (.ifCond .eq 40, 3) := by decide +kernel
theorem dX2_alter_7 : decode cX2_alter 7 = .ok (.aload_n 0, 1) := by decide +kernel
theorem dX2_alter_8 : decode cX2_alter 8 = .ok (.iload_n 2, 1) := by decide +kernel
theorem dX2_alter_9 : decode cX2_alter 9 = .ok (.bipush 7, 2) := by decide +kernel
theorem dX2_alter_11 : decode cX2_alter 11 = .ok (.invokevirtual 60, 3) := by decide +kernel
theorem dX2_alter_14 : decode cX2_alter 14 = .ok (.ifCond .eq 30, 3) := by decide +kernel
theorem dX2_alter_17 : decode cX2_alter 17 = .ok (.iload_n 3, 1) := by decide +kernel
theorem dX2_alter_18 : decode cX2_alter 18 = .ok (.ifCond .lt 26, 3) := by decide +kernel
theorem dX2_alter_21 : decode cX2_alter 21 = .ok (.iload_n 3, 1) := by decide +kernel
theorem dX2_alter_22 : decode cX2_alter 22 = .ok (.iconst 4, 1) := by decide +kernel
theorem dX2_alter_23 : decode cX2_alter 23 = .ok (.if_icmp .gt 21, 3) := by decide +kernel
theorem dX2_alter_26 : decode cX2_alter 26 = .ok (.iload_n 3, 1) := by decide +kernel
theorem dX2_alter_27 : decode cX2_alter 27 = .ok (.iconst 4, 1) := by decide +kernel
theorem dX2_alter_28 : decode cX2_alter 28 = .ok (.if_icmp .ne 18, 3) := by decide +kernel
theorem dX2_alter_31 : decode cX2_alter 31 = .ok (.iload 4, 2) := by decide +kernel
theorem dX2_alter_33 : decode cX2_alter 33 = .ok (.iconst 1, 1) := by decide +kernel
theorem dX2_alter_34 : decode cX2_alter 34 = .ok (.if_icmp .lt 10, 3) := by decide +kernel
theorem dX2_alter_37 : decode cX2_alter 37 = .ok (.iload 4, 2) := by decide +kernel
theorem dX2_alter_39 : decode cX2_alter 39 = .ok (.bipush 7, 2) := by decide +kernel
theorem dX2_alter_41 : decode cX2_alter 41 = .ok (.if_icmp .le 5, 3) := by decide +kernel
theorem dX2_alter_44 : decode cX2_alter 44 = .ok (.iconst (-1), 1) := by decide +kernel
theorem dX2_alter_45 : decode cX2_alter 45 = .ok (.ireturn, 1) := by decide +kernel
theorem dX2_alter_46 : decode cX2_alter 46 = .ok (.aload_n 0, 1) := by decide +kernel
theorem dX2_alter_47 : decode cX2_alter 47 = .ok (.iload_n 2, 1) := by decide +kernel
theorem dX2_alter_48 : decode cX2_alter 48 = .ok (.invokevirtual 68, 3) := by decide +kernel
theorem dX2_alter_51 : decode cX2_alter 51 = .ok (.iload_n 3, 1) := by decide +kernel
theorem dX2_alter_52 : decode cX2_alter 52 = .ok (.iconst 4, 1) := by decide +kernel
theorem dX2_alter_53 : decode cX2_alter 53 = .ok (.if_icmp .ge 11, 3) := by decide +kernel
theorem dX2_alter_56 : decode cX2_alter 56 = .ok (.aload_n 0, 1) := by decide +kernel
theorem dX2_alter_57 : decode cX2_alter 57 = .ok (.getfield 32, 3) := by decide +kernel
theorem dX2_alter_60 : decode cX2_alter 60 = .ok (.iload_n 3, 1) := by decide +kernel
theorem dX2_alter_61 : decode cX2_alter 61 = .ok (.iload 4, 2) := by decide +kernel
theorem dX2_alter_63 : decode cX2_alter 63 = .ok (.iastore, 1) := by decide +kernel
theorem dX2_alter_64 : decode cX2_alter 64 = .ok (.aload_n 0, 1) := by decide +kernel
theorem dX2_alter_65 : decode cX2_alter 65 = .ok (.iload_n 1, 1) := by decide +kernel
theorem dX2_alter_66 : decode cX2_alter 66 = .ok (.bipush 7, 2) := by decide +kernel
theorem dX2_alter_68 : decode cX2_alter 68 = .ok (.iload_n 3, 1) := by decide +kernel
theorem dX2_alter_69 : decode cX2_alter 69 = .ok (.iconst 4, 1) := by decide +kernel
theorem dX2_alter_70 : decode cX2_alter 70 = .ok (.if_icmp .ne 8, 3) := by decide +kernel
theorem dX2_alter_73 : decode cX2_alter 73 = .ok (.iload 4, 2) := by decide +kernel
theorem dX2_alter_75 : decode cX2_alter 75 = .ok (.goto 16, 3) := by decide +kernel
theorem dX2_alter_78 : decode cX2_alter 78 = .ok (.aload_n 0, 1) := by decide +kernel
theorem dX2_alter_79 : decode cX2_alter 79 = .ok (.getfield 13, 3) := by decide +kernel
theorem dX2_alter_82 : decode cX2_alter 82 = .ok (.aload_n 0, 1) := by decide +kernel
theorem dX2_alter_83 : decode cX2_alter 83 = .ok (.getfield 35, 3) := by decide +kernel
theorem dX2_alter_86 : decode cX2_alter 86 = .ok (.iload_n 2, 1) := by decide +kernel
theorem dX2_alter_87 : decode cX2_alter 87 = .ok (.iaload, 1) := by decide +kernel
theorem dX2_alter_88 : decode cX2_alter 88 = .ok (.iconst 1, 1) := by decide +kernel
theorem dX2_alter_89 : decode cX2_alter 89 = .ok (.isub, 1) := by decide +kernel
theorem dX2_alter_90 : decode cX2_alter 90 = .ok (.iaload, 1) := by decide +kernel
theorem dX2_alter_91 : decode cX2_alter 91 = .ok (.iconst 0, 1) := by decide +kernel
theorem dX2_alter_92 : decode cX2_alter 92 = .ok (.iconst 0, 1) := by decide +kernel
theorem dX2_alter_93 : decode cX2_alter 93 = .ok (.invokevirtual 56, 3) := by decide +kernel
theorem dX2_alter_96 : decode cX2_alter 96 = .ok (.ireturn, 1) := by decide +kernel
theorem dX2_swap_0 : decode cX2_swap 0 = .ok (.iload_n 1, 1) := by decide +kernel
theorem dX2_swap_1 : decode cX2_swap 1 = .ok (.invokestatic 46, 3) := by decide +kernel
theorem dX2_swap_4 : decode cX2_swap 4 = .ok (.ifCond .eq 37, 3) := by decide +kernel
theorem dX2_swap_7 : decode cX2_swap 7 = .ok (.aload_n 0, 1) := by decide +kernel
theorem dX2_swap_8 : decode cX2_swap 8 = .ok (.iload_n 2, 1) := by decide +kernel
theorem dX2_swap_9 : decode cX2_swap 9 = .ok (.bipush 7, 2) := by decide +kernel
theorem dX2_swap_11 : decode cX2_swap 11 = .ok (.invokevirtual 60, 3) := by decide +kernel
theorem dX2_swap_14 : decode cX2_swap 14 = .ok (.ifCond .eq 27, 3) := by decide +kernel
theorem dX2_swap_17 : decode cX2_swap 17 = .ok (.iload_n 3, 1) := by decide +kernel
theorem dX2_swap_18 : decode cX2_swap 18 = .ok (.ifCond .lt 23, 3) := by decide +kernel
theorem dX2_swap_21 : decode cX2_swap 21 = .ok (.iload_n 3, 1) := by decide +kernel
theorem dX2_swap_22 : decode cX2_swap 22 = .ok (.iconst 3, 1) := by decide +kernel
theorem dX2_swap_23 : decode cX2_swap 23 = .ok (.if_icmp .gt 18, 3) := by decide +kernel
theorem dX2_swap_26 : decode cX2_swap 26 = .ok (.iload 4, 2) := by decide +kernel
theorem dX2_swap_28 : decode cX2_swap 28 = .ok (.iconst (-1), 1) := by decide +kernel
theorem dX2_swap_29 : decode cX2_swap 29 = .ok (.if_icmp .eq 14, 3) := by decide +kernel
theorem dX2_swap_32 : decode cX2_swap 32 = .ok (.aload_n 0, 1) := by decide +kernel
theorem dX2_swap_33 : decode cX2_swap 33 = .ok (.iload 4, 2) := by decide +kernel
theorem dX2_swap_35 : decode cX2_swap 35 = .ok (.invokevirtual 50, 3) := by decide +kernel
theorem dX2_swap_38 : decode cX2_swap 38 = .ok (.ifCond .ne 5, 3) := by decide +kernel
theorem dX2_swap_41 : decode cX2_swap 41 = .ok (.iconst (-1), 1) := by decide +kernel
theorem dX2_swap_42 : decode cX2_swap 42 = .ok (.ireturn, 1) := by decide +kernel
theorem dX2_swap_43 : decode cX2_swap 43 = .ok (.aload_n 0, 1) := by decide +kernel
theorem dX2_swap_44 : decode cX2_swap 44 = .ok (.iload_n 2, 1) := by decide +kernel
theorem dX2_swap_45 : decode cX2_swap 45 = .ok (.invokevirtual 68, 3) := by decide +kernel
theorem dX2_swap_48 : decode cX2_swap 48 = .ok (.aload_n 0, 1) := by decide +kernel
theorem dX2_swap_49 : decode cX2_swap 49 = .ok (.getfield 32, 3) := by decide +kernel
theorem dX2_swap_52 : decode cX2_swap 52 = .ok (.iconst 4, 1) := by decide +kernel
theorem dX2_swap_53 : decode cX2_swap 53 = .ok (.iload_n 3, 1) := by decide +kernel
theorem dX2_swap_54 : decode cX2_swap 54 = .ok (.iadd, 1) := by decide +kernel
theorem dX2_swap_55 : decode cX2_swap 55 = .ok (.iload 4, 2) := by decide +kernel
theorem dX2_swap_57 : decode cX2_swap 57 = .ok (.iconst (-1), 1) := by decide +kernel
theorem dX2_swap_58 : decode cX2_swap 58 = .ok (.if_icmp .ne 7, 3) := by decide +kernel
theorem dX2_swap_61 : decode cX2_swap 61 = .ok (.iconst 0, 1) := by decide +kernel
theorem dX2_swap_62 : decode cX2_swap 62 = .ok (.goto 10, 3) := by decide +kernel
theorem dX2_swap_65 : decode cX2_swap 65 = .ok (.aload_n 0, 1) := by decide +kernel
theorem dX2_swap_66 : decode cX2_swap 66 = .ok (.getfield 35, 3) := by decide +kernel
theorem dX2_swap_69 : decode cX2_swap 69 = .ok (.iload 4, 2) := by decide +kernel
theorem dX2_swap_71 : decode cX2_swap 71 = .ok (.iaload, 1) := by decide +kernel
theorem dX2_swap_72 : decode cX2_swap 72 = .ok (.iastore, 1) := by decide +kernel
theorem dX2_swap_73 : decode cX2_swap 73 = .ok (.aload_n 0, 1) := by decide +kernel
theorem dX2_swap_74 : decode cX2_swap 74 = .ok (.iload_n 1, 1) := by decide +kernel
theorem dX2_swap_75 : decode cX2_swap 75 = .ok (.bipush 7, 2) := by decide +kernel
theorem dX2_swap_77 : decode cX2_swap 77 = .ok (.aload_n 0, 1) := by decide +kernel
theorem dX2_swap_78 : decode cX2_swap 78 = .ok (.getfield 13, 3) := by decide +kernel
theorem dX2_swap_81 : decode cX2_swap 81 = .ok (.aload_n 0, 1) := by decide +kernel
theorem dX2_swap_82 : decode cX2_swap 82 = .ok (.getfield 35, 3) := by decide +kernel
theorem dX2_swap_85 : decode cX2_swap 85 = .ok (.iload_n 2, 1) := by decide +kernel
theorem dX2_swap_86 : decode cX2_swap 86 = .ok (.iaload, 1) := by decide +kernel
theorem dX2_swap_87 : decode cX2_swap 87 = .ok (.iconst 1, 1) := by decide +kernel
theorem dX2_swap_88 : decode cX2_swap 88 = .ok (.isub, 1) := by decide +kernel
theorem dX2_swap_89 : decode cX2_swap 89 = .ok (.iaload, 1) := by decide +kernel
theorem dX2_swap_90 : decode cX2_swap 90 = .ok (.iconst 0, 1) := by decide +kernel
theorem dX2_swap_91 : decode cX2_swap 91 = .ok (.iconst 0, 1) := by decide +kernel
theorem dX2_swap_92 : decode cX2_swap 92 = .ok (.invokevirtual 56, 3) := by decide +kernel
theorem dX2_swap_95 : decode cX2_swap 95 = .ok (.ireturn, 1) := by decide +kernel
theorem dX2_partOf_0 : decode cX2_partOf 0 = .ok (.iload_n 2, 1) := by decide +kernel
theorem dX2_partOf_1 : decode cX2_partOf 1 = .ok (.ifCond .lt 9, 3) := by decide +kernel
theorem dX2_partOf_4 : decode cX2_partOf 4 = .ok (.iload_n 2, 1) := by decide +kernel
theorem dX2_partOf_5 : decode cX2_partOf 5 = .ok (.bipush 9, 2) := by decide +kernel
theorem dX2_partOf_7 : decode cX2_partOf 7 = .ok (.if_icmp .le 5, 3) := by decide +kernel
theorem dX2_partOf_10 : decode cX2_partOf 10 = .ok (.iconst 0, 1) := by decide +kernel
theorem dX2_partOf_11 : decode cX2_partOf 11 = .ok (.ireturn, 1) := by decide +kernel
theorem dX2_partOf_12 : decode cX2_partOf 12 = .ok (.iload_n 2, 1) := by decide +kernel
theorem dX2_partOf_13 : decode cX2_partOf 13 = .ok (.iconst 4, 1) := by decide +kernel
theorem dX2_partOf_14 : decode cX2_partOf 14 = .ok (.if_icmp .ge 32, 3) := by decide +kernel
theorem dX2_partOf_17 : decode cX2_partOf 17 = .ok (.aload_n 0, 1) := by decide +kernel
theorem dX2_partOf_18 : decode cX2_partOf 18 = .ok (.getfield 9, 3) := by decide +kernel
theorem dX2_partOf_21 : decode cX2_partOf 21 = .ok (.iload_n 1, 1) := by decide +kernel
theorem dX2_partOf_22 : decode cX2_partOf 22 = .ok (.iaload, 1) := by decide +kernel
theorem dX2_partOf_23 : decode cX2_partOf 23 = .ok (.bipush 7, 2) := by decide +kernel
theorem dX2_partOf_25 : decode cX2_partOf 25 = .ok (.if_icmp .ne 19, 3) := by decide +kernel
theorem dX2_partOf_28 : decode cX2_partOf 28 = .ok (.aload_n 0, 1) := by decide +kernel
theorem dX2_partOf_29 : decode cX2_partOf 29 = .ok (.getfield 22, 3) := by decide +kernel
theorem dX2_partOf_32 : decode cX2_partOf 32 = .ok (.bipush 8, 2) := by decide +kernel
theorem dX2_partOf_34 : decode cX2_partOf 34 = .ok (.iload_n 1, 1) := by decide +kernel
theorem dX2_partOf_35 : decode cX2_partOf 35 = .ok (.imul, 1) := by decide +kernel
theorem dX2_partOf_36 : decode cX2_partOf 36 = .ok (.iconst 4, 1) := by decide +kernel
theorem dX2_partOf_37 : decode cX2_partOf 37 = .ok (.iadd, 1) := by decide +kernel
theorem dX2_partOf_38 : decode cX2_partOf 38 = .ok (.iload_n 2, 1) := by decide +kernel
theorem dX2_partOf_39 : decode cX2_partOf 39 = .ok (.iadd, 1) := by decide +kernel
theorem dX2_partOf_40 : decode cX2_partOf 40 = .ok (.iaload, 1) := by decide +kernel
theorem dX2_partOf_41 : decode cX2_partOf 41 = .ok (.goto 4, 3) := by decide +kernel
theorem dX2_partOf_44 : decode cX2_partOf 44 = .ok (.iconst 0, 1) := by decide +kernel
theorem dX2_partOf_45 : decode cX2_partOf 45 = .ok (.ireturn, 1) := by decide +kernel
theorem dX2_partOf_46 : decode cX2_partOf 46 = .ok (.iload_n 2, 1) := by decide +kernel
theorem dX2_partOf_47 : decode cX2_partOf 47 = .ok (.bipush 7, 2) := by decide +kernel
theorem dX2_partOf_49 : decode cX2_partOf 49 = .ok (.if_icmp .ge 52, 3) := by decide +kernel
theorem dX2_partOf_52 : decode cX2_partOf 52 = .ok (.aload_n 0, 1) := by decide +kernel
theorem dX2_partOf_53 : decode cX2_partOf 53 = .ok (.getfield 9, 3) := by decide +kernel
theorem dX2_partOf_56 : decode cX2_partOf 56 = .ok (.iload_n 1, 1) := by decide +kernel
theorem dX2_partOf_57 : decode cX2_partOf 57 = .ok (.iaload, 1) := by decide +kernel
theorem dX2_partOf_58 : decode cX2_partOf 58 = .ok (.iconst 5, 1) := by decide +kernel
theorem dX2_partOf_59 : decode cX2_partOf 59 = .ok (.if_icmp .eq 7, 3) := by decide +kernel
theorem dX2_partOf_62 : decode cX2_partOf 62 = .ok (.iconst 0, 1) := by decide +kernel
theorem dX2_partOf_63 : decode cX2_partOf 63 = .ok (.goto 37, 3) := by decide +kernel
theorem dX2_partOf_66 : decode cX2_partOf 66 = .ok (.iload_n 2, 1) := by decide +kernel
theorem dX2_partOf_67 : decode cX2_partOf 67 = .ok (.iconst 4, 1) := by decide +kernel
theorem dX2_partOf_68 : decode cX2_partOf 68 = .ok (.if_icmp .ne 12, 3) := by decide +kernel
theorem dX2_partOf_71 : decode cX2_partOf 71 = .ok (.aload_n 0, 1) := by decide +kernel
theorem dX2_partOf_72 : decode cX2_partOf 72 = .ok (.getfield 13, 3) := by decide +kernel
theorem dX2_partOf_75 : decode cX2_partOf 75 = .ok (.iload_n 1, 1) := by decide +kernel
theorem dX2_partOf_76 : decode cX2_partOf 76 = .ok (.iaload, 1) := by decide +kernel
theorem dX2_partOf_77 : decode cX2_partOf 77 = .ok (.goto 23, 3) := by decide +kernel
theorem dX2_partOf_80 : decode cX2_partOf 80 = .ok (.iload_n 2, 1) := by decide +kernel
theorem dX2_partOf_81 : decode cX2_partOf 81 = .ok (.iconst 5, 1) := by decide +kernel
theorem dX2_partOf_82 : decode cX2_partOf 82 = .ok (.if_icmp .ne 12, 3) := by decide +kernel
theorem dX2_partOf_85 : decode cX2_partOf 85 = .ok (.aload_n 0, 1) := by decide +kernel
theorem dX2_partOf_86 : decode cX2_partOf 86 = .ok (.getfield 16, 3) := by decide +kernel
theorem dX2_partOf_89 : decode cX2_partOf 89 = .ok (.iload_n 1, 1) := by decide +kernel
theorem dX2_partOf_90 : decode cX2_partOf 90 = .ok (.iaload, 1) := by decide +kernel
theorem dX2_partOf_91 : decode cX2_partOf 91 = .ok (.goto 9, 3) := by decide +kernel
theorem dX2_partOf_94 : decode cX2_partOf 94 = .ok (.aload_n 0, 1) := by decide +kernel
theorem dX2_partOf_95 : decode cX2_partOf 95 = .ok (.getfield 19, 3) := by decide +kernel
theorem dX2_partOf_98 : decode cX2_partOf 98 = .ok (.iload_n 1, 1) := by decide +kernel
theorem dX2_partOf_99 : decode cX2_partOf 99 = .ok (.iaload, 1) := by decide +kernel
theorem dX2_partOf_100 : decode cX2_partOf 100 = .ok (.ireturn, 1) := by decide +kernel
theorem dX2_partOf_101 : decode cX2_partOf 101 = .ok (.iload_n 2, 1) := by decide +kernel
theorem dX2_partOf_102 : decode cX2_partOf 102 = .ok (.bipush 7, 2) := by decide +kernel
theorem dX2_partOf_104 : decode cX2_partOf 104 = .ok (.if_icmp .ne 25, 3) := by decide +kernel
theorem dX2_partOf_107 : decode cX2_partOf 107 = .ok (.aload_n 0, 1) := by decide +kernel
theorem dX2_partOf_108 : decode cX2_partOf 108 = .ok (.getfield 9, 3) := by decide +kernel
theorem dX2_partOf_111 : decode cX2_partOf 111 = .ok (.iload_n 1, 1) := by decide +kernel
theorem dX2_partOf_112 : decode cX2_partOf 112 = .ok (.iaload, 1) := by decide +kernel
theorem dX2_partOf_113 : decode cX2_partOf 113 = .ok (.bipush 6, 2) := by decide +kernel
theorem dX2_partOf_115 : decode cX2_partOf 115 = .ok (.if_icmp .ne 12, 3) := by decide +kernel
theorem dX2_partOf_118 : decode cX2_partOf 118 = .ok (.aload_n 0, 1) := by decide +kernel
theorem dX2_partOf_119 : decode cX2_partOf 119 = .ok (.getfield 16, 3) := by decide +kernel
theorem dX2_partOf_122 : decode cX2_partOf 122 = .ok (.iload_n 1, 1) := by decide +kernel
theorem dX2_partOf_123 : decode cX2_partOf 123 = .ok (.iaload, 1) := by decide +kernel
theorem dX2_partOf_124 : decode cX2_partOf 124 = .ok (.goto 4, 3) := by decide +kernel
theorem dX2_partOf_127 : decode cX2_partOf 127 = .ok (.iconst 0, 1) := by decide +kernel
theorem dX2_partOf_128 : decode cX2_partOf 128 = .ok (.ireturn, 1) := by decide +kernel
theorem dX2_partOf_129 : decode cX2_partOf 129 = .ok (.aload_n 0, 1) := by decide +kernel
theorem dX2_partOf_130 : decode cX2_partOf 130 = .ok (.getfield 9, 3) := by decide +kernel
theorem dX2_partOf_133 : decode cX2_partOf 133 = .ok (.iload_n 1, 1) := by decide +kernel
theorem dX2_partOf_134 : decode cX2_partOf 134 = .ok (.iaload, 1) := by decide +kernel
theorem dX2_partOf_135 : decode cX2_partOf 135 = .ok (.iconst 4, 1) := by decide +kernel
theorem dX2_partOf_136 : decode cX2_partOf 136 = .ok (.if_icmp .eq 7, 3) := by decide +kernel
theorem dX2_partOf_139 : decode cX2_partOf 139 = .ok (.iconst 0, 1) := by decide +kernel
theorem dX2_partOf_140 : decode cX2_partOf 140 = .ok (.goto 24, 3) := by decide +kernel
theorem dX2_partOf_143 : decode cX2_partOf 143 = .ok (.iload_n 2, 1) := by decide +kernel
theorem dX2_partOf_144 : decode cX2_partOf 144 = .ok (.bipush 8, 2) := by decide +kernel
theorem dX2_partOf_146 : decode cX2_partOf 146 = .ok (.if_icmp .ne 12, 3) := by decide +kernel
theorem dX2_partOf_149 : decode cX2_partOf 149 = .ok (.aload_n 0, 1) := by decide +kernel
theorem dX2_partOf_150 : decode cX2_partOf 150 = .ok (.getfield 16, 3) := by decide +kernel
theorem dX2_partOf_153 : decode cX2_partOf 153 = .ok (.iload_n 1, 1) := by decide +kernel
theorem dX2_partOf_154 : decode cX2_partOf 154 = .ok (.iaload, 1) := by decide +kernel
theorem dX2_partOf_155 : decode cX2_partOf 155 = .ok (.goto 9, 3) := by decide +kernel
theorem dX2_partOf_158 : decode cX2_partOf 158 = .ok (.aload_n 0, 1) := by decide +kernel
theorem dX2_partOf_159 : decode cX2_partOf 159 = .ok (.getfield 19, 3) := by decide +kernel
theorem dX2_partOf_162 : decode cX2_partOf 162 = .ok (.iload_n 1, 1) := by decide +kernel
theorem dX2_partOf_163 : decode cX2_partOf 163 = .ok (.iaload, 1) := by decide +kernel
theorem dX2_partOf_164 : decode cX2_partOf 164 = .ok (.ireturn, 1) := by decide +kernel
theorem dX2_part_0 : decode cX2_part 0 = .ok (.iload_n 1, 1) := by decide +kernel
theorem dX2_part_1 : decode cX2_part 1 = .ok (.invokestatic 46, 3) := by decide +kernel
theorem dX2_part_4 : decode cX2_part 4 = .ok (.ifCond .eq 11, 3) := by decide +kernel
theorem dX2_part_7 : decode cX2_part 7 = .ok (.aload_n 0, 1) := by decide +kernel
theorem dX2_part_8 : decode cX2_part 8 = .ok (.iload_n 2, 1) := by decide +kernel
theorem dX2_part_9 : decode cX2_part 9 = .ok (.invokevirtual 50, 3) := by decide +kernel
theorem dX2_part_12 : decode cX2_part 12 = .ok (.ifCond .ne 5, 3) := by decide +kernel
theorem dX2_part_15 : decode cX2_part 15 = .ok (.iconst (-1), 1) := by decide +kernel
theorem dX2_part_16 : decode cX2_part 16 = .ok (.ireturn, 1) := by decide +kernel
theorem dX2_part_17 : decode cX2_part 17 = .ok (.aload_n 0, 1) := by decide +kernel
theorem dX2_part_18 : decode cX2_part 18 = .ok (.aload_n 0, 1) := by decide +kernel
theorem dX2_part_19 : decode cX2_part 19 = .ok (.getfield 35, 3) := by decide +kernel
theorem dX2_part_22 : decode cX2_part 22 = .ok (.iload_n 2, 1) := by decide +kernel
theorem dX2_part_23 : decode cX2_part 23 = .ok (.iaload, 1) := by decide +kernel
theorem dX2_part_24 : decode cX2_part 24 = .ok (.iconst 1, 1) := by decide +kernel
theorem dX2_part_25 : decode cX2_part 25 = .ok (.isub, 1) := by decide +kernel
theorem dX2_part_26 : decode cX2_part 26 = .ok (.iload_n 3, 1) := by decide +kernel
theorem dX2_part_27 : decode cX2_part 27 = .ok (.invokevirtual 72, 3) := by decide +kernel
theorem dX2_part_30 : decode cX2_part 30 = .ok (.istore 4, 2) := by decide +kernel
theorem dX2_part_32 : decode cX2_part 32 = .ok (.iload 4, 2) := by decide +kernel
theorem dX2_part_34 : decode cX2_part 34 = .ok (.ifCond .ne 5, 3) := by decide +kernel
theorem dX2_part_37 : decode cX2_part 37 = .ok (.iconst (-1), 1) := by decide +kernel
theorem dX2_part_38 : decode cX2_part 38 = .ok (.ireturn, 1) := by decide +kernel
theorem dX2_part_39 : decode cX2_part 39 = .ok (.aload_n 0, 1) := by decide +kernel
theorem dX2_part_40 : decode cX2_part 40 = .ok (.getfield 35, 3) := by decide +kernel
theorem dX2_part_43 : decode cX2_part 43 = .ok (.iload_n 1, 1) := by decide +kernel
theorem dX2_part_44 : decode cX2_part 44 = .ok (.iload 4, 2) := by decide +kernel
theorem dX2_part_46 : decode cX2_part 46 = .ok (.iastore, 1) := by decide +kernel
theorem dX2_part_47 : decode cX2_part 47 = .ok (.iconst 1, 1) := by decide +kernel
theorem dX2_part_48 : decode cX2_part 48 = .ok (.ireturn, 1) := by decide +kernel
theorem dX2_is_0 : decode cX2_is 0 = .ok (.iload_n 1, 1) := by decide +kernel
theorem dX2_is_1 : decode cX2_is 1 = .ok (.ifCond .eq 14, 3) := by decide +kernel
theorem dX2_is_4 : decode cX2_is 4 = .ok (.aload_n 0, 1) := by decide +kernel
theorem dX2_is_5 : decode cX2_is 5 = .ok (.getfield 29, 3) := by decide +kernel
theorem dX2_is_8 : decode cX2_is 8 = .ok (.iload_n 1, 1) := by decide +kernel
theorem dX2_is_9 : decode cX2_is 9 = .ok (.iconst 1, 1) := by decide +kernel
theorem dX2_is_10 : decode cX2_is 10 = .ok (.isub, 1) := by decide +kernel
theorem dX2_is_11 : decode cX2_is 11 = .ok (.baload, 1) := by decide +kernel
theorem dX2_is_12 : decode cX2_is 12 = .ok (.ifCond .eq 7, 3) := by decide +kernel
theorem dX2_is_15 : decode cX2_is 15 = .ok (.iconst 1, 1) := by decide +kernel
theorem dX2_is_16 : decode cX2_is 16 = .ok (.goto 4, 3) := by decide +kernel
theorem dX2_is_19 : decode cX2_is 19 = .ok (.iconst 0, 1) := by decide +kernel
theorem dX2_is_20 : decode cX2_is 20 = .ok (.ireturn, 1) := by decide +kernel
theorem dX2_shows_0 : decode cX2_shows 0 = .ok (.aload_n 0, 1) := by decide +kernel
theorem dX2_shows_1 : decode cX2_shows 1 = .ok (.getfield 29, 3) := by decide +kernel
theorem dX2_shows_4 : decode cX2_shows 4 = .ok (.iload_n 1, 1) := by decide +kernel
theorem dX2_shows_5 : decode cX2_shows 5 = .ok (.iconst 1, 1) := by decide +kernel
theorem dX2_shows_6 : decode cX2_shows 6 = .ok (.isub, 1) := by decide +kernel
theorem dX2_shows_7 : decode cX2_shows 7 = .ok (.baload, 1) := by decide +kernel
theorem dX2_shows_8 : decode cX2_shows 8 = .ok (.istore_n 2, 1) := by decide +kernel
theorem dX2_shows_9 : decode cX2_shows 9 = .ok (.iconst 0, 1) := by decide +kernel
theorem dX2_shows_10 : decode cX2_shows 10 = .ok (.istore_n 3, 1) := by decide +kernel
theorem dX2_shows_11 : decode cX2_shows 11 = .ok (.iload_n 3, 1) := by decide +kernel
theorem dX2_shows_12 : decode cX2_shows 12 = .ok (.aload_n 0, 1) := by decide +kernel
theorem dX2_shows_13 : decode cX2_shows 13 = .ok (.getfield 38, 3) := by decide +kernel
theorem dX2_shows_16 : decode cX2_shows 16 = .ok (.if_icmp .ge 48, 3) := by decide +kernel
theorem dX2_shows_19 : decode cX2_shows 19 = .ok (.iload_n 2, 1) := by decide +kernel
theorem dX2_shows_20 : decode cX2_shows 20 = .ok (.ifCond .ne 44, 3) := by decide +kernel
theorem dX2_shows_23 : decode cX2_shows 23 = .ok (.aload_n 0, 1) := by decide +kernel
theorem dX2_shows_24 : decode cX2_shows 24 = .ok (.getfield 9, 3) := by decide +kernel
theorem dX2_shows_27 : decode cX2_shows 27 = .ok (.iload_n 3, 1) := by decide +kernel
theorem dX2_shows_28 : decode cX2_shows 28 = .ok (.iaload, 1) := by decide +kernel
theorem dX2_shows_29 : decode cX2_shows 29 = .ok (.iconst 2, 1) := by decide +kernel
theorem dX2_shows_30 : decode cX2_shows 30 = .ok (.if_icmp .ne 26, 3) := by decide +kernel
theorem dX2_shows_33 : decode cX2_shows 33 = .ok (.aload_n 0, 1) := by decide +kernel
theorem dX2_shows_34 : decode cX2_shows 34 = .ok (.getfield 13, 3) := by decide +kernel
theorem dX2_shows_37 : decode cX2_shows 37 = .ok (.iload_n 3, 1) := by decide +kernel
theorem dX2_shows_38 : decode cX2_shows 38 = .ok (.iaload, 1) := by decide +kernel
theorem dX2_shows_39 : decode cX2_shows 39 = .ok (.iload_n 1, 1) := by decide +kernel
theorem dX2_shows_40 : decode cX2_shows 40 = .ok (.if_icmp .ne 16, 3) := by decide +kernel
theorem dX2_shows_43 : decode cX2_shows 43 = .ok (.aload_n 0, 1) := by decide +kernel
theorem dX2_shows_44 : decode cX2_shows 44 = .ok (.getfield 29, 3) := by decide +kernel
theorem dX2_shows_47 : decode cX2_shows 47 = .ok (.iload_n 3, 1) := by decide +kernel
theorem dX2_shows_48 : decode cX2_shows 48 = .ok (.baload, 1) := by decide +kernel
theorem dX2_shows_49 : decode cX2_shows 49 = .ok (.ifCond .eq 7, 3) := by decide +kernel
theorem dX2_shows_52 : decode cX2_shows 52 = .ok (.iconst 1, 1) := by decide +kernel
theorem dX2_shows_53 : decode cX2_shows 53 = .ok (.goto 4, 3) := by decide +kernel
theorem dX2_shows_56 : decode cX2_shows 56 = .ok (.iconst 0, 1) := by decide +kernel
theorem dX2_shows_57 : decode cX2_shows 57 = .ok (.istore_n 2, 1) := by decide +kernel
theorem dX2_shows_58 : decode cX2_shows 58 = .ok (.iinc 3 1, 3) := by decide +kernel
theorem dX2_shows_61 : decode cX2_shows 61 = .ok (.goto (-50), 3) := by decide +kernel
theorem dX2_shows_64 : decode cX2_shows 64 = .ok (.iload_n 2, 1) := by decide +kernel
theorem dX2_shows_65 : decode cX2_shows 65 = .ok (.ireturn, 1) := by decide +kernel
theorem dX2_canMake_0 : decode cX2_canMake 0 = .ok (.aload_n 0, 1) := by decide +kernel
theorem dX2_canMake_1 : decode cX2_canMake 1 = .ok (.getfield 9, 3) := by decide +kernel
theorem dX2_canMake_4 : decode cX2_canMake 4 = .ok (.iload_n 1, 1) := by decide +kernel
theorem dX2_canMake_5 : decode cX2_canMake 5 = .ok (.iaload, 1) := by decide +kernel
theorem dX2_canMake_6 : decode cX2_canMake 6 = .ok (.iconst 2, 1) := by decide +kernel
theorem dX2_canMake_7 : decode cX2_canMake 7 = .ok (.if_icmp .ne 14, 3) := by decide +kernel
theorem dX2_canMake_10 : decode cX2_canMake 10 = .ok (.aload_n 0, 1) := by decide +kernel
theorem dX2_canMake_11 : decode cX2_canMake 11 = .ok (.aload_n 0, 1) := by decide +kernel
theorem dX2_canMake_12 : decode cX2_canMake 12 = .ok (.getfield 13, 3) := by decide +kernel
theorem dX2_canMake_15 : decode cX2_canMake 15 = .ok (.iload_n 1, 1) := by decide +kernel
theorem dX2_canMake_16 : decode cX2_canMake 16 = .ok (.iaload, 1) := by decide +kernel
theorem dX2_canMake_17 : decode cX2_canMake 17 = .ok (.invokevirtual 76, 3) := by decide +kernel
theorem dX2_canMake_20 : decode cX2_canMake 20 = .ok (.ireturn, 1) := by decide +kernel
theorem dX2_canMake_21 : decode cX2_canMake 21 = .ok (.aload_n 0, 1) := by decide +kernel
theorem dX2_canMake_22 : decode cX2_canMake 22 = .ok (.getfield 9, 3) := by decide +kernel
theorem dX2_canMake_25 : decode cX2_canMake 25 = .ok (.iload_n 1, 1) := by decide +kernel
theorem dX2_canMake_26 : decode cX2_canMake 26 = .ok (.iaload, 1) := by decide +kernel
theorem dX2_canMake_27 : decode cX2_canMake 27 = .ok (.iconst 3, 1) := by decide +kernel
theorem dX2_canMake_28 : decode cX2_canMake 28 = .ok (.if_icmp .ne 61, 3) := by decide +kernel
theorem dX2_canMake_31 : decode cX2_canMake 31 = .ok (.aload_n 0, 1) := by decide +kernel
theorem dX2_canMake_32 : decode cX2_canMake 32 = .ok (.aload_n 0, 1) := by decide +kernel
theorem dX2_canMake_33 : decode cX2_canMake 33 = .ok (.getfield 13, 3) := by decide +kernel
theorem dX2_canMake_36 : decode cX2_canMake 36 = .ok (.iload_n 1, 1) := by decide +kernel
