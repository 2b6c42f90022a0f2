theorem dX0_init_0 : decode cX0_init 0 = .ok (.aload_n 0, 1) := by decide +kernel
theorem dX0_init_1 : decode cX0_init 1 = .ok (.invokespecial 3, 3) := by decide +kernel
theorem dX0_init_4 : decode cX0_init 4 = .ok (.aload_n 0, 1) := by decide +kernel
theorem dX0_init_5 : decode cX0_init 5 = .ok (.iload_n 1, 1) := by decide +kernel
theorem dX0_init_6 : decode cX0_init 6 = .ok (.putfield 9, 3) := by decide +kernel
theorem dX0_init_9 : decode cX0_init 9 = .ok (.aload_n 0, 1) := by decide +kernel
theorem dX0_init_10 : decode cX0_init 10 = .ok (.iload_n 2, 1) := by decide +kernel
theorem dX0_init_11 : decode cX0_init 11 = .ok (.putfield 15, 3) := by decide +kernel
theorem dX0_init_14 : decode cX0_init 14 = .ok (.aload_n 0, 1) := by decide +kernel
theorem dX0_init_15 : decode cX0_init 15 = .ok (.aload_n 3, 1) := by decide +kernel
theorem dX0_init_16 : decode cX0_init 16 = .ok (.putfield 18, 3) := by decide +kernel
theorem dX0_init_19 : decode cX0_init 19 = .ok (.aload_n 0, 1) := by decide +kernel
theorem dX0_init_20 : decode cX0_init 20 = .ok (.aload 4, 2) := by decide +kernel
theorem dX0_init_22 : decode cX0_init 22 = .ok (.putfield 22, 3) := by decide +kernel
theorem dX0_init_25 : decode cX0_init 25 = .ok (.aload_n 0, 1) := by decide +kernel
theorem dX0_init_26 : decode cX0_init 26 = .ok (.iconst 0, 1) := by decide +kernel
theorem dX0_init_27 : decode cX0_init 27 = .ok (.putfield 26, 3) := by decide +kernel
theorem dX0_init_30 : decode cX0_init 30 = .ok (.aload_n 0, 1) := by decide +kernel
theorem dX0_init_31 : decode cX0_init 31 = .ok (.iconst 0, 1) := by decide +kernel
theorem dX0_init_32 : decode cX0_init 32 = .ok (.putfield 29, 3) := by decide +kernel
theorem dX0_init_35 : decode cX0_init 35 = .ok (.aload_n 0, 1) := by decide +kernel
theorem dX0_init_36 : decode cX0_init 36 = .ok (.iconst 0, 1) := by decide +kernel
theorem dX0_init_37 : decode cX0_init 37 = .ok (.putfield 33, 3) := by decide +kernel
theorem dX0_init_40 : decode cX0_init 40 = .ok (.return_, 1) := by decide +kernel
theorem dX0_numberAt_0 : decode cX0_numberAt 0 = .ok (.iload_n 1, 1) := by decide +kernel
theorem dX0_numberAt_1 : decode cX0_numberAt 1 = .ok (.ifCond .lt 21, 3) := by decide +kernel
theorem dX0_numberAt_4 : decode cX0_numberAt 4 = .ok (.iload_n 1, 1) := by decide +kernel
theorem dX0_numberAt_5 : decode cX0_numberAt 5 = .ok (.aload_n 0, 1) := by decide +kernel
theorem dX0_numberAt_6 : decode cX0_numberAt 6 = .ok (.getfield 18, 3) := by decide +kernel
theorem dX0_numberAt_9 : decode cX0_numberAt 9 = .ok (.arraylength, 1) := by decide +kernel
theorem dX0_numberAt_10 : decode cX0_numberAt 10 = .ok (.if_icmp .ge 12, 3) := by decide +kernel
theorem dX0_numberAt_13 : decode cX0_numberAt 13 = .ok (.aload_n 0, 1) := by decide +kernel
theorem dX0_numberAt_14 : decode cX0_numberAt 14 = .ok (.getfield 18, 3) := by decide +kernel
theorem dX0_numberAt_17 : decode cX0_numberAt 17 = .ok (.iload_n 1, 1) := by decide +kernel
theorem dX0_numberAt_18 : decode cX0_numberAt 18 = .ok (.iaload, 1) := by decide +kernel
theorem dX0_numberAt_19 : decode cX0_numberAt 19 = .ok (.goto 4, 3) := by decide +kernel
theorem dX0_numberAt_22 : decode cX0_numberAt 22 = .ok (.iconst 0, 1) := by decide +kernel
theorem dX0_numberAt_23 : decode cX0_numberAt 23 = .ok (.ireturn, 1) := by decide +kernel
theorem dX0_partAt_0 : decode cX0_partAt 0 = .ok (.iload_n 1, 1) := by decide +kernel
theorem dX0_partAt_1 : decode cX0_partAt 1 = .ok (.ifCond .lt 21, 3) := by decide +kernel
theorem dX0_partAt_4 : decode cX0_partAt 4 = .ok (.iload_n 1, 1) := by decide +kernel
theorem dX0_partAt_5 : decode cX0_partAt 5 = .ok (.aload_n 0, 1) := by decide +kernel
theorem dX0_partAt_6 : decode cX0_partAt 6 = .ok (.getfield 22, 3) := by decide +kernel
theorem dX0_partAt_9 : decode cX0_partAt 9 = .ok (.arraylength, 1) := by decide +kernel
theorem dX0_partAt_10 : decode cX0_partAt 10 = .ok (.if_icmp .ge 12, 3) := by decide +kernel
theorem dX0_partAt_13 : decode cX0_partAt 13 = .ok (.aload_n 0, 1) := by decide +kernel
theorem dX0_partAt_14 : decode cX0_partAt 14 = .ok (.getfield 22, 3) := by decide +kernel
theorem dX0_partAt_17 : decode cX0_partAt 17 = .ok (.iload_n 1, 1) := by decide +kernel
theorem dX0_partAt_18 : decode cX0_partAt 18 = .ok (.aaload, 1) := by decide +kernel
theorem dX0_partAt_19 : decode cX0_partAt 19 = .ok (.goto 4, 3) := by decide +kernel
theorem dX0_partAt_22 : decode cX0_partAt 22 = .ok (.aconst_null, 1) := by decide +kernel
theorem dX0_partAt_23 : decode cX0_partAt 23 = .ok (.areturn, 1) := by decide +kernel
theorem dX0_withLabel_0 : decode cX0_withLabel 0 = .ok (.new 10, 3) := by decide +kernel
theorem dX0_withLabel_3 : decode cX0_withLabel 3 = .ok (.dup, 1) := by decide +kernel
theorem dX0_withLabel_4 : decode cX0_withLabel 4 = .ok (.aload_n 0, 1) := by decide +kernel
theorem dX0_withLabel_5 : decode cX0_withLabel 5 = .ok (.getfield 9, 3) := by decide +kernel
theorem dX0_withLabel_8 : decode cX0_withLabel 8 = .ok (.iload_n 1, 1) := by decide +kernel
theorem dX0_withLabel_9 : decode cX0_withLabel 9 = .ok (.aload_n 0, 1) := by decide +kernel
theorem dX0_withLabel_10 : decode cX0_withLabel 10 = .ok (.getfield 18, 3) := by decide +kernel
theorem dX0_withLabel_13 : decode cX0_withLabel 13 = .ok (.aload_n 0, 1) := by decide +kernel
theorem dX0_withLabel_14 : decode cX0_withLabel 14 = .ok (.getfield 22, 3) := by decide +kernel
theorem dX0_withLabel_17 : decode cX0_withLabel 17 = .ok (.invokespecial 36, 3) := by decide +kernel
theorem dX0_withLabel_20 : decode cX0_withLabel 20 = .ok (.areturn, 1) := by decide +kernel
theorem dX0_withNumber_0 : decode cX0_withNumber 0 = .ok (.iconst 4, 1) := by decide +kernel
theorem dX0_withNumber_1 : decode cX0_withNumber 1 = .ok (.newarray .int, 2) := by decide +kernel
theorem dX0_withNumber_3 : decode cX0_withNumber 3 = .ok (.astore_n 3, 1) := by decide +kernel
theorem dX0_withNumber_4 : decode cX0_withNumber 4 = .ok (.iconst 0, 1) := by decide +kernel
theorem dX0_withNumber_5 : decode cX0_withNumber 5 = .ok (.istore 4, 2) := by decide +kernel
theorem dX0_withNumber_7 : decode cX0_withNumber 7 = .ok (.iload 4, 2) := by decide +kernel
theorem dX0_withNumber_9 : decode cX0_withNumber 9 = .ok (.iconst 4, 1) := by decide +kernel
theorem dX0_withNumber_10 : decode cX0_withNumber 10 = .ok (.if_icmp .ge 29, 3) := by decide +kernel
theorem dX0_withNumber_13 : decode cX0_withNumber 13 = .ok (.aload_n 3, 1) := by decide +kernel
theorem dX0_withNumber_14 : decode cX0_withNumber 14 = .ok (.iload 4, 2) := by decide +kernel
theorem dX0_withNumber_16 : decode cX0_withNumber 16 = .ok (.iload 4, 2) := by decide +kernel
theorem dX0_withNumber_18 : decode cX0_withNumber 18 = .ok (.iload_n 1, 1) := by decide +kernel
theorem dX0_withNumber_19 : decode cX0_withNumber 19 = .ok (.if_icmp .ne 7, 3) := by decide +kernel
theorem dX0_withNumber_22 : decode cX0_withNumber 22 = .ok (.iload_n 2, 1) := by decide +kernel
theorem dX0_withNumber_23 : decode cX0_withNumber 23 = .ok (.goto 9, 3) := by decide +kernel
theorem dX0_withNumber_26 : decode cX0_withNumber 26 = .ok (.aload_n 0, 1) := by decide +kernel
theorem dX0_withNumber_27 : decode cX0_withNumber 27 = .ok (.iload 4, 2) := by decide +kernel
theorem dX0_withNumber_29 : decode cX0_withNumber 29 = .ok (.invokevirtual 39, 3) := by decide +kernel
theorem dX0_withNumber_32 : decode cX0_withNumber 32 = .ok (.iastore, 1) := by decide +kernel
theorem dX0_withNumber_33 : decode cX0_withNumber 33 = .ok (.iinc 4 1, 3) := by decide +kernel
theorem dX0_withNumber_36 : decode cX0_withNumber 36 = .ok (.goto (-29), 3) := by decide +kernel
theorem dX0_withNumber_39 : decode cX0_withNumber 39 = .ok (.new 10, 3) := by decide +kernel
theorem dX0_withNumber_42 : decode cX0_withNumber 42 = .ok (.dup, 1) := by decide +kernel
theorem dX0_withNumber_43 : decode cX0_withNumber 43 = .ok (.aload_n 0, 1) := by decide +kernel
theorem dX0_withNumber_44 : decode cX0_withNumber 44 = .ok (.getfield 9, 3) := by decide +kernel
theorem dX0_withNumber_47 : decode cX0_withNumber 47 = .ok (.aload_n 0, 1) := by decide +kernel
theorem dX0_withNumber_48 : decode cX0_withNumber 48 = .ok (.getfield 15, 3) := by decide +kernel
theorem dX0_withNumber_51 : decode cX0_withNumber 51 = .ok (.aload_n 3, 1) := by decide +kernel
theorem dX0_withNumber_52 : decode cX0_withNumber 52 = .ok (.aload_n 0, 1) := by decide +kernel
theorem dX0_withNumber_53 : decode cX0_withNumber 53 = .ok (.getfield 22, 3) := by decide +kernel
theorem dX0_withNumber_56 : decode cX0_withNumber 56 = .ok (.invokespecial 36, 3) := by decide +kernel
theorem dX0_withNumber_59 : decode cX0_withNumber 59 = .ok (.areturn, 1) := by decide +kernel
theorem dX0_withPart_0 : decode cX0_withPart 0 = .ok (.iconst 4, 1) := by decide +kernel
theorem dX0_withPart_1 : decode cX0_withPart 1 = .ok (.anewarray 10, 3) := by decide +kernel
theorem dX0_withPart_4 : decode cX0_withPart 4 = .ok (.astore_n 3, 1) := by decide +kernel
theorem dX0_withPart_5 : decode cX0_withPart 5 = .ok (.iconst 0, 1) := by decide +kernel
theorem dX0_withPart_6 : decode cX0_withPart 6 = .ok (.istore 4, 2) := by decide +kernel
theorem dX0_withPart_8 : decode cX0_withPart 8 = .ok (.iload 4, 2) := by decide +kernel
theorem dX0_withPart_10 : decode cX0_withPart 10 = .ok (.iconst 4, 1) := by decide +kernel
theorem dX0_withPart_11 : decode cX0_withPart 11 = .ok (.if_icmp .ge 29, 3) := by decide +kernel
theorem dX0_withPart_14 : decode cX0_withPart 14 = .ok (.aload_n 3, 1) := by decide +kernel
theorem dX0_withPart_15 : decode cX0_withPart 15 = .ok (.iload 4, 2) := by decide +kernel
theorem dX0_withPart_17 : decode cX0_withPart 17 = .ok (.iload 4, 2) := by decide +kernel
theorem dX0_withPart_19 : decode cX0_withPart 19 = .ok (.iload_n 1, 1) := by decide +kernel
theorem dX0_withPart_20 : decode cX0_withPart 20 = .ok (.if_icmp .ne 7, 3) := by decide +kernel
theorem dX0_withPart_23 : decode cX0_withPart 23 = .ok (.aload_n 2, 1) := by decide +kernel
theorem dX0_withPart_24 : decode cX0_withPart 24 = .ok (.goto 9, 3) := by decide +kernel
theorem dX0_withPart_27 : decode cX0_withPart 27 = .ok (.aload_n 0, 1) := by decide +kernel
theorem dX0_withPart_28 : decode cX0_withPart 28 = .ok (.iload 4, 2) := by decide +kernel
theorem dX0_withPart_30 : decode cX0_withPart 30 = .ok (.invokevirtual 43, 3) := by decide +kernel
theorem dX0_withPart_33 : decode cX0_withPart 33 = .ok (.aastore, 1) := by decide +kernel
theorem dX0_withPart_34 : decode cX0_withPart 34 = .ok (.iinc 4 1, 3) := by decide +kernel
theorem dX0_withPart_37 : decode cX0_withPart 37 = .ok (.goto (-29), 3) := by decide +kernel
theorem dX0_withPart_40 : decode cX0_withPart 40 = .ok (.new 10, 3) := by decide +kernel
theorem dX0_withPart_43 : decode cX0_withPart 43 = .ok (.dup, 1) := by decide +kernel
theorem dX0_withPart_44 : decode cX0_withPart 44 = .ok (.aload_n 0, 1) := by decide +kernel
theorem dX0_withPart_45 : decode cX0_withPart 45 = .ok (.getfield 9, 3) := by decide +kernel
theorem dX0_withPart_48 : decode cX0_withPart 48 = .ok (.aload_n 0, 1) := by decide +kernel
theorem dX0_withPart_49 : decode cX0_withPart 49 = .ok (.getfield 15, 3) := by decide +kernel
theorem dX0_withPart_52 : decode cX0_withPart 52 = .ok (.aload_n 0, 1) := by decide +kernel
theorem dX0_withPart_53 : decode cX0_withPart 53 = .ok (.getfield 18, 3) := by decide +kernel
theorem dX0_withPart_56 : decode cX0_withPart 56 = .ok (.aload_n 3, 1) := by decide +kernel
theorem dX0_withPart_57 : decode cX0_withPart 57 = .ok (.invokespecial 36, 3) := by decide +kernel
theorem dX0_withPart_60 : decode cX0_withPart 60 = .ok (.areturn, 1) := by decide +kernel
theorem dX0_isMadeLike_0 : decode cX0_isMadeLike 0 = .ok (.aload_n 0, 1) := by decide +kernel
theorem dX0_isMadeLike_1 : decode cX0_isMadeLike 1 = .ok (.getfield 9, 3) := by decide +kernel
theorem dX0_isMadeLike_4 : decode cX0_isMadeLike 4 = .ok (.iconst 1, 1) := by decide +kernel
theorem dX0_isMadeLike_5 : decode cX0_isMadeLike 5 = .ok (.if_icmp .eq 25, 3) := by decide +kernel
theorem dX0_isMadeLike_8 : decode cX0_isMadeLike 8 = .ok (.aload_n 0, 1) := by decide +kernel
theorem dX0_isMadeLike_9 : decode cX0_isMadeLike 9 = .ok (.getfield 9, 3) := by decide +kernel
theorem dX0_isMadeLike_12 : decode cX0_isMadeLike 12 = .ok (.aload_n 1, 1) := by decide +kernel
theorem dX0_isMadeLike_13 : decode cX0_isMadeLike 13 = .ok (.getfield 9, 3) := by decide +kernel
theorem dX0_isMadeLike_16 : decode cX0_isMadeLike 16 = .ok (.if_icmp .ne 14, 3) := by decide +kernel
theorem dX0_isMadeLike_19 : decode cX0_isMadeLike 19 = .ok (.aload_n 0, 1) := by decide +kernel
theorem dX0_isMadeLike_20 : decode cX0_isMadeLike 20 = .ok (.getfield 15, 3) := by decide +kernel
theorem dX0_isMadeLike_23 : decode cX0_isMadeLike 23 = .ok (.aload_n 1, 1) := by decide +kernel
theorem dX0_isMadeLike_24 : decode cX0_isMadeLike 24 = .ok (.getfield 15, 3) := by decide +kernel
theorem dX0_isMadeLike_27 : decode cX0_isMadeLike 27 = .ok (.if_icmp .eq 5, 3) := by decide +kernel
theorem dX0_isMadeLike_30 : decode cX0_isMadeLike 30 = .ok (.iconst 0, 1) := by decide +kernel
theorem dX0_isMadeLike_31 : decode cX0_isMadeLike 31 = .ok (.ireturn, 1) := by decide +kernel
theorem dX0_isMadeLike_32 : decode cX0_isMadeLike 32 = .ok (.iconst 0, 1) := by decide +kernel
theorem dX0_isMadeLike_33 : decode cX0_isMadeLike 33 = .ok (.istore_n 2, 1) := by decide +kernel
theorem dX0_isMadeLike_34 : decode cX0_isMadeLike 34 = .ok (.iload_n 2, 1) := by decide +kernel
theorem dX0_isMadeLike_35 : decode cX0_isMadeLike 35 = .ok (.iconst 4, 1) := by decide +kernel
theorem dX0_isMadeLike_36 : decode cX0_isMadeLike 36 = .ok (.if_icmp .ge 37, 3) := by decide +kernel
theorem dX0_isMadeLike_39 : decode cX0_isMadeLike 39 = .ok (.aload_n 0, 1) := by decide +kernel
theorem dX0_isMadeLike_40 : decode cX0_isMadeLike 40 = .ok (.iload_n 2, 1) := by decide +kernel
theorem dX0_isMadeLike_41 : decode cX0_isMadeLike 41 = .ok (.invokevirtual 43, 3) := by decide +kernel
theorem dX0_isMadeLike_44 : decode cX0_isMadeLike 44 = .ok (.aload_n 1, 1) := by decide +kernel
theorem dX0_isMadeLike_45 : decode cX0_isMadeLike 45 = .ok (.iload_n 2, 1) := by decide +kernel
theorem dX0_isMadeLike_46 : decode cX0_isMadeLike 46 = .ok (.invokevirtual 43, 3) := by decide +kernel
theorem dX0_isMadeLike_49 : decode cX0_isMadeLike 49 = .ok (.if_acmp .ne 16, 3) := by decide +kernel
theorem dX0_isMadeLike_52 : decode cX0_isMadeLike 52 = .ok (.aload_n 0, 1) := by decide +kernel
theorem dX0_isMadeLike_53 : decode cX0_isMadeLike 53 = .ok (.iload_n 2, 1) := by decide +kernel
theorem dX0_isMadeLike_54 : decode cX0_isMadeLike 54 = .ok (.invokevirtual 39, 3) := by decide +kernel
theorem dX0_isMadeLike_57 : decode cX0_isMadeLike 57 = .ok (.aload_n 1, 1) := by decide +kernel
theorem dX0_isMadeLike_58 : decode cX0_isMadeLike 58 = .ok (.iload_n 2, 1) := by decide +kernel
theorem dX0_isMadeLike_59 : decode cX0_isMadeLike 59 = .ok (.invokevirtual 39, 3) := by decide +kernel
theorem dX0_isMadeLike_62 : decode cX0_isMadeLike 62 = .ok (.if_icmp .eq 5, 3) := by decide +kernel
theorem dX0_isMadeLike_65 : decode cX0_isMadeLike 65 = .ok (.iconst 0, 1) := by decide +kernel
theorem dX0_isMadeLike_66 : decode cX0_isMadeLike 66 = .ok (.ireturn, 1) := by decide +kernel
theorem dX0_isMadeLike_67 : decode cX0_isMadeLike 67 = .ok (.iinc 2 1, 3) := by decide +kernel
theorem dX0_isMadeLike_70 : decode cX0_isMadeLike 70 = .ok (.goto (-36), 3) := by decide +kernel
theorem dX0_isMadeLike_73 : decode cX0_isMadeLike 73 = .ok (.iconst 1, 1) := by decide +kernel
theorem dX0_isMadeLike_74 : decode cX0_isMadeLike 74 = .ok (.ireturn, 1) := by decide +kernel
theorem dX0_isPartIn_0 : decode cX0_isPartIn 0 = .ok (.aload_n 0, 1) := by decide +kernel
theorem dX0_isPartIn_1 : decode cX0_isPartIn 1 = .ok (.iload_n 1, 1) := by decide +kernel
theorem dX0_isPartIn_2 : decode cX0_isPartIn 2 = .ok (.invokevirtual 43, 3) := by decide +kernel
theorem dX0_isPartIn_5 : decode cX0_isPartIn 5 = .ok (.astore_n 2, 1) := by decide +kernel
theorem dX0_isPartIn_6 : decode cX0_isPartIn 6 = .ok (.aload_n 2, 1) := by decide +kernel
theorem dX0_isPartIn_7 : decode cX0_isPartIn 7 = .ok (.ifnull 10, 3) := by decide +kernel
theorem dX0_isPartIn_10 : decode cX0_isPartIn 10 = .ok (.aload_n 2, 1) := by decide +kernel
theorem dX0_isPartIn_11 : decode cX0_isPartIn 11 = .ok (.getfield 29, 3) := by decide +kernel
theorem dX0_isPartIn_14 : decode cX0_isPartIn 14 = .ok (.ifCond .eq 7, 3) := by decide +kernel
theorem dX0_isPartIn_17 : decode cX0_isPartIn 17 = .ok (.iconst 1, 1) := by decide +kernel
theorem dX0_isPartIn_18 : decode cX0_isPartIn 18 = .ok (.goto 4, 3) := by decide +kernel
theorem dX0_isPartIn_21 : decode cX0_isPartIn 21 = .ok (.iconst 0, 1) := by decide +kernel
theorem dX0_isPartIn_22 : decode cX0_isPartIn 22 = .ok (.ireturn, 1) := by decide +kernel
theorem dX0_canBeMadeByAttacker_0 : decode cX0_canBeMadeByAttacker 0 = .ok (.aload_n 0, 1) := by decide +kernel
theorem dX0_canBeMadeByAttacker_1 : decode cX0_canBeMadeByAttacker 1 = .ok (.getfield 9, 3) := by decide +kernel
theorem dX0_canBeMadeByAttacker_4 : decode cX0_canBeMadeByAttacker 4 = .ok (.iconst 1, 1) := by decide +kernel
theorem dX0_canBeMadeByAttacker_5 : decode cX0_canBeMadeByAttacker 5 = .ok (.if_icmp .ne 5, 3) := by decide +kernel
theorem dX0_canBeMadeByAttacker_8 : decode cX0_canBeMadeByAttacker 8 = .ok (.iconst 0, 1) := by decide +kernel
theorem dX0_canBeMadeByAttacker_9 : decode cX0_canBeMadeByAttacker 9 = .ok (.ireturn, 1) := by decide +kernel
theorem dX0_canBeMadeByAttacker_10 : decode cX0_canBeMadeByAttacker 10 = .ok (.aload_n 0, 1) := by decide +kernel
theorem dX0_canBeMadeByAttacker_11 : decode cX0_canBeMadeByAttacker 11 = .ok (.getfield 9, 3) := by decide +kernel
theorem dX0_canBeMadeByAttacker_14 : decode cX0_canBeMadeByAttacker 14 = .ok (.iconst 3, 1) := by decide +kernel
theorem dX0_canBeMadeByAttacker_15 : decode cX0_canBeMadeByAttacker 15 = .ok (.if_icmp .ne 41, 3) := by decide +kernel
theorem dX0_canBeMadeByAttacker_18 : decode cX0_canBeMadeByAttacker 18 = .ok (.aload_n 0, 1) := by decide +kernel
theorem dX0_canBeMadeByAttacker_19 : decode cX0_canBeMadeByAttacker 19 = .ok (.iconst 0, 1) := by decide +kernel
theorem dX0_canBeMadeByAttacker_20 : decode cX0_canBeMadeByAttacker 20 = .ok (.invokevirtual 43, 3) := by decide +kernel
theorem dX0_canBeMadeByAttacker_23 : decode cX0_canBeMadeByAttacker 23 = .ok (.aload_n 0, 1) := by decide +kernel
theorem dX0_canBeMadeByAttacker_24 : decode cX0_canBeMadeByAttacker 24 = .ok (.iconst 1, 1) := by decide +kernel
theorem dX0_canBeMadeByAttacker_25 : decode cX0_canBeMadeByAttacker 25 = .ok (.invokevirtual 43, 3) := by decide +kernel
theorem dX0_canBeMadeByAttacker_28 : decode cX0_canBeMadeByAttacker 28 = .ok (.invokestatic 47, 3) := by decide +kernel
theorem dX0_canBeMadeByAttacker_31 : decode cX0_canBeMadeByAttacker 31 = .ok (.ifCond .ne 19, 3) := by decide +kernel
theorem dX0_canBeMadeByAttacker_34 : decode cX0_canBeMadeByAttacker 34 = .ok (.aload_n 0, 1) := by decide +kernel
theorem dX0_canBeMadeByAttacker_35 : decode cX0_canBeMadeByAttacker 35 = .ok (.iconst 1, 1) := by decide +kernel
theorem dX0_canBeMadeByAttacker_36 : decode cX0_canBeMadeByAttacker 36 = .ok (.invokevirtual 43, 3) := by decide +kernel
theorem dX0_canBeMadeByAttacker_39 : decode cX0_canBeMadeByAttacker 39 = .ok (.aload_n 0, 1) := by decide +kernel
theorem dX0_canBeMadeByAttacker_40 : decode cX0_canBeMadeByAttacker 40 = .ok (.iconst 0, 1) := by decide +kernel
theorem dX0_canBeMadeByAttacker_41 : decode cX0_canBeMadeByAttacker 41 = .ok (.invokevirtual 43, 3) := by decide +kernel
theorem dX0_canBeMadeByAttacker_44 : decode cX0_canBeMadeByAttacker 44 = .ok (.invokestatic 47, 3) := by decide +kernel
theorem dX0_canBeMadeByAttacker_47 : decode cX0_canBeMadeByAttacker 47 = .ok (.ifCond .eq 7, 3) := by decide +kernel
theorem dX0_canBeMadeByAttacker_50 : decode cX0_canBeMadeByAttacker 50 = .ok (.iconst 1, 1) := by decide +kernel
theorem dX0_canBeMadeByAttacker_51 : decode cX0_canBeMadeByAttacker 51 = .ok (.goto 4, 3) := by decide +kernel
theorem dX0_canBeMadeByAttacker_54 : decode cX0_canBeMadeByAttacker 54 = .ok (.iconst 0, 1) := by decide +kernel
theorem dX0_canBeMadeByAttacker_55 : decode cX0_canBeMadeByAttacker 55 = .ok (.ireturn, 1) := by decide +kernel
theorem dX0_canBeMadeByAttacker_56 : decode cX0_canBeMadeByAttacker 56 = .ok (.iconst 0, 1) := by decide +kernel
theorem dX0_canBeMadeByAttacker_57 : decode cX0_canBeMadeByAttacker 57 = .ok (.istore_n 1, 1) := by decide +kernel
theorem dX0_canBeMadeByAttacker_58 : decode cX0_canBeMadeByAttacker 58 = .ok (.iload_n 1, 1) := by decide +kernel
theorem dX0_canBeMadeByAttacker_59 : decode cX0_canBeMadeByAttacker 59 = .ok (.iconst 4, 1) := by decide +kernel
theorem dX0_canBeMadeByAttacker_60 : decode cX0_canBeMadeByAttacker 60 = .ok (.if_icmp .ge 19, 3) := by decide +kernel
theorem dX0_canBeMadeByAttacker_63 : decode cX0_canBeMadeByAttacker 63 = .ok (.aload_n 0, 1) := by decide +kernel
theorem dX0_canBeMadeByAttacker_64 : decode cX0_canBeMadeByAttacker 64 = .ok (.iload_n 1, 1) := by decide +kernel
theorem dX0_canBeMadeByAttacker_65 : decode cX0_canBeMadeByAttacker 65 = .ok (.invokevirtual 51, 3) := by decide +kernel
theorem dX0_canBeMadeByAttacker_68 : decode cX0_canBeMadeByAttacker 68 = .ok (.ifCond .ne 5, 3) := by decide +kernel
theorem dX0_canBeMadeByAttacker_71 : decode cX0_canBeMadeByAttacker 71 = .ok (.iconst 0, 1) := by decide +kernel
theorem dX0_canBeMadeByAttacker_72 : decode cX0_canBeMadeByAttacker 72 = .ok (.ireturn, 1) := by decide +kernel
theorem dX0_canBeMadeByAttacker_73 : decode cX0_canBeMadeByAttacker 73 = .ok (.iinc 1 1, 3) := by decide +kernel
theorem dX0_canBeMadeByAttacker_76 : decode cX0_canBeMadeByAttacker 76 = .ok (.goto (-18), 3) := by decide +kernel
theorem dX0_canBeMadeByAttacker_79 : decode cX0_canBeMadeByAttacker 79 = .ok (.iconst 1, 1) := by decide +kernel
theorem dX0_canBeMadeByAttacker_80 : decode cX0_canBeMadeByAttacker 80 = .ok (.ireturn, 1) := by decide +kernel
theorem dX0_canAgree_0 : decode cX0_canAgree 0 = .ok (.aload_n 0, 1) := by decide +kernel
theorem dX0_canAgree_1 : decode cX0_canAgree 1 = .ok (.ifnull 25, 3) := by decide +kernel
theorem dX0_canAgree_4 : decode cX0_canAgree 4 = .ok (.aload_n 1, 1) := by decide +kernel
theorem dX0_canAgree_5 : decode cX0_canAgree 5 = .ok (.ifnull 21, 3) := by decide +kernel
theorem dX0_canAgree_8 : decode cX0_canAgree 8 = .ok (.aload_n 0, 1) := by decide +kernel
theorem dX0_canAgree_9 : decode cX0_canAgree 9 = .ok (.getfield 29, 3) := by decide +kernel
theorem dX0_canAgree_12 : decode cX0_canAgree 12 = .ok (.ifCond .eq 14, 3) := by decide +kernel
theorem dX0_canAgree_15 : decode cX0_canAgree 15 = .ok (.aload_n 1, 1) := by decide +kernel
theorem dX0_canAgree_16 : decode cX0_canAgree 16 = .ok (.getfield 33, 3) := by decide +kernel
theorem dX0_canAgree_19 : decode cX0_canAgree 19 = .ok (.ifCond .eq 7, 3) := by decide +kernel
theorem dX0_canAgree_22 : decode cX0_canAgree 22 = .ok (.iconst 1, 1) := by decide +kernel
theorem dX0_canAgree_23 : decode cX0_canAgree 23 = .ok (.goto 4, 3) := by decide +kernel
theorem dX0_canAgree_26 : decode cX0_canAgree 26 = .ok (.iconst 0, 1) := by decide +kernel
theorem dX0_canAgree_27 : decode cX0_canAgree 27 = .ok (.ireturn, 1) := by decide +kernel
theorem dX1_init_0 : decode cX1_init 0 = .ok (.aload_n 0, 1) := by decide +kernel
theorem dX1_init_1 : decode cX1_init 1 = .ok (.invokespecial 1, 3) := by decide +kernel
theorem dX1_init_4 : decode cX1_init 4 = .ok (.aload_n 0, 1) := by decide +kernel
theorem dX1_init_5 : decode cX1_init 5 = .ok (.bipush 64, 2) := by decide +kernel
theorem dX1_init_7 : decode cX1_init 7 = .ok (.anewarray 9, 3) := by decide +kernel
theorem dX1_init_10 : decode cX1_init 10 = .ok (.putfield 11, 3) := by decide +kernel
theorem dX1_init_13 : decode cX1_init 13 = .ok (.aload_n 0, 1) := by decide +kernel
theorem dX1_init_14 : decode cX1_init 14 = .ok (.sipush 512, 3) := by decide +kernel
theorem dX1_init_17 : decode cX1_init 17 = .ok (.anewarray 9, 3) := by decide +kernel
theorem dX1_init_20 : decode cX1_init 20 = .ok (.putfield 15, 3) := by decide +kernel
theorem dX1_init_23 : decode cX1_init 23 = .ok (.aload_n 0, 1) := by decide +kernel
theorem dX1_init_24 : decode cX1_init 24 = .ok (.iconst 0, 1) := by decide +kernel
theorem dX1_init_25 : decode cX1_init 25 = .ok (.putfield 18, 3) := by decide +kernel
theorem dX1_init_28 : decode cX1_init 28 = .ok (.aload_n 0, 1) := by decide +kernel
theorem dX1_init_29 : decode cX1_init 29 = .ok (.iconst 0, 1) := by decide +kernel
theorem dX1_init_30 : decode cX1_init 30 = .ok (.putfield 22, 3) := by decide +kernel
theorem dX1_init_33 : decode cX1_init 33 = .ok (.aload_n 0, 1) := by decide +kernel
theorem dX1_init_34 : decode cX1_init 34 = .ok (.iconst 4, 1) := by decide +kernel
theorem dX1_init_35 : decode cX1_init 35 = .ok (.newarray .int, 2) := by decide +kernel
theorem dX1_init_37 : decode cX1_init 37 = .ok (.putfield 25, 3) := by decide +kernel
theorem dX1_init_40 : decode cX1_init 40 = .ok (.return_, 1) := by decide +kernel
theorem dX1_secret_0 : decode cX1_secret 0 = .ok (.aload_n 0, 1) := by decide +kernel
theorem dX1_secret_1 : decode cX1_secret 1 = .ok (.iload_n 1, 1) := by decide +kernel
theorem dX1_secret_2 : decode cX1_secret 2 = .ok (.aload_n 0, 1) := by decide +kernel
theorem dX1_secret_3 : decode cX1_secret 3 = .ok (.iconst 1, 1) := by decide +kernel
theorem dX1_secret_4 : decode cX1_secret 4 = .ok (.iconst 0, 1) := by decide +kernel
theorem dX1_secret_5 : decode cX1_secret 5 = .ok (.aconst_null, 1) := by decide +kernel
theorem dX1_secret_6 : decode cX1_secret 6 = .ok (.aconst_null, 1) := by decide +kernel
theorem dX1_secret_7 : decode cX1_secret 7 = .ok (.aconst_null, 1) := by decide +kernel
theorem dX1_secret_8 : decode cX1_secret 8 = .ok (.invokevirtual 29, 3) := by decide +kernel
theorem dX1_secret_11 : decode cX1_secret 11 = .ok (.invokevirtual 33, 3) := by decide +kernel
theorem dX1_secret_14 : decode cX1_secret 14 = .ok (.ireturn, 1) := by decide +kernel
theorem dX1_face_0 : decode cX1_face 0 = .ok (.aload_n 0, 1) := by decide +kernel
theorem dX1_face_1 : decode cX1_face 1 = .ok (.iload_n 2, 1) := by decide +kernel
theorem dX1_face_2 : decode cX1_face 2 = .ok (.iconst 1, 1) := by decide +kernel
theorem dX1_face_3 : decode cX1_face 3 = .ok (.invokevirtual 37, 3) := by decide +kernel
theorem dX1_face_6 : decode cX1_face 6 = .ok (.astore_n 3, 1) := by decide +kernel
theorem dX1_face_7 : decode cX1_face 7 = .ok (.aload_n 3, 1) := by decide +kernel
theorem dX1_face_8 : decode cX1_face 8 = .ok (.ifnonnull 5, 3) := by decide +kernel
theorem dX1_face_11 : decode cX1_face 11 = .ok (.iconst (-1), 1) := by decide +kernel
theorem dX1_face_12 : decode cX1_face 12 = .ok (.ireturn, 1) := by decide +kernel
theorem dX1_face_13 : decode cX1_face 13 = .ok (.aload_n 0, 1) := by decide +kernel
theorem dX1_face_14 : decode cX1_face 14 = .ok (.iload_n 1, 1) := by decide +kernel
theorem dX1_face_15 : decode cX1_face 15 = .ok (.aload_n 0, 1) := by decide +kernel
theorem dX1_face_16 : decode cX1_face 16 = .ok (.iconst 2, 1) := by decide +kernel
theorem dX1_face_17 : decode cX1_face 17 = .ok (.iconst 0, 1) := by decide +kernel
theorem dX1_face_18 : decode cX1_face 18 = .ok (.aload_n 3, 1) := by decide +kernel
theorem dX1_face_19 : decode cX1_face 19 = .ok (.aconst_null, 1) := by decide +kernel
theorem dX1_face_20 : decode cX1_face 20 = .ok (.aconst_null, 1) := by decide +kernel
theorem dX1_face_21 : decode cX1_face 21 = .ok (.invokevirtual 29, 3) := by decide +kernel
theorem dX1_face_24 : decode cX1_face 24 = .ok (.invokevirtual 33, 3) := by decide +kernel
theorem dX1_face_27 : decode cX1_face 27 = .ok (.ireturn, 1) := by decide +kernel
theorem dX1_shared_0 : decode cX1_shared 0 = .ok (.aload_n 0, 1) := by decide +kernel
theorem dX1_shared_1 : decode cX1_shared 1 = .ok (.iload_n 1, 1) := by decide +kernel
theorem dX1_shared_2 : decode cX1_shared 2 = .ok (.aload_n 0, 1) := by decide +kernel
theorem dX1_shared_3 : decode cX1_shared 3 = .ok (.iload_n 2, 1) := by decide +kernel
theorem dX1_shared_4 : decode cX1_shared 4 = .ok (.iconst 1, 1) := by decide +kernel
theorem dX1_shared_5 : decode cX1_shared 5 = .ok (.invokevirtual 37, 3) := by decide +kernel
theorem dX1_shared_8 : decode cX1_shared 8 = .ok (.aload_n 0, 1) := by decide +kernel
theorem dX1_shared_9 : decode cX1_shared 9 = .ok (.iload_n 3, 1) := by decide +kernel
theorem dX1_shared_10 : decode cX1_shared 10 = .ok (.iconst 1, 1) := by decide +kernel
theorem dX1_shared_11 : decode cX1_shared 11 = .ok (.invokevirtual 37, 3) := by decide +kernel
theorem dX1_shared_14 : decode cX1_shared 14 = .ok (.invokevirtual 41, 3) := by decide +kernel
theorem dX1_shared_17 : decode cX1_shared 17 = .ok (.ireturn, 1) := by decide +kernel
theorem dX1_agreed_0 : decode cX1_agreed 0 = .ok (.aload_n 0, 1) := by decide +kernel
theorem dX1_agreed_1 : decode cX1_agreed 1 = .ok (.iload_n 3, 1) := by decide +kernel
theorem dX1_agreed_2 : decode cX1_agreed 2 = .ok (.iconst 2, 1) := by decide +kernel
theorem dX1_agreed_3 : decode cX1_agreed 3 = .ok (.invokevirtual 37, 3) := by decide +kernel
theorem dX1_agreed_6 : decode cX1_agreed 6 = .ok (.astore 4, 2) := by decide +kernel
theorem dX1_agreed_8 : decode cX1_agreed 8 = .ok (.aload 4, 2) := by decide +kernel
theorem dX1_agreed_10 : decode cX1_agreed 10 = .ok (.ifnonnull 5, 3) := by decide +kernel
theorem dX1_agreed_13 : decode cX1_agreed 13 = .ok (.iconst (-1), 1) := by decide +kernel
theorem dX1_agreed_14 : decode cX1_agreed 14 = .ok (.ireturn, 1) := by decide +kernel
theorem dX1_agreed_15 : decode cX1_agreed 15 = .ok (.aload_n 0, 1) := by decide +kernel
theorem dX1_agreed_16 : decode cX1_agreed 16 = .ok (.iload_n 1, 1) := by decide +kernel
theorem dX1_agreed_17 : decode cX1_agreed 17 = .ok (.aload_n 0, 1) := by decide +kernel
theorem dX1_agreed_18 : decode cX1_agreed 18 = .ok (.iload_n 2, 1) := by decide +kernel
theorem dX1_agreed_19 : decode cX1_agreed 19 = .ok (.iconst 1, 1) := by decide +kernel
theorem dX1_agreed_20 : decode cX1_agreed 20 = .ok (.invokevirtual 37, 3) := by decide +kernel
theorem dX1_agreed_23 : decode cX1_agreed 23 = .ok (.aload 4, 2) := by decide +kernel
theorem dX1_agreed_25 : decode cX1_agreed 25 = .ok (.iconst 0, 1) := by decide +kernel
theorem dX1_agreed_26 : decode cX1_agreed 26 = .ok (.invokevirtual 45, 3) := by decide +kernel
theorem dX1_agreed_29 : decode cX1_agreed 29 = .ok (.invokevirtual 41, 3) := by decide +kernel
theorem dX1_agreed_32 : decode cX1_agreed 32 = .ok (.ireturn, 1) := by decide +kernel
theorem dX1_mix_0 : decode cX1_mix 0 = .ok (.aload_n 0, 1) := by decide +kernel
theorem dX1_mix_1 : decode cX1_mix 1 = .ok (.iload_n 3, 1) := by decide +kernel
theorem dX1_mix_2 : decode cX1_mix 2 = .ok (.invokevirtual 49, 3) := by decide +kernel
theorem dX1_mix_5 : decode cX1_mix 5 = .ok (.astore 5, 2) := by decide +kernel
theorem dX1_mix_7 : decode cX1_mix 7 = .ok (.iload_n 2, 1) := by decide +kernel
theorem dX1_mix_8 : decode cX1_mix 8 = .ok (.ifCond .lt 23, 3) := by decide +kernel
theorem dX1_mix_11 : decode cX1_mix 11 = .ok (.iload_n 2, 1) := by decide +kernel
theorem dX1_mix_12 : decode cX1_mix 12 = .ok (.bipush 9, 2) := by decide +kernel
theorem dX1_mix_14 : decode cX1_mix 14 = .ok (.if_icmp .gt 17, 3) := by decide +kernel
theorem dX1_mix_17 : decode cX1_mix 17 = .ok (.aload 5, 2) := by decide +kernel
theorem dX1_mix_19 : decode cX1_mix 19 = .ok (.ifnull 12, 3) := by decide +kernel
theorem dX1_mix_22 : decode cX1_mix 22 = .ok (.aload_n 0, 1) := by decide +kernel
theorem dX1_mix_23 : decode cX1_mix 23 = .ok (.iload 4, 2) := by decide +kernel
theorem dX1_mix_25 : decode cX1_mix 25 = .ok (.invokevirtual 52, 3) := by decide +kernel
theorem dX1_mix_28 : decode cX1_mix 28 = .ok (.ifCond .ne 5, 3) := by decide +kernel
theorem dX1_mix_31 : decode cX1_mix 31 = .ok (.iconst (-1), 1) := by decide +kernel
theorem dX1_mix_32 : decode cX1_mix 32 = .ok (.ireturn, 1) := by decide +kernel
theorem dX1_mix_33 : decode cX1_mix 33 = .ok (.aload_n 0, 1) := by decide +kernel
theorem dX1_mix_34 : decode cX1_mix 34 = .ok (.iload_n 1, 1) := by decide +kernel
theorem dX1_mix_35 : decode cX1_mix 35 = .ok (.aload_n 0, 1) := by decide +kernel
theorem dX1_mix_36 : decode cX1_mix 36 = .ok (.iconst 4, 1) := by decide +kernel
theorem dX1_mix_37 : decode cX1_mix 37 = .ok (.iload_n 2, 1) := by decide +kernel
theorem dX1_mix_38 : decode cX1_mix 38 = .ok (.aload 5, 2) := by decide +kernel
theorem dX1_mix_40 : decode cX1_mix 40 = .ok (.aload_n 0, 1) := by decide +kernel
theorem dX1_mix_41 : decode cX1_mix 41 = .ok (.iload 4, 2) := by decide +kernel
theorem dX1_mix_43 : decode cX1_mix 43 = .ok (.invokevirtual 49, 3) := by decide +kernel
theorem dX1_mix_46 : decode cX1_mix 46 = .ok (.aconst_null, 1) := by decide +kernel
theorem dX1_mix_47 : decode cX1_mix 47 = .ok (.invokevirtual 29, 3) := by decide +kernel
theorem dX1_mix_50 : decode cX1_mix 50 = .ok (.invokevirtual 33, 3) := by decide +kernel
theorem dX1_mix_53 : decode cX1_mix 53 = .ok (.ireturn, 1) := by decide +kernel
theorem dX1_sealed_0 : decode cX1_sealed 0 = .ok (.aload_n 0, 1) := by decide +kernel
theorem dX1_sealed_1 : decode cX1_sealed 1 = .ok (.iload_n 2, 1) := by decide +kernel
theorem dX1_sealed_2 : decode cX1_sealed 2 = .ok (.invokevirtual 49, 3) := by decide +kernel
theorem dX1_sealed_5 : decode cX1_sealed 5 = .ok (.astore 5, 2) := by decide +kernel
theorem dX1_sealed_7 : decode cX1_sealed 7 = .ok (.aload_n 0, 1) := by decide +kernel
theorem dX1_sealed_8 : decode cX1_sealed 8 = .ok (.iload_n 3, 1) := by decide +kernel
theorem dX1_sealed_9 : decode cX1_sealed 9 = .ok (.invokevirtual 49, 3) := by decide +kernel
theorem dX1_sealed_12 : decode cX1_sealed 12 = .ok (.astore 6, 2) := by decide +kernel
theorem dX1_sealed_14 : decode cX1_sealed 14 = .ok (.aload_n 0, 1) := by decide +kernel
theorem dX1_sealed_15 : decode cX1_sealed 15 = .ok (.iload 4, 2) := by decide +kernel
theorem dX1_sealed_17 : decode cX1_sealed 17 = .ok (.invokevirtual 49, 3) := by decide +kernel
theorem dX1_sealed_20 : decode cX1_sealed 20 = .ok (.astore 7, 2) := by decide +kernel
theorem dX1_sealed_22 : decode cX1_sealed 22 = .ok (.aload 5, 2) := by decide +kernel
theorem dX1_sealed_24 : decode cX1_sealed 24 = .ok (.ifnull 13, 3) := by decide +kernel
theorem dX1_sealed_27 : decode cX1_sealed 27 = .ok (.aload 6, 2) := by decide +kernel
theorem dX1_sealed_29 : decode cX1_sealed 29 = .ok (.ifnull 8, 3) := by decide +kernel
theorem dX1_sealed_32 : decode cX1_sealed 32 = .ok (.aload 7, 2) := by decide +kernel
theorem dX1_sealed_34 : decode cX1_sealed 34 = .ok (.ifnonnull 5, 3) := by decide +kernel
theorem dX1_sealed_37 : decode cX1_sealed 37 = .ok (.iconst (-1), 1) := by decide +kernel
theorem dX1_sealed_38 : decode cX1_sealed 38 = .ok (.ireturn, 1) := by decide +kernel
theorem dX1_sealed_39 : decode cX1_sealed 39 = .ok (.aload_n 0, 1) := by decide +kernel
theorem dX1_sealed_40 : decode cX1_sealed 40 = .ok (.iload_n 1, 1) := by decide +kernel
theorem dX1_sealed_41 : decode cX1_sealed 41 = .ok (.aload_n 0, 1) := by decide +kernel
theorem dX1_sealed_42 : decode cX1_sealed 42 = .ok (.iconst 5, 1) := by decide +kernel
theorem dX1_sealed_43 : decode cX1_sealed 43 = .ok (.iconst 0, 1) := by decide +kernel
theorem dX1_sealed_44 : decode cX1_sealed 44 = .ok (.aload 5, 2) := by decide +kernel
theorem dX1_sealed_46 : decode cX1_sealed 46 = .ok (.aload 6, 2) := by decide +kernel
theorem dX1_sealed_48 : decode cX1_sealed 48 = .ok (.aload 7, 2) := by decide +kernel
theorem dX1_sealed_50 : decode cX1_sealed 50 = .ok (.invokevirtual 29, 3) := by decide +kernel
theorem dX1_sealed_53 : decode cX1_sealed 53 = .ok (.invokevirtual 33, 3) := by decide +kernel
theorem dX1_sealed_56 : decode cX1_sealed 56 = .ok (.ireturn, 1) := by decide +kernel
theorem dX1_signed_0 : decode cX1_signed 0 = .ok (.aload_n 0, 1) := by decide +kernel
theorem dX1_signed_1 : decode cX1_signed 1 = .ok (.iload_n 2, 1) := by decide +kernel
theorem dX1_signed_2 : decode cX1_signed 2 = .ok (.iconst 1, 1) := by decide +kernel
theorem dX1_signed_3 : decode cX1_signed 3 = .ok (.invokevirtual 37, 3) := by decide +kernel
theorem dX1_signed_6 : decode cX1_signed 6 = .ok (.astore 4, 2) := by decide +kernel
theorem dX1_signed_8 : decode cX1_signed 8 = .ok (.aload_n 0, 1) := by decide +kernel
theorem dX1_signed_9 : decode cX1_signed 9 = .ok (.iload_n 3, 1) := by decide +kernel
theorem dX1_signed_10 : decode cX1_signed 10 = .ok (.invokevirtual 49, 3) := by decide +kernel
theorem dX1_signed_13 : decode cX1_signed 13 = .ok (.astore 5, 2) := by decide +kernel
theorem dX1_signed_15 : decode cX1_signed 15 = .ok (.aload 4, 2) := by decide +kernel
theorem dX1_signed_17 : decode cX1_signed 17 = .ok (.ifnull 8, 3) := by decide +kernel
theorem dX1_signed_20 : decode cX1_signed 20 = .ok (.aload 5, 2) := by decide +kernel
theorem dX1_signed_22 : decode cX1_signed 22 = .ok (.ifnonnull 5, 3) := by decide +kernel
theorem dX1_signed_25 : decode cX1_signed 25 = .ok (.iconst (-1), 1) := by decide +kernel
theorem dX1_signed_26 : decode cX1_signed 26 = .ok (.ireturn, 1) := by decide +kernel
theorem dX1_signed_27 : decode cX1_signed 27 = .ok (.aload_n 0, 1) := by decide +kernel
theorem dX1_signed_28 : decode cX1_signed 28 = .ok (.iload_n 1, 1) := by decide +kernel
theorem dX1_signed_29 : decode cX1_signed 29 = .ok (.aload_n 0, 1) := by decide +kernel
theorem dX1_signed_30 : decode cX1_signed 30 = .ok (.bipush 6, 2) := by decide +kernel
theorem dX1_signed_32 : decode cX1_signed 32 = .ok (.iconst 0, 1) := by decide +kernel
theorem dX1_signed_33 : decode cX1_signed 33 = .ok (.aload 4, 2) := by decide +kernel
theorem dX1_signed_35 : decode cX1_signed 35 = .ok (.aload 5, 2) := by decide +kernel
theorem dX1_signed_37 : decode cX1_signed 37 = .ok (.aconst_null, 1) := by decide +kernel
theorem dX1_signed_38 : decode cX1_signed 38 = .ok (.invokevirtual 29, 3) := by decide +kernel
theorem dX1_signed_41 : decode cX1_signed 41 = .ok (.invokevirtual 33, 3) := by decide +kernel
theorem dX1_signed_44 : decode cX1_signed 44 = .ok (.ireturn, 1) := by decide +kernel
theorem dX1_row_0 : decode cX1_row 0 = .ok (.iload_n 2, 1) := by decide +kernel
theorem dX1_row_1 : decode cX1_row 1 = .ok (.invokestatic 56, 3) := by decide +kernel
theorem dX1_row_4 : decode cX1_row 4 = .ok (.ifCond .ne 5, 3) := by decide +kernel
theorem dX1_row_7 : decode cX1_row 7 = .ok (.iconst (-1), 1) := by decide +kernel
theorem dX1_row_8 : decode cX1_row 8 = .ok (.ireturn, 1) := by decide +kernel
theorem dX1_row_9 : decode cX1_row 9 = .ok (.aload_n 0, 1) := by decide +kernel
theorem dX1_row_10 : decode cX1_row 10 = .ok (.iload_n 1, 1) := by decide +kernel
theorem dX1_row_11 : decode cX1_row 11 = .ok (.aload_n 0, 1) := by decide +kernel
theorem dX1_row_12 : decode cX1_row 12 = .ok (.bipush 7, 2) := by decide +kernel
theorem dX1_row_14 : decode cX1_row 14 = .ok (.iload_n 2, 1) := by decide +kernel
theorem dX1_row_15 : decode cX1_row 15 = .ok (.aconst_null, 1) := by decide +kernel
theorem dX1_row_16 : decode cX1_row 16 = .ok (.aconst_null, 1) := by decide +kernel
theorem dX1_row_17 : decode cX1_row 17 = .ok (.aconst_null, 1) := by decide +kernel
theorem dX1_row_18 : decode cX1_row 18 = .ok (.invokevirtual 29, 3) := by decide +kernel
theorem dX1_row_21 : decode cX1_row 21 = .ok (.invokevirtual 33, 3) := by decide +kernel
theorem dX1_row_24 : decode cX1_row 24 = .ok (.ireturn, 1) := by decide +kernel
theorem dX1_alter_0 : decode cX1_alter 0 = .ok (.aload_n 0, 1) := by decide +kernel
theorem dX1_alter_1 : decode cX1_alter 1 = .ok (.iload_n 2, 1) := by decide +kernel
theorem dX1_alter_2 : decode cX1_alter 2 = .ok (.bipush 7, 2) := by decide +kernel
theorem dX1_alter_4 : decode cX1_alter 4 = .ok (.invokevirtual 37, 3) := by decide +kernel
theorem dX1_alter_7 : decode cX1_alter 7 = .ok (.astore 5, 2) := by decide +kernel
theorem dX1_alter_9 : decode cX1_alter 9 = .ok (.aload 5, 2) := by decide +kernel
theorem dX1_alter_11 : decode cX1_alter 11 = .ok (.ifnonnull 5, 3) := by decide +kernel
theorem dX1_alter_14 : decode cX1_alter 14 = .ok (.iconst (-1), 1) := by decide +kernel
theorem dX1_alter_15 : decode cX1_alter 15 = .ok (.ireturn, 1) := by decide +kernel
theorem dX1_alter_16 : decode cX1_alter 16 = .ok (.iload_n 3, 1) := by decide +kernel
theorem dX1_alter_17 : decode cX1_alter 17 = .ok (.invokestatic 59, 3) := by decide +kernel
theorem dX1_alter_20 : decode cX1_alter 20 = .ok (.ifCond .eq 17, 3) := by decide +kernel
theorem dX1_alter_23 : decode cX1_alter 23 = .ok (.aload_n 0, 1) := by decide +kernel
theorem dX1_alter_24 : decode cX1_alter 24 = .ok (.iload_n 1, 1) := by decide +kernel
theorem dX1_alter_25 : decode cX1_alter 25 = .ok (.aload 5, 2) := by decide +kernel
theorem dX1_alter_27 : decode cX1_alter 27 = .ok (.iload_n 3, 1) := by decide +kernel
theorem dX1_alter_28 : decode cX1_alter 28 = .ok (.iload 4, 2) := by decide +kernel
theorem dX1_alter_30 : decode cX1_alter 30 = .ok (.invokevirtual 62, 3) := by decide +kernel
theorem dX1_alter_33 : decode cX1_alter 33 = .ok (.invokevirtual 33, 3) := by decide +kernel
theorem dX1_alter_36 : decode cX1_alter 36 = .ok (.ireturn, 1) := by decide +kernel
theorem dX1_alter_37 : decode cX1_alter 37 = .ok (.iload_n 3, 1) := by decide +kernel
theorem dX1_alter_38 : decode cX1_alter 38 = .ok (.iconst 4, 1) := by decide +kernel
theorem dX1_alter_39 : decode cX1_alter 39 = .ok (.if_icmp .ne 24, 3) := by decide +kernel
theorem dX1_alter_42 : decode cX1_alter 42 = .ok (.iload 4, 2) := by decide +kernel
theorem dX1_alter_44 : decode cX1_alter 44 = .ok (.invokestatic 56, 3) := by decide +kernel
theorem dX1_alter_47 : decode cX1_alter 47 = .ok (.ifCond .eq 16, 3) := by decide +kernel
theorem dX1_alter_50 : decode cX1_alter 50 = .ok (.aload_n 0, 1) := by decide +kernel
theorem dX1_alter_51 : decode cX1_alter 51 = .ok (.iload_n 1, 1) := by decide +kernel
theorem dX1_alter_52 : decode cX1_alter 52 = .ok (.aload 5, 2) := by decide +kernel
theorem dX1_alter_54 : decode cX1_alter 54 = .ok (.iload 4, 2) := by decide +kernel
theorem dX1_alter_56 : decode cX1_alter 56 = .ok (.invokevirtual 65, 3) := by decide +kernel
theorem dX1_alter_59 : decode cX1_alter 59 = .ok (.invokevirtual 33, 3) := by decide +kernel
theorem dX1_alter_62 : decode cX1_alter 62 = .ok (.ireturn, 1) := by decide +kernel
theorem dX1_alter_63 : decode cX1_alter 63 = .ok (.iconst (-1), 1) := by decide +kernel
theorem dX1_alter_64 : decode cX1_alter 64 = .ok (.ireturn, 1) := by decide +kernel
theorem dX1_swap_0 : decode cX1_swap 0 = .ok (.aload_n 0, 1) := by decide +kernel
theorem dX1_swap_1 : decode cX1_swap 1 = .ok (.iload_n 2, 1) := by decide +kernel
theorem dX1_swap_2 : decode cX1_swap 2 = .ok (.bipush 7, 2) := by decide +kernel
theorem dX1_swap_4 : decode cX1_swap 4 = .ok (.invokevirtual 37, 3) := by decide +kernel
theorem dX1_swap_7 : decode cX1_swap 7 = .ok (.astore 5, 2) := by decide +kernel
theorem dX1_swap_9 : decode cX1_swap 9 = .ok (.aload 5, 2) := by decide +kernel
theorem dX1_swap_11 : decode cX1_swap 11 = .ok (.ifnull 19, 3) := by decide +kernel
theorem dX1_swap_14 : decode cX1_swap 14 = .ok (.iload_n 3, 1) := by decide +kernel
theorem dX1_swap_15 : decode cX1_swap 15 = .ok (.invokestatic 59, 3) := by decide +kernel
theorem dX1_swap_18 : decode cX1_swap 18 = .ok (.ifCond .eq 12, 3) := by decide +kernel
theorem dX1_swap_21 : decode cX1_swap 21 = .ok (.aload_n 0, 1) := by decide +kernel
theorem dX1_swap_22 : decode cX1_swap 22 = .ok (.iload 4, 2) := by decide +kernel
theorem dX1_swap_24 : decode cX1_swap 24 = .ok (.invokevirtual 52, 3) := by decide +kernel
theorem dX1_swap_27 : decode cX1_swap 27 = .ok (.ifCond .ne 5, 3) := by decide +kernel
theorem dX1_swap_30 : decode cX1_swap 30 = .ok (.iconst (-1), 1) := by decide +kernel
theorem dX1_swap_31 : decode cX1_swap 31 = .ok (.ireturn, 1) := by decide +kernel
theorem dX1_swap_32 : decode cX1_swap 32 = .ok (.aload_n 0, 1) := by decide +kernel
theorem dX1_swap_33 : decode cX1_swap 33 = .ok (.iload_n 1, 1) := by decide +kernel
theorem dX1_swap_34 : decode cX1_swap 34 = .ok (.aload 5, 2) := by decide +kernel
theorem dX1_swap_36 : decode cX1_swap 36 = .ok (.iload_n 3, 1) := by decide +kernel
theorem dX1_swap_37 : decode cX1_swap 37 = .ok (.aload_n 0, 1) := by decide +kernel
theorem dX1_swap_38 : decode cX1_swap 38 = .ok (.iload 4, 2) := by decide +kernel
theorem dX1_swap_40 : decode cX1_swap 40 = .ok (.invokevirtual 49, 3) := by decide +kernel
theorem dX1_swap_43 : decode cX1_swap 43 = .ok (.invokevirtual 68, 3) := by decide +kernel
theorem dX1_swap_46 : decode cX1_swap 46 = .ok (.invokevirtual 33, 3) := by decide +kernel
theorem dX1_swap_49 : decode cX1_swap 49 = .ok (.ireturn, 1) := by decide +kernel
theorem dX1_part_0 : decode cX1_part 0 = .ok (.aload_n 0, 1) := by decide +kernel
theorem dX1_part_1 : decode cX1_part 1 = .ok (.iload_n 2, 1) := by decide +kernel
theorem dX1_part_2 : decode cX1_part 2 = .ok (.invokevirtual 49, 3) := by decide +kernel
theorem dX1_part_5 : decode cX1_part 5 = .ok (.astore 4, 2) := by decide +kernel
theorem dX1_part_7 : decode cX1_part 7 = .ok (.aload 4, 2) := by decide +kernel
theorem dX1_part_9 : decode cX1_part 9 = .ok (.ifnull 23, 3) := by decide +kernel
theorem dX1_part_12 : decode cX1_part 12 = .ok (.iload_n 3, 1) := by decide +kernel
theorem dX1_part_13 : decode cX1_part 13 = .ok (.ifCond .lt 19, 3) := by decide +kernel
theorem dX1_part_16 : decode cX1_part 16 = .ok (.iload_n 3, 1) := by decide +kernel
theorem dX1_part_17 : decode cX1_part 17 = .ok (.getstatic 72, 3) := by decide +kernel
theorem dX1_part_20 : decode cX1_part 20 = .ok (.arraylength, 1) := by decide +kernel
theorem dX1_part_21 : decode cX1_part 21 = .ok (.if_icmp .ge 11, 3) := by decide +kernel
theorem dX1_part_24 : decode cX1_part 24 = .ok (.iload_n 3, 1) := by decide +kernel
theorem dX1_part_25 : decode cX1_part 25 = .ok (.getstatic 75, 3) := by decide +kernel
theorem dX1_part_28 : decode cX1_part 28 = .ok (.arraylength, 1) := by decide +kernel
theorem dX1_part_29 : decode cX1_part 29 = .ok (.if_icmp .lt 5, 3) := by decide +kernel
theorem dX1_part_32 : decode cX1_part 32 = .ok (.iconst (-1), 1) := by decide +kernel
theorem dX1_part_33 : decode cX1_part 33 = .ok (.ireturn, 1) := by decide +kernel
theorem dX1_part_34 : decode cX1_part 34 = .ok (.aload 4, 2) := by decide +kernel
theorem dX1_part_36 : decode cX1_part 36 = .ok (.getfield 78, 3) := by decide +kernel
theorem dX1_part_39 : decode cX1_part 39 = .ok (.getstatic 72, 3) := by decide +kernel
theorem dX1_part_42 : decode cX1_part 42 = .ok (.iload_n 3, 1) := by decide +kernel
theorem dX1_part_43 : decode cX1_part 43 = .ok (.iaload, 1) := by decide +kernel
theorem dX1_part_44 : decode cX1_part 44 = .ok (.if_icmp .eq 5, 3) := by decide +kernel
theorem dX1_part_47 : decode cX1_part 47 = .ok (.iconst (-1), 1) := by decide +kernel
theorem dX1_part_48 : decode cX1_part 48 = .ok (.ireturn, 1) := by decide +kernel
theorem dX1_part_49 : decode cX1_part 49 = .ok (.aload_n 0, 1) := by decide +kernel
theorem dX1_part_50 : decode cX1_part 50 = .ok (.iload_n 1, 1) := by decide +kernel
theorem dX1_part_51 : decode cX1_part 51 = .ok (.aload 4, 2) := by decide +kernel
theorem dX1_part_53 : decode cX1_part 53 = .ok (.getstatic 75, 3) := by decide +kernel
theorem dX1_part_56 : decode cX1_part 56 = .ok (.iload_n 3, 1) := by decide +kernel
theorem dX1_part_57 : decode cX1_part 57 = .ok (.iaload, 1) := by decide +kernel
theorem dX1_part_58 : decode cX1_part 58 = .ok (.invokevirtual 45, 3) := by decide +kernel
theorem dX1_part_61 : decode cX1_part 61 = .ok (.invokevirtual 81, 3) := by decide +kernel
theorem dX1_part_64 : decode cX1_part 64 = .ok (.ireturn, 1) := by decide +kernel
theorem dX1_give_0 : decode cX1_give 0 = .ok (.aload_n 0, 1) := by decide +kernel
theorem dX1_give_1 : decode cX1_give 1 = .ok (.iload_n 1, 1) := by decide +kernel
theorem dX1_give_2 : decode cX1_give 2 = .ok (.invokevirtual 49, 3) := by decide +kernel
theorem dX1_give_5 : decode cX1_give 5 = .ok (.astore_n 2, 1) := by decide +kernel
theorem dX1_give_6 : decode cX1_give 6 = .ok (.aload_n 2, 1) := by decide +kernel
theorem dX1_give_7 : decode cX1_give 7 = .ok (.ifnonnull 5, 3) := by decide +kernel
theorem dX1_give_10 : decode cX1_give 10 = .ok (.iconst (-1), 1) := by decide +kernel
theorem dX1_give_11 : decode cX1_give 11 = .ok (.ireturn, 1) := by decide +kernel
theorem dX1_give_12 : decode cX1_give 12 = .ok (.aload_n 2, 1) := by decide +kernel
theorem dX1_give_13 : decode cX1_give 13 = .ok (.getfield 84, 3) := by decide +kernel
theorem dX1_give_16 : decode cX1_give 16 = .ok (.ifCond .eq 5, 3) := by decide +kernel
theorem dX1_give_19 : decode cX1_give 19 = .ok (.iconst 0, 1) := by decide +kernel
theorem dX1_give_20 : decode cX1_give 20 = .ok (.ireturn, 1) := by decide +kernel
theorem dX1_give_21 : decode cX1_give 21 = .ok (.aload_n 0, 1) := by decide +kernel
theorem dX1_give_22 : decode cX1_give 22 = .ok (.getfield 22, 3) := by decide +kernel
theorem dX1_give_25 : decode cX1_give 25 = .ok (.istore_n 3, 1) := by decide +kernel
theorem dX1_give_26 : decode cX1_give 26 = .ok (.aload_n 0, 1) := by decide +kernel
theorem dX1_give_27 : decode cX1_give 27 = .ok (.aload_n 2, 1) := by decide +kernel
theorem dX1_give_28 : decode cX1_give 28 = .ok (.invokevirtual 88, 3) := by decide +kernel
theorem dX1_give_31 : decode cX1_give 31 = .ok (.aload_n 0, 1) := by decide +kernel
theorem dX1_give_32 : decode cX1_give 32 = .ok (.invokevirtual 92, 3) := by decide +kernel
theorem dX1_give_35 : decode cX1_give 35 = .ok (.aload_n 0, 1) := by decide +kernel
theorem dX1_give_36 : decode cX1_give 36 = .ok (.getfield 22, 3) := by decide +kernel
theorem dX1_give_39 : decode cX1_give 39 = .ok (.iload_n 3, 1) := by decide +kernel
theorem dX1_give_40 : decode cX1_give 40 = .ok (.isub, 1) := by decide +kernel
theorem dX1_give_41 : decode cX1_give 41 = .ok (.ireturn, 1) := by decide +kernel
theorem dX1_derived_0 : decode cX1_derived 0 = .ok (.aload_n 0, 1) := by decide +kernel
theorem dX1_derived_1 : decode cX1_derived 1 = .ok (.iload_n 1, 1) := by decide +kernel
theorem dX1_derived_2 : decode cX1_derived 2 = .ok (.invokevirtual 49, 3) := by decide +kernel
theorem dX1_derived_5 : decode cX1_derived 5 = .ok (.astore_n 2, 1) := by decide +kernel
theorem dX1_derived_6 : decode cX1_derived 6 = .ok (.aload_n 2, 1) := by decide +kernel
theorem dX1_derived_7 : decode cX1_derived 7 = .ok (.ifnonnull 5, 3) := by decide +kernel
theorem dX1_derived_10 : decode cX1_derived 10 = .ok (.iconst (-1), 1) := by decide +kernel
theorem dX1_derived_11 : decode cX1_derived 11 = .ok (.ireturn, 1) := by decide +kernel
theorem dX1_derived_12 : decode cX1_derived 12 = .ok (.aload_n 2, 1) := by decide +kernel
theorem dX1_derived_13 : decode cX1_derived 13 = .ok (.getfield 84, 3) := by decide +kernel
theorem dX1_derived_16 : decode cX1_derived 16 = .ok (.ifCond .eq 7, 3) := by decide +kernel
theorem dX1_derived_19 : decode cX1_derived 19 = .ok (.iconst 1, 1) := by decide +kernel
theorem dX1_derived_20 : decode cX1_derived 20 = .ok (.goto 4, 3) := by decide +kernel
theorem dX1_derived_23 : decode cX1_derived 23 = .ok (.iconst 0, 1) := by decide +kernel
theorem dX1_derived_24 : decode cX1_derived 24 = .ok (.ireturn, 1) := by decide +kernel
theorem dX1_same_0 : decode cX1_same 0 = .ok (.aload_n 0, 1) := by decide +kernel
theorem dX1_same_1 : decode cX1_same 1 = .ok (.iload_n 1, 1) := by decide +kernel
theorem dX1_same_2 : decode cX1_same 2 = .ok (.invokevirtual 49, 3) := by decide +kernel
theorem dX1_same_5 : decode cX1_same 5 = .ok (.astore_n 3, 1) := by decide +kernel
theorem dX1_same_6 : decode cX1_same 6 = .ok (.aload_n 0, 1) := by decide +kernel
theorem dX1_same_7 : decode cX1_same 7 = .ok (.iload_n 2, 1) := by decide +kernel
theorem dX1_same_8 : decode cX1_same 8 = .ok (.invokevirtual 49, 3) := by decide +kernel
theorem dX1_same_11 : decode cX1_same 11 = .ok (.astore 4, 2) := by decide +kernel
theorem dX1_same_13 : decode cX1_same 13 = .ok (.aload_n 3, 1) := by decide +kernel
theorem dX1_same_14 : decode cX1_same 14 = .ok (.ifnull 8, 3) := by decide +kernel
theorem dX1_same_17 : decode cX1_same 17 = .ok (.aload 4, 2) := by decide +kernel
theorem dX1_same_19 : decode cX1_same 19 = .ok (.ifnonnull 5, 3) := by decide +kernel
theorem dX1_same_22 : decode cX1_same 22 = .ok (.iconst (-1), 1) := by decide +kernel
theorem dX1_same_23 : decode cX1_same 23 = .ok (.ireturn, 1) := by decide +kernel
theorem dX1_same_24 : decode cX1_same 24 = .ok (.aload_n 3, 1) := by decide +kernel
theorem dX1_same_25 : decode cX1_same 25 = .ok (.aload 4, 2) := by decide +kernel
theorem dX1_same_27 : decode cX1_same 27 = .ok (.if_acmp .ne 7, 3) := by decide +kernel
theorem dX1_same_30 : decode cX1_same 30 = .ok (.iconst 1, 1) := by decide +kernel
theorem dX1_same_31 : decode cX1_same 31 = .ok (.goto 4, 3) := by decide +kernel
theorem dX1_same_34 : decode cX1_same 34 = .ok (.iconst 0, 1) := by decide +kernel
theorem dX1_same_35 : decode cX1_same 35 = .ok (.ireturn, 1) := by decide +kernel
theorem dX1_good_0 : decode cX1_good 0 = .ok (.aload_n 0, 1) := by decide +kernel
theorem dX1_good_1 : decode cX1_good 1 = .ok (.iload_n 1, 1) := by decide +kernel
theorem dX1_good_2 : decode cX1_good 2 = .ok (.bipush 7, 2) := by decide +kernel
theorem dX1_good_4 : decode cX1_good 4 = .ok (.invokevirtual 37, 3) := by decide +kernel
theorem dX1_good_7 : decode cX1_good 7 = .ok (.astore_n 2, 1) := by decide +kernel
theorem dX1_good_8 : decode cX1_good 8 = .ok (.aload_n 2, 1) := by decide +kernel
theorem dX1_good_9 : decode cX1_good 9 = .ok (.ifnonnull 5, 3) := by decide +kernel
theorem dX1_good_12 : decode cX1_good 12 = .ok (.iconst (-1), 1) := by decide +kernel
theorem dX1_good_13 : decode cX1_good 13 = .ok (.ireturn, 1) := by decide +kernel
theorem dX1_good_14 : decode cX1_good 14 = .ok (.aload_n 2, 1) := by decide +kernel
theorem dX1_good_15 : decode cX1_good 15 = .ok (.invokestatic 95, 3) := by decide +kernel
theorem dX1_good_18 : decode cX1_good 18 = .ok (.ifCond .eq 14, 3) := by decide +kernel
theorem dX1_good_21 : decode cX1_good 21 = .ok (.aload_n 2, 1) := by decide +kernel
theorem dX1_good_22 : decode cX1_good 22 = .ok (.invokestatic 99, 3) := by decide +kernel
theorem dX1_good_25 : decode cX1_good 25 = .ok (.ifCond .eq 7, 3) := by decide +kernel
theorem dX1_good_28 : decode cX1_good 28 = .ok (.iconst 1, 1) := by decide +kernel
theorem dX1_good_29 : decode cX1_good 29 = .ok (.goto 4, 3) := by decide +kernel
theorem dX1_good_32 : decode cX1_good 32 = .ok (.iconst 0, 1) := by decide +kernel
theorem dX1_good_33 : decode cX1_good 33 = .ok (.ireturn, 1) := by decide +kernel
theorem dX1_about_0 : decode cX1_about 0 = .ok (.aload_n 0, 1) := by decide +kernel
theorem dX1_about_1 : decode cX1_about 1 = .ok (.iload_n 1, 1) := by decide +kernel
theorem dX1_about_2 : decode cX1_about 2 = .ok (.invokevirtual 49, 3) := by decide +kernel
theorem dX1_about_5 : decode cX1_about 5 = .ok (.astore_n 3, 1) := by decide +kernel
theorem dX1_about_6 : decode cX1_about 6 = .ok (.aload_n 3, 1) := by decide +kernel
theorem dX1_about_7 : decode cX1_about 7 = .ok (.ifnonnull 5, 3) := by decide +kernel
theorem dX1_about_10 : decode cX1_about 10 = .ok (.iconst (-1), 1) := by decide +kernel
theorem dX1_about_11 : decode cX1_about 11 = .ok (.ireturn, 1) := by decide +kernel
theorem dX1_about_12 : decode cX1_about 12 = .ok (.iload_n 2, 1) := by decide +kernel
theorem dX1_about_13 : decode cX1_about 13 = .ok (.ifCond .ne 8, 3) := by decide +kernel
theorem dX1_about_16 : decode cX1_about 16 = .ok (.aload_n 3, 1) := by decide +kernel
theorem dX1_about_17 : decode cX1_about 17 = .ok (.getfield 78, 3) := by decide +kernel
theorem dX1_about_20 : decode cX1_about 20 = .ok (.ireturn, 1) := by decide +kernel
theorem dX1_about_21 : decode cX1_about 21 = .ok (.iload_n 2, 1) := by decide +kernel
theorem dX1_about_22 : decode cX1_about 22 = .ok (.iconst 1, 1) := by decide +kernel
theorem dX1_about_23 : decode cX1_about 23 = .ok (.if_icmp .ne 8, 3) := by decide +kernel
theorem dX1_about_26 : decode cX1_about 26 = .ok (.aload_n 3, 1) := by decide +kernel
theorem dX1_about_27 : decode cX1_about 27 = .ok (.getfield 102, 3) := by decide +kernel
theorem dX1_about_30 : decode cX1_about 30 = .ok (.ireturn, 1) := by decide +kernel
theorem dX1_about_31 : decode cX1_about 31 = .ok (.iload_n 2, 1) := by decide +kernel
theorem dX1_about_32 : decode cX1_about 32 = .ok (.iconst 2, 1) := by decide +kernel
theorem dX1_about_33 : decode cX1_about 33 = .ok (.isub, 1) := by decide +kernel
theorem dX1_about_34 : decode cX1_about 34 = .ok (.invokestatic 59, 3) := by decide +kernel
theorem dX1_about_37 : decode cX1_about 37 = .ok (.ifCond .eq 13, 3) := by decide +kernel
theorem dX1_about_40 : decode cX1_about 40 = .ok (.aload_n 3, 1) := by decide +kernel
theorem dX1_about_41 : decode cX1_about 41 = .ok (.iload_n 2, 1) := by decide +kernel
theorem dX1_about_42 : decode cX1_about 42 = .ok (.iconst 2, 1) := by decide +kernel
theorem dX1_about_43 : decode cX1_about 43 = .ok (.isub, 1) := by decide +kernel
theorem dX1_about_44 : decode cX1_about 44 = .ok (.invokevirtual 105, 3) := by decide +kernel
theorem dX1_about_47 : decode cX1_about 47 = .ok (.goto 4, 3) := by decide +kernel
theorem dX1_about_50 : decode cX1_about 50 = .ok (.iconst (-1), 1) := by decide +kernel
theorem dX1_about_51 : decode cX1_about 51 = .ok (.ireturn, 1) := by decide +kernel
theorem dX1_count_0 : decode cX1_count 0 = .ok (.iload_n 1, 1) := by decide +kernel
theorem dX1_count_1 : decode cX1_count 1 = .ok (.ifCond .ne 8, 3) := by decide +kernel
theorem dX1_count_4 : decode cX1_count 4 = .ok (.aload_n 0, 1) := by decide +kernel
theorem dX1_count_5 : decode cX1_count 5 = .ok (.getfield 18, 3) := by decide +kernel
theorem dX1_count_8 : decode cX1_count 8 = .ok (.ireturn, 1) := by decide +kernel
theorem dX1_count_9 : decode cX1_count 9 = .ok (.iload_n 1, 1) := by decide +kernel
theorem dX1_count_10 : decode cX1_count 10 = .ok (.iconst 1, 1) := by decide +kernel
theorem dX1_count_11 : decode cX1_count 11 = .ok (.if_icmp .ne 10, 3) := by decide +kernel
theorem dX1_count_14 : decode cX1_count 14 = .ok (.aload_n 0, 1) := by decide +kernel
theorem dX1_count_15 : decode cX1_count 15 = .ok (.getfield 22, 3) := by decide +kernel
theorem dX1_count_18 : decode cX1_count 18 = .ok (.goto 4, 3) := by decide +kernel
theorem dX1_count_21 : decode cX1_count 21 = .ok (.iconst (-1), 1) := by decide +kernel
theorem dX1_count_22 : decode cX1_count 22 = .ok (.ireturn, 1) := by decide +kernel
theorem dX1_isRegister_0 : decode cX1_isRegister 0 = .ok (.iload_n 0, 1) := by decide +kernel
theorem dX1_isRegister_1 : decode cX1_isRegister 1 = .ok (.ifCond .lt 13, 3) := by decide +kernel
theorem dX1_isRegister_4 : decode cX1_isRegister 4 = .ok (.iload_n 0, 1) := by decide +kernel
theorem dX1_isRegister_5 : decode cX1_isRegister 5 = .ok (.bipush 64, 2) := by decide +kernel
theorem dX1_isRegister_7 : decode cX1_isRegister 7 = .ok (.if_icmp .ge 7, 3) := by decide +kernel
theorem dX1_isRegister_10 : decode cX1_isRegister 10 = .ok (.iconst 1, 1) := by decide +kernel
theorem dX1_isRegister_11 : decode cX1_isRegister 11 = .ok (.goto 4, 3) := by decide +kernel
theorem dX1_isRegister_14 : decode cX1_isRegister 14 = .ok (.iconst 0, 1) := by decide +kernel
theorem dX1_isRegister_15 : decode cX1_isRegister 15 = .ok (.ireturn, 1) := by decide +kernel
theorem dX1_isSlot_0 : decode cX1_isSlot 0 = .ok (.iload_n 0, 1) := by decide +kernel
theorem dX1_isSlot_1 : decode cX1_isSlot 1 = .ok (.ifCond .lt 12, 3) := by decide +kernel
theorem dX1_isSlot_4 : decode cX1_isSlot 4 = .ok (.iload_n 0, 1) := by decide +kernel
theorem dX1_isSlot_5 : decode cX1_isSlot 5 = .ok (.iconst 4, 1) := by decide +kernel
theorem dX1_isSlot_6 : decode cX1_isSlot 6 = .ok (.if_icmp .ge 7, 3) := by decide +kernel
theorem dX1_isSlot_9 : decode cX1_isSlot 9 = .ok (.iconst 1, 1) := by decide +kernel
theorem dX1_isSlot_10 : decode cX1_isSlot 10 = .ok (.goto 4, 3) := by decide +kernel
theorem dX1_isSlot_13 : decode cX1_isSlot 13 = .ok (.iconst 0, 1) := by decide +kernel
theorem dX1_isSlot_14 : decode cX1_isSlot 14 = .ok (.ireturn, 1) := by decide +kernel
theorem dX1_isKind_0 : decode cX1_isKind 0 = .ok (.iload_n 0, 1) := by decide +kernel
theorem dX1_isKind_1 : decode cX1_isKind 1 = .ok (.iconst 1, 1) := by decide +kernel
theorem dX1_isKind_2 : decode cX1_isKind 2 = .ok (.if_icmp .lt 13, 3) := by decide +kernel
theorem dX1_isKind_5 : decode cX1_isKind 5 = .ok (.iload_n 0, 1) := by decide +kernel
theorem dX1_isKind_6 : decode cX1_isKind 6 = .ok (.bipush 7, 2) := by decide +kernel
theorem dX1_isKind_8 : decode cX1_isKind 8 = .ok (.if_icmp .gt 7, 3) := by decide +kernel
theorem dX1_isKind_11 : decode cX1_isKind 11 = .ok (.iconst 1, 1) := by decide +kernel
theorem dX1_isKind_12 : decode cX1_isKind 12 = .ok (.goto 4, 3) := by decide +kernel
theorem dX1_isKind_15 : decode cX1_isKind 15 = .ok (.iconst 0, 1) := by decide +kernel
theorem dX1_isKind_16 : decode cX1_isKind 16 = .ok (.ireturn, 1) := by decide +kernel
theorem dX1_termIn_0 : decode cX1_termIn 0 = .ok (.iload_n 1, 1) := by decide +kernel
theorem dX1_termIn_1 : decode cX1_termIn 1 = .ok (.invokestatic 109, 3) := by decide +kernel
theorem dX1_termIn_4 : decode cX1_termIn 4 = .ok (.ifCond .eq 12, 3) := by decide +kernel
theorem dX1_termIn_7 : decode cX1_termIn 7 = .ok (.aload_n 0, 1) := by decide +kernel
theorem dX1_termIn_8 : decode cX1_termIn 8 = .ok (.getfield 11, 3) := by decide +kernel
theorem dX1_termIn_11 : decode cX1_termIn 11 = .ok (.iload_n 1, 1) := by decide +kernel
theorem dX1_termIn_12 : decode cX1_termIn 12 = .ok (.aaload, 1) := by decide +kernel
theorem dX1_termIn_13 : decode cX1_termIn 13 = .ok (.goto 4, 3) := by decide +kernel
theorem dX1_termIn_16 : decode cX1_termIn 16 = .ok (.aconst_null, 1) := by decide +kernel
theorem dX1_termIn_17 : decode cX1_termIn 17 = .ok (.areturn, 1) := by decide +kernel
theorem dX1_termOfSort_0 : decode cX1_termOfSort 0 = .ok (.aload_n 0, 1) := by decide +kernel
theorem dX1_termOfSort_1 : decode cX1_termOfSort 1 = .ok (.iload_n 1, 1) := by decide +kernel
theorem dX1_termOfSort_2 : decode cX1_termOfSort 2 = .ok (.invokevirtual 49, 3) := by decide +kernel
theorem dX1_termOfSort_5 : decode cX1_termOfSort 5 = .ok (.astore_n 3, 1) := by decide +kernel
theorem dX1_termOfSort_6 : decode cX1_termOfSort 6 = .ok (.aload_n 3, 1) := by decide +kernel
theorem dX1_termOfSort_7 : decode cX1_termOfSort 7 = .ok (.ifnull 15, 3) := by decide +kernel
theorem dX1_termOfSort_10 : decode cX1_termOfSort 10 = .ok (.aload_n 3, 1) := by decide +kernel
theorem dX1_termOfSort_11 : decode cX1_termOfSort 11 = .ok (.getfield 78, 3) := by decide +kernel
theorem dX1_termOfSort_14 : decode cX1_termOfSort 14 = .ok (.iload_n 2, 1) := by decide +kernel
theorem dX1_termOfSort_15 : decode cX1_termOfSort 15 = .ok (.if_icmp .ne 7, 3) := by decide +kernel
theorem dX1_termOfSort_18 : decode cX1_termOfSort 18 = .ok (.aload_n 3, 1) := by decide +kernel
theorem dX1_termOfSort_19 : decode cX1_termOfSort 19 = .ok (.goto 4, 3) := by decide +kernel
theorem dX1_termOfSort_22 : decode cX1_termOfSort 22 = .ok (.aconst_null, 1) := by decide +kernel
theorem dX1_termOfSort_23 : decode cX1_termOfSort 23 = .ok (.areturn, 1) := by decide +kernel
theorem dX1_isTermOrNothing_0 : decode cX1_isTermOrNothing 0 = .ok (.iload_n 1, 1) := by decide +kernel
theorem dX1_isTermOrNothing_1 : decode cX1_isTermOrNothing 1 = .ok (.iconst (-1), 1) := by decide +kernel
theorem dX1_isTermOrNothing_2 : decode cX1_isTermOrNothing 2 = .ok (.if_icmp .eq 11, 3) := by decide +kernel
theorem dX1_isTermOrNothing_5 : decode cX1_isTermOrNothing 5 = .ok (.aload_n 0, 1) := by decide +kernel
theorem dX1_isTermOrNothing_6 : decode cX1_isTermOrNothing 6 = .ok (.iload_n 1, 1) := by decide +kernel
theorem dX1_isTermOrNothing_7 : decode cX1_isTermOrNothing 7 = .ok (.invokevirtual 49, 3) := by decide +kernel
theorem dX1_isTermOrNothing_10 : decode cX1_isTermOrNothing 10 = .ok (.ifnull 7, 3) := by decide +kernel
theorem dX1_isTermOrNothing_13 : decode cX1_isTermOrNothing 13 = .ok (.iconst 1, 1) := by decide +kernel
theorem dX1_isTermOrNothing_14 : decode cX1_isTermOrNothing 14 = .ok (.goto 4, 3) := by decide +kernel
theorem dX1_isTermOrNothing_17 : decode cX1_isTermOrNothing 17 = .ok (.iconst 0, 1) := by decide +kernel
theorem dX1_isTermOrNothing_18 : decode cX1_isTermOrNothing 18 = .ok (.ireturn, 1) := by decide +kernel
theorem dX1_plainTerm_0 : decode cX1_plainTerm 0 = .ok (.iconst 4, 1) := by decide +kernel
theorem dX1_plainTerm_1 : decode cX1_plainTerm 1 = .ok (.anewarray 9, 3) := by decide +kernel
theorem dX1_plainTerm_4 : decode cX1_plainTerm 4 = .ok (.dup, 1) := by decide +kernel
theorem dX1_plainTerm_5 : decode cX1_plainTerm 5 = .ok (.iconst 0, 1) := by decide +kernel
theorem dX1_plainTerm_6 : decode cX1_plainTerm 6 = .ok (.aload_n 3, 1) := by decide +kernel
theorem dX1_plainTerm_7 : decode cX1_plainTerm 7 = .ok (.aastore, 1) := by decide +kernel
theorem dX1_plainTerm_8 : decode cX1_plainTerm 8 = .ok (.dup, 1) := by decide +kernel
theorem dX1_plainTerm_9 : decode cX1_plainTerm 9 = .ok (.iconst 1, 1) := by decide +kernel
theorem dX1_plainTerm_10 : decode cX1_plainTerm 10 = .ok (.aload 4, 2) := by decide +kernel
theorem dX1_plainTerm_12 : decode cX1_plainTerm 12 = .ok (.aastore, 1) := by decide +kernel
theorem dX1_plainTerm_13 : decode cX1_plainTerm 13 = .ok (.dup, 1) := by decide +kernel
theorem dX1_plainTerm_14 : decode cX1_plainTerm 14 = .ok (.iconst 2, 1) := by decide +kernel
theorem dX1_plainTerm_15 : decode cX1_plainTerm 15 = .ok (.aload 5, 2) := by decide +kernel
theorem dX1_plainTerm_17 : decode cX1_plainTerm 17 = .ok (.aastore, 1) := by decide +kernel
theorem dX1_plainTerm_18 : decode cX1_plainTerm 18 = .ok (.dup, 1) := by decide +kernel
theorem dX1_plainTerm_19 : decode cX1_plainTerm 19 = .ok (.iconst 3, 1) := by decide +kernel
theorem dX1_plainTerm_20 : decode cX1_plainTerm 20 = .ok (.aconst_null, 1) := by decide +kernel
theorem dX1_plainTerm_21 : decode cX1_plainTerm 21 = .ok (.aastore, 1) := by decide +kernel
theorem dX1_plainTerm_22 : decode cX1_plainTerm 22 = .ok (.astore 6, 2) := by decide +kernel
theorem dX1_plainTerm_24 : decode cX1_plainTerm 24 = .ok (.new 9, 3) := by decide +kernel
theorem dX1_plainTerm_27 : decode cX1_plainTerm 27 = .ok (.dup, 1) := by decide +kernel
theorem dX1_plainTerm_28 : decode cX1_plainTerm 28 = .ok (.iload_n 1, 1) := by decide +kernel
theorem dX1_plainTerm_29 : decode cX1_plainTerm 29 = .ok (.iload_n 2, 1) := by decide +kernel
theorem dX1_plainTerm_30 : decode cX1_plainTerm 30 = .ok (.aload_n 0, 1) := by decide +kernel
theorem dX1_plainTerm_31 : decode cX1_plainTerm 31 = .ok (.getfield 25, 3) := by decide +kernel
theorem dX1_plainTerm_34 : decode cX1_plainTerm 34 = .ok (.aload 6, 2) := by decide +kernel
theorem dX1_plainTerm_36 : decode cX1_plainTerm 36 = .ok (.invokespecial 112, 3) := by decide +kernel
theorem dX1_plainTerm_39 : decode cX1_plainTerm 39 = .ok (.areturn, 1) := by decide +kernel
theorem dX1_makeSharedInto_0 : decode cX1_makeSharedInto 0 = .ok (.aload_n 2, 1) := by decide +kernel
theorem dX1_makeSharedInto_1 : decode cX1_makeSharedInto 1 = .ok (.ifnull 7, 3) := by decide +kernel
theorem dX1_makeSharedInto_4 : decode cX1_makeSharedInto 4 = .ok (.aload_n 3, 1) := by decide +kernel
theorem dX1_makeSharedInto_5 : decode cX1_makeSharedInto 5 = .ok (.ifnonnull 5, 3) := by decide +kernel
theorem dX1_makeSharedInto_8 : decode cX1_makeSharedInto 8 = .ok (.iconst (-1), 1) := by decide +kernel
theorem dX1_makeSharedInto_9 : decode cX1_makeSharedInto 9 = .ok (.ireturn, 1) := by decide +kernel
theorem dX1_makeSharedInto_10 : decode cX1_makeSharedInto 10 = .ok (.aload_n 2, 1) := by decide +kernel
theorem dX1_makeSharedInto_11 : decode cX1_makeSharedInto 11 = .ok (.getfield 115, 3) := by decide +kernel
theorem dX1_makeSharedInto_14 : decode cX1_makeSharedInto 14 = .ok (.aload_n 3, 1) := by decide +kernel
theorem dX1_makeSharedInto_15 : decode cX1_makeSharedInto 15 = .ok (.getfield 115, 3) := by decide +kernel
theorem dX1_makeSharedInto_18 : decode cX1_makeSharedInto 18 = .ok (.if_icmp .gt 7, 3) := by decide +kernel
theorem dX1_makeSharedInto_21 : decode cX1_makeSharedInto 21 = .ok (.iconst 1, 1) := by decide +kernel
theorem dX1_makeSharedInto_22 : decode cX1_makeSharedInto 22 = .ok (.goto 4, 3) := by decide +kernel
theorem dX1_makeSharedInto_25 : decode cX1_makeSharedInto 25 = .ok (.iconst 0, 1) := by decide +kernel
theorem dX1_makeSharedInto_26 : decode cX1_makeSharedInto 26 = .ok (.istore 4, 2) := by decide +kernel
theorem dX1_makeSharedInto_28 : decode cX1_makeSharedInto 28 = .ok (.aload_n 0, 1) := by decide +kernel
theorem dX1_makeSharedInto_29 : decode cX1_makeSharedInto 29 = .ok (.iload_n 1, 1) := by decide +kernel
theorem dX1_makeSharedInto_30 : decode cX1_makeSharedInto 30 = .ok (.aload_n 0, 1) := by decide +kernel
theorem dX1_makeSharedInto_31 : decode cX1_makeSharedInto 31 = .ok (.iconst 3, 1) := by decide +kernel
theorem dX1_makeSharedInto_32 : decode cX1_makeSharedInto 32 = .ok (.iconst 0, 1) := by decide +kernel
theorem dX1_makeSharedInto_33 : decode cX1_makeSharedInto 33 = .ok (.iload 4, 2) := by decide +kernel
theorem dX1_makeSharedInto_35 : decode cX1_makeSharedInto 35 = .ok (.ifCond .eq 7, 3) := by decide +kernel
theorem dX1_makeSharedInto_38 : decode cX1_makeSharedInto 38 = .ok (.aload_n 2, 1) := by decide +kernel
theorem dX1_makeSharedInto_39 : decode cX1_makeSharedInto 39 = .ok (.goto 4, 3) := by decide +kernel
theorem dX1_makeSharedInto_42 : decode cX1_makeSharedInto 42 = .ok (.aload_n 3, 1) := by decide +kernel
theorem dX1_makeSharedInto_43 : decode cX1_makeSharedInto 43 = .ok (.iload 4, 2) := by decide +kernel
theorem dX1_makeSharedInto_45 : decode cX1_makeSharedInto 45 = .ok (.ifCond .eq 7, 3) := by decide +kernel
theorem dX1_makeSharedInto_48 : decode cX1_makeSharedInto 48 = .ok (.aload_n 3, 1) := by decide +kernel
theorem dX1_makeSharedInto_49 : decode cX1_makeSharedInto 49 = .ok (.goto 4, 3) := by decide +kernel
theorem dX1_makeSharedInto_52 : decode cX1_makeSharedInto 52 = .ok (.aload_n 2, 1) := by decide +kernel
theorem dX1_makeSharedInto_53 : decode cX1_makeSharedInto 53 = .ok (.aconst_null, 1) := by decide +kernel
theorem dX1_makeSharedInto_54 : decode cX1_makeSharedInto 54 = .ok (.invokevirtual 29, 3) := by decide +kernel
theorem dX1_makeSharedInto_57 : decode cX1_makeSharedInto 57 = .ok (.invokevirtual 33, 3) := by decide +kernel
theorem dX1_makeSharedInto_60 : decode cX1_makeSharedInto 60 = .ok (.ireturn, 1) := by decide +kernel
theorem dX1_makeInto_0 : decode cX1_makeInto 0 = .ok (.iload_n 1, 1) := by decide +kernel
theorem dX1_makeInto_1 : decode cX1_makeInto 1 = .ok (.invokestatic 109, 3) := by decide +kernel
theorem dX1_makeInto_4 : decode cX1_makeInto 4 = .ok (.ifCond .ne 5, 3) := by decide +kernel
theorem dX1_makeInto_7 : decode cX1_makeInto 7 = .ok (.iconst (-1), 1) := by decide +kernel
theorem dX1_makeInto_8 : decode cX1_makeInto 8 = .ok (.ireturn, 1) := by decide +kernel
theorem dX1_makeInto_9 : decode cX1_makeInto 9 = .ok (.aload_n 0, 1) := by decide +kernel
theorem dX1_makeInto_10 : decode cX1_makeInto 10 = .ok (.aload_n 2, 1) := by decide +kernel
theorem dX1_makeInto_11 : decode cX1_makeInto 11 = .ok (.invokevirtual 118, 3) := by decide +kernel
theorem dX1_makeInto_14 : decode cX1_makeInto 14 = .ok (.astore_n 3, 1) := by decide +kernel
theorem dX1_makeInto_15 : decode cX1_makeInto 15 = .ok (.aload_n 0, 1) := by decide +kernel
theorem dX1_makeInto_16 : decode cX1_makeInto 16 = .ok (.iload_n 1, 1) := by decide +kernel
theorem dX1_makeInto_17 : decode cX1_makeInto 17 = .ok (.aload_n 3, 1) := by decide +kernel
theorem dX1_makeInto_18 : decode cX1_makeInto 18 = .ok (.ifnull 7, 3) := by decide +kernel
theorem dX1_makeInto_21 : decode cX1_makeInto 21 = .ok (.aload_n 3, 1) := by decide +kernel
theorem dX1_makeInto_22 : decode cX1_makeInto 22 = .ok (.goto 8, 3) := by decide +kernel
theorem dX1_makeInto_25 : decode cX1_makeInto 25 = .ok (.aload_n 0, 1) := by decide +kernel
theorem dX1_makeInto_26 : decode cX1_makeInto 26 = .ok (.aload_n 2, 1) := by decide +kernel
theorem dX1_makeInto_27 : decode cX1_makeInto 27 = .ok (.invokevirtual 122, 3) := by decide +kernel
theorem dX1_makeInto_30 : decode cX1_makeInto 30 = .ok (.invokevirtual 81, 3) := by decide +kernel
theorem dX1_makeInto_33 : decode cX1_makeInto 33 = .ok (.ireturn, 1) := by decide +kernel
theorem dX1_putInto_0 : decode cX1_putInto 0 = .ok (.iload_n 1, 1) := by decide +kernel
theorem dX1_putInto_1 : decode cX1_putInto 1 = .ok (.invokestatic 109, 3) := by decide +kernel
theorem dX1_putInto_4 : decode cX1_putInto 4 = .ok (.ifCond .eq 7, 3) := by decide +kernel
theorem dX1_putInto_7 : decode cX1_putInto 7 = .ok (.aload_n 2, 1) := by decide +kernel
theorem dX1_putInto_8 : decode cX1_putInto 8 = .ok (.ifnonnull 5, 3) := by decide +kernel
theorem dX1_putInto_11 : decode cX1_putInto 11 = .ok (.iconst (-1), 1) := by decide +kernel
theorem dX1_putInto_12 : decode cX1_putInto 12 = .ok (.ireturn, 1) := by decide +kernel
theorem dX1_putInto_13 : decode cX1_putInto 13 = .ok (.aload_n 0, 1) := by decide +kernel
theorem dX1_putInto_14 : decode cX1_putInto 14 = .ok (.getfield 11, 3) := by decide +kernel
theorem dX1_putInto_17 : decode cX1_putInto 17 = .ok (.iload_n 1, 1) := by decide +kernel
theorem dX1_putInto_18 : decode cX1_putInto 18 = .ok (.aload_n 2, 1) := by decide +kernel
theorem dX1_putInto_19 : decode cX1_putInto 19 = .ok (.aastore, 1) := by decide +kernel
theorem dX1_putInto_20 : decode cX1_putInto 20 = .ok (.iconst 1, 1) := by decide +kernel
theorem dX1_putInto_21 : decode cX1_putInto 21 = .ok (.ireturn, 1) := by decide +kernel
theorem dX1_findLike_0 : decode cX1_findLike 0 = .ok (.iconst 0, 1) := by decide +kernel
theorem dX1_findLike_1 : decode cX1_findLike 1 = .ok (.istore_n 2, 1) := by decide +kernel
theorem dX1_findLike_2 : decode cX1_findLike 2 = .ok (.iload_n 2, 1) := by decide +kernel
theorem dX1_findLike_3 : decode cX1_findLike 3 = .ok (.aload_n 0, 1) := by decide +kernel
theorem dX1_findLike_4 : decode cX1_findLike 4 = .ok (.getfield 18, 3) := by decide +kernel
theorem dX1_findLike_7 : decode cX1_findLike 7 = .ok (.if_icmp .ge 39, 3) := by decide +kernel
theorem dX1_findLike_10 : decode cX1_findLike 10 = .ok (.iload_n 2, 1) := by decide +kernel
theorem dX1_findLike_11 : decode cX1_findLike 11 = .ok (.aload_n 0, 1) := by decide +kernel
theorem dX1_findLike_12 : decode cX1_findLike 12 = .ok (.getfield 15, 3) := by decide +kernel
theorem dX1_findLike_15 : decode cX1_findLike 15 = .ok (.arraylength, 1) := by decide +kernel
theorem dX1_findLike_16 : decode cX1_findLike 16 = .ok (.if_icmp .ge 30, 3) := by decide +kernel
theorem dX1_findLike_19 : decode cX1_findLike 19 = .ok (.aload_n 0, 1) := by decide +kernel
theorem dX1_findLike_20 : decode cX1_findLike 20 = .ok (.getfield 15, 3) := by decide +kernel
theorem dX1_findLike_23 : decode cX1_findLike 23 = .ok (.iload_n 2, 1) := by decide +kernel
theorem dX1_findLike_24 : decode cX1_findLike 24 = .ok (.aaload, 1) := by decide +kernel
theorem dX1_findLike_25 : decode cX1_findLike 25 = .ok (.astore_n 3, 1) := by decide +kernel
theorem dX1_findLike_26 : decode cX1_findLike 26 = .ok (.aload_n 3, 1) := by decide +kernel
theorem dX1_findLike_27 : decode cX1_findLike 27 = .ok (.ifnull 13, 3) := by decide +kernel
theorem dX1_findLike_30 : decode cX1_findLike 30 = .ok (.aload_n 3, 1) := by decide +kernel
theorem dX1_findLike_31 : decode cX1_findLike 31 = .ok (.aload_n 1, 1) := by decide +kernel
theorem dX1_findLike_32 : decode cX1_findLike 32 = .ok (.invokevirtual 125, 3) := by decide +kernel
theorem dX1_findLike_35 : decode cX1_findLike 35 = .ok (.ifCond .eq 5, 3) := by decide +kernel
theorem dX1_findLike_38 : decode cX1_findLike 38 = .ok (.aload_n 3, 1) := by decide +kernel
theorem dX1_findLike_39 : decode cX1_findLike 39 = .ok (.areturn, 1) := by decide +kernel
theorem dX1_findLike_40 : decode cX1_findLike 40 = .ok (.iinc 2 1, 3) := by decide +kernel
theorem dX1_findLike_43 : decode cX1_findLike 43 = .ok (.goto (-41), 3) := by decide +kernel
theorem dX1_findLike_46 : decode cX1_findLike 46 = .ok (.aconst_null, 1) := by decide +kernel
theorem dX1_findLike_47 : decode cX1_findLike 47 = .ok (.areturn, 1) := by decide +kernel
theorem dX1_keep_0 : decode cX1_keep 0 = .ok (.aload_n 0, 1) := by decide +kernel
theorem dX1_keep_1 : decode cX1_keep 1 = .ok (.getfield 18, 3) := by decide +kernel
theorem dX1_keep_4 : decode cX1_keep 4 = .ok (.ifCond .lt 15, 3) := by decide +kernel
theorem dX1_keep_7 : decode cX1_keep 7 = .ok (.aload_n 0, 1) := by decide +kernel
theorem dX1_keep_8 : decode cX1_keep 8 = .ok (.getfield 18, 3) := by decide +kernel
theorem dX1_keep_11 : decode cX1_keep 11 = .ok (.aload_n 0, 1) := by decide +kernel
theorem dX1_keep_12 : decode cX1_keep 12 = .ok (.getfield 15, 3) := by decide +kernel
theorem dX1_keep_15 : decode cX1_keep 15 = .ok (.arraylength, 1) := by decide +kernel
theorem dX1_keep_16 : decode cX1_keep 16 = .ok (.if_icmp .lt 5, 3) := by decide +kernel
theorem dX1_keep_19 : decode cX1_keep 19 = .ok (.aconst_null, 1) := by decide +kernel
theorem dX1_keep_20 : decode cX1_keep 20 = .ok (.areturn, 1) := by decide +kernel
theorem dX1_keep_21 : decode cX1_keep 21 = .ok (.aload_n 1, 1) := by decide +kernel
theorem dX1_keep_22 : decode cX1_keep 22 = .ok (.aload_n 0, 1) := by decide +kernel
theorem dX1_keep_23 : decode cX1_keep 23 = .ok (.getfield 18, 3) := by decide +kernel
theorem dX1_keep_26 : decode cX1_keep 26 = .ok (.putfield 115, 3) := by decide +kernel
theorem dX1_keep_29 : decode cX1_keep 29 = .ok (.aload_n 0, 1) := by decide +kernel
theorem dX1_keep_30 : decode cX1_keep 30 = .ok (.getfield 15, 3) := by decide +kernel
theorem dX1_keep_33 : decode cX1_keep 33 = .ok (.aload_n 0, 1) := by decide +kernel
theorem dX1_keep_34 : decode cX1_keep 34 = .ok (.getfield 18, 3) := by decide +kernel
theorem dX1_keep_37 : decode cX1_keep 37 = .ok (.aload_n 1, 1) := by decide +kernel
theorem dX1_keep_38 : decode cX1_keep 38 = .ok (.aastore, 1) := by decide +kernel
theorem dX1_keep_39 : decode cX1_keep 39 = .ok (.aload_n 0, 1) := by decide +kernel
theorem dX1_keep_40 : decode cX1_keep 40 = .ok (.dup, 1) := by decide +kernel
theorem dX1_keep_41 : decode cX1_keep 41 = .ok (.getfield 18, 3) := by decide +kernel
theorem dX1_keep_44 : decode cX1_keep 44 = .ok (.iconst 1, 1) := by decide +kernel
theorem dX1_keep_45 : decode cX1_keep 45 = .ok (.iadd, 1) := by decide +kernel
theorem dX1_keep_46 : decode cX1_keep 46 = .ok (.putfield 18, 3) := by decide +kernel
theorem dX1_keep_49 : decode cX1_keep 49 = .ok (.aload_n 1, 1) := by decide +kernel
theorem dX1_keep_50 : decode cX1_keep 50 = .ok (.invokevirtual 128, 3) := by decide +kernel
theorem dX1_keep_53 : decode cX1_keep 53 = .ok (.ifCond .eq 8, 3) := by decide +kernel
theorem dX1_keep_56 : decode cX1_keep 56 = .ok (.aload_n 0, 1) := by decide +kernel
theorem dX1_keep_57 : decode cX1_keep 57 = .ok (.aload_n 1, 1) := by decide +kernel
theorem dX1_keep_58 : decode cX1_keep 58 = .ok (.invokevirtual 88, 3) := by decide +kernel
theorem dX1_keep_61 : decode cX1_keep 61 = .ok (.aload_n 1, 1) := by decide +kernel
theorem dX1_keep_62 : decode cX1_keep 62 = .ok (.areturn, 1) := by decide +kernel
theorem dX1_derive_0 : decode cX1_derive 0 = .ok (.aload_n 1, 1) := by decide +kernel
theorem dX1_derive_1 : decode cX1_derive 1 = .ok (.ifnull 10, 3) := by decide +kernel
theorem dX1_derive_4 : decode cX1_derive 4 = .ok (.aload_n 1, 1) := by decide +kernel
theorem dX1_derive_5 : decode cX1_derive 5 = .ok (.getfield 84, 3) := by decide +kernel
theorem dX1_derive_8 : decode cX1_derive 8 = .ok (.ifCond .eq 4, 3) := by decide +kernel
theorem dX1_derive_11 : decode cX1_derive 11 = .ok (.return_, 1) := by decide +kernel
theorem dX1_derive_12 : decode cX1_derive 12 = .ok (.aload_n 1, 1) := by decide +kernel
theorem dX1_derive_13 : decode cX1_derive 13 = .ok (.iconst 1, 1) := by decide +kernel
theorem dX1_derive_14 : decode cX1_derive 14 = .ok (.putfield 84, 3) := by decide +kernel
theorem dX1_derive_17 : decode cX1_derive 17 = .ok (.aload_n 0, 1) := by decide +kernel
theorem dX1_derive_18 : decode cX1_derive 18 = .ok (.dup, 1) := by decide +kernel
theorem dX1_derive_19 : decode cX1_derive 19 = .ok (.getfield 22, 3) := by decide +kernel
theorem dX1_derive_22 : decode cX1_derive 22 = .ok (.iconst 1, 1) := by decide +kernel
theorem dX1_derive_23 : decode cX1_derive 23 = .ok (.iadd, 1) := by decide +kernel
theorem dX1_derive_24 : decode cX1_derive 24 = .ok (.putfield 22, 3) := by decide +kernel
theorem dX1_derive_27 : decode cX1_derive 27 = .ok (.aload_n 1, 1) := by decide +kernel
theorem dX1_derive_28 : decode cX1_derive 28 = .ok (.getfield 78, 3) := by decide +kernel
theorem dX1_derive_31 : decode cX1_derive 31 = .ok (.iconst 2, 1) := by decide +kernel
theorem dX1_derive_32 : decode cX1_derive 32 = .ok (.if_icmp .ne 11, 3) := by decide +kernel
theorem dX1_derive_35 : decode cX1_derive 35 = .ok (.aload_n 1, 1) := by decide +kernel
theorem dX1_derive_36 : decode cX1_derive 36 = .ok (.iconst 0, 1) := by decide +kernel
theorem dX1_derive_37 : decode cX1_derive 37 = .ok (.invokevirtual 45, 3) := by decide +kernel
theorem dX1_derive_40 : decode cX1_derive 40 = .ok (.goto 4, 3) := by decide +kernel
theorem dX1_derive_43 : decode cX1_derive 43 = .ok (.aload_n 1, 1) := by decide +kernel
theorem dX1_derive_44 : decode cX1_derive 44 = .ok (.astore_n 2, 1) := by decide +kernel
theorem dX1_derive_45 : decode cX1_derive 45 = .ok (.aload_n 2, 1) := by decide +kernel
theorem dX1_derive_46 : decode cX1_derive 46 = .ok (.ifnull 16, 3) := by decide +kernel
theorem dX1_derive_49 : decode cX1_derive 49 = .ok (.aload_n 2, 1) := by decide +kernel
theorem dX1_derive_50 : decode cX1_derive 50 = .ok (.getfield 78, 3) := by decide +kernel
theorem dX1_derive_53 : decode cX1_derive 53 = .ok (.iconst 1, 1) := by decide +kernel
theorem dX1_derive_54 : decode cX1_derive 54 = .ok (.if_icmp .ne 8, 3) := by decide +kernel
theorem dX1_derive_57 : decode cX1_derive 57 = .ok (.aload_n 2, 1) := by decide +kernel
theorem dX1_derive_58 : decode cX1_derive 58 = .ok (.iconst 1, 1) := by decide +kernel
theorem dX1_derive_59 : decode cX1_derive 59 = .ok (.putfield 132, 3) := by decide +kernel
theorem dX1_derive_62 : decode cX1_derive 62 = .ok (.return_, 1) := by decide +kernel
theorem dX1_spread_0 : decode cX1_spread 0 = .ok (.iconst 1, 1) := by decide +kernel
theorem dX1_spread_1 : decode cX1_spread 1 = .ok (.istore_n 1, 1) := by decide +kernel
theorem dX1_spread_2 : decode cX1_spread 2 = .ok (.iconst 0, 1) := by decide +kernel
theorem dX1_spread_3 : decode cX1_spread 3 = .ok (.istore_n 2, 1) := by decide +kernel
theorem dX1_spread_4 : decode cX1_spread 4 = .ok (.iload_n 1, 1) := by decide +kernel
theorem dX1_spread_5 : decode cX1_spread 5 = .ok (.ifCond .eq 43, 3) := by decide +kernel
theorem dX1_spread_8 : decode cX1_spread 8 = .ok (.iload_n 2, 1) := by decide +kernel
theorem dX1_spread_9 : decode cX1_spread 9 = .ok (.sipush 512, 3) := by decide +kernel
theorem dX1_spread_12 : decode cX1_spread 12 = .ok (.if_icmp .gt 36, 3) := by decide +kernel
theorem dX1_spread_15 : decode cX1_spread 15 = .ok (.aload_n 0, 1) := by decide +kernel
theorem dX1_spread_16 : decode cX1_spread 16 = .ok (.getfield 22, 3) := by decide +kernel
theorem dX1_spread_19 : decode cX1_spread 19 = .ok (.istore_n 3, 1) := by decide +kernel
theorem dX1_spread_20 : decode cX1_spread 20 = .ok (.aload_n 0, 1) := by decide +kernel
theorem dX1_spread_21 : decode cX1_spread 21 = .ok (.invokevirtual 135, 3) := by decide +kernel
theorem dX1_spread_24 : decode cX1_spread 24 = .ok (.aload_n 0, 1) := by decide +kernel
theorem dX1_spread_25 : decode cX1_spread 25 = .ok (.invokevirtual 138, 3) := by decide +kernel
theorem dX1_spread_28 : decode cX1_spread 28 = .ok (.aload_n 0, 1) := by decide +kernel
theorem dX1_spread_29 : decode cX1_spread 29 = .ok (.getfield 22, 3) := by decide +kernel
theorem dX1_spread_32 : decode cX1_spread 32 = .ok (.iload_n 3, 1) := by decide +kernel
theorem dX1_spread_33 : decode cX1_spread 33 = .ok (.if_icmp .le 7, 3) := by decide +kernel
theorem dX1_spread_36 : decode cX1_spread 36 = .ok (.iconst 1, 1) := by decide +kernel
theorem dX1_spread_37 : decode cX1_spread 37 = .ok (.goto 4, 3) := by decide +kernel
theorem dX1_spread_40 : decode cX1_spread 40 = .ok (.iconst 0, 1) := by decide +kernel
theorem dX1_spread_41 : decode cX1_spread 41 = .ok (.istore_n 1, 1) := by decide +kernel
theorem dX1_spread_42 : decode cX1_spread 42 = .ok (.iinc 2 1, 3) := by decide +kernel
theorem dX1_spread_45 : decode cX1_spread 45 = .ok (.goto (-41), 3) := by decide +kernel
theorem dX1_spread_48 : decode cX1_spread 48 = .ok (.return_, 1) := by decide +kernel
theorem dX1_takeAllApart_0 : decode cX1_takeAllApart 0 = .ok (.aload_n 0, 1) := by decide +kernel
theorem dX1_takeAllApart_1 : decode cX1_takeAllApart 1 = .ok (.getfield 18, 3) := by decide +kernel
theorem dX1_takeAllApart_4 : decode cX1_takeAllApart 4 = .ok (.aload_n 0, 1) := by decide +kernel
theorem dX1_takeAllApart_5 : decode cX1_takeAllApart 5 = .ok (.getfield 15, 3) := by decide +kernel
theorem dX1_takeAllApart_8 : decode cX1_takeAllApart 8 = .ok (.arraylength, 1) := by decide +kernel
theorem dX1_takeAllApart_9 : decode cX1_takeAllApart 9 = .ok (.invokestatic 141, 3) := by decide +kernel
theorem dX1_takeAllApart_12 : decode cX1_takeAllApart 12 = .ok (.iconst 1, 1) := by decide +kernel
theorem dX1_takeAllApart_13 : decode cX1_takeAllApart 13 = .ok (.isub, 1) := by decide +kernel
theorem dX1_takeAllApart_14 : decode cX1_takeAllApart 14 = .ok (.istore_n 1, 1) := by decide +kernel
theorem dX1_takeAllApart_15 : decode cX1_takeAllApart 15 = .ok (.iload_n 1, 1) := by decide +kernel
theorem dX1_takeAllApart_16 : decode cX1_takeAllApart 16 = .ok (.ifCond .lt 32, 3) := by decide +kernel
theorem dX1_takeAllApart_19 : decode cX1_takeAllApart 19 = .ok (.aload_n 0, 1) := by decide +kernel
theorem dX1_takeAllApart_20 : decode cX1_takeAllApart 20 = .ok (.getfield 15, 3) := by decide +kernel
theorem dX1_takeAllApart_23 : decode cX1_takeAllApart 23 = .ok (.iload_n 1, 1) := by decide +kernel
theorem dX1_takeAllApart_24 : decode cX1_takeAllApart 24 = .ok (.aaload, 1) := by decide +kernel
theorem dX1_takeAllApart_25 : decode cX1_takeAllApart 25 = .ok (.astore_n 2, 1) := by decide +kernel
theorem dX1_takeAllApart_26 : decode cX1_takeAllApart 26 = .ok (.aload_n 2, 1) := by decide +kernel
theorem dX1_takeAllApart_27 : decode cX1_takeAllApart 27 = .ok (.ifnull 15, 3) := by decide +kernel
theorem dX1_takeAllApart_30 : decode cX1_takeAllApart 30 = .ok (.aload_n 2, 1) := by decide +kernel
theorem dX1_takeAllApart_31 : decode cX1_takeAllApart 31 = .ok (.getfield 84, 3) := by decide +kernel
theorem dX1_takeAllApart_34 : decode cX1_takeAllApart 34 = .ok (.ifCond .eq 8, 3) := by decide +kernel
theorem dX1_takeAllApart_37 : decode cX1_takeAllApart 37 = .ok (.aload_n 0, 1) := by decide +kernel
theorem dX1_takeAllApart_38 : decode cX1_takeAllApart 38 = .ok (.aload_n 2, 1) := by decide +kernel
theorem dX1_takeAllApart_39 : decode cX1_takeAllApart 39 = .ok (.invokevirtual 147, 3) := by decide +kernel
theorem dX1_takeAllApart_42 : decode cX1_takeAllApart 42 = .ok (.iinc 1 (-1), 3) := by decide +kernel
theorem dX1_takeAllApart_45 : decode cX1_takeAllApart 45 = .ok (.goto (-30), 3) := by decide +kernel
theorem dX1_takeAllApart_48 : decode cX1_takeAllApart 48 = .ok (.return_, 1) := by decide +kernel
theorem dX1_putAllTogether_0 : decode cX1_putAllTogether 0 = .ok (.iconst 0, 1) := by decide +kernel
theorem dX1_putAllTogether_1 : decode cX1_putAllTogether 1 = .ok (.istore_n 1, 1) := by decide +kernel
theorem dX1_putAllTogether_2 : decode cX1_putAllTogether 2 = .ok (.iload_n 1, 1) := by decide +kernel
theorem dX1_putAllTogether_3 : decode cX1_putAllTogether 3 = .ok (.aload_n 0, 1) := by decide +kernel
theorem dX1_putAllTogether_4 : decode cX1_putAllTogether 4 = .ok (.getfield 18, 3) := by decide +kernel
theorem dX1_putAllTogether_7 : decode cX1_putAllTogether 7 = .ok (.if_icmp .ge 48, 3) := by decide +kernel
theorem dX1_putAllTogether_10 : decode cX1_putAllTogether 10 = .ok (.iload_n 1, 1) := by decide +kernel
theorem dX1_putAllTogether_11 : decode cX1_putAllTogether 11 = .ok (.aload_n 0, 1) := by decide +kernel
theorem dX1_putAllTogether_12 : decode cX1_putAllTogether 12 = .ok (.getfield 15, 3) := by decide +kernel
theorem dX1_putAllTogether_15 : decode cX1_putAllTogether 15 = .ok (.arraylength, 1) := by decide +kernel
theorem dX1_putAllTogether_16 : decode cX1_putAllTogether 16 = .ok (.if_icmp .ge 39, 3) := by decide +kernel
theorem dX1_putAllTogether_19 : decode cX1_putAllTogether 19 = .ok (.aload_n 0, 1) := by decide +kernel
theorem dX1_putAllTogether_20 : decode cX1_putAllTogether 20 = .ok (.getfield 15, 3) := by decide +kernel
theorem dX1_putAllTogether_23 : decode cX1_putAllTogether 23 = .ok (.iload_n 1, 1) := by decide +kernel
theorem dX1_putAllTogether_24 : decode cX1_putAllTogether 24 = .ok (.aaload, 1) := by decide +kernel
theorem dX1_putAllTogether_25 : decode cX1_putAllTogether 25 = .ok (.astore_n 2, 1) := by decide +kernel
theorem dX1_putAllTogether_26 : decode cX1_putAllTogether 26 = .ok (.aload_n 2, 1) := by decide +kernel
theorem dX1_putAllTogether_27 : decode cX1_putAllTogether 27 = .ok (.ifnull 22, 3) := by decide +kernel
theorem dX1_putAllTogether_30 : decode cX1_putAllTogether 30 = .ok (.aload_n 2, 1) := by decide +kernel
theorem dX1_putAllTogether_31 : decode cX1_putAllTogether 31 = .ok (.getfield 84, 3) := by decide +kernel
theorem dX1_putAllTogether_34 : decode cX1_putAllTogether 34 = .ok (.ifCond .ne 15, 3) := by decide +kernel
theorem dX1_putAllTogether_37 : decode cX1_putAllTogether 37 = .ok (.aload_n 2, 1) := by decide +kernel
theorem dX1_putAllTogether_38 : decode cX1_putAllTogether 38 = .ok (.invokevirtual 128, 3) := by decide +kernel
theorem dX1_putAllTogether_41 : decode cX1_putAllTogether 41 = .ok (.ifCond .eq 8, 3) := by decide +kernel
theorem dX1_putAllTogether_44 : decode cX1_putAllTogether 44 = .ok (.aload_n 0, 1) := by decide +kernel
theorem dX1_putAllTogether_45 : decode cX1_putAllTogether 45 = .ok (.aload_n 2, 1) := by decide +kernel
theorem dX1_putAllTogether_46 : decode cX1_putAllTogether 46 = .ok (.invokevirtual 88, 3) := by decide +kernel
theorem dX1_putAllTogether_49 : decode cX1_putAllTogether 49 = .ok (.iinc 1 1, 3) := by decide +kernel
theorem dX1_putAllTogether_52 : decode cX1_putAllTogether 52 = .ok (.goto (-50), 3) := by decide +kernel
theorem dX1_putAllTogether_55 : decode cX1_putAllTogether 55 = .ok (.return_, 1) := by decide +kernel
theorem dX1_takeApart_0 : decode cX1_takeApart 0 = .ok (.aload_n 1, 1) := by decide +kernel
theorem dX1_takeApart_1 : decode cX1_takeApart 1 = .ok (.getfield 78, 3) := by decide +kernel
theorem dX1_takeApart_4 : decode cX1_takeApart 4 = .ok (.bipush 7, 2) := by decide +kernel
theorem dX1_takeApart_6 : decode cX1_takeApart 6 = .ok (.if_icmp .ne 28, 3) := by decide +kernel
theorem dX1_takeApart_9 : decode cX1_takeApart 9 = .ok (.iconst 0, 1) := by decide +kernel
theorem dX1_takeApart_10 : decode cX1_takeApart 10 = .ok (.istore_n 2, 1) := by decide +kernel
theorem dX1_takeApart_11 : decode cX1_takeApart 11 = .ok (.iload_n 2, 1) := by decide +kernel
theorem dX1_takeApart_12 : decode cX1_takeApart 12 = .ok (.iconst 4, 1) := by decide +kernel
theorem dX1_takeApart_13 : decode cX1_takeApart 13 = .ok (.if_icmp .ge 18, 3) := by decide +kernel
theorem dX1_takeApart_16 : decode cX1_takeApart 16 = .ok (.aload_n 0, 1) := by decide +kernel
theorem dX1_takeApart_17 : decode cX1_takeApart 17 = .ok (.aload_n 1, 1) := by decide +kernel
theorem dX1_takeApart_18 : decode cX1_takeApart 18 = .ok (.iload_n 2, 1) := by decide +kernel
theorem dX1_takeApart_19 : decode cX1_takeApart 19 = .ok (.invokevirtual 45, 3) := by decide +kernel
theorem dX1_takeApart_22 : decode cX1_takeApart 22 = .ok (.invokevirtual 88, 3) := by decide +kernel
theorem dX1_takeApart_25 : decode cX1_takeApart 25 = .ok (.iinc 2 1, 3) := by decide +kernel
theorem dX1_takeApart_28 : decode cX1_takeApart 28 = .ok (.goto (-17), 3) := by decide +kernel
theorem dX1_takeApart_31 : decode cX1_takeApart 31 = .ok (.goto 58, 3) := by decide +kernel
theorem dX1_takeApart_34 : decode cX1_takeApart 34 = .ok (.aload_n 1, 1) := by decide +kernel
theorem dX1_takeApart_35 : decode cX1_takeApart 35 = .ok (.getfield 78, 3) := by decide +kernel
theorem dX1_takeApart_38 : decode cX1_takeApart 38 = .ok (.iconst 5, 1) := by decide +kernel
theorem dX1_takeApart_39 : decode cX1_takeApart 39 = .ok (.if_icmp .ne 32, 3) := by decide +kernel
theorem dX1_takeApart_42 : decode cX1_takeApart 42 = .ok (.aload_n 0, 1) := by decide +kernel
theorem dX1_takeApart_43 : decode cX1_takeApart 43 = .ok (.aload_n 1, 1) := by decide +kernel
theorem dX1_takeApart_44 : decode cX1_takeApart 44 = .ok (.iconst 1, 1) := by decide +kernel
theorem dX1_takeApart_45 : decode cX1_takeApart 45 = .ok (.invokevirtual 45, 3) := by decide +kernel
theorem dX1_takeApart_48 : decode cX1_takeApart 48 = .ok (.invokevirtual 88, 3) := by decide +kernel
theorem dX1_takeApart_51 : decode cX1_takeApart 51 = .ok (.aload_n 1, 1) := by decide +kernel
theorem dX1_takeApart_52 : decode cX1_takeApart 52 = .ok (.iconst 0, 1) := by decide +kernel
theorem dX1_takeApart_53 : decode cX1_takeApart 53 = .ok (.invokevirtual 150, 3) := by decide +kernel
theorem dX1_takeApart_56 : decode cX1_takeApart 56 = .ok (.ifCond .eq 33, 3) := by decide +kernel
theorem dX1_takeApart_59 : decode cX1_takeApart 59 = .ok (.aload_n 0, 1) := by decide +kernel
theorem dX1_takeApart_60 : decode cX1_takeApart 60 = .ok (.aload_n 1, 1) := by decide +kernel
theorem dX1_takeApart_61 : decode cX1_takeApart 61 = .ok (.iconst 2, 1) := by decide +kernel
theorem dX1_takeApart_62 : decode cX1_takeApart 62 = .ok (.invokevirtual 45, 3) := by decide +kernel
theorem dX1_takeApart_65 : decode cX1_takeApart 65 = .ok (.invokevirtual 88, 3) := by decide +kernel
theorem dX1_takeApart_68 : decode cX1_takeApart 68 = .ok (.goto 21, 3) := by decide +kernel
theorem dX1_takeApart_71 : decode cX1_takeApart 71 = .ok (.aload_n 1, 1) := by decide +kernel
theorem dX1_takeApart_72 : decode cX1_takeApart 72 = .ok (.getfield 78, 3) := by decide +kernel
theorem dX1_takeApart_75 : decode cX1_takeApart 75 = .ok (.bipush 6, 2) := by decide +kernel
theorem dX1_takeApart_77 : decode cX1_takeApart 77 = .ok (.if_icmp .ne 12, 3) := by decide +kernel
theorem dX1_takeApart_80 : decode cX1_takeApart 80 = .ok (.aload_n 0, 1) := by decide +kernel
theorem dX1_takeApart_81 : decode cX1_takeApart 81 = .ok (.aload_n 1, 1) := by decide +kernel
theorem dX1_takeApart_82 : decode cX1_takeApart 82 = .ok (.iconst 1, 1) := by decide +kernel
theorem dX1_takeApart_83 : decode cX1_takeApart 83 = .ok (.invokevirtual 45, 3) := by decide +kernel
theorem dX1_takeApart_86 : decode cX1_takeApart 86 = .ok (.invokevirtual 88, 3) := by decide +kernel
theorem dX1_takeApart_89 : decode cX1_takeApart 89 = .ok (.return_, 1) := by decide +kernel
theorem dX1_hasGoodNumbers_0 : decode cX1_hasGoodNumbers 0 = .ok (.iconst 0, 1) := by decide +kernel
theorem dX1_hasGoodNumbers_1 : decode cX1_hasGoodNumbers 1 = .ok (.istore_n 1, 1) := by decide +kernel
theorem dX1_hasGoodNumbers_2 : decode cX1_hasGoodNumbers 2 = .ok (.iload_n 1, 1) := by decide +kernel
theorem dX1_hasGoodNumbers_3 : decode cX1_hasGoodNumbers 3 = .ok (.iconst 4, 1) := by decide +kernel
theorem dX1_hasGoodNumbers_4 : decode cX1_hasGoodNumbers 4 = .ok (.if_icmp .ge 66, 3) := by decide +kernel
theorem dX1_hasGoodNumbers_7 : decode cX1_hasGoodNumbers 7 = .ok (.aload_n 0, 1) := by decide +kernel
theorem dX1_hasGoodNumbers_8 : decode cX1_hasGoodNumbers 8 = .ok (.getfield 102, 3) := by decide +kernel
theorem dX1_hasGoodNumbers_11 : decode cX1_hasGoodNumbers 11 = .ok (.iload_n 1, 1) := by decide +kernel
theorem dX1_hasGoodNumbers_12 : decode cX1_hasGoodNumbers 12 = .ok (.invokestatic 153, 3) := by decide +kernel
theorem dX1_hasGoodNumbers_15 : decode cX1_hasGoodNumbers 15 = .ok (.istore_n 2, 1) := by decide +kernel
theorem dX1_hasGoodNumbers_16 : decode cX1_hasGoodNumbers 16 = .ok (.iload_n 2, 1) := by decide +kernel
theorem dX1_hasGoodNumbers_17 : decode cX1_hasGoodNumbers 17 = .ok (.ifCond .lt 19, 3) := by decide +kernel
theorem dX1_hasGoodNumbers_20 : decode cX1_hasGoodNumbers 20 = .ok (.iload_n 2, 1) := by decide +kernel
theorem dX1_hasGoodNumbers_21 : decode cX1_hasGoodNumbers 21 = .ok (.getstatic 156, 3) := by decide +kernel
theorem dX1_hasGoodNumbers_24 : decode cX1_hasGoodNumbers 24 = .ok (.arraylength, 1) := by decide +kernel
theorem dX1_hasGoodNumbers_25 : decode cX1_hasGoodNumbers 25 = .ok (.if_icmp .ge 11, 3) := by decide +kernel
theorem dX1_hasGoodNumbers_28 : decode cX1_hasGoodNumbers 28 = .ok (.iload_n 2, 1) := by decide +kernel
theorem dX1_hasGoodNumbers_29 : decode cX1_hasGoodNumbers 29 = .ok (.getstatic 159, 3) := by decide +kernel
theorem dX1_hasGoodNumbers_32 : decode cX1_hasGoodNumbers 32 = .ok (.arraylength, 1) := by decide +kernel
theorem dX1_hasGoodNumbers_33 : decode cX1_hasGoodNumbers 33 = .ok (.if_icmp .lt 5, 3) := by decide +kernel
theorem dX1_hasGoodNumbers_36 : decode cX1_hasGoodNumbers 36 = .ok (.iconst 0, 1) := by decide +kernel
theorem dX1_hasGoodNumbers_37 : decode cX1_hasGoodNumbers 37 = .ok (.ireturn, 1) := by decide +kernel
theorem dX1_hasGoodNumbers_38 : decode cX1_hasGoodNumbers 38 = .ok (.aload_n 0, 1) := by decide +kernel
theorem dX1_hasGoodNumbers_39 : decode cX1_hasGoodNumbers 39 = .ok (.iload_n 1, 1) := by decide +kernel
theorem dX1_hasGoodNumbers_40 : decode cX1_hasGoodNumbers 40 = .ok (.invokevirtual 105, 3) := by decide +kernel
theorem dX1_hasGoodNumbers_43 : decode cX1_hasGoodNumbers 43 = .ok (.istore_n 3, 1) := by decide +kernel
theorem dX1_hasGoodNumbers_44 : decode cX1_hasGoodNumbers 44 = .ok (.iload_n 3, 1) := by decide +kernel
theorem dX1_hasGoodNumbers_45 : decode cX1_hasGoodNumbers 45 = .ok (.getstatic 156, 3) := by decide +kernel
theorem dX1_hasGoodNumbers_48 : decode cX1_hasGoodNumbers 48 = .ok (.iload_n 2, 1) := by decide +kernel
theorem dX1_hasGoodNumbers_49 : decode cX1_hasGoodNumbers 49 = .ok (.iaload, 1) := by decide +kernel
theorem dX1_hasGoodNumbers_50 : decode cX1_hasGoodNumbers 50 = .ok (.if_icmp .lt 12, 3) := by decide +kernel
theorem dX1_hasGoodNumbers_53 : decode cX1_hasGoodNumbers 53 = .ok (.iload_n 3, 1) := by decide +kernel
theorem dX1_hasGoodNumbers_54 : decode cX1_hasGoodNumbers 54 = .ok (.getstatic 159, 3) := by decide +kernel
theorem dX1_hasGoodNumbers_57 : decode cX1_hasGoodNumbers 57 = .ok (.iload_n 2, 1) := by decide +kernel
theorem dX1_hasGoodNumbers_58 : decode cX1_hasGoodNumbers 58 = .ok (.iaload, 1) := by decide +kernel
theorem dX1_hasGoodNumbers_59 : decode cX1_hasGoodNumbers 59 = .ok (.if_icmp .le 5, 3) := by decide +kernel
theorem dX1_hasGoodNumbers_62 : decode cX1_hasGoodNumbers 62 = .ok (.iconst 0, 1) := by decide +kernel
theorem dX1_hasGoodNumbers_63 : decode cX1_hasGoodNumbers 63 = .ok (.ireturn, 1) := by decide +kernel
theorem dX1_hasGoodNumbers_64 : decode cX1_hasGoodNumbers 64 = .ok (.iinc 1 1, 3) := by decide +kernel
theorem dX1_hasGoodNumbers_67 : decode cX1_hasGoodNumbers 67 = .ok (.goto (-65), 3) := by decide +kernel
theorem dX1_hasGoodNumbers_70 : decode cX1_hasGoodNumbers 70 = .ok (.iconst 1, 1) := by decide +kernel
theorem dX1_hasGoodNumbers_71 : decode cX1_hasGoodNumbers 71 = .ok (.ireturn, 1) := by decide +kernel
theorem dX1_hasGoodTerms_0 : decode cX1_hasGoodTerms 0 = .ok (.iconst 0, 1) := by decide +kernel
theorem dX1_hasGoodTerms_1 : decode cX1_hasGoodTerms 1 = .ok (.istore_n 1, 1) := by decide +kernel
theorem dX1_hasGoodTerms_2 : decode cX1_hasGoodTerms 2 = .ok (.iconst 0, 1) := by decide +kernel
theorem dX1_hasGoodTerms_3 : decode cX1_hasGoodTerms 3 = .ok (.istore_n 2, 1) := by decide +kernel
theorem dX1_hasGoodTerms_4 : decode cX1_hasGoodTerms 4 = .ok (.iload_n 2, 1) := by decide +kernel
theorem dX1_hasGoodTerms_5 : decode cX1_hasGoodTerms 5 = .ok (.iconst 4, 1) := by decide +kernel
theorem dX1_hasGoodTerms_6 : decode cX1_hasGoodTerms 6 = .ok (.if_icmp .ge 74, 3) := by decide +kernel
theorem dX1_hasGoodTerms_9 : decode cX1_hasGoodTerms 9 = .ok (.aload_n 0, 1) := by decide +kernel
theorem dX1_hasGoodTerms_10 : decode cX1_hasGoodTerms 10 = .ok (.getfield 102, 3) := by decide +kernel
theorem dX1_hasGoodTerms_13 : decode cX1_hasGoodTerms 13 = .ok (.iload_n 2, 1) := by decide +kernel
theorem dX1_hasGoodTerms_14 : decode cX1_hasGoodTerms 14 = .ok (.invokestatic 153, 3) := by decide +kernel
theorem dX1_hasGoodTerms_17 : decode cX1_hasGoodTerms 17 = .ok (.istore_n 3, 1) := by decide +kernel
theorem dX1_hasGoodTerms_18 : decode cX1_hasGoodTerms 18 = .ok (.iload_n 3, 1) := by decide +kernel
theorem dX1_hasGoodTerms_19 : decode cX1_hasGoodTerms 19 = .ok (.ifCond .lt 11, 3) := by decide +kernel
theorem dX1_hasGoodTerms_22 : decode cX1_hasGoodTerms 22 = .ok (.iload_n 3, 1) := by decide +kernel
theorem dX1_hasGoodTerms_23 : decode cX1_hasGoodTerms 23 = .ok (.getstatic 162, 3) := by decide +kernel
theorem dX1_hasGoodTerms_26 : decode cX1_hasGoodTerms 26 = .ok (.arraylength, 1) := by decide +kernel
theorem dX1_hasGoodTerms_27 : decode cX1_hasGoodTerms 27 = .ok (.if_icmp .lt 5, 3) := by decide +kernel
theorem dX1_hasGoodTerms_30 : decode cX1_hasGoodTerms 30 = .ok (.iconst 0, 1) := by decide +kernel
theorem dX1_hasGoodTerms_31 : decode cX1_hasGoodTerms 31 = .ok (.ireturn, 1) := by decide +kernel
theorem dX1_hasGoodTerms_32 : decode cX1_hasGoodTerms 32 = .ok (.aload_n 0, 1) := by decide +kernel
theorem dX1_hasGoodTerms_33 : decode cX1_hasGoodTerms 33 = .ok (.iload_n 2, 1) := by decide +kernel
theorem dX1_hasGoodTerms_34 : decode cX1_hasGoodTerms 34 = .ok (.invokevirtual 45, 3) := by decide +kernel
theorem dX1_hasGoodTerms_37 : decode cX1_hasGoodTerms 37 = .ok (.astore 4, 2) := by decide +kernel
theorem dX1_hasGoodTerms_39 : decode cX1_hasGoodTerms 39 = .ok (.aload 4, 2) := by decide +kernel
theorem dX1_hasGoodTerms_41 : decode cX1_hasGoodTerms 41 = .ok (.getstatic 162, 3) := by decide +kernel
theorem dX1_hasGoodTerms_44 : decode cX1_hasGoodTerms 44 = .ok (.iload_n 3, 1) := by decide +kernel
theorem dX1_hasGoodTerms_45 : decode cX1_hasGoodTerms 45 = .ok (.iaload, 1) := by decide +kernel
theorem dX1_hasGoodTerms_46 : decode cX1_hasGoodTerms 46 = .ok (.invokestatic 165, 3) := by decide +kernel
theorem dX1_hasGoodTerms_49 : decode cX1_hasGoodTerms 49 = .ok (.ifCond .eq 12, 3) := by decide +kernel
theorem dX1_hasGoodTerms_52 : decode cX1_hasGoodTerms 52 = .ok (.iload_n 1, 1) := by decide +kernel
theorem dX1_hasGoodTerms_53 : decode cX1_hasGoodTerms 53 = .ok (.ifCond .eq 10, 3) := by decide +kernel
theorem dX1_hasGoodTerms_56 : decode cX1_hasGoodTerms 56 = .ok (.aload 4, 2) := by decide +kernel
theorem dX1_hasGoodTerms_58 : decode cX1_hasGoodTerms 58 = .ok (.ifnull 5, 3) := by decide +kernel
theorem dX1_hasGoodTerms_61 : decode cX1_hasGoodTerms 61 = .ok (.iconst 0, 1) := by decide +kernel
theorem dX1_hasGoodTerms_62 : decode cX1_hasGoodTerms 62 = .ok (.ireturn, 1) := by decide +kernel
theorem dX1_hasGoodTerms_63 : decode cX1_hasGoodTerms 63 = .ok (.aload 4, 2) := by decide +kernel
theorem dX1_hasGoodTerms_65 : decode cX1_hasGoodTerms 65 = .ok (.ifnonnull 7, 3) := by decide +kernel
theorem dX1_hasGoodTerms_68 : decode cX1_hasGoodTerms 68 = .ok (.iconst 1, 1) := by decide +kernel
theorem dX1_hasGoodTerms_69 : decode cX1_hasGoodTerms 69 = .ok (.goto 4, 3) := by decide +kernel
theorem dX1_hasGoodTerms_72 : decode cX1_hasGoodTerms 72 = .ok (.iconst 0, 1) := by decide +kernel
theorem dX1_hasGoodTerms_73 : decode cX1_hasGoodTerms 73 = .ok (.istore_n 1, 1) := by decide +kernel
theorem dX1_hasGoodTerms_74 : decode cX1_hasGoodTerms 74 = .ok (.iinc 2 1, 3) := by decide +kernel
theorem dX1_hasGoodTerms_77 : decode cX1_hasGoodTerms 77 = .ok (.goto (-73), 3) := by decide +kernel
theorem dX1_hasGoodTerms_80 : decode cX1_hasGoodTerms 80 = .ok (.iconst 1, 1) := by decide +kernel
theorem dX1_hasGoodTerms_81 : decode cX1_hasGoodTerms 81 = .ok (.ireturn, 1) := by decide +kernel
theorem dX1_placeInTable_0 : decode cX1_placeInTable 0 = .ok (.iload_n 0, 1) := by decide +kernel
theorem dX1_placeInTable_1 : decode cX1_placeInTable 1 = .ok (.iconst 1, 1) := by decide +kernel
theorem dX1_placeInTable_2 : decode cX1_placeInTable 2 = .ok (.isub, 1) := by decide +kernel
theorem dX1_placeInTable_3 : decode cX1_placeInTable 3 = .ok (.iconst 4, 1) := by decide +kernel
theorem dX1_placeInTable_4 : decode cX1_placeInTable 4 = .ok (.imul, 1) := by decide +kernel
theorem dX1_placeInTable_5 : decode cX1_placeInTable 5 = .ok (.iload_n 1, 1) := by decide +kernel
theorem dX1_placeInTable_6 : decode cX1_placeInTable 6 = .ok (.iadd, 1) := by decide +kernel
theorem dX1_placeInTable_7 : decode cX1_placeInTable 7 = .ok (.ireturn, 1) := by decide +kernel
theorem dX1_fits_0 : decode cX1_fits 0 = .ok (.aload_n 0, 1) := by decide +kernel
theorem dX1_fits_1 : decode cX1_fits 1 = .ok (.ifnonnull 18, 3) := by decide +kernel
theorem dX1_fits_4 : decode cX1_fits 4 = .ok (.iload_n 1, 1) := by decide +kernel
theorem dX1_fits_5 : decode cX1_fits 5 = .ok (.ifCond .eq 8, 3) := by decide +kernel
theorem dX1_fits_8 : decode cX1_fits 8 = .ok (.iload_n 1, 1) := by decide +kernel
theorem dX1_fits_9 : decode cX1_fits 9 = .ok (.iconst 3, 1) := by decide +kernel
theorem dX1_fits_10 : decode cX1_fits 10 = .ok (.if_icmp .ne 7, 3) := by decide +kernel
theorem dX1_fits_13 : decode cX1_fits 13 = .ok (.iconst 1, 1) := by decide +kernel
theorem dX1_fits_14 : decode cX1_fits 14 = .ok (.goto 4, 3) := by decide +kernel
theorem dX1_fits_17 : decode cX1_fits 17 = .ok (.iconst 0, 1) := by decide +kernel
theorem dX1_fits_18 : decode cX1_fits 18 = .ok (.ireturn, 1) := by decide +kernel
theorem dX1_fits_19 : decode cX1_fits 19 = .ok (.iload_n 1, 1) := by decide +kernel
theorem dX1_fits_20 : decode cX1_fits 20 = .ok (.iconst 1, 1) := by decide +kernel
theorem dX1_fits_21 : decode cX1_fits 21 = .ok (.if_icmp .eq 15, 3) := by decide +kernel
theorem dX1_fits_24 : decode cX1_fits 24 = .ok (.iload_n 1, 1) := by decide +kernel
theorem dX1_fits_25 : decode cX1_fits 25 = .ok (.ifCond .eq 15, 3) := by decide +kernel
theorem dX1_fits_28 : decode cX1_fits 28 = .ok (.aload_n 0, 1) := by decide +kernel
theorem dX1_fits_29 : decode cX1_fits 29 = .ok (.getfield 78, 3) := by decide +kernel
theorem dX1_fits_32 : decode cX1_fits 32 = .ok (.iconst 2, 1) := by decide +kernel
theorem dX1_fits_33 : decode cX1_fits 33 = .ok (.if_icmp .ne 7, 3) := by decide +kernel
theorem dX1_fits_36 : decode cX1_fits 36 = .ok (.iconst 1, 1) := by decide +kernel
theorem dX1_fits_37 : decode cX1_fits 37 = .ok (.goto 4, 3) := by decide +kernel
theorem dX1_fits_40 : decode cX1_fits 40 = .ok (.iconst 0, 1) := by decide +kernel
theorem dX1_fits_41 : decode cX1_fits 41 = .ok (.ireturn, 1) := by decide +kernel
